def sumB (x : Nat) : Nat → Nat
  | 0 => 0
  | k + 1 => sumB x k + (if x.testBit k = true then 1 else 0)
theorem sumB_7 : ∀ x, x < 128 → sumB x 7 = pcn x := by decide +kernel
theorem sumB_G {x G : Nat} (h : x < 2 ^ G) : ∀ d, sumB x (G + d) = sumB x G := by
  intro d
  induction d with
  | zero => rfl
  | succ d ih =>
    show sumB x (G + d + 1) = _
    have hb : x.testBit (G + d) = false := Nat.testBit_lt_two_pow (Nat.lt_of_lt_of_le h (Nat.pow_le_pow_right (by omega) (by omega)))
    rw [sumB, ih, hb]; rfl
def ciN (N : mN) : Nat → Nat
  | 0 => 0
  | d + 1 => ciN N d + (if (N 0 4).testBit (N 0 2 - (d + 1)) = true then 1 else 0)
theorem ci_sum {N : mN} : ∀ d, d ≤ N 0 2 → ciN N d + sumB (N 0 4) (N 0 2 - d) = sumB (N 0 4) (N 0 2) := by
  intro d
  induction d with
  | zero => intro _; show 0 + _ = _; rw [Nat.zero_add]; rfl
  | succ d ih =>
    intro h
    have := ih (by omega)
    obtain ⟨k, hk⟩ : ∃ k, N 0 2 - d = k + 1 := ⟨N 0 2 - d - 1, by omega⟩
    rw [hk, sumB] at this
    unfold ciN
    rw [show N 0 2 - (d + 1) = k by omega]
    omega
theorem ci_all {N : mN} (hN : NOk N) : ciN N (N 0 2) = pcn (N 0 4) := by
  have h := ci_sum (N := N) (N 0 2) (Nat.le_refl _)
  rw [Nat.sub_self] at h
  have e0 : sumB (N 0 4) 0 = 0 := rfl
  have h7 := sumB_G hN.2.2.2.2.1 (7 - N 0 2)
  have hG := hN.2.2.1
  rw [show N 0 2 + (7 - N 0 2) = 7 by omega, sumB_7 _ hN.i] at h7
  omega
theorem omn_n {x y : Option Nat} : omn x y ≠ none ↔ x ≠ none ∨ y ≠ none := by
  cases x <;> cases y <;> simp [omn]
theorem lsC_1 {N : mN} {tg : Bool} {L : Nat → Option Nat} {g s : Nat} (h : L s ≠ none) : ∀ c, lsC N tg L g s c ≠ none := by
  intro c
  induction c with
  | zero => exact h
  | succ c ih =>
    unfold lsC
    split
    · exact omn_n.mpr (Or.inl ih)
    · exact ih
theorem lsC_2 {N : mN} {tg : Bool} {L : Nat → Option Nat} {g s c0 : Nat} (hb : (N 0 4).testBit g = true) (hf : fre (N 0 3) s c0 = true) (h : L (s ||| 2 ^ c0) ≠ none) : ∀ c, c0 < c → lsC N tg L g s c ≠ none := by
  intro c
  induction c with
  | zero => intro hc; omega
  | succ c ih =>
    intro hc
    unfold lsC
    by_cases e : c = c0
    · subst e
      rw [if_pos ⟨hb, hf⟩]
      refine omn_n.mpr (Or.inr ?_)
      unfold jn
      intro z
      rw [Option.map_eq_none_iff] at z
      exact h z
    · split
      · exact omn_n.mpr (Or.inl (ih (by omega)))
      · exact ih (by omega)
theorem pcn_or : ∀ s, s < 64 → ∀ c, c < 6 → s.testBit c = false → pcn (s ||| 2 ^ c) = pcn s + 1 := by decide +kernel
theorem sub_or {s t c : Nat} (h : subb s t) (hc : t.testBit c = true) : subb (s ||| 2 ^ c) t := by
  intro j hj
  rw [Nat.testBit_or, Nat.testBit_two_pow] at hj
  by_cases e : c = j
  · subst e; exact hc
  · simp [e] at hj; exact h j hj
theorem fre_t {t s c : Nat} (h : fre t s c = true) : t.testBit c = true ∧ s.testBit c = false := by
  unfold fre at h
  cases a : t.testBit c <;> cases b : s.testBit c <;> rw [a, b] at h <;> first | exact ⟨rfl, rfl⟩ | cases h
theorem lsG_n {N : mN} {tg : Bool} (hN : NOk N) : ∀ d s, d ≤ N 0 2 → subb s (N 0 3) → pcn s ≤ mstN N → mstN N ≤ pcn s + ciN N d → lsG N tg d s ≠ none := by
  intro d
  induction d with
  | zero =>
    intro s _ _ h1 h2
    have h2' : mstN N ≤ pcn s + 0 := h2
    unfold lsG
    rw [if_pos (by omega)]
    simp
  | succ d ih =>
    intro s hd hs h1 h2
    unfold lsG
    by_cases hc : mstN N ≤ pcn s + ciN N d
    · exact lsC_1 (ih s (by omega) hs h1 hc) _
    · unfold ciN at h2
      have hb : (N 0 4).testBit (N 0 2 - (d + 1)) = true := by
        by_cases e : (N 0 4).testBit (N 0 2 - (d + 1)) = true
        · exact e
        · rw [if_neg e] at h2; omega
      rw [if_pos hb] at h2
      have hs64 : s < 64 := Nat.lt_of_lt_of_le (subb_lt hs hN.2.2.2.1) (Nat.pow_le_pow_right (n := 2) (by omega) hN.2.1)
      have hlt : pcn s < pcn (N 0 3) := by unfold mstN at hc; omega
      obtain ⟨c, hfc⟩ : ∃ c, fre (N 0 3) s c = true := by
        apply Classical.byContradiction
        intro hno
        have hall : ∀ j, j < 7 → s.testBit j = (N 0 3).testBit j := by
          intro j _
          cases a : (N 0 3).testBit j
          · cases b : s.testBit j
            · rfl
            · have := hs j b; rw [a] at this; cases this
          · cases b : s.testBit j
            · exact absurd ⟨j, by unfold fre; rw [a, b]; rfl⟩ hno
            · rfl
        have := hN.t
        have e := bits_ext (x := s) (y := N 0 3) (by omega) (by omega) hall
        rw [e] at hlt; omega
      obtain ⟨f1, f2⟩ := fre_t hfc
      have hcC := hN.tb f1
      have hC := hN.2.1
      have hp := pcn_or s hs64 c (by omega) f2
      exact lsC_2 hb hfc (ih _ (by omega) (sub_or hs f1) (by omega) (by omega)) _ hcC
theorem lsG_top {N : mN} {tg : Bool} (hN : NOk N) : lsG N tg (N 0 2) 0 ≠ none := by
  refine lsG_n hN _ 0 (Nat.le_refl _) (fun j hj => by rw [Nat.zero_testBit] at hj; cases hj) (by rw [pcn_0]; omega) ?_
  rw [pcn_0, ci_all hN]; unfold mstN; omega
theorem cE_rE {o : Option Nat} (h : o ≠ none) : cE o = rE o := by
  cases o with
  | none => exact absurd rfl h
  | some v => rfl
theorem k_longest {S : jS} {T : jT} {X : jS} (hT : LayT81 T) (h : INV S T X) : ∃ S1 X1 v, f10_longest T S = some (S1, v) ∧ f11_longest X = some (X1, v) ∧ INV S1 T X1 := by
  obtain ⟨N, hN, hc, hr, -⟩ := h.get
  unfold f10_longest f11_longest
  rw [c_told hN hc, r_told hN hr]
  by_cases z : N 0 0 = 0
  · exact ⟨S, X, -1, by simp [z], by simp [z], h⟩
  · simp only [z, ↓reduceIte, Option.bind_some, not_true_eq_false, not_false_eq_true, and_true, true_and, and_false, false_and, or_false, false_or, or_true, true_or, Bool.false_eq_true, reduceCtorEq, one_ne0]
    obtain ⟨S1, s1, s2, s3⟩ := c_ls (tg := false) hT hN hc
    obtain ⟨X1, x1, x2, x3⟩ := r_ls (tg := false) hN hr
    have s1' : f8_leastTime T S (100 + 8) 0 = some (S1, cE (lsG N false (N 0 2) 0)) := s1
    have x1' : f11_laysLeast X 0 = some (X1, ()) := x1
    have e := x3 0 (by omega) 0 (by omega)
    rw [Nat.sub_zero, ← cE_rE (lsG_top hN)] at e
    have e' : X1.1 47 0 = cE (lsG N false (N 0 2) 0) := e
    refine ⟨S1, X1, _, by rw [s1']; rfl, by rw [x1']; simp only [Option.bind_some, e'], h.q s2 ⟨fun a i u1 u2 => x2 a i (by omega), ⟨fun i hi => x2 1 i (by omega), fun a g u1 u2 hg => x2 a g (by omega)⟩, x2 0 40 (by omega)⟩⟩
/-- which chairs of a guest are of the least time -/
def fcB (N : mN) (L : Nat → Option Nat) (v g s : Nat) : Nat → Bool := fun c => (N 0 4).testBit g && fre (N 0 3) s c && (jn true (tmN N g c) (L (s ||| 2 ^ c)) == some v)
theorem omn_at {x y : Option Nat} {v : Nat} (h : omn x y = some v) : x = some v ∨ y = some v := by
  cases x with
  | none => exact Or.inr h
  | some a => cases y with
    | none => exact Or.inl h
    | some b =>
      have e : min a b = v := by cases h; rfl
      by_cases c : a ≤ b
      · left; rw [← e, Nat.min_eq_left c]
      · right; rw [← e, Nat.min_eq_right (by omega)]
theorem lsC_at {N : mN} {L : Nat → Option Nat} {g s v : Nat} : ∀ c, lsC N true L g s c = some v → L s = some v ∨ ∃ k, k < c ∧ fcB N L v g s k = true := by
  intro c
  induction c with
  | zero => intro h; exact Or.inl h
  | succ c ih =>
    intro h
    unfold lsC at h
    by_cases e : (N 0 4).testBit g = true ∧ fre (N 0 3) s c = true
    · rw [if_pos e] at h
      rcases omn_at h with h1 | h1
      · rcases ih h1 with h2 | ⟨k, k1, k2⟩
        · exact Or.inl h2
        · exact Or.inr ⟨k, by omega, k2⟩
      · refine Or.inr ⟨c, by omega, ?_⟩
        unfold fcB; rw [e.1, e.2, h1]; simp
    · rw [if_neg e] at h
      rcases ih h with h2 | ⟨k, k1, k2⟩
      · exact Or.inl h2
      · exact Or.inr ⟨k, by omega, k2⟩
theorem c_fc {T : jT} {S : jS} {g s v : Nat} {N : mN} {L : Nat → Option Nat} (hT : LayT81 T) (hN : NOk N) (h : HIs (hC S (100 + 8)) N) (hg : g < N 0 2) (hs : s < 64) (hL : ∀ x, x < 64 → S.1 (82 + (g + 1)) x = cE (L x)) (hb : ∀ x, bnd 6 (L x)) (hv : S.1 (82 + g) s = nI v) (hv7 : v ≤ 6720) : f8_firstChair T S (100 + 8) (nI g) (nI s) = some (nI (fiB (fcB N L v g s) (N 0 1)) - 1) := by
  have hG := hN.2.2.1
  have hC' := hN.2.1
  have e1 : S.1 (100 + 8) 1 = nI (N 0 1) := h.1 1 (by omega) (by omega)
  have n8 : g + 1 < 8 := by omega
  have n8' : g < 8 := by omega
  have t8 := hT (g + 1) n8
  have t8' := hT g n8'
  obtain ⟨r, hr, hp⟩ := lp_up (G := N 0 1) (Post := fun r : Int32 => r = nI (fiB (fcB N L v g s) (N 0 1)) - 1) (fun n k (_ : Unit) => f8_firstChair_L1 T S (100 + 8) (nI g) (nI s) n (nI k)) (fun k _ => fiB (fcB N L v g s) k = 0) (by
    intro n k _ hk hI
    show (∃ a', f8_firstChair_L1 T S (100 + 8) (nI g) (nI s) (n + 1) (nI k) = f8_firstChair_L1 T S (100 + 8) (nI g) (nI s) n (nI (k + 1)) ∧ fiB (fcB N L v g s) (k + 1) = 0) ∨ ∃ r, f8_firstChair_L1 T S (100 + 8) (nI g) (nI s) (n + 1) (nI k) = some r ∧ r = nI (fiB (fcB N L v g s) (N 0 1)) - 1
    have n1 : ¬ N 0 1 ≤ k := by omega
    have hin := (c_in hN h).1 g hg
    have hfr := c_free hN h (c := k) (s := s) (by omega) hs
    rw [f8_firstChair_L1]
    by_cases hb1 : (N 0 4).testBit g = true
    · by_cases hf1 : fre (N 0 3) s k = true
      · obtain ⟨o1, o2⟩ := b_or0 s hs k (by omega)
        have ht := c_time hN h hg hk
        have htl := tmN_le hN hg hk
        have hl := hL _ o2
        have key : (nI (tmN N g k) + cE (L (s ||| 2 ^ k)) = nI v) ↔ fcB N L v g s k = true := by
          unfold fcB
          rw [hb1, hf1]
          have hbb := hb (s ||| 2 ^ k)
          cases e : L (s ||| 2 ^ k) with
          | none =>
            have e2 : nI (tmN N g k) + cE none = nI (tmN N g k + 1048576) := nI_add _ 1048576
            rw [e2, nI_eq (by omega) (by omega)]
            simp [jn]; omega
          | some w =>
            have := hbb w e
            have e2 : nI (tmN N g k) + cE (some w) = nI (tmN N g k + w) := nI_add _ w
            rw [e2, nI_eq (by omega) (by omega)]
            simp [jn]
        simp (disch := omega) only [e1, hin, hb1, hfr, hf1, o1, o2, t8, t8', ht, hl, hv, n8, n8', hs, nI_ltI, nI_leI, nI_eq, nI_clamp, nI_1, nI_add, nI_mul, inb_n, irm_n, nI_div, nI_m6, nI_d6, irm_6, qlt_1, qle_1, qgt_1, qge_1, qeq_1, qlt_2, qle_2, qgt_2, qge_2, qeq_2, qlt_3, qle_3, qgt_3, qge_3, qeq_3, qlt_4, qle_4, qgt_4, qge_4, qeq_4, qlt_5, qle_5, qgt_5, qge_5, qeq_5, qlt_6, qle_6, qgt_6, qge_6, qeq_6, qlt_7, qle_7, qgt_7, qge_7, qeq_7, qlt_8, qle_8, qgt_8, qge_8, qeq_8, qlt_9, qle_9, qgt_9, qge_9, qeq_9, qlt_10, qle_10, qgt_10, qge_10, qeq_10, qlt_12, qle_12, qgt_12, qge_12, qeq_12, qlt_16, qle_16, qgt_16, qge_16, qeq_16, qlt_20, qle_20, qgt_20, qge_20, qeq_20, qlt_24, qle_24, qgt_24, qge_24, qeq_24, qlt_30, qle_30, qgt_30, qge_30, qeq_30, qlt_32, qle_32, qgt_32, qge_32, qeq_32, qlt_37, qle_37, qgt_37, qge_37, qeq_37, qlt_40, qle_40, qgt_40, qge_40, qeq_40, qlt_42, qle_42, qgt_42, qge_42, qeq_42, qlt_43, qle_43, qgt_43, qge_43, qeq_43, qlt_45, qle_45, qgt_45, qge_45, qeq_45, qlt_47, qle_47, qgt_47, qge_47, qeq_47, qlt_48, qle_48, qgt_48, qge_48, qeq_48, qlt_57, qle_57, qgt_57, qge_57, qeq_57, qlt_59, qle_59, qgt_59, qge_59, qeq_59, qlt_60, qle_60, qgt_60, qge_60, qeq_60, qlt_61, qle_61, qgt_61, qge_61, qeq_61, qlt_62, qle_62, qgt_62, qge_62, qeq_62, qlt_64, qle_64, qgt_64, qge_64, qeq_64, qlt_91, qle_91, qgt_91, qge_91, qeq_91, qlt_93, qle_93, qgt_93, qge_93, qeq_93, qlt_97, qle_97, qgt_97, qge_97, qeq_97, qlt_122, qle_122, qgt_122, qge_122, qeq_122, qlt_400, qle_400, qgt_400, qge_400, qeq_400, qlt_999, qle_999, qgt_999, qge_999, qeq_999, qlt_0, qle_0, qgt_0, qge_0, qeq_0, qltm, qeqm, ↓reduceIte, Option.bind_some, not_true_eq_false, not_false_eq_true, and_true, true_and, and_false, false_and, or_false, false_or, or_true, true_or, Bool.false_eq_true, reduceCtorEq, n1, one_ne0]
        by_cases hk2 : fcB N L v g s k = true
        · right
          rw [if_pos (key.mpr hk2)]
          refine ⟨nI k, rfl, ?_⟩
          have e5 : fiB (fcB N L v g s) (k + 1) = k + 1 := by rw [fiB, if_pos hI, if_pos hk2]
          have := fi_stay (b := fcB N L v g s) (k := k + 1) (by omega) (N 0 1 - (k + 1))
          rw [show k + 1 + (N 0 1 - (k + 1)) = N 0 1 by omega, e5] at this
          rw [this]; exact (nI_pred k).symm
        · left
          rw [if_neg (fun z => hk2 (key.mp z))]
          exact ⟨(), rfl, by rw [fiB, if_pos hI, if_neg hk2]⟩
      · left
        refine ⟨(), ?_, ?_⟩
        · simp (disch := omega) only [e1, hin, hb1, hfr, hf1, nI_ltI, nI_leI, nI_eq, nI_clamp, nI_1, nI_add, nI_mul, inb_n, irm_n, nI_div, nI_m6, nI_d6, irm_6, qlt_1, qle_1, qgt_1, qge_1, qeq_1, qlt_2, qle_2, qgt_2, qge_2, qeq_2, qlt_3, qle_3, qgt_3, qge_3, qeq_3, qlt_4, qle_4, qgt_4, qge_4, qeq_4, qlt_5, qle_5, qgt_5, qge_5, qeq_5, qlt_6, qle_6, qgt_6, qge_6, qeq_6, qlt_7, qle_7, qgt_7, qge_7, qeq_7, qlt_8, qle_8, qgt_8, qge_8, qeq_8, qlt_9, qle_9, qgt_9, qge_9, qeq_9, qlt_10, qle_10, qgt_10, qge_10, qeq_10, qlt_12, qle_12, qgt_12, qge_12, qeq_12, qlt_16, qle_16, qgt_16, qge_16, qeq_16, qlt_20, qle_20, qgt_20, qge_20, qeq_20, qlt_24, qle_24, qgt_24, qge_24, qeq_24, qlt_30, qle_30, qgt_30, qge_30, qeq_30, qlt_32, qle_32, qgt_32, qge_32, qeq_32, qlt_37, qle_37, qgt_37, qge_37, qeq_37, qlt_40, qle_40, qgt_40, qge_40, qeq_40, qlt_42, qle_42, qgt_42, qge_42, qeq_42, qlt_43, qle_43, qgt_43, qge_43, qeq_43, qlt_45, qle_45, qgt_45, qge_45, qeq_45, qlt_47, qle_47, qgt_47, qge_47, qeq_47, qlt_48, qle_48, qgt_48, qge_48, qeq_48, qlt_57, qle_57, qgt_57, qge_57, qeq_57, qlt_59, qle_59, qgt_59, qge_59, qeq_59, qlt_60, qle_60, qgt_60, qge_60, qeq_60, qlt_61, qle_61, qgt_61, qge_61, qeq_61, qlt_62, qle_62, qgt_62, qge_62, qeq_62, qlt_64, qle_64, qgt_64, qge_64, qeq_64, qlt_91, qle_91, qgt_91, qge_91, qeq_91, qlt_93, qle_93, qgt_93, qge_93, qeq_93, qlt_97, qle_97, qgt_97, qge_97, qeq_97, qlt_122, qle_122, qgt_122, qge_122, qeq_122, qlt_400, qle_400, qgt_400, qge_400, qeq_400, qlt_999, qle_999, qgt_999, qge_999, qeq_999, qlt_0, qle_0, qgt_0, qge_0, qeq_0, qltm, qeqm, ↓reduceIte, Option.bind_some, not_true_eq_false, not_false_eq_true, and_true, true_and, and_false, false_and, or_false, false_or, or_true, true_or, Bool.false_eq_true, reduceCtorEq, n1, one_ne0]
        · rw [fiB, if_pos hI, if_neg]
          unfold fcB; simp [hf1]
    · right
      refine ⟨-1, ?_, ?_⟩
      · simp (disch := omega) only [e1, hin, hb1, nI_ltI, nI_leI, nI_eq, nI_clamp, nI_1, nI_add, nI_mul, inb_n, irm_n, nI_div, nI_m6, nI_d6, irm_6, qlt_1, qle_1, qgt_1, qge_1, qeq_1, qlt_2, qle_2, qgt_2, qge_2, qeq_2, qlt_3, qle_3, qgt_3, qge_3, qeq_3, qlt_4, qle_4, qgt_4, qge_4, qeq_4, qlt_5, qle_5, qgt_5, qge_5, qeq_5, qlt_6, qle_6, qgt_6, qge_6, qeq_6, qlt_7, qle_7, qgt_7, qge_7, qeq_7, qlt_8, qle_8, qgt_8, qge_8, qeq_8, qlt_9, qle_9, qgt_9, qge_9, qeq_9, qlt_10, qle_10, qgt_10, qge_10, qeq_10, qlt_12, qle_12, qgt_12, qge_12, qeq_12, qlt_16, qle_16, qgt_16, qge_16, qeq_16, qlt_20, qle_20, qgt_20, qge_20, qeq_20, qlt_24, qle_24, qgt_24, qge_24, qeq_24, qlt_30, qle_30, qgt_30, qge_30, qeq_30, qlt_32, qle_32, qgt_32, qge_32, qeq_32, qlt_37, qle_37, qgt_37, qge_37, qeq_37, qlt_40, qle_40, qgt_40, qge_40, qeq_40, qlt_42, qle_42, qgt_42, qge_42, qeq_42, qlt_43, qle_43, qgt_43, qge_43, qeq_43, qlt_45, qle_45, qgt_45, qge_45, qeq_45, qlt_47, qle_47, qgt_47, qge_47, qeq_47, qlt_48, qle_48, qgt_48, qge_48, qeq_48, qlt_57, qle_57, qgt_57, qge_57, qeq_57, qlt_59, qle_59, qgt_59, qge_59, qeq_59, qlt_60, qle_60, qgt_60, qge_60, qeq_60, qlt_61, qle_61, qgt_61, qge_61, qeq_61, qlt_62, qle_62, qgt_62, qge_62, qeq_62, qlt_64, qle_64, qgt_64, qge_64, qeq_64, qlt_91, qle_91, qgt_91, qge_91, qeq_91, qlt_93, qle_93, qgt_93, qge_93, qeq_93, qlt_97, qle_97, qgt_97, qge_97, qeq_97, qlt_122, qle_122, qgt_122, qge_122, qeq_122, qlt_400, qle_400, qgt_400, qge_400, qeq_400, qlt_999, qle_999, qgt_999, qge_999, qeq_999, qlt_0, qle_0, qgt_0, qge_0, qeq_0, qltm, qeqm, ↓reduceIte, Option.bind_some, not_true_eq_false, not_false_eq_true, and_true, true_and, and_false, false_and, or_false, false_or, or_true, true_or, Bool.false_eq_true, reduceCtorEq, n1]
      · have hz : ∀ m, fiB (fcB N L v g s) m = 0 := by
          intro m
          induction m with
          | zero => rfl
          | succ m ih =>
            rw [fiB, if_pos ih, if_neg]
            unfold fcB; simp [hb1]
        rw [hz, nI_0m]) (by
    intro n _ hI
    refine ⟨-1, ?_, by rw [hI, nI_0m]⟩
    show f8_firstChair_L1 T S (100 + 8) (nI g) (nI s) (n + 1) (nI (N 0 1)) = _
    rw [f8_firstChair_L1]
    simp (disch := omega) only [e1, nI_ltI, nI_leI, nI_eq, nI_clamp, nI_1, nI_add, nI_mul, inb_n, irm_n, nI_div, nI_m6, nI_d6, irm_6, qlt_1, qle_1, qgt_1, qge_1, qeq_1, qlt_2, qle_2, qgt_2, qge_2, qeq_2, qlt_3, qle_3, qgt_3, qge_3, qeq_3, qlt_4, qle_4, qgt_4, qge_4, qeq_4, qlt_5, qle_5, qgt_5, qge_5, qeq_5, qlt_6, qle_6, qgt_6, qge_6, qeq_6, qlt_7, qle_7, qgt_7, qge_7, qeq_7, qlt_8, qle_8, qgt_8, qge_8, qeq_8, qlt_9, qle_9, qgt_9, qge_9, qeq_9, qlt_10, qle_10, qgt_10, qge_10, qeq_10, qlt_12, qle_12, qgt_12, qge_12, qeq_12, qlt_16, qle_16, qgt_16, qge_16, qeq_16, qlt_20, qle_20, qgt_20, qge_20, qeq_20, qlt_24, qle_24, qgt_24, qge_24, qeq_24, qlt_30, qle_30, qgt_30, qge_30, qeq_30, qlt_32, qle_32, qgt_32, qge_32, qeq_32, qlt_37, qle_37, qgt_37, qge_37, qeq_37, qlt_40, qle_40, qgt_40, qge_40, qeq_40, qlt_42, qle_42, qgt_42, qge_42, qeq_42, qlt_43, qle_43, qgt_43, qge_43, qeq_43, qlt_45, qle_45, qgt_45, qge_45, qeq_45, qlt_47, qle_47, qgt_47, qge_47, qeq_47, qlt_48, qle_48, qgt_48, qge_48, qeq_48, qlt_57, qle_57, qgt_57, qge_57, qeq_57, qlt_59, qle_59, qgt_59, qge_59, qeq_59, qlt_60, qle_60, qgt_60, qge_60, qeq_60, qlt_61, qle_61, qgt_61, qge_61, qeq_61, qlt_62, qle_62, qgt_62, qge_62, qeq_62, qlt_64, qle_64, qgt_64, qge_64, qeq_64, qlt_91, qle_91, qgt_91, qge_91, qeq_91, qlt_93, qle_93, qgt_93, qge_93, qeq_93, qlt_97, qle_97, qgt_97, qge_97, qeq_97, qlt_122, qle_122, qgt_122, qge_122, qeq_122, qlt_400, qle_400, qgt_400, qge_400, qeq_400, qlt_999, qle_999, qgt_999, qge_999, qeq_999, qlt_0, qle_0, qgt_0, qge_0, qeq_0, qltm, qeqm, ↓reduceIte, Option.bind_some, not_true_eq_false, not_false_eq_true, and_true, true_and, and_false, false_and, or_false, false_or, or_true, true_or, Bool.false_eq_true, reduceCtorEq, Nat.le_refl]) jF 0 () (Nat.zero_le _) (by show _ < 5000; omega) rfl
  unfold f8_firstChair
  rw [← hp]; exact hr
theorem r_fc {X : jS} {g s v : Nat} {N : mN} {L : Nat → Option Nat} {l1 : Int32} (hN : NOk N) (h : HIs (hV X.1) N) (hg : g < N 0 2) (hs : s < 64) (hL : ∀ x, x < 64 → X.1 47 (64 * (g + 1) + x) = rE (L x)) (hb : ∀ x, bnd 6 (L x)) (hv7 : v ≤ 6720) : f11_chairBy_L2 X l1 (nI s) (nI g) (nI v) jF (-1) 0 = some (nI (fiB (fcB N L v g s) (N 0 1)) - 1) := by
  have hG := hN.2.2.1
  have hC' := hN.2.1
  have hi := hN.i
  have htt := hN.t
  have e1 := HV1 h
  have e6 := HV4 h
  have e7 := HV3 h
  obtain ⟨r, hr, hp⟩ := lp_up (G := N 0 1) (Post := fun r : Int32 => r = nI (fiB (fcB N L v g s) (N 0 1)) - 1) (fun n k f => f11_chairBy_L2 X l1 (nI s) (nI g) (nI v) n f (nI k)) (fun k f => f = nI (fiB (fcB N L v g s) k) - 1) (by
    intro n k f hk hf
    subst hf
    have n1 : ¬ N 0 1 ≤ k := by omega
    have hfr := r_free (t := N 0 3) (c := k) (s := s) htt (by omega) hs
    have hfl := (cn_le (b := fcB N L v g s) k).2
    by_cases hz : fiB (fcB N L v g s) k = 0
    · rw [hz, nI_0m]
      by_cases hb1 : (N 0 4).testBit g = true
      · left
        show ∃ a', f11_chairBy_L2 X l1 (nI s) (nI g) (nI v) (n + 1) (-1) (nI k) = f11_chairBy_L2 X l1 (nI s) (nI g) (nI v) n a' (nI (k + 1)) ∧ a' = nI (fiB (fcB N L v g s) (k + 1)) - 1
        rw [f11_chairBy_L2]
        by_cases hf1 : fre (N 0 3) s k = true
        · obtain ⟨o1, o2⟩ := b_or0 s hs k (by omega)
          have ht := r_time hN h hg hk
          have htl := tmN_le hN hg hk
          have hl := hL _ o2
          have n5 : 64 * (g + 1) + (s ||| 2 ^ k) < 512 := by omega
          have hbb := hb (s ||| 2 ^ k)
          simp (disch := omega) only [e1, e6, e7, r_has, hb1, hfr, hf1, o1, nI_64m, ht, hl, n5, nI_ltI, nI_leI, nI_eq, nI_clamp, nI_1, nI_add, nI_mul, inb_n, irm_n, nI_div, nI_m6, nI_d6, irm_6, qlt_1, qle_1, qgt_1, qge_1, qeq_1, qlt_2, qle_2, qgt_2, qge_2, qeq_2, qlt_3, qle_3, qgt_3, qge_3, qeq_3, qlt_4, qle_4, qgt_4, qge_4, qeq_4, qlt_5, qle_5, qgt_5, qge_5, qeq_5, qlt_6, qle_6, qgt_6, qge_6, qeq_6, qlt_7, qle_7, qgt_7, qge_7, qeq_7, qlt_8, qle_8, qgt_8, qge_8, qeq_8, qlt_9, qle_9, qgt_9, qge_9, qeq_9, qlt_10, qle_10, qgt_10, qge_10, qeq_10, qlt_12, qle_12, qgt_12, qge_12, qeq_12, qlt_16, qle_16, qgt_16, qge_16, qeq_16, qlt_20, qle_20, qgt_20, qge_20, qeq_20, qlt_24, qle_24, qgt_24, qge_24, qeq_24, qlt_30, qle_30, qgt_30, qge_30, qeq_30, qlt_32, qle_32, qgt_32, qge_32, qeq_32, qlt_37, qle_37, qgt_37, qge_37, qeq_37, qlt_40, qle_40, qgt_40, qge_40, qeq_40, qlt_42, qle_42, qgt_42, qge_42, qeq_42, qlt_43, qle_43, qgt_43, qge_43, qeq_43, qlt_45, qle_45, qgt_45, qge_45, qeq_45, qlt_47, qle_47, qgt_47, qge_47, qeq_47, qlt_48, qle_48, qgt_48, qge_48, qeq_48, qlt_57, qle_57, qgt_57, qge_57, qeq_57, qlt_59, qle_59, qgt_59, qge_59, qeq_59, qlt_60, qle_60, qgt_60, qge_60, qeq_60, qlt_61, qle_61, qgt_61, qge_61, qeq_61, qlt_62, qle_62, qgt_62, qge_62, qeq_62, qlt_64, qle_64, qgt_64, qge_64, qeq_64, qlt_91, qle_91, qgt_91, qge_91, qeq_91, qlt_93, qle_93, qgt_93, qge_93, qeq_93, qlt_97, qle_97, qgt_97, qge_97, qeq_97, qlt_122, qle_122, qgt_122, qge_122, qeq_122, qlt_400, qle_400, qgt_400, qge_400, qeq_400, qlt_999, qle_999, qgt_999, qge_999, qeq_999, qlt_0, qle_0, qgt_0, qge_0, qeq_0, qltm, qeqm, ↓reduceIte, Option.bind_some, not_true_eq_false, not_false_eq_true, and_true, true_and, and_false, false_and, or_false, false_or, or_true, true_or, Bool.false_eq_true, reduceCtorEq, n1, one_ne0]
          cases e : L (s ||| 2 ^ k) with
          | none =>
            have hk2 : ¬ fcB N L v g s k = true := by unfold fcB; rw [e]; simp [jn]
            rw [if_pos (show (99999 : Int32) ≤ rE none by decide)]
            refine ⟨-1, rfl, ?_⟩
            rw [fiB, if_pos hz, if_neg hk2, nI_0m]
          | some w =>
            have := hbb w e
            have e2 : nI (tmN N g k) + rE (some w) = nI (tmN N g k + w) := nI_add _ w
            have n6 : ¬ (99999 : Int32) ≤ rE (some w) := by
              show ¬ nI 99999 ≤ nI w
              exact nI_ge (by omega) (by omega)
            rw [if_neg n6, e2]
            by_cases hk2 : tmN N g k + w = v
            · have hk3 : fcB N L v g s k = true := by unfold fcB; rw [hb1, hf1, e]; simp [jn, hk2]
              refine ⟨nI k, ?_, ?_⟩
              · simp (disch := omega) only [nI_ltI, nI_leI, nI_eq, nI_clamp, nI_1, nI_add, nI_mul, inb_n, irm_n, nI_div, nI_m6, nI_d6, irm_6, qlt_1, qle_1, qgt_1, qge_1, qeq_1, qlt_2, qle_2, qgt_2, qge_2, qeq_2, qlt_3, qle_3, qgt_3, qge_3, qeq_3, qlt_4, qle_4, qgt_4, qge_4, qeq_4, qlt_5, qle_5, qgt_5, qge_5, qeq_5, qlt_6, qle_6, qgt_6, qge_6, qeq_6, qlt_7, qle_7, qgt_7, qge_7, qeq_7, qlt_8, qle_8, qgt_8, qge_8, qeq_8, qlt_9, qle_9, qgt_9, qge_9, qeq_9, qlt_10, qle_10, qgt_10, qge_10, qeq_10, qlt_12, qle_12, qgt_12, qge_12, qeq_12, qlt_16, qle_16, qgt_16, qge_16, qeq_16, qlt_20, qle_20, qgt_20, qge_20, qeq_20, qlt_24, qle_24, qgt_24, qge_24, qeq_24, qlt_30, qle_30, qgt_30, qge_30, qeq_30, qlt_32, qle_32, qgt_32, qge_32, qeq_32, qlt_37, qle_37, qgt_37, qge_37, qeq_37, qlt_40, qle_40, qgt_40, qge_40, qeq_40, qlt_42, qle_42, qgt_42, qge_42, qeq_42, qlt_43, qle_43, qgt_43, qge_43, qeq_43, qlt_45, qle_45, qgt_45, qge_45, qeq_45, qlt_47, qle_47, qgt_47, qge_47, qeq_47, qlt_48, qle_48, qgt_48, qge_48, qeq_48, qlt_57, qle_57, qgt_57, qge_57, qeq_57, qlt_59, qle_59, qgt_59, qge_59, qeq_59, qlt_60, qle_60, qgt_60, qge_60, qeq_60, qlt_61, qle_61, qgt_61, qge_61, qeq_61, qlt_62, qle_62, qgt_62, qge_62, qeq_62, qlt_64, qle_64, qgt_64, qge_64, qeq_64, qlt_91, qle_91, qgt_91, qge_91, qeq_91, qlt_93, qle_93, qgt_93, qge_93, qeq_93, qlt_97, qle_97, qgt_97, qge_97, qeq_97, qlt_122, qle_122, qgt_122, qge_122, qeq_122, qlt_400, qle_400, qgt_400, qge_400, qeq_400, qlt_999, qle_999, qgt_999, qge_999, qeq_999, qlt_0, qle_0, qgt_0, qge_0, qeq_0, qltm, qeqm, ↓reduceIte, Option.bind_some, not_true_eq_false, not_false_eq_true, and_true, true_and, and_false, false_and, or_false, false_or, or_true, true_or, Bool.false_eq_true, reduceCtorEq, hk2]
              · rw [fiB, if_pos hz, if_pos hk3]; exact (nI_pred k).symm
            · have hk3 : ¬ fcB N L v g s k = true := by unfold fcB; rw [hb1, hf1, e]; simp [jn, hk2]
              refine ⟨-1, ?_, ?_⟩
              · simp (disch := omega) only [nI_ltI, nI_leI, nI_eq, nI_clamp, nI_1, nI_add, nI_mul, inb_n, irm_n, nI_div, nI_m6, nI_d6, irm_6, qlt_1, qle_1, qgt_1, qge_1, qeq_1, qlt_2, qle_2, qgt_2, qge_2, qeq_2, qlt_3, qle_3, qgt_3, qge_3, qeq_3, qlt_4, qle_4, qgt_4, qge_4, qeq_4, qlt_5, qle_5, qgt_5, qge_5, qeq_5, qlt_6, qle_6, qgt_6, qge_6, qeq_6, qlt_7, qle_7, qgt_7, qge_7, qeq_7, qlt_8, qle_8, qgt_8, qge_8, qeq_8, qlt_9, qle_9, qgt_9, qge_9, qeq_9, qlt_10, qle_10, qgt_10, qge_10, qeq_10, qlt_12, qle_12, qgt_12, qge_12, qeq_12, qlt_16, qle_16, qgt_16, qge_16, qeq_16, qlt_20, qle_20, qgt_20, qge_20, qeq_20, qlt_24, qle_24, qgt_24, qge_24, qeq_24, qlt_30, qle_30, qgt_30, qge_30, qeq_30, qlt_32, qle_32, qgt_32, qge_32, qeq_32, qlt_37, qle_37, qgt_37, qge_37, qeq_37, qlt_40, qle_40, qgt_40, qge_40, qeq_40, qlt_42, qle_42, qgt_42, qge_42, qeq_42, qlt_43, qle_43, qgt_43, qge_43, qeq_43, qlt_45, qle_45, qgt_45, qge_45, qeq_45, qlt_47, qle_47, qgt_47, qge_47, qeq_47, qlt_48, qle_48, qgt_48, qge_48, qeq_48, qlt_57, qle_57, qgt_57, qge_57, qeq_57, qlt_59, qle_59, qgt_59, qge_59, qeq_59, qlt_60, qle_60, qgt_60, qge_60, qeq_60, qlt_61, qle_61, qgt_61, qge_61, qeq_61, qlt_62, qle_62, qgt_62, qge_62, qeq_62, qlt_64, qle_64, qgt_64, qge_64, qeq_64, qlt_91, qle_91, qgt_91, qge_91, qeq_91, qlt_93, qle_93, qgt_93, qge_93, qeq_93, qlt_97, qle_97, qgt_97, qge_97, qeq_97, qlt_122, qle_122, qgt_122, qge_122, qeq_122, qlt_400, qle_400, qgt_400, qge_400, qeq_400, qlt_999, qle_999, qgt_999, qge_999, qeq_999, qlt_0, qle_0, qgt_0, qge_0, qeq_0, qltm, qeqm, ↓reduceIte, Option.bind_some, not_true_eq_false, not_false_eq_true, and_true, true_and, and_false, false_and, or_false, false_or, or_true, true_or, Bool.false_eq_true, reduceCtorEq, hk2]
              · rw [fiB, if_pos hz, if_neg hk3, nI_0m]
        · refine ⟨-1, ?_, ?_⟩
          · simp (disch := omega) only [e1, e6, e7, r_has, hb1, hfr, hf1, nI_ltI, nI_leI, nI_eq, nI_clamp, nI_1, nI_add, nI_mul, inb_n, irm_n, nI_div, nI_m6, nI_d6, irm_6, qlt_1, qle_1, qgt_1, qge_1, qeq_1, qlt_2, qle_2, qgt_2, qge_2, qeq_2, qlt_3, qle_3, qgt_3, qge_3, qeq_3, qlt_4, qle_4, qgt_4, qge_4, qeq_4, qlt_5, qle_5, qgt_5, qge_5, qeq_5, qlt_6, qle_6, qgt_6, qge_6, qeq_6, qlt_7, qle_7, qgt_7, qge_7, qeq_7, qlt_8, qle_8, qgt_8, qge_8, qeq_8, qlt_9, qle_9, qgt_9, qge_9, qeq_9, qlt_10, qle_10, qgt_10, qge_10, qeq_10, qlt_12, qle_12, qgt_12, qge_12, qeq_12, qlt_16, qle_16, qgt_16, qge_16, qeq_16, qlt_20, qle_20, qgt_20, qge_20, qeq_20, qlt_24, qle_24, qgt_24, qge_24, qeq_24, qlt_30, qle_30, qgt_30, qge_30, qeq_30, qlt_32, qle_32, qgt_32, qge_32, qeq_32, qlt_37, qle_37, qgt_37, qge_37, qeq_37, qlt_40, qle_40, qgt_40, qge_40, qeq_40, qlt_42, qle_42, qgt_42, qge_42, qeq_42, qlt_43, qle_43, qgt_43, qge_43, qeq_43, qlt_45, qle_45, qgt_45, qge_45, qeq_45, qlt_47, qle_47, qgt_47, qge_47, qeq_47, qlt_48, qle_48, qgt_48, qge_48, qeq_48, qlt_57, qle_57, qgt_57, qge_57, qeq_57, qlt_59, qle_59, qgt_59, qge_59, qeq_59, qlt_60, qle_60, qgt_60, qge_60, qeq_60, qlt_61, qle_61, qgt_61, qge_61, qeq_61, qlt_62, qle_62, qgt_62, qge_62, qeq_62, qlt_64, qle_64, qgt_64, qge_64, qeq_64, qlt_91, qle_91, qgt_91, qge_91, qeq_91, qlt_93, qle_93, qgt_93, qge_93, qeq_93, qlt_97, qle_97, qgt_97, qge_97, qeq_97, qlt_122, qle_122, qgt_122, qge_122, qeq_122, qlt_400, qle_400, qgt_400, qge_400, qeq_400, qlt_999, qle_999, qgt_999, qge_999, qeq_999, qlt_0, qle_0, qgt_0, qge_0, qeq_0, qltm, qeqm, ↓reduceIte, Option.bind_some, not_true_eq_false, not_false_eq_true, and_true, true_and, and_false, false_and, or_false, false_or, or_true, true_or, Bool.false_eq_true, reduceCtorEq, n1, one_ne0]
          · rw [fiB, if_pos hz, if_neg, nI_0m]
            unfold fcB; simp [hf1]
      · right
        refine ⟨-1, ?_, ?_⟩
        · show f11_chairBy_L2 X l1 (nI s) (nI g) (nI v) (n + 1) (-1) (nI k) = _
          rw [f11_chairBy_L2]
          simp (disch := omega) only [e1, e6, r_has, hb1, nI_ltI, nI_leI, nI_eq, nI_clamp, nI_1, nI_add, nI_mul, inb_n, irm_n, nI_div, nI_m6, nI_d6, irm_6, qlt_1, qle_1, qgt_1, qge_1, qeq_1, qlt_2, qle_2, qgt_2, qge_2, qeq_2, qlt_3, qle_3, qgt_3, qge_3, qeq_3, qlt_4, qle_4, qgt_4, qge_4, qeq_4, qlt_5, qle_5, qgt_5, qge_5, qeq_5, qlt_6, qle_6, qgt_6, qge_6, qeq_6, qlt_7, qle_7, qgt_7, qge_7, qeq_7, qlt_8, qle_8, qgt_8, qge_8, qeq_8, qlt_9, qle_9, qgt_9, qge_9, qeq_9, qlt_10, qle_10, qgt_10, qge_10, qeq_10, qlt_12, qle_12, qgt_12, qge_12, qeq_12, qlt_16, qle_16, qgt_16, qge_16, qeq_16, qlt_20, qle_20, qgt_20, qge_20, qeq_20, qlt_24, qle_24, qgt_24, qge_24, qeq_24, qlt_30, qle_30, qgt_30, qge_30, qeq_30, qlt_32, qle_32, qgt_32, qge_32, qeq_32, qlt_37, qle_37, qgt_37, qge_37, qeq_37, qlt_40, qle_40, qgt_40, qge_40, qeq_40, qlt_42, qle_42, qgt_42, qge_42, qeq_42, qlt_43, qle_43, qgt_43, qge_43, qeq_43, qlt_45, qle_45, qgt_45, qge_45, qeq_45, qlt_47, qle_47, qgt_47, qge_47, qeq_47, qlt_48, qle_48, qgt_48, qge_48, qeq_48, qlt_57, qle_57, qgt_57, qge_57, qeq_57, qlt_59, qle_59, qgt_59, qge_59, qeq_59, qlt_60, qle_60, qgt_60, qge_60, qeq_60, qlt_61, qle_61, qgt_61, qge_61, qeq_61, qlt_62, qle_62, qgt_62, qge_62, qeq_62, qlt_64, qle_64, qgt_64, qge_64, qeq_64, qlt_91, qle_91, qgt_91, qge_91, qeq_91, qlt_93, qle_93, qgt_93, qge_93, qeq_93, qlt_97, qle_97, qgt_97, qge_97, qeq_97, qlt_122, qle_122, qgt_122, qge_122, qeq_122, qlt_400, qle_400, qgt_400, qge_400, qeq_400, qlt_999, qle_999, qgt_999, qge_999, qeq_999, qlt_0, qle_0, qgt_0, qge_0, qeq_0, qltm, qeqm, ↓reduceIte, Option.bind_some, not_true_eq_false, not_false_eq_true, and_true, true_and, and_false, false_and, or_false, false_or, or_true, true_or, Bool.false_eq_true, reduceCtorEq, n1]
        · have hzz : ∀ m, fiB (fcB N L v g s) m = 0 := by
            intro m
            induction m with
            | zero => rfl
            | succ m ih =>
              rw [fiB, if_pos ih, if_neg]
              unfold fcB; simp [hb1]
          rw [hzz, nI_0m]
    · right
      obtain ⟨m, hm⟩ : ∃ m, fiB (fcB N L v g s) k = m + 1 := ⟨fiB (fcB N L v g s) k - 1, by omega⟩
      have hst := fi_stay (b := fcB N L v g s) (k := k) hz (N 0 1 - k)
      rw [show k + (N 0 1 - k) = N 0 1 by omega, hm] at hst
      refine ⟨nI m, ?_, by rw [hst]; exact (nI_pred m).symm⟩
      show f11_chairBy_L2 X l1 (nI s) (nI g) (nI v) (n + 1) (nI (fiB (fcB N L v g s) k) - 1) (nI k) = _
      rw [f11_chairBy_L2, hm, nI_pred]
      simp (disch := omega) only [e1, nI_ltI, nI_leI, nI_eq, nI_clamp, nI_1, nI_add, nI_mul, inb_n, irm_n, nI_div, nI_m6, nI_d6, irm_6, qlt_1, qle_1, qgt_1, qge_1, qeq_1, qlt_2, qle_2, qgt_2, qge_2, qeq_2, qlt_3, qle_3, qgt_3, qge_3, qeq_3, qlt_4, qle_4, qgt_4, qge_4, qeq_4, qlt_5, qle_5, qgt_5, qge_5, qeq_5, qlt_6, qle_6, qgt_6, qge_6, qeq_6, qlt_7, qle_7, qgt_7, qge_7, qeq_7, qlt_8, qle_8, qgt_8, qge_8, qeq_8, qlt_9, qle_9, qgt_9, qge_9, qeq_9, qlt_10, qle_10, qgt_10, qge_10, qeq_10, qlt_12, qle_12, qgt_12, qge_12, qeq_12, qlt_16, qle_16, qgt_16, qge_16, qeq_16, qlt_20, qle_20, qgt_20, qge_20, qeq_20, qlt_24, qle_24, qgt_24, qge_24, qeq_24, qlt_30, qle_30, qgt_30, qge_30, qeq_30, qlt_32, qle_32, qgt_32, qge_32, qeq_32, qlt_37, qle_37, qgt_37, qge_37, qeq_37, qlt_40, qle_40, qgt_40, qge_40, qeq_40, qlt_42, qle_42, qgt_42, qge_42, qeq_42, qlt_43, qle_43, qgt_43, qge_43, qeq_43, qlt_45, qle_45, qgt_45, qge_45, qeq_45, qlt_47, qle_47, qgt_47, qge_47, qeq_47, qlt_48, qle_48, qgt_48, qge_48, qeq_48, qlt_57, qle_57, qgt_57, qge_57, qeq_57, qlt_59, qle_59, qgt_59, qge_59, qeq_59, qlt_60, qle_60, qgt_60, qge_60, qeq_60, qlt_61, qle_61, qgt_61, qge_61, qeq_61, qlt_62, qle_62, qgt_62, qge_62, qeq_62, qlt_64, qle_64, qgt_64, qge_64, qeq_64, qlt_91, qle_91, qgt_91, qge_91, qeq_91, qlt_93, qle_93, qgt_93, qge_93, qeq_93, qlt_97, qle_97, qgt_97, qge_97, qeq_97, qlt_122, qle_122, qgt_122, qge_122, qeq_122, qlt_400, qle_400, qgt_400, qge_400, qeq_400, qlt_999, qle_999, qgt_999, qge_999, qeq_999, qlt_0, qle_0, qgt_0, qge_0, qeq_0, qltm, qeqm, ↓reduceIte, Option.bind_some, not_true_eq_false, not_false_eq_true, and_true, true_and, and_false, false_and, or_false, false_or, or_true, true_or, Bool.false_eq_true, reduceCtorEq, n1]) (by
    intro n f hf
    refine ⟨f, ?_, hf⟩
    show f11_chairBy_L2 X l1 (nI s) (nI g) (nI v) (n + 1) f (nI (N 0 1)) = _
    rw [f11_chairBy_L2]
    simp (disch := omega) only [e1, nI_ltI, nI_leI, nI_eq, nI_clamp, nI_1, nI_add, nI_mul, inb_n, irm_n, nI_div, nI_m6, nI_d6, irm_6, qlt_1, qle_1, qgt_1, qge_1, qeq_1, qlt_2, qle_2, qgt_2, qge_2, qeq_2, qlt_3, qle_3, qgt_3, qge_3, qeq_3, qlt_4, qle_4, qgt_4, qge_4, qeq_4, qlt_5, qle_5, qgt_5, qge_5, qeq_5, qlt_6, qle_6, qgt_6, qge_6, qeq_6, qlt_7, qle_7, qgt_7, qge_7, qeq_7, qlt_8, qle_8, qgt_8, qge_8, qeq_8, qlt_9, qle_9, qgt_9, qge_9, qeq_9, qlt_10, qle_10, qgt_10, qge_10, qeq_10, qlt_12, qle_12, qgt_12, qge_12, qeq_12, qlt_16, qle_16, qgt_16, qge_16, qeq_16, qlt_20, qle_20, qgt_20, qge_20, qeq_20, qlt_24, qle_24, qgt_24, qge_24, qeq_24, qlt_30, qle_30, qgt_30, qge_30, qeq_30, qlt_32, qle_32, qgt_32, qge_32, qeq_32, qlt_37, qle_37, qgt_37, qge_37, qeq_37, qlt_40, qle_40, qgt_40, qge_40, qeq_40, qlt_42, qle_42, qgt_42, qge_42, qeq_42, qlt_43, qle_43, qgt_43, qge_43, qeq_43, qlt_45, qle_45, qgt_45, qge_45, qeq_45, qlt_47, qle_47, qgt_47, qge_47, qeq_47, qlt_48, qle_48, qgt_48, qge_48, qeq_48, qlt_57, qle_57, qgt_57, qge_57, qeq_57, qlt_59, qle_59, qgt_59, qge_59, qeq_59, qlt_60, qle_60, qgt_60, qge_60, qeq_60, qlt_61, qle_61, qgt_61, qge_61, qeq_61, qlt_62, qle_62, qgt_62, qge_62, qeq_62, qlt_64, qle_64, qgt_64, qge_64, qeq_64, qlt_91, qle_91, qgt_91, qge_91, qeq_91, qlt_93, qle_93, qgt_93, qge_93, qeq_93, qlt_97, qle_97, qgt_97, qge_97, qeq_97, qlt_122, qle_122, qgt_122, qge_122, qeq_122, qlt_400, qle_400, qgt_400, qge_400, qeq_400, qlt_999, qle_999, qgt_999, qge_999, qeq_999, qlt_0, qle_0, qgt_0, qge_0, qeq_0, qltm, qeqm, ↓reduceIte, Option.bind_some, not_true_eq_false, not_false_eq_true, and_true, true_and, and_false, false_and, or_false, false_or, or_true, true_or, Bool.false_eq_true, reduceCtorEq, Nat.le_refl]) jF 0 (-1) (Nat.zero_le _) (by show _ < 5000; omega) nI_0m.symm
  rw [← hp]; exact hr
