/-! how many can sit within a time -/
def wiC (N : mN) (t g s : Nat) (r : Nat → Bool) : Nat → Nat → Bool
  | 0 => r
  | c + 1 => if fre (N 0 3) s c = true ∧ tmN N g c ≤ t then (fun x => decide (x = s ||| 2 ^ c) || wiC N t g s r c x) else wiC N t g s r c
def wiD (N : mN) (t g : Nat) (r : Nat → Bool) : Nat → Nat → Bool
  | 0 => r
  | p + 1 => if (N 0 4).testBit g = true ∧ wiD N t g r p (63 - p) = true then wiC N t g (63 - p) (wiD N t g r p) (N 0 1) else wiD N t g r p
def wiG (N : mN) (t : Nat) : Nat → Nat → Bool
  | 0 => fun x => decide (x = 0)
  | g + 1 => wiD N t g (wiG N t g) 64
def mxP (r : Nat → Bool) : Nat → Nat
  | 0 => 0
  | k + 1 => if r k = true then max (mxP r k) (pcn k) else mxP r k
theorem mxP_add {r : Nat → Bool} {x : Nat} : ∀ k, mxP (fun y => decide (y = x) || r y) k = if x < k then max (mxP r k) (pcn x) else mxP r k := by
  intro k
  induction k with
  | zero => rfl
  | succ k ih =>
    unfold mxP
    rw [ih]
    by_cases e : k = x
    · subst e
      have hx' : k < k + 1 := by omega
      simp only [decide_true, Bool.true_or, if_true, Nat.lt_irrefl, if_false, hx']
      split <;> omega
    · have e' : decide (k = x) = false := by simpa using e
      simp only [e', Bool.false_or]
      by_cases hx : x < k
      · have hx' : x < k + 1 := by omega
        simp only [hx, hx', if_true]
        split <;> omega
      · have hx' : ¬ x < k + 1 := by omega
        simp only [hx, hx', if_false]
theorem mxP_le {r : Nat → Bool} : ∀ k, k ≤ 64 → mxP r k ≤ 7 := by
  intro k
  induction k with
  | zero => intro _; exact Nat.zero_le _
  | succ k ih =>
    intro h
    have := ih (by omega)
    have := pcn_le0 k (by omega)
    unfold mxP; split <;> omega
theorem mxP_ge {r : Nat → Bool} {s : Nat} (h : r s = true) : ∀ k, s < k → pcn s ≤ mxP r k := by
  intro k
  induction k with
  | zero => intro h; omega
  | succ k ih =>
    intro hk
    unfold mxP
    by_cases e : s = k
    · subst e; rw [if_pos h]; omega
    · have := ih (by omega)
      split <;> omega
theorem or_ne {s c : Nat} (h : s.testBit c = false) : s ≠ s ||| 2 ^ c := by
  intro z
  have : (s ||| 2 ^ c).testBit c = true := by rw [Nat.testBit_or, Nat.testBit_two_pow]; simp
  rw [← z, h] at this; cases this
theorem wiC_s {N : mN} {t g s : Nat} {r : Nat → Bool} : ∀ c, wiC N t g s r c s = r s := by
  intro c
  induction c with
  | zero => rfl
  | succ c ih =>
    unfold wiC
    split
    · rename_i z
      have hne := or_ne (fre_t z.1).2
      simp [hne, ih]
    · exact ih
def rcN (N : mN) (t g s : Nat) : Nat → Nat
  | 0 => pcn s
  | c + 1 => if fre (N 0 3) s c = true ∧ tmN N g c ≤ t then pcn s + 1 else rcN N t g s c
theorem rcN_le {N : mN} {t g s : Nat} : ∀ c, pcn s ≤ rcN N t g s c ∧ rcN N t g s c ≤ pcn s + 1 := by
  intro c
  induction c with
  | zero => exact ⟨Nat.le_refl _, by show pcn s ≤ _; omega⟩
  | succ c ih => unfold rcN; split <;> omega
theorem wiC_mx {N : mN} {t g s : Nat} {r : Nat → Bool} (hN : NOk N) (hs : s < 64) (hr : r s = true) : ∀ c, c ≤ N 0 1 → mxP (wiC N t g s r c) 64 = max (mxP r 64) (rcN N t g s c) := by
  intro c
  have hge := mxP_ge hr 64 hs
  have hC := hN.2.1
  induction c with
  | zero => intro _; show mxP r 64 = max (mxP r 64) (pcn s); omega
  | succ c ih =>
    intro hc
    have ihc := ih (by omega)
    have hrl := rcN_le (N := N) (t := t) (g := g) (s := s) c
    unfold wiC rcN
    by_cases z : fre (N 0 3) s c = true ∧ tmN N g c ≤ t
    · rw [if_pos z, if_pos z, mxP_add, ihc]
      obtain ⟨o1, o2⟩ := b_or0 s hs c (by omega)
      have hp := pcn_or s hs c (by omega) (fre_t z.1).2
      rw [if_pos o2, hp]
      omega
    · rw [if_neg z, if_neg z]; exact ihc
def eB (r : Nat → Bool) (s : Nat) : Int32 := if r s = true then 1 else 0
def eR (r : Nat → Bool) (s : Nat) : Int32 := if r s = true then nI (pcn s) else -1
theorem c_reach {T : jT} {S : jS} {g s t : Nat} {N : mN} {r : Nat → Bool} (hN : NOk N) (h : HIs (hC S (100 + 8)) N) (hg : g < N 0 2) (hs : s < 64) (ht : t ≤ 999) (hr : ∀ x, x < 64 → S.1 82 x = eB r x) : ∃ S1, f8_reachOn T S (100 + 8) (nI g) (nI s) (nI t) = some (S1, nI (rcN N t g s (N 0 1))) ∧ (∀ x, x < 64 → S1.1 82 x = eB (wiC N t g s r (N 0 1)) x) ∧ (∀ a i, a ≠ 82 → S1.1 a i = S.1 a i) := by
  have hC' := hN.2.1
  have hps := pcn_le0 s (by omega)
  obtain ⟨⟨S1, v⟩, p1, p2, p3, p4⟩ := lp_up (G := N 0 1) (Post := fun A : jS × Int32 => A.2 = nI (rcN N t g s (N 0 1)) ∧ (∀ x, x < 64 → A.1.1 82 x = eB (wiC N t g s r (N 0 1)) x) ∧ (∀ a i, a ≠ 82 → A.1.1 a i = S.1 a i)) (fun n k (A : jS × Int32) => f8_reachOn_L1 T (100 + 8) (nI g) (nI s) (nI t) (nI (pcn s)) n A.1 A.2 (nI k)) (fun k A => A.2 = nI (rcN N t g s k) ∧ (∀ x, x < 64 → A.1.1 82 x = eB (wiC N t g s r k) x) ∧ (∀ a i, a ≠ 82 → A.1.1 a i = S.1 a i)) (by
    rintro n k ⟨S2, l6⟩ hk ⟨h6, h82, hf⟩
    left
    have h6' : l6 = nI (rcN N t g s k) := h6
    subst h6'
    have hf' : ∀ a i, a ≠ 82 → S2.1 a i = S.1 a i := hf
    have hh : HIs (hC S2 (100 + 8)) N := h.mono (fun a i u1 u2 => hf' a i (by omega))
    have e1 : S2.1 (100 + 8) 1 = nI (N 0 1) := hh.1 1 (by omega) (by omega)
    have n1 : ¬ N 0 1 ≤ k := by omega
    have hfr := c_free hN hh (c := k) (s := s) (by omega) hs
    by_cases hf1 : fre (N 0 3) s k = true
    · obtain ⟨o1, o2⟩ := b_or0 s hs k (by omega)
      have htm := c_time hN hh hg hk
      have htl := tmN_le hN hg hk
      by_cases hle : tmN N g k ≤ t
      · have hle' : ¬ t < tmN N g k := by omega
        refine ⟨(wI S2 82 (s ||| 2 ^ k) 1, nI (rcN N t g s (k + 1))), ?_, rfl, fun x hx => ?_, fun a i ha => by show (wI S2 82 (s ||| 2 ^ k) 1).1 a i = _; rw [wI_ne ha]; exact hf' a i ha⟩
        · show f8_reachOn_L1 T (100 + 8) (nI g) (nI s) (nI t) (nI (pcn s)) (n + 1) S2 (nI (rcN N t g s k)) (nI k) = f8_reachOn_L1 T (100 + 8) (nI g) (nI s) (nI t) (nI (pcn s)) n (wI S2 82 (s ||| 2 ^ k) 1) (nI (rcN N t g s (k + 1))) (nI (k + 1))
          have er : rcN N t g s (k + 1) = pcn s + 1 := by rw [rcN, if_pos ⟨hf1, hle⟩]
          rw [f8_reachOn_L1, er]
          simp (disch := omega) only [e1, hfr, hf1, htm, o1, o2, nI_ltI, nI_leI, nI_eq, nI_clamp, nI_1, nI_add, nI_mul, inb_n, irm_n, nI_div, nI_m6, nI_d6, irm_6, qlt_1, qle_1, qgt_1, qge_1, qeq_1, qlt_2, qle_2, qgt_2, qge_2, qeq_2, qlt_3, qle_3, qgt_3, qge_3, qeq_3, qlt_4, qle_4, qgt_4, qge_4, qeq_4, qlt_5, qle_5, qgt_5, qge_5, qeq_5, qlt_6, qle_6, qgt_6, qge_6, qeq_6, qlt_7, qle_7, qgt_7, qge_7, qeq_7, qlt_8, qle_8, qgt_8, qge_8, qeq_8, qlt_9, qle_9, qgt_9, qge_9, qeq_9, qlt_10, qle_10, qgt_10, qge_10, qeq_10, qlt_12, qle_12, qgt_12, qge_12, qeq_12, qlt_16, qle_16, qgt_16, qge_16, qeq_16, qlt_20, qle_20, qgt_20, qge_20, qeq_20, qlt_24, qle_24, qgt_24, qge_24, qeq_24, qlt_30, qle_30, qgt_30, qge_30, qeq_30, qlt_32, qle_32, qgt_32, qge_32, qeq_32, qlt_37, qle_37, qgt_37, qge_37, qeq_37, qlt_40, qle_40, qgt_40, qge_40, qeq_40, qlt_42, qle_42, qgt_42, qge_42, qeq_42, qlt_43, qle_43, qgt_43, qge_43, qeq_43, qlt_45, qle_45, qgt_45, qge_45, qeq_45, qlt_47, qle_47, qgt_47, qge_47, qeq_47, qlt_48, qle_48, qgt_48, qge_48, qeq_48, qlt_57, qle_57, qgt_57, qge_57, qeq_57, qlt_59, qle_59, qgt_59, qge_59, qeq_59, qlt_60, qle_60, qgt_60, qge_60, qeq_60, qlt_61, qle_61, qgt_61, qge_61, qeq_61, qlt_62, qle_62, qgt_62, qge_62, qeq_62, qlt_64, qle_64, qgt_64, qge_64, qeq_64, qlt_91, qle_91, qgt_91, qge_91, qeq_91, qlt_93, qle_93, qgt_93, qge_93, qeq_93, qlt_97, qle_97, qgt_97, qge_97, qeq_97, qlt_122, qle_122, qgt_122, qge_122, qeq_122, qlt_400, qle_400, qgt_400, qge_400, qeq_400, qlt_999, qle_999, qgt_999, qge_999, qeq_999, qlt_0, qle_0, qgt_0, qge_0, qeq_0, qltm, qeqm, ↓reduceIte, Option.bind_some, not_true_eq_false, not_false_eq_true, and_true, true_and, and_false, false_and, or_false, false_or, or_true, true_or, Bool.false_eq_true, reduceCtorEq, n1, hle', one_ne0]
        · show (wI S2 82 (s ||| 2 ^ k) 1).1 82 x = _
          have ew : wiC N t g s r (k + 1) = fun x => decide (x = s ||| 2 ^ k) || wiC N t g s r k x := by rw [wiC, if_pos ⟨hf1, hle⟩]
          rw [ew]
          unfold eB
          by_cases ex : x = s ||| 2 ^ k
          · subst ex; rw [wI_self]; simp
          · rw [wI_nj ex]
            have := h82 x hx
            unfold eB at this
            simp only [ex, decide_false, Bool.false_or]
            exact this
      · have hle' : t < tmN N g k := by omega
        have er : rcN N t g s (k + 1) = rcN N t g s k := by rw [rcN, if_neg (fun z => hle z.2)]
        have ew : wiC N t g s r (k + 1) = wiC N t g s r k := by rw [wiC, if_neg (fun z => hle z.2)]
        refine ⟨(S2, nI (rcN N t g s k)), ?_, by rw [er], by rw [ew]; exact h82, hf⟩
        show f8_reachOn_L1 T (100 + 8) (nI g) (nI s) (nI t) (nI (pcn s)) (n + 1) S2 (nI (rcN N t g s k)) (nI k) = _
        rw [f8_reachOn_L1]
        simp (disch := omega) only [e1, hfr, hf1, htm, nI_ltI, nI_leI, nI_eq, nI_clamp, nI_1, nI_add, nI_mul, inb_n, irm_n, nI_div, nI_m6, nI_d6, irm_6, qlt_1, qle_1, qgt_1, qge_1, qeq_1, qlt_2, qle_2, qgt_2, qge_2, qeq_2, qlt_3, qle_3, qgt_3, qge_3, qeq_3, qlt_4, qle_4, qgt_4, qge_4, qeq_4, qlt_5, qle_5, qgt_5, qge_5, qeq_5, qlt_6, qle_6, qgt_6, qge_6, qeq_6, qlt_7, qle_7, qgt_7, qge_7, qeq_7, qlt_8, qle_8, qgt_8, qge_8, qeq_8, qlt_9, qle_9, qgt_9, qge_9, qeq_9, qlt_10, qle_10, qgt_10, qge_10, qeq_10, qlt_12, qle_12, qgt_12, qge_12, qeq_12, qlt_16, qle_16, qgt_16, qge_16, qeq_16, qlt_20, qle_20, qgt_20, qge_20, qeq_20, qlt_24, qle_24, qgt_24, qge_24, qeq_24, qlt_30, qle_30, qgt_30, qge_30, qeq_30, qlt_32, qle_32, qgt_32, qge_32, qeq_32, qlt_37, qle_37, qgt_37, qge_37, qeq_37, qlt_40, qle_40, qgt_40, qge_40, qeq_40, qlt_42, qle_42, qgt_42, qge_42, qeq_42, qlt_43, qle_43, qgt_43, qge_43, qeq_43, qlt_45, qle_45, qgt_45, qge_45, qeq_45, qlt_47, qle_47, qgt_47, qge_47, qeq_47, qlt_48, qle_48, qgt_48, qge_48, qeq_48, qlt_57, qle_57, qgt_57, qge_57, qeq_57, qlt_59, qle_59, qgt_59, qge_59, qeq_59, qlt_60, qle_60, qgt_60, qge_60, qeq_60, qlt_61, qle_61, qgt_61, qge_61, qeq_61, qlt_62, qle_62, qgt_62, qge_62, qeq_62, qlt_64, qle_64, qgt_64, qge_64, qeq_64, qlt_91, qle_91, qgt_91, qge_91, qeq_91, qlt_93, qle_93, qgt_93, qge_93, qeq_93, qlt_97, qle_97, qgt_97, qge_97, qeq_97, qlt_122, qle_122, qgt_122, qge_122, qeq_122, qlt_400, qle_400, qgt_400, qge_400, qeq_400, qlt_999, qle_999, qgt_999, qge_999, qeq_999, qlt_0, qle_0, qgt_0, qge_0, qeq_0, qltm, qeqm, ↓reduceIte, Option.bind_some, not_true_eq_false, not_false_eq_true, and_true, true_and, and_false, false_and, or_false, false_or, or_true, true_or, Bool.false_eq_true, reduceCtorEq, n1, hle', one_ne0]
    · have er : rcN N t g s (k + 1) = rcN N t g s k := by rw [rcN, if_neg (fun z => hf1 z.1)]
      have ew : wiC N t g s r (k + 1) = wiC N t g s r k := by rw [wiC, if_neg (fun z => hf1 z.1)]
      refine ⟨(S2, nI (rcN N t g s k)), ?_, by rw [er], by rw [ew]; exact h82, hf⟩
      show f8_reachOn_L1 T (100 + 8) (nI g) (nI s) (nI t) (nI (pcn s)) (n + 1) S2 (nI (rcN N t g s k)) (nI k) = _
      rw [f8_reachOn_L1]
      simp (disch := omega) only [e1, hfr, hf1, nI_ltI, nI_leI, nI_eq, nI_clamp, nI_1, nI_add, nI_mul, inb_n, irm_n, nI_div, nI_m6, nI_d6, irm_6, qlt_1, qle_1, qgt_1, qge_1, qeq_1, qlt_2, qle_2, qgt_2, qge_2, qeq_2, qlt_3, qle_3, qgt_3, qge_3, qeq_3, qlt_4, qle_4, qgt_4, qge_4, qeq_4, qlt_5, qle_5, qgt_5, qge_5, qeq_5, qlt_6, qle_6, qgt_6, qge_6, qeq_6, qlt_7, qle_7, qgt_7, qge_7, qeq_7, qlt_8, qle_8, qgt_8, qge_8, qeq_8, qlt_9, qle_9, qgt_9, qge_9, qeq_9, qlt_10, qle_10, qgt_10, qge_10, qeq_10, qlt_12, qle_12, qgt_12, qge_12, qeq_12, qlt_16, qle_16, qgt_16, qge_16, qeq_16, qlt_20, qle_20, qgt_20, qge_20, qeq_20, qlt_24, qle_24, qgt_24, qge_24, qeq_24, qlt_30, qle_30, qgt_30, qge_30, qeq_30, qlt_32, qle_32, qgt_32, qge_32, qeq_32, qlt_37, qle_37, qgt_37, qge_37, qeq_37, qlt_40, qle_40, qgt_40, qge_40, qeq_40, qlt_42, qle_42, qgt_42, qge_42, qeq_42, qlt_43, qle_43, qgt_43, qge_43, qeq_43, qlt_45, qle_45, qgt_45, qge_45, qeq_45, qlt_47, qle_47, qgt_47, qge_47, qeq_47, qlt_48, qle_48, qgt_48, qge_48, qeq_48, qlt_57, qle_57, qgt_57, qge_57, qeq_57, qlt_59, qle_59, qgt_59, qge_59, qeq_59, qlt_60, qle_60, qgt_60, qge_60, qeq_60, qlt_61, qle_61, qgt_61, qge_61, qeq_61, qlt_62, qle_62, qgt_62, qge_62, qeq_62, qlt_64, qle_64, qgt_64, qge_64, qeq_64, qlt_91, qle_91, qgt_91, qge_91, qeq_91, qlt_93, qle_93, qgt_93, qge_93, qeq_93, qlt_97, qle_97, qgt_97, qge_97, qeq_97, qlt_122, qle_122, qgt_122, qge_122, qeq_122, qlt_400, qle_400, qgt_400, qge_400, qeq_400, qlt_999, qle_999, qgt_999, qge_999, qeq_999, qlt_0, qle_0, qgt_0, qge_0, qeq_0, qltm, qeqm, ↓reduceIte, Option.bind_some, not_true_eq_false, not_false_eq_true, and_true, true_and, and_false, false_and, or_false, false_or, or_true, true_or, Bool.false_eq_true, reduceCtorEq, n1]) (by
    rintro n ⟨S2, l6⟩ ⟨h6, h82, hf⟩
    have hf' : ∀ a i, a ≠ 82 → S2.1 a i = S.1 a i := hf
    have e1 : S2.1 (100 + 8) 1 = nI (N 0 1) := (hf' _ _ (by omega)).trans (h.1 1 (by omega) (by omega))
    refine ⟨(S2, l6), ?_, h6, h82, hf⟩
    show f8_reachOn_L1 T (100 + 8) (nI g) (nI s) (nI t) (nI (pcn s)) (n + 1) S2 l6 (nI (N 0 1)) = _
    rw [f8_reachOn_L1]
    simp (disch := omega) only [e1, nI_ltI, nI_leI, nI_eq, nI_clamp, nI_1, nI_add, nI_mul, inb_n, irm_n, nI_div, nI_m6, nI_d6, irm_6, qlt_1, qle_1, qgt_1, qge_1, qeq_1, qlt_2, qle_2, qgt_2, qge_2, qeq_2, qlt_3, qle_3, qgt_3, qge_3, qeq_3, qlt_4, qle_4, qgt_4, qge_4, qeq_4, qlt_5, qle_5, qgt_5, qge_5, qeq_5, qlt_6, qle_6, qgt_6, qge_6, qeq_6, qlt_7, qle_7, qgt_7, qge_7, qeq_7, qlt_8, qle_8, qgt_8, qge_8, qeq_8, qlt_9, qle_9, qgt_9, qge_9, qeq_9, qlt_10, qle_10, qgt_10, qge_10, qeq_10, qlt_12, qle_12, qgt_12, qge_12, qeq_12, qlt_16, qle_16, qgt_16, qge_16, qeq_16, qlt_20, qle_20, qgt_20, qge_20, qeq_20, qlt_24, qle_24, qgt_24, qge_24, qeq_24, qlt_30, qle_30, qgt_30, qge_30, qeq_30, qlt_32, qle_32, qgt_32, qge_32, qeq_32, qlt_37, qle_37, qgt_37, qge_37, qeq_37, qlt_40, qle_40, qgt_40, qge_40, qeq_40, qlt_42, qle_42, qgt_42, qge_42, qeq_42, qlt_43, qle_43, qgt_43, qge_43, qeq_43, qlt_45, qle_45, qgt_45, qge_45, qeq_45, qlt_47, qle_47, qgt_47, qge_47, qeq_47, qlt_48, qle_48, qgt_48, qge_48, qeq_48, qlt_57, qle_57, qgt_57, qge_57, qeq_57, qlt_59, qle_59, qgt_59, qge_59, qeq_59, qlt_60, qle_60, qgt_60, qge_60, qeq_60, qlt_61, qle_61, qgt_61, qge_61, qeq_61, qlt_62, qle_62, qgt_62, qge_62, qeq_62, qlt_64, qle_64, qgt_64, qge_64, qeq_64, qlt_91, qle_91, qgt_91, qge_91, qeq_91, qlt_93, qle_93, qgt_93, qge_93, qeq_93, qlt_97, qle_97, qgt_97, qge_97, qeq_97, qlt_122, qle_122, qgt_122, qge_122, qeq_122, qlt_400, qle_400, qgt_400, qge_400, qeq_400, qlt_999, qle_999, qgt_999, qge_999, qeq_999, qlt_0, qle_0, qgt_0, qge_0, qeq_0, qltm, qeqm, ↓reduceIte, Option.bind_some, not_true_eq_false, not_false_eq_true, and_true, true_and, and_false, false_and, or_false, false_or, or_true, true_or, Bool.false_eq_true, reduceCtorEq, Nat.le_refl]) jF 0 (S, nI (pcn s)) (Nat.zero_le _) (by show _ < 5000; omega) ⟨rfl, hr, fun _ _ _ => rfl⟩
  refine ⟨S1, ?_, p3, p4⟩
  have p1' : f8_reachOn_L1 T (100 + 8) (nI g) (nI s) (nI t) (nI (pcn s)) jF S (nI (pcn s)) 0 = some (S1, v) := p1
  have p2' : v = nI (rcN N t g s (N 0 1)) := p2
  unfold f8_reachOn
  rw [bitc (by omega), Option.bind_some, p1', p2']; rfl
theorem c_wi2 {T : jT} {S : jS} {g t : Nat} {N : mN} {r : Nat → Bool} (hN : NOk N) (h : HIs (hC S (100 + 8)) N) (hg : g < N 0 2) (ht : t ≤ 999) (hr : ∀ x, x < 64 → S.1 82 x = eB r x) : ∃ A, f8_mostWithin_L2 T (100 + 8) (nI t) (nI g) jF S (nI (mxP r 64)) 63 = some A ∧ A.2 = nI (mxP (wiD N t g r 64) 64) ∧ (∀ x, x < 64 → A.1.1 82 x = eB (wiD N t g r 64) x) ∧ (∀ a i, a ≠ 82 → A.1.1 a i = S.1 a i) := by
  obtain ⟨A, p1, p2⟩ := lp_dn (Post := fun A : jS × Int32 => A.2 = nI (mxP (wiD N t g r 64) 64) ∧ (∀ x, x < 64 → A.1.1 82 x = eB (wiD N t g r 64) x) ∧ (∀ a i, a ≠ 82 → A.1.1 a i = S.1 a i)) (fun n k (A : jS × Int32) => f8_mostWithin_L2 T (100 + 8) (nI t) (nI g) n A.1 A.2 (nI k - 1)) (fun k A => k ≤ 64 ∧ A.2 = nI (mxP (wiD N t g r (64 - k)) 64) ∧ (∀ x, x < 64 → A.1.1 82 x = eB (wiD N t g r (64 - k)) x) ∧ (∀ a i, a ≠ 82 → A.1.1 a i = S.1 a i)) (by
    rintro n k ⟨S2, l4⟩ ⟨hk, h4, h82, hf⟩
    left
    have h4' : l4 = nI (mxP (wiD N t g r (64 - (k + 1))) 64) := h4
    subst h4'
    have h82' : ∀ x, x < 64 → S2.1 82 x = eB (wiD N t g r (64 - (k + 1))) x := h82
    have hf' : ∀ a i, a ≠ 82 → S2.1 a i = S.1 a i := hf
    have hh : HIs (hC S2 (100 + 8)) N := h.mono (fun a i u1 u2 => hf' a i (by omega))
    have hin := (c_in hN hh).1 g hg
    have e1 : nI k + -1 = nI k - 1 := by grind
    have e5 : 64 - k = (64 - (k + 1)) + 1 := by omega
    have e6 : 63 - (64 - (k + 1)) = k := by omega
    have hk64 : k < 64 := by omega
    have ek := h82' k hk64
    have hml := mxP_le (r := wiD N t g r (64 - (k + 1))) 64 (Nat.le_refl _)
    have hD : wiD N t g r (64 - k) = if (N 0 4).testBit g = true ∧ wiD N t g r (64 - (k + 1)) k = true then wiC N t g k (wiD N t g r (64 - (k + 1))) (N 0 1) else wiD N t g r (64 - (k + 1)) := by
      rw [e5, wiD, e6]
    by_cases hrk : wiD N t g r (64 - (k + 1)) k = true
    · unfold eB at ek
      rw [if_pos hrk] at ek
      by_cases hb : (N 0 4).testBit g = true
      · rw [if_pos ⟨hb, hrk⟩] at hD
        obtain ⟨S3, t1, t2, t3⟩ := c_reach (T := T) (S := S2) (s := k) hN hh hg hk64 ht h82'
        have hmx := wiC_mx (t := t) (g := g) hN hk64 hrk (N 0 1) (Nat.le_refl _)
        have hrl := rcN_le (N := N) (t := t) (g := g) (s := k) (N 0 1)
        have hpk := pcn_le0 k (by omega)
        refine ⟨(S3, nI (mxP (wiC N t g k (wiD N t g r (64 - (k + 1))) (N 0 1)) 64)), ?_, by omega, by rw [hD], by rw [hD]; exact t2, fun a i ha => (t3 a i ha).trans (hf' a i ha)⟩
        show f8_mostWithin_L2 T (100 + 8) (nI t) (nI g) (n + 1) S2 (nI (mxP (wiD N t g r (64 - (k + 1))) 64)) (nI (k + 1) - 1) = f8_mostWithin_L2 T (100 + 8) (nI t) (nI g) n S3 (nI (mxP (wiC N t g k (wiD N t g r (64 - (k + 1))) (N 0 1)) 64)) (nI k - 1)
        rw [f8_mostWithin_L2, nI_pred, hmx]
        simp (disch := omega) only [ek, hin, hb, t1, mmax_n, nI_ltI, nI_leI, nI_eq, nI_clamp, nI_1, nI_add, nI_mul, inb_n, irm_n, nI_div, nI_m6, nI_d6, irm_6, qlt_1, qle_1, qgt_1, qge_1, qeq_1, qlt_2, qle_2, qgt_2, qge_2, qeq_2, qlt_3, qle_3, qgt_3, qge_3, qeq_3, qlt_4, qle_4, qgt_4, qge_4, qeq_4, qlt_5, qle_5, qgt_5, qge_5, qeq_5, qlt_6, qle_6, qgt_6, qge_6, qeq_6, qlt_7, qle_7, qgt_7, qge_7, qeq_7, qlt_8, qle_8, qgt_8, qge_8, qeq_8, qlt_9, qle_9, qgt_9, qge_9, qeq_9, qlt_10, qle_10, qgt_10, qge_10, qeq_10, qlt_12, qle_12, qgt_12, qge_12, qeq_12, qlt_16, qle_16, qgt_16, qge_16, qeq_16, qlt_20, qle_20, qgt_20, qge_20, qeq_20, qlt_24, qle_24, qgt_24, qge_24, qeq_24, qlt_30, qle_30, qgt_30, qge_30, qeq_30, qlt_32, qle_32, qgt_32, qge_32, qeq_32, qlt_37, qle_37, qgt_37, qge_37, qeq_37, qlt_40, qle_40, qgt_40, qge_40, qeq_40, qlt_42, qle_42, qgt_42, qge_42, qeq_42, qlt_43, qle_43, qgt_43, qge_43, qeq_43, qlt_45, qle_45, qgt_45, qge_45, qeq_45, qlt_47, qle_47, qgt_47, qge_47, qeq_47, qlt_48, qle_48, qgt_48, qge_48, qeq_48, qlt_57, qle_57, qgt_57, qge_57, qeq_57, qlt_59, qle_59, qgt_59, qge_59, qeq_59, qlt_60, qle_60, qgt_60, qge_60, qeq_60, qlt_61, qle_61, qgt_61, qge_61, qeq_61, qlt_62, qle_62, qgt_62, qge_62, qeq_62, qlt_64, qle_64, qgt_64, qge_64, qeq_64, qlt_91, qle_91, qgt_91, qge_91, qeq_91, qlt_93, qle_93, qgt_93, qge_93, qeq_93, qlt_97, qle_97, qgt_97, qge_97, qeq_97, qlt_122, qle_122, qgt_122, qge_122, qeq_122, qlt_400, qle_400, qgt_400, qge_400, qeq_400, qlt_999, qle_999, qgt_999, qge_999, qeq_999, qlt_0, qle_0, qgt_0, qge_0, qeq_0, qltm, qeqm, ↓reduceIte, Option.bind_some, not_true_eq_false, not_false_eq_true, and_true, true_and, and_false, false_and, or_false, false_or, or_true, true_or, Bool.false_eq_true, reduceCtorEq, hk64, one_ne0, e1]
      · rw [if_neg (fun z => hb z.1)] at hD
        refine ⟨(S2, nI (mxP (wiD N t g r (64 - (k + 1))) 64)), ?_, by omega, by rw [hD], by rw [hD]; exact h82', hf'⟩
        show f8_mostWithin_L2 T (100 + 8) (nI t) (nI g) (n + 1) S2 (nI (mxP (wiD N t g r (64 - (k + 1))) 64)) (nI (k + 1) - 1) = f8_mostWithin_L2 T (100 + 8) (nI t) (nI g) n S2 (nI (mxP (wiD N t g r (64 - (k + 1))) 64)) (nI k - 1)
        rw [f8_mostWithin_L2, nI_pred]
        simp (disch := omega) only [ek, hin, hb, nI_ltI, nI_leI, nI_eq, nI_clamp, nI_1, nI_add, nI_mul, inb_n, irm_n, nI_div, nI_m6, nI_d6, irm_6, qlt_1, qle_1, qgt_1, qge_1, qeq_1, qlt_2, qle_2, qgt_2, qge_2, qeq_2, qlt_3, qle_3, qgt_3, qge_3, qeq_3, qlt_4, qle_4, qgt_4, qge_4, qeq_4, qlt_5, qle_5, qgt_5, qge_5, qeq_5, qlt_6, qle_6, qgt_6, qge_6, qeq_6, qlt_7, qle_7, qgt_7, qge_7, qeq_7, qlt_8, qle_8, qgt_8, qge_8, qeq_8, qlt_9, qle_9, qgt_9, qge_9, qeq_9, qlt_10, qle_10, qgt_10, qge_10, qeq_10, qlt_12, qle_12, qgt_12, qge_12, qeq_12, qlt_16, qle_16, qgt_16, qge_16, qeq_16, qlt_20, qle_20, qgt_20, qge_20, qeq_20, qlt_24, qle_24, qgt_24, qge_24, qeq_24, qlt_30, qle_30, qgt_30, qge_30, qeq_30, qlt_32, qle_32, qgt_32, qge_32, qeq_32, qlt_37, qle_37, qgt_37, qge_37, qeq_37, qlt_40, qle_40, qgt_40, qge_40, qeq_40, qlt_42, qle_42, qgt_42, qge_42, qeq_42, qlt_43, qle_43, qgt_43, qge_43, qeq_43, qlt_45, qle_45, qgt_45, qge_45, qeq_45, qlt_47, qle_47, qgt_47, qge_47, qeq_47, qlt_48, qle_48, qgt_48, qge_48, qeq_48, qlt_57, qle_57, qgt_57, qge_57, qeq_57, qlt_59, qle_59, qgt_59, qge_59, qeq_59, qlt_60, qle_60, qgt_60, qge_60, qeq_60, qlt_61, qle_61, qgt_61, qge_61, qeq_61, qlt_62, qle_62, qgt_62, qge_62, qeq_62, qlt_64, qle_64, qgt_64, qge_64, qeq_64, qlt_91, qle_91, qgt_91, qge_91, qeq_91, qlt_93, qle_93, qgt_93, qge_93, qeq_93, qlt_97, qle_97, qgt_97, qge_97, qeq_97, qlt_122, qle_122, qgt_122, qge_122, qeq_122, qlt_400, qle_400, qgt_400, qge_400, qeq_400, qlt_999, qle_999, qgt_999, qge_999, qeq_999, qlt_0, qle_0, qgt_0, qge_0, qeq_0, qltm, qeqm, ↓reduceIte, Option.bind_some, not_true_eq_false, not_false_eq_true, and_true, true_and, and_false, false_and, or_false, false_or, or_true, true_or, Bool.false_eq_true, reduceCtorEq, hk64, e1]
    · unfold eB at ek
      rw [if_neg hrk] at ek
      rw [if_neg (fun z => hrk z.2)] at hD
      have z1 : ¬ (0 : Int32) = 1 := by decide
      refine ⟨(S2, nI (mxP (wiD N t g r (64 - (k + 1))) 64)), ?_, by omega, by rw [hD], by rw [hD]; exact h82', hf'⟩
      show f8_mostWithin_L2 T (100 + 8) (nI t) (nI g) (n + 1) S2 (nI (mxP (wiD N t g r (64 - (k + 1))) 64)) (nI (k + 1) - 1) = f8_mostWithin_L2 T (100 + 8) (nI t) (nI g) n S2 (nI (mxP (wiD N t g r (64 - (k + 1))) 64)) (nI k - 1)
      rw [f8_mostWithin_L2, nI_pred]
      simp (disch := omega) only [ek, z1, nI_ltI, nI_leI, nI_eq, nI_clamp, nI_1, nI_add, nI_mul, inb_n, irm_n, nI_div, nI_m6, nI_d6, irm_6, qlt_1, qle_1, qgt_1, qge_1, qeq_1, qlt_2, qle_2, qgt_2, qge_2, qeq_2, qlt_3, qle_3, qgt_3, qge_3, qeq_3, qlt_4, qle_4, qgt_4, qge_4, qeq_4, qlt_5, qle_5, qgt_5, qge_5, qeq_5, qlt_6, qle_6, qgt_6, qge_6, qeq_6, qlt_7, qle_7, qgt_7, qge_7, qeq_7, qlt_8, qle_8, qgt_8, qge_8, qeq_8, qlt_9, qle_9, qgt_9, qge_9, qeq_9, qlt_10, qle_10, qgt_10, qge_10, qeq_10, qlt_12, qle_12, qgt_12, qge_12, qeq_12, qlt_16, qle_16, qgt_16, qge_16, qeq_16, qlt_20, qle_20, qgt_20, qge_20, qeq_20, qlt_24, qle_24, qgt_24, qge_24, qeq_24, qlt_30, qle_30, qgt_30, qge_30, qeq_30, qlt_32, qle_32, qgt_32, qge_32, qeq_32, qlt_37, qle_37, qgt_37, qge_37, qeq_37, qlt_40, qle_40, qgt_40, qge_40, qeq_40, qlt_42, qle_42, qgt_42, qge_42, qeq_42, qlt_43, qle_43, qgt_43, qge_43, qeq_43, qlt_45, qle_45, qgt_45, qge_45, qeq_45, qlt_47, qle_47, qgt_47, qge_47, qeq_47, qlt_48, qle_48, qgt_48, qge_48, qeq_48, qlt_57, qle_57, qgt_57, qge_57, qeq_57, qlt_59, qle_59, qgt_59, qge_59, qeq_59, qlt_60, qle_60, qgt_60, qge_60, qeq_60, qlt_61, qle_61, qgt_61, qge_61, qeq_61, qlt_62, qle_62, qgt_62, qge_62, qeq_62, qlt_64, qle_64, qgt_64, qge_64, qeq_64, qlt_91, qle_91, qgt_91, qge_91, qeq_91, qlt_93, qle_93, qgt_93, qge_93, qeq_93, qlt_97, qle_97, qgt_97, qge_97, qeq_97, qlt_122, qle_122, qgt_122, qge_122, qeq_122, qlt_400, qle_400, qgt_400, qge_400, qeq_400, qlt_999, qle_999, qgt_999, qge_999, qeq_999, qlt_0, qle_0, qgt_0, qge_0, qeq_0, qltm, qeqm, ↓reduceIte, Option.bind_some, not_true_eq_false, not_false_eq_true, and_true, true_and, and_false, false_and, or_false, false_or, or_true, true_or, Bool.false_eq_true, reduceCtorEq, hk64, e1]) (by
    rintro n ⟨S2, l4⟩ ⟨hk, h4, h82, hf⟩
    refine ⟨(S2, l4), ?_, h4, h82, hf⟩
    show f8_mostWithin_L2 T (100 + 8) (nI t) (nI g) (n + 1) S2 l4 (nI 0 - 1) = _
    rw [f8_mostWithin_L2, nI_0m, if_pos (by decide)]) jF 64 (S, nI (mxP r 64)) (by show _ < 5000; omega) ⟨Nat.le_refl _, rfl, hr, fun _ _ _ => rfl⟩
  exact ⟨A, p1, p2⟩
