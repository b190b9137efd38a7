def setb (N : mN) (b : Nat) : mN := fun a i => if a = 0 ∧ i = 7 then b else N a i
theorem setb_se (N : mN) (b c : Nat) : seN (wkN (setb N b) c) = seN (wkN N c) := rfl
theorem setb_rnd (N : mN) (b : Nat) : stl (wkN (setb N b) b) b = rnd N b := by
  funext a g
  unfold rnd
  by_cases h0 : a = 0
  · subst h0
    by_cases h7 : g = 7
    · subst h7; rfl
    · have e : wkN (setb N b) b 0 g = wkN N b 0 g := by
        unfold wkN setb
        simp [h7]
      unfold stl
      rw [setb_se, e]; rfl
  · have e : ∀ g, wkN (setb N b) b a g = wkN N b a g := by
      intro g
      unfold wkN setb
      simp [h0]
    unfold stl
    rw [setb_se, e, if_neg h0, if_neg h0]; rfl
theorem scn_some {t : Nat → Nat} {st fr p : Nat} (h1 : st.testBit (p / 6) = true) (h2 : fr.testBit (p % 6) = true) : ∀ k, p < k → scn t st fr k ≠ none := by
  intro k
  induction k with
  | zero => intro h; omega
  | succ k ih =>
    intro h
    unfold scn
    by_cases hc : st.testBit (k / 6) = true ∧ fr.testBit (k % 6) = true
    · rw [if_pos hc]
      cases scn t st fr k with
      | none => simp
      | some q => simp only; split <;> simp
    · rw [if_neg hc]
      by_cases e : p = k
      · subst e; exact absurd ⟨h1, h2⟩ hc
      · exact ih (by omega)
theorem sit_la {t : Nat → Nat} : ∀ (n : Nat) (q : mQ), q.2.2.2 ≠ 0 → (sitN t n q).2.2.2 ≠ 0 := by
  intro n
  induction n with
  | zero => intro q h; exact h
  | succ n ih =>
    intro q h
    unfold sitN
    cases e : sqN t q with
    | none => exact h
    | some q1 =>
      apply ih
      unfold sqN at e
      cases e2 : scn t q.1 q.2.1 42 with
      | none => rw [e2] at e; cases e
      | some p => rw [e2] at e; cases e; show p % 6 + 1 ≠ 0; omega
theorem ex_bit {x k : Nat} (hx : x < 2 ^ k) (h : x ≠ 0) : ∃ j, j < k ∧ x.testBit j = true := by
  obtain ⟨j, hj⟩ := Nat.exists_testBit_of_ne_zero h
  refine ⟨j, ?_, hj⟩
  by_cases e : j < k
  · exact e
  · have : 2 ^ k ≤ 2 ^ j := Nat.pow_le_pow_right (by omega) (by omega)
    rw [Nat.testBit_lt_two_pow (by omega)] at hj; cases hj
theorem pcn_0 : pcn 0 = 0 := rfl
/-- where it isn't over somebody sits -/
theorem la_ne {N : mN} (hN : NOk N) (ho : ¬ overN N) : (seN N).2.2.2 ≠ 0 := by
  have h3 : N 0 3 ≠ 0 := fun z => ho (Or.inr z)
  have h4 : N 0 4 ≠ 0 := fun z => ho (Or.inl (by rw [z, pcn_0]; omega))
  obtain ⟨c, c1, c2⟩ := ex_bit hN.2.2.2.1 h3
  obtain ⟨g, g1, g2⟩ := ex_bit hN.2.2.2.2.1 h4
  have hG := hN.2.2.1
  have hC := hN.2.1
  have := scn_some (t := tpN N) (st := N 0 4) (fr := N 0 3) (p := g * 6 + c) (by rw [show (g * 6 + c) / 6 = g by omega]; exact g2) (by rw [show (g * 6 + c) % 6 = c by omega]; exact c2) 42 (by omega)
  unfold seN
  rw [sitN]
  cases e : scn (tpN N) (N 0 4) (N 0 3) 42 with
  | none => exact absurd e this
  | some p =>
    have hsq : sqN (tpN N) (N 0 4, N 0 3, fun _ => 0, 0) = some (clr (N 0 4) (p / 6), clr (N 0 3) (p % 6), (fun g => if g = p / 6 then p % 6 else 0), p % 6 + 1) := by unfold sqN; rw [e]; rfl
    rw [hsq]
    apply sit_la
    show p % 6 + 1 ≠ 0
    omega
theorem overN_wk {N : mN} {b : Nat} : overN (wkN N b) ↔ overN N := Iff.rfl
theorem r_done {S : jS} {N : mN} (hN : NOk N) (h : HIs (hV S.1) N) : (overN N → f11_isDone S = some 1) ∧ (¬ overN N → f11_isDone S = some 0) := by
  have e6 := HV4 h
  have e7 := HV3 h
  have hi := hN.i
  have ht := hN.t
  have hp := pcn_le0 _ hi
  unfold f11_isDone overN
  simp (disch := omega) only [e6, e7, bits1, nI_ltI, nI_leI, nI_eq, nI_clamp, nI_1, nI_add, nI_mul, inb_n, irm_n, nI_div, nI_m6, nI_d6, irm_6, qlt_1, qle_1, qgt_1, qge_1, qeq_1, qlt_2, qle_2, qgt_2, qge_2, qeq_2, qlt_3, qle_3, qgt_3, qge_3, qeq_3, qlt_4, qle_4, qgt_4, qge_4, qeq_4, qlt_5, qle_5, qgt_5, qge_5, qeq_5, qlt_6, qle_6, qgt_6, qge_6, qeq_6, qlt_7, qle_7, qgt_7, qge_7, qeq_7, qlt_8, qle_8, qgt_8, qge_8, qeq_8, qlt_9, qle_9, qgt_9, qge_9, qeq_9, qlt_10, qle_10, qgt_10, qge_10, qeq_10, qlt_12, qle_12, qgt_12, qge_12, qeq_12, qlt_16, qle_16, qgt_16, qge_16, qeq_16, qlt_20, qle_20, qgt_20, qge_20, qeq_20, qlt_24, qle_24, qgt_24, qge_24, qeq_24, qlt_30, qle_30, qgt_30, qge_30, qeq_30, qlt_32, qle_32, qgt_32, qge_32, qeq_32, qlt_37, qle_37, qgt_37, qge_37, qeq_37, qlt_40, qle_40, qgt_40, qge_40, qeq_40, qlt_42, qle_42, qgt_42, qge_42, qeq_42, qlt_43, qle_43, qgt_43, qge_43, qeq_43, qlt_45, qle_45, qgt_45, qge_45, qeq_45, qlt_47, qle_47, qgt_47, qge_47, qeq_47, qlt_48, qle_48, qgt_48, qge_48, qeq_48, qlt_57, qle_57, qgt_57, qge_57, qeq_57, qlt_59, qle_59, qgt_59, qge_59, qeq_59, qlt_60, qle_60, qgt_60, qge_60, qeq_60, qlt_61, qle_61, qgt_61, qge_61, qeq_61, qlt_62, qle_62, qgt_62, qge_62, qeq_62, qlt_64, qle_64, qgt_64, qge_64, qeq_64, qlt_91, qle_91, qgt_91, qge_91, qeq_91, qlt_93, qle_93, qgt_93, qge_93, qeq_93, qlt_97, qle_97, qgt_97, qge_97, qeq_97, qlt_122, qle_122, qgt_122, qge_122, qeq_122, qlt_400, qle_400, qgt_400, qge_400, qeq_400, qlt_999, qle_999, qgt_999, qge_999, qeq_999, qlt_0, qle_0, qgt_0, qge_0, qeq_0, qltm, qeqm, ↓reduceIte, Option.bind_some, not_true_eq_false, not_false_eq_true, and_true, true_and, and_false, false_and, or_false, false_or, or_true, true_or, Bool.false_eq_true, reduceCtorEq]
  constructor
  · intro z
    by_cases c : pcn (N 0 4) < 2
    · rw [if_pos c]
    · rw [if_neg c, if_pos (by omega)]
  · intro z
    rw [if_neg (by omega), if_neg (by omega)]
theorem c_over {S : jS} {o : Nat} {N : mN} (hN : NOk N) (h : HIs (hC S o) N) : (overN N → f4_isOver S o = some 1) ∧ (¬ overN N → f4_isOver S o = some 0) := by
  have e3 : S.1 o 3 = nI (N 0 3) := h.1 3 (by omega) (by omega)
  have e4 : S.1 o 4 = nI (N 0 4) := h.1 4 (by omega) (by omega)
  have hi := hN.i
  have ht := hN.t
  have hp := pcn_le0 _ hi
  unfold f4_isOver overN
  simp (disch := omega) only [e3, e4, bitc, nI_ltI, nI_leI, nI_eq, nI_clamp, nI_1, nI_add, nI_mul, inb_n, irm_n, nI_div, nI_m6, nI_d6, irm_6, qlt_1, qle_1, qgt_1, qge_1, qeq_1, qlt_2, qle_2, qgt_2, qge_2, qeq_2, qlt_3, qle_3, qgt_3, qge_3, qeq_3, qlt_4, qle_4, qgt_4, qge_4, qeq_4, qlt_5, qle_5, qgt_5, qge_5, qeq_5, qlt_6, qle_6, qgt_6, qge_6, qeq_6, qlt_7, qle_7, qgt_7, qge_7, qeq_7, qlt_8, qle_8, qgt_8, qge_8, qeq_8, qlt_9, qle_9, qgt_9, qge_9, qeq_9, qlt_10, qle_10, qgt_10, qge_10, qeq_10, qlt_12, qle_12, qgt_12, qge_12, qeq_12, qlt_16, qle_16, qgt_16, qge_16, qeq_16, qlt_20, qle_20, qgt_20, qge_20, qeq_20, qlt_24, qle_24, qgt_24, qge_24, qeq_24, qlt_30, qle_30, qgt_30, qge_30, qeq_30, qlt_32, qle_32, qgt_32, qge_32, qeq_32, qlt_37, qle_37, qgt_37, qge_37, qeq_37, qlt_40, qle_40, qgt_40, qge_40, qeq_40, qlt_42, qle_42, qgt_42, qge_42, qeq_42, qlt_43, qle_43, qgt_43, qge_43, qeq_43, qlt_45, qle_45, qgt_45, qge_45, qeq_45, qlt_47, qle_47, qgt_47, qge_47, qeq_47, qlt_48, qle_48, qgt_48, qge_48, qeq_48, qlt_57, qle_57, qgt_57, qge_57, qeq_57, qlt_59, qle_59, qgt_59, qge_59, qeq_59, qlt_60, qle_60, qgt_60, qge_60, qeq_60, qlt_61, qle_61, qgt_61, qge_61, qeq_61, qlt_62, qle_62, qgt_62, qge_62, qeq_62, qlt_64, qle_64, qgt_64, qge_64, qeq_64, qlt_91, qle_91, qgt_91, qge_91, qeq_91, qlt_93, qle_93, qgt_93, qge_93, qeq_93, qlt_97, qle_97, qgt_97, qge_97, qeq_97, qlt_122, qle_122, qgt_122, qge_122, qeq_122, qlt_400, qle_400, qgt_400, qge_400, qeq_400, qlt_999, qle_999, qgt_999, qge_999, qeq_999, qlt_0, qle_0, qgt_0, qge_0, qeq_0, qltm, qeqm, ↓reduceIte, Option.bind_some, not_true_eq_false, not_false_eq_true, and_true, true_and, and_false, false_and, or_false, false_or, or_true, true_or, Bool.false_eq_true, reduceCtorEq]
  constructor
  · intro z
    by_cases c : pcn (N 0 4) ≤ 1
    · rw [if_pos c]
    · rw [if_neg c, if_pos (by omega)]
  · intro z
    rw [if_neg (by omega), if_neg (by omega)]
theorem r_walk {S : jS} {N : mN} {b : Nat} (hN : NOk N) (h : HIs (hV S.1) N) (h4 : S.1 1 4 = nI b) (hb : b ≤ 60) : ∃ S1, f11_goes_L1 jF S 0 = some S1 ∧ (∀ a i, S1.1 a i = if a = 2 ∧ i < N 0 2 then nI (wkN N b 2 i) else S.1 a i) ∧ S1.2 = S.2 := by
  have hi := hN.i
  obtain ⟨h1, h2, h3, -, -, -, -, h8, -, h10⟩ := id hN
  exact lp_up (G := N 0 2) (Post := fun r : jS => (∀ a i, r.1 a i = if a = 2 ∧ i < N 0 2 then nI (wkN N b 2 i) else S.1 a i) ∧ r.2 = S.2) (fun n k S' => f11_goes_L1 n S' (nI k)) (fun k r => (∀ a i, r.1 a i = if a = 2 ∧ i < k then nI (wkN N b 2 i) else S.1 a i) ∧ r.2 = S.2) (by
    intro n k S' hk ⟨hI, hL⟩
    left
    have f0 : S'.1 1 0 = nI (N 0 0) := by rw [hI, if_neg (by omega)]; exact HV0 h
    have f2 : S'.1 1 2 = nI (N 0 2) := by rw [hI, if_neg (by omega)]; exact HV2 h
    have f6 : S'.1 1 6 = nI (N 0 4) := by rw [hI, if_neg (by omega)]; exact HV4 h
    have f4 : S'.1 1 4 = nI b := by rw [hI, if_neg (by omega)]; exact h4
    have g2 : S'.1 2 k = nI (N 2 k) := by rw [hI, if_neg (by omega)]; exact HVg h (by omega) (by omega) hk
    have g3 : S'.1 3 k = nI (N 3 k) := by rw [hI, if_neg (by omega)]; exact HVg h (by omega) (by omega) hk
    obtain ⟨a1, a2, -⟩ := h10 k hk
    have hm : N 3 k * b ≤ 5 * 60 := Nat.mul_le_mul a2 hb
    have hm' : b * N 3 k ≤ 300 := by rw [Nat.mul_comm]; exact hm
    have n1 : ¬ N 0 2 ≤ k := by omega
    have n2 : ¬ N 0 0 = 0 := by omega
    have n7 : k < 7 := by omega
    refine ⟨wI S' 2 k (nI (wkN N b 2 k)), ?_, ?_, hL⟩
    · by_cases ht : (N 0 4).testBit k = true
      · have e : wkN N b 2 k = (N 2 k + b * N 3 k) % N 0 0 := by
          unfold wkN; rw [if_pos ⟨rfl, hk, ht⟩, Nat.mul_comm]
        simp (disch := omega) only [f11_goes_L1, f11_placeIn, f0, f2, f4, f6, g2, g3, nI_ltI, nI_leI, nI_eq, nI_clamp, nI_1, nI_add, nI_mul, inb_n, irm_n, nI_div, nI_m6, nI_d6, irm_6, qlt_1, qle_1, qgt_1, qge_1, qeq_1, qlt_2, qle_2, qgt_2, qge_2, qeq_2, qlt_3, qle_3, qgt_3, qge_3, qeq_3, qlt_4, qle_4, qgt_4, qge_4, qeq_4, qlt_5, qle_5, qgt_5, qge_5, qeq_5, qlt_6, qle_6, qgt_6, qge_6, qeq_6, qlt_7, qle_7, qgt_7, qge_7, qeq_7, qlt_8, qle_8, qgt_8, qge_8, qeq_8, qlt_9, qle_9, qgt_9, qge_9, qeq_9, qlt_10, qle_10, qgt_10, qge_10, qeq_10, qlt_12, qle_12, qgt_12, qge_12, qeq_12, qlt_16, qle_16, qgt_16, qge_16, qeq_16, qlt_20, qle_20, qgt_20, qge_20, qeq_20, qlt_24, qle_24, qgt_24, qge_24, qeq_24, qlt_30, qle_30, qgt_30, qge_30, qeq_30, qlt_32, qle_32, qgt_32, qge_32, qeq_32, qlt_37, qle_37, qgt_37, qge_37, qeq_37, qlt_40, qle_40, qgt_40, qge_40, qeq_40, qlt_42, qle_42, qgt_42, qge_42, qeq_42, qlt_43, qle_43, qgt_43, qge_43, qeq_43, qlt_45, qle_45, qgt_45, qge_45, qeq_45, qlt_47, qle_47, qgt_47, qge_47, qeq_47, qlt_48, qle_48, qgt_48, qge_48, qeq_48, qlt_57, qle_57, qgt_57, qge_57, qeq_57, qlt_59, qle_59, qgt_59, qge_59, qeq_59, qlt_60, qle_60, qgt_60, qge_60, qeq_60, qlt_61, qle_61, qgt_61, qge_61, qeq_61, qlt_62, qle_62, qgt_62, qge_62, qeq_62, qlt_64, qle_64, qgt_64, qge_64, qeq_64, qlt_91, qle_91, qgt_91, qge_91, qeq_91, qlt_93, qle_93, qgt_93, qge_93, qeq_93, qlt_97, qle_97, qgt_97, qge_97, qeq_97, qlt_122, qle_122, qgt_122, qge_122, qeq_122, qlt_400, qle_400, qgt_400, qge_400, qeq_400, qlt_999, qle_999, qgt_999, qge_999, qeq_999, qlt_0, qle_0, qgt_0, qge_0, qeq_0, qltm, qeqm, r_has, ↓reduceIte, Option.bind_some, not_true_eq_false, not_false_eq_true, and_true, true_and, and_false, false_and, or_false, false_or, or_true, true_or, Bool.false_eq_true, reduceCtorEq, n1, n2, n7, ht, e, one_ne0]
      · have e : wkN N b 2 k = N 2 k := by
          unfold wkN; rw [if_neg (fun z => ht z.2.2)]
        simp (disch := omega) only [f11_goes_L1, f2, f6, g2, nI_ltI, nI_leI, nI_eq, nI_clamp, nI_1, nI_add, nI_mul, inb_n, irm_n, nI_div, nI_m6, nI_d6, irm_6, qlt_1, qle_1, qgt_1, qge_1, qeq_1, qlt_2, qle_2, qgt_2, qge_2, qeq_2, qlt_3, qle_3, qgt_3, qge_3, qeq_3, qlt_4, qle_4, qgt_4, qge_4, qeq_4, qlt_5, qle_5, qgt_5, qge_5, qeq_5, qlt_6, qle_6, qgt_6, qge_6, qeq_6, qlt_7, qle_7, qgt_7, qge_7, qeq_7, qlt_8, qle_8, qgt_8, qge_8, qeq_8, qlt_9, qle_9, qgt_9, qge_9, qeq_9, qlt_10, qle_10, qgt_10, qge_10, qeq_10, qlt_12, qle_12, qgt_12, qge_12, qeq_12, qlt_16, qle_16, qgt_16, qge_16, qeq_16, qlt_20, qle_20, qgt_20, qge_20, qeq_20, qlt_24, qle_24, qgt_24, qge_24, qeq_24, qlt_30, qle_30, qgt_30, qge_30, qeq_30, qlt_32, qle_32, qgt_32, qge_32, qeq_32, qlt_37, qle_37, qgt_37, qge_37, qeq_37, qlt_40, qle_40, qgt_40, qge_40, qeq_40, qlt_42, qle_42, qgt_42, qge_42, qeq_42, qlt_43, qle_43, qgt_43, qge_43, qeq_43, qlt_45, qle_45, qgt_45, qge_45, qeq_45, qlt_47, qle_47, qgt_47, qge_47, qeq_47, qlt_48, qle_48, qgt_48, qge_48, qeq_48, qlt_57, qle_57, qgt_57, qge_57, qeq_57, qlt_59, qle_59, qgt_59, qge_59, qeq_59, qlt_60, qle_60, qgt_60, qge_60, qeq_60, qlt_61, qle_61, qgt_61, qge_61, qeq_61, qlt_62, qle_62, qgt_62, qge_62, qeq_62, qlt_64, qle_64, qgt_64, qge_64, qeq_64, qlt_91, qle_91, qgt_91, qge_91, qeq_91, qlt_93, qle_93, qgt_93, qge_93, qeq_93, qlt_97, qle_97, qgt_97, qge_97, qeq_97, qlt_122, qle_122, qgt_122, qge_122, qeq_122, qlt_400, qle_400, qgt_400, qge_400, qeq_400, qlt_999, qle_999, qgt_999, qge_999, qeq_999, qlt_0, qle_0, qgt_0, qge_0, qeq_0, qltm, qeqm, r_has, ↓reduceIte, Option.bind_some, not_true_eq_false, not_false_eq_true, and_true, true_and, and_false, false_and, or_false, false_or, or_true, true_or, Bool.false_eq_true, reduceCtorEq, n1, n7, ht, e]
    · intro a i
      rw [wI_g, hI]
      grind) (by
    intro n S' ⟨hI, hL⟩
    have f2 : S'.1 1 2 = nI (N 0 2) := by rw [hI, if_neg (by omega)]; exact HV2 h
    refine ⟨S', ?_, hI, hL⟩
    simp (disch := omega) only [f11_goes_L1, f2, nI_ltI, nI_leI, nI_eq, nI_clamp, nI_1, nI_add, nI_mul, inb_n, irm_n, nI_div, nI_m6, nI_d6, irm_6, qlt_1, qle_1, qgt_1, qge_1, qeq_1, qlt_2, qle_2, qgt_2, qge_2, qeq_2, qlt_3, qle_3, qgt_3, qge_3, qeq_3, qlt_4, qle_4, qgt_4, qge_4, qeq_4, qlt_5, qle_5, qgt_5, qge_5, qeq_5, qlt_6, qle_6, qgt_6, qge_6, qeq_6, qlt_7, qle_7, qgt_7, qge_7, qeq_7, qlt_8, qle_8, qgt_8, qge_8, qeq_8, qlt_9, qle_9, qgt_9, qge_9, qeq_9, qlt_10, qle_10, qgt_10, qge_10, qeq_10, qlt_12, qle_12, qgt_12, qge_12, qeq_12, qlt_16, qle_16, qgt_16, qge_16, qeq_16, qlt_20, qle_20, qgt_20, qge_20, qeq_20, qlt_24, qle_24, qgt_24, qge_24, qeq_24, qlt_30, qle_30, qgt_30, qge_30, qeq_30, qlt_32, qle_32, qgt_32, qge_32, qeq_32, qlt_37, qle_37, qgt_37, qge_37, qeq_37, qlt_40, qle_40, qgt_40, qge_40, qeq_40, qlt_42, qle_42, qgt_42, qge_42, qeq_42, qlt_43, qle_43, qgt_43, qge_43, qeq_43, qlt_45, qle_45, qgt_45, qge_45, qeq_45, qlt_47, qle_47, qgt_47, qge_47, qeq_47, qlt_48, qle_48, qgt_48, qge_48, qeq_48, qlt_57, qle_57, qgt_57, qge_57, qeq_57, qlt_59, qle_59, qgt_59, qge_59, qeq_59, qlt_60, qle_60, qgt_60, qge_60, qeq_60, qlt_61, qle_61, qgt_61, qge_61, qeq_61, qlt_62, qle_62, qgt_62, qge_62, qeq_62, qlt_64, qle_64, qgt_64, qge_64, qeq_64, qlt_91, qle_91, qgt_91, qge_91, qeq_91, qlt_93, qle_93, qgt_93, qge_93, qeq_93, qlt_97, qle_97, qgt_97, qge_97, qeq_97, qlt_122, qle_122, qgt_122, qge_122, qeq_122, qlt_400, qle_400, qgt_400, qge_400, qeq_400, qlt_999, qle_999, qgt_999, qge_999, qeq_999, qlt_0, qle_0, qgt_0, qge_0, qeq_0, qltm, qeqm, ↓reduceIte, Option.bind_some, not_true_eq_false, not_false_eq_true, and_true, true_and, and_false, false_and, or_false, false_or, or_true, true_or, Bool.false_eq_true, reduceCtorEq, Nat.le_refl]) jF 0 S (Nat.zero_le _) (by show _ < 5000; omega) ⟨fun a i => by rw [if_neg (by omega)], rfl⟩
/-- rows and scalars that a round of the reference leaves alone -/
def rF (S S1 : jS) : Prop := ∀ a i, a ≠ 2 → a ≠ 5 → a ≠ 6 → a ≠ 39 → ¬ (a = 0 ∧ i = 41) → ¬ (a = 1 ∧ 3 ≤ i ∧ i ≤ 7) → S1.1 a i = S.1 a i
theorem r_round {S S0 : jS} {N : mN} {b : Nat} (hN : NOk N) (h : HIs (hV S.1) N) (ho : ¬ overN N) (hb : b ≤ 60) (hw : f11_beatsWanted S = some (S0, nI b)) (h0 : S0.1 = S.1) : ∃ S1, f11_goes S = some (S1, nI (rnd N b 0 4)) ∧ HIs (hV S1.1) (rnd N b) ∧ rF S S1 ∧ S1.2 = S0.2 := by
  have hN' : NOk (setb N b) := by
    obtain ⟨h1, h2, h3, h4, h5, h6, h7, h8, h9, h10⟩ := hN
    exact ⟨h1, h2, h3, h4, h5, h6, hb, h8, h9, h10⟩
  have hh : HIs (hV (wI S0 1 4 (nI b)).1) (setb N b) := by
    have q : ∀ a i, ¬ (a = 1 ∧ i = 4) → (wI S0 1 4 (nI b)).1 a i = S.1 a i := by
      intro a i z; rw [wI_g, if_neg z, h0]
    refine HIs_V ?_ ?_ ?_ ?_ ?_ ?_ ?_ ?_ (fun c hc => ?_) (fun a g h1 h2 hg => ?_)
    · rw [q _ _ (by omega)]; exact (HV0 h).trans rfl
    · rw [q _ _ (by omega)]; exact (HV1 h).trans rfl
    · rw [q _ _ (by omega)]; exact (HV2 h).trans rfl
    · rw [q _ _ (by omega)]; exact (HV3 h).trans rfl
    · rw [q _ _ (by omega)]; exact (HV4 h).trans rfl
    · rw [q _ _ (by omega)]; exact (HV5 h).trans rfl
    · rw [q _ _ (by omega)]; exact (HV6 h).trans rfl
    · rw [wI_self]; rfl
    · rw [q _ _ (by omega)]; exact (HVc h hc).trans rfl
    · rw [q _ _ (by omega), HVg h h1 h2 hg]
      unfold setb; rw [if_neg (by omega)]
  obtain ⟨S1, p1, p2, p3⟩ := r_walk hN' hh (wI_self _ _ _ _) hb
  have hN1 : NOk (wkN (setb N b) b) := wkN_ok hN'
  have h1 : HIs (hV S1.1) (wkN (setb N b) b) := by
    refine HIs_V ?_ ?_ ?_ ?_ ?_ ?_ ?_ ?_ (fun c hc => ?_) (fun a g h1 h2 hg => ?_)
    · rw [p2, if_neg (by omega)]; exact (HV0 hh).trans rfl
    · rw [p2, if_neg (by omega)]; exact (HV1 hh).trans rfl
    · rw [p2, if_neg (by omega)]; exact (HV2 hh).trans rfl
    · rw [p2, if_neg (by omega)]; exact (HV3 hh).trans rfl
    · rw [p2, if_neg (by omega)]; exact (HV4 hh).trans rfl
    · rw [p2, if_neg (by omega)]; exact (HV5 hh).trans rfl
    · rw [p2, if_neg (by omega)]; exact (HV6 hh).trans rfl
    · rw [p2, if_neg (by omega)]; exact (HV7 hh).trans rfl
    · rw [p2, if_neg (by omega)]; exact (HVc hh hc).trans rfl
    · have hg' : g < setb N b 0 2 := hg
      rw [p2]
      by_cases e : a = 2
      · subst e; rw [if_pos ⟨rfl, hg'⟩]
      · rw [if_neg (fun z => e z.1), HVg hh h1 h2 hg']
        show nI (setb N b a g) = nI (if a = 2 ∧ g < setb N b 0 2 ∧ (setb N b 0 4).testBit g = true then _ else setb N b a g)
        rw [if_neg (fun z => e z.1)]
  obtain ⟨S2, y, q1, q2, q3, q4, q5⟩ := r_sits hN1 h1
  have h2 : HIs (hV S2.1) (wkN (setb N b) b) := HV_mono h1 (fun a i a1 a2 => q2 a i (by omega) (by omega))
  obtain ⟨S3, r1, r4, r6, rI, rL⟩ := r_leaves (b := b) hN1 h2 q4
  have hla := la_ne hN1 (show ¬ overN (wkN (setb N b) b) from ho)
  have hl := (seN_ok hN1).2.2.2
  have hC6 := hN1.2.1
  have f41 : S3.1 0 41 = nI ((seN (wkN (setb N b) b)).2.2.2 - 1) := by rw [rI _ _ (by omega), if_neg (by omega)]; exact q5 hla
  have f7 : S3.1 1 7 = nI (wkN (setb N b) b 0 3) := by rw [rI _ _ (by omega), if_neg (by omega)]; exact (HV3 h2).trans rfl
  have f3 : S3.1 1 3 = nI (wkN (setb N b) b 0 5) := by rw [rI _ _ (by omega), if_neg (by omega)]; exact (HV5 h2).trans rfl
  have ht := hN1.t
  have n7 : (seN (wkN (setb N b) b)).2.2.2 - 1 < 7 := by omega
  have n128 : wkN (setb N b) b 0 3 < 128 := by omega
  rw [← setb_rnd]
  have w3 : stl (wkN (setb N b) b) b 0 3 = clr (wkN (setb N b) b 0 3) ((seN (wkN (setb N b) b)).2.2.2 - 1) := by unfold stl; rw [if_pos rfl, if_pos rfl, if_neg hla]
  refine ⟨wI (wI S3 1 7 (nI (stl (wkN (setb N b) b) b 0 3))) 1 3 (nI (wkN (setb N b) b 0 5 + 1)), ?_, ?_, ?_, ?_⟩
  · unfold f11_goes
    simp (disch := omega) only [(r_done hN h).2 ho, hw, p1, q1, r1, f41, f7, f3, r4, nI_1, ↓reduceIte, Option.bind_some, not_true_eq_false, not_false_eq_true, and_true, true_and, and_false, false_and, or_false, false_or, or_true, true_or, Bool.false_eq_true, reduceCtorEq, wI_self, wI_ne, wI_nj, wI_L, b_clr, w3]
  · refine HIs_V ?_ ?_ ?_ ?_ ?_ ?_ ?_ ?_ (fun c hc => ?_) (fun a g h1' h2' hg => ?_)
    · simp (disch := omega) only [wI_self, wI_ne, wI_nj, wI_L]; rw [rI _ _ (by omega), if_neg (by omega)]; exact (HV0 h2).trans rfl
    · simp (disch := omega) only [wI_self, wI_ne, wI_nj, wI_L]; rw [rI _ _ (by omega), if_neg (by omega)]; exact (HV1 h2).trans rfl
    · simp (disch := omega) only [wI_self, wI_ne, wI_nj, wI_L]; rw [rI _ _ (by omega), if_neg (by omega)]; exact (HV2 h2).trans rfl
    · simp (disch := omega) only [wI_self, wI_ne, wI_nj, wI_L]
    · simp (disch := omega) only [wI_self, wI_ne, wI_nj, wI_L]; exact r4
    · simp (disch := omega) only [wI_self, wI_ne, wI_nj, wI_L]; rfl
    · simp (disch := omega) only [wI_self, wI_ne, wI_nj, wI_L]; exact r6
    · simp (disch := omega) only [wI_self, wI_ne, wI_nj, wI_L]; rw [rI _ _ (by omega), if_neg (by omega)]; exact (HV7 h2).trans rfl
    · simp (disch := omega) only [wI_self, wI_ne, wI_nj, wI_L]; rw [rI _ _ (by omega), if_neg (by omega)]; exact (HVc h2 hc).trans rfl
    · simp (disch := omega) only [wI_self, wI_ne, wI_nj, wI_L]
      have hg' : g < wkN (setb N b) b 0 2 := hg
      rw [rI _ _ (by omega)]
      by_cases e : (a = 2 ∨ a = 5 ∨ a = 6) ∧ (dif (wkN (setb N b) b 0 4) (seN (wkN (setb N b) b)).1).testBit g = true
      · rw [if_pos ⟨e.1, hg', e.2⟩]
      · rw [if_neg (fun z => e ⟨z.1, z.2.2⟩)]
        have : stl (wkN (setb N b) b) b a g = wkN (setb N b) b a g := by
          unfold stl
          rw [if_neg (by omega), if_neg (fun z => e ⟨Or.inl z.1, z.2⟩), if_neg (fun z => e ⟨Or.inr (Or.inl z.1), z.2⟩), if_neg (fun z => e ⟨Or.inr (Or.inr z.1), z.2⟩)]
        rw [this]; exact HVg h2 h1' h2' hg'
  · intro a i b2 b5 b6 b39 b41 b1
    rw [wI_g, wI_g, if_neg (by omega), if_neg (by omega), rI _ _ (by omega), if_neg (by omega), q2 _ _ b39 b41, p2, if_neg (by omega), wI_g, if_neg (by omega), h0]
  · show S3.2 = _
    rw [rL, q3, p3]; rfl
