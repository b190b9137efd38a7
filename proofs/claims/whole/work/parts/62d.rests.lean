def cnB (b : Nat → Bool) : Nat → Nat
  | 0 => 0
  | k + 1 => cnB b k + (if b k = true then 1 else 0)
def fiB (b : Nat → Bool) : Nat → Nat
  | 0 => 0
  | k + 1 => if fiB b k = 0 then (if b k = true then k + 1 else 0) else fiB b k
theorem cn_fi {b : Nat → Bool} : ∀ k, cnB b k = 0 ↔ fiB b k = 0 := by
  intro k
  induction k with
  | zero => exact Iff.rfl
  | succ k ih =>
    unfold cnB fiB
    by_cases h : fiB b k = 0
    · rw [if_pos h, ih.mpr h]
      split <;> omega
    · rw [if_neg h]
      have := fun z => h (ih.mp z)
      constructor
      · intro z; omega
      · intro z; exact absurd z h
theorem cn_le {b : Nat → Bool} : ∀ k, cnB b k ≤ k ∧ fiB b k ≤ k := by
  intro k
  induction k with
  | zero => exact ⟨Nat.le_refl _, Nat.le_refl _⟩
  | succ k ih =>
    unfold cnB fiB
    refine ⟨by split <;> omega, ?_⟩
    split
    · split <;> omega
    · omega
theorem fi_stay {b : Nat → Bool} {k : Nat} (h : fiB b k ≠ 0) : ∀ d, fiB b (k + d) = fiB b k := by
  intro d
  induction d with
  | zero => rfl
  | succ d ih =>
    show fiB b (k + d + 1) = _
    rw [fiB, ih, if_neg h]
theorem lt36 {k : Nat} (h : k < 36) : ¬ (36 : Int32) ≤ nI k := fun z => by
  have := (nI_leI (a := 36) (b := k) (by omega) (by omega)).mp z
  omega
theorem c_count {S : jS} {b : Nat → Bool} (h : ∀ p, p < 36 → f2_isRest S (nI p) = some (if b p = true then 1 else 0)) : f2_countRests S = some (nI (cnB b 36)) := by
  obtain ⟨r, hr, hq⟩ := lp_up (G := 36) (Post := fun r : Int32 => r = nI (cnB b 36)) (fun n k f => f2_countRests_L1 S n f (nI k)) (fun k f => f = nI (cnB b k)) (by
    intro n k f hk hI
    subst hI
    left
    refine ⟨_, ?_, rfl⟩
    show f2_countRests_L1 S (n + 1) (nI (cnB b k)) (nI k) = _
    rw [f2_countRests_L1, h k hk, cnB, if_neg (lt36 hk)]
    by_cases hb : b k = true
    · simp only [hb, ↓reduceIte, Option.bind_some, not_true_eq_false, not_false_eq_true, and_true, true_and, and_false, false_and, or_false, false_or, or_true, true_or, Bool.false_eq_true, reduceCtorEq, one_ne0, nI_1]
    · simp only [hb, ↓reduceIte, Option.bind_some, not_true_eq_false, not_false_eq_true, and_true, true_and, and_false, false_and, or_false, false_or, or_true, true_or, Bool.false_eq_true, reduceCtorEq, Nat.add_zero, nI_1]) (by
    intro n f hI
    refine ⟨f, ?_, hI⟩
    show f2_countRests_L1 S (n + 1) f (nI 36) = _
    rw [f2_countRests_L1, if_pos (show (36 : Int32) ≤ nI 36 by decide)]) jF 0 0 (Nat.zero_le _) (by show _ < 5000; omega) rfl
  have hr' : f2_countRests_L1 S jF 0 0 = some r := hr
  unfold f2_countRests
  rw [hr', hq]; rfl
theorem c_first {S : jS} {b : Nat → Bool} (h : ∀ p, p < 36 → f2_isRest S (nI p) = some (if b p = true then 1 else 0)) : f2_firstRest S = some (nI (fiB b 36) - 1) := by
  obtain ⟨r, hr, hq⟩ := lp_up (G := 36) (Post := fun r : Int32 => r = nI (fiB b 36) - 1) (fun n k (_ : Unit) => f2_firstRest_L1 S n (nI k)) (fun k _ => fiB b k = 0) (by
    intro n k _ hk hI
    show (∃ a', f2_firstRest_L1 S (n + 1) (nI k) = f2_firstRest_L1 S n (nI (k + 1)) ∧ fiB b (k + 1) = 0) ∨ ∃ r, f2_firstRest_L1 S (n + 1) (nI k) = some r ∧ r = nI (fiB b 36) - 1
    rw [f2_firstRest_L1, h k hk, if_neg (lt36 hk)]
    by_cases hb : b k = true
    · right
      refine ⟨nI k, ?_, ?_⟩
      · simp only [hb, ↓reduceIte, Option.bind_some, not_true_eq_false, not_false_eq_true, and_true, true_and, and_false, false_and, or_false, false_or, or_true, true_or, Bool.false_eq_true, reduceCtorEq, one_ne0]
      · have e : fiB b (k + 1) = k + 1 := by rw [fiB, if_pos hI, if_pos hb]
        have := fi_stay (b := b) (k := k + 1) (by omega) (35 - k)
        rw [show k + 1 + (35 - k) = 36 by omega, e] at this
        rw [this]; exact (nI_pred k).symm
    · left
      refine ⟨(), ?_, ?_⟩
      · simp only [hb, ↓reduceIte, Option.bind_some, not_true_eq_false, not_false_eq_true, and_true, true_and, and_false, false_and, or_false, false_or, or_true, true_or, Bool.false_eq_true, reduceCtorEq, nI_1]
      · rw [fiB, if_pos hI, if_neg hb]) (by
    intro n _ hI
    refine ⟨-1, ?_, ?_⟩
    · show f2_firstRest_L1 S (n + 1) (nI 36) = _
      rw [f2_firstRest_L1, if_pos (show (36 : Int32) ≤ nI 36 by decide)]
    · rw [hI, nI_0m]) jF 0 () (Nat.zero_le _) (by show _ < 5000; omega) rfl
  unfold f2_firstRest
  rw [← hq]; exact hr
def fiV (b : Nat → Bool) (k : Nat) : Int32 × Int32 × Int32 := (nI (cnB b k), if fiB b k = 0 then -2 else nI ((fiB b k - 1) / 6), if fiB b k = 0 then -2 else nI ((fiB b k - 1) % 6))
theorem fiV_1 (b : Nat → Bool) (k : Nat) : (fiV b k).1 = nI (cnB b k) := rfl
theorem fiV_2 (b : Nat → Bool) (k : Nat) : (fiV b k).2.1 = if fiB b k = 0 then -2 else nI ((fiB b k - 1) / 6) := rfl
theorem fiV_3 (b : Nat → Bool) (k : Nat) : (fiV b k).2.2 = if fiB b k = 0 then -2 else nI ((fiB b k - 1) % 6) := rfl
theorem r_rests2 {X : jS} {b : Nat → Bool} {i : Nat} {l4 : Int32} (hi : i < 6) (h : ∀ i k, i < 6 → k < 6 → f11_isRest X (nI i) (nI k) = some (if b (i * 6 + k) = true then 1 else 0)) : ∃ r, f11_rests_L2 X l4 (nI i) jF (fiV b (i * 6)).1 (fiV b (i * 6)).2.1 (fiV b (i * 6)).2.2 0 = some r ∧ r = fiV b (i * 6 + 6) := by
  exact lp_up (G := 6) (Post := fun r : Int32 × Int32 × Int32 => r = fiV b (i * 6 + 6)) (fun n k (f : Int32 × Int32 × Int32) => f11_rests_L2 X l4 (nI i) n f.1 f.2.1 f.2.2 (nI k)) (fun k f => f = fiV b (i * 6 + k)) (by
    intro n k f hk hI
    subst hI
    left
    refine ⟨fiV b (i * 6 + (k + 1)), ?_, rfl⟩
    have n1 : ¬ 5 < k := by omega
    have hle := cn_le (b := b) (i * 6 + k)
    show f11_rests_L2 X l4 (nI i) (n + 1) (fiV b (i * 6 + k)).1 (fiV b (i * 6 + k)).2.1 (fiV b (i * 6 + k)).2.2 (nI k) = f11_rests_L2 X l4 (nI i) n (fiV b (i * 6 + (k + 1))).1 (fiV b (i * 6 + (k + 1))).2.1 (fiV b (i * 6 + (k + 1))).2.2 (nI (k + 1))
    rw [f11_rests_L2, h i k hi hk, ← Nat.add_assoc]
    unfold fiV
    simp only [cnB, fiB]
    by_cases hb : b (i * 6 + k) = true
    · by_cases hz : fiB b (i * 6 + k) = 0
      · have hc := (cn_fi (b := b) (i * 6 + k)).mpr hz
        have d1 : (i * 6 + k + 1 - 1) / 6 = i := by omega
        have d2 : (i * 6 + k + 1 - 1) % 6 = k := by omega
        have d3 : ¬ i * 6 + k + 1 = 0 := by omega
        simp (disch := omega) only [hb, hz, hc, nI_ltI, nI_leI, nI_eq, nI_clamp, nI_1, nI_add, nI_mul, inb_n, irm_n, nI_div, nI_m6, nI_d6, irm_6, qlt_1, qle_1, qgt_1, qge_1, qeq_1, qlt_2, qle_2, qgt_2, qge_2, qeq_2, qlt_3, qle_3, qgt_3, qge_3, qeq_3, qlt_4, qle_4, qgt_4, qge_4, qeq_4, qlt_5, qle_5, qgt_5, qge_5, qeq_5, qlt_6, qle_6, qgt_6, qge_6, qeq_6, qlt_7, qle_7, qgt_7, qge_7, qeq_7, qlt_8, qle_8, qgt_8, qge_8, qeq_8, qlt_9, qle_9, qgt_9, qge_9, qeq_9, qlt_10, qle_10, qgt_10, qge_10, qeq_10, qlt_12, qle_12, qgt_12, qge_12, qeq_12, qlt_16, qle_16, qgt_16, qge_16, qeq_16, qlt_20, qle_20, qgt_20, qge_20, qeq_20, qlt_24, qle_24, qgt_24, qge_24, qeq_24, qlt_30, qle_30, qgt_30, qge_30, qeq_30, qlt_32, qle_32, qgt_32, qge_32, qeq_32, qlt_37, qle_37, qgt_37, qge_37, qeq_37, qlt_40, qle_40, qgt_40, qge_40, qeq_40, qlt_42, qle_42, qgt_42, qge_42, qeq_42, qlt_43, qle_43, qgt_43, qge_43, qeq_43, qlt_45, qle_45, qgt_45, qge_45, qeq_45, qlt_47, qle_47, qgt_47, qge_47, qeq_47, qlt_48, qle_48, qgt_48, qge_48, qeq_48, qlt_57, qle_57, qgt_57, qge_57, qeq_57, qlt_59, qle_59, qgt_59, qge_59, qeq_59, qlt_60, qle_60, qgt_60, qge_60, qeq_60, qlt_61, qle_61, qgt_61, qge_61, qeq_61, qlt_62, qle_62, qgt_62, qge_62, qeq_62, qlt_64, qle_64, qgt_64, qge_64, qeq_64, qlt_91, qle_91, qgt_91, qge_91, qeq_91, qlt_93, qle_93, qgt_93, qge_93, qeq_93, qlt_97, qle_97, qgt_97, qge_97, qeq_97, qlt_122, qle_122, qgt_122, qge_122, qeq_122, qlt_400, qle_400, qgt_400, qge_400, qeq_400, qlt_999, qle_999, qgt_999, qge_999, qeq_999, qlt_0, qle_0, qgt_0, qge_0, qeq_0, qltm, qeqm, ↓reduceIte, Option.bind_some, not_true_eq_false, not_false_eq_true, and_true, true_and, and_false, false_and, or_false, false_or, or_true, true_or, Bool.false_eq_true, reduceCtorEq, n1, one_ne0, d1, d2, d3]
      · have hc : ¬ cnB b (i * 6 + k) = 0 := fun z => hz ((cn_fi _).mp z)
        simp (disch := omega) only [hb, hz, hc, nI_ltI, nI_leI, nI_eq, nI_clamp, nI_1, nI_add, nI_mul, inb_n, irm_n, nI_div, nI_m6, nI_d6, irm_6, qlt_1, qle_1, qgt_1, qge_1, qeq_1, qlt_2, qle_2, qgt_2, qge_2, qeq_2, qlt_3, qle_3, qgt_3, qge_3, qeq_3, qlt_4, qle_4, qgt_4, qge_4, qeq_4, qlt_5, qle_5, qgt_5, qge_5, qeq_5, qlt_6, qle_6, qgt_6, qge_6, qeq_6, qlt_7, qle_7, qgt_7, qge_7, qeq_7, qlt_8, qle_8, qgt_8, qge_8, qeq_8, qlt_9, qle_9, qgt_9, qge_9, qeq_9, qlt_10, qle_10, qgt_10, qge_10, qeq_10, qlt_12, qle_12, qgt_12, qge_12, qeq_12, qlt_16, qle_16, qgt_16, qge_16, qeq_16, qlt_20, qle_20, qgt_20, qge_20, qeq_20, qlt_24, qle_24, qgt_24, qge_24, qeq_24, qlt_30, qle_30, qgt_30, qge_30, qeq_30, qlt_32, qle_32, qgt_32, qge_32, qeq_32, qlt_37, qle_37, qgt_37, qge_37, qeq_37, qlt_40, qle_40, qgt_40, qge_40, qeq_40, qlt_42, qle_42, qgt_42, qge_42, qeq_42, qlt_43, qle_43, qgt_43, qge_43, qeq_43, qlt_45, qle_45, qgt_45, qge_45, qeq_45, qlt_47, qle_47, qgt_47, qge_47, qeq_47, qlt_48, qle_48, qgt_48, qge_48, qeq_48, qlt_57, qle_57, qgt_57, qge_57, qeq_57, qlt_59, qle_59, qgt_59, qge_59, qeq_59, qlt_60, qle_60, qgt_60, qge_60, qeq_60, qlt_61, qle_61, qgt_61, qge_61, qeq_61, qlt_62, qle_62, qgt_62, qge_62, qeq_62, qlt_64, qle_64, qgt_64, qge_64, qeq_64, qlt_91, qle_91, qgt_91, qge_91, qeq_91, qlt_93, qle_93, qgt_93, qge_93, qeq_93, qlt_97, qle_97, qgt_97, qge_97, qeq_97, qlt_122, qle_122, qgt_122, qge_122, qeq_122, qlt_400, qle_400, qgt_400, qge_400, qeq_400, qlt_999, qle_999, qgt_999, qge_999, qeq_999, qlt_0, qle_0, qgt_0, qge_0, qeq_0, qltm, qeqm, ↓reduceIte, Option.bind_some, not_true_eq_false, not_false_eq_true, and_true, true_and, and_false, false_and, or_false, false_or, or_true, true_or, Bool.false_eq_true, reduceCtorEq, n1, one_ne0]
    · by_cases hz : fiB b (i * 6 + k) = 0
      · simp (disch := omega) only [hb, hz, nI_ltI, nI_leI, nI_eq, nI_clamp, nI_1, nI_add, nI_mul, inb_n, irm_n, nI_div, nI_m6, nI_d6, irm_6, qlt_1, qle_1, qgt_1, qge_1, qeq_1, qlt_2, qle_2, qgt_2, qge_2, qeq_2, qlt_3, qle_3, qgt_3, qge_3, qeq_3, qlt_4, qle_4, qgt_4, qge_4, qeq_4, qlt_5, qle_5, qgt_5, qge_5, qeq_5, qlt_6, qle_6, qgt_6, qge_6, qeq_6, qlt_7, qle_7, qgt_7, qge_7, qeq_7, qlt_8, qle_8, qgt_8, qge_8, qeq_8, qlt_9, qle_9, qgt_9, qge_9, qeq_9, qlt_10, qle_10, qgt_10, qge_10, qeq_10, qlt_12, qle_12, qgt_12, qge_12, qeq_12, qlt_16, qle_16, qgt_16, qge_16, qeq_16, qlt_20, qle_20, qgt_20, qge_20, qeq_20, qlt_24, qle_24, qgt_24, qge_24, qeq_24, qlt_30, qle_30, qgt_30, qge_30, qeq_30, qlt_32, qle_32, qgt_32, qge_32, qeq_32, qlt_37, qle_37, qgt_37, qge_37, qeq_37, qlt_40, qle_40, qgt_40, qge_40, qeq_40, qlt_42, qle_42, qgt_42, qge_42, qeq_42, qlt_43, qle_43, qgt_43, qge_43, qeq_43, qlt_45, qle_45, qgt_45, qge_45, qeq_45, qlt_47, qle_47, qgt_47, qge_47, qeq_47, qlt_48, qle_48, qgt_48, qge_48, qeq_48, qlt_57, qle_57, qgt_57, qge_57, qeq_57, qlt_59, qle_59, qgt_59, qge_59, qeq_59, qlt_60, qle_60, qgt_60, qge_60, qeq_60, qlt_61, qle_61, qgt_61, qge_61, qeq_61, qlt_62, qle_62, qgt_62, qge_62, qeq_62, qlt_64, qle_64, qgt_64, qge_64, qeq_64, qlt_91, qle_91, qgt_91, qge_91, qeq_91, qlt_93, qle_93, qgt_93, qge_93, qeq_93, qlt_97, qle_97, qgt_97, qge_97, qeq_97, qlt_122, qle_122, qgt_122, qge_122, qeq_122, qlt_400, qle_400, qgt_400, qge_400, qeq_400, qlt_999, qle_999, qgt_999, qge_999, qeq_999, qlt_0, qle_0, qgt_0, qge_0, qeq_0, qltm, qeqm, ↓reduceIte, Option.bind_some, not_true_eq_false, not_false_eq_true, and_true, true_and, and_false, false_and, or_false, false_or, or_true, true_or, Bool.false_eq_true, reduceCtorEq, n1, Nat.add_zero]
      · simp (disch := omega) only [hb, hz, nI_ltI, nI_leI, nI_eq, nI_clamp, nI_1, nI_add, nI_mul, inb_n, irm_n, nI_div, nI_m6, nI_d6, irm_6, qlt_1, qle_1, qgt_1, qge_1, qeq_1, qlt_2, qle_2, qgt_2, qge_2, qeq_2, qlt_3, qle_3, qgt_3, qge_3, qeq_3, qlt_4, qle_4, qgt_4, qge_4, qeq_4, qlt_5, qle_5, qgt_5, qge_5, qeq_5, qlt_6, qle_6, qgt_6, qge_6, qeq_6, qlt_7, qle_7, qgt_7, qge_7, qeq_7, qlt_8, qle_8, qgt_8, qge_8, qeq_8, qlt_9, qle_9, qgt_9, qge_9, qeq_9, qlt_10, qle_10, qgt_10, qge_10, qeq_10, qlt_12, qle_12, qgt_12, qge_12, qeq_12, qlt_16, qle_16, qgt_16, qge_16, qeq_16, qlt_20, qle_20, qgt_20, qge_20, qeq_20, qlt_24, qle_24, qgt_24, qge_24, qeq_24, qlt_30, qle_30, qgt_30, qge_30, qeq_30, qlt_32, qle_32, qgt_32, qge_32, qeq_32, qlt_37, qle_37, qgt_37, qge_37, qeq_37, qlt_40, qle_40, qgt_40, qge_40, qeq_40, qlt_42, qle_42, qgt_42, qge_42, qeq_42, qlt_43, qle_43, qgt_43, qge_43, qeq_43, qlt_45, qle_45, qgt_45, qge_45, qeq_45, qlt_47, qle_47, qgt_47, qge_47, qeq_47, qlt_48, qle_48, qgt_48, qge_48, qeq_48, qlt_57, qle_57, qgt_57, qge_57, qeq_57, qlt_59, qle_59, qgt_59, qge_59, qeq_59, qlt_60, qle_60, qgt_60, qge_60, qeq_60, qlt_61, qle_61, qgt_61, qge_61, qeq_61, qlt_62, qle_62, qgt_62, qge_62, qeq_62, qlt_64, qle_64, qgt_64, qge_64, qeq_64, qlt_91, qle_91, qgt_91, qge_91, qeq_91, qlt_93, qle_93, qgt_93, qge_93, qeq_93, qlt_97, qle_97, qgt_97, qge_97, qeq_97, qlt_122, qle_122, qgt_122, qge_122, qeq_122, qlt_400, qle_400, qgt_400, qge_400, qeq_400, qlt_999, qle_999, qgt_999, qge_999, qeq_999, qlt_0, qle_0, qgt_0, qge_0, qeq_0, qltm, qeqm, ↓reduceIte, Option.bind_some, not_true_eq_false, not_false_eq_true, and_true, true_and, and_false, false_and, or_false, false_or, or_true, true_or, Bool.false_eq_true, reduceCtorEq, n1, Nat.add_zero]) (by
    intro n f hI
    refine ⟨f, ?_, hI⟩
    have n1 : 5 < 6 := by omega
    show f11_rests_L2 X l4 (nI i) (n + 1) f.1 f.2.1 f.2.2 (nI 6) = _
    rw [f11_rests_L2]
    simp (disch := omega) only [nI_ltI, nI_leI, nI_eq, nI_clamp, nI_1, nI_add, nI_mul, inb_n, irm_n, nI_div, nI_m6, nI_d6, irm_6, qlt_1, qle_1, qgt_1, qge_1, qeq_1, qlt_2, qle_2, qgt_2, qge_2, qeq_2, qlt_3, qle_3, qgt_3, qge_3, qeq_3, qlt_4, qle_4, qgt_4, qge_4, qeq_4, qlt_5, qle_5, qgt_5, qge_5, qeq_5, qlt_6, qle_6, qgt_6, qge_6, qeq_6, qlt_7, qle_7, qgt_7, qge_7, qeq_7, qlt_8, qle_8, qgt_8, qge_8, qeq_8, qlt_9, qle_9, qgt_9, qge_9, qeq_9, qlt_10, qle_10, qgt_10, qge_10, qeq_10, qlt_12, qle_12, qgt_12, qge_12, qeq_12, qlt_16, qle_16, qgt_16, qge_16, qeq_16, qlt_20, qle_20, qgt_20, qge_20, qeq_20, qlt_24, qle_24, qgt_24, qge_24, qeq_24, qlt_30, qle_30, qgt_30, qge_30, qeq_30, qlt_32, qle_32, qgt_32, qge_32, qeq_32, qlt_37, qle_37, qgt_37, qge_37, qeq_37, qlt_40, qle_40, qgt_40, qge_40, qeq_40, qlt_42, qle_42, qgt_42, qge_42, qeq_42, qlt_43, qle_43, qgt_43, qge_43, qeq_43, qlt_45, qle_45, qgt_45, qge_45, qeq_45, qlt_47, qle_47, qgt_47, qge_47, qeq_47, qlt_48, qle_48, qgt_48, qge_48, qeq_48, qlt_57, qle_57, qgt_57, qge_57, qeq_57, qlt_59, qle_59, qgt_59, qge_59, qeq_59, qlt_60, qle_60, qgt_60, qge_60, qeq_60, qlt_61, qle_61, qgt_61, qge_61, qeq_61, qlt_62, qle_62, qgt_62, qge_62, qeq_62, qlt_64, qle_64, qgt_64, qge_64, qeq_64, qlt_91, qle_91, qgt_91, qge_91, qeq_91, qlt_93, qle_93, qgt_93, qge_93, qeq_93, qlt_97, qle_97, qgt_97, qge_97, qeq_97, qlt_122, qle_122, qgt_122, qge_122, qeq_122, qlt_400, qle_400, qgt_400, qge_400, qeq_400, qlt_999, qle_999, qgt_999, qge_999, qeq_999, qlt_0, qle_0, qgt_0, qge_0, qeq_0, qltm, qeqm, ↓reduceIte, Option.bind_some, not_true_eq_false, not_false_eq_true, and_true, true_and, and_false, false_and, or_false, false_or, or_true, true_or, Bool.false_eq_true, reduceCtorEq, n1]) jF 0 (fiV b (i * 6)) (Nat.zero_le _) (by show _ < 5000; omega) rfl
theorem r_rests1 {X : jS} {b : Nat → Bool} {l4 : Int32} (h : ∀ i k, i < 6 → k < 6 → f11_isRest X (nI i) (nI k) = some (if b (i * 6 + k) = true then 1 else 0)) : ∃ r, f11_rests_L1 X l4 jF 0 (-2) (-2) 0 = some r ∧ r = fiV b 36 := by
  exact lp_up (G := 6) (Post := fun r : Int32 × Int32 × Int32 => r = fiV b 36) (fun n k (f : Int32 × Int32 × Int32) => f11_rests_L1 X l4 n f.1 f.2.1 f.2.2 (nI k)) (fun k f => f = fiV b (k * 6)) (by
    intro n k f hk hI
    subst hI
    left
    obtain ⟨r, r1, rfl⟩ := r_rests2 (l4 := l4) hk h
    refine ⟨fiV b ((k + 1) * 6), ?_, rfl⟩
    have n1 : ¬ 5 < k := by omega
    show f11_rests_L1 X l4 (n + 1) (fiV b (k * 6)).1 (fiV b (k * 6)).2.1 (fiV b (k * 6)).2.2 (nI k) = _
    rw [f11_rests_L1, r1, Nat.add_mul, Nat.one_mul]
    simp (disch := omega) only [nI_ltI, nI_leI, nI_eq, nI_clamp, nI_1, nI_add, nI_mul, inb_n, irm_n, nI_div, nI_m6, nI_d6, irm_6, qlt_1, qle_1, qgt_1, qge_1, qeq_1, qlt_2, qle_2, qgt_2, qge_2, qeq_2, qlt_3, qle_3, qgt_3, qge_3, qeq_3, qlt_4, qle_4, qgt_4, qge_4, qeq_4, qlt_5, qle_5, qgt_5, qge_5, qeq_5, qlt_6, qle_6, qgt_6, qge_6, qeq_6, qlt_7, qle_7, qgt_7, qge_7, qeq_7, qlt_8, qle_8, qgt_8, qge_8, qeq_8, qlt_9, qle_9, qgt_9, qge_9, qeq_9, qlt_10, qle_10, qgt_10, qge_10, qeq_10, qlt_12, qle_12, qgt_12, qge_12, qeq_12, qlt_16, qle_16, qgt_16, qge_16, qeq_16, qlt_20, qle_20, qgt_20, qge_20, qeq_20, qlt_24, qle_24, qgt_24, qge_24, qeq_24, qlt_30, qle_30, qgt_30, qge_30, qeq_30, qlt_32, qle_32, qgt_32, qge_32, qeq_32, qlt_37, qle_37, qgt_37, qge_37, qeq_37, qlt_40, qle_40, qgt_40, qge_40, qeq_40, qlt_42, qle_42, qgt_42, qge_42, qeq_42, qlt_43, qle_43, qgt_43, qge_43, qeq_43, qlt_45, qle_45, qgt_45, qge_45, qeq_45, qlt_47, qle_47, qgt_47, qge_47, qeq_47, qlt_48, qle_48, qgt_48, qge_48, qeq_48, qlt_57, qle_57, qgt_57, qge_57, qeq_57, qlt_59, qle_59, qgt_59, qge_59, qeq_59, qlt_60, qle_60, qgt_60, qge_60, qeq_60, qlt_61, qle_61, qgt_61, qge_61, qeq_61, qlt_62, qle_62, qgt_62, qge_62, qeq_62, qlt_64, qle_64, qgt_64, qge_64, qeq_64, qlt_91, qle_91, qgt_91, qge_91, qeq_91, qlt_93, qle_93, qgt_93, qge_93, qeq_93, qlt_97, qle_97, qgt_97, qge_97, qeq_97, qlt_122, qle_122, qgt_122, qge_122, qeq_122, qlt_400, qle_400, qgt_400, qge_400, qeq_400, qlt_999, qle_999, qgt_999, qge_999, qeq_999, qlt_0, qle_0, qgt_0, qge_0, qeq_0, qltm, qeqm, ↓reduceIte, Option.bind_some, not_true_eq_false, not_false_eq_true, and_true, true_and, and_false, false_and, or_false, false_or, or_true, true_or, Bool.false_eq_true, reduceCtorEq, n1]) (by
    intro n f hI
    refine ⟨f, ?_, hI⟩
    have n1 : 5 < 6 := by omega
    show f11_rests_L1 X l4 (n + 1) f.1 f.2.1 f.2.2 (nI 6) = _
    rw [f11_rests_L1]
    simp (disch := omega) only [nI_ltI, nI_leI, nI_eq, nI_clamp, nI_1, nI_add, nI_mul, inb_n, irm_n, nI_div, nI_m6, nI_d6, irm_6, qlt_1, qle_1, qgt_1, qge_1, qeq_1, qlt_2, qle_2, qgt_2, qge_2, qeq_2, qlt_3, qle_3, qgt_3, qge_3, qeq_3, qlt_4, qle_4, qgt_4, qge_4, qeq_4, qlt_5, qle_5, qgt_5, qge_5, qeq_5, qlt_6, qle_6, qgt_6, qge_6, qeq_6, qlt_7, qle_7, qgt_7, qge_7, qeq_7, qlt_8, qle_8, qgt_8, qge_8, qeq_8, qlt_9, qle_9, qgt_9, qge_9, qeq_9, qlt_10, qle_10, qgt_10, qge_10, qeq_10, qlt_12, qle_12, qgt_12, qge_12, qeq_12, qlt_16, qle_16, qgt_16, qge_16, qeq_16, qlt_20, qle_20, qgt_20, qge_20, qeq_20, qlt_24, qle_24, qgt_24, qge_24, qeq_24, qlt_30, qle_30, qgt_30, qge_30, qeq_30, qlt_32, qle_32, qgt_32, qge_32, qeq_32, qlt_37, qle_37, qgt_37, qge_37, qeq_37, qlt_40, qle_40, qgt_40, qge_40, qeq_40, qlt_42, qle_42, qgt_42, qge_42, qeq_42, qlt_43, qle_43, qgt_43, qge_43, qeq_43, qlt_45, qle_45, qgt_45, qge_45, qeq_45, qlt_47, qle_47, qgt_47, qge_47, qeq_47, qlt_48, qle_48, qgt_48, qge_48, qeq_48, qlt_57, qle_57, qgt_57, qge_57, qeq_57, qlt_59, qle_59, qgt_59, qge_59, qeq_59, qlt_60, qle_60, qgt_60, qge_60, qeq_60, qlt_61, qle_61, qgt_61, qge_61, qeq_61, qlt_62, qle_62, qgt_62, qge_62, qeq_62, qlt_64, qle_64, qgt_64, qge_64, qeq_64, qlt_91, qle_91, qgt_91, qge_91, qeq_91, qlt_93, qle_93, qgt_93, qge_93, qeq_93, qlt_97, qle_97, qgt_97, qge_97, qeq_97, qlt_122, qle_122, qgt_122, qge_122, qeq_122, qlt_400, qle_400, qgt_400, qge_400, qeq_400, qlt_999, qle_999, qgt_999, qge_999, qeq_999, qlt_0, qle_0, qgt_0, qge_0, qeq_0, qltm, qeqm, ↓reduceIte, Option.bind_some, not_true_eq_false, not_false_eq_true, and_true, true_and, and_false, false_and, or_false, false_or, or_true, true_or, Bool.false_eq_true, reduceCtorEq, n1]) jF 0 (0, -2, -2) (Nat.zero_le _) (by show _ < 5000; omega) rfl
theorem two_cs {S X : jS} {N : mN} {o : Nat} (hN : NOk N) (hc : HIs (hC S o) N) (hr : HIs (hV X.1) N) (a0 a1 : Int32) : (∃ g1 g2, g1 < N 0 2 ∧ g2 < N 0 2 ∧ (N 0 4).testBit g1 = true ∧ (N 0 4).testBit g2 = true ∧ g1 ≠ g2 ∧ a0 = nI g1 ∧ a1 = nI g2 ∧ f4_areTwoIn S o a0 a1 = some 1 ∧ f11_isStill X a0 = some 1 ∧ f11_isStill X a1 = some 1 ∧ ¬ a0 = a1) ∨ (f4_areTwoIn S o a0 a1 = some 0 ∧ ∀ {α : Type} (A B : Option α), Option.bind (f11_isStill X a0) (fun r1 => (if r1 = 0 then A else Option.bind (f11_isStill X a1) (fun r2 => (if r2 = 0 then A else (if a0 = a1 then A else B))))) = A) := by
  have hG := hN.2.2.1
  unfold f4_areTwoIn
  rcases arg_cs a0 (G := N 0 2) (by omega) with ⟨g1, h1, rfl⟩ | h1
  · rw [(c_in hN hc).1 g1 h1, (r_still hN hr).1 g1 h1]
    rcases arg_cs a1 (G := N 0 2) (by omega) with ⟨g2, h2, rfl⟩ | h2
    · rw [(c_in hN hc).1 g2 h2, (r_still hN hr).1 g2 h2]
      by_cases t1 : (N 0 4).testBit g1 = true
      · by_cases t2 : (N 0 4).testBit g2 = true
        · by_cases e : nI g1 = nI g2
          · right
            refine ⟨by rw [if_pos e], fun A B => ?_⟩
            simp only [t1, t2, ↓reduceIte, Option.bind_some, not_true_eq_false, not_false_eq_true, and_true, true_and, and_false, false_and, or_false, false_or, or_true, true_or, Bool.false_eq_true, reduceCtorEq, one_ne0, e]
          · left
            refine ⟨g1, g2, h1, h2, t1, t2, fun z => e (by rw [z]), rfl, rfl, ?_, by rw [if_pos t1], by rw [if_pos t2], e⟩
            simp only [t1, t2, ↓reduceIte, Option.bind_some, not_true_eq_false, not_false_eq_true, and_true, true_and, and_false, false_and, or_false, false_or, or_true, true_or, Bool.false_eq_true, reduceCtorEq, one_ne0, e]
        · right
          refine ⟨?_, fun A B => ?_⟩
          · simp only [t1, t2, ↓reduceIte, Option.bind_some, not_true_eq_false, not_false_eq_true, and_true, true_and, and_false, false_and, or_false, false_or, or_true, true_or, Bool.false_eq_true, reduceCtorEq, one_ne0]
            split <;> rfl
          · simp only [t1, t2, ↓reduceIte, Option.bind_some, not_true_eq_false, not_false_eq_true, and_true, true_and, and_false, false_and, or_false, false_or, or_true, true_or, Bool.false_eq_true, reduceCtorEq, one_ne0]
      · right
        refine ⟨?_, fun A B => ?_⟩
        · simp only [t1, ↓reduceIte, Option.bind_some, not_true_eq_false, not_false_eq_true, and_true, true_and, and_false, false_and, or_false, false_or, or_true, true_or, Bool.false_eq_true, reduceCtorEq]
          split <;> rfl
        · simp only [t1, ↓reduceIte, Option.bind_some, not_true_eq_false, not_false_eq_true, and_true, true_and, and_false, false_and, or_false, false_or, or_true, true_or, Bool.false_eq_true, reduceCtorEq]
    · rw [(c_in hN hc).2 a1 h2, (r_still hN hr).2 a1 h2]
      right
      refine ⟨?_, fun A B => ?_⟩
      · simp only [↓reduceIte, Option.bind_some, not_true_eq_false, not_false_eq_true, and_true, true_and, and_false, false_and, or_false, false_or, or_true, true_or, Bool.false_eq_true, reduceCtorEq]
        by_cases e : nI g1 = a1
        · rw [if_pos e]
        · rw [if_neg e]; split <;> rfl
      · simp only [↓reduceIte, Option.bind_some, not_true_eq_false, not_false_eq_true, and_true, true_and, and_false, false_and, or_false, false_or, or_true, true_or, Bool.false_eq_true, reduceCtorEq]
        split <;> rfl
  · rw [(c_in hN hc).2 a0 h1, (r_still hN hr).2 a0 h1]
    right
    refine ⟨?_, fun A B => rfl⟩
    simp only [↓reduceIte, Option.bind_some, not_true_eq_false, not_false_eq_true, and_true, true_and, and_false, false_and, or_false, false_or, or_true, true_or, Bool.false_eq_true, reduceCtorEq]
    split <;> rfl
theorem k_rests {S : jS} {T : jT} {X : jS} (h : INV S T X) (a0 a1 a2 a3 : Int32) : ∃ S1 X1 v, f10_rests T S a0 a1 a2 a3 = some (S1, v) ∧ f11_rests X a0 a1 a2 a3 = some (X1, v) ∧ INV S1 T X1 := by
  obtain ⟨N, hN, hc, hr, -⟩ := h.get
  obtain ⟨h40, q, ru, q1, q2, q3⟩ := h.rule
  have m0 : (0 : Int32).toInt64 = 0 := by decide
  have m2 : (2 : Int32).toInt64 = 2 := by decide
  unfold f10_rests f11_rests
  rcases two_cs hN hc hr a0 a1 with ⟨g1, g2, b1, b2, b3, b4, b5, rfl, rfl, b6, b7, b8, b9⟩ | ⟨b1, b2⟩
  · rw [b6, b7, b8, r_in a3 m0 m2, q1]
    simp only [↓reduceIte, Option.bind_some, not_true_eq_false, not_false_eq_true, and_true, true_and, and_false, false_and, or_false, false_or, or_true, true_or, Bool.false_eq_true, reduceCtorEq, one_ne0, b9]
    rcases asked_cs a2 with ⟨n, n1, n2, rfl, n3, n4⟩ | ⟨n3, n4⟩
    · simp only [n3, n4, ↓reduceIte, Option.bind_some, not_true_eq_false, not_false_eq_true, and_true, true_and, and_false, false_and, or_false, false_or, or_true, true_or, Bool.false_eq_true, reduceCtorEq, one_ne0]
      by_cases c : 0 ≤ a3 ∧ a3 ≤ 2
      · have d : ¬ a3 < 0 := by grind
        obtain ⟨S1, s1, s2, s3⟩ := c_pp (T := T) hN hc q2 b1 b2 n2
        obtain ⟨X1, x1, x2, x3, x4, x5⟩ := r_pp hN hr h40 q3 b1 b2 n2
        have hP : ∀ j, stN ru g1 n (paN N g1 g2 j) ≤ 20 ∧ stN ru g2 n (paN N g1 g2 j) ≤ 20 := fun j => ⟨Nat.le_trans (stN_le _ _) n2, Nat.le_trans (stN_le _ _) n2⟩
        have fin : INV S1 T X1 := h.end s2 x2 x3 (by rw [h40]; exact x4)
        have hcr := fun p (hp : p < 36) => c_isRest (P := fun j => stN ru g1 n (paN N g1 g2 j)) (Q := fun j => stN ru g2 n (paN N g1 g2 j)) s3 hP hp
        have hrr := fun i k (hi : i < 6) (hk : k < 6) => r_isRest (P := fun j => stN ru g1 n (paN N g1 g2 j)) (Q := fun j => stN ru g2 n (paN N g1 g2 j)) x5 hP hi hk
        have hcc := c_count (b := fun p => rsK (fun j => stN ru g1 n (paN N g1 g2 j)) (fun j => stN ru g2 n (paN N g1 g2 j)) p 6) hcr
        have hcf := c_first (b := fun p => rsK (fun j => stN ru g1 n (paN N g1 g2 j)) (fun j => stN ru g2 n (paN N g1 g2 j)) p 6) hcr
        obtain ⟨r, y1, y2⟩ := r_rests1 (l4 := a3) (b := fun p => rsK (fun j => stN ru g1 n (paN N g1 g2 j)) (fun j => stN ru g2 n (paN N g1 g2 j)) p 6) hrr
        generalize (fun p => rsK (fun j => stN ru g1 n (paN N g1 g2 j)) (fun j => stN ru g2 n (paN N g1 g2 j)) p 6) = b at hcc hcf y2
        have hle := cn_le (b := b) 36
        have r1 : r.1 = nI (cnB b 36) := by rw [y2]; exact fiV_1 b 36
        have r2 : r.2.1 = if fiB b 36 = 0 then -2 else nI ((fiB b 36 - 1) / 6) := by rw [y2]; exact fiV_2 b 36
        have r3 : r.2.2 = if fiB b 36 = 0 then -2 else nI ((fiB b 36 - 1) % 6) := by rw [y2]; exact fiV_3 b 36
        generalize fiB b 36 = F at hle hcf r2 r3
        generalize cnB b 36 = C at hle hcc r1
        simp only [c, d, ↓reduceIte, Option.bind_some, not_true_eq_false, not_false_eq_true, and_true, true_and, and_false, false_and, or_false, false_or, or_true, true_or, Bool.false_eq_true, reduceCtorEq, one_ne0, and_self, s1, x1, y1, hcc, hcf]
        by_cases e0 : a3 = 0
        · simp only [e0, ↓reduceIte, Option.bind_some, not_true_eq_false, not_false_eq_true, and_true, true_and, and_false, false_and, or_false, false_or, or_true, true_or, Bool.false_eq_true, reduceCtorEq]
          exact ⟨S1, X1, r.1, by rw [r1], rfl, fin⟩
        · simp only [e0, ↓reduceIte, Option.bind_some, not_true_eq_false, not_false_eq_true, and_true, true_and, and_false, false_and, or_false, false_or, or_true, true_or, Bool.false_eq_true, reduceCtorEq]
          by_cases e1 : a3 = 1
          · simp only [e1, ↓reduceIte, Option.bind_some, not_true_eq_false, not_false_eq_true, and_true, true_and, and_false, false_and, or_false, false_or, or_true, true_or, Bool.false_eq_true, reduceCtorEq]
            refine ⟨S1, X1, r.2.1, ?_, rfl, fin⟩
            rw [r2]
            cases F with
            | zero => rw [nI_0m]; simp
            | succ f =>
              rw [nI_pred]
              simp (disch := omega) only [nI_ltI, nI_leI, nI_eq, nI_clamp, nI_1, nI_add, nI_mul, inb_n, irm_n, nI_div, nI_m6, nI_d6, irm_6, qlt_1, qle_1, qgt_1, qge_1, qeq_1, qlt_2, qle_2, qgt_2, qge_2, qeq_2, qlt_3, qle_3, qgt_3, qge_3, qeq_3, qlt_4, qle_4, qgt_4, qge_4, qeq_4, qlt_5, qle_5, qgt_5, qge_5, qeq_5, qlt_6, qle_6, qgt_6, qge_6, qeq_6, qlt_7, qle_7, qgt_7, qge_7, qeq_7, qlt_8, qle_8, qgt_8, qge_8, qeq_8, qlt_9, qle_9, qgt_9, qge_9, qeq_9, qlt_10, qle_10, qgt_10, qge_10, qeq_10, qlt_12, qle_12, qgt_12, qge_12, qeq_12, qlt_16, qle_16, qgt_16, qge_16, qeq_16, qlt_20, qle_20, qgt_20, qge_20, qeq_20, qlt_24, qle_24, qgt_24, qge_24, qeq_24, qlt_30, qle_30, qgt_30, qge_30, qeq_30, qlt_32, qle_32, qgt_32, qge_32, qeq_32, qlt_37, qle_37, qgt_37, qge_37, qeq_37, qlt_40, qle_40, qgt_40, qge_40, qeq_40, qlt_42, qle_42, qgt_42, qge_42, qeq_42, qlt_43, qle_43, qgt_43, qge_43, qeq_43, qlt_45, qle_45, qgt_45, qge_45, qeq_45, qlt_47, qle_47, qgt_47, qge_47, qeq_47, qlt_48, qle_48, qgt_48, qge_48, qeq_48, qlt_57, qle_57, qgt_57, qge_57, qeq_57, qlt_59, qle_59, qgt_59, qge_59, qeq_59, qlt_60, qle_60, qgt_60, qge_60, qeq_60, qlt_61, qle_61, qgt_61, qge_61, qeq_61, qlt_62, qle_62, qgt_62, qge_62, qeq_62, qlt_64, qle_64, qgt_64, qge_64, qeq_64, qlt_91, qle_91, qgt_91, qge_91, qeq_91, qlt_93, qle_93, qgt_93, qge_93, qeq_93, qlt_97, qle_97, qgt_97, qge_97, qeq_97, qlt_122, qle_122, qgt_122, qge_122, qeq_122, qlt_400, qle_400, qgt_400, qge_400, qeq_400, qlt_999, qle_999, qgt_999, qge_999, qeq_999, qlt_0, qle_0, qgt_0, qge_0, qeq_0, qltm, qeqm, ↓reduceIte, Option.bind_some, not_true_eq_false, not_false_eq_true, and_true, true_and, and_false, false_and, or_false, false_or, or_true, true_or, Bool.false_eq_true, reduceCtorEq, Nat.add_sub_cancel]
          · simp only [e1, ↓reduceIte, Option.bind_some, not_true_eq_false, not_false_eq_true, and_true, true_and, and_false, false_and, or_false, false_or, or_true, true_or, Bool.false_eq_true, reduceCtorEq]
            refine ⟨S1, X1, r.2.2, ?_, rfl, fin⟩
            rw [r3]
            cases F with
            | zero => rw [nI_0m]; simp
            | succ f =>
              rw [nI_pred]
              simp (disch := omega) only [nI_ltI, nI_leI, nI_eq, nI_clamp, nI_1, nI_add, nI_mul, inb_n, irm_n, nI_div, nI_m6, nI_d6, irm_6, qlt_1, qle_1, qgt_1, qge_1, qeq_1, qlt_2, qle_2, qgt_2, qge_2, qeq_2, qlt_3, qle_3, qgt_3, qge_3, qeq_3, qlt_4, qle_4, qgt_4, qge_4, qeq_4, qlt_5, qle_5, qgt_5, qge_5, qeq_5, qlt_6, qle_6, qgt_6, qge_6, qeq_6, qlt_7, qle_7, qgt_7, qge_7, qeq_7, qlt_8, qle_8, qgt_8, qge_8, qeq_8, qlt_9, qle_9, qgt_9, qge_9, qeq_9, qlt_10, qle_10, qgt_10, qge_10, qeq_10, qlt_12, qle_12, qgt_12, qge_12, qeq_12, qlt_16, qle_16, qgt_16, qge_16, qeq_16, qlt_20, qle_20, qgt_20, qge_20, qeq_20, qlt_24, qle_24, qgt_24, qge_24, qeq_24, qlt_30, qle_30, qgt_30, qge_30, qeq_30, qlt_32, qle_32, qgt_32, qge_32, qeq_32, qlt_37, qle_37, qgt_37, qge_37, qeq_37, qlt_40, qle_40, qgt_40, qge_40, qeq_40, qlt_42, qle_42, qgt_42, qge_42, qeq_42, qlt_43, qle_43, qgt_43, qge_43, qeq_43, qlt_45, qle_45, qgt_45, qge_45, qeq_45, qlt_47, qle_47, qgt_47, qge_47, qeq_47, qlt_48, qle_48, qgt_48, qge_48, qeq_48, qlt_57, qle_57, qgt_57, qge_57, qeq_57, qlt_59, qle_59, qgt_59, qge_59, qeq_59, qlt_60, qle_60, qgt_60, qge_60, qeq_60, qlt_61, qle_61, qgt_61, qge_61, qeq_61, qlt_62, qle_62, qgt_62, qge_62, qeq_62, qlt_64, qle_64, qgt_64, qge_64, qeq_64, qlt_91, qle_91, qgt_91, qge_91, qeq_91, qlt_93, qle_93, qgt_93, qge_93, qeq_93, qlt_97, qle_97, qgt_97, qge_97, qeq_97, qlt_122, qle_122, qgt_122, qge_122, qeq_122, qlt_400, qle_400, qgt_400, qge_400, qeq_400, qlt_999, qle_999, qgt_999, qge_999, qeq_999, qlt_0, qle_0, qgt_0, qge_0, qeq_0, qltm, qeqm, ↓reduceIte, Option.bind_some, not_true_eq_false, not_false_eq_true, and_true, true_and, and_false, false_and, or_false, false_or, or_true, true_or, Bool.false_eq_true, reduceCtorEq, Nat.add_sub_cancel]
      · refine ⟨S, X, -1, ?_, by simp only [c, ↓reduceIte, Option.bind_some, not_true_eq_false, not_false_eq_true, and_true, true_and, and_false, false_and, or_false, false_or, or_true, true_or, Bool.false_eq_true, reduceCtorEq], h⟩
        by_cases d : a3 < 0
        · rw [if_pos d]
        · rw [if_neg d, if_neg (by grind)]
    · simp only [n3, n4, ↓reduceIte, Option.bind_some, not_true_eq_false, not_false_eq_true, and_true, true_and, and_false, false_and, or_false, false_or, or_true, true_or, Bool.false_eq_true, reduceCtorEq]
      exact ⟨S, X, -1, rfl, rfl, h⟩
  · refine ⟨S, X, -1, by rw [b1]; rfl, ?_, h⟩
    exact b2 _ _
