/-! all rows of an act moved at once; the oldest dropped -/
theorem nI_40 (a : Nat) : 40 * nI a = nI (40 * a) := nI_mul 40 a
theorem r_ma0 {S : jS} {j : Nat} (hj : j < 20) : ∃ S1, f11_movesAll S (nI j) 0 = some (S1, ()) ∧ (∀ i, i < 5 → S1.1 42 (40 * j + i) = S.1 1 (3 + i)) ∧ (∀ a g, 2 ≤ a → a ≤ 6 → g < 7 → S1.1 42 (40 * j + (5 + 7 * (a - 2) + g)) = S.1 a g) ∧ (∀ b i, ¬ (b = 42 ∧ 40 * j ≤ i ∧ i < 40 * j + 40) → ¬ (b = 0 ∧ (i = 45 ∨ i = 46)) → S1.1 b i = S.1 b i) := by
  obtain ⟨S1, a1, b1⟩ := r_ml0 (S := wI (wI S 0 45 (nI (40 * j))) 0 46 0) (p := 40 * j) (wI_self _ _ _ _) (by rw [wI_nj (by omega), wI_self]) (by omega)
  obtain ⟨S2, a2, b2⟩ := r_mr0 (S := S1) (p := 40 * j + 5) (a := 2) (n := 7) (by rw [b1, if_neg (by omega), if_neg (by omega), wI_self]) (by rw [b1, if_neg (by omega), if_pos ⟨rfl, rfl⟩]) (by omega) (by omega) (by omega) (by omega)
  obtain ⟨S3, a3, b3⟩ := r_mr0 (S := S2) (p := 40 * j + 5 + 7) (a := 3) (n := 7) (by rw [b2, if_neg (by omega), if_neg (by omega), b1, if_neg (by omega), if_neg (by omega), wI_self]) (by rw [b2, if_neg (by omega), if_pos ⟨rfl, rfl⟩]) (by omega) (by omega) (by omega) (by omega)
  obtain ⟨S4, a4, b4⟩ := r_mr0 (S := S3) (p := 40 * j + 5 + 7 + 7) (a := 4) (n := 7) (by rw [b3, if_neg (by omega), if_neg (by omega), b2, if_neg (by omega), if_neg (by omega), b1, if_neg (by omega), if_neg (by omega), wI_self]) (by rw [b3, if_neg (by omega), if_pos ⟨rfl, rfl⟩]) (by omega) (by omega) (by omega) (by omega)
  obtain ⟨S5, a5, b5⟩ := r_mr0 (S := S4) (p := 40 * j + 5 + 7 + 7 + 7) (a := 5) (n := 7) (by rw [b4, if_neg (by omega), if_neg (by omega), b3, if_neg (by omega), if_neg (by omega), b2, if_neg (by omega), if_neg (by omega), b1, if_neg (by omega), if_neg (by omega), wI_self]) (by rw [b4, if_neg (by omega), if_pos ⟨rfl, rfl⟩]) (by omega) (by omega) (by omega) (by omega)
  obtain ⟨S6, a6, b6⟩ := r_mr0 (S := S5) (p := 40 * j + 5 + 7 + 7 + 7 + 7) (a := 6) (n := 7) (by rw [b5, if_neg (by omega), if_neg (by omega), b4, if_neg (by omega), if_neg (by omega), b3, if_neg (by omega), if_neg (by omega), b2, if_neg (by omega), if_neg (by omega), b1, if_neg (by omega), if_neg (by omega), wI_self]) (by rw [b5, if_neg (by omega), if_pos ⟨rfl, rfl⟩]) (by omega) (by omega) (by omega) (by omega)
  refine ⟨S6, ?_, fun i hi => ?_, fun a g h1 h2 hg => ?_, fun b i h1 h2 => ?_⟩
  · unfold f11_movesAll
    rw [if_pos (Or.inl rfl), nI_40]
    simp only [a1, a2, a3, a4, a5, a6, ↓reduceIte, Option.bind_some, not_true_eq_false, not_false_eq_true, and_true, true_and, and_false, false_and, or_false, false_or, or_true, true_or, Bool.false_eq_true, reduceCtorEq]
  · rw [b6, if_neg (by omega), if_neg (by omega), b5, if_neg (by omega), if_neg (by omega), b4, if_neg (by omega), if_neg (by omega), b3, if_neg (by omega), if_neg (by omega), b2, if_neg (by omega), if_neg (by omega), b1, if_pos (by omega), wI_ne (by omega), wI_ne (by omega)]
    rw [show 40 * j + i - 40 * j = i by omega]
  · have hc : a = 2 ∨ a = 3 ∨ a = 4 ∨ a = 5 ∨ a = 6 := by omega
    rcases hc with rfl | rfl | rfl | rfl | rfl
    · rw [b6, if_neg (by omega), if_neg (by omega), b5, if_neg (by omega), if_neg (by omega), b4, if_neg (by omega), if_neg (by omega), b3, if_neg (by omega), if_neg (by omega), b2, if_pos (by omega), b1, if_neg (by omega), if_neg (by omega), wI_ne (by omega), wI_ne (by omega)]
      rw [show 40 * j + (5 + 7 * (2 - 2) + g) - (40 * j + 5) = g by omega]
    · rw [b6, if_neg (by omega), if_neg (by omega), b5, if_neg (by omega), if_neg (by omega), b4, if_neg (by omega), if_neg (by omega), b3, if_pos (by omega), b2, if_neg (by omega), if_neg (by omega), b1, if_neg (by omega), if_neg (by omega), wI_ne (by omega), wI_ne (by omega)]
      rw [show 40 * j + (5 + 7 * (3 - 2) + g) - (40 * j + 5 + 7) = g by omega]
    · rw [b6, if_neg (by omega), if_neg (by omega), b5, if_neg (by omega), if_neg (by omega), b4, if_pos (by omega), b3, if_neg (by omega), if_neg (by omega), b2, if_neg (by omega), if_neg (by omega), b1, if_neg (by omega), if_neg (by omega), wI_ne (by omega), wI_ne (by omega)]
      rw [show 40 * j + (5 + 7 * (4 - 2) + g) - (40 * j + 5 + 7 + 7) = g by omega]
    · rw [b6, if_neg (by omega), if_neg (by omega), b5, if_pos (by omega), b4, if_neg (by omega), if_neg (by omega), b3, if_neg (by omega), if_neg (by omega), b2, if_neg (by omega), if_neg (by omega), b1, if_neg (by omega), if_neg (by omega), wI_ne (by omega), wI_ne (by omega)]
      rw [show 40 * j + (5 + 7 * (5 - 2) + g) - (40 * j + 5 + 7 + 7 + 7) = g by omega]
    · rw [b6, if_pos (by omega), b5, if_neg (by omega), if_neg (by omega), b4, if_neg (by omega), if_neg (by omega), b3, if_neg (by omega), if_neg (by omega), b2, if_neg (by omega), if_neg (by omega), b1, if_neg (by omega), if_neg (by omega), wI_ne (by omega), wI_ne (by omega)]
      rw [show 40 * j + (5 + 7 * (6 - 2) + g) - (40 * j + 5 + 7 + 7 + 7 + 7) = g by omega]
  · rw [b6, if_neg (by omega), if_neg (by omega), b5, if_neg (by omega), if_neg (by omega), b4, if_neg (by omega), if_neg (by omega), b3, if_neg (by omega), if_neg (by omega), b2, if_neg (by omega), if_neg (by omega), b1, if_neg (by omega), if_neg (by omega), wI_g, if_neg (by omega), wI_g, if_neg (by omega)]
theorem r_ma1 {S : jS} {j : Nat} (hj : j < 20) : ∃ S1, f11_movesAll S (nI j) 1 = some (S1, ()) ∧ (∀ i, i < 5 → S1.1 1 (3 + i) = S.1 42 (40 * j + i)) ∧ (∀ a g, 2 ≤ a → a ≤ 6 → g < 7 → S1.1 a g = S.1 42 (40 * j + (5 + 7 * (a - 2) + g))) ∧ (∀ b i, b = 0 ∨ (b = 1 ∧ (i < 3 ∨ 8 ≤ i)) ∨ 7 ≤ b → ¬ (b = 0 ∧ (i = 45 ∨ i = 46)) → S1.1 b i = S.1 b i) := by
  obtain ⟨S1, a1, b1⟩ := r_ml1 (S := wI (wI S 0 45 (nI (40 * j))) 0 46 1) (p := 40 * j) (wI_self _ _ _ _) (by rw [wI_nj (by omega), wI_self]) (by omega)
  obtain ⟨S2, a2, b2⟩ := r_mr1 (S := S1) (p := 40 * j + 5) (a := 2) (n := 7) (by rw [b1, if_neg (by omega), if_neg (by omega), wI_self]) (by rw [b1, if_neg (by omega), if_pos ⟨rfl, rfl⟩]) (by omega) (by omega) (by omega) (by omega)
  obtain ⟨S3, a3, b3⟩ := r_mr1 (S := S2) (p := 40 * j + 5 + 7) (a := 3) (n := 7) (by rw [b2, if_neg (by omega), if_neg (by omega), b1, if_neg (by omega), if_neg (by omega), wI_self]) (by rw [b2, if_neg (by omega), if_pos ⟨rfl, rfl⟩]) (by omega) (by omega) (by omega) (by omega)
  obtain ⟨S4, a4, b4⟩ := r_mr1 (S := S3) (p := 40 * j + 5 + 7 + 7) (a := 4) (n := 7) (by rw [b3, if_neg (by omega), if_neg (by omega), b2, if_neg (by omega), if_neg (by omega), b1, if_neg (by omega), if_neg (by omega), wI_self]) (by rw [b3, if_neg (by omega), if_pos ⟨rfl, rfl⟩]) (by omega) (by omega) (by omega) (by omega)
  obtain ⟨S5, a5, b5⟩ := r_mr1 (S := S4) (p := 40 * j + 5 + 7 + 7 + 7) (a := 5) (n := 7) (by rw [b4, if_neg (by omega), if_neg (by omega), b3, if_neg (by omega), if_neg (by omega), b2, if_neg (by omega), if_neg (by omega), b1, if_neg (by omega), if_neg (by omega), wI_self]) (by rw [b4, if_neg (by omega), if_pos ⟨rfl, rfl⟩]) (by omega) (by omega) (by omega) (by omega)
  obtain ⟨S6, a6, b6⟩ := r_mr1 (S := S5) (p := 40 * j + 5 + 7 + 7 + 7 + 7) (a := 6) (n := 7) (by rw [b5, if_neg (by omega), if_neg (by omega), b4, if_neg (by omega), if_neg (by omega), b3, if_neg (by omega), if_neg (by omega), b2, if_neg (by omega), if_neg (by omega), b1, if_neg (by omega), if_neg (by omega), wI_self]) (by rw [b5, if_neg (by omega), if_pos ⟨rfl, rfl⟩]) (by omega) (by omega) (by omega) (by omega)
  have h42 : ∀ i, S1.1 42 i = S.1 42 i := fun i => by rw [b1, if_neg (by omega), if_neg (by omega), wI_ne (by omega), wI_ne (by omega)]
  have h42b : ∀ i, S2.1 42 i = S.1 42 i := fun i => by rw [b2, if_neg (by omega), if_neg (by omega), h42]
  have h42c : ∀ i, S3.1 42 i = S.1 42 i := fun i => by rw [b3, if_neg (by omega), if_neg (by omega), h42b]
  have h42d : ∀ i, S4.1 42 i = S.1 42 i := fun i => by rw [b4, if_neg (by omega), if_neg (by omega), h42c]
  have h42e : ∀ i, S5.1 42 i = S.1 42 i := fun i => by rw [b5, if_neg (by omega), if_neg (by omega), h42d]
  refine ⟨S6, ?_, fun i hi => ?_, fun a g h1 h2 hg => ?_, fun b i h1 h2 => ?_⟩
  · unfold f11_movesAll
    rw [if_pos (Or.inr rfl), nI_40]
    simp only [a1, a2, a3, a4, a5, a6, ↓reduceIte, Option.bind_some, not_true_eq_false, not_false_eq_true, and_true, true_and, and_false, false_and, or_false, false_or, or_true, true_or, Bool.false_eq_true, reduceCtorEq]
  · rw [b6, if_neg (by omega), if_neg (by omega), b5, if_neg (by omega), if_neg (by omega), b4, if_neg (by omega), if_neg (by omega), b3, if_neg (by omega), if_neg (by omega), b2, if_neg (by omega), if_neg (by omega), b1, if_pos (by omega), wI_ne (by omega), wI_ne (by omega)]
    rw [show 3 + i - 3 = i by omega]
  · have hc : a = 2 ∨ a = 3 ∨ a = 4 ∨ a = 5 ∨ a = 6 := by omega
    rcases hc with rfl | rfl | rfl | rfl | rfl
    · rw [b6, if_neg (by omega), if_neg (by omega), b5, if_neg (by omega), if_neg (by omega), b4, if_neg (by omega), if_neg (by omega), b3, if_neg (by omega), if_neg (by omega), b2, if_pos (by omega), h42]
      rw [show 40 * j + (5 + 7 * (2 - 2) + g) = 40 * j + 5 + g by omega]
    · rw [b6, if_neg (by omega), if_neg (by omega), b5, if_neg (by omega), if_neg (by omega), b4, if_neg (by omega), if_neg (by omega), b3, if_pos (by omega), h42b]
      rw [show 40 * j + (5 + 7 * (3 - 2) + g) = 40 * j + 5 + 7 + g by omega]
    · rw [b6, if_neg (by omega), if_neg (by omega), b5, if_neg (by omega), if_neg (by omega), b4, if_pos (by omega), h42c]
      rw [show 40 * j + (5 + 7 * (4 - 2) + g) = 40 * j + 5 + 7 + 7 + g by omega]
    · rw [b6, if_neg (by omega), if_neg (by omega), b5, if_pos (by omega), h42d]
      rw [show 40 * j + (5 + 7 * (5 - 2) + g) = 40 * j + 5 + 7 + 7 + 7 + g by omega]
    · rw [b6, if_pos (by omega), h42e]
      rw [show 40 * j + (5 + 7 * (6 - 2) + g) = 40 * j + 5 + 7 + 7 + 7 + 7 + g by omega]
  · rw [b6, if_neg (by omega), if_neg (by omega), b5, if_neg (by omega), if_neg (by omega), b4, if_neg (by omega), if_neg (by omega), b3, if_neg (by omega), if_neg (by omega), b2, if_neg (by omega), if_neg (by omega), b1, if_neg (by omega), if_neg (by omega), wI_g, if_neg (by omega), wI_g, if_neg (by omega)]
/-- the oldest act is dropped -/
theorem r_ka1 {S : jS} : ∃ S1, f11_keepsAct_L1 jF S 40 = some S1 ∧ (∀ b i, S1.1 b i = if b = 42 ∧ i < 760 then S.1 42 (40 + i) else S.1 b i) := by
  exact lp_up (G := 760) (Post := fun r : jS => ∀ b i, r.1 b i = if b = 42 ∧ i < 760 then S.1 42 (40 + i) else S.1 b i) (fun m k S' => f11_keepsAct_L1 m S' (nI (40 + k))) (fun k r => ∀ b i, r.1 b i = if b = 42 ∧ i < k then S.1 42 (40 + i) else S.1 b i) (by
    intro m k S' hk hI
    left
    have fa : S'.1 42 (40 + k) = S.1 42 (40 + k) := by rw [hI, if_neg (by omega)]
    have n1 : ¬ nI 800 ≤ nI (40 + k) := fun z => by have := (nI_leI (by omega) (by omega)).mp z; omega
    have n1' : ¬ (800 : Int32) ≤ nI (40 + k) := n1
    have n2 : 40 + k < 800 := by omega
    have n3 : k < 800 := by omega
    have e4 : nI (40 + k) - 40 = nI k := by
      have : nI (40 + k) - nI 40 = nI (40 + k - 40) := nI_sub (by omega)
      rw [show 40 + k - 40 = k by omega] at this
      exact this
    refine ⟨wI S' 42 k (S.1 42 (40 + k)), ?_, ?_⟩
    · simp (disch := omega) only [f11_keepsAct_L1, n1', e4, fa, nI_ltI, nI_leI, nI_eq, nI_clamp, nI_1, nI_add, nI_mul, inb_n, irm_n, nI_div, nI_m6, nI_d6, irm_6, qlt_1, qle_1, qgt_1, qge_1, qeq_1, qlt_2, qle_2, qgt_2, qge_2, qeq_2, qlt_3, qle_3, qgt_3, qge_3, qeq_3, qlt_4, qle_4, qgt_4, qge_4, qeq_4, qlt_5, qle_5, qgt_5, qge_5, qeq_5, qlt_6, qle_6, qgt_6, qge_6, qeq_6, qlt_7, qle_7, qgt_7, qge_7, qeq_7, qlt_8, qle_8, qgt_8, qge_8, qeq_8, qlt_9, qle_9, qgt_9, qge_9, qeq_9, qlt_10, qle_10, qgt_10, qge_10, qeq_10, qlt_12, qle_12, qgt_12, qge_12, qeq_12, qlt_16, qle_16, qgt_16, qge_16, qeq_16, qlt_20, qle_20, qgt_20, qge_20, qeq_20, qlt_24, qle_24, qgt_24, qge_24, qeq_24, qlt_30, qle_30, qgt_30, qge_30, qeq_30, qlt_32, qle_32, qgt_32, qge_32, qeq_32, qlt_37, qle_37, qgt_37, qge_37, qeq_37, qlt_40, qle_40, qgt_40, qge_40, qeq_40, qlt_42, qle_42, qgt_42, qge_42, qeq_42, qlt_43, qle_43, qgt_43, qge_43, qeq_43, qlt_45, qle_45, qgt_45, qge_45, qeq_45, qlt_47, qle_47, qgt_47, qge_47, qeq_47, qlt_48, qle_48, qgt_48, qge_48, qeq_48, qlt_57, qle_57, qgt_57, qge_57, qeq_57, qlt_59, qle_59, qgt_59, qge_59, qeq_59, qlt_60, qle_60, qgt_60, qge_60, qeq_60, qlt_61, qle_61, qgt_61, qge_61, qeq_61, qlt_62, qle_62, qgt_62, qge_62, qeq_62, qlt_64, qle_64, qgt_64, qge_64, qeq_64, qlt_91, qle_91, qgt_91, qge_91, qeq_91, qlt_93, qle_93, qgt_93, qge_93, qeq_93, qlt_97, qle_97, qgt_97, qge_97, qeq_97, qlt_122, qle_122, qgt_122, qge_122, qeq_122, qlt_400, qle_400, qgt_400, qge_400, qeq_400, qlt_999, qle_999, qgt_999, qge_999, qeq_999, qlt_0, qle_0, qgt_0, qge_0, qeq_0, qltm, qeqm, ↓reduceIte, Option.bind_some, not_true_eq_false, not_false_eq_true, and_true, true_and, and_false, false_and, or_false, false_or, or_true, true_or, Bool.false_eq_true, reduceCtorEq, n2, n3, Nat.add_assoc]
    · intro b i
      rw [wI_g, hI]
      by_cases e : i = k
      · subst e; grind
      · grind) (by
    intro m S' hI
    have n1 : (800 : Int32) ≤ nI (40 + 760) := by decide
    refine ⟨S', ?_, hI⟩
    simp (disch := omega) only [f11_keepsAct_L1, ↓reduceIte, Option.bind_some, not_true_eq_false, not_false_eq_true, and_true, true_and, and_false, false_and, or_false, false_or, or_true, true_or, Bool.false_eq_true, reduceCtorEq, n1]) jF 0 S (Nat.zero_le _) (by show _ < 5000; omega) (by
    intro b i
    rw [if_neg (by omega)])
/-- what an act keeps, before it goes on -/
theorem r_ka {S : jS} {A : Nat} (h44 : S.1 0 44 = nI A) (hA : A ≤ 20) : ∃ S1, f11_keepsAct S = some (S1, ()) ∧ S1.1 0 44 = nI (min A 19 + 1) ∧ (∀ j i, j < min A 19 → i < 40 → S1.1 42 (40 * j + i) = S.1 42 (40 * (j + (A - min A 19)) + i)) ∧ (∀ i, i < 5 → S1.1 42 (40 * min A 19 + i) = S.1 1 (3 + i)) ∧ (∀ a g, 2 ≤ a → a ≤ 6 → g < 7 → S1.1 42 (40 * min A 19 + (5 + 7 * (a - 2) + g)) = S.1 a g) ∧ (∀ b i, b ≠ 42 → ¬ (b = 0 ∧ (i = 44 ∨ i = 45 ∨ i = 46)) → S1.1 b i = S.1 b i) := by
  by_cases c : A = 20
  · subst c
    have em : min 20 19 = 19 := by decide
    obtain ⟨S1, a1, b1⟩ := r_ka1 (S := S)
    have g44 : S1.1 0 44 = nI 20 := by rw [b1, if_neg (by omega)]; exact h44
    have e1 : nI 20 - 1 = nI 19 := by decide
    have e2 : nI 19 + 1 = nI (19 + 1) := by decide
    obtain ⟨S2, a2, b2, b3, b4⟩ := r_ma0 (S := wI S1 0 44 (nI 19)) (j := 19) (by omega)
    have g44' : S2.1 0 44 = nI 19 := by rw [b4 _ _ (by omega) (by omega), wI_self]
    rw [em]
    refine ⟨wI S2 0 44 (nI (19 + 1)), ?_, wI_self _ _ _ _, fun j i hj hi => ?_, fun i hi => ?_, fun a g h1 h2 hg => ?_, fun b i h1 h2 => ?_⟩
    · unfold f11_keepsAct
      have z : (nI 20 = 20) = True := by decide
      simp only [h44, z, ↓reduceIte, Option.bind_some, not_true_eq_false, not_false_eq_true, and_true, true_and, and_false, false_and, or_false, false_or, or_true, true_or, Bool.false_eq_true, reduceCtorEq, a1, g44, e1, wI_self, a2, g44', e2]
    · rw [wI_ne (by omega), b4 _ _ (by omega) (by omega), wI_ne (by omega), b1, if_pos (by omega), show 40 + (40 * j + i) = 40 * (j + (20 - 19)) + i by omega]
    · rw [wI_ne (by omega), b2 i hi, wI_ne (by omega), b1, if_neg (by omega)]
    · rw [wI_ne (by omega), b3 a g h1 h2 hg, wI_ne (by omega), b1, if_neg (by omega)]
    · rw [wI_g, if_neg (by omega), b4 _ _ (by omega) (by omega), wI_g, if_neg (by omega), b1, if_neg (by omega)]
  · have em : min A 19 = A := by omega
    rw [em]
    obtain ⟨S2, a2, b2, b3, b4⟩ := r_ma0 (S := S) (j := A) (by omega)
    have g44' : S2.1 0 44 = nI A := by rw [b4 _ _ (by omega) (by omega)]; exact h44
    refine ⟨wI S2 0 44 (nI (A + 1)), ?_, wI_self _ _ _ _, fun j i hj hi => ?_, fun i hi => ?_, fun a g h1 h2 hg => ?_, fun b i h1 h2 => ?_⟩
    · unfold f11_keepsAct
      simp (disch := omega) only [h44, nI_ltI, nI_leI, nI_eq, nI_clamp, nI_1, nI_add, nI_mul, inb_n, irm_n, nI_div, nI_m6, nI_d6, irm_6, qlt_1, qle_1, qgt_1, qge_1, qeq_1, qlt_2, qle_2, qgt_2, qge_2, qeq_2, qlt_3, qle_3, qgt_3, qge_3, qeq_3, qlt_4, qle_4, qgt_4, qge_4, qeq_4, qlt_5, qle_5, qgt_5, qge_5, qeq_5, qlt_6, qle_6, qgt_6, qge_6, qeq_6, qlt_7, qle_7, qgt_7, qge_7, qeq_7, qlt_8, qle_8, qgt_8, qge_8, qeq_8, qlt_9, qle_9, qgt_9, qge_9, qeq_9, qlt_10, qle_10, qgt_10, qge_10, qeq_10, qlt_12, qle_12, qgt_12, qge_12, qeq_12, qlt_16, qle_16, qgt_16, qge_16, qeq_16, qlt_20, qle_20, qgt_20, qge_20, qeq_20, qlt_24, qle_24, qgt_24, qge_24, qeq_24, qlt_30, qle_30, qgt_30, qge_30, qeq_30, qlt_32, qle_32, qgt_32, qge_32, qeq_32, qlt_37, qle_37, qgt_37, qge_37, qeq_37, qlt_40, qle_40, qgt_40, qge_40, qeq_40, qlt_42, qle_42, qgt_42, qge_42, qeq_42, qlt_43, qle_43, qgt_43, qge_43, qeq_43, qlt_45, qle_45, qgt_45, qge_45, qeq_45, qlt_47, qle_47, qgt_47, qge_47, qeq_47, qlt_48, qle_48, qgt_48, qge_48, qeq_48, qlt_57, qle_57, qgt_57, qge_57, qeq_57, qlt_59, qle_59, qgt_59, qge_59, qeq_59, qlt_60, qle_60, qgt_60, qge_60, qeq_60, qlt_61, qle_61, qgt_61, qge_61, qeq_61, qlt_62, qle_62, qgt_62, qge_62, qeq_62, qlt_64, qle_64, qgt_64, qge_64, qeq_64, qlt_91, qle_91, qgt_91, qge_91, qeq_91, qlt_93, qle_93, qgt_93, qge_93, qeq_93, qlt_97, qle_97, qgt_97, qge_97, qeq_97, qlt_122, qle_122, qgt_122, qge_122, qeq_122, qlt_400, qle_400, qgt_400, qge_400, qeq_400, qlt_999, qle_999, qgt_999, qge_999, qeq_999, qlt_0, qle_0, qgt_0, qge_0, qeq_0, qltm, qeqm, ↓reduceIte, Option.bind_some, not_true_eq_false, not_false_eq_true, and_true, true_and, and_false, false_and, or_false, false_or, or_true, true_or, Bool.false_eq_true, reduceCtorEq, c, a2, g44']
    · rw [wI_ne (by omega), b4 _ _ (by omega) (by omega), show A - A = 0 by omega, Nat.add_zero]
    · rw [wI_ne (by omega), b2 i hi]
    · rw [wI_ne (by omega), b3 a g h1 h2 hg]
    · rw [wI_g, if_neg (by omega), b4 _ _ (by omega) (by omega)]
