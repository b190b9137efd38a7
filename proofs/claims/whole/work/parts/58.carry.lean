/-! the reference's rows kept and laid back; halls of the class copied -/
theorem r_cr0 {S : jS} {p a n : Nat} (h56 : S.1 0 56 = 0) (h55 : S.1 0 55 = nI p) (hp : p + n ≤ 4750) (hn : n ≤ 800) (ha : a ≠ 0) (ha2 : a ≠ 53) : ∃ S1, f11_carryRow S a n = some (S1, ()) ∧ (∀ b i, S1.1 b i = if b = 53 ∧ p ≤ i ∧ i < p + n then S.1 a (i - p) else if b = 0 ∧ i = 55 then nI (p + n) else S.1 b i) := by
  obtain ⟨r, hr, hp⟩ := lp_up (G := n) (Post := fun r : jS => ∀ b i, r.1 b i = if b = 53 ∧ p ≤ i ∧ i < p + n then S.1 a (i - p) else if b = 0 ∧ i = 55 then nI (p + n) else S.1 b i) (fun m k S' => f11_carryRow_L1 a n m S' (nI k)) (fun k r => ∀ b i, r.1 b i = if b = 53 ∧ p ≤ i ∧ i < p + k then S.1 a (i - p) else if b = 0 ∧ i = 55 then nI (p + k) else S.1 b i) (by
    intro m k S' hk hI
    left
    have f56 : S'.1 0 56 = 0 := by rw [hI, if_neg (by omega), if_neg (by omega)]; exact h56
    have f55 : S'.1 0 55 = nI (p + k) := by rw [hI, if_neg (by omega), if_pos ⟨rfl, rfl⟩]
    have fa : S'.1 a k = S.1 a k := by rw [hI, if_neg (by omega), if_neg (by omega)]
    have n1 : ¬ n ≤ k := by omega
    have n2 : p + k < 4750 := by omega
    refine ⟨wI (wI S' 53 (p + k) (S.1 a k)) 0 55 (nI (p + k + 1)), ?_, ?_⟩
    · simp (disch := omega) only [f11_carryRow_L1, f56, f55, fa, nI_ltI, nI_leI, nI_eq, nI_clamp, nI_1, nI_add, nI_mul, inb_n, irm_n, nI_div, nI_m6, nI_d6, irm_6, qlt_1, qle_1, qgt_1, qge_1, qeq_1, qlt_2, qle_2, qgt_2, qge_2, qeq_2, qlt_3, qle_3, qgt_3, qge_3, qeq_3, qlt_4, qle_4, qgt_4, qge_4, qeq_4, qlt_5, qle_5, qgt_5, qge_5, qeq_5, qlt_6, qle_6, qgt_6, qge_6, qeq_6, qlt_7, qle_7, qgt_7, qge_7, qeq_7, qlt_8, qle_8, qgt_8, qge_8, qeq_8, qlt_9, qle_9, qgt_9, qge_9, qeq_9, qlt_10, qle_10, qgt_10, qge_10, qeq_10, qlt_12, qle_12, qgt_12, qge_12, qeq_12, qlt_16, qle_16, qgt_16, qge_16, qeq_16, qlt_20, qle_20, qgt_20, qge_20, qeq_20, qlt_24, qle_24, qgt_24, qge_24, qeq_24, qlt_30, qle_30, qgt_30, qge_30, qeq_30, qlt_32, qle_32, qgt_32, qge_32, qeq_32, qlt_37, qle_37, qgt_37, qge_37, qeq_37, qlt_40, qle_40, qgt_40, qge_40, qeq_40, qlt_42, qle_42, qgt_42, qge_42, qeq_42, qlt_43, qle_43, qgt_43, qge_43, qeq_43, qlt_45, qle_45, qgt_45, qge_45, qeq_45, qlt_47, qle_47, qgt_47, qge_47, qeq_47, qlt_48, qle_48, qgt_48, qge_48, qeq_48, qlt_57, qle_57, qgt_57, qge_57, qeq_57, qlt_59, qle_59, qgt_59, qge_59, qeq_59, qlt_60, qle_60, qgt_60, qge_60, qeq_60, qlt_61, qle_61, qgt_61, qge_61, qeq_61, qlt_62, qle_62, qgt_62, qge_62, qeq_62, qlt_64, qle_64, qgt_64, qge_64, qeq_64, qlt_91, qle_91, qgt_91, qge_91, qeq_91, qlt_93, qle_93, qgt_93, qge_93, qeq_93, qlt_97, qle_97, qgt_97, qge_97, qeq_97, qlt_122, qle_122, qgt_122, qge_122, qeq_122, qlt_400, qle_400, qgt_400, qge_400, qeq_400, qlt_999, qle_999, qgt_999, qge_999, qeq_999, qlt_0, qle_0, qgt_0, qge_0, qeq_0, qltm, qeqm, ↓reduceIte, Option.bind_some, not_true_eq_false, not_false_eq_true, and_true, true_and, and_false, false_and, or_false, false_or, or_true, true_or, Bool.false_eq_true, reduceCtorEq, wI_self, wI_ne, wI_nj, wI_L, n1, n2, hk]
    · intro b i
      rw [wI_g, wI_g, hI]
      by_cases e : i = p + k
      · subst e
        have : p + k - p = k := by omega
        grind
      · grind) (by
    intro m S' hI
    refine ⟨S', ?_, hI⟩
    simp (disch := omega) only [f11_carryRow_L1, nI_ltI, nI_leI, nI_eq, nI_clamp, nI_1, nI_add, nI_mul, inb_n, irm_n, nI_div, nI_m6, nI_d6, irm_6, qlt_1, qle_1, qgt_1, qge_1, qeq_1, qlt_2, qle_2, qgt_2, qge_2, qeq_2, qlt_3, qle_3, qgt_3, qge_3, qeq_3, qlt_4, qle_4, qgt_4, qge_4, qeq_4, qlt_5, qle_5, qgt_5, qge_5, qeq_5, qlt_6, qle_6, qgt_6, qge_6, qeq_6, qlt_7, qle_7, qgt_7, qge_7, qeq_7, qlt_8, qle_8, qgt_8, qge_8, qeq_8, qlt_9, qle_9, qgt_9, qge_9, qeq_9, qlt_10, qle_10, qgt_10, qge_10, qeq_10, qlt_12, qle_12, qgt_12, qge_12, qeq_12, qlt_16, qle_16, qgt_16, qge_16, qeq_16, qlt_20, qle_20, qgt_20, qge_20, qeq_20, qlt_24, qle_24, qgt_24, qge_24, qeq_24, qlt_30, qle_30, qgt_30, qge_30, qeq_30, qlt_32, qle_32, qgt_32, qge_32, qeq_32, qlt_37, qle_37, qgt_37, qge_37, qeq_37, qlt_40, qle_40, qgt_40, qge_40, qeq_40, qlt_42, qle_42, qgt_42, qge_42, qeq_42, qlt_43, qle_43, qgt_43, qge_43, qeq_43, qlt_45, qle_45, qgt_45, qge_45, qeq_45, qlt_47, qle_47, qgt_47, qge_47, qeq_47, qlt_48, qle_48, qgt_48, qge_48, qeq_48, qlt_57, qle_57, qgt_57, qge_57, qeq_57, qlt_59, qle_59, qgt_59, qge_59, qeq_59, qlt_60, qle_60, qgt_60, qge_60, qeq_60, qlt_61, qle_61, qgt_61, qge_61, qeq_61, qlt_62, qle_62, qgt_62, qge_62, qeq_62, qlt_64, qle_64, qgt_64, qge_64, qeq_64, qlt_91, qle_91, qgt_91, qge_91, qeq_91, qlt_93, qle_93, qgt_93, qge_93, qeq_93, qlt_97, qle_97, qgt_97, qge_97, qeq_97, qlt_122, qle_122, qgt_122, qge_122, qeq_122, qlt_400, qle_400, qgt_400, qge_400, qeq_400, qlt_999, qle_999, qgt_999, qge_999, qeq_999, qlt_0, qle_0, qgt_0, qge_0, qeq_0, qltm, qeqm, ↓reduceIte, Option.bind_some, not_true_eq_false, not_false_eq_true, and_true, true_and, and_false, false_and, or_false, false_or, or_true, true_or, Bool.false_eq_true, reduceCtorEq, Nat.le_refl]) jF 0 S (Nat.zero_le _) (by show _ < 5000; omega) (by
    intro b i
    rw [if_neg (by omega)]
    by_cases e : b = 0 ∧ i = 55
    · rw [if_pos e, e.1, e.2]; exact h55
    · rw [if_neg e])
  refine ⟨r, ?_, hp⟩
  unfold f11_carryRow
  have hr' : f11_carryRow_L1 a n jF S 0 = some r := hr
  rw [hr']; rfl
theorem r_cr1 {S : jS} {p a n : Nat} (h56 : S.1 0 56 = 1) (h55 : S.1 0 55 = nI p) (hp : p + n ≤ 4750) (hn : n ≤ 800) (ha : a ≠ 0) (ha2 : a ≠ 53) : ∃ S1, f11_carryRow S a n = some (S1, ()) ∧ (∀ b i, S1.1 b i = if b = a ∧ i < n then S.1 53 (p + i) else if b = 0 ∧ i = 55 then nI (p + n) else S.1 b i) := by
  obtain ⟨r, hr, hp⟩ := lp_up (G := n) (Post := fun r : jS => ∀ b i, r.1 b i = if b = a ∧ i < n then S.1 53 (p + i) else if b = 0 ∧ i = 55 then nI (p + n) else S.1 b i) (fun m k S' => f11_carryRow_L1 a n m S' (nI k)) (fun k r => ∀ b i, r.1 b i = if b = a ∧ i < k then S.1 53 (p + i) else if b = 0 ∧ i = 55 then nI (p + k) else S.1 b i) (by
    intro m k S' hk hI
    left
    have f56 : S'.1 0 56 = 1 := by rw [hI, if_neg (by omega), if_neg (by omega)]; exact h56
    have f55 : S'.1 0 55 = nI (p + k) := by rw [hI, if_neg (by omega), if_pos ⟨rfl, rfl⟩]
    have fa : S'.1 53 (p + k) = S.1 53 (p + k) := by rw [hI, if_neg (by omega), if_neg (by omega)]
    have n1 : ¬ n ≤ k := by omega
    have n2 : p + k < 4750 := by omega
    refine ⟨wI (wI S' a k (S.1 53 (p + k))) 0 55 (nI (p + k + 1)), ?_, ?_⟩
    · simp (disch := omega) only [f11_carryRow_L1, f56, f55, fa, nI_ltI, nI_leI, nI_eq, nI_clamp, nI_1, nI_add, nI_mul, inb_n, irm_n, nI_div, nI_m6, nI_d6, irm_6, qlt_1, qle_1, qgt_1, qge_1, qeq_1, qlt_2, qle_2, qgt_2, qge_2, qeq_2, qlt_3, qle_3, qgt_3, qge_3, qeq_3, qlt_4, qle_4, qgt_4, qge_4, qeq_4, qlt_5, qle_5, qgt_5, qge_5, qeq_5, qlt_6, qle_6, qgt_6, qge_6, qeq_6, qlt_7, qle_7, qgt_7, qge_7, qeq_7, qlt_8, qle_8, qgt_8, qge_8, qeq_8, qlt_9, qle_9, qgt_9, qge_9, qeq_9, qlt_10, qle_10, qgt_10, qge_10, qeq_10, qlt_12, qle_12, qgt_12, qge_12, qeq_12, qlt_16, qle_16, qgt_16, qge_16, qeq_16, qlt_20, qle_20, qgt_20, qge_20, qeq_20, qlt_24, qle_24, qgt_24, qge_24, qeq_24, qlt_30, qle_30, qgt_30, qge_30, qeq_30, qlt_32, qle_32, qgt_32, qge_32, qeq_32, qlt_37, qle_37, qgt_37, qge_37, qeq_37, qlt_40, qle_40, qgt_40, qge_40, qeq_40, qlt_42, qle_42, qgt_42, qge_42, qeq_42, qlt_43, qle_43, qgt_43, qge_43, qeq_43, qlt_45, qle_45, qgt_45, qge_45, qeq_45, qlt_47, qle_47, qgt_47, qge_47, qeq_47, qlt_48, qle_48, qgt_48, qge_48, qeq_48, qlt_57, qle_57, qgt_57, qge_57, qeq_57, qlt_59, qle_59, qgt_59, qge_59, qeq_59, qlt_60, qle_60, qgt_60, qge_60, qeq_60, qlt_61, qle_61, qgt_61, qge_61, qeq_61, qlt_62, qle_62, qgt_62, qge_62, qeq_62, qlt_64, qle_64, qgt_64, qge_64, qeq_64, qlt_91, qle_91, qgt_91, qge_91, qeq_91, qlt_93, qle_93, qgt_93, qge_93, qeq_93, qlt_97, qle_97, qgt_97, qge_97, qeq_97, qlt_122, qle_122, qgt_122, qge_122, qeq_122, qlt_400, qle_400, qgt_400, qge_400, qeq_400, qlt_999, qle_999, qgt_999, qge_999, qeq_999, qlt_0, qle_0, qgt_0, qge_0, qeq_0, qltm, qeqm, ↓reduceIte, Option.bind_some, not_true_eq_false, not_false_eq_true, and_true, true_and, and_false, false_and, or_false, false_or, or_true, true_or, Bool.false_eq_true, reduceCtorEq, wI_self, wI_ne, wI_nj, wI_L, n1, n2, hk, one_ne0]
    · intro b i
      rw [wI_g, wI_g, hI]
      grind) (by
    intro m S' hI
    refine ⟨S', ?_, hI⟩
    simp (disch := omega) only [f11_carryRow_L1, nI_ltI, nI_leI, nI_eq, nI_clamp, nI_1, nI_add, nI_mul, inb_n, irm_n, nI_div, nI_m6, nI_d6, irm_6, qlt_1, qle_1, qgt_1, qge_1, qeq_1, qlt_2, qle_2, qgt_2, qge_2, qeq_2, qlt_3, qle_3, qgt_3, qge_3, qeq_3, qlt_4, qle_4, qgt_4, qge_4, qeq_4, qlt_5, qle_5, qgt_5, qge_5, qeq_5, qlt_6, qle_6, qgt_6, qge_6, qeq_6, qlt_7, qle_7, qgt_7, qge_7, qeq_7, qlt_8, qle_8, qgt_8, qge_8, qeq_8, qlt_9, qle_9, qgt_9, qge_9, qeq_9, qlt_10, qle_10, qgt_10, qge_10, qeq_10, qlt_12, qle_12, qgt_12, qge_12, qeq_12, qlt_16, qle_16, qgt_16, qge_16, qeq_16, qlt_20, qle_20, qgt_20, qge_20, qeq_20, qlt_24, qle_24, qgt_24, qge_24, qeq_24, qlt_30, qle_30, qgt_30, qge_30, qeq_30, qlt_32, qle_32, qgt_32, qge_32, qeq_32, qlt_37, qle_37, qgt_37, qge_37, qeq_37, qlt_40, qle_40, qgt_40, qge_40, qeq_40, qlt_42, qle_42, qgt_42, qge_42, qeq_42, qlt_43, qle_43, qgt_43, qge_43, qeq_43, qlt_45, qle_45, qgt_45, qge_45, qeq_45, qlt_47, qle_47, qgt_47, qge_47, qeq_47, qlt_48, qle_48, qgt_48, qge_48, qeq_48, qlt_57, qle_57, qgt_57, qge_57, qeq_57, qlt_59, qle_59, qgt_59, qge_59, qeq_59, qlt_60, qle_60, qgt_60, qge_60, qeq_60, qlt_61, qle_61, qgt_61, qge_61, qeq_61, qlt_62, qle_62, qgt_62, qge_62, qeq_62, qlt_64, qle_64, qgt_64, qge_64, qeq_64, qlt_91, qle_91, qgt_91, qge_91, qeq_91, qlt_93, qle_93, qgt_93, qge_93, qeq_93, qlt_97, qle_97, qgt_97, qge_97, qeq_97, qlt_122, qle_122, qgt_122, qge_122, qeq_122, qlt_400, qle_400, qgt_400, qge_400, qeq_400, qlt_999, qle_999, qgt_999, qge_999, qeq_999, qlt_0, qle_0, qgt_0, qge_0, qeq_0, qltm, qeqm, ↓reduceIte, Option.bind_some, not_true_eq_false, not_false_eq_true, and_true, true_and, and_false, false_and, or_false, false_or, or_true, true_or, Bool.false_eq_true, reduceCtorEq, Nat.le_refl]) jF 0 S (Nat.zero_le _) (by show _ < 5000; omega) (by
    intro b i
    rw [if_neg (by omega)]
    by_cases e : b = 0 ∧ i = 55
    · rw [if_pos e, e.1, e.2]; exact h55
    · rw [if_neg e])
  refine ⟨r, ?_, hp⟩
  unfold f11_carryRow
  have hr' : f11_carryRow_L1 a n jF S 0 = some r := hr
  rw [hr']; rfl
/-- the running rows of S0 lie at 3800 in X's images -/
def svd (S0 X : jS) : Prop := (∀ i, i < 11 → X.1 53 (3800 + i) = S0.1 1 i) ∧ (∀ a g, 2 ≤ a → a ≤ 6 → g < 7 → X.1 53 (3811 + 7 * (a - 2) + g) = S0.1 a g)
def rQ0 (S X : jS) : Prop := ∀ a i, (a = 0 → i = 19 ∨ i = 23 ∨ i = 28 ∨ i = 44) → (a = 0 ∨ (7 ≤ a ∧ a ≤ 13) ∨ (29 ≤ a ∧ a ≤ 35) ∨ a = 42 ∨ (a = 53 ∧ i < 3800) ∨ a = 54) → X.1 a i = S.1 a i
def rQ1 (S X : jS) : Prop := (∀ i, i < 11 → X.1 1 i = S.1 1 i) ∧ (∀ a g, 2 ≤ a → a ≤ 6 → g < 7 → X.1 a g = S.1 a g)
theorem rQ0.rf (S : jS) : rQ0 S S := fun _ _ _ _ => rfl
theorem rQ0.tr {S X Z : jS} (h : rQ0 S X) (g : rQ0 X Z) : rQ0 S Z := fun a i h1 h2 => (g a i h1 h2).trans (h a i h1 h2)
theorem rF.q {S X : jS} (h : rF S X) : rQ0 S X := fun a i h1 h2 => h a i (by omega) (by omega) (by omega) (by omega) (by omega) (by omega)
theorem r_keep {S : jS} : ∃ S1, f11_keepsAll S = some (S1, ()) ∧ svd S S1 ∧ (∀ b i, b ≠ 53 ∨ i < 3800 → ¬ (b = 0 ∧ (i = 55 ∨ i = 56)) → S1.1 b i = S.1 b i) := by
  have e0 : (950 : Int32) * 4 = nI 3800 := by decide
  obtain ⟨S1, a1, b1⟩ := r_cr0 (S := wI (wI S 0 55 (nI 3800)) 0 56 0) (p := 3800) (a := 1) (n := 11) (wI_self _ _ _ _) (by rw [wI_nj (by omega), wI_self]) (by omega) (by omega) (by omega) (by omega)
  obtain ⟨S2, a2, b2⟩ := r_cr0 (S := S1) (p := 3811) (a := 2) (n := 7) (by rw [b1, if_neg (by omega), if_neg (by omega), wI_self]) (by rw [b1, if_neg (by omega), if_pos ⟨rfl, rfl⟩]) (by omega) (by omega) (by omega) (by omega)
  obtain ⟨S3, a3, b3⟩ := r_cr0 (S := S2) (p := 3818) (a := 3) (n := 7) (by rw [b2, if_neg (by omega), if_neg (by omega), b1, if_neg (by omega), if_neg (by omega), wI_self]) (by rw [b2, if_neg (by omega), if_pos ⟨rfl, rfl⟩]) (by omega) (by omega) (by omega) (by omega)
  obtain ⟨S4, a4, b4⟩ := r_cr0 (S := S3) (p := 3825) (a := 4) (n := 7) (by rw [b3, if_neg (by omega), if_neg (by omega), b2, if_neg (by omega), if_neg (by omega), b1, if_neg (by omega), if_neg (by omega), wI_self]) (by rw [b3, if_neg (by omega), if_pos ⟨rfl, rfl⟩]) (by omega) (by omega) (by omega) (by omega)
  obtain ⟨S5, a5, b5⟩ := r_cr0 (S := S4) (p := 3832) (a := 5) (n := 7) (by rw [b4, if_neg (by omega), if_neg (by omega), b3, if_neg (by omega), if_neg (by omega), b2, if_neg (by omega), if_neg (by omega), b1, if_neg (by omega), if_neg (by omega), wI_self]) (by rw [b4, if_neg (by omega), if_pos ⟨rfl, rfl⟩]) (by omega) (by omega) (by omega) (by omega)
  obtain ⟨S6, a6, b6⟩ := r_cr0 (S := S5) (p := 3839) (a := 6) (n := 7) (by rw [b5, if_neg (by omega), if_neg (by omega), b4, if_neg (by omega), if_neg (by omega), b3, if_neg (by omega), if_neg (by omega), b2, if_neg (by omega), if_neg (by omega), b1, if_neg (by omega), if_neg (by omega), wI_self]) (by rw [b5, if_neg (by omega), if_pos ⟨rfl, rfl⟩]) (by omega) (by omega) (by omega) (by omega)
  refine ⟨S6, ?_, ⟨fun i hi => ?_, fun a g h1 h2 hg => ?_⟩, fun b i h1 h2 => ?_⟩
  · unfold f11_keepsAll f11_carriesAll
    rw [if_pos (Or.inl rfl), e0]
    simp only [a1, a2, a3, a4, a5, a6, ↓reduceIte, Option.bind_some, not_true_eq_false, not_false_eq_true, and_true, true_and, and_false, false_and, or_false, false_or, or_true, true_or, Bool.false_eq_true, reduceCtorEq]
  · rw [b6, if_neg (by omega), if_neg (by omega), b5, if_neg (by omega), if_neg (by omega), b4, if_neg (by omega), if_neg (by omega), b3, if_neg (by omega), if_neg (by omega), b2, if_neg (by omega), if_neg (by omega), b1, if_pos (by omega), wI_ne (by omega), wI_ne (by omega)]
    rw [show 3800 + i - 3800 = i by omega]
  · have hc : a = 2 ∨ a = 3 ∨ a = 4 ∨ a = 5 ∨ a = 6 := by omega
    rcases hc with rfl | rfl | rfl | rfl | rfl
    · rw [b6, if_neg (by omega), if_neg (by omega), b5, if_neg (by omega), if_neg (by omega), b4, if_neg (by omega), if_neg (by omega), b3, if_neg (by omega), if_neg (by omega), b2, if_pos (by omega), b1, if_neg (by omega), if_neg (by omega), wI_ne (by omega), wI_ne (by omega)]
      rw [show 3811 + 7 * (2 - 2) + g - 3811 = g by omega]
    · rw [b6, if_neg (by omega), if_neg (by omega), b5, if_neg (by omega), if_neg (by omega), b4, if_neg (by omega), if_neg (by omega), b3, if_pos (by omega), b2, if_neg (by omega), if_neg (by omega), b1, if_neg (by omega), if_neg (by omega), wI_ne (by omega), wI_ne (by omega)]
      rw [show 3811 + 7 * (3 - 2) + g - 3818 = g by omega]
    · rw [b6, if_neg (by omega), if_neg (by omega), b5, if_neg (by omega), if_neg (by omega), b4, if_pos (by omega), b3, if_neg (by omega), if_neg (by omega), b2, if_neg (by omega), if_neg (by omega), b1, if_neg (by omega), if_neg (by omega), wI_ne (by omega), wI_ne (by omega)]
      rw [show 3811 + 7 * (4 - 2) + g - 3825 = g by omega]
    · rw [b6, if_neg (by omega), if_neg (by omega), b5, if_pos (by omega), b4, if_neg (by omega), if_neg (by omega), b3, if_neg (by omega), if_neg (by omega), b2, if_neg (by omega), if_neg (by omega), b1, if_neg (by omega), if_neg (by omega), wI_ne (by omega), wI_ne (by omega)]
      rw [show 3811 + 7 * (5 - 2) + g - 3832 = g by omega]
    · rw [b6, if_pos (by omega), b5, if_neg (by omega), if_neg (by omega), b4, if_neg (by omega), if_neg (by omega), b3, if_neg (by omega), if_neg (by omega), b2, if_neg (by omega), if_neg (by omega), b1, if_neg (by omega), if_neg (by omega), wI_ne (by omega), wI_ne (by omega)]
      rw [show 3811 + 7 * (6 - 2) + g - 3839 = g by omega]
  · rw [b6, if_neg (by omega), if_neg (by omega), b5, if_neg (by omega), if_neg (by omega), b4, if_neg (by omega), if_neg (by omega), b3, if_neg (by omega), if_neg (by omega), b2, if_neg (by omega), if_neg (by omega), b1, if_neg (by omega), if_neg (by omega), wI_g, if_neg (by omega), wI_g, if_neg (by omega)]
theorem r_lay {S0 X : jS} (h : svd S0 X) : ∃ S1, f11_laysBack X = some (S1, ()) ∧ rQ1 S0 S1 ∧ (∀ b i, b = 0 ∨ 7 ≤ b → ¬ (b = 0 ∧ (i = 55 ∨ i = 56)) → S1.1 b i = X.1 b i) := by
  have e0 : (950 : Int32) * 4 = nI 3800 := by decide
  obtain ⟨S1, a1, b1⟩ := r_cr1 (S := wI (wI X 0 55 (nI 3800)) 0 56 1) (p := 3800) (a := 1) (n := 11) (wI_self _ _ _ _) (by rw [wI_nj (by omega), wI_self]) (by omega) (by omega) (by omega) (by omega)
  obtain ⟨S2, a2, b2⟩ := r_cr1 (S := S1) (p := 3811) (a := 2) (n := 7) (by rw [b1, if_neg (by omega), if_neg (by omega), wI_self]) (by rw [b1, if_neg (by omega), if_pos ⟨rfl, rfl⟩]) (by omega) (by omega) (by omega) (by omega)
  obtain ⟨S3, a3, b3⟩ := r_cr1 (S := S2) (p := 3818) (a := 3) (n := 7) (by rw [b2, if_neg (by omega), if_neg (by omega), b1, if_neg (by omega), if_neg (by omega), wI_self]) (by rw [b2, if_neg (by omega), if_pos ⟨rfl, rfl⟩]) (by omega) (by omega) (by omega) (by omega)
  obtain ⟨S4, a4, b4⟩ := r_cr1 (S := S3) (p := 3825) (a := 4) (n := 7) (by rw [b3, if_neg (by omega), if_neg (by omega), b2, if_neg (by omega), if_neg (by omega), b1, if_neg (by omega), if_neg (by omega), wI_self]) (by rw [b3, if_neg (by omega), if_pos ⟨rfl, rfl⟩]) (by omega) (by omega) (by omega) (by omega)
  obtain ⟨S5, a5, b5⟩ := r_cr1 (S := S4) (p := 3832) (a := 5) (n := 7) (by rw [b4, if_neg (by omega), if_neg (by omega), b3, if_neg (by omega), if_neg (by omega), b2, if_neg (by omega), if_neg (by omega), b1, if_neg (by omega), if_neg (by omega), wI_self]) (by rw [b4, if_neg (by omega), if_pos ⟨rfl, rfl⟩]) (by omega) (by omega) (by omega) (by omega)
  obtain ⟨S6, a6, b6⟩ := r_cr1 (S := S5) (p := 3839) (a := 6) (n := 7) (by rw [b5, if_neg (by omega), if_neg (by omega), b4, if_neg (by omega), if_neg (by omega), b3, if_neg (by omega), if_neg (by omega), b2, if_neg (by omega), if_neg (by omega), b1, if_neg (by omega), if_neg (by omega), wI_self]) (by rw [b5, if_neg (by omega), if_pos ⟨rfl, rfl⟩]) (by omega) (by omega) (by omega) (by omega)
  refine ⟨S6, ?_, ⟨fun i hi => ?_, fun a g h1 h2 hg => ?_⟩, fun b i h1 h2 => ?_⟩
  · unfold f11_laysBack f11_carriesAll
    rw [if_pos (Or.inr rfl), e0]
    simp only [a1, a2, a3, a4, a5, a6, ↓reduceIte, Option.bind_some, not_true_eq_false, not_false_eq_true, and_true, true_and, and_false, false_and, or_false, false_or, or_true, true_or, Bool.false_eq_true, reduceCtorEq]
  · rw [b6, if_neg (by omega), if_neg (by omega), b5, if_neg (by omega), if_neg (by omega), b4, if_neg (by omega), if_neg (by omega), b3, if_neg (by omega), if_neg (by omega), b2, if_neg (by omega), if_neg (by omega), b1, if_pos (by omega), wI_ne (by omega), wI_ne (by omega)]
    exact h.1 i hi
  · have hc : a = 2 ∨ a = 3 ∨ a = 4 ∨ a = 5 ∨ a = 6 := by omega
    rcases hc with rfl | rfl | rfl | rfl | rfl
    · rw [b6, if_neg (by omega), if_neg (by omega), b5, if_neg (by omega), if_neg (by omega), b4, if_neg (by omega), if_neg (by omega), b3, if_neg (by omega), if_neg (by omega), b2, if_pos (by omega), b1, if_neg (by omega), if_neg (by omega), wI_ne (by omega), wI_ne (by omega)]
      exact h.2 2 g (by omega) (by omega) hg
    · rw [b6, if_neg (by omega), if_neg (by omega), b5, if_neg (by omega), if_neg (by omega), b4, if_neg (by omega), if_neg (by omega), b3, if_pos (by omega), b2, if_neg (by omega), if_neg (by omega), b1, if_neg (by omega), if_neg (by omega), wI_ne (by omega), wI_ne (by omega)]
      exact h.2 3 g (by omega) (by omega) hg
    · rw [b6, if_neg (by omega), if_neg (by omega), b5, if_neg (by omega), if_neg (by omega), b4, if_pos (by omega), b3, if_neg (by omega), if_neg (by omega), b2, if_neg (by omega), if_neg (by omega), b1, if_neg (by omega), if_neg (by omega), wI_ne (by omega), wI_ne (by omega)]
      exact h.2 4 g (by omega) (by omega) hg
    · rw [b6, if_neg (by omega), if_neg (by omega), b5, if_pos (by omega), b4, if_neg (by omega), if_neg (by omega), b3, if_neg (by omega), if_neg (by omega), b2, if_neg (by omega), if_neg (by omega), b1, if_neg (by omega), if_neg (by omega), wI_ne (by omega), wI_ne (by omega)]
      exact h.2 5 g (by omega) (by omega) hg
    · rw [b6, if_pos (by omega), b5, if_neg (by omega), if_neg (by omega), b4, if_neg (by omega), if_neg (by omega), b3, if_neg (by omega), if_neg (by omega), b2, if_neg (by omega), if_neg (by omega), b1, if_neg (by omega), if_neg (by omega), wI_ne (by omega), wI_ne (by omega)]
      exact h.2 6 g (by omega) (by omega) hg
  · rw [b6, if_neg (by omega), if_neg (by omega), b5, if_neg (by omega), if_neg (by omega), b4, if_neg (by omega), if_neg (by omega), b3, if_neg (by omega), if_neg (by omega), b2, if_neg (by omega), if_neg (by omega), b1, if_neg (by omega), if_neg (by omega), wI_g, if_neg (by omega), wI_g, if_neg (by omega)]
/-- the class: a hall copied -/
def cpF (S : jS) (o a0 : Nat) : jS :=
  let S1 := wI S o 0 (S.1 a0 0)
  let S2 := wI S1 o 1 (S1.1 a0 1)
  let S3 := wI S2 o 2 (S2.1 a0 2)
  let S4 := wI S3 o 3 (S3.1 a0 3)
  let S5 := wI S4 o 4 (S4.1 a0 4)
  let S6 := wI S5 o 5 (S5.1 a0 5)
  let S7 := wI S6 o 6 (S6.1 a0 6)
  let S8 := wI S7 o 7 (S7.1 a0 7)
  let T1 := wC S8 (a0 + 1) (o + 1) 0 0 6
  let T2 := wC T1 (a0 + 2) (o + 2) 0 0 7
  let T3 := wC T2 (a0 + 3) (o + 3) 0 0 7
  let T4 := wC T3 (a0 + 4) (o + 4) 0 0 7
  let T5 := wC T4 (a0 + 5) (o + 5) 0 0 7
  wC T5 (a0 + 6) (o + 6) 0 0 7
theorem cp_eq (S : jS) (o a0 : Nat) : f4_copyFrom S o a0 = some (cpF S o a0, ()) := rfl
theorem cp_s {S X : jS} {o a0 k k1 : Nat} (hne : a0 ≠ o) (h : ∀ a i, X.1 a i = if a = o ∧ i < k then S.1 a0 i else S.1 a i) (hk1 : k1 = k + 1) : ∀ a i, (wI X o k (X.1 a0 k)).1 a i = if a = o ∧ i < k1 then S.1 a0 i else S.1 a i := by
  subst hk1
  intro a i
  have e : X.1 a0 k = S.1 a0 k := by rw [h, if_neg (fun z => hne z.1)]
  rw [wI_g, e, h]
  by_cases e2 : i = k
  · subst e2; grind
  · grind
theorem cp_row {S X : jS} {o a0 k n : Nat} (hd : a0 + 6 < o ∨ o + 6 < a0) (hk : k < 6) (h : ∀ a i, X.1 a i = if a = o ∧ i < 8 then S.1 a0 i else if o < a ∧ a ≤ o + k ∧ i < (if a = o + 1 then 6 else 7) then S.1 (a0 + (a - o)) i else S.1 a i) (hn : n = if k = 0 then 6 else 7) : ∀ a i, (wC X (a0 + (k + 1)) (o + (k + 1)) 0 0 n).1 a i = if a = o ∧ i < 8 then S.1 a0 i else if o < a ∧ a ≤ o + (k + 1) ∧ i < (if a = o + 1 then 6 else 7) then S.1 (a0 + (a - o)) i else S.1 a i := by
  intro a i
  have ex : ∀ j, X.1 (a0 + (k + 1)) j = S.1 (a0 + (k + 1)) j := by intro j; rw [h, if_neg (by omega), if_neg (by omega)]
  rw [wC_g, ex, h]
  by_cases e : a = o + (k + 1)
  · subst e
    have e2 : o + (k + 1) - o = k + 1 := by omega
    have e3 : (0 + (i - 0)) = i := by omega
    rw [e2, e3]
    by_cases hk0 : k = 0
    · subst hk0
      subst hn
      by_cases hi : i < 6
      · rw [if_pos (by simp; omega), if_neg (by omega), if_pos (by simp; omega)]
      · rw [if_neg (by simp; omega), if_neg (by omega), if_neg (by omega), if_neg (by omega), if_neg (by simp; omega)]
    · rw [if_neg hk0] at hn
      subst hn
      by_cases hi : i < 7
      · rw [if_pos (by omega), if_neg (by omega), if_pos ⟨by omega, by omega, by rw [if_neg (by omega)]; exact hi⟩]
      · rw [if_neg (by omega), if_neg (by omega), if_neg (by omega), if_neg (by omega), if_neg (by rw [if_neg (by omega)]; omega)]
  · rw [if_neg (fun z => e z.1)]
    by_cases e2 : a = o ∧ i < 8
    · rw [if_pos e2, if_pos e2]
    · rw [if_neg e2, if_neg e2]
      by_cases e3 : o < a ∧ a ≤ o + k ∧ i < (if a = o + 1 then 6 else 7)
      · rw [if_pos e3, if_pos ⟨e3.1, by omega, e3.2.2⟩]
      · rw [if_neg e3, if_neg (fun z => e3 ⟨z.1, by omega, z.2.2⟩)]
theorem cp_at {S : jS} {o a0 : Nat} (hd : a0 + 6 < o ∨ o + 6 < a0) : ∀ a i, (cpF S o a0).1 a i = if a = o ∧ i < 8 then S.1 a0 i else if o < a ∧ a ≤ o + 6 ∧ i < (if a = o + 1 then 6 else 7) then S.1 (a0 + (a - o)) i else S.1 a i := by
  have hne : a0 ≠ o := by omega
  have h1 := cp_s (S := S) (X := S) (k := 0) (k1 := 1) hne (fun a i => by rw [if_neg (by omega)]) rfl
  have h2 := cp_s (S := S) (k := 1) (k1 := 2) hne h1 rfl
  have h3 := cp_s (S := S) (k := 2) (k1 := 3) hne h2 rfl
  have h4 := cp_s (S := S) (k := 3) (k1 := 4) hne h3 rfl
  have h5 := cp_s (S := S) (k := 4) (k1 := 5) hne h4 rfl
  have h6 := cp_s (S := S) (k := 5) (k1 := 6) hne h5 rfl
  have h7 := cp_s (S := S) (k := 6) (k1 := 7) hne h6 rfl
  have h8 := cp_s (S := S) (k := 7) (k1 := 8) hne h7 rfl
  have g1 := cp_row (S := S) (o := o) (a0 := a0) (k := 0) (n := 6) hd (by omega) (fun a i => (h8 a i).trans (by rw [if_neg (c := o < a ∧ a ≤ o + 0 ∧ i < (if a = o + 1 then 6 else 7)) (by omega)])) rfl
  have g2 := cp_row (S := S) (o := o) (a0 := a0) (k := 1) (n := 7) hd (by omega) g1 rfl
  have g3 := cp_row (S := S) (o := o) (a0 := a0) (k := 2) (n := 7) hd (by omega) g2 rfl
  have g4 := cp_row (S := S) (o := o) (a0 := a0) (k := 3) (n := 7) hd (by omega) g3 rfl
  have g5 := cp_row (S := S) (o := o) (a0 := a0) (k := 4) (n := 7) hd (by omega) g4 rfl
  exact cp_row (S := S) (o := o) (a0 := a0) (k := 5) (n := 7) hd (by omega) g5 rfl
theorem cp_H {S : jS} {o a0 : Nat} {N : mN} (hd : a0 + 6 < o ∨ o + 6 < a0) (hN : NOk N) (h : HIs (hC S a0) N) : HIs (hC (cpF S o a0) o) N := by
  have hG := hN.2.2.1
  have hC' := hN.2.1
  refine ⟨fun i a1 a2 => ?_, ?_, fun c hc => ?_, fun a g a1 a2 hg => ?_⟩
  · show (cpF S o a0).1 (o + 0) i = _
    rw [cp_at hd, if_pos ⟨rfl, a1⟩]; exact h.1 i a1 a2
  · show (cpF S o a0).1 (o + 0) 6 = _
    rw [cp_at hd, if_pos ⟨rfl, by omega⟩]; exact h.2.1
  · show (cpF S o a0).1 (o + 1) c = _
    rw [cp_at hd, if_neg (by omega), if_pos ⟨by omega, by omega, by rw [if_pos rfl]; omega⟩, show o + 1 - o = 1 by omega]; exact h.2.2.1 c hc
  · show (cpF S o a0).1 (o + a) g = _
    rw [cp_at hd, if_neg (by omega), if_pos ⟨by omega, by omega, by rw [if_neg (by omega)]; omega⟩, show o + a - o = a by omega]; exact h.2.2.2 a g a1 a2 hg
theorem cp_fr {S : jS} {o a0 a i : Nat} (hd : a0 + 6 < o ∨ o + 6 < a0) (ha : a < o ∨ o + 6 < a) : (cpF S o a0).1 a i = S.1 a i := by
  rw [cp_at hd, if_neg (by omega), if_neg (by omega)]
