/-! where to look next -/
theorem c_fill {S : jS} {a n : Nat} {x : Int32} (hn : n ≤ 400) : ∃ S1, f18_fill S a n x = some (S1, ()) ∧ (∀ c i, S1.1 c i = if c = a ∧ i < n then x else S.1 c i) := by
  obtain ⟨r, hr, hp⟩ := lp_up (G := n) (Post := fun r : jS => ∀ c i, r.1 c i = if c = a ∧ i < n then x else S.1 c i) (fun m k S' => f18_fill_L1 a n x (nI n) m S' (nI k)) (fun k r => ∀ c i, r.1 c i = if c = a ∧ i < k then x else S.1 c i) (by
    intro m k S' hk hI
    left
    have n1 : ¬ n ≤ k := by omega
    refine ⟨wI S' a k x, ?_, fun c i => ?_⟩
    · show f18_fill_L1 a n x (nI n) (m + 1) S' (nI k) = _
      rw [f18_fill_L1]
      simp (disch := omega) only [nI_ltI, nI_leI, nI_eq, nI_clamp, nI_1, nI_add, nI_mul, inb_n, irm_n, nI_div, nI_m6, nI_d6, irm_6, qlt_1, qle_1, qgt_1, qge_1, qeq_1, qlt_2, qle_2, qgt_2, qge_2, qeq_2, qlt_3, qle_3, qgt_3, qge_3, qeq_3, qlt_4, qle_4, qgt_4, qge_4, qeq_4, qlt_5, qle_5, qgt_5, qge_5, qeq_5, qlt_6, qle_6, qgt_6, qge_6, qeq_6, qlt_7, qle_7, qgt_7, qge_7, qeq_7, qlt_8, qle_8, qgt_8, qge_8, qeq_8, qlt_9, qle_9, qgt_9, qge_9, qeq_9, qlt_10, qle_10, qgt_10, qge_10, qeq_10, qlt_12, qle_12, qgt_12, qge_12, qeq_12, qlt_16, qle_16, qgt_16, qge_16, qeq_16, qlt_20, qle_20, qgt_20, qge_20, qeq_20, qlt_24, qle_24, qgt_24, qge_24, qeq_24, qlt_30, qle_30, qgt_30, qge_30, qeq_30, qlt_32, qle_32, qgt_32, qge_32, qeq_32, qlt_37, qle_37, qgt_37, qge_37, qeq_37, qlt_40, qle_40, qgt_40, qge_40, qeq_40, qlt_42, qle_42, qgt_42, qge_42, qeq_42, qlt_43, qle_43, qgt_43, qge_43, qeq_43, qlt_45, qle_45, qgt_45, qge_45, qeq_45, qlt_47, qle_47, qgt_47, qge_47, qeq_47, qlt_48, qle_48, qgt_48, qge_48, qeq_48, qlt_57, qle_57, qgt_57, qge_57, qeq_57, qlt_59, qle_59, qgt_59, qge_59, qeq_59, qlt_60, qle_60, qgt_60, qge_60, qeq_60, qlt_61, qle_61, qgt_61, qge_61, qeq_61, qlt_62, qle_62, qgt_62, qge_62, qeq_62, qlt_64, qle_64, qgt_64, qge_64, qeq_64, qlt_91, qle_91, qgt_91, qge_91, qeq_91, qlt_93, qle_93, qgt_93, qge_93, qeq_93, qlt_97, qle_97, qgt_97, qge_97, qeq_97, qlt_122, qle_122, qgt_122, qge_122, qeq_122, qlt_400, qle_400, qgt_400, qge_400, qeq_400, qlt_999, qle_999, qgt_999, qge_999, qeq_999, qlt_0, qle_0, qgt_0, qge_0, qeq_0, qltm, qeqm, ↓reduceIte, Option.bind_some, not_true_eq_false, not_false_eq_true, and_true, true_and, and_false, false_and, or_false, false_or, or_true, true_or, Bool.false_eq_true, reduceCtorEq, n1, hk]
    · rw [wI_g, hI]
      grind) (by
    intro m S' hI
    refine ⟨S', ?_, hI⟩
    show f18_fill_L1 a n x (nI n) (m + 1) S' (nI n) = _
    rw [f18_fill_L1]
    simp (disch := omega) only [nI_ltI, nI_leI, nI_eq, nI_clamp, nI_1, nI_add, nI_mul, inb_n, irm_n, nI_div, nI_m6, nI_d6, irm_6, qlt_1, qle_1, qgt_1, qge_1, qeq_1, qlt_2, qle_2, qgt_2, qge_2, qeq_2, qlt_3, qle_3, qgt_3, qge_3, qeq_3, qlt_4, qle_4, qgt_4, qge_4, qeq_4, qlt_5, qle_5, qgt_5, qge_5, qeq_5, qlt_6, qle_6, qgt_6, qge_6, qeq_6, qlt_7, qle_7, qgt_7, qge_7, qeq_7, qlt_8, qle_8, qgt_8, qge_8, qeq_8, qlt_9, qle_9, qgt_9, qge_9, qeq_9, qlt_10, qle_10, qgt_10, qge_10, qeq_10, qlt_12, qle_12, qgt_12, qge_12, qeq_12, qlt_16, qle_16, qgt_16, qge_16, qeq_16, qlt_20, qle_20, qgt_20, qge_20, qeq_20, qlt_24, qle_24, qgt_24, qge_24, qeq_24, qlt_30, qle_30, qgt_30, qge_30, qeq_30, qlt_32, qle_32, qgt_32, qge_32, qeq_32, qlt_37, qle_37, qgt_37, qge_37, qeq_37, qlt_40, qle_40, qgt_40, qge_40, qeq_40, qlt_42, qle_42, qgt_42, qge_42, qeq_42, qlt_43, qle_43, qgt_43, qge_43, qeq_43, qlt_45, qle_45, qgt_45, qge_45, qeq_45, qlt_47, qle_47, qgt_47, qge_47, qeq_47, qlt_48, qle_48, qgt_48, qge_48, qeq_48, qlt_57, qle_57, qgt_57, qge_57, qeq_57, qlt_59, qle_59, qgt_59, qge_59, qeq_59, qlt_60, qle_60, qgt_60, qge_60, qeq_60, qlt_61, qle_61, qgt_61, qge_61, qeq_61, qlt_62, qle_62, qgt_62, qge_62, qeq_62, qlt_64, qle_64, qgt_64, qge_64, qeq_64, qlt_91, qle_91, qgt_91, qge_91, qeq_91, qlt_93, qle_93, qgt_93, qge_93, qeq_93, qlt_97, qle_97, qgt_97, qge_97, qeq_97, qlt_122, qle_122, qgt_122, qge_122, qeq_122, qlt_400, qle_400, qgt_400, qge_400, qeq_400, qlt_999, qle_999, qgt_999, qge_999, qeq_999, qlt_0, qle_0, qgt_0, qge_0, qeq_0, qltm, qeqm, ↓reduceIte, Option.bind_some, not_true_eq_false, not_false_eq_true, and_true, true_and, and_false, false_and, or_false, false_or, or_true, true_or, Bool.false_eq_true, reduceCtorEq, Nat.le_refl]) jF 0 S (Nat.zero_le _) (by show _ < 5000; omega) (fun c i => by rw [if_neg (by omega)])
  refine ⟨r, ?_, hp⟩
  unfold f18_fill
  have hr' : f18_fill_L1 a n x (nI n) jF S 0 = some r := hr
  rw [hr']; rfl
def iOf (f : Nat → Bool) (c : Nat → Nat) (g : Nat) : Nat → Nat
  | 0 => 0
  | k + 1 => iOf f c g k + (if f k = true ∧ (c k).testBit g = true then 1 else 0)
theorem iOf_le {f : Nat → Bool} {c : Nat → Nat} {g : Nat} : ∀ k, iOf f c g k ≤ cnB f k := by
  intro k
  induction k with
  | zero => exact Nat.le_refl _
  | succ k ih =>
    unfold iOf cnB
    by_cases h : f k = true
    · rw [if_pos h]; split <;> omega
    · rw [if_neg h, if_neg (fun z => h z.1)]; omega
theorem c_cLook {S : jS} {n x : Nat} {I : Nat → Nat} {l : Nat} (hn : n ≤ 20) (h4 : S.1 70 4 = nI l) (h79 : ∀ g, g < 7 → S.1 79 g = nI (I g)) (h78 : S.1 78 n = nI x) (hx : x < 128) : ∃ S1, f1_countLook S (nI n) = some (S1, ()) ∧ S1.1 70 4 = nI (l + 1) ∧ (∀ g, g < 7 → S1.1 79 g = nI (I g + (if x.testBit g = true then 1 else 0))) ∧ (∀ a i, a ≠ 70 → a ≠ 79 → S1.1 a i = S.1 a i) := by
  obtain ⟨r, hr, p1, p2, p3⟩ := lp_up (G := 7) (Post := fun r : jS => (∀ g, g < 7 → r.1 79 g = nI (I g + (if x.testBit g = true then 1 else 0))) ∧ r.1 70 4 = nI (l + 1) ∧ (∀ a i, a ≠ 70 → a ≠ 79 → r.1 a i = S.1 a i)) (fun m k S' => f1_countLook_L1 (nI n) m S' (nI k)) (fun k r => (∀ g, g < 7 → r.1 79 g = if g < k then nI (I g + (if x.testBit g = true then 1 else 0)) else nI (I g)) ∧ r.1 70 4 = nI (l + 1) ∧ (∀ a i, a ≠ 70 → a ≠ 79 → r.1 a i = S.1 a i)) (by
    rintro m k S' hk ⟨g1, g2, g3⟩
    left
    have n1 : ¬ 7 ≤ k := by omega
    have n2 : n < 21 := by omega
    have e78 : S'.1 78 n = nI x := (g3 78 n (by omega) (by omega)).trans h78
    have e79 := g1 k hk
    rw [if_neg (by omega)] at e79
    refine ⟨wI S' 79 k (nI (I k + (if x.testBit k = true then 1 else 0))), ?_, fun g hg => ?_, by rw [wI_ne (by omega)]; exact g2, fun a i h1 h2 => by rw [wI_ne h2]; exact g3 a i h1 h2⟩
    · show f1_countLook_L1 (nI n) (m + 1) S' (nI k) = _
      rw [f1_countLook_L1]
      simp (disch := omega) only [e78, e79, nI_bit, nI_ltI, nI_leI, nI_eq, nI_clamp, nI_1, nI_add, nI_mul, inb_n, irm_n, nI_div, nI_m6, nI_d6, irm_6, qlt_1, qle_1, qgt_1, qge_1, qeq_1, qlt_2, qle_2, qgt_2, qge_2, qeq_2, qlt_3, qle_3, qgt_3, qge_3, qeq_3, qlt_4, qle_4, qgt_4, qge_4, qeq_4, qlt_5, qle_5, qgt_5, qge_5, qeq_5, qlt_6, qle_6, qgt_6, qge_6, qeq_6, qlt_7, qle_7, qgt_7, qge_7, qeq_7, qlt_8, qle_8, qgt_8, qge_8, qeq_8, qlt_9, qle_9, qgt_9, qge_9, qeq_9, qlt_10, qle_10, qgt_10, qge_10, qeq_10, qlt_12, qle_12, qgt_12, qge_12, qeq_12, qlt_16, qle_16, qgt_16, qge_16, qeq_16, qlt_20, qle_20, qgt_20, qge_20, qeq_20, qlt_24, qle_24, qgt_24, qge_24, qeq_24, qlt_30, qle_30, qgt_30, qge_30, qeq_30, qlt_32, qle_32, qgt_32, qge_32, qeq_32, qlt_37, qle_37, qgt_37, qge_37, qeq_37, qlt_40, qle_40, qgt_40, qge_40, qeq_40, qlt_42, qle_42, qgt_42, qge_42, qeq_42, qlt_43, qle_43, qgt_43, qge_43, qeq_43, qlt_45, qle_45, qgt_45, qge_45, qeq_45, qlt_47, qle_47, qgt_47, qge_47, qeq_47, qlt_48, qle_48, qgt_48, qge_48, qeq_48, qlt_57, qle_57, qgt_57, qge_57, qeq_57, qlt_59, qle_59, qgt_59, qge_59, qeq_59, qlt_60, qle_60, qgt_60, qge_60, qeq_60, qlt_61, qle_61, qgt_61, qge_61, qeq_61, qlt_62, qle_62, qgt_62, qge_62, qeq_62, qlt_64, qle_64, qgt_64, qge_64, qeq_64, qlt_91, qle_91, qgt_91, qge_91, qeq_91, qlt_93, qle_93, qgt_93, qge_93, qeq_93, qlt_97, qle_97, qgt_97, qge_97, qeq_97, qlt_122, qle_122, qgt_122, qge_122, qeq_122, qlt_400, qle_400, qgt_400, qge_400, qeq_400, qlt_999, qle_999, qgt_999, qge_999, qeq_999, qlt_0, qle_0, qgt_0, qge_0, qeq_0, qltm, qeqm, ↓reduceIte, Option.bind_some, not_true_eq_false, not_false_eq_true, and_true, true_and, and_false, false_and, or_false, false_or, or_true, true_or, Bool.false_eq_true, reduceCtorEq, n1, n2, hk]
    · by_cases e : g = k
      · subst e
        have e3 : g < g + 1 := by omega
        rw [wI_self]; simp only [e3, if_true]
      · rw [wI_nj e, g1 g hg]
        by_cases e2 : g < k
        · have e3 : g < k + 1 := by omega
          simp only [e2, e3, if_true]
        · have e3 : ¬ g < k + 1 := by omega
          simp only [e2, e3, if_false]) (by
    rintro m S' ⟨g1, g2, g3⟩
    refine ⟨S', ?_, fun g hg => by rw [g1 g hg, if_pos hg], g2, g3⟩
    have n1 : 7 ≤ 7 := by omega
    show f1_countLook_L1 (nI n) (m + 1) S' (nI 7) = _
    rw [f1_countLook_L1]
    simp (disch := omega) only [nI_ltI, nI_leI, nI_eq, nI_clamp, nI_1, nI_add, nI_mul, inb_n, irm_n, nI_div, nI_m6, nI_d6, irm_6, qlt_1, qle_1, qgt_1, qge_1, qeq_1, qlt_2, qle_2, qgt_2, qge_2, qeq_2, qlt_3, qle_3, qgt_3, qge_3, qeq_3, qlt_4, qle_4, qgt_4, qge_4, qeq_4, qlt_5, qle_5, qgt_5, qge_5, qeq_5, qlt_6, qle_6, qgt_6, qge_6, qeq_6, qlt_7, qle_7, qgt_7, qge_7, qeq_7, qlt_8, qle_8, qgt_8, qge_8, qeq_8, qlt_9, qle_9, qgt_9, qge_9, qeq_9, qlt_10, qle_10, qgt_10, qge_10, qeq_10, qlt_12, qle_12, qgt_12, qge_12, qeq_12, qlt_16, qle_16, qgt_16, qge_16, qeq_16, qlt_20, qle_20, qgt_20, qge_20, qeq_20, qlt_24, qle_24, qgt_24, qge_24, qeq_24, qlt_30, qle_30, qgt_30, qge_30, qeq_30, qlt_32, qle_32, qgt_32, qge_32, qeq_32, qlt_37, qle_37, qgt_37, qge_37, qeq_37, qlt_40, qle_40, qgt_40, qge_40, qeq_40, qlt_42, qle_42, qgt_42, qge_42, qeq_42, qlt_43, qle_43, qgt_43, qge_43, qeq_43, qlt_45, qle_45, qgt_45, qge_45, qeq_45, qlt_47, qle_47, qgt_47, qge_47, qeq_47, qlt_48, qle_48, qgt_48, qge_48, qeq_48, qlt_57, qle_57, qgt_57, qge_57, qeq_57, qlt_59, qle_59, qgt_59, qge_59, qeq_59, qlt_60, qle_60, qgt_60, qge_60, qeq_60, qlt_61, qle_61, qgt_61, qge_61, qeq_61, qlt_62, qle_62, qgt_62, qge_62, qeq_62, qlt_64, qle_64, qgt_64, qge_64, qeq_64, qlt_91, qle_91, qgt_91, qge_91, qeq_91, qlt_93, qle_93, qgt_93, qge_93, qeq_93, qlt_97, qle_97, qgt_97, qge_97, qeq_97, qlt_122, qle_122, qgt_122, qge_122, qeq_122, qlt_400, qle_400, qgt_400, qge_400, qeq_400, qlt_999, qle_999, qgt_999, qge_999, qeq_999, qlt_0, qle_0, qgt_0, qge_0, qeq_0, qltm, qeqm, ↓reduceIte, Option.bind_some, not_true_eq_false, not_false_eq_true, and_true, true_and, and_false, false_and, or_false, false_or, or_true, true_or, Bool.false_eq_true, reduceCtorEq, n1]) jF 0 (wI S 70 4 (nI (l + 1))) (Nat.zero_le _) (by show _ < 5000; omega) ⟨fun g hg => by rw [wI_ne (by omega), if_neg (by omega)]; exact h79 g hg, wI_self _ _ _ _, fun a i h1 h2 => wI_ne h1⟩
  refine ⟨r, ?_, p2, p1, p3⟩
  have hr' : f1_countLook_L1 (nI n) jF (wI S 70 4 (nI (l + 1))) 0 = some r := hr
  unfold f1_countLook
  simp (disch := omega) only [h4, nI_ltI, nI_leI, nI_eq, nI_clamp, nI_1, nI_add, nI_mul, inb_n, irm_n, nI_div, nI_m6, nI_d6, irm_6, qlt_1, qle_1, qgt_1, qge_1, qeq_1, qlt_2, qle_2, qgt_2, qge_2, qeq_2, qlt_3, qle_3, qgt_3, qge_3, qeq_3, qlt_4, qle_4, qgt_4, qge_4, qeq_4, qlt_5, qle_5, qgt_5, qge_5, qeq_5, qlt_6, qle_6, qgt_6, qge_6, qeq_6, qlt_7, qle_7, qgt_7, qge_7, qeq_7, qlt_8, qle_8, qgt_8, qge_8, qeq_8, qlt_9, qle_9, qgt_9, qge_9, qeq_9, qlt_10, qle_10, qgt_10, qge_10, qeq_10, qlt_12, qle_12, qgt_12, qge_12, qeq_12, qlt_16, qle_16, qgt_16, qge_16, qeq_16, qlt_20, qle_20, qgt_20, qge_20, qeq_20, qlt_24, qle_24, qgt_24, qge_24, qeq_24, qlt_30, qle_30, qgt_30, qge_30, qeq_30, qlt_32, qle_32, qgt_32, qge_32, qeq_32, qlt_37, qle_37, qgt_37, qge_37, qeq_37, qlt_40, qle_40, qgt_40, qge_40, qeq_40, qlt_42, qle_42, qgt_42, qge_42, qeq_42, qlt_43, qle_43, qgt_43, qge_43, qeq_43, qlt_45, qle_45, qgt_45, qge_45, qeq_45, qlt_47, qle_47, qgt_47, qge_47, qeq_47, qlt_48, qle_48, qgt_48, qge_48, qeq_48, qlt_57, qle_57, qgt_57, qge_57, qeq_57, qlt_59, qle_59, qgt_59, qge_59, qeq_59, qlt_60, qle_60, qgt_60, qge_60, qeq_60, qlt_61, qle_61, qgt_61, qge_61, qeq_61, qlt_62, qle_62, qgt_62, qge_62, qeq_62, qlt_64, qle_64, qgt_64, qge_64, qeq_64, qlt_91, qle_91, qgt_91, qge_91, qeq_91, qlt_93, qle_93, qgt_93, qge_93, qeq_93, qlt_97, qle_97, qgt_97, qge_97, qeq_97, qlt_122, qle_122, qgt_122, qge_122, qeq_122, qlt_400, qle_400, qgt_400, qge_400, qeq_400, qlt_999, qle_999, qgt_999, qge_999, qeq_999, qlt_0, qle_0, qgt_0, qge_0, qeq_0, qltm, qeqm, ↓reduceIte, Option.bind_some, not_true_eq_false, not_false_eq_true, and_true, true_and, and_false, false_and, or_false, false_or, or_true, true_or, Bool.false_eq_true, reduceCtorEq, hn, hr']
def maV (I : Nat → Nat) (l g : Nat) : Nat := max (I g) (l - I g)
def bsN (v : Nat → Nat) : Nat → Nat
  | 0 => 0
  | k + 1 => if bsN v k = 0 then k + 1 else if v k < v (bsN v k - 1) then k + 1 else bsN v k
theorem bsN_le {v : Nat → Nat} : ∀ k, bsN v k ≤ k ∧ (0 < k → bsN v k ≠ 0) := by
  intro k
  induction k with
  | zero => exact ⟨Nat.le_refl _, fun z => by omega⟩
  | succ k ih =>
    unfold bsN
    refine ⟨?_, fun _ => ?_⟩
    · split
      · omega
      · split <;> omega
    · split
      · omega
      · split <;> omega
theorem c_alike {S : jS} {I : Nat → Nat} {l g : Nat} (h4 : S.1 70 4 = nI l) (h79 : ∀ g, g < 7 → S.1 79 g = nI (I g)) (hI : ∀ g, I g ≤ l) (hl : l ≤ 7) (hg : g < 7) : f1_mostAlike S (nI g) = some (nI (maV I l g)) := by
  have := hI g
  unfold f1_mostAlike maV
  simp (disch := omega) only [h4, h79, nI_ltI, nI_leI, nI_eq, nI_clamp, nI_1, nI_add, nI_mul, inb_n, irm_n, nI_div, nI_m6, nI_d6, irm_6, qlt_1, qle_1, qgt_1, qge_1, qeq_1, qlt_2, qle_2, qgt_2, qge_2, qeq_2, qlt_3, qle_3, qgt_3, qge_3, qeq_3, qlt_4, qle_4, qgt_4, qge_4, qeq_4, qlt_5, qle_5, qgt_5, qge_5, qeq_5, qlt_6, qle_6, qgt_6, qge_6, qeq_6, qlt_7, qle_7, qgt_7, qge_7, qeq_7, qlt_8, qle_8, qgt_8, qge_8, qeq_8, qlt_9, qle_9, qgt_9, qge_9, qeq_9, qlt_10, qle_10, qgt_10, qge_10, qeq_10, qlt_12, qle_12, qgt_12, qge_12, qeq_12, qlt_16, qle_16, qgt_16, qge_16, qeq_16, qlt_20, qle_20, qgt_20, qge_20, qeq_20, qlt_24, qle_24, qgt_24, qge_24, qeq_24, qlt_30, qle_30, qgt_30, qge_30, qeq_30, qlt_32, qle_32, qgt_32, qge_32, qeq_32, qlt_37, qle_37, qgt_37, qge_37, qeq_37, qlt_40, qle_40, qgt_40, qge_40, qeq_40, qlt_42, qle_42, qgt_42, qge_42, qeq_42, qlt_43, qle_43, qgt_43, qge_43, qeq_43, qlt_45, qle_45, qgt_45, qge_45, qeq_45, qlt_47, qle_47, qgt_47, qge_47, qeq_47, qlt_48, qle_48, qgt_48, qge_48, qeq_48, qlt_57, qle_57, qgt_57, qge_57, qeq_57, qlt_59, qle_59, qgt_59, qge_59, qeq_59, qlt_60, qle_60, qgt_60, qge_60, qeq_60, qlt_61, qle_61, qgt_61, qge_61, qeq_61, qlt_62, qle_62, qgt_62, qge_62, qeq_62, qlt_64, qle_64, qgt_64, qge_64, qeq_64, qlt_91, qle_91, qgt_91, qge_91, qeq_91, qlt_93, qle_93, qgt_93, qge_93, qeq_93, qlt_97, qle_97, qgt_97, qge_97, qeq_97, qlt_122, qle_122, qgt_122, qge_122, qeq_122, qlt_400, qle_400, qgt_400, qge_400, qeq_400, qlt_999, qle_999, qgt_999, qge_999, qeq_999, qlt_0, qle_0, qgt_0, qge_0, qeq_0, qltm, qeqm, ↓reduceIte, Option.bind_some, not_true_eq_false, not_false_eq_true, and_true, true_and, and_false, false_and, or_false, false_or, or_true, true_or, Bool.false_eq_true, reduceCtorEq, hg, nI_sub, mmax_n]
theorem c_best {S : jS} {I : Nat → Nat} {l G : Nat} (h4 : S.1 70 4 = nI l) (h79 : ∀ g, g < 7 → S.1 79 g = nI (I g)) (hI : ∀ g, I g ≤ l) (hl : l ≤ 7) (hG : G ≤ 7) : f1_bestLook S (nI G) = some (if l = 0 then -1 else nI (bsN (maV I l) G) - 1) := by
  obtain ⟨r, hr, hp⟩ := lp_up (G := G) (Post := fun r : Int32 => r = if l = 0 then -1 else nI (bsN (maV I l) G) - 1) (fun n k f => f1_bestLook_L1 S (nI G) n f (nI k)) (fun k f => f = if l = 0 then -1 else nI (bsN (maV I l) k) - 1) (by
    intro n k f hk hf
    subst hf
    have n1 : ¬ G ≤ k := by omega
    have n2 : ¬ 7 ≤ k := by omega
    by_cases hz : l = 0
    · right
      refine ⟨-1, ?_, by rw [if_pos hz]⟩
      show f1_bestLook_L1 S (nI G) (n + 1) _ (nI k) = _
      rw [f1_bestLook_L1]
      simp (disch := omega) only [h4, hz, nI_ltI, nI_leI, nI_eq, nI_clamp, nI_1, nI_add, nI_mul, inb_n, irm_n, nI_div, nI_m6, nI_d6, irm_6, qlt_1, qle_1, qgt_1, qge_1, qeq_1, qlt_2, qle_2, qgt_2, qge_2, qeq_2, qlt_3, qle_3, qgt_3, qge_3, qeq_3, qlt_4, qle_4, qgt_4, qge_4, qeq_4, qlt_5, qle_5, qgt_5, qge_5, qeq_5, qlt_6, qle_6, qgt_6, qge_6, qeq_6, qlt_7, qle_7, qgt_7, qge_7, qeq_7, qlt_8, qle_8, qgt_8, qge_8, qeq_8, qlt_9, qle_9, qgt_9, qge_9, qeq_9, qlt_10, qle_10, qgt_10, qge_10, qeq_10, qlt_12, qle_12, qgt_12, qge_12, qeq_12, qlt_16, qle_16, qgt_16, qge_16, qeq_16, qlt_20, qle_20, qgt_20, qge_20, qeq_20, qlt_24, qle_24, qgt_24, qge_24, qeq_24, qlt_30, qle_30, qgt_30, qge_30, qeq_30, qlt_32, qle_32, qgt_32, qge_32, qeq_32, qlt_37, qle_37, qgt_37, qge_37, qeq_37, qlt_40, qle_40, qgt_40, qge_40, qeq_40, qlt_42, qle_42, qgt_42, qge_42, qeq_42, qlt_43, qle_43, qgt_43, qge_43, qeq_43, qlt_45, qle_45, qgt_45, qge_45, qeq_45, qlt_47, qle_47, qgt_47, qge_47, qeq_47, qlt_48, qle_48, qgt_48, qge_48, qeq_48, qlt_57, qle_57, qgt_57, qge_57, qeq_57, qlt_59, qle_59, qgt_59, qge_59, qeq_59, qlt_60, qle_60, qgt_60, qge_60, qeq_60, qlt_61, qle_61, qgt_61, qge_61, qeq_61, qlt_62, qle_62, qgt_62, qge_62, qeq_62, qlt_64, qle_64, qgt_64, qge_64, qeq_64, qlt_91, qle_91, qgt_91, qge_91, qeq_91, qlt_93, qle_93, qgt_93, qge_93, qeq_93, qlt_97, qle_97, qgt_97, qge_97, qeq_97, qlt_122, qle_122, qgt_122, qge_122, qeq_122, qlt_400, qle_400, qgt_400, qge_400, qeq_400, qlt_999, qle_999, qgt_999, qge_999, qeq_999, qlt_0, qle_0, qgt_0, qge_0, qeq_0, qltm, qeqm, ↓reduceIte, Option.bind_some, not_true_eq_false, not_false_eq_true, and_true, true_and, and_false, false_and, or_false, false_or, or_true, true_or, Bool.false_eq_true, reduceCtorEq, n1, n2]
    · left
      refine ⟨nI (bsN (maV I l) (k + 1)) - 1, ?_, by rw [if_neg hz]⟩
      rw [if_neg hz]
      show f1_bestLook_L1 S (nI G) (n + 1) (nI (bsN (maV I l) k) - 1) (nI k) = f1_bestLook_L1 S (nI G) n (nI (bsN (maV I l) (k + 1)) - 1) (nI (k + 1))
      rw [f1_bestLook_L1, bsN]
      have hb := (bsN_le (v := maV I l) k).1
      by_cases hb0 : bsN (maV I l) k = 0
      · have e0 : nI 0 - 1 = -1 := nI_0m
        simp (disch := omega) only [h4, hz, hb0, e0, nI_ltI, nI_leI, nI_eq, nI_clamp, nI_1, nI_add, nI_mul, inb_n, irm_n, nI_div, nI_m6, nI_d6, irm_6, qlt_1, qle_1, qgt_1, qge_1, qeq_1, qlt_2, qle_2, qgt_2, qge_2, qeq_2, qlt_3, qle_3, qgt_3, qge_3, qeq_3, qlt_4, qle_4, qgt_4, qge_4, qeq_4, qlt_5, qle_5, qgt_5, qge_5, qeq_5, qlt_6, qle_6, qgt_6, qge_6, qeq_6, qlt_7, qle_7, qgt_7, qge_7, qeq_7, qlt_8, qle_8, qgt_8, qge_8, qeq_8, qlt_9, qle_9, qgt_9, qge_9, qeq_9, qlt_10, qle_10, qgt_10, qge_10, qeq_10, qlt_12, qle_12, qgt_12, qge_12, qeq_12, qlt_16, qle_16, qgt_16, qge_16, qeq_16, qlt_20, qle_20, qgt_20, qge_20, qeq_20, qlt_24, qle_24, qgt_24, qge_24, qeq_24, qlt_30, qle_30, qgt_30, qge_30, qeq_30, qlt_32, qle_32, qgt_32, qge_32, qeq_32, qlt_37, qle_37, qgt_37, qge_37, qeq_37, qlt_40, qle_40, qgt_40, qge_40, qeq_40, qlt_42, qle_42, qgt_42, qge_42, qeq_42, qlt_43, qle_43, qgt_43, qge_43, qeq_43, qlt_45, qle_45, qgt_45, qge_45, qeq_45, qlt_47, qle_47, qgt_47, qge_47, qeq_47, qlt_48, qle_48, qgt_48, qge_48, qeq_48, qlt_57, qle_57, qgt_57, qge_57, qeq_57, qlt_59, qle_59, qgt_59, qge_59, qeq_59, qlt_60, qle_60, qgt_60, qge_60, qeq_60, qlt_61, qle_61, qgt_61, qge_61, qeq_61, qlt_62, qle_62, qgt_62, qge_62, qeq_62, qlt_64, qle_64, qgt_64, qge_64, qeq_64, qlt_91, qle_91, qgt_91, qge_91, qeq_91, qlt_93, qle_93, qgt_93, qge_93, qeq_93, qlt_97, qle_97, qgt_97, qge_97, qeq_97, qlt_122, qle_122, qgt_122, qge_122, qeq_122, qlt_400, qle_400, qgt_400, qge_400, qeq_400, qlt_999, qle_999, qgt_999, qge_999, qeq_999, qlt_0, qle_0, qgt_0, qge_0, qeq_0, qltm, qeqm, ↓reduceIte, Option.bind_some, not_true_eq_false, not_false_eq_true, and_true, true_and, and_false, false_and, or_false, false_or, or_true, true_or, Bool.false_eq_true, reduceCtorEq, n1, n2, nI_pred]
      · obtain ⟨m, hm⟩ : ∃ m, bsN (maV I l) k = m + 1 := ⟨bsN (maV I l) k - 1, by omega⟩
        have a1 := c_alike h4 h79 hI hl (g := k) (by omega)
        have a2 := c_alike h4 h79 hI hl (g := m) (by omega)
        have v1 : maV I l k ≤ 7 := by unfold maV; have := hI k; omega
        have v2 : maV I l m ≤ 7 := by unfold maV; have := hI m; omega
        have n3 : ¬ m + 1 = 0 := by omega
        have n4 : m + 1 - 1 = m := by omega
        rw [hm]
        by_cases hlt : maV I l k < maV I l m
        · have hlt' : ¬ maV I l m ≤ maV I l k := by omega
          simp (disch := omega) only [h4, hz, n3, n4, nI_pred, a1, a2, hlt, hlt', nI_ltI, nI_leI, nI_eq, nI_clamp, nI_1, nI_add, nI_mul, inb_n, irm_n, nI_div, nI_m6, nI_d6, irm_6, qlt_1, qle_1, qgt_1, qge_1, qeq_1, qlt_2, qle_2, qgt_2, qge_2, qeq_2, qlt_3, qle_3, qgt_3, qge_3, qeq_3, qlt_4, qle_4, qgt_4, qge_4, qeq_4, qlt_5, qle_5, qgt_5, qge_5, qeq_5, qlt_6, qle_6, qgt_6, qge_6, qeq_6, qlt_7, qle_7, qgt_7, qge_7, qeq_7, qlt_8, qle_8, qgt_8, qge_8, qeq_8, qlt_9, qle_9, qgt_9, qge_9, qeq_9, qlt_10, qle_10, qgt_10, qge_10, qeq_10, qlt_12, qle_12, qgt_12, qge_12, qeq_12, qlt_16, qle_16, qgt_16, qge_16, qeq_16, qlt_20, qle_20, qgt_20, qge_20, qeq_20, qlt_24, qle_24, qgt_24, qge_24, qeq_24, qlt_30, qle_30, qgt_30, qge_30, qeq_30, qlt_32, qle_32, qgt_32, qge_32, qeq_32, qlt_37, qle_37, qgt_37, qge_37, qeq_37, qlt_40, qle_40, qgt_40, qge_40, qeq_40, qlt_42, qle_42, qgt_42, qge_42, qeq_42, qlt_43, qle_43, qgt_43, qge_43, qeq_43, qlt_45, qle_45, qgt_45, qge_45, qeq_45, qlt_47, qle_47, qgt_47, qge_47, qeq_47, qlt_48, qle_48, qgt_48, qge_48, qeq_48, qlt_57, qle_57, qgt_57, qge_57, qeq_57, qlt_59, qle_59, qgt_59, qge_59, qeq_59, qlt_60, qle_60, qgt_60, qge_60, qeq_60, qlt_61, qle_61, qgt_61, qge_61, qeq_61, qlt_62, qle_62, qgt_62, qge_62, qeq_62, qlt_64, qle_64, qgt_64, qge_64, qeq_64, qlt_91, qle_91, qgt_91, qge_91, qeq_91, qlt_93, qle_93, qgt_93, qge_93, qeq_93, qlt_97, qle_97, qgt_97, qge_97, qeq_97, qlt_122, qle_122, qgt_122, qge_122, qeq_122, qlt_400, qle_400, qgt_400, qge_400, qeq_400, qlt_999, qle_999, qgt_999, qge_999, qeq_999, qlt_0, qle_0, qgt_0, qge_0, qeq_0, qltm, qeqm, ↓reduceIte, Option.bind_some, not_true_eq_false, not_false_eq_true, and_true, true_and, and_false, false_and, or_false, false_or, or_true, true_or, Bool.false_eq_true, reduceCtorEq, n1, n2]
        · have hlt' : maV I l m ≤ maV I l k := by omega
          simp (disch := omega) only [h4, hz, n3, n4, nI_pred, a1, a2, hlt, hlt', nI_ltI, nI_leI, nI_eq, nI_clamp, nI_1, nI_add, nI_mul, inb_n, irm_n, nI_div, nI_m6, nI_d6, irm_6, qlt_1, qle_1, qgt_1, qge_1, qeq_1, qlt_2, qle_2, qgt_2, qge_2, qeq_2, qlt_3, qle_3, qgt_3, qge_3, qeq_3, qlt_4, qle_4, qgt_4, qge_4, qeq_4, qlt_5, qle_5, qgt_5, qge_5, qeq_5, qlt_6, qle_6, qgt_6, qge_6, qeq_6, qlt_7, qle_7, qgt_7, qge_7, qeq_7, qlt_8, qle_8, qgt_8, qge_8, qeq_8, qlt_9, qle_9, qgt_9, qge_9, qeq_9, qlt_10, qle_10, qgt_10, qge_10, qeq_10, qlt_12, qle_12, qgt_12, qge_12, qeq_12, qlt_16, qle_16, qgt_16, qge_16, qeq_16, qlt_20, qle_20, qgt_20, qge_20, qeq_20, qlt_24, qle_24, qgt_24, qge_24, qeq_24, qlt_30, qle_30, qgt_30, qge_30, qeq_30, qlt_32, qle_32, qgt_32, qge_32, qeq_32, qlt_37, qle_37, qgt_37, qge_37, qeq_37, qlt_40, qle_40, qgt_40, qge_40, qeq_40, qlt_42, qle_42, qgt_42, qge_42, qeq_42, qlt_43, qle_43, qgt_43, qge_43, qeq_43, qlt_45, qle_45, qgt_45, qge_45, qeq_45, qlt_47, qle_47, qgt_47, qge_47, qeq_47, qlt_48, qle_48, qgt_48, qge_48, qeq_48, qlt_57, qle_57, qgt_57, qge_57, qeq_57, qlt_59, qle_59, qgt_59, qge_59, qeq_59, qlt_60, qle_60, qgt_60, qge_60, qeq_60, qlt_61, qle_61, qgt_61, qge_61, qeq_61, qlt_62, qle_62, qgt_62, qge_62, qeq_62, qlt_64, qle_64, qgt_64, qge_64, qeq_64, qlt_91, qle_91, qgt_91, qge_91, qeq_91, qlt_93, qle_93, qgt_93, qge_93, qeq_93, qlt_97, qle_97, qgt_97, qge_97, qeq_97, qlt_122, qle_122, qgt_122, qge_122, qeq_122, qlt_400, qle_400, qgt_400, qge_400, qeq_400, qlt_999, qle_999, qgt_999, qge_999, qeq_999, qlt_0, qle_0, qgt_0, qge_0, qeq_0, qltm, qeqm, ↓reduceIte, Option.bind_some, not_true_eq_false, not_false_eq_true, and_true, true_and, and_false, false_and, or_false, false_or, or_true, true_or, Bool.false_eq_true, reduceCtorEq, n1, n2]) (by
    intro n f hf
    refine ⟨f, ?_, hf⟩
    show f1_bestLook_L1 S (nI G) (n + 1) f (nI G) = _
    rw [f1_bestLook_L1]
    simp (disch := omega) only [nI_ltI, nI_leI, nI_eq, nI_clamp, nI_1, nI_add, nI_mul, inb_n, irm_n, nI_div, nI_m6, nI_d6, irm_6, qlt_1, qle_1, qgt_1, qge_1, qeq_1, qlt_2, qle_2, qgt_2, qge_2, qeq_2, qlt_3, qle_3, qgt_3, qge_3, qeq_3, qlt_4, qle_4, qgt_4, qge_4, qeq_4, qlt_5, qle_5, qgt_5, qge_5, qeq_5, qlt_6, qle_6, qgt_6, qge_6, qeq_6, qlt_7, qle_7, qgt_7, qge_7, qeq_7, qlt_8, qle_8, qgt_8, qge_8, qeq_8, qlt_9, qle_9, qgt_9, qge_9, qeq_9, qlt_10, qle_10, qgt_10, qge_10, qeq_10, qlt_12, qle_12, qgt_12, qge_12, qeq_12, qlt_16, qle_16, qgt_16, qge_16, qeq_16, qlt_20, qle_20, qgt_20, qge_20, qeq_20, qlt_24, qle_24, qgt_24, qge_24, qeq_24, qlt_30, qle_30, qgt_30, qge_30, qeq_30, qlt_32, qle_32, qgt_32, qge_32, qeq_32, qlt_37, qle_37, qgt_37, qge_37, qeq_37, qlt_40, qle_40, qgt_40, qge_40, qeq_40, qlt_42, qle_42, qgt_42, qge_42, qeq_42, qlt_43, qle_43, qgt_43, qge_43, qeq_43, qlt_45, qle_45, qgt_45, qge_45, qeq_45, qlt_47, qle_47, qgt_47, qge_47, qeq_47, qlt_48, qle_48, qgt_48, qge_48, qeq_48, qlt_57, qle_57, qgt_57, qge_57, qeq_57, qlt_59, qle_59, qgt_59, qge_59, qeq_59, qlt_60, qle_60, qgt_60, qge_60, qeq_60, qlt_61, qle_61, qgt_61, qge_61, qeq_61, qlt_62, qle_62, qgt_62, qge_62, qeq_62, qlt_64, qle_64, qgt_64, qge_64, qeq_64, qlt_91, qle_91, qgt_91, qge_91, qeq_91, qlt_93, qle_93, qgt_93, qge_93, qeq_93, qlt_97, qle_97, qgt_97, qge_97, qeq_97, qlt_122, qle_122, qgt_122, qge_122, qeq_122, qlt_400, qle_400, qgt_400, qge_400, qeq_400, qlt_999, qle_999, qgt_999, qge_999, qeq_999, qlt_0, qle_0, qgt_0, qge_0, qeq_0, qltm, qeqm, ↓reduceIte, Option.bind_some, not_true_eq_false, not_false_eq_true, and_true, true_and, and_false, false_and, or_false, false_or, or_true, true_or, Bool.false_eq_true, reduceCtorEq, Nat.le_refl]) jF 0 (-1) (Nat.zero_le _) (by show _ < 5000; omega) (by
    split
    · rfl
    · exact nI_0m.symm)
  unfold f1_bestLook
  have hr' : f1_bestLook_L1 S (nI G) jF (-1) 0 = some r := hr
  rw [hr', hp]; rfl
/-- the reference's shows: of so many rows how many show a guest -/
def shS (s : Nat → Nat) (g : Nat) : Nat → Nat
  | 0 => 0
  | k + 1 => shS s g k + (if (s k).testBit g = true then 1 else 0)
theorem shS_ext {s s' : Nat → Nat} {g : Nat} : ∀ k, (∀ j, j < k → s' j = s j) → shS s' g k = shS s g k := by
  intro k
  induction k with
  | zero => intro _; rfl
  | succ k ih => intro h; unfold shS; rw [ih (fun j hj => h j (by omega)), h k (by omega)]
theorem r_alike {X : jS} {s : Nat → Nat} {l g : Nat} (h52 : ∀ j, j < l → X.1 52 j = nI (s j)) (hs : ∀ j, j < l → s j < 128) (hl : l ≤ 7) (hg : g < 7) : f11_mostAlike X (nI g) (nI l) = some (nI (max (shS s g l) (l - shS s g l))) := by
  have hle : ∀ k, shS s g k ≤ k := by
    intro k
    induction k with
    | zero => exact Nat.le_refl _
    | succ k ih => unfold shS; split <;> omega
  obtain ⟨r, hr, hp⟩ := lp_up (G := l) (Post := fun r : Int32 => r = nI (shS s g l)) (fun n k f => f11_mostAlike_L1 X (nI g) (nI l) n f (nI k)) (fun k f => f = nI (shS s g k)) (by
    intro n k f hk hf
    subst hf
    left
    refine ⟨nI (shS s g (k + 1)), ?_, rfl⟩
    have n1 : ¬ l ≤ k := by omega
    have n7 : k < 7 := by omega
    have e := h52 k hk
    have := hs k hk
    show f11_mostAlike_L1 X (nI g) (nI l) (n + 1) (nI (shS s g k)) (nI k) = _
    rw [f11_mostAlike_L1, shS]
    simp (disch := omega) only [e, nI_bit, nI_ltI, nI_leI, nI_eq, nI_clamp, nI_1, nI_add, nI_mul, inb_n, irm_n, nI_div, nI_m6, nI_d6, irm_6, qlt_1, qle_1, qgt_1, qge_1, qeq_1, qlt_2, qle_2, qgt_2, qge_2, qeq_2, qlt_3, qle_3, qgt_3, qge_3, qeq_3, qlt_4, qle_4, qgt_4, qge_4, qeq_4, qlt_5, qle_5, qgt_5, qge_5, qeq_5, qlt_6, qle_6, qgt_6, qge_6, qeq_6, qlt_7, qle_7, qgt_7, qge_7, qeq_7, qlt_8, qle_8, qgt_8, qge_8, qeq_8, qlt_9, qle_9, qgt_9, qge_9, qeq_9, qlt_10, qle_10, qgt_10, qge_10, qeq_10, qlt_12, qle_12, qgt_12, qge_12, qeq_12, qlt_16, qle_16, qgt_16, qge_16, qeq_16, qlt_20, qle_20, qgt_20, qge_20, qeq_20, qlt_24, qle_24, qgt_24, qge_24, qeq_24, qlt_30, qle_30, qgt_30, qge_30, qeq_30, qlt_32, qle_32, qgt_32, qge_32, qeq_32, qlt_37, qle_37, qgt_37, qge_37, qeq_37, qlt_40, qle_40, qgt_40, qge_40, qeq_40, qlt_42, qle_42, qgt_42, qge_42, qeq_42, qlt_43, qle_43, qgt_43, qge_43, qeq_43, qlt_45, qle_45, qgt_45, qge_45, qeq_45, qlt_47, qle_47, qgt_47, qge_47, qeq_47, qlt_48, qle_48, qgt_48, qge_48, qeq_48, qlt_57, qle_57, qgt_57, qge_57, qeq_57, qlt_59, qle_59, qgt_59, qge_59, qeq_59, qlt_60, qle_60, qgt_60, qge_60, qeq_60, qlt_61, qle_61, qgt_61, qge_61, qeq_61, qlt_62, qle_62, qgt_62, qge_62, qeq_62, qlt_64, qle_64, qgt_64, qge_64, qeq_64, qlt_91, qle_91, qgt_91, qge_91, qeq_91, qlt_93, qle_93, qgt_93, qge_93, qeq_93, qlt_97, qle_97, qgt_97, qge_97, qeq_97, qlt_122, qle_122, qgt_122, qge_122, qeq_122, qlt_400, qle_400, qgt_400, qge_400, qeq_400, qlt_999, qle_999, qgt_999, qge_999, qeq_999, qlt_0, qle_0, qgt_0, qge_0, qeq_0, qltm, qeqm, ↓reduceIte, Option.bind_some, not_true_eq_false, not_false_eq_true, and_true, true_and, and_false, false_and, or_false, false_or, or_true, true_or, Bool.false_eq_true, reduceCtorEq, n1, n7]) (by
    intro n f hf
    refine ⟨f, ?_, hf⟩
    show f11_mostAlike_L1 X (nI g) (nI l) (n + 1) f (nI l) = _
    rw [f11_mostAlike_L1]
    simp (disch := omega) only [nI_ltI, nI_leI, nI_eq, nI_clamp, nI_1, nI_add, nI_mul, inb_n, irm_n, nI_div, nI_m6, nI_d6, irm_6, qlt_1, qle_1, qgt_1, qge_1, qeq_1, qlt_2, qle_2, qgt_2, qge_2, qeq_2, qlt_3, qle_3, qgt_3, qge_3, qeq_3, qlt_4, qle_4, qgt_4, qge_4, qeq_4, qlt_5, qle_5, qgt_5, qge_5, qeq_5, qlt_6, qle_6, qgt_6, qge_6, qeq_6, qlt_7, qle_7, qgt_7, qge_7, qeq_7, qlt_8, qle_8, qgt_8, qge_8, qeq_8, qlt_9, qle_9, qgt_9, qge_9, qeq_9, qlt_10, qle_10, qgt_10, qge_10, qeq_10, qlt_12, qle_12, qgt_12, qge_12, qeq_12, qlt_16, qle_16, qgt_16, qge_16, qeq_16, qlt_20, qle_20, qgt_20, qge_20, qeq_20, qlt_24, qle_24, qgt_24, qge_24, qeq_24, qlt_30, qle_30, qgt_30, qge_30, qeq_30, qlt_32, qle_32, qgt_32, qge_32, qeq_32, qlt_37, qle_37, qgt_37, qge_37, qeq_37, qlt_40, qle_40, qgt_40, qge_40, qeq_40, qlt_42, qle_42, qgt_42, qge_42, qeq_42, qlt_43, qle_43, qgt_43, qge_43, qeq_43, qlt_45, qle_45, qgt_45, qge_45, qeq_45, qlt_47, qle_47, qgt_47, qge_47, qeq_47, qlt_48, qle_48, qgt_48, qge_48, qeq_48, qlt_57, qle_57, qgt_57, qge_57, qeq_57, qlt_59, qle_59, qgt_59, qge_59, qeq_59, qlt_60, qle_60, qgt_60, qge_60, qeq_60, qlt_61, qle_61, qgt_61, qge_61, qeq_61, qlt_62, qle_62, qgt_62, qge_62, qeq_62, qlt_64, qle_64, qgt_64, qge_64, qeq_64, qlt_91, qle_91, qgt_91, qge_91, qeq_91, qlt_93, qle_93, qgt_93, qge_93, qeq_93, qlt_97, qle_97, qgt_97, qge_97, qeq_97, qlt_122, qle_122, qgt_122, qge_122, qeq_122, qlt_400, qle_400, qgt_400, qge_400, qeq_400, qlt_999, qle_999, qgt_999, qge_999, qeq_999, qlt_0, qle_0, qgt_0, qge_0, qeq_0, qltm, qeqm, ↓reduceIte, Option.bind_some, not_true_eq_false, not_false_eq_true, and_true, true_and, and_false, false_and, or_false, false_or, or_true, true_or, Bool.false_eq_true, reduceCtorEq, Nat.le_refl]) jF 0 0 (Nat.zero_le _) (by show _ < 5000; omega) rfl
  have hr' : f11_mostAlike_L1 X (nI g) (nI l) jF 0 0 = some r := hr
  unfold f11_mostAlike
  rw [hr', hp, Option.bind_some]
  have := hle l
  by_cases c : shS s g l ≤ l - shS s g l
  · simp (disch := omega) only [nI_sub, nI_ltI, nI_leI, nI_eq, nI_clamp, nI_1, nI_add, nI_mul, inb_n, irm_n, nI_div, nI_m6, nI_d6, irm_6, qlt_1, qle_1, qgt_1, qge_1, qeq_1, qlt_2, qle_2, qgt_2, qge_2, qeq_2, qlt_3, qle_3, qgt_3, qge_3, qeq_3, qlt_4, qle_4, qgt_4, qge_4, qeq_4, qlt_5, qle_5, qgt_5, qge_5, qeq_5, qlt_6, qle_6, qgt_6, qge_6, qeq_6, qlt_7, qle_7, qgt_7, qge_7, qeq_7, qlt_8, qle_8, qgt_8, qge_8, qeq_8, qlt_9, qle_9, qgt_9, qge_9, qeq_9, qlt_10, qle_10, qgt_10, qge_10, qeq_10, qlt_12, qle_12, qgt_12, qge_12, qeq_12, qlt_16, qle_16, qgt_16, qge_16, qeq_16, qlt_20, qle_20, qgt_20, qge_20, qeq_20, qlt_24, qle_24, qgt_24, qge_24, qeq_24, qlt_30, qle_30, qgt_30, qge_30, qeq_30, qlt_32, qle_32, qgt_32, qge_32, qeq_32, qlt_37, qle_37, qgt_37, qge_37, qeq_37, qlt_40, qle_40, qgt_40, qge_40, qeq_40, qlt_42, qle_42, qgt_42, qge_42, qeq_42, qlt_43, qle_43, qgt_43, qge_43, qeq_43, qlt_45, qle_45, qgt_45, qge_45, qeq_45, qlt_47, qle_47, qgt_47, qge_47, qeq_47, qlt_48, qle_48, qgt_48, qge_48, qeq_48, qlt_57, qle_57, qgt_57, qge_57, qeq_57, qlt_59, qle_59, qgt_59, qge_59, qeq_59, qlt_60, qle_60, qgt_60, qge_60, qeq_60, qlt_61, qle_61, qgt_61, qge_61, qeq_61, qlt_62, qle_62, qgt_62, qge_62, qeq_62, qlt_64, qle_64, qgt_64, qge_64, qeq_64, qlt_91, qle_91, qgt_91, qge_91, qeq_91, qlt_93, qle_93, qgt_93, qge_93, qeq_93, qlt_97, qle_97, qgt_97, qge_97, qeq_97, qlt_122, qle_122, qgt_122, qge_122, qeq_122, qlt_400, qle_400, qgt_400, qge_400, qeq_400, qlt_999, qle_999, qgt_999, qge_999, qeq_999, qlt_0, qle_0, qgt_0, qge_0, qeq_0, qltm, qeqm, ↓reduceIte, Option.bind_some, not_true_eq_false, not_false_eq_true, and_true, true_and, and_false, false_and, or_false, false_or, or_true, true_or, Bool.false_eq_true, reduceCtorEq, c, Nat.max_eq_right]
  · simp (disch := omega) only [nI_sub, nI_ltI, nI_leI, nI_eq, nI_clamp, nI_1, nI_add, nI_mul, inb_n, irm_n, nI_div, nI_m6, nI_d6, irm_6, qlt_1, qle_1, qgt_1, qge_1, qeq_1, qlt_2, qle_2, qgt_2, qge_2, qeq_2, qlt_3, qle_3, qgt_3, qge_3, qeq_3, qlt_4, qle_4, qgt_4, qge_4, qeq_4, qlt_5, qle_5, qgt_5, qge_5, qeq_5, qlt_6, qle_6, qgt_6, qge_6, qeq_6, qlt_7, qle_7, qgt_7, qge_7, qeq_7, qlt_8, qle_8, qgt_8, qge_8, qeq_8, qlt_9, qle_9, qgt_9, qge_9, qeq_9, qlt_10, qle_10, qgt_10, qge_10, qeq_10, qlt_12, qle_12, qgt_12, qge_12, qeq_12, qlt_16, qle_16, qgt_16, qge_16, qeq_16, qlt_20, qle_20, qgt_20, qge_20, qeq_20, qlt_24, qle_24, qgt_24, qge_24, qeq_24, qlt_30, qle_30, qgt_30, qge_30, qeq_30, qlt_32, qle_32, qgt_32, qge_32, qeq_32, qlt_37, qle_37, qgt_37, qge_37, qeq_37, qlt_40, qle_40, qgt_40, qge_40, qeq_40, qlt_42, qle_42, qgt_42, qge_42, qeq_42, qlt_43, qle_43, qgt_43, qge_43, qeq_43, qlt_45, qle_45, qgt_45, qge_45, qeq_45, qlt_47, qle_47, qgt_47, qge_47, qeq_47, qlt_48, qle_48, qgt_48, qge_48, qeq_48, qlt_57, qle_57, qgt_57, qge_57, qeq_57, qlt_59, qle_59, qgt_59, qge_59, qeq_59, qlt_60, qle_60, qgt_60, qge_60, qeq_60, qlt_61, qle_61, qgt_61, qge_61, qeq_61, qlt_62, qle_62, qgt_62, qge_62, qeq_62, qlt_64, qle_64, qgt_64, qge_64, qeq_64, qlt_91, qle_91, qgt_91, qge_91, qeq_91, qlt_93, qle_93, qgt_93, qge_93, qeq_93, qlt_97, qle_97, qgt_97, qge_97, qeq_97, qlt_122, qle_122, qgt_122, qge_122, qeq_122, qlt_400, qle_400, qgt_400, qge_400, qeq_400, qlt_999, qle_999, qgt_999, qge_999, qeq_999, qlt_0, qle_0, qgt_0, qge_0, qeq_0, qltm, qeqm, ↓reduceIte, Option.bind_some, not_true_eq_false, not_false_eq_true, and_true, true_and, and_false, false_and, or_false, false_or, or_true, true_or, Bool.false_eq_true, reduceCtorEq, c, Nat.max_eq_left]
theorem bs_1 {v : Nat → Nat} : (0 : Int32) = nI (bsN v 1) - 1 := by
  have e1 : bsN v 1 = 1 := rfl
  rw [e1]; decide
theorem r_best {X : jS} {I : Nat → Nat} {l G : Nat} {x : Int32} (e2 : X.1 1 2 = nI G) (ha : ∀ g, g < 7 → f11_mostAlike X (nI g) (nI l) = some (nI (maV I l g))) (hI : ∀ g, I g ≤ l) (hl : l ≤ 7) (hG : G ≤ 7) (hG0 : 0 < G) : f11_look_L2 X x (nI l) jF 0 1 = some (nI (bsN (maV I l) G) - 1) := by
  have v7 : ∀ g, maV I l g ≤ 7 := fun g => by unfold maV; have := hI g; omega
  obtain ⟨r, hr, hp⟩ := lp_up (G := G) (Post := fun r : Int32 => r = nI (bsN (maV I l) G) - 1) (fun n k f => f11_look_L2 X x (nI l) n f (nI k)) (fun k f => 1 ≤ k ∧ f = nI (bsN (maV I l) k) - 1) (by
    rintro n k f hk ⟨hk1, rfl⟩
    left
    have n1 : ¬ G ≤ k := by omega
    obtain ⟨hb, hb1⟩ := bsN_le (v := maV I l) k
    obtain ⟨m, hm⟩ : ∃ m, bsN (maV I l) k = m + 1 := ⟨bsN (maV I l) k - 1, by have := hb1 (by omega); omega⟩
    refine ⟨nI (bsN (maV I l) (k + 1)) - 1, ?_, by omega, rfl⟩
    show f11_look_L2 X x (nI l) (n + 1) (nI (bsN (maV I l) k) - 1) (nI k) = f11_look_L2 X x (nI l) n (nI (bsN (maV I l) (k + 1)) - 1) (nI (k + 1))
    have a1 := ha k (by omega)
    have a2 := ha m (by omega)
    have := v7 k
    have := v7 m
    have n3 : ¬ m + 1 = 0 := by omega
    have n4 : m + 1 - 1 = m := by omega
    rw [f11_look_L2, bsN, hm, nI_pred]
    by_cases hlt : maV I l k < maV I l m
    · have hlt' : ¬ maV I l m ≤ maV I l k := by omega
      simp (disch := omega) only [e2, n3, n4, nI_pred, a1, a2, hlt, hlt', nI_ltI, nI_leI, nI_eq, nI_clamp, nI_1, nI_add, nI_mul, inb_n, irm_n, nI_div, nI_m6, nI_d6, irm_6, qlt_1, qle_1, qgt_1, qge_1, qeq_1, qlt_2, qle_2, qgt_2, qge_2, qeq_2, qlt_3, qle_3, qgt_3, qge_3, qeq_3, qlt_4, qle_4, qgt_4, qge_4, qeq_4, qlt_5, qle_5, qgt_5, qge_5, qeq_5, qlt_6, qle_6, qgt_6, qge_6, qeq_6, qlt_7, qle_7, qgt_7, qge_7, qeq_7, qlt_8, qle_8, qgt_8, qge_8, qeq_8, qlt_9, qle_9, qgt_9, qge_9, qeq_9, qlt_10, qle_10, qgt_10, qge_10, qeq_10, qlt_12, qle_12, qgt_12, qge_12, qeq_12, qlt_16, qle_16, qgt_16, qge_16, qeq_16, qlt_20, qle_20, qgt_20, qge_20, qeq_20, qlt_24, qle_24, qgt_24, qge_24, qeq_24, qlt_30, qle_30, qgt_30, qge_30, qeq_30, qlt_32, qle_32, qgt_32, qge_32, qeq_32, qlt_37, qle_37, qgt_37, qge_37, qeq_37, qlt_40, qle_40, qgt_40, qge_40, qeq_40, qlt_42, qle_42, qgt_42, qge_42, qeq_42, qlt_43, qle_43, qgt_43, qge_43, qeq_43, qlt_45, qle_45, qgt_45, qge_45, qeq_45, qlt_47, qle_47, qgt_47, qge_47, qeq_47, qlt_48, qle_48, qgt_48, qge_48, qeq_48, qlt_57, qle_57, qgt_57, qge_57, qeq_57, qlt_59, qle_59, qgt_59, qge_59, qeq_59, qlt_60, qle_60, qgt_60, qge_60, qeq_60, qlt_61, qle_61, qgt_61, qge_61, qeq_61, qlt_62, qle_62, qgt_62, qge_62, qeq_62, qlt_64, qle_64, qgt_64, qge_64, qeq_64, qlt_91, qle_91, qgt_91, qge_91, qeq_91, qlt_93, qle_93, qgt_93, qge_93, qeq_93, qlt_97, qle_97, qgt_97, qge_97, qeq_97, qlt_122, qle_122, qgt_122, qge_122, qeq_122, qlt_400, qle_400, qgt_400, qge_400, qeq_400, qlt_999, qle_999, qgt_999, qge_999, qeq_999, qlt_0, qle_0, qgt_0, qge_0, qeq_0, qltm, qeqm, ↓reduceIte, Option.bind_some, not_true_eq_false, not_false_eq_true, and_true, true_and, and_false, false_and, or_false, false_or, or_true, true_or, Bool.false_eq_true, reduceCtorEq, n1]
    · have hlt' : maV I l m ≤ maV I l k := by omega
      simp (disch := omega) only [e2, n3, n4, nI_pred, a1, a2, hlt, hlt', nI_ltI, nI_leI, nI_eq, nI_clamp, nI_1, nI_add, nI_mul, inb_n, irm_n, nI_div, nI_m6, nI_d6, irm_6, qlt_1, qle_1, qgt_1, qge_1, qeq_1, qlt_2, qle_2, qgt_2, qge_2, qeq_2, qlt_3, qle_3, qgt_3, qge_3, qeq_3, qlt_4, qle_4, qgt_4, qge_4, qeq_4, qlt_5, qle_5, qgt_5, qge_5, qeq_5, qlt_6, qle_6, qgt_6, qge_6, qeq_6, qlt_7, qle_7, qgt_7, qge_7, qeq_7, qlt_8, qle_8, qgt_8, qge_8, qeq_8, qlt_9, qle_9, qgt_9, qge_9, qeq_9, qlt_10, qle_10, qgt_10, qge_10, qeq_10, qlt_12, qle_12, qgt_12, qge_12, qeq_12, qlt_16, qle_16, qgt_16, qge_16, qeq_16, qlt_20, qle_20, qgt_20, qge_20, qeq_20, qlt_24, qle_24, qgt_24, qge_24, qeq_24, qlt_30, qle_30, qgt_30, qge_30, qeq_30, qlt_32, qle_32, qgt_32, qge_32, qeq_32, qlt_37, qle_37, qgt_37, qge_37, qeq_37, qlt_40, qle_40, qgt_40, qge_40, qeq_40, qlt_42, qle_42, qgt_42, qge_42, qeq_42, qlt_43, qle_43, qgt_43, qge_43, qeq_43, qlt_45, qle_45, qgt_45, qge_45, qeq_45, qlt_47, qle_47, qgt_47, qge_47, qeq_47, qlt_48, qle_48, qgt_48, qge_48, qeq_48, qlt_57, qle_57, qgt_57, qge_57, qeq_57, qlt_59, qle_59, qgt_59, qge_59, qeq_59, qlt_60, qle_60, qgt_60, qge_60, qeq_60, qlt_61, qle_61, qgt_61, qge_61, qeq_61, qlt_62, qle_62, qgt_62, qge_62, qeq_62, qlt_64, qle_64, qgt_64, qge_64, qeq_64, qlt_91, qle_91, qgt_91, qge_91, qeq_91, qlt_93, qle_93, qgt_93, qge_93, qeq_93, qlt_97, qle_97, qgt_97, qge_97, qeq_97, qlt_122, qle_122, qgt_122, qge_122, qeq_122, qlt_400, qle_400, qgt_400, qge_400, qeq_400, qlt_999, qle_999, qgt_999, qge_999, qeq_999, qlt_0, qle_0, qgt_0, qge_0, qeq_0, qltm, qeqm, ↓reduceIte, Option.bind_some, not_true_eq_false, not_false_eq_true, and_true, true_and, and_false, false_and, or_false, false_or, or_true, true_or, Bool.false_eq_true, reduceCtorEq, n1]) (by
    rintro n f ⟨hk1, hf⟩
    refine ⟨f, ?_, hf⟩
    show f11_look_L2 X x (nI l) (n + 1) f (nI G) = _
    rw [f11_look_L2]
    simp (disch := omega) only [e2, nI_ltI, nI_leI, nI_eq, nI_clamp, nI_1, nI_add, nI_mul, inb_n, irm_n, nI_div, nI_m6, nI_d6, irm_6, qlt_1, qle_1, qgt_1, qge_1, qeq_1, qlt_2, qle_2, qgt_2, qge_2, qeq_2, qlt_3, qle_3, qgt_3, qge_3, qeq_3, qlt_4, qle_4, qgt_4, qge_4, qeq_4, qlt_5, qle_5, qgt_5, qge_5, qeq_5, qlt_6, qle_6, qgt_6, qge_6, qeq_6, qlt_7, qle_7, qgt_7, qge_7, qeq_7, qlt_8, qle_8, qgt_8, qge_8, qeq_8, qlt_9, qle_9, qgt_9, qge_9, qeq_9, qlt_10, qle_10, qgt_10, qge_10, qeq_10, qlt_12, qle_12, qgt_12, qge_12, qeq_12, qlt_16, qle_16, qgt_16, qge_16, qeq_16, qlt_20, qle_20, qgt_20, qge_20, qeq_20, qlt_24, qle_24, qgt_24, qge_24, qeq_24, qlt_30, qle_30, qgt_30, qge_30, qeq_30, qlt_32, qle_32, qgt_32, qge_32, qeq_32, qlt_37, qle_37, qgt_37, qge_37, qeq_37, qlt_40, qle_40, qgt_40, qge_40, qeq_40, qlt_42, qle_42, qgt_42, qge_42, qeq_42, qlt_43, qle_43, qgt_43, qge_43, qeq_43, qlt_45, qle_45, qgt_45, qge_45, qeq_45, qlt_47, qle_47, qgt_47, qge_47, qeq_47, qlt_48, qle_48, qgt_48, qge_48, qeq_48, qlt_57, qle_57, qgt_57, qge_57, qeq_57, qlt_59, qle_59, qgt_59, qge_59, qeq_59, qlt_60, qle_60, qgt_60, qge_60, qeq_60, qlt_61, qle_61, qgt_61, qge_61, qeq_61, qlt_62, qle_62, qgt_62, qge_62, qeq_62, qlt_64, qle_64, qgt_64, qge_64, qeq_64, qlt_91, qle_91, qgt_91, qge_91, qeq_91, qlt_93, qle_93, qgt_93, qge_93, qeq_93, qlt_97, qle_97, qgt_97, qge_97, qeq_97, qlt_122, qle_122, qgt_122, qge_122, qeq_122, qlt_400, qle_400, qgt_400, qge_400, qeq_400, qlt_999, qle_999, qgt_999, qge_999, qeq_999, qlt_0, qle_0, qgt_0, qge_0, qeq_0, qltm, qeqm, ↓reduceIte, Option.bind_some, not_true_eq_false, not_false_eq_true, and_true, true_and, and_false, false_and, or_false, false_or, or_true, true_or, Bool.false_eq_true, reduceCtorEq, Nat.le_refl]) jF 1 0 (by omega) (by show _ < 5000; omega) ⟨by omega, bs_1⟩
  rw [← hp]; exact hr
theorem nk_1 (k : Nat) : nI k - 1 + 1 = nI (k + 1) - 1 := by have := nI_succ k; grind
theorem nk_le {rc k : Nat} (h : k ≤ rc) (hr : rc < 2 ^ 31) : ¬ nI rc ≤ nI k - 1 := by
  have h1 := nI_pos' (n := rc) (by omega)
  cases k with
  | zero => rw [nI_0m]; grind
  | succ j => rw [nI_pred]; exact nI_ge (by omega) (by omega)
theorem k_look {S : jS} {T : jT} {X : jS} (h : INV S T X) (a0 a1 : Int32) : ∃ S1 X1 v, f10_look T S a0 a1 = some (S1, v) ∧ f11_look X a0 a1 = some (X1, v) ∧ INV S1 T X1 := by
  obtain ⟨tn, tb, rc, R, B, Bi, im, ⟨ct, cr, cb, ci⟩, ⟨rt, rr, rb, ri, r40, r28⟩, ⟨ot, or, ob, oi⟩⟩ := id h
  obtain ⟨b1, b2, b3, b4, b5, b6, b7⟩ := id cb
  have hr := rb.h
  obtain ⟨hN, k2, hM, hs, ht, -⟩ := id ob
  have hrc := or.1
  have m0 : (0 : Int32).toInt64 = 0 := by decide
  have m1 : (1 : Int32).toInt64 = 1 := by decide
  have m20 : (20 : Int32).toInt64 = 20 := by decide
  have hP : bTold B 0 0 = bNow B 0 0 := hs.1
  have hG2 : bTold B 0 2 = bNow B 0 2 := hs.2.2.1
  have hG := hM.2.2.1
  unfold f10_look f11_look
  rw [c_told hM b2, r_told hN hr, r_in a0 m0 m20, r_in a1 m0 m1, hP]
  by_cases z : bNow B 0 0 = 0
  · exact ⟨S, X, -1, by simp [z], by simp [z], h⟩
  · simp only [z, ↓reduceIte, Option.bind_some, not_true_eq_false, not_false_eq_true, and_true, true_and, and_false, false_and, or_false, false_or, or_true, true_or, Bool.false_eq_true, reduceCtorEq, one_ne0]
    by_cases c0 : 0 ≤ a0 ∧ a0 ≤ 20
    · obtain ⟨n, hn, rfl⟩ := nI_of2 (x := a0) (M := 20) (n := 20) (by decide) (by grind) c0.2
      have d0 : ¬ nI n < 0 := by grind
      have d0' : ¬ 20 < nI n := by grind
      by_cases c1 : 0 ≤ a1 ∧ a1 ≤ 1
      · have d1 : ¬ a1 < 0 := by grind
        obtain ⟨f, hf⟩ : ∃ f : Nat → Bool, f = fun k => fitB B (ruK R k) (bTold B) := ⟨_, rfl⟩
        obtain ⟨c, hc⟩ : ∃ c : Nat → Nat, c = fun k => crs (ruK R k) (bTold B) n := ⟨_, rfl⟩
        have hfk : ∀ k, f k = fitB B (ruK R k) (bTold B) := fun k => by rw [hf]
        have hck : ∀ k, c k = crs (ruK R k) (bTold B) n := fun k => by rw [hc]
        have hc128 : ∀ k, c k < 128 := fun k => by rw [hck]; exact (itb_ok hM _).i
        obtain ⟨S0, s1, s2⟩ := c_fill (S := wI S 70 4 0) (a := 79) (n := 7) (x := 0) (by omega)
        have s1' : f1_startLook S = some (S0, ()) := by
          unfold f1_startLook; rw [s1]; rfl
        have cq0 : cQ S S0 := fun a i u1 u2 => by rw [s2, if_neg (by omega), wI_ne (by omega)]
        obtain ⟨S1, t1, t2, t3, t4⟩ := lp_up (G := rc + 1) (Post := fun r : jS => cQ S r ∧ r.1 70 4 = nI (cnB f (rc + 1)) ∧ ∀ g, g < 7 → r.1 79 g = nI (iOf f c g (rc + 1))) (fun m k S' => f10_look_L1 T (nI n) a1 m S' (nI k - 1)) (fun k r => cQ S r ∧ r.1 70 4 = nI (cnB f k) ∧ ∀ g, g < 7 → r.1 79 g = nI (iOf f c g k)) (by
          rintro m k S2 hk ⟨hI, h4, h79⟩
          left
          have e4 : S2.1 0 4 = nI rc := (hI _ _ (by omega) (by omega)).trans cr.1
          obtain ⟨q, q1, q2⟩ := c_ruleOf cr or hI (k := k) (by omega)
          obtain ⟨S3, u1, u2, u3, u4⟩ := c_rfit (T := T) ob b5 b2 hI q2
          rw [← hfk k] at u1
          by_cases hfit : f k = true
          · obtain ⟨S4, w1, w2, w3, w4⟩ := c_cLook (S := S3) (n := n) (x := c k) (I := fun g => iOf f c g k) (l := cnB f k) hn ((u3 4).1.trans h4) (fun g hg => (u3 g).2.trans (h79 g hg)) (by rw [hck]; exact u4 n (by omega)) (hc128 k)
            refine ⟨S4, ?_, u2.tr (fun a i g1 g2 => w4 a i (by omega) (by omega)), ?_, fun g hg => ?_⟩
            · show f10_look_L1 T (nI n) a1 (m + 1) S2 (nI k - 1) = f10_look_L1 T (nI n) a1 m S4 (nI (k + 1) - 1)
              rw [f10_look_L1, e4, if_neg (nk_le (by omega) (by omega)), q1, Option.bind_some, u1, Option.bind_some, nk_1]
              simp only [hfit, ↓reduceIte, Option.bind_some, not_true_eq_false, not_false_eq_true, and_true, true_and, and_false, false_and, or_false, false_or, or_true, true_or, Bool.false_eq_true, reduceCtorEq, one_ne0, w1]
            · rw [w2, cnB, if_pos hfit]
            · rw [w3 g hg, iOf]
              by_cases e : (c k).testBit g = true
              · rw [if_pos e, if_pos ⟨hfit, e⟩]
              · rw [if_neg e, if_neg (fun z => e z.2)]
          · refine ⟨S3, ?_, u2, ?_, fun g hg => ?_⟩
            · show f10_look_L1 T (nI n) a1 (m + 1) S2 (nI k - 1) = f10_look_L1 T (nI n) a1 m S3 (nI (k + 1) - 1)
              rw [f10_look_L1, e4, if_neg (nk_le (by omega) (by omega)), q1, Option.bind_some, u1, Option.bind_some, nk_1]
              simp only [hfit, ↓reduceIte, Option.bind_some, not_true_eq_false, not_false_eq_true, and_true, true_and, and_false, false_and, or_false, false_or, or_true, true_or, Bool.false_eq_true, reduceCtorEq]
            · rw [(u3 4).1, h4, cnB, if_neg hfit]; rfl
            · rw [(u3 g).2, h79 g hg, iOf, if_neg (fun z => hfit z.1)]; rfl) (by
          rintro m S2 ⟨hI, h4, h79⟩
          have e4 : S2.1 0 4 = nI rc := (hI _ _ (by omega) (by omega)).trans cr.1
          refine ⟨S2, ?_, hI, h4, h79⟩
          show f10_look_L1 T (nI n) a1 (m + 1) S2 (nI (rc + 1) - 1) = _
          rw [f10_look_L1, e4, nI_pred]
          simp (disch := omega) only [nI_ltI, nI_leI, nI_eq, nI_clamp, nI_1, nI_add, nI_mul, inb_n, irm_n, nI_div, nI_m6, nI_d6, irm_6, qlt_1, qle_1, qgt_1, qge_1, qeq_1, qlt_2, qle_2, qgt_2, qge_2, qeq_2, qlt_3, qle_3, qgt_3, qge_3, qeq_3, qlt_4, qle_4, qgt_4, qge_4, qeq_4, qlt_5, qle_5, qgt_5, qge_5, qeq_5, qlt_6, qle_6, qgt_6, qge_6, qeq_6, qlt_7, qle_7, qgt_7, qge_7, qeq_7, qlt_8, qle_8, qgt_8, qge_8, qeq_8, qlt_9, qle_9, qgt_9, qge_9, qeq_9, qlt_10, qle_10, qgt_10, qge_10, qeq_10, qlt_12, qle_12, qgt_12, qge_12, qeq_12, qlt_16, qle_16, qgt_16, qge_16, qeq_16, qlt_20, qle_20, qgt_20, qge_20, qeq_20, qlt_24, qle_24, qgt_24, qge_24, qeq_24, qlt_30, qle_30, qgt_30, qge_30, qeq_30, qlt_32, qle_32, qgt_32, qge_32, qeq_32, qlt_37, qle_37, qgt_37, qge_37, qeq_37, qlt_40, qle_40, qgt_40, qge_40, qeq_40, qlt_42, qle_42, qgt_42, qge_42, qeq_42, qlt_43, qle_43, qgt_43, qge_43, qeq_43, qlt_45, qle_45, qgt_45, qge_45, qeq_45, qlt_47, qle_47, qgt_47, qge_47, qeq_47, qlt_48, qle_48, qgt_48, qge_48, qeq_48, qlt_57, qle_57, qgt_57, qge_57, qeq_57, qlt_59, qle_59, qgt_59, qge_59, qeq_59, qlt_60, qle_60, qgt_60, qge_60, qeq_60, qlt_61, qle_61, qgt_61, qge_61, qeq_61, qlt_62, qle_62, qgt_62, qge_62, qeq_62, qlt_64, qle_64, qgt_64, qge_64, qeq_64, qlt_91, qle_91, qgt_91, qge_91, qeq_91, qlt_93, qle_93, qgt_93, qge_93, qeq_93, qlt_97, qle_97, qgt_97, qge_97, qeq_97, qlt_122, qle_122, qgt_122, qge_122, qeq_122, qlt_400, qle_400, qgt_400, qge_400, qeq_400, qlt_999, qle_999, qgt_999, qge_999, qeq_999, qlt_0, qle_0, qgt_0, qge_0, qeq_0, qltm, qeqm, ↓reduceIte, Option.bind_some, not_true_eq_false, not_false_eq_true, and_true, true_and, and_false, false_and, or_false, false_or, or_true, true_or, Bool.false_eq_true, reduceCtorEq, Nat.le_refl]) jF 0 S0 (Nat.zero_le _) (by show _ < 5000; omega) ⟨cq0, by rw [s2, if_neg (by omega), wI_self]; rfl, fun g hg => by rw [s2, if_pos ⟨rfl, hg⟩]; rfl⟩
        have t1' : f10_look_L1 T (nI n) a1 jF S0 (-1) = some S1 := by rw [← nI_0m]; exact t1
        have hcl := (cn_le (b := f) (rc + 1)).1
        have hIl : ∀ g, iOf f c g (rc + 1) ≤ cnB f (rc + 1) := fun g => iOf_le (rc + 1)
        have e2 : S1.1 (100 + 1) 2 = nI (bTold B 0 2) := (t2 _ _ (by omega) (by omega)).trans (b2.1 2 (by omega) (by omega))
        have hbest := c_best (G := bTold B 0 2) (I := fun g => iOf f c g (rc + 1)) t3 t4 hIl (by omega) hG
        -- the reference
        obtain ⟨X0, x1, x2, x3, x4⟩ := RRun.keep hr hN
        obtain ⟨⟨X1, w⟩, y1, y2, y3, y4, y5, s, y6, y7, y8⟩ := lp_up (G := rc + 1) (Post := fun r : jS × Int32 => r.2 = nI (cnB f (rc + 1)) ∧ RRun X r.1 (bNow B) ∧ r.1.1 0 40 = -1 ∧ rQ1 X r.1 ∧ ∃ s : Nat → Nat, (∀ j, j < cnB f (rc + 1) → r.1.1 52 j = nI (s j)) ∧ (∀ j, j < cnB f (rc + 1) → s j < 128) ∧ ∀ g, shS s g (cnB f (rc + 1)) = iOf f c g (rc + 1)) (fun m k (A : jS × Int32) => f11_look_L1 (nI n) a1 m A.1 A.2 (nI k - 1)) (fun k A => A.2 = nI (cnB f k) ∧ RRun X A.1 (bNow B) ∧ A.1.1 0 40 = -1 ∧ rQ1 X A.1 ∧ ∃ s : Nat → Nat, (∀ j, j < cnB f k → A.1.1 52 j = nI (s j)) ∧ (∀ j, j < cnB f k → s j < 128) ∧ ∀ g, shS s g (cnB f k) = iOf f c g k) (by
          rintro m k ⟨X2, l3⟩ hk ⟨rfl, hI, i40, hI1, s, g1, g2, g3⟩
          left
          have e23 : X2.1 0 23 = nI rc := (hI.1 _ _ (by omega) (by omega)).trans rr.1
          obtain ⟨X3, u1, u2, u3, u4, u5, u6⟩ := r_could ob rr or rb (by omega : k ≤ rc) hI i40
          rw [← hfk k] at u1
          have u1' : f11_couldRule X2 (nI k - 1) = some (X3, if f k = true then 1 else 0) := u1
          have hle := (cn_le (b := f) k).1
          by_cases hfit : f k = true
          · have e51 : X3.1 51 n = nI (c k) := by rw [hck]; exact u5 n (by omega)
            have n21 : n < 21 := by omega
            have n7 : cnB f k < 7 := by omega
            refine ⟨(wI X3 52 (cnB f k) (nI (c k)), nI (cnB f (k + 1))), ?_, rfl, ⟨u2.1.tr (fun a i v1 v2 => wI_ne (by omega)), u2.2.1.fr (fun i => wI_ne (by omega)), HV_mono u2.2.2.1 (fun a i v1 v2 => wI_ne (by omega)), u2.2.2.2.1, by rw [wI_ne (by omega)]; exact u2.2.2.2.2⟩, by show (wI X3 52 (cnB f k) (nI (c k))).1 0 40 = -1; rw [wI_ne (by omega)]; exact u4, ⟨fun i hi => by show (wI X3 52 (cnB f k) (nI (c k))).1 1 i = _; rw [wI_ne (by omega)]; exact u3.1 i hi, fun a g v1 v2 hg => by show (wI X3 52 (cnB f k) (nI (c k))).1 a g = _; rw [wI_ne (by omega)]; exact u3.2 a g v1 v2 hg⟩, fun j => if j = cnB f k then c k else s j, ?_, ?_, ?_⟩
            · show f11_look_L1 (nI n) a1 (m + 1) X2 (nI (cnB f k)) (nI k - 1) = f11_look_L1 (nI n) a1 m (wI X3 52 (cnB f k) (nI (c k))) (nI (cnB f (k + 1))) (nI (k + 1) - 1)
              rw [f11_look_L1, e23, if_neg (nk_le (by omega) (by omega)), u1', Option.bind_some, nk_1, cnB]
              simp (disch := omega) only [hfit, nI_ltI, nI_leI, nI_eq, nI_clamp, nI_1, nI_add, nI_mul, inb_n, irm_n, nI_div, nI_m6, nI_d6, irm_6, qlt_1, qle_1, qgt_1, qge_1, qeq_1, qlt_2, qle_2, qgt_2, qge_2, qeq_2, qlt_3, qle_3, qgt_3, qge_3, qeq_3, qlt_4, qle_4, qgt_4, qge_4, qeq_4, qlt_5, qle_5, qgt_5, qge_5, qeq_5, qlt_6, qle_6, qgt_6, qge_6, qeq_6, qlt_7, qle_7, qgt_7, qge_7, qeq_7, qlt_8, qle_8, qgt_8, qge_8, qeq_8, qlt_9, qle_9, qgt_9, qge_9, qeq_9, qlt_10, qle_10, qgt_10, qge_10, qeq_10, qlt_12, qle_12, qgt_12, qge_12, qeq_12, qlt_16, qle_16, qgt_16, qge_16, qeq_16, qlt_20, qle_20, qgt_20, qge_20, qeq_20, qlt_24, qle_24, qgt_24, qge_24, qeq_24, qlt_30, qle_30, qgt_30, qge_30, qeq_30, qlt_32, qle_32, qgt_32, qge_32, qeq_32, qlt_37, qle_37, qgt_37, qge_37, qeq_37, qlt_40, qle_40, qgt_40, qge_40, qeq_40, qlt_42, qle_42, qgt_42, qge_42, qeq_42, qlt_43, qle_43, qgt_43, qge_43, qeq_43, qlt_45, qle_45, qgt_45, qge_45, qeq_45, qlt_47, qle_47, qgt_47, qge_47, qeq_47, qlt_48, qle_48, qgt_48, qge_48, qeq_48, qlt_57, qle_57, qgt_57, qge_57, qeq_57, qlt_59, qle_59, qgt_59, qge_59, qeq_59, qlt_60, qle_60, qgt_60, qge_60, qeq_60, qlt_61, qle_61, qgt_61, qge_61, qeq_61, qlt_62, qle_62, qgt_62, qge_62, qeq_62, qlt_64, qle_64, qgt_64, qge_64, qeq_64, qlt_91, qle_91, qgt_91, qge_91, qeq_91, qlt_93, qle_93, qgt_93, qge_93, qeq_93, qlt_97, qle_97, qgt_97, qge_97, qeq_97, qlt_122, qle_122, qgt_122, qge_122, qeq_122, qlt_400, qle_400, qgt_400, qge_400, qeq_400, qlt_999, qle_999, qgt_999, qge_999, qeq_999, qlt_0, qle_0, qgt_0, qge_0, qeq_0, qltm, qeqm, ↓reduceIte, Option.bind_some, not_true_eq_false, not_false_eq_true, and_true, true_and, and_false, false_and, or_false, false_or, or_true, true_or, Bool.false_eq_true, reduceCtorEq, one_ne0, n21, n7, e51]
            · intro j hj
              rw [cnB, if_pos hfit] at hj
              show (wI X3 52 (cnB f k) (nI (c k))).1 52 j = nI (if j = cnB f k then c k else s j)
              by_cases e : j = cnB f k
              · subst e; rw [wI_self, if_pos rfl]
              · rw [wI_nj e, if_neg e, u6]; exact g1 j (by omega)
            · intro j hj
              rw [cnB, if_pos hfit] at hj
              show (if j = cnB f k then c k else s j) < 128
              by_cases e : j = cnB f k
              · rw [if_pos e]; exact hc128 k
              · rw [if_neg e]; exact g2 j (by omega)
            · intro g
              rw [cnB, if_pos hfit, shS, iOf, shS_ext (s := s) (cnB f k) (fun j hj => if_neg (by omega)), g3 g, if_pos rfl]
              by_cases e : (c k).testBit g = true
              · rw [if_pos e, if_pos ⟨hfit, e⟩]
              · rw [if_neg e, if_neg (fun z => e z.2)]
          · have ecn : cnB f (k + 1) = cnB f k := by rw [cnB, if_neg hfit]; rfl
            refine ⟨(X3, nI (cnB f k)), ?_, by rw [ecn], u2, u4, u3, s, ?_, ?_, ?_⟩
            · show f11_look_L1 (nI n) a1 (m + 1) X2 (nI (cnB f k)) (nI k - 1) = f11_look_L1 (nI n) a1 m X3 (nI (cnB f k)) (nI (k + 1) - 1)
              rw [f11_look_L1, e23, if_neg (nk_le (by omega) (by omega)), u1', Option.bind_some, nk_1]
              simp only [hfit, ↓reduceIte, Option.bind_some, not_true_eq_false, not_false_eq_true, and_true, true_and, and_false, false_and, or_false, false_or, or_true, true_or, Bool.false_eq_true, reduceCtorEq]
            · intro j hj
              rw [ecn] at hj
              show X3.1 52 j = _
              rw [u6]; exact g1 j hj
            · intro j hj; rw [ecn] at hj; exact g2 j hj
            · intro g; rw [ecn, g3 g, iOf, if_neg (fun z => hfit z.1)]; rfl) (by
          rintro m ⟨X2, l3⟩ ⟨g0, hI, g1⟩
          have e23 : X2.1 0 23 = nI rc := (hI.1 _ _ (by omega) (by omega)).trans rr.1
          refine ⟨(X2, l3), ?_, g0, hI, g1⟩
          show f11_look_L1 (nI n) a1 (m + 1) X2 l3 (nI (rc + 1) - 1) = _
          rw [f11_look_L1, e23, nI_pred]
          simp (disch := omega) only [nI_ltI, nI_leI, nI_eq, nI_clamp, nI_1, nI_add, nI_mul, inb_n, irm_n, nI_div, nI_m6, nI_d6, irm_6, qlt_1, qle_1, qgt_1, qge_1, qeq_1, qlt_2, qle_2, qgt_2, qge_2, qeq_2, qlt_3, qle_3, qgt_3, qge_3, qeq_3, qlt_4, qle_4, qgt_4, qge_4, qeq_4, qlt_5, qle_5, qgt_5, qge_5, qeq_5, qlt_6, qle_6, qgt_6, qge_6, qeq_6, qlt_7, qle_7, qgt_7, qge_7, qeq_7, qlt_8, qle_8, qgt_8, qge_8, qeq_8, qlt_9, qle_9, qgt_9, qge_9, qeq_9, qlt_10, qle_10, qgt_10, qge_10, qeq_10, qlt_12, qle_12, qgt_12, qge_12, qeq_12, qlt_16, qle_16, qgt_16, qge_16, qeq_16, qlt_20, qle_20, qgt_20, qge_20, qeq_20, qlt_24, qle_24, qgt_24, qge_24, qeq_24, qlt_30, qle_30, qgt_30, qge_30, qeq_30, qlt_32, qle_32, qgt_32, qge_32, qeq_32, qlt_37, qle_37, qgt_37, qge_37, qeq_37, qlt_40, qle_40, qgt_40, qge_40, qeq_40, qlt_42, qle_42, qgt_42, qge_42, qeq_42, qlt_43, qle_43, qgt_43, qge_43, qeq_43, qlt_45, qle_45, qgt_45, qge_45, qeq_45, qlt_47, qle_47, qgt_47, qge_47, qeq_47, qlt_48, qle_48, qgt_48, qge_48, qeq_48, qlt_57, qle_57, qgt_57, qge_57, qeq_57, qlt_59, qle_59, qgt_59, qge_59, qeq_59, qlt_60, qle_60, qgt_60, qge_60, qeq_60, qlt_61, qle_61, qgt_61, qge_61, qeq_61, qlt_62, qle_62, qgt_62, qge_62, qeq_62, qlt_64, qle_64, qgt_64, qge_64, qeq_64, qlt_91, qle_91, qgt_91, qge_91, qeq_91, qlt_93, qle_93, qgt_93, qge_93, qeq_93, qlt_97, qle_97, qgt_97, qge_97, qeq_97, qlt_122, qle_122, qgt_122, qge_122, qeq_122, qlt_400, qle_400, qgt_400, qge_400, qeq_400, qlt_999, qle_999, qgt_999, qge_999, qeq_999, qlt_0, qle_0, qgt_0, qge_0, qeq_0, qltm, qeqm, ↓reduceIte, Option.bind_some, not_true_eq_false, not_false_eq_true, and_true, true_and, and_false, false_and, or_false, false_or, or_true, true_or, Bool.false_eq_true, reduceCtorEq, Nat.le_refl]) jF 0 (X0, 0) (Nat.zero_le _) (by show _ < 5000; omega) ⟨rfl, x2, x3.trans r40, x4, fun _ => 0, fun j hj => absurd hj (Nat.not_lt_zero j), fun j hj => absurd hj (Nat.not_lt_zero j), fun g => rfl⟩
        have y1' : f11_look_L1 (nI n) a1 jF X0 0 (-1) = some (X1, w) := by rw [← nI_0m]; exact y1
        have y2' : w = nI (cnB f (rc + 1)) := y2
        subst y2'
        have fin : INV S1 T X1 := h.end t2 y3.1 y5 (by rw [r40]; exact y4)
        have f2 : X1.1 1 2 = nI (bTold B 0 2) := by rw [hG2]; exact HV2 y3.2.2.1
        generalize hL : cnB f (rc + 1) = L at *
        have hal : ∀ g, g < 7 → f11_mostAlike X1 (nI g) (nI L) = some (nI (maV (fun g => iOf f c g (rc + 1)) L g)) := by
          intro g hg
          rw [r_alike y6 y7 (by omega) hg, y8 g]; rfl
        simp only [c0, c1, d0, d0', d1, ↓reduceIte, Option.bind_some, not_true_eq_false, not_false_eq_true, and_true, true_and, and_false, false_and, or_false, false_or, or_true, true_or, Bool.false_eq_true, reduceCtorEq, one_ne0, and_self, s1', t1', e2, hbest, x1, y1']
        by_cases hz : L = 0
        · have f1 : nI L = 0 := by rw [hz]; rfl
          simp only [hz, ↓reduceIte, Option.bind_some, not_true_eq_false, not_false_eq_true, and_true, true_and, and_false, false_and, or_false, false_or, or_true, true_or, Bool.false_eq_true, reduceCtorEq]
          exact ⟨S1, X1, -2, rfl, by rw [← hz, f1, if_pos rfl], fin⟩
        · have f1 : ¬ nI L = 0 := fun z => hz ((qeq_0 (by omega)).mp z)
          simp only [hz, f1, ↓reduceIte, Option.bind_some, not_true_eq_false, not_false_eq_true, and_true, true_and, and_false, false_and, or_false, false_or, or_true, true_or, Bool.false_eq_true, reduceCtorEq]
          by_cases hG0 : bTold B 0 2 = 0
          · refine ⟨S1, X1, -2, ?_, ?_, fin⟩
            · rw [hG0]
              have : nI (bsN (maV (fun g => iOf f c g (rc + 1)) L) 0) - 1 = -1 := nI_0m
              rw [this, if_pos rfl]
            · rw [f2, hG0, if_pos nI_0]
          · have f3 : ¬ X1.1 1 2 = 0 := by rw [f2]; exact fun z => hG0 ((qeq_0 (by omega)).mp z)
            have hb := r_best (x := a1) f2 hal hIl (by omega) hG (by omega)
            obtain ⟨hb1, hb2⟩ := bsN_le (v := maV (fun g => iOf f c g (rc + 1)) L) (bTold B 0 2)
            obtain ⟨m, hm⟩ : ∃ m, bsN (maV (fun g => iOf f c g (rc + 1)) L) (bTold B 0 2) = m + 1 := ⟨bsN (maV (fun g => iOf f c g (rc + 1)) L) (bTold B 0 2) - 1, by have := hb2 (by omega); omega⟩
            rw [hm, nI_pred] at hb
            rw [hm, nI_pred]
            have f4 : ¬ nI m = -1 := fun z => (qeqm (by omega)).mp z
            have ca := c_alike (I := fun g => iOf f c g (rc + 1)) t3 t4 hIl (by omega) (g := m) (by omega)
            have ra := hal m (by omega)
            simp only [f3, f4, hb, ↓reduceIte, Option.bind_some, not_true_eq_false, not_false_eq_true, and_true, true_and, and_false, false_and, or_false, false_or, or_true, true_or, Bool.false_eq_true, reduceCtorEq]
            by_cases e0 : a1 = 0
            · simp only [e0, ↓reduceIte, Option.bind_some, not_true_eq_false, not_false_eq_true, and_true, true_and, and_false, false_and, or_false, false_or, or_true, true_or, Bool.false_eq_true, reduceCtorEq]
              exact ⟨S1, X1, nI m, rfl, rfl, fin⟩
            · simp only [e0, ↓reduceIte, Option.bind_some, not_true_eq_false, not_false_eq_true, and_true, true_and, and_false, false_and, or_false, false_or, or_true, true_or, Bool.false_eq_true, reduceCtorEq, ca, ra]
              exact ⟨S1, X1, _, rfl, rfl, fin⟩
      · refine ⟨S, X, -1, ?_, by simp only [c0, c1, ↓reduceIte, Option.bind_some, not_true_eq_false, not_false_eq_true, and_true, true_and, and_false, false_and, or_false, false_or, or_true, true_or, Bool.false_eq_true, reduceCtorEq, one_ne0, and_self], h⟩
        rw [if_neg d0, if_neg d0']
        by_cases d1 : a1 < 0
        · rw [if_pos d1]
        · rw [if_neg d1, if_neg (by grind)]
    · refine ⟨S, X, -1, ?_, by simp only [c0, ↓reduceIte, Option.bind_some, not_true_eq_false, not_false_eq_true, and_true, true_and, and_false, false_and, or_false, false_or, or_true, true_or, Bool.false_eq_true, reduceCtorEq], h⟩
      by_cases d : a0 < 0
      · rw [if_pos d]
      · rw [if_neg d, if_pos (by grind)]
