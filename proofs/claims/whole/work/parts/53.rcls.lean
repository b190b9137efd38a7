/-! the class's round -/
theorem nI_m6 (a : Nat) : nI a * 6 = nI (a * 6) := nI_mul a 6
theorem nI_d6 {a : Nat} (h : a < 2 ^ 31) : nI a / 6 = nI (a / 6) := nI_div h (b := 6) (by decide)
theorem irm_6 {a : Nat} (h : a < 2 ^ 31) : irm (nI a) 6 = nI (a % 6) := irm_n h (b := 6) (by decide)
theorem mabs_n {x y : Nat} (hx : x < 2 ^ 30) (hy : y < 2 ^ 30) : mabs (nI x - nI y) = nI (dst x y) := by
  unfold mabs dst
  by_cases h : x < y
  · rw [if_pos h]
    have e : nI x - nI y = - nI (y - x) := by
      have := nI_sub (a := y) (b := x) (by omega)
      rw [← this]; grind
    have p : 0 < nI (y - x) := (qgt_0 (by omega)).mpr (by omega)
    have q : nI (y - x) ≤ nI (2 ^ 30) := nI_le (by omega) (by decide)
    rw [e, if_neg]
    · grind
    · intro z
      have : (nI (2 ^ 30)) = 1073741824 := by decide
      rw [this] at q
      grind
  · rw [if_neg h, nI_sub (by omega), if_pos (nI_pos' (by omega))]
theorem mmin_n {x y : Nat} (hx : x < 2 ^ 31) (hy : y < 2 ^ 31) : mmin (nI x) (nI y) = nI (min x y) := by
  unfold mmin
  simp only [nI_ltI hy hx]
  split
  · congr 1; omega
  · congr 1; omega
theorem mmax_n {x y : Nat} (hx : x < 2 ^ 31) (hy : y < 2 ^ 31) : mmax (nI x) (nI y) = nI (max x y) := by
  unfold mmax
  simp only [nI_ltI hx hy]
  split
  · congr 1; omega
  · congr 1; omega
theorem c_walk {S : jS} {o b : Nat} {N : mN} (hN : NOk N) (h : HIs (hC S o) N) (hb : b ≤ 60) : ∃ S1, f3_walk S o (nI b) = some (S1, ()) ∧ (∀ a i, S1.1 a i = if a = o + 2 ∧ i < N 0 2 ∧ (N 0 4).testBit i = true then nI (wkN N b 2 i) else S.1 a i) ∧ S1.2 = S.2 := by
  have e0 : S.1 o 0 = nI (N 0 0) := h.1 0 (by omega) (by omega)
  have e2 : S.1 o 2 = nI (N 0 2) := h.1 2 (by omega) (by omega)
  have e4 : S.1 o 4 = nI (N 0 4) := h.1 4 (by omega) (by omega)
  have hi := hN.i
  obtain ⟨h1, h2, h3, -, -, -, -, h8, -, h10⟩ := id hN
  obtain ⟨r, hr, hp⟩ := lp_up (G := N 0 2) (Post := fun r : jS => (∀ a i, r.1 a i = if a = o + 2 ∧ i < N 0 2 ∧ (N 0 4).testBit i = true then nI (wkN N b 2 i) else S.1 a i) ∧ r.2 = S.2) (fun n k S' => f3_walk_L1 o (nI b) n S' (nI k)) (fun k S' => (∀ a i, S'.1 a i = if a = o + 2 ∧ i < k ∧ (N 0 4).testBit i = true then nI (wkN N b 2 i) else S.1 a i) ∧ S'.2 = S.2) (by
    intro n k S' hk ⟨hI, hL⟩
    left
    have f0 : S'.1 o 0 = nI (N 0 0) := by rw [hI, if_neg (by omega)]; exact e0
    have f2 : S'.1 o 2 = nI (N 0 2) := by rw [hI, if_neg (by omega)]; exact e2
    have f4 : S'.1 o 4 = nI (N 0 4) := by rw [hI, if_neg (by omega)]; exact e4
    have g2 : S'.1 (o + 2) k = nI (N 2 k) := by rw [hI, if_neg (by omega)]; exact h.2.2.2 2 k (by omega) (by omega) hk
    have g3 : S'.1 (o + 3) k = nI (N 3 k) := by rw [hI, if_neg (by omega)]; exact h.2.2.2 3 k (by omega) (by omega) hk
    obtain ⟨a1, a2, -⟩ := h10 k hk
    have hm : N 3 k * b ≤ 5 * 60 := Nat.mul_le_mul a2 hb
    have n1 : ¬ N 0 2 ≤ k := by omega
    have n2 : ¬ N 0 0 = 0 := by omega
    by_cases ht : (N 0 4).testBit k = true
    · refine ⟨wI S' (o + 2) k (nI (wkN N b 2 k)), ?_, ?_, hL⟩
      · have n3 : k < 7 := by omega
        simp (disch := omega) only [f3_walk_L1, f0, f2, f4, g2, g3, nI_ltI, nI_leI, nI_eq, nI_clamp, nI_1, nI_add, nI_mul, inb_n, irm_n, nI_div, nI_m6, nI_d6, irm_6, qlt_1, qle_1, qgt_1, qge_1, qeq_1, qlt_2, qle_2, qgt_2, qge_2, qeq_2, qlt_3, qle_3, qgt_3, qge_3, qeq_3, qlt_4, qle_4, qgt_4, qge_4, qeq_4, qlt_5, qle_5, qgt_5, qge_5, qeq_5, qlt_6, qle_6, qgt_6, qge_6, qeq_6, qlt_7, qle_7, qgt_7, qge_7, qeq_7, qlt_8, qle_8, qgt_8, qge_8, qeq_8, qlt_9, qle_9, qgt_9, qge_9, qeq_9, qlt_10, qle_10, qgt_10, qge_10, qeq_10, qlt_12, qle_12, qgt_12, qge_12, qeq_12, qlt_16, qle_16, qgt_16, qge_16, qeq_16, qlt_20, qle_20, qgt_20, qge_20, qeq_20, qlt_24, qle_24, qgt_24, qge_24, qeq_24, qlt_30, qle_30, qgt_30, qge_30, qeq_30, qlt_32, qle_32, qgt_32, qge_32, qeq_32, qlt_37, qle_37, qgt_37, qge_37, qeq_37, qlt_40, qle_40, qgt_40, qge_40, qeq_40, qlt_42, qle_42, qgt_42, qge_42, qeq_42, qlt_43, qle_43, qgt_43, qge_43, qeq_43, qlt_45, qle_45, qgt_45, qge_45, qeq_45, qlt_47, qle_47, qgt_47, qge_47, qeq_47, qlt_48, qle_48, qgt_48, qge_48, qeq_48, qlt_57, qle_57, qgt_57, qge_57, qeq_57, qlt_59, qle_59, qgt_59, qge_59, qeq_59, qlt_60, qle_60, qgt_60, qge_60, qeq_60, qlt_61, qle_61, qgt_61, qge_61, qeq_61, qlt_62, qle_62, qgt_62, qge_62, qeq_62, qlt_64, qle_64, qgt_64, qge_64, qeq_64, qlt_91, qle_91, qgt_91, qge_91, qeq_91, qlt_93, qle_93, qgt_93, qge_93, qeq_93, qlt_97, qle_97, qgt_97, qge_97, qeq_97, qlt_122, qle_122, qgt_122, qge_122, qeq_122, qlt_400, qle_400, qgt_400, qge_400, qeq_400, qlt_999, qle_999, qgt_999, qge_999, qeq_999, qlt_0, qle_0, qgt_0, qge_0, qeq_0, qltm, qeqm, b_1, ↓reduceIte, Option.bind_some, not_true_eq_false, not_false_eq_true, and_true, true_and, and_false, false_and, or_false, false_or, or_true, true_or, Bool.false_eq_true, reduceCtorEq, n1, n2, n3, ht, hk, wkN]
      · intro a i
        rw [wI_g, hI]
        grind
    · refine ⟨S', ?_, ?_, hL⟩
      · simp (disch := omega) only [f3_walk_L1, f0, f2, f4, nI_ltI, nI_leI, nI_eq, nI_clamp, nI_1, nI_add, nI_mul, inb_n, irm_n, nI_div, nI_m6, nI_d6, irm_6, qlt_1, qle_1, qgt_1, qge_1, qeq_1, qlt_2, qle_2, qgt_2, qge_2, qeq_2, qlt_3, qle_3, qgt_3, qge_3, qeq_3, qlt_4, qle_4, qgt_4, qge_4, qeq_4, qlt_5, qle_5, qgt_5, qge_5, qeq_5, qlt_6, qle_6, qgt_6, qge_6, qeq_6, qlt_7, qle_7, qgt_7, qge_7, qeq_7, qlt_8, qle_8, qgt_8, qge_8, qeq_8, qlt_9, qle_9, qgt_9, qge_9, qeq_9, qlt_10, qle_10, qgt_10, qge_10, qeq_10, qlt_12, qle_12, qgt_12, qge_12, qeq_12, qlt_16, qle_16, qgt_16, qge_16, qeq_16, qlt_20, qle_20, qgt_20, qge_20, qeq_20, qlt_24, qle_24, qgt_24, qge_24, qeq_24, qlt_30, qle_30, qgt_30, qge_30, qeq_30, qlt_32, qle_32, qgt_32, qge_32, qeq_32, qlt_37, qle_37, qgt_37, qge_37, qeq_37, qlt_40, qle_40, qgt_40, qge_40, qeq_40, qlt_42, qle_42, qgt_42, qge_42, qeq_42, qlt_43, qle_43, qgt_43, qge_43, qeq_43, qlt_45, qle_45, qgt_45, qge_45, qeq_45, qlt_47, qle_47, qgt_47, qge_47, qeq_47, qlt_48, qle_48, qgt_48, qge_48, qeq_48, qlt_57, qle_57, qgt_57, qge_57, qeq_57, qlt_59, qle_59, qgt_59, qge_59, qeq_59, qlt_60, qle_60, qgt_60, qge_60, qeq_60, qlt_61, qle_61, qgt_61, qge_61, qeq_61, qlt_62, qle_62, qgt_62, qge_62, qeq_62, qlt_64, qle_64, qgt_64, qge_64, qeq_64, qlt_91, qle_91, qgt_91, qge_91, qeq_91, qlt_93, qle_93, qgt_93, qge_93, qeq_93, qlt_97, qle_97, qgt_97, qge_97, qeq_97, qlt_122, qle_122, qgt_122, qge_122, qeq_122, qlt_400, qle_400, qgt_400, qge_400, qeq_400, qlt_999, qle_999, qgt_999, qge_999, qeq_999, qlt_0, qle_0, qgt_0, qge_0, qeq_0, qltm, qeqm, b_1, ↓reduceIte, Option.bind_some, not_true_eq_false, not_false_eq_true, and_true, true_and, and_false, false_and, or_false, false_or, or_true, true_or, Bool.false_eq_true, reduceCtorEq, n1, n2, ht]
      · intro a i
        rw [hI]
        grind) (by
    intro n S' ⟨hI, hL⟩
    have f2 : S'.1 o 2 = nI (N 0 2) := by rw [hI, if_neg (by omega)]; exact e2
    refine ⟨S', ?_, hI, hL⟩
    simp (disch := omega) only [f3_walk_L1, f2, nI_ltI, nI_leI, nI_eq, nI_clamp, nI_1, nI_add, nI_mul, inb_n, irm_n, nI_div, nI_m6, nI_d6, irm_6, qlt_1, qle_1, qgt_1, qge_1, qeq_1, qlt_2, qle_2, qgt_2, qge_2, qeq_2, qlt_3, qle_3, qgt_3, qge_3, qeq_3, qlt_4, qle_4, qgt_4, qge_4, qeq_4, qlt_5, qle_5, qgt_5, qge_5, qeq_5, qlt_6, qle_6, qgt_6, qge_6, qeq_6, qlt_7, qle_7, qgt_7, qge_7, qeq_7, qlt_8, qle_8, qgt_8, qge_8, qeq_8, qlt_9, qle_9, qgt_9, qge_9, qeq_9, qlt_10, qle_10, qgt_10, qge_10, qeq_10, qlt_12, qle_12, qgt_12, qge_12, qeq_12, qlt_16, qle_16, qgt_16, qge_16, qeq_16, qlt_20, qle_20, qgt_20, qge_20, qeq_20, qlt_24, qle_24, qgt_24, qge_24, qeq_24, qlt_30, qle_30, qgt_30, qge_30, qeq_30, qlt_32, qle_32, qgt_32, qge_32, qeq_32, qlt_37, qle_37, qgt_37, qge_37, qeq_37, qlt_40, qle_40, qgt_40, qge_40, qeq_40, qlt_42, qle_42, qgt_42, qge_42, qeq_42, qlt_43, qle_43, qgt_43, qge_43, qeq_43, qlt_45, qle_45, qgt_45, qge_45, qeq_45, qlt_47, qle_47, qgt_47, qge_47, qeq_47, qlt_48, qle_48, qgt_48, qge_48, qeq_48, qlt_57, qle_57, qgt_57, qge_57, qeq_57, qlt_59, qle_59, qgt_59, qge_59, qeq_59, qlt_60, qle_60, qgt_60, qge_60, qeq_60, qlt_61, qle_61, qgt_61, qge_61, qeq_61, qlt_62, qle_62, qgt_62, qge_62, qeq_62, qlt_64, qle_64, qgt_64, qge_64, qeq_64, qlt_91, qle_91, qgt_91, qge_91, qeq_91, qlt_93, qle_93, qgt_93, qge_93, qeq_93, qlt_97, qle_97, qgt_97, qge_97, qeq_97, qlt_122, qle_122, qgt_122, qge_122, qeq_122, qlt_400, qle_400, qgt_400, qge_400, qeq_400, qlt_999, qle_999, qgt_999, qge_999, qeq_999, qlt_0, qle_0, qgt_0, qge_0, qeq_0, qltm, qeqm, ↓reduceIte, Option.bind_some, not_true_eq_false, not_false_eq_true, and_true, true_and, and_false, false_and, or_false, false_or, or_true, true_or, Bool.false_eq_true, reduceCtorEq, Nat.le_refl]) jF 0 S (Nat.zero_le _) (by show _ < 5000; omega) ⟨fun a i => by rw [if_neg (by omega)], rfl⟩
  refine ⟨r, ?_, hp⟩
  unfold f3_walk
  have hr' : f3_walk_L1 o (nI b) jF S 0 = some r := hr
  rw [hr']; rfl
