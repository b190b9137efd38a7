theorem c_settle {S : jS} {o b : Nat} {N : mN} (ho : 20 ≤ o) (hN : NOk N) (h : HIs (hC S o) N) (hla : S.1 17 2 = nI (seN N).2.2.2 - 1) (hse : ∀ g, (N 0 4).testBit g = true → (seN N).1.testBit g = false → S.1 19 g = nI ((seN N).2.2.1 g)) : ∃ S1, f3_settle S o (nI (dif (N 0 4) (seN N).1)) = some (S1, ()) ∧ S1.1 o 3 = nI (stl N b 0 3) ∧ S1.1 o 4 = nI (stl N b 0 4) ∧ S1.1 o 6 = nI (stl N b 0 6) - 1 ∧ (∀ a i, a ≠ o ∨ (i ≠ 3 ∧ i ≠ 4 ∧ i ≠ 6) → S1.1 a i = if (a = o + 2 ∨ a = o + 5 ∨ a = o + 6) ∧ i < N 0 2 ∧ (dif (N 0 4) (seN N).1).testBit i = true then nI (stl N b (a - o) i) else S.1 a i) ∧ S1.2 = S.2 := by
  have hi := hN.i
  have hth := hN.t
  have hG := hN.2.2.1
  have hCC := hN.2.1
  have hQ := seN_ok hN
  have hdd := dif_le (N 0 4) (seN N).1
  have hdt := fun g => @dif_t N (seN N) g hN
  generalize hs : dif (N 0 4) (seN N).1 = s at hdd hdt ⊢
  have hs128 : s < 128 := by omega
  obtain ⟨r, hr, x, hx, r4, rx, r6, hI, hL⟩ := lp_up (G := N 0 2) (Post := fun r : jS => ∃ x, x < 128 ∧ r.1 o 4 = nI x ∧ (∀ j, j < 7 → x.testBit j = if j < N 0 2 then s.testBit j else (N 0 4).testBit j) ∧ r.1 o 6 = nI (loN (N 0 4) s (N 0 2) (N 0 6)) - 1 ∧ (∀ a i, a ≠ o ∨ (i ≠ 4 ∧ i ≠ 6) → r.1 a i = if (a = o + 2 ∨ a = o + 5 ∨ a = o + 6) ∧ i < N 0 2 ∧ s.testBit i = true then nI (stl N b (a - o) i) else S.1 a i) ∧ r.2 = S.2) (fun n k S' => f3_settle_L1 o (nI s) n S' (nI k)) (fun k r => ∃ x, x < 128 ∧ r.1 o 4 = nI x ∧ (∀ j, j < 7 → x.testBit j = if j < k then s.testBit j else (N 0 4).testBit j) ∧ r.1 o 6 = nI (loN (N 0 4) s k (N 0 6)) - 1 ∧ (∀ a i, a ≠ o ∨ (i ≠ 4 ∧ i ≠ 6) → r.1 a i = if (a = o + 2 ∨ a = o + 5 ∨ a = o + 6) ∧ i < k ∧ s.testBit i = true then nI (stl N b (a - o) i) else S.1 a i) ∧ r.2 = S.2) (by
    rintro n k S' hk ⟨x, hx, r4, rx, r6, hI, hL⟩
    left
    have f2 : S'.1 o 2 = nI (N 0 2) := by rw [hI _ _ (by omega), if_neg (by omega)]; exact h.1 2 (by omega) (by omega)
    have n1 : ¬ N 0 2 ≤ k := by omega
    have n7 : k < 7 := by omega
    have hxk := rx k n7
    rw [if_neg (by omega)] at hxk
    by_cases hb : s.testBit k = true
    · obtain ⟨d1, d2, d3⟩ := hdt k hb
      have hsk := hQ.2.2.1 k d1 d2
      obtain ⟨a1, a2, a3, a4, a5⟩ := hN.2.2.2.2.2.2.2.2.2 k hk
      have a6 := hN.2.2.2.2.2.2.2.2.1 _ hsk
      have a7 := hN.1
      have g19 : S'.1 19 k = nI ((seN N).2.2.1 k) := by rw [hI _ _ (by omega), if_neg (by omega)]; exact hse k d1 d2
      obtain ⟨S2, q1, q2, q3⟩ := c_sit (S := S') (o := o) (g := k) (c := (seN N).2.2.1 k) (p1 := N 1 ((seN N).2.2.1 k)) (p2 := N 2 k) (s5 := N 5 k) (s6 := N 6 k) n7 (by omega) (by rw [hI _ _ (by omega), if_neg (by omega)]; exact h.2.2.1 _ hsk) (by rw [hI _ _ (by omega), if_neg (by omega)]; exact h.2.2.2 2 k (by omega) (by omega) hk) (by rw [hI _ _ (by omega), if_neg (by omega)]; exact h.2.2.2 5 k (by omega) (by omega) hk) (by rw [hI _ _ (by omega), if_neg (by omega)]; exact h.2.2.2 6 k (by omega) (by omega) hk) (by omega) (by omega) (by omega) (by omega)
      refine ⟨S2, ?_, x, hx, ?_, ?_, ?_, ?_, q3.trans hL⟩
      · simp (disch := omega) only [f3_settle_L1, f2, nI_ltI, nI_leI, nI_eq, nI_clamp, nI_1, nI_add, nI_mul, inb_n, irm_n, nI_div, nI_m6, nI_d6, irm_6, qlt_1, qle_1, qgt_1, qge_1, qeq_1, qlt_2, qle_2, qgt_2, qge_2, qeq_2, qlt_3, qle_3, qgt_3, qge_3, qeq_3, qlt_4, qle_4, qgt_4, qge_4, qeq_4, qlt_5, qle_5, qgt_5, qge_5, qeq_5, qlt_6, qle_6, qgt_6, qge_6, qeq_6, qlt_7, qle_7, qgt_7, qge_7, qeq_7, qlt_8, qle_8, qgt_8, qge_8, qeq_8, qlt_9, qle_9, qgt_9, qge_9, qeq_9, qlt_10, qle_10, qgt_10, qge_10, qeq_10, qlt_12, qle_12, qgt_12, qge_12, qeq_12, qlt_16, qle_16, qgt_16, qge_16, qeq_16, qlt_20, qle_20, qgt_20, qge_20, qeq_20, qlt_24, qle_24, qgt_24, qge_24, qeq_24, qlt_30, qle_30, qgt_30, qge_30, qeq_30, qlt_32, qle_32, qgt_32, qge_32, qeq_32, qlt_37, qle_37, qgt_37, qge_37, qeq_37, qlt_40, qle_40, qgt_40, qge_40, qeq_40, qlt_42, qle_42, qgt_42, qge_42, qeq_42, qlt_43, qle_43, qgt_43, qge_43, qeq_43, qlt_45, qle_45, qgt_45, qge_45, qeq_45, qlt_47, qle_47, qgt_47, qge_47, qeq_47, qlt_48, qle_48, qgt_48, qge_48, qeq_48, qlt_57, qle_57, qgt_57, qge_57, qeq_57, qlt_59, qle_59, qgt_59, qge_59, qeq_59, qlt_60, qle_60, qgt_60, qge_60, qeq_60, qlt_61, qle_61, qgt_61, qge_61, qeq_61, qlt_62, qle_62, qgt_62, qge_62, qeq_62, qlt_64, qle_64, qgt_64, qge_64, qeq_64, qlt_91, qle_91, qgt_91, qge_91, qeq_91, qlt_93, qle_93, qgt_93, qge_93, qeq_93, qlt_97, qle_97, qgt_97, qge_97, qeq_97, qlt_122, qle_122, qgt_122, qge_122, qeq_122, qlt_400, qle_400, qgt_400, qge_400, qeq_400, qlt_999, qle_999, qgt_999, qge_999, qeq_999, qlt_0, qle_0, qgt_0, qge_0, qeq_0, qltm, qeqm, ↓reduceIte, Option.bind_some, not_true_eq_false, not_false_eq_true, and_true, true_and, and_false, false_and, or_false, false_or, or_true, true_or, Bool.false_eq_true, reduceCtorEq, n1, n7, b_1, hb, g19, q1]
      · rw [q2, if_neg (by omega), if_neg (by omega), if_neg (by omega)]; exact r4
      · intro j hj
        rw [rx j hj]
        by_cases e : j = k
        · subst e; rw [if_neg (by omega), if_pos (by omega), d1, hb]
        · grind
      · rw [q2, if_neg (by omega), if_neg (by omega), if_neg (by omega), r6, loN, if_neg]
        intro z; rw [hb] at z; exact absurd z.2 (by decide)
      · intro a i ha
        have s2 : stl N b 2 k = N 1 ((seN N).2.2.1 k) := by unfold stl; rw [hs, if_neg (by omega), if_pos ⟨rfl, hb⟩]
        have s5 : stl N b 5 k = (if N 2 k ≠ N 1 ((seN N).2.2.1 k) ∧ N 5 k < 30 then N 5 k + 1 else N 5 k) := by unfold stl; rw [hs, if_neg (by omega), if_neg (by omega), if_pos ⟨rfl, hb⟩]
        have s6 : stl N b 6 k = (if N 6 k < 999 then N 6 k + 1 else N 6 k) := by unfold stl; rw [hs, if_neg (by omega), if_neg (by omega), if_neg (by omega), if_pos ⟨rfl, hb⟩]
        rw [q2, hI a i ha]
        by_cases e : i = k
        · subst e
          rcases Decidable.em (a = o + 6) with z | z
          · rw [if_pos ⟨z, rfl⟩, ← s6, if_pos ⟨Or.inr (Or.inr z), by omega, hb⟩, z, show o + 6 - o = 6 by omega]
          · rw [if_neg (fun y => z y.1)]
            rcases Decidable.em (a = o + 2) with z2 | z2
            · rw [if_pos ⟨z2, rfl⟩, if_pos ⟨Or.inl z2, by omega, hb⟩, z2, show o + 2 - o = 2 by omega, s2]
            · rw [if_neg (fun y => z2 y.1)]
              rcases Decidable.em (a = o + 5) with z5 | z5
              · rw [if_pos ⟨z5, rfl⟩, ← s5, if_pos ⟨Or.inr (Or.inl z5), by omega, hb⟩, z5, show o + 5 - o = 5 by omega]
              · rw [if_neg (fun y => z5 y.1), if_neg (by omega), if_neg (by omega)]
        · rw [if_neg (fun y => e y.2), if_neg (fun y => e y.2), if_neg (fun y => e y.2)]
          grind
    · have hb0 : s.testBit k = false := by simpa using hb
      by_cases hik : (N 0 4).testBit k = true
      · rw [hik] at hxk
        refine ⟨wI (wI S' o 4 (nI (clr x k))) o 6 (nI k), ?_, clr x k, Nat.lt_of_le_of_lt (clr_le _ _) hx, ?_, ?_, ?_, ?_, hL⟩
        · simp (disch := omega) only [f3_settle_L1, f2, nI_ltI, nI_leI, nI_eq, nI_clamp, nI_1, nI_add, nI_mul, inb_n, irm_n, nI_div, nI_m6, nI_d6, irm_6, qlt_1, qle_1, qgt_1, qge_1, qeq_1, qlt_2, qle_2, qgt_2, qge_2, qeq_2, qlt_3, qle_3, qgt_3, qge_3, qeq_3, qlt_4, qle_4, qgt_4, qge_4, qeq_4, qlt_5, qle_5, qgt_5, qge_5, qeq_5, qlt_6, qle_6, qgt_6, qge_6, qeq_6, qlt_7, qle_7, qgt_7, qge_7, qeq_7, qlt_8, qle_8, qgt_8, qge_8, qeq_8, qlt_9, qle_9, qgt_9, qge_9, qeq_9, qlt_10, qle_10, qgt_10, qge_10, qeq_10, qlt_12, qle_12, qgt_12, qge_12, qeq_12, qlt_16, qle_16, qgt_16, qge_16, qeq_16, qlt_20, qle_20, qgt_20, qge_20, qeq_20, qlt_24, qle_24, qgt_24, qge_24, qeq_24, qlt_30, qle_30, qgt_30, qge_30, qeq_30, qlt_32, qle_32, qgt_32, qge_32, qeq_32, qlt_37, qle_37, qgt_37, qge_37, qeq_37, qlt_40, qle_40, qgt_40, qge_40, qeq_40, qlt_42, qle_42, qgt_42, qge_42, qeq_42, qlt_43, qle_43, qgt_43, qge_43, qeq_43, qlt_45, qle_45, qgt_45, qge_45, qeq_45, qlt_47, qle_47, qgt_47, qge_47, qeq_47, qlt_48, qle_48, qgt_48, qge_48, qeq_48, qlt_57, qle_57, qgt_57, qge_57, qeq_57, qlt_59, qle_59, qgt_59, qge_59, qeq_59, qlt_60, qle_60, qgt_60, qge_60, qeq_60, qlt_61, qle_61, qgt_61, qge_61, qeq_61, qlt_62, qle_62, qgt_62, qge_62, qeq_62, qlt_64, qle_64, qgt_64, qge_64, qeq_64, qlt_91, qle_91, qgt_91, qge_91, qeq_91, qlt_93, qle_93, qgt_93, qge_93, qeq_93, qlt_97, qle_97, qgt_97, qge_97, qeq_97, qlt_122, qle_122, qgt_122, qge_122, qeq_122, qlt_400, qle_400, qgt_400, qge_400, qeq_400, qlt_999, qle_999, qgt_999, qge_999, qeq_999, qlt_0, qle_0, qgt_0, qge_0, qeq_0, qltm, qeqm, ↓reduceIte, Option.bind_some, not_true_eq_false, not_false_eq_true, and_true, true_and, and_false, false_and, or_false, false_or, or_true, true_or, Bool.false_eq_true, reduceCtorEq, n1, n7, b_1, hb, r4, hxk, b_clr]
        · simp (disch := omega) only [wI_self, wI_ne, wI_nj, wI_L]
        · intro j hj
          rw [clr_b hx n7 hj, rx j hj]
          by_cases e : j = k
          · subst e; rw [if_neg (by omega), if_pos (by omega), hb0]; simp
          · have : (j == k) = false := by simpa using e
            rw [this]; simp only [Bool.not_false, Bool.and_true]
            grind
        · rw [wI_self, loN, if_pos ⟨hik, hb0⟩]; exact (nI_pred k).symm
        · intro a i ha
          rw [wI_g, wI_g, if_neg (by omega), if_neg (by omega), hI a i ha]
          by_cases e : i = k
          · subst e; simp [hb0]
          · grind
      · have hik0 : (N 0 4).testBit k = false := by simpa using hik
        rw [hik0] at hxk
        have hxk' : ¬ x.testBit k = true := by rw [hxk]; decide
        refine ⟨S', ?_, x, hx, r4, ?_, ?_, ?_, hL⟩
        · simp (disch := omega) only [f3_settle_L1, f2, nI_ltI, nI_leI, nI_eq, nI_clamp, nI_1, nI_add, nI_mul, inb_n, irm_n, nI_div, nI_m6, nI_d6, irm_6, qlt_1, qle_1, qgt_1, qge_1, qeq_1, qlt_2, qle_2, qgt_2, qge_2, qeq_2, qlt_3, qle_3, qgt_3, qge_3, qeq_3, qlt_4, qle_4, qgt_4, qge_4, qeq_4, qlt_5, qle_5, qgt_5, qge_5, qeq_5, qlt_6, qle_6, qgt_6, qge_6, qeq_6, qlt_7, qle_7, qgt_7, qge_7, qeq_7, qlt_8, qle_8, qgt_8, qge_8, qeq_8, qlt_9, qle_9, qgt_9, qge_9, qeq_9, qlt_10, qle_10, qgt_10, qge_10, qeq_10, qlt_12, qle_12, qgt_12, qge_12, qeq_12, qlt_16, qle_16, qgt_16, qge_16, qeq_16, qlt_20, qle_20, qgt_20, qge_20, qeq_20, qlt_24, qle_24, qgt_24, qge_24, qeq_24, qlt_30, qle_30, qgt_30, qge_30, qeq_30, qlt_32, qle_32, qgt_32, qge_32, qeq_32, qlt_37, qle_37, qgt_37, qge_37, qeq_37, qlt_40, qle_40, qgt_40, qge_40, qeq_40, qlt_42, qle_42, qgt_42, qge_42, qeq_42, qlt_43, qle_43, qgt_43, qge_43, qeq_43, qlt_45, qle_45, qgt_45, qge_45, qeq_45, qlt_47, qle_47, qgt_47, qge_47, qeq_47, qlt_48, qle_48, qgt_48, qge_48, qeq_48, qlt_57, qle_57, qgt_57, qge_57, qeq_57, qlt_59, qle_59, qgt_59, qge_59, qeq_59, qlt_60, qle_60, qgt_60, qge_60, qeq_60, qlt_61, qle_61, qgt_61, qge_61, qeq_61, qlt_62, qle_62, qgt_62, qge_62, qeq_62, qlt_64, qle_64, qgt_64, qge_64, qeq_64, qlt_91, qle_91, qgt_91, qge_91, qeq_91, qlt_93, qle_93, qgt_93, qge_93, qeq_93, qlt_97, qle_97, qgt_97, qge_97, qeq_97, qlt_122, qle_122, qgt_122, qge_122, qeq_122, qlt_400, qle_400, qgt_400, qge_400, qeq_400, qlt_999, qle_999, qgt_999, qge_999, qeq_999, qlt_0, qle_0, qgt_0, qge_0, qeq_0, qltm, qeqm, ↓reduceIte, Option.bind_some, not_true_eq_false, not_false_eq_true, and_true, true_and, and_false, false_and, or_false, false_or, or_true, true_or, Bool.false_eq_true, reduceCtorEq, n1, n7, b_1, hb, r4, hxk']
        · intro j hj
          rw [rx j hj]
          by_cases e : j = k
          · subst e; rw [if_neg (by omega), if_pos (by omega), hb0, hik0]
          · grind
        · rw [r6, loN, if_neg (fun z => hik z.1)]
        · intro a i ha
          rw [hI a i ha]
          by_cases e : i = k
          · subst e; simp [hb0]
          · grind) (by
    rintro n S' ⟨x, hx, r4, rx, r6, hI, hL⟩
    have f2 : S'.1 o 2 = nI (N 0 2) := by rw [hI _ _ (by omega), if_neg (by omega)]; exact h.1 2 (by omega) (by omega)
    refine ⟨S', ?_, x, hx, r4, rx, r6, hI, hL⟩
    simp (disch := omega) only [f3_settle_L1, f2, nI_ltI, nI_leI, nI_eq, nI_clamp, nI_1, nI_add, nI_mul, inb_n, irm_n, nI_div, nI_m6, nI_d6, irm_6, qlt_1, qle_1, qgt_1, qge_1, qeq_1, qlt_2, qle_2, qgt_2, qge_2, qeq_2, qlt_3, qle_3, qgt_3, qge_3, qeq_3, qlt_4, qle_4, qgt_4, qge_4, qeq_4, qlt_5, qle_5, qgt_5, qge_5, qeq_5, qlt_6, qle_6, qgt_6, qge_6, qeq_6, qlt_7, qle_7, qgt_7, qge_7, qeq_7, qlt_8, qle_8, qgt_8, qge_8, qeq_8, qlt_9, qle_9, qgt_9, qge_9, qeq_9, qlt_10, qle_10, qgt_10, qge_10, qeq_10, qlt_12, qle_12, qgt_12, qge_12, qeq_12, qlt_16, qle_16, qgt_16, qge_16, qeq_16, qlt_20, qle_20, qgt_20, qge_20, qeq_20, qlt_24, qle_24, qgt_24, qge_24, qeq_24, qlt_30, qle_30, qgt_30, qge_30, qeq_30, qlt_32, qle_32, qgt_32, qge_32, qeq_32, qlt_37, qle_37, qgt_37, qge_37, qeq_37, qlt_40, qle_40, qgt_40, qge_40, qeq_40, qlt_42, qle_42, qgt_42, qge_42, qeq_42, qlt_43, qle_43, qgt_43, qge_43, qeq_43, qlt_45, qle_45, qgt_45, qge_45, qeq_45, qlt_47, qle_47, qgt_47, qge_47, qeq_47, qlt_48, qle_48, qgt_48, qge_48, qeq_48, qlt_57, qle_57, qgt_57, qge_57, qeq_57, qlt_59, qle_59, qgt_59, qge_59, qeq_59, qlt_60, qle_60, qgt_60, qge_60, qeq_60, qlt_61, qle_61, qgt_61, qge_61, qeq_61, qlt_62, qle_62, qgt_62, qge_62, qeq_62, qlt_64, qle_64, qgt_64, qge_64, qeq_64, qlt_91, qle_91, qgt_91, qge_91, qeq_91, qlt_93, qle_93, qgt_93, qge_93, qeq_93, qlt_97, qle_97, qgt_97, qge_97, qeq_97, qlt_122, qle_122, qgt_122, qge_122, qeq_122, qlt_400, qle_400, qgt_400, qge_400, qeq_400, qlt_999, qle_999, qgt_999, qge_999, qeq_999, qlt_0, qle_0, qgt_0, qge_0, qeq_0, qltm, qeqm, ↓reduceIte, Option.bind_some, not_true_eq_false, not_false_eq_true, and_true, true_and, and_false, false_and, or_false, false_or, or_true, true_or, Bool.false_eq_true, reduceCtorEq, Nat.le_refl]) jF 0 S (Nat.zero_le _) (by show _ < 5000; omega) ⟨N 0 4, hi, h.1 4 (by omega) (by omega), fun j hj => by rw [if_neg (by omega)], h.2.1, fun a i ha => by rw [if_neg (by omega)], rfl⟩
  have exs : x = s := by
    apply bits_ext hx hs128
    intro j hj
    rw [rx j hj]
    by_cases e : j < N 0 2
    · rw [if_pos e]
    · rw [if_neg e]
      cases e2 : s.testBit j
      · cases e3 : (N 0 4).testBit j
        · rfl
        · exact absurd (hN.ib e3) e
      · exact absurd (hdt j e2).2.2 e
  subst exs
  have r3 : r.1 o 3 = nI (N 0 3) := by rw [hI _ _ (by omega), if_neg (by omega)]; exact h.1 3 (by omega) (by omega)
  have r17 : r.1 17 2 = nI (seN N).2.2.2 - 1 := by rw [hI _ _ (by omega), if_neg (by omega)]; exact hla
  have hr' : f3_settle_L1 o (nI x) jF S 0 = some r := hr
  have w4 : stl N b 0 4 = x := by unfold stl; rw [if_pos rfl, if_neg (by omega), if_pos rfl, hs]
  have w6 : stl N b 0 6 = loN (N 0 4) x (N 0 2) (N 0 6) := by unfold stl; rw [if_pos rfl, if_neg (by omega), if_neg (by omega), if_neg (by omega), if_pos rfl, hs]
  have w3 : stl N b 0 3 = (if (seN N).2.2.2 = 0 then N 0 3 else clr (N 0 3) ((seN N).2.2.2 - 1)) := by unfold stl; rw [if_pos rfl, if_pos rfl]
  rw [w4, w6, w3]
  have hl := hQ.2.2.2
  by_cases hz : (seN N).2.2.2 = 0
  · rw [hz, nI_0m] at r17
    rw [if_pos hz]
    refine ⟨r, ?_, r3, r4, r6, fun a i ha => hI a i (by omega), hL⟩
    unfold f3_settle
    rw [hr', Option.bind_some, if_pos r17]
  · obtain ⟨c, hc⟩ : ∃ c, (seN N).2.2.2 = c + 1 := ⟨(seN N).2.2.2 - 1, by omega⟩
    rw [hc, nI_pred] at r17
    rw [if_neg hz, hc, show c + 1 - 1 = c by omega]
    have n7 : c < 7 := by omega
    refine ⟨wI r o 3 (nI (clr (N 0 3) c)), ?_, wI_self _ _ _ _, ?_, ?_, ?_, hL⟩
    · unfold f3_settle
      have hx64 : N 0 3 < 128 := by omega
      simp (disch := omega) only [hr', r17, r3, nI_ltI, nI_leI, nI_eq, nI_clamp, nI_1, nI_add, nI_mul, inb_n, irm_n, nI_div, nI_m6, nI_d6, irm_6, qlt_1, qle_1, qgt_1, qge_1, qeq_1, qlt_2, qle_2, qgt_2, qge_2, qeq_2, qlt_3, qle_3, qgt_3, qge_3, qeq_3, qlt_4, qle_4, qgt_4, qge_4, qeq_4, qlt_5, qle_5, qgt_5, qge_5, qeq_5, qlt_6, qle_6, qgt_6, qge_6, qeq_6, qlt_7, qle_7, qgt_7, qge_7, qeq_7, qlt_8, qle_8, qgt_8, qge_8, qeq_8, qlt_9, qle_9, qgt_9, qge_9, qeq_9, qlt_10, qle_10, qgt_10, qge_10, qeq_10, qlt_12, qle_12, qgt_12, qge_12, qeq_12, qlt_16, qle_16, qgt_16, qge_16, qeq_16, qlt_20, qle_20, qgt_20, qge_20, qeq_20, qlt_24, qle_24, qgt_24, qge_24, qeq_24, qlt_30, qle_30, qgt_30, qge_30, qeq_30, qlt_32, qle_32, qgt_32, qge_32, qeq_32, qlt_37, qle_37, qgt_37, qge_37, qeq_37, qlt_40, qle_40, qgt_40, qge_40, qeq_40, qlt_42, qle_42, qgt_42, qge_42, qeq_42, qlt_43, qle_43, qgt_43, qge_43, qeq_43, qlt_45, qle_45, qgt_45, qge_45, qeq_45, qlt_47, qle_47, qgt_47, qge_47, qeq_47, qlt_48, qle_48, qgt_48, qge_48, qeq_48, qlt_57, qle_57, qgt_57, qge_57, qeq_57, qlt_59, qle_59, qgt_59, qge_59, qeq_59, qlt_60, qle_60, qgt_60, qge_60, qeq_60, qlt_61, qle_61, qgt_61, qge_61, qeq_61, qlt_62, qle_62, qgt_62, qge_62, qeq_62, qlt_64, qle_64, qgt_64, qge_64, qeq_64, qlt_91, qle_91, qgt_91, qge_91, qeq_91, qlt_93, qle_93, qgt_93, qge_93, qeq_93, qlt_97, qle_97, qgt_97, qge_97, qeq_97, qlt_122, qle_122, qgt_122, qge_122, qeq_122, qlt_400, qle_400, qgt_400, qge_400, qeq_400, qlt_999, qle_999, qgt_999, qge_999, qeq_999, qlt_0, qle_0, qgt_0, qge_0, qeq_0, qltm, qeqm, ↓reduceIte, Option.bind_some, not_true_eq_false, not_false_eq_true, and_true, true_and, and_false, false_and, or_false, false_or, or_true, true_or, Bool.false_eq_true, reduceCtorEq, b_clr]
    · rw [wI_nj (by omega)]; exact r4
    · rw [wI_nj (by omega)]; exact r6
    · intro a i ha
      rw [wI_g, if_neg (by omega)]
      exact hI a i (by omega)
/-- what a class's round does: the hall at o is the next, the game's own rows may be any -/
theorem c_round {S : jS} {o b : Nat} {N : mN} (ho : 20 ≤ o) (hN : NOk N) (h : HIs (hC S o) N) (hb : b ≤ 60) : ∃ S1, f3_roundOf S o (nI b) = some (S1, nI (rnd N b 0 4)) ∧ HIs (hC S1 o) (rnd N b) ∧ (∀ a i, a ≠ 17 → a ≠ 18 → a ≠ 19 → (a < o ∨ o + 6 < a) → S1.1 a i = S.1 a i) ∧ S1.2 = S.2 := by
  obtain ⟨S1, p1, p2, p3⟩ := c_walk hN h hb
  have hN1 : NOk (wkN N b) := wkN_ok hN
  have h1 : HIs (hC S1 o) (wkN N b) := by
    refine ⟨fun i a1 a2 => ?_, ?_, fun c hc => ?_, fun a g a1 a2 hg => ?_⟩
    · show S1.1 (o + 0) i = _
      rw [p2, if_neg (by omega)]; exact h.1 i a1 a2
    · show S1.1 (o + 0) 6 = _
      rw [p2, if_neg (by omega)]; exact h.2.1
    · show S1.1 (o + 1) c = _
      rw [p2, if_neg (by omega)]; exact h.2.2.1 c hc
    · show S1.1 (o + a) g = nI (wkN N b a g)
      have hg' : g < N 0 2 := hg
      rw [p2]
      by_cases e : a = 2
      · subst e
        by_cases e2 : (N 0 4).testBit g = true
        · rw [if_pos ⟨rfl, hg', e2⟩]
        · rw [if_neg (fun z => e2 z.2.2)]
          show _ = nI (if 2 = 2 ∧ g < N 0 2 ∧ (N 0 4).testBit g = true then _ else N 2 g)
          rw [if_neg (fun z => e2 z.2.2)]
          exact h.2.2.2 2 g a1 a2 hg'
      · rw [if_neg (by omega)]
        show _ = nI (if a = 2 ∧ g < N 0 2 ∧ (N 0 4).testBit g = true then _ else N a g)
        rw [if_neg (fun z => e z.1)]
        exact h.2.2.2 a g a1 a2 hg'
  obtain ⟨S2, q1, q2, q3, q4⟩ := c_meas ho hN1 h1
  have h2 : HIs (hC S2 o) (wkN N b) := h1.mono (fun a i _ _ => q2 a i (by omega))
  obtain ⟨S3, r1, r2, r3, r4, r5⟩ := c_seat ho hN1 h2 q4
  have h3 : HIs (hC S3 o) (wkN N b) := h2.mono (fun a i _ _ => r2 a i (by omega) (by omega))
  obtain ⟨S4, t1, t3, t4, t6, tI, tL⟩ := c_settle (b := b) ho hN1 h3 r4 r5
  have e4 : rnd N b 0 4 = dif (wkN N b 0 4) (seN (wkN N b)).1 := by
    show stl (wkN N b) b 0 4 = _
    unfold stl; rw [if_pos rfl, if_neg (by omega), if_pos rfl]
  have f5 : S4.1 o 5 = nI (wkN N b 0 5) := by rw [tI _ _ (by omega), if_neg (by omega)]; exact h3.1 5 (by omega) (by omega)
  refine ⟨wI (wI S4 o 7 (nI b)) o 5 (nI (wkN N b 0 5 + 1)), ?_, ⟨fun i a1 a2 => ?_, ?_, fun c hc => ?_, fun a g a1 a2 hg => ?_⟩, fun a i b1 b2 b3 b4 => ?_, ?_⟩
  · unfold f3_roundOf
    simp (disch := omega) only [p1, q1, r1, t1, ↓reduceIte, Option.bind_some, not_true_eq_false, not_false_eq_true, and_true, true_and, and_false, false_and, or_false, false_or, or_true, true_or, Bool.false_eq_true, reduceCtorEq, wI_self, wI_ne, wI_nj, wI_L, f5, nI_1, e4]
  · show (wI (wI S4 o 7 (nI b)) o 5 (nI (wkN N b 0 5 + 1))).1 (o + 0) i = nI (stl (wkN N b) b 0 i)
    rw [Nat.add_zero, wI_g, wI_g]
    by_cases i5 : i = 5
    · subst i5; rw [if_pos ⟨rfl, rfl⟩]; rfl
    · rw [if_neg (fun z => i5 z.2)]
      by_cases i7 : i = 7
      · subst i7; rw [if_pos ⟨rfl, rfl⟩]; rfl
      · rw [if_neg (fun z => i7 z.2)]
        by_cases i3 : i = 3
        · subst i3; exact t3
        · by_cases i4 : i = 4
          · subst i4; exact t4
          · rw [tI _ _ (by omega), if_neg (by omega)]
            have : stl (wkN N b) b 0 i = wkN N b 0 i := by unfold stl; rw [if_pos rfl, if_neg i3, if_neg i4, if_neg i5, if_neg a2, if_neg i7]
            rw [this]; exact h3.1 i a1 a2
  · show (wI (wI S4 o 7 (nI b)) o 5 (nI (wkN N b 0 5 + 1))).1 o 6 = _
    rw [wI_nj (by omega), wI_nj (by omega)]; exact t6
  · show (wI (wI S4 o 7 (nI b)) o 5 (nI (wkN N b 0 5 + 1))).1 (o + 1) c = nI (stl (wkN N b) b 1 c)
    rw [wI_ne (by omega), wI_ne (by omega), tI _ _ (by omega), if_neg (by omega)]
    exact h3.2.2.1 c hc
  · show (wI (wI S4 o 7 (nI b)) o 5 (nI (wkN N b 0 5 + 1))).1 (o + a) g = nI (stl (wkN N b) b a g)
    rw [wI_ne (by omega), wI_ne (by omega), tI _ _ (by omega)]
    have hg' : g < wkN N b 0 2 := hg
    by_cases e : (a = 2 ∨ a = 5 ∨ a = 6) ∧ (dif (wkN N b 0 4) (seN (wkN N b)).1).testBit g = true
    · rw [if_pos ⟨by omega, hg', e.2⟩, show o + a - o = a by omega]
    · rw [if_neg (fun z => e ⟨by omega, z.2.2⟩)]
      have : stl (wkN N b) b a g = wkN N b a g := by
        unfold stl
        rw [if_neg (by omega), if_neg (fun z => e ⟨Or.inl z.1, z.2⟩), if_neg (fun z => e ⟨Or.inr (Or.inl z.1), z.2⟩), if_neg (fun z => e ⟨Or.inr (Or.inr z.1), z.2⟩)]
      rw [this]; exact h3.2.2.2 a g a1 a2 hg'
  · rw [wI_ne (by omega), wI_ne (by omega), tI _ _ (by omega), if_neg (by omega), r2 _ _ b1 b3, q2 _ _ b2, p2, if_neg (by omega)]
  · show S4.2 = _
    rw [tL, r3, q3, p3]
