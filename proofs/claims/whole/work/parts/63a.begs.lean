theorem shl_m1 : ∀ g, g < 8 → ((1 : Int32) <<< (nI g &&& 31)) - 1 = nI (2 ^ g - 1) := by decide +kernel
theorem r_begins0 {X : jS} : ∃ A B C D, f11_copies X 11 7 2 7 = some (A, ()) ∧ f11_copies A 12 7 3 7 = some (B, ()) ∧ f11_copies B 13 7 4 7 = some (C, ()) ∧ f11_begins_L1 jF C 0 = some D ∧ (∀ a i, (a ≤ 1 ∨ 7 ≤ a) → D.1 a i = X.1 a i) ∧ (∀ i, i < 7 → D.1 2 i = X.1 11 i ∧ D.1 3 i = X.1 12 i ∧ D.1 4 i = X.1 13 i ∧ D.1 5 i = 0 ∧ D.1 6 i = 0) := by
  obtain ⟨A, a1, a2⟩ := r_copies (S := X) (a := 11) (b := 2) (n := 7) (by omega) (by omega)
  obtain ⟨B, b1, b2⟩ := r_copies (S := A) (a := 12) (b := 3) (n := 7) (by omega) (by omega)
  obtain ⟨C, c1, c2⟩ := r_copies (S := B) (a := 13) (b := 4) (n := 7) (by omega) (by omega)
  obtain ⟨D, d1, d2⟩ := lp_up (G := 7) (Post := fun r : jS => ∀ c i, r.1 c i = if (c = 5 ∨ c = 6) ∧ i < 7 then 0 else C.1 c i) (fun m k S' => f11_begins_L1 m S' (nI k)) (fun k r => ∀ c i, r.1 c i = if (c = 5 ∨ c = 6) ∧ i < k then 0 else C.1 c i) (by
    intro m k S' hk hI
    left
    have n1 : ¬ 7 ≤ k := by omega
    refine ⟨wI (wI S' 5 k 0) 6 k 0, ?_, fun c i => ?_⟩
    · show f11_begins_L1 (m + 1) S' (nI k) = _
      rw [f11_begins_L1]
      simp (disch := omega) only [nI_ltI, nI_leI, nI_eq, nI_clamp, nI_1, nI_add, nI_mul, inb_n, irm_n, nI_div, nI_m6, nI_d6, irm_6, qlt_1, qle_1, qgt_1, qge_1, qeq_1, qlt_2, qle_2, qgt_2, qge_2, qeq_2, qlt_3, qle_3, qgt_3, qge_3, qeq_3, qlt_4, qle_4, qgt_4, qge_4, qeq_4, qlt_5, qle_5, qgt_5, qge_5, qeq_5, qlt_6, qle_6, qgt_6, qge_6, qeq_6, qlt_7, qle_7, qgt_7, qge_7, qeq_7, qlt_8, qle_8, qgt_8, qge_8, qeq_8, qlt_9, qle_9, qgt_9, qge_9, qeq_9, qlt_10, qle_10, qgt_10, qge_10, qeq_10, qlt_12, qle_12, qgt_12, qge_12, qeq_12, qlt_16, qle_16, qgt_16, qge_16, qeq_16, qlt_20, qle_20, qgt_20, qge_20, qeq_20, qlt_24, qle_24, qgt_24, qge_24, qeq_24, qlt_30, qle_30, qgt_30, qge_30, qeq_30, qlt_32, qle_32, qgt_32, qge_32, qeq_32, qlt_37, qle_37, qgt_37, qge_37, qeq_37, qlt_40, qle_40, qgt_40, qge_40, qeq_40, qlt_42, qle_42, qgt_42, qge_42, qeq_42, qlt_43, qle_43, qgt_43, qge_43, qeq_43, qlt_45, qle_45, qgt_45, qge_45, qeq_45, qlt_47, qle_47, qgt_47, qge_47, qeq_47, qlt_48, qle_48, qgt_48, qge_48, qeq_48, qlt_57, qle_57, qgt_57, qge_57, qeq_57, qlt_59, qle_59, qgt_59, qge_59, qeq_59, qlt_60, qle_60, qgt_60, qge_60, qeq_60, qlt_61, qle_61, qgt_61, qge_61, qeq_61, qlt_62, qle_62, qgt_62, qge_62, qeq_62, qlt_64, qle_64, qgt_64, qge_64, qeq_64, qlt_91, qle_91, qgt_91, qge_91, qeq_91, qlt_93, qle_93, qgt_93, qge_93, qeq_93, qlt_97, qle_97, qgt_97, qge_97, qeq_97, qlt_122, qle_122, qgt_122, qge_122, qeq_122, qlt_400, qle_400, qgt_400, qge_400, qeq_400, qlt_999, qle_999, qgt_999, qge_999, qeq_999, qlt_0, qle_0, qgt_0, qge_0, qeq_0, qltm, qeqm, ↓reduceIte, Option.bind_some, not_true_eq_false, not_false_eq_true, and_true, true_and, and_false, false_and, or_false, false_or, or_true, true_or, Bool.false_eq_true, reduceCtorEq, n1, hk]
    · rw [wI_g, wI_g, hI]
      grind) (by
    intro m S' hI
    refine ⟨S', ?_, hI⟩
    have n1 : 7 ≤ 7 := by omega
    show f11_begins_L1 (m + 1) S' (nI 7) = _
    rw [f11_begins_L1]
    simp (disch := omega) only [nI_ltI, nI_leI, nI_eq, nI_clamp, nI_1, nI_add, nI_mul, inb_n, irm_n, nI_div, nI_m6, nI_d6, irm_6, qlt_1, qle_1, qgt_1, qge_1, qeq_1, qlt_2, qle_2, qgt_2, qge_2, qeq_2, qlt_3, qle_3, qgt_3, qge_3, qeq_3, qlt_4, qle_4, qgt_4, qge_4, qeq_4, qlt_5, qle_5, qgt_5, qge_5, qeq_5, qlt_6, qle_6, qgt_6, qge_6, qeq_6, qlt_7, qle_7, qgt_7, qge_7, qeq_7, qlt_8, qle_8, qgt_8, qge_8, qeq_8, qlt_9, qle_9, qgt_9, qge_9, qeq_9, qlt_10, qle_10, qgt_10, qge_10, qeq_10, qlt_12, qle_12, qgt_12, qge_12, qeq_12, qlt_16, qle_16, qgt_16, qge_16, qeq_16, qlt_20, qle_20, qgt_20, qge_20, qeq_20, qlt_24, qle_24, qgt_24, qge_24, qeq_24, qlt_30, qle_30, qgt_30, qge_30, qeq_30, qlt_32, qle_32, qgt_32, qge_32, qeq_32, qlt_37, qle_37, qgt_37, qge_37, qeq_37, qlt_40, qle_40, qgt_40, qge_40, qeq_40, qlt_42, qle_42, qgt_42, qge_42, qeq_42, qlt_43, qle_43, qgt_43, qge_43, qeq_43, qlt_45, qle_45, qgt_45, qge_45, qeq_45, qlt_47, qle_47, qgt_47, qge_47, qeq_47, qlt_48, qle_48, qgt_48, qge_48, qeq_48, qlt_57, qle_57, qgt_57, qge_57, qeq_57, qlt_59, qle_59, qgt_59, qge_59, qeq_59, qlt_60, qle_60, qgt_60, qge_60, qeq_60, qlt_61, qle_61, qgt_61, qge_61, qeq_61, qlt_62, qle_62, qgt_62, qge_62, qeq_62, qlt_64, qle_64, qgt_64, qge_64, qeq_64, qlt_91, qle_91, qgt_91, qge_91, qeq_91, qlt_93, qle_93, qgt_93, qge_93, qeq_93, qlt_97, qle_97, qgt_97, qge_97, qeq_97, qlt_122, qle_122, qgt_122, qge_122, qeq_122, qlt_400, qle_400, qgt_400, qge_400, qeq_400, qlt_999, qle_999, qgt_999, qge_999, qeq_999, qlt_0, qle_0, qgt_0, qge_0, qeq_0, qltm, qeqm, ↓reduceIte, Option.bind_some, not_true_eq_false, not_false_eq_true, and_true, true_and, and_false, false_and, or_false, false_or, or_true, true_or, Bool.false_eq_true, reduceCtorEq, n1]) jF 0 C (Nat.zero_le _) (by show _ < 5000; omega) (fun c i => by rw [if_neg (by omega)])
  refine ⟨A, B, C, D, a1, b1, c1, d1, fun a i h => ?_, fun i hi => ⟨?_, ?_, ?_, ?_, ?_⟩⟩
  · rw [d2, if_neg (by omega), c2, if_neg (by omega), b2, if_neg (by omega), a2, if_neg (by omega)]
  · rw [d2, if_neg (by omega), c2, if_neg (by omega), b2, if_neg (by omega), a2, if_pos ⟨rfl, by omega⟩]
  · rw [d2, if_neg (by omega), c2, if_neg (by omega), b2, if_pos ⟨rfl, by omega⟩, a2, if_neg (by omega)]
  · rw [d2, if_neg (by omega), c2, if_pos ⟨rfl, by omega⟩, b2, if_neg (by omega), a2, if_neg (by omega)]
  · rw [d2, if_pos ⟨Or.inl rfl, by omega⟩]
  · rw [d2, if_pos ⟨Or.inr rfl, by omega⟩]
