/-! how many can sit within a time: the reference's loops, and the call -/
theorem mxP_0 : mxP (fun x => decide (x = 0)) 64 = 0 := by decide +kernel
theorem eR_t {r : Nat → Bool} {s : Nat} (h : r s = true) : eR r s = nI (pcn s) := if_pos h
theorem eR_f {r : Nat → Bool} {s : Nat} (h : ¬ r s = true) : eR r s = -1 := if_neg h
theorem r_wi4 {X : jS} {g s t : Nat} {N : mN} {r : Nat → Bool} (hN : NOk N) (h : HIs (hV X.1) N) (hg : g < N 0 2) (hs : s < 64) (ht : t ≤ 999) (hr : ∀ x, x < 64 → X.1 48 x = eR r x) : ∃ X1, f11_within_L4 (nI t) (nI g) (nI s) jF X 0 = some X1 ∧ (∀ x, x < 64 → X1.1 48 x = eR (if (N 0 4).testBit g = true ∧ r s = true then wiC N t g s r (N 0 1) else r) x) ∧ (∀ a i, a ≠ 48 → X1.1 a i = X.1 a i) := by
  have hG := hN.2.2.1
  have hC' := hN.2.1
  have hi := hN.i
  have htt := hN.t
  have e1 := HV1 h
  have e6 := HV4 h
  have e7 := HV3 h
  have hps := pcn_le0 s (by omega)
  exact lp_up (G := N 0 1) (Post := fun X1 : jS => (∀ x, x < 64 → X1.1 48 x = eR (if (N 0 4).testBit g = true ∧ r s = true then wiC N t g s r (N 0 1) else r) x) ∧ (∀ a i, a ≠ 48 → X1.1 a i = X.1 a i)) (fun n k (X' : jS) => f11_within_L4 (nI t) (nI g) (nI s) n X' (nI k)) (fun k X1 => (∀ x, x < 64 → X1.1 48 x = eR (if (N 0 4).testBit g = true ∧ r s = true then wiC N t g s r k else r) x) ∧ (∀ a i, a ≠ 48 → X1.1 a i = X.1 a i)) (by
    rintro n k X' hk ⟨h48, hf⟩
    have e1' : X'.1 1 1 = nI (N 0 1) := (hf _ _ (by omega)).trans e1
    have e6' : X'.1 1 6 = nI (N 0 4) := (hf _ _ (by omega)).trans e6
    have e7' : X'.1 1 7 = nI (N 0 3) := (hf _ _ (by omega)).trans e7
    have n1 : ¬ N 0 1 ≤ k := by omega
    by_cases hb1 : (N 0 4).testBit g = true
    · left
      by_cases hrs : r s = true
      · rw [if_pos ⟨hb1, hrs⟩] at h48
        rw [if_pos ⟨hb1, hrs⟩]
        have es : X'.1 48 s = nI (pcn s) := by rw [h48 s hs, eR_t (by rw [wiC_s]; exact hrs)]
        have n2 : ¬ nI (pcn s) = -1 := (qeqm (by omega)).mp
        have hfr := r_free (t := N 0 3) (c := k) (s := s) htt (by omega) hs
        by_cases hf1 : fre (N 0 3) s k = true
        · obtain ⟨o1, o2⟩ := b_or0 s hs k (by omega)
          have htm := r_time hN (HV_mono h (fun a i u1 u2 => hf a i (by omega))) hg hk
          have htl := tmN_le hN hg hk
          by_cases hle : tmN N g k ≤ t
          · have hle' : ¬ t < tmN N g k := by omega
            have hp := pcn_or s hs k (by omega) (fre_t hf1).2
            have ew : wiC N t g s r (k + 1) = fun x => decide (x = s ||| 2 ^ k) || wiC N t g s r k x := by rw [wiC, if_pos ⟨hf1, hle⟩]
            refine ⟨wI X' 48 (s ||| 2 ^ k) (nI (pcn s + 1)), ?_, fun x hx => ?_, fun a i ha => by rw [wI_ne ha]; exact hf a i ha⟩
            · show f11_within_L4 (nI t) (nI g) (nI s) (n + 1) X' (nI k) = _
              rw [f11_within_L4]
              simp (disch := omega) only [e1', e6', e7', es, r_has, hb1, hfr, hf1, htm, o1, o2, bits1, nI_ltI, nI_leI, nI_eq, nI_clamp, nI_1, nI_add, nI_mul, inb_n, irm_n, nI_div, nI_m6, nI_d6, irm_6, qlt_1, qle_1, qgt_1, qge_1, qeq_1, qlt_2, qle_2, qgt_2, qge_2, qeq_2, qlt_3, qle_3, qgt_3, qge_3, qeq_3, qlt_4, qle_4, qgt_4, qge_4, qeq_4, qlt_5, qle_5, qgt_5, qge_5, qeq_5, qlt_6, qle_6, qgt_6, qge_6, qeq_6, qlt_7, qle_7, qgt_7, qge_7, qeq_7, qlt_8, qle_8, qgt_8, qge_8, qeq_8, qlt_9, qle_9, qgt_9, qge_9, qeq_9, qlt_10, qle_10, qgt_10, qge_10, qeq_10, qlt_12, qle_12, qgt_12, qge_12, qeq_12, qlt_16, qle_16, qgt_16, qge_16, qeq_16, qlt_20, qle_20, qgt_20, qge_20, qeq_20, qlt_24, qle_24, qgt_24, qge_24, qeq_24, qlt_30, qle_30, qgt_30, qge_30, qeq_30, qlt_32, qle_32, qgt_32, qge_32, qeq_32, qlt_37, qle_37, qgt_37, qge_37, qeq_37, qlt_40, qle_40, qgt_40, qge_40, qeq_40, qlt_42, qle_42, qgt_42, qge_42, qeq_42, qlt_43, qle_43, qgt_43, qge_43, qeq_43, qlt_45, qle_45, qgt_45, qge_45, qeq_45, qlt_47, qle_47, qgt_47, qge_47, qeq_47, qlt_48, qle_48, qgt_48, qge_48, qeq_48, qlt_57, qle_57, qgt_57, qge_57, qeq_57, qlt_59, qle_59, qgt_59, qge_59, qeq_59, qlt_60, qle_60, qgt_60, qge_60, qeq_60, qlt_61, qle_61, qgt_61, qge_61, qeq_61, qlt_62, qle_62, qgt_62, qge_62, qeq_62, qlt_64, qle_64, qgt_64, qge_64, qeq_64, qlt_91, qle_91, qgt_91, qge_91, qeq_91, qlt_93, qle_93, qgt_93, qge_93, qeq_93, qlt_97, qle_97, qgt_97, qge_97, qeq_97, qlt_122, qle_122, qgt_122, qge_122, qeq_122, qlt_400, qle_400, qgt_400, qge_400, qeq_400, qlt_999, qle_999, qgt_999, qge_999, qeq_999, qlt_0, qle_0, qgt_0, qge_0, qeq_0, qltm, qeqm, ↓reduceIte, Option.bind_some, not_true_eq_false, not_false_eq_true, and_true, true_and, and_false, false_and, or_false, false_or, or_true, true_or, Bool.false_eq_true, reduceCtorEq, n1, n2, hs, hle', one_ne0]
            · rw [ew]
              by_cases ex : x = s ||| 2 ^ k
              · subst ex; rw [wI_self, eR_t (by simp), hp]
              · rw [wI_nj ex, h48 x hx]
                unfold eR
                simp only [ex, decide_false, Bool.false_or]
          · have hle' : t < tmN N g k := by omega
            have ew : wiC N t g s r (k + 1) = wiC N t g s r k := by rw [wiC, if_neg (fun z => hle z.2)]
            refine ⟨X', ?_, by rw [ew]; exact h48, hf⟩
            show f11_within_L4 (nI t) (nI g) (nI s) (n + 1) X' (nI k) = _
            rw [f11_within_L4]
            simp (disch := omega) only [e1', e6', e7', es, r_has, hb1, hfr, hf1, htm, nI_ltI, nI_leI, nI_eq, nI_clamp, nI_1, nI_add, nI_mul, inb_n, irm_n, nI_div, nI_m6, nI_d6, irm_6, qlt_1, qle_1, qgt_1, qge_1, qeq_1, qlt_2, qle_2, qgt_2, qge_2, qeq_2, qlt_3, qle_3, qgt_3, qge_3, qeq_3, qlt_4, qle_4, qgt_4, qge_4, qeq_4, qlt_5, qle_5, qgt_5, qge_5, qeq_5, qlt_6, qle_6, qgt_6, qge_6, qeq_6, qlt_7, qle_7, qgt_7, qge_7, qeq_7, qlt_8, qle_8, qgt_8, qge_8, qeq_8, qlt_9, qle_9, qgt_9, qge_9, qeq_9, qlt_10, qle_10, qgt_10, qge_10, qeq_10, qlt_12, qle_12, qgt_12, qge_12, qeq_12, qlt_16, qle_16, qgt_16, qge_16, qeq_16, qlt_20, qle_20, qgt_20, qge_20, qeq_20, qlt_24, qle_24, qgt_24, qge_24, qeq_24, qlt_30, qle_30, qgt_30, qge_30, qeq_30, qlt_32, qle_32, qgt_32, qge_32, qeq_32, qlt_37, qle_37, qgt_37, qge_37, qeq_37, qlt_40, qle_40, qgt_40, qge_40, qeq_40, qlt_42, qle_42, qgt_42, qge_42, qeq_42, qlt_43, qle_43, qgt_43, qge_43, qeq_43, qlt_45, qle_45, qgt_45, qge_45, qeq_45, qlt_47, qle_47, qgt_47, qge_47, qeq_47, qlt_48, qle_48, qgt_48, qge_48, qeq_48, qlt_57, qle_57, qgt_57, qge_57, qeq_57, qlt_59, qle_59, qgt_59, qge_59, qeq_59, qlt_60, qle_60, qgt_60, qge_60, qeq_60, qlt_61, qle_61, qgt_61, qge_61, qeq_61, qlt_62, qle_62, qgt_62, qge_62, qeq_62, qlt_64, qle_64, qgt_64, qge_64, qeq_64, qlt_91, qle_91, qgt_91, qge_91, qeq_91, qlt_93, qle_93, qgt_93, qge_93, qeq_93, qlt_97, qle_97, qgt_97, qge_97, qeq_97, qlt_122, qle_122, qgt_122, qge_122, qeq_122, qlt_400, qle_400, qgt_400, qge_400, qeq_400, qlt_999, qle_999, qgt_999, qge_999, qeq_999, qlt_0, qle_0, qgt_0, qge_0, qeq_0, qltm, qeqm, ↓reduceIte, Option.bind_some, not_true_eq_false, not_false_eq_true, and_true, true_and, and_false, false_and, or_false, false_or, or_true, true_or, Bool.false_eq_true, reduceCtorEq, n1, n2, hs, hle', one_ne0]
        · have ew : wiC N t g s r (k + 1) = wiC N t g s r k := by rw [wiC, if_neg (fun z => hf1 z.1)]
          refine ⟨X', ?_, by rw [ew]; exact h48, hf⟩
          show f11_within_L4 (nI t) (nI g) (nI s) (n + 1) X' (nI k) = _
          rw [f11_within_L4]
          simp (disch := omega) only [e1', e6', e7', es, r_has, hb1, hfr, hf1, nI_ltI, nI_leI, nI_eq, nI_clamp, nI_1, nI_add, nI_mul, inb_n, irm_n, nI_div, nI_m6, nI_d6, irm_6, qlt_1, qle_1, qgt_1, qge_1, qeq_1, qlt_2, qle_2, qgt_2, qge_2, qeq_2, qlt_3, qle_3, qgt_3, qge_3, qeq_3, qlt_4, qle_4, qgt_4, qge_4, qeq_4, qlt_5, qle_5, qgt_5, qge_5, qeq_5, qlt_6, qle_6, qgt_6, qge_6, qeq_6, qlt_7, qle_7, qgt_7, qge_7, qeq_7, qlt_8, qle_8, qgt_8, qge_8, qeq_8, qlt_9, qle_9, qgt_9, qge_9, qeq_9, qlt_10, qle_10, qgt_10, qge_10, qeq_10, qlt_12, qle_12, qgt_12, qge_12, qeq_12, qlt_16, qle_16, qgt_16, qge_16, qeq_16, qlt_20, qle_20, qgt_20, qge_20, qeq_20, qlt_24, qle_24, qgt_24, qge_24, qeq_24, qlt_30, qle_30, qgt_30, qge_30, qeq_30, qlt_32, qle_32, qgt_32, qge_32, qeq_32, qlt_37, qle_37, qgt_37, qge_37, qeq_37, qlt_40, qle_40, qgt_40, qge_40, qeq_40, qlt_42, qle_42, qgt_42, qge_42, qeq_42, qlt_43, qle_43, qgt_43, qge_43, qeq_43, qlt_45, qle_45, qgt_45, qge_45, qeq_45, qlt_47, qle_47, qgt_47, qge_47, qeq_47, qlt_48, qle_48, qgt_48, qge_48, qeq_48, qlt_57, qle_57, qgt_57, qge_57, qeq_57, qlt_59, qle_59, qgt_59, qge_59, qeq_59, qlt_60, qle_60, qgt_60, qge_60, qeq_60, qlt_61, qle_61, qgt_61, qge_61, qeq_61, qlt_62, qle_62, qgt_62, qge_62, qeq_62, qlt_64, qle_64, qgt_64, qge_64, qeq_64, qlt_91, qle_91, qgt_91, qge_91, qeq_91, qlt_93, qle_93, qgt_93, qge_93, qeq_93, qlt_97, qle_97, qgt_97, qge_97, qeq_97, qlt_122, qle_122, qgt_122, qge_122, qeq_122, qlt_400, qle_400, qgt_400, qge_400, qeq_400, qlt_999, qle_999, qgt_999, qge_999, qeq_999, qlt_0, qle_0, qgt_0, qge_0, qeq_0, qltm, qeqm, ↓reduceIte, Option.bind_some, not_true_eq_false, not_false_eq_true, and_true, true_and, and_false, false_and, or_false, false_or, or_true, true_or, Bool.false_eq_true, reduceCtorEq, n1, n2, hs, one_ne0]
      · rw [if_neg (fun z => hrs z.2)] at h48
        rw [if_neg (fun z => hrs z.2)]
        have es : X'.1 48 s = -1 := by rw [h48 s hs, eR_f hrs]
        refine ⟨X', ?_, h48, hf⟩
        show f11_within_L4 (nI t) (nI g) (nI s) (n + 1) X' (nI k) = _
        rw [f11_within_L4]
        simp (disch := omega) only [e1', e6', es, r_has, hb1, nI_ltI, nI_leI, nI_eq, nI_clamp, nI_1, nI_add, nI_mul, inb_n, irm_n, nI_div, nI_m6, nI_d6, irm_6, qlt_1, qle_1, qgt_1, qge_1, qeq_1, qlt_2, qle_2, qgt_2, qge_2, qeq_2, qlt_3, qle_3, qgt_3, qge_3, qeq_3, qlt_4, qle_4, qgt_4, qge_4, qeq_4, qlt_5, qle_5, qgt_5, qge_5, qeq_5, qlt_6, qle_6, qgt_6, qge_6, qeq_6, qlt_7, qle_7, qgt_7, qge_7, qeq_7, qlt_8, qle_8, qgt_8, qge_8, qeq_8, qlt_9, qle_9, qgt_9, qge_9, qeq_9, qlt_10, qle_10, qgt_10, qge_10, qeq_10, qlt_12, qle_12, qgt_12, qge_12, qeq_12, qlt_16, qle_16, qgt_16, qge_16, qeq_16, qlt_20, qle_20, qgt_20, qge_20, qeq_20, qlt_24, qle_24, qgt_24, qge_24, qeq_24, qlt_30, qle_30, qgt_30, qge_30, qeq_30, qlt_32, qle_32, qgt_32, qge_32, qeq_32, qlt_37, qle_37, qgt_37, qge_37, qeq_37, qlt_40, qle_40, qgt_40, qge_40, qeq_40, qlt_42, qle_42, qgt_42, qge_42, qeq_42, qlt_43, qle_43, qgt_43, qge_43, qeq_43, qlt_45, qle_45, qgt_45, qge_45, qeq_45, qlt_47, qle_47, qgt_47, qge_47, qeq_47, qlt_48, qle_48, qgt_48, qge_48, qeq_48, qlt_57, qle_57, qgt_57, qge_57, qeq_57, qlt_59, qle_59, qgt_59, qge_59, qeq_59, qlt_60, qle_60, qgt_60, qge_60, qeq_60, qlt_61, qle_61, qgt_61, qge_61, qeq_61, qlt_62, qle_62, qgt_62, qge_62, qeq_62, qlt_64, qle_64, qgt_64, qge_64, qeq_64, qlt_91, qle_91, qgt_91, qge_91, qeq_91, qlt_93, qle_93, qgt_93, qge_93, qeq_93, qlt_97, qle_97, qgt_97, qge_97, qeq_97, qlt_122, qle_122, qgt_122, qge_122, qeq_122, qlt_400, qle_400, qgt_400, qge_400, qeq_400, qlt_999, qle_999, qgt_999, qge_999, qeq_999, qlt_0, qle_0, qgt_0, qge_0, qeq_0, qltm, qeqm, ↓reduceIte, Option.bind_some, not_true_eq_false, not_false_eq_true, and_true, true_and, and_false, false_and, or_false, false_or, or_true, true_or, Bool.false_eq_true, reduceCtorEq, n1, hs, one_ne0]
    · right
      rw [if_neg (fun z => hb1 z.1)] at h48
      rw [if_neg (fun z => hb1 z.1)]
      refine ⟨X', ?_, h48, hf⟩
      show f11_within_L4 (nI t) (nI g) (nI s) (n + 1) X' (nI k) = _
      rw [f11_within_L4]
      simp (disch := omega) only [e1', e6', r_has, hb1, nI_ltI, nI_leI, nI_eq, nI_clamp, nI_1, nI_add, nI_mul, inb_n, irm_n, nI_div, nI_m6, nI_d6, irm_6, qlt_1, qle_1, qgt_1, qge_1, qeq_1, qlt_2, qle_2, qgt_2, qge_2, qeq_2, qlt_3, qle_3, qgt_3, qge_3, qeq_3, qlt_4, qle_4, qgt_4, qge_4, qeq_4, qlt_5, qle_5, qgt_5, qge_5, qeq_5, qlt_6, qle_6, qgt_6, qge_6, qeq_6, qlt_7, qle_7, qgt_7, qge_7, qeq_7, qlt_8, qle_8, qgt_8, qge_8, qeq_8, qlt_9, qle_9, qgt_9, qge_9, qeq_9, qlt_10, qle_10, qgt_10, qge_10, qeq_10, qlt_12, qle_12, qgt_12, qge_12, qeq_12, qlt_16, qle_16, qgt_16, qge_16, qeq_16, qlt_20, qle_20, qgt_20, qge_20, qeq_20, qlt_24, qle_24, qgt_24, qge_24, qeq_24, qlt_30, qle_30, qgt_30, qge_30, qeq_30, qlt_32, qle_32, qgt_32, qge_32, qeq_32, qlt_37, qle_37, qgt_37, qge_37, qeq_37, qlt_40, qle_40, qgt_40, qge_40, qeq_40, qlt_42, qle_42, qgt_42, qge_42, qeq_42, qlt_43, qle_43, qgt_43, qge_43, qeq_43, qlt_45, qle_45, qgt_45, qge_45, qeq_45, qlt_47, qle_47, qgt_47, qge_47, qeq_47, qlt_48, qle_48, qgt_48, qge_48, qeq_48, qlt_57, qle_57, qgt_57, qge_57, qeq_57, qlt_59, qle_59, qgt_59, qge_59, qeq_59, qlt_60, qle_60, qgt_60, qge_60, qeq_60, qlt_61, qle_61, qgt_61, qge_61, qeq_61, qlt_62, qle_62, qgt_62, qge_62, qeq_62, qlt_64, qle_64, qgt_64, qge_64, qeq_64, qlt_91, qle_91, qgt_91, qge_91, qeq_91, qlt_93, qle_93, qgt_93, qge_93, qeq_93, qlt_97, qle_97, qgt_97, qge_97, qeq_97, qlt_122, qle_122, qgt_122, qge_122, qeq_122, qlt_400, qle_400, qgt_400, qge_400, qeq_400, qlt_999, qle_999, qgt_999, qge_999, qeq_999, qlt_0, qle_0, qgt_0, qge_0, qeq_0, qltm, qeqm, ↓reduceIte, Option.bind_some, not_true_eq_false, not_false_eq_true, and_true, true_and, and_false, false_and, or_false, false_or, or_true, true_or, Bool.false_eq_true, reduceCtorEq, n1]) (by
    rintro n X' ⟨h48, hf⟩
    have e1' : X'.1 1 1 = nI (N 0 1) := (hf _ _ (by omega)).trans e1
    refine ⟨X', ?_, h48, hf⟩
    show f11_within_L4 (nI t) (nI g) (nI s) (n + 1) X' (nI (N 0 1)) = _
    rw [f11_within_L4]
    simp (disch := omega) only [e1', nI_ltI, nI_leI, nI_eq, nI_clamp, nI_1, nI_add, nI_mul, inb_n, irm_n, nI_div, nI_m6, nI_d6, irm_6, qlt_1, qle_1, qgt_1, qge_1, qeq_1, qlt_2, qle_2, qgt_2, qge_2, qeq_2, qlt_3, qle_3, qgt_3, qge_3, qeq_3, qlt_4, qle_4, qgt_4, qge_4, qeq_4, qlt_5, qle_5, qgt_5, qge_5, qeq_5, qlt_6, qle_6, qgt_6, qge_6, qeq_6, qlt_7, qle_7, qgt_7, qge_7, qeq_7, qlt_8, qle_8, qgt_8, qge_8, qeq_8, qlt_9, qle_9, qgt_9, qge_9, qeq_9, qlt_10, qle_10, qgt_10, qge_10, qeq_10, qlt_12, qle_12, qgt_12, qge_12, qeq_12, qlt_16, qle_16, qgt_16, qge_16, qeq_16, qlt_20, qle_20, qgt_20, qge_20, qeq_20, qlt_24, qle_24, qgt_24, qge_24, qeq_24, qlt_30, qle_30, qgt_30, qge_30, qeq_30, qlt_32, qle_32, qgt_32, qge_32, qeq_32, qlt_37, qle_37, qgt_37, qge_37, qeq_37, qlt_40, qle_40, qgt_40, qge_40, qeq_40, qlt_42, qle_42, qgt_42, qge_42, qeq_42, qlt_43, qle_43, qgt_43, qge_43, qeq_43, qlt_45, qle_45, qgt_45, qge_45, qeq_45, qlt_47, qle_47, qgt_47, qge_47, qeq_47, qlt_48, qle_48, qgt_48, qge_48, qeq_48, qlt_57, qle_57, qgt_57, qge_57, qeq_57, qlt_59, qle_59, qgt_59, qge_59, qeq_59, qlt_60, qle_60, qgt_60, qge_60, qeq_60, qlt_61, qle_61, qgt_61, qge_61, qeq_61, qlt_62, qle_62, qgt_62, qge_62, qeq_62, qlt_64, qle_64, qgt_64, qge_64, qeq_64, qlt_91, qle_91, qgt_91, qge_91, qeq_91, qlt_93, qle_93, qgt_93, qge_93, qeq_93, qlt_97, qle_97, qgt_97, qge_97, qeq_97, qlt_122, qle_122, qgt_122, qge_122, qeq_122, qlt_400, qle_400, qgt_400, qge_400, qeq_400, qlt_999, qle_999, qgt_999, qge_999, qeq_999, qlt_0, qle_0, qgt_0, qge_0, qeq_0, qltm, qeqm, ↓reduceIte, Option.bind_some, not_true_eq_false, not_false_eq_true, and_true, true_and, and_false, false_and, or_false, false_or, or_true, true_or, Bool.false_eq_true, reduceCtorEq, Nat.le_refl]) jF 0 X (Nat.zero_le _) (by show _ < 5000; omega) ⟨fun x hx => by rw [hr x hx]; split <;> rfl, fun _ _ _ => rfl⟩
theorem r_wi3 {X : jS} {g t : Nat} {N : mN} {r : Nat → Bool} (hN : NOk N) (h : HIs (hV X.1) N) (hg : g < N 0 2) (ht : t ≤ 999) (hr : ∀ x, x < 64 → X.1 48 x = eR r x) : ∃ X1, f11_within_L3 (nI t) (nI g) jF X 63 = some X1 ∧ (∀ x, x < 64 → X1.1 48 x = eR (wiD N t g r 64) x) ∧ (∀ a i, a ≠ 48 → X1.1 a i = X.1 a i) := by
  obtain ⟨A, p1, p2⟩ := lp_dn (Post := fun X1 : jS => (∀ x, x < 64 → X1.1 48 x = eR (wiD N t g r 64) x) ∧ (∀ a i, a ≠ 48 → X1.1 a i = X.1 a i)) (fun n k (X' : jS) => f11_within_L3 (nI t) (nI g) n X' (nI k - 1)) (fun k X1 => k ≤ 64 ∧ (∀ x, x < 64 → X1.1 48 x = eR (wiD N t g r (64 - k)) x) ∧ (∀ a i, a ≠ 48 → X1.1 a i = X.1 a i)) (by
    rintro n k X' ⟨hk, h48, hf⟩
    left
    have hk64 : k < 64 := by omega
    have e1 : nI k + -1 = nI k - 1 := by grind
    have e5 : 64 - k = (64 - (k + 1)) + 1 := by omega
    have e6 : 63 - (64 - (k + 1)) = k := by omega
    obtain ⟨X3, t1, t2, t3⟩ := r_wi4 (X := X') (g := g) (s := k) (t := t) hN (HV_mono h (fun a i u1 u2 => hf a i (by omega))) hg hk64 ht h48
    refine ⟨X3, ?_, by omega, ?_, fun a i ha => (t3 a i ha).trans (hf a i ha)⟩
    · show f11_within_L3 (nI t) (nI g) (n + 1) X' (nI (k + 1) - 1) = f11_within_L3 (nI t) (nI g) n X3 (nI k - 1)
      rw [f11_within_L3, nI_pred]
      simp (disch := omega) only [t1, nI_ltI, nI_leI, nI_eq, nI_clamp, nI_1, nI_add, nI_mul, inb_n, irm_n, nI_div, nI_m6, nI_d6, irm_6, qlt_1, qle_1, qgt_1, qge_1, qeq_1, qlt_2, qle_2, qgt_2, qge_2, qeq_2, qlt_3, qle_3, qgt_3, qge_3, qeq_3, qlt_4, qle_4, qgt_4, qge_4, qeq_4, qlt_5, qle_5, qgt_5, qge_5, qeq_5, qlt_6, qle_6, qgt_6, qge_6, qeq_6, qlt_7, qle_7, qgt_7, qge_7, qeq_7, qlt_8, qle_8, qgt_8, qge_8, qeq_8, qlt_9, qle_9, qgt_9, qge_9, qeq_9, qlt_10, qle_10, qgt_10, qge_10, qeq_10, qlt_12, qle_12, qgt_12, qge_12, qeq_12, qlt_16, qle_16, qgt_16, qge_16, qeq_16, qlt_20, qle_20, qgt_20, qge_20, qeq_20, qlt_24, qle_24, qgt_24, qge_24, qeq_24, qlt_30, qle_30, qgt_30, qge_30, qeq_30, qlt_32, qle_32, qgt_32, qge_32, qeq_32, qlt_37, qle_37, qgt_37, qge_37, qeq_37, qlt_40, qle_40, qgt_40, qge_40, qeq_40, qlt_42, qle_42, qgt_42, qge_42, qeq_42, qlt_43, qle_43, qgt_43, qge_43, qeq_43, qlt_45, qle_45, qgt_45, qge_45, qeq_45, qlt_47, qle_47, qgt_47, qge_47, qeq_47, qlt_48, qle_48, qgt_48, qge_48, qeq_48, qlt_57, qle_57, qgt_57, qge_57, qeq_57, qlt_59, qle_59, qgt_59, qge_59, qeq_59, qlt_60, qle_60, qgt_60, qge_60, qeq_60, qlt_61, qle_61, qgt_61, qge_61, qeq_61, qlt_62, qle_62, qgt_62, qge_62, qeq_62, qlt_64, qle_64, qgt_64, qge_64, qeq_64, qlt_91, qle_91, qgt_91, qge_91, qeq_91, qlt_93, qle_93, qgt_93, qge_93, qeq_93, qlt_97, qle_97, qgt_97, qge_97, qeq_97, qlt_122, qle_122, qgt_122, qge_122, qeq_122, qlt_400, qle_400, qgt_400, qge_400, qeq_400, qlt_999, qle_999, qgt_999, qge_999, qeq_999, qlt_0, qle_0, qgt_0, qge_0, qeq_0, qltm, qeqm, ↓reduceIte, Option.bind_some, not_true_eq_false, not_false_eq_true, and_true, true_and, and_false, false_and, or_false, false_or, or_true, true_or, Bool.false_eq_true, reduceCtorEq, e1]
    · have hD : wiD N t g r (64 - k) = if (N 0 4).testBit g = true ∧ wiD N t g r (64 - (k + 1)) k = true then wiC N t g k (wiD N t g r (64 - (k + 1))) (N 0 1) else wiD N t g r (64 - (k + 1)) := by
        rw [e5, wiD, e6]
      rw [hD]; exact t2) (by
    rintro n X' ⟨hk, h48, hf⟩
    refine ⟨X', ?_, h48, hf⟩
    show f11_within_L3 (nI t) (nI g) (n + 1) X' (nI 0 - 1) = _
    rw [f11_within_L3, nI_0m, if_pos (by decide)]) jF 64 X (by show _ < 5000; omega) ⟨Nat.le_refl _, hr, fun _ _ _ => rfl⟩
  exact ⟨A, p1, p2⟩
theorem r_wi2 {X : jS} {t : Nat} {N : mN} (hN : NOk N) (h : HIs (hV X.1) N) (ht : t ≤ 999) (hr : ∀ x, x < 64 → X.1 48 x = eR (wiG N t 0) x) : ∃ X1, f11_within_L2 (nI t) jF X 0 = some X1 ∧ (∀ x, x < 64 → X1.1 48 x = eR (wiG N t (N 0 2)) x) ∧ (∀ a i, a ≠ 48 → X1.1 a i = X.1 a i) := by
  have hG := hN.2.2.1
  have e2 := HV2 h
  exact lp_up (G := N 0 2) (Post := fun X1 : jS => (∀ x, x < 64 → X1.1 48 x = eR (wiG N t (N 0 2)) x) ∧ (∀ a i, a ≠ 48 → X1.1 a i = X.1 a i)) (fun n k (X' : jS) => f11_within_L2 (nI t) n X' (nI k)) (fun k X1 => (∀ x, x < 64 → X1.1 48 x = eR (wiG N t k) x) ∧ (∀ a i, a ≠ 48 → X1.1 a i = X.1 a i)) (by
    rintro n k X' hk ⟨h48, hf⟩
    left
    have e2' : X'.1 1 2 = nI (N 0 2) := (hf _ _ (by omega)).trans e2
    have n1 : ¬ N 0 2 ≤ k := by omega
    obtain ⟨X3, t1, t2, t3⟩ := r_wi3 (X := X') (g := k) (t := t) hN (HV_mono h (fun a i u1 u2 => hf a i (by omega))) hk ht h48
    refine ⟨X3, ?_, t2, fun a i ha => (t3 a i ha).trans (hf a i ha)⟩
    show f11_within_L2 (nI t) (n + 1) X' (nI k) = _
    rw [f11_within_L2]
    simp (disch := omega) only [e2', t1, nI_ltI, nI_leI, nI_eq, nI_clamp, nI_1, nI_add, nI_mul, inb_n, irm_n, nI_div, nI_m6, nI_d6, irm_6, qlt_1, qle_1, qgt_1, qge_1, qeq_1, qlt_2, qle_2, qgt_2, qge_2, qeq_2, qlt_3, qle_3, qgt_3, qge_3, qeq_3, qlt_4, qle_4, qgt_4, qge_4, qeq_4, qlt_5, qle_5, qgt_5, qge_5, qeq_5, qlt_6, qle_6, qgt_6, qge_6, qeq_6, qlt_7, qle_7, qgt_7, qge_7, qeq_7, qlt_8, qle_8, qgt_8, qge_8, qeq_8, qlt_9, qle_9, qgt_9, qge_9, qeq_9, qlt_10, qle_10, qgt_10, qge_10, qeq_10, qlt_12, qle_12, qgt_12, qge_12, qeq_12, qlt_16, qle_16, qgt_16, qge_16, qeq_16, qlt_20, qle_20, qgt_20, qge_20, qeq_20, qlt_24, qle_24, qgt_24, qge_24, qeq_24, qlt_30, qle_30, qgt_30, qge_30, qeq_30, qlt_32, qle_32, qgt_32, qge_32, qeq_32, qlt_37, qle_37, qgt_37, qge_37, qeq_37, qlt_40, qle_40, qgt_40, qge_40, qeq_40, qlt_42, qle_42, qgt_42, qge_42, qeq_42, qlt_43, qle_43, qgt_43, qge_43, qeq_43, qlt_45, qle_45, qgt_45, qge_45, qeq_45, qlt_47, qle_47, qgt_47, qge_47, qeq_47, qlt_48, qle_48, qgt_48, qge_48, qeq_48, qlt_57, qle_57, qgt_57, qge_57, qeq_57, qlt_59, qle_59, qgt_59, qge_59, qeq_59, qlt_60, qle_60, qgt_60, qge_60, qeq_60, qlt_61, qle_61, qgt_61, qge_61, qeq_61, qlt_62, qle_62, qgt_62, qge_62, qeq_62, qlt_64, qle_64, qgt_64, qge_64, qeq_64, qlt_91, qle_91, qgt_91, qge_91, qeq_91, qlt_93, qle_93, qgt_93, qge_93, qeq_93, qlt_97, qle_97, qgt_97, qge_97, qeq_97, qlt_122, qle_122, qgt_122, qge_122, qeq_122, qlt_400, qle_400, qgt_400, qge_400, qeq_400, qlt_999, qle_999, qgt_999, qge_999, qeq_999, qlt_0, qle_0, qgt_0, qge_0, qeq_0, qltm, qeqm, ↓reduceIte, Option.bind_some, not_true_eq_false, not_false_eq_true, and_true, true_and, and_false, false_and, or_false, false_or, or_true, true_or, Bool.false_eq_true, reduceCtorEq, n1]) (by
    rintro n X' ⟨h48, hf⟩
    have e2' : X'.1 1 2 = nI (N 0 2) := (hf _ _ (by omega)).trans e2
    refine ⟨X', ?_, h48, hf⟩
    show f11_within_L2 (nI t) (n + 1) X' (nI (N 0 2)) = _
    rw [f11_within_L2]
    simp (disch := omega) only [e2', nI_ltI, nI_leI, nI_eq, nI_clamp, nI_1, nI_add, nI_mul, inb_n, irm_n, nI_div, nI_m6, nI_d6, irm_6, qlt_1, qle_1, qgt_1, qge_1, qeq_1, qlt_2, qle_2, qgt_2, qge_2, qeq_2, qlt_3, qle_3, qgt_3, qge_3, qeq_3, qlt_4, qle_4, qgt_4, qge_4, qeq_4, qlt_5, qle_5, qgt_5, qge_5, qeq_5, qlt_6, qle_6, qgt_6, qge_6, qeq_6, qlt_7, qle_7, qgt_7, qge_7, qeq_7, qlt_8, qle_8, qgt_8, qge_8, qeq_8, qlt_9, qle_9, qgt_9, qge_9, qeq_9, qlt_10, qle_10, qgt_10, qge_10, qeq_10, qlt_12, qle_12, qgt_12, qge_12, qeq_12, qlt_16, qle_16, qgt_16, qge_16, qeq_16, qlt_20, qle_20, qgt_20, qge_20, qeq_20, qlt_24, qle_24, qgt_24, qge_24, qeq_24, qlt_30, qle_30, qgt_30, qge_30, qeq_30, qlt_32, qle_32, qgt_32, qge_32, qeq_32, qlt_37, qle_37, qgt_37, qge_37, qeq_37, qlt_40, qle_40, qgt_40, qge_40, qeq_40, qlt_42, qle_42, qgt_42, qge_42, qeq_42, qlt_43, qle_43, qgt_43, qge_43, qeq_43, qlt_45, qle_45, qgt_45, qge_45, qeq_45, qlt_47, qle_47, qgt_47, qge_47, qeq_47, qlt_48, qle_48, qgt_48, qge_48, qeq_48, qlt_57, qle_57, qgt_57, qge_57, qeq_57, qlt_59, qle_59, qgt_59, qge_59, qeq_59, qlt_60, qle_60, qgt_60, qge_60, qeq_60, qlt_61, qle_61, qgt_61, qge_61, qeq_61, qlt_62, qle_62, qgt_62, qge_62, qeq_62, qlt_64, qle_64, qgt_64, qge_64, qeq_64, qlt_91, qle_91, qgt_91, qge_91, qeq_91, qlt_93, qle_93, qgt_93, qge_93, qeq_93, qlt_97, qle_97, qgt_97, qge_97, qeq_97, qlt_122, qle_122, qgt_122, qge_122, qeq_122, qlt_400, qle_400, qgt_400, qge_400, qeq_400, qlt_999, qle_999, qgt_999, qge_999, qeq_999, qlt_0, qle_0, qgt_0, qge_0, qeq_0, qltm, qeqm, ↓reduceIte, Option.bind_some, not_true_eq_false, not_false_eq_true, and_true, true_and, and_false, false_and, or_false, false_or, or_true, true_or, Bool.false_eq_true, reduceCtorEq, Nat.le_refl]) jF 0 X (Nat.zero_le _) (by show _ < 5000; omega) ⟨hr, fun _ _ _ => rfl⟩
theorem r_wi1 {X : jS} {x : Int32} {N : mN} {t : Nat} : ∃ X1, f11_within_L1 x jF X 0 = some X1 ∧ (∀ s, s < 64 → X1.1 48 s = eR (wiG N t 0) s) ∧ (∀ a i, a ≠ 48 → X1.1 a i = X.1 a i) := by
  exact lp_up (G := 64) (Post := fun X1 : jS => (∀ s, s < 64 → X1.1 48 s = eR (wiG N t 0) s) ∧ (∀ a i, a ≠ 48 → X1.1 a i = X.1 a i)) (fun n k (X' : jS) => f11_within_L1 x n X' (nI k)) (fun k X1 => (∀ s, s < k → X1.1 48 s = eR (wiG N t 0) s) ∧ (∀ a i, a ≠ 48 → X1.1 a i = X.1 a i)) (by
    rintro n k X' hk ⟨h48, hf⟩
    left
    have n1 : ¬ 64 ≤ k := by omega
    refine ⟨wI X' 48 k (if nI k = 0 then 0 else -1), ?_, fun s hs => ?_, fun a i ha => by rw [wI_ne ha]; exact hf a i ha⟩
    · show f11_within_L1 x (n + 1) X' (nI k) = _
      rw [f11_within_L1]
      simp (disch := omega) only [nI_ltI, nI_leI, nI_eq, nI_clamp, nI_1, nI_add, nI_mul, inb_n, irm_n, nI_div, nI_m6, nI_d6, irm_6, qlt_1, qle_1, qgt_1, qge_1, qeq_1, qlt_2, qle_2, qgt_2, qge_2, qeq_2, qlt_3, qle_3, qgt_3, qge_3, qeq_3, qlt_4, qle_4, qgt_4, qge_4, qeq_4, qlt_5, qle_5, qgt_5, qge_5, qeq_5, qlt_6, qle_6, qgt_6, qge_6, qeq_6, qlt_7, qle_7, qgt_7, qge_7, qeq_7, qlt_8, qle_8, qgt_8, qge_8, qeq_8, qlt_9, qle_9, qgt_9, qge_9, qeq_9, qlt_10, qle_10, qgt_10, qge_10, qeq_10, qlt_12, qle_12, qgt_12, qge_12, qeq_12, qlt_16, qle_16, qgt_16, qge_16, qeq_16, qlt_20, qle_20, qgt_20, qge_20, qeq_20, qlt_24, qle_24, qgt_24, qge_24, qeq_24, qlt_30, qle_30, qgt_30, qge_30, qeq_30, qlt_32, qle_32, qgt_32, qge_32, qeq_32, qlt_37, qle_37, qgt_37, qge_37, qeq_37, qlt_40, qle_40, qgt_40, qge_40, qeq_40, qlt_42, qle_42, qgt_42, qge_42, qeq_42, qlt_43, qle_43, qgt_43, qge_43, qeq_43, qlt_45, qle_45, qgt_45, qge_45, qeq_45, qlt_47, qle_47, qgt_47, qge_47, qeq_47, qlt_48, qle_48, qgt_48, qge_48, qeq_48, qlt_57, qle_57, qgt_57, qge_57, qeq_57, qlt_59, qle_59, qgt_59, qge_59, qeq_59, qlt_60, qle_60, qgt_60, qge_60, qeq_60, qlt_61, qle_61, qgt_61, qge_61, qeq_61, qlt_62, qle_62, qgt_62, qge_62, qeq_62, qlt_64, qle_64, qgt_64, qge_64, qeq_64, qlt_91, qle_91, qgt_91, qge_91, qeq_91, qlt_93, qle_93, qgt_93, qge_93, qeq_93, qlt_97, qle_97, qgt_97, qge_97, qeq_97, qlt_122, qle_122, qgt_122, qge_122, qeq_122, qlt_400, qle_400, qgt_400, qge_400, qeq_400, qlt_999, qle_999, qgt_999, qge_999, qeq_999, qlt_0, qle_0, qgt_0, qge_0, qeq_0, qltm, qeqm, ↓reduceIte, Option.bind_some, not_true_eq_false, not_false_eq_true, and_true, true_and, and_false, false_and, or_false, false_or, or_true, true_or, Bool.false_eq_true, reduceCtorEq, n1, hk]
    · by_cases e : s = k
      · subst e
        rw [wI_self]
        show _ = eR (fun x => decide (x = 0)) s
        unfold eR
        by_cases e0 : s = 0
        · subst e0; rfl
        · have : ¬ nI s = 0 := fun z => e0 ((qeq_0 (by omega)).mp z)
          simp [e0, this]
      · rw [wI_nj e]; exact h48 s (by omega)) (by
    rintro n X' ⟨h48, hf⟩
    have n1 : 64 ≤ 64 := by omega
    refine ⟨X', ?_, h48, hf⟩
    show f11_within_L1 x (n + 1) X' (nI 64) = _
    rw [f11_within_L1]
    simp (disch := omega) only [nI_ltI, nI_leI, nI_eq, nI_clamp, nI_1, nI_add, nI_mul, inb_n, irm_n, nI_div, nI_m6, nI_d6, irm_6, qlt_1, qle_1, qgt_1, qge_1, qeq_1, qlt_2, qle_2, qgt_2, qge_2, qeq_2, qlt_3, qle_3, qgt_3, qge_3, qeq_3, qlt_4, qle_4, qgt_4, qge_4, qeq_4, qlt_5, qle_5, qgt_5, qge_5, qeq_5, qlt_6, qle_6, qgt_6, qge_6, qeq_6, qlt_7, qle_7, qgt_7, qge_7, qeq_7, qlt_8, qle_8, qgt_8, qge_8, qeq_8, qlt_9, qle_9, qgt_9, qge_9, qeq_9, qlt_10, qle_10, qgt_10, qge_10, qeq_10, qlt_12, qle_12, qgt_12, qge_12, qeq_12, qlt_16, qle_16, qgt_16, qge_16, qeq_16, qlt_20, qle_20, qgt_20, qge_20, qeq_20, qlt_24, qle_24, qgt_24, qge_24, qeq_24, qlt_30, qle_30, qgt_30, qge_30, qeq_30, qlt_32, qle_32, qgt_32, qge_32, qeq_32, qlt_37, qle_37, qgt_37, qge_37, qeq_37, qlt_40, qle_40, qgt_40, qge_40, qeq_40, qlt_42, qle_42, qgt_42, qge_42, qeq_42, qlt_43, qle_43, qgt_43, qge_43, qeq_43, qlt_45, qle_45, qgt_45, qge_45, qeq_45, qlt_47, qle_47, qgt_47, qge_47, qeq_47, qlt_48, qle_48, qgt_48, qge_48, qeq_48, qlt_57, qle_57, qgt_57, qge_57, qeq_57, qlt_59, qle_59, qgt_59, qge_59, qeq_59, qlt_60, qle_60, qgt_60, qge_60, qeq_60, qlt_61, qle_61, qgt_61, qge_61, qeq_61, qlt_62, qle_62, qgt_62, qge_62, qeq_62, qlt_64, qle_64, qgt_64, qge_64, qeq_64, qlt_91, qle_91, qgt_91, qge_91, qeq_91, qlt_93, qle_93, qgt_93, qge_93, qeq_93, qlt_97, qle_97, qgt_97, qge_97, qeq_97, qlt_122, qle_122, qgt_122, qge_122, qeq_122, qlt_400, qle_400, qgt_400, qge_400, qeq_400, qlt_999, qle_999, qgt_999, qge_999, qeq_999, qlt_0, qle_0, qgt_0, qge_0, qeq_0, qltm, qeqm, ↓reduceIte, Option.bind_some, not_true_eq_false, not_false_eq_true, and_true, true_and, and_false, false_and, or_false, false_or, or_true, true_or, Bool.false_eq_true, reduceCtorEq, n1]) jF 0 X (Nat.zero_le _) (by show _ < 5000; omega) ⟨fun s hs => by omega, fun _ _ _ => rfl⟩
theorem r_wi5 {X : jS} {r : Nat → Bool} (hr : ∀ x, x < 64 → X.1 48 x = eR r x) : f11_within_L5 X jF 0 0 = some (nI (mxP r 64)) := by
  obtain ⟨v, v1, v2⟩ := lp_up (G := 64) (Post := fun v : Int32 => v = nI (mxP r 64)) (fun n k (f : Int32) => f11_within_L5 X n f (nI k)) (fun k f => f = nI (mxP r k)) (by
    rintro n k f hk hf
    subst hf
    left
    have n1 : ¬ 64 ≤ k := by omega
    have hm := mxP_le (r := r) k (by omega)
    have hp := pcn_le0 k (by omega)
    refine ⟨nI (mxP r (k + 1)), ?_, rfl⟩
    show f11_within_L5 X (n + 1) (nI (mxP r k)) (nI k) = _
    rw [f11_within_L5]
    by_cases hk1 : r k = true
    · have ex : X.1 48 k = nI (pcn k) := by rw [hr k hk, eR_t hk1]
      have em : mxP r (k + 1) = max (mxP r k) (pcn k) := by rw [mxP, if_pos hk1]
      by_cases c : pcn k ≤ mxP r k
      · rw [em, Nat.max_eq_left c]
        simp (disch := omega) only [ex, nI_ltI, nI_leI, nI_eq, nI_clamp, nI_1, nI_add, nI_mul, inb_n, irm_n, nI_div, nI_m6, nI_d6, irm_6, qlt_1, qle_1, qgt_1, qge_1, qeq_1, qlt_2, qle_2, qgt_2, qge_2, qeq_2, qlt_3, qle_3, qgt_3, qge_3, qeq_3, qlt_4, qle_4, qgt_4, qge_4, qeq_4, qlt_5, qle_5, qgt_5, qge_5, qeq_5, qlt_6, qle_6, qgt_6, qge_6, qeq_6, qlt_7, qle_7, qgt_7, qge_7, qeq_7, qlt_8, qle_8, qgt_8, qge_8, qeq_8, qlt_9, qle_9, qgt_9, qge_9, qeq_9, qlt_10, qle_10, qgt_10, qge_10, qeq_10, qlt_12, qle_12, qgt_12, qge_12, qeq_12, qlt_16, qle_16, qgt_16, qge_16, qeq_16, qlt_20, qle_20, qgt_20, qge_20, qeq_20, qlt_24, qle_24, qgt_24, qge_24, qeq_24, qlt_30, qle_30, qgt_30, qge_30, qeq_30, qlt_32, qle_32, qgt_32, qge_32, qeq_32, qlt_37, qle_37, qgt_37, qge_37, qeq_37, qlt_40, qle_40, qgt_40, qge_40, qeq_40, qlt_42, qle_42, qgt_42, qge_42, qeq_42, qlt_43, qle_43, qgt_43, qge_43, qeq_43, qlt_45, qle_45, qgt_45, qge_45, qeq_45, qlt_47, qle_47, qgt_47, qge_47, qeq_47, qlt_48, qle_48, qgt_48, qge_48, qeq_48, qlt_57, qle_57, qgt_57, qge_57, qeq_57, qlt_59, qle_59, qgt_59, qge_59, qeq_59, qlt_60, qle_60, qgt_60, qge_60, qeq_60, qlt_61, qle_61, qgt_61, qge_61, qeq_61, qlt_62, qle_62, qgt_62, qge_62, qeq_62, qlt_64, qle_64, qgt_64, qge_64, qeq_64, qlt_91, qle_91, qgt_91, qge_91, qeq_91, qlt_93, qle_93, qgt_93, qge_93, qeq_93, qlt_97, qle_97, qgt_97, qge_97, qeq_97, qlt_122, qle_122, qgt_122, qge_122, qeq_122, qlt_400, qle_400, qgt_400, qge_400, qeq_400, qlt_999, qle_999, qgt_999, qge_999, qeq_999, qlt_0, qle_0, qgt_0, qge_0, qeq_0, qltm, qeqm, ↓reduceIte, Option.bind_some, not_true_eq_false, not_false_eq_true, and_true, true_and, and_false, false_and, or_false, false_or, or_true, true_or, Bool.false_eq_true, reduceCtorEq, n1, hk, c]
      · rw [em, Nat.max_eq_right (by omega)]
        simp (disch := omega) only [ex, nI_ltI, nI_leI, nI_eq, nI_clamp, nI_1, nI_add, nI_mul, inb_n, irm_n, nI_div, nI_m6, nI_d6, irm_6, qlt_1, qle_1, qgt_1, qge_1, qeq_1, qlt_2, qle_2, qgt_2, qge_2, qeq_2, qlt_3, qle_3, qgt_3, qge_3, qeq_3, qlt_4, qle_4, qgt_4, qge_4, qeq_4, qlt_5, qle_5, qgt_5, qge_5, qeq_5, qlt_6, qle_6, qgt_6, qge_6, qeq_6, qlt_7, qle_7, qgt_7, qge_7, qeq_7, qlt_8, qle_8, qgt_8, qge_8, qeq_8, qlt_9, qle_9, qgt_9, qge_9, qeq_9, qlt_10, qle_10, qgt_10, qge_10, qeq_10, qlt_12, qle_12, qgt_12, qge_12, qeq_12, qlt_16, qle_16, qgt_16, qge_16, qeq_16, qlt_20, qle_20, qgt_20, qge_20, qeq_20, qlt_24, qle_24, qgt_24, qge_24, qeq_24, qlt_30, qle_30, qgt_30, qge_30, qeq_30, qlt_32, qle_32, qgt_32, qge_32, qeq_32, qlt_37, qle_37, qgt_37, qge_37, qeq_37, qlt_40, qle_40, qgt_40, qge_40, qeq_40, qlt_42, qle_42, qgt_42, qge_42, qeq_42, qlt_43, qle_43, qgt_43, qge_43, qeq_43, qlt_45, qle_45, qgt_45, qge_45, qeq_45, qlt_47, qle_47, qgt_47, qge_47, qeq_47, qlt_48, qle_48, qgt_48, qge_48, qeq_48, qlt_57, qle_57, qgt_57, qge_57, qeq_57, qlt_59, qle_59, qgt_59, qge_59, qeq_59, qlt_60, qle_60, qgt_60, qge_60, qeq_60, qlt_61, qle_61, qgt_61, qge_61, qeq_61, qlt_62, qle_62, qgt_62, qge_62, qeq_62, qlt_64, qle_64, qgt_64, qge_64, qeq_64, qlt_91, qle_91, qgt_91, qge_91, qeq_91, qlt_93, qle_93, qgt_93, qge_93, qeq_93, qlt_97, qle_97, qgt_97, qge_97, qeq_97, qlt_122, qle_122, qgt_122, qge_122, qeq_122, qlt_400, qle_400, qgt_400, qge_400, qeq_400, qlt_999, qle_999, qgt_999, qge_999, qeq_999, qlt_0, qle_0, qgt_0, qge_0, qeq_0, qltm, qeqm, ↓reduceIte, Option.bind_some, not_true_eq_false, not_false_eq_true, and_true, true_and, and_false, false_and, or_false, false_or, or_true, true_or, Bool.false_eq_true, reduceCtorEq, n1, hk, c]
    · have ex : X.1 48 k = -1 := by rw [hr k hk, eR_f hk1]
      have em : mxP r (k + 1) = mxP r k := by rw [mxP, if_neg hk1]
      have c0 : 0 ≤ nI (mxP r k) := nI_pos' (by omega)
      have c : (-1 : Int32) ≤ nI (mxP r k) := by clear ex hr; generalize nI (mxP r k) = y at c0; grind
      rw [em]
      simp (disch := omega) only [ex, nI_ltI, nI_leI, nI_eq, nI_clamp, nI_1, nI_add, nI_mul, inb_n, irm_n, nI_div, nI_m6, nI_d6, irm_6, qlt_1, qle_1, qgt_1, qge_1, qeq_1, qlt_2, qle_2, qgt_2, qge_2, qeq_2, qlt_3, qle_3, qgt_3, qge_3, qeq_3, qlt_4, qle_4, qgt_4, qge_4, qeq_4, qlt_5, qle_5, qgt_5, qge_5, qeq_5, qlt_6, qle_6, qgt_6, qge_6, qeq_6, qlt_7, qle_7, qgt_7, qge_7, qeq_7, qlt_8, qle_8, qgt_8, qge_8, qeq_8, qlt_9, qle_9, qgt_9, qge_9, qeq_9, qlt_10, qle_10, qgt_10, qge_10, qeq_10, qlt_12, qle_12, qgt_12, qge_12, qeq_12, qlt_16, qle_16, qgt_16, qge_16, qeq_16, qlt_20, qle_20, qgt_20, qge_20, qeq_20, qlt_24, qle_24, qgt_24, qge_24, qeq_24, qlt_30, qle_30, qgt_30, qge_30, qeq_30, qlt_32, qle_32, qgt_32, qge_32, qeq_32, qlt_37, qle_37, qgt_37, qge_37, qeq_37, qlt_40, qle_40, qgt_40, qge_40, qeq_40, qlt_42, qle_42, qgt_42, qge_42, qeq_42, qlt_43, qle_43, qgt_43, qge_43, qeq_43, qlt_45, qle_45, qgt_45, qge_45, qeq_45, qlt_47, qle_47, qgt_47, qge_47, qeq_47, qlt_48, qle_48, qgt_48, qge_48, qeq_48, qlt_57, qle_57, qgt_57, qge_57, qeq_57, qlt_59, qle_59, qgt_59, qge_59, qeq_59, qlt_60, qle_60, qgt_60, qge_60, qeq_60, qlt_61, qle_61, qgt_61, qge_61, qeq_61, qlt_62, qle_62, qgt_62, qge_62, qeq_62, qlt_64, qle_64, qgt_64, qge_64, qeq_64, qlt_91, qle_91, qgt_91, qge_91, qeq_91, qlt_93, qle_93, qgt_93, qge_93, qeq_93, qlt_97, qle_97, qgt_97, qge_97, qeq_97, qlt_122, qle_122, qgt_122, qge_122, qeq_122, qlt_400, qle_400, qgt_400, qge_400, qeq_400, qlt_999, qle_999, qgt_999, qge_999, qeq_999, qlt_0, qle_0, qgt_0, qge_0, qeq_0, qltm, qeqm, ↓reduceIte, Option.bind_some, not_true_eq_false, not_false_eq_true, and_true, true_and, and_false, false_and, or_false, false_or, or_true, true_or, Bool.false_eq_true, reduceCtorEq, n1, hk, c]) (by
    rintro n f hf
    have n1 : 64 ≤ 64 := by omega
    refine ⟨f, ?_, hf⟩
    show f11_within_L5 X (n + 1) f (nI 64) = _
    rw [f11_within_L5]
    simp (disch := omega) only [nI_ltI, nI_leI, nI_eq, nI_clamp, nI_1, nI_add, nI_mul, inb_n, irm_n, nI_div, nI_m6, nI_d6, irm_6, qlt_1, qle_1, qgt_1, qge_1, qeq_1, qlt_2, qle_2, qgt_2, qge_2, qeq_2, qlt_3, qle_3, qgt_3, qge_3, qeq_3, qlt_4, qle_4, qgt_4, qge_4, qeq_4, qlt_5, qle_5, qgt_5, qge_5, qeq_5, qlt_6, qle_6, qgt_6, qge_6, qeq_6, qlt_7, qle_7, qgt_7, qge_7, qeq_7, qlt_8, qle_8, qgt_8, qge_8, qeq_8, qlt_9, qle_9, qgt_9, qge_9, qeq_9, qlt_10, qle_10, qgt_10, qge_10, qeq_10, qlt_12, qle_12, qgt_12, qge_12, qeq_12, qlt_16, qle_16, qgt_16, qge_16, qeq_16, qlt_20, qle_20, qgt_20, qge_20, qeq_20, qlt_24, qle_24, qgt_24, qge_24, qeq_24, qlt_30, qle_30, qgt_30, qge_30, qeq_30, qlt_32, qle_32, qgt_32, qge_32, qeq_32, qlt_37, qle_37, qgt_37, qge_37, qeq_37, qlt_40, qle_40, qgt_40, qge_40, qeq_40, qlt_42, qle_42, qgt_42, qge_42, qeq_42, qlt_43, qle_43, qgt_43, qge_43, qeq_43, qlt_45, qle_45, qgt_45, qge_45, qeq_45, qlt_47, qle_47, qgt_47, qge_47, qeq_47, qlt_48, qle_48, qgt_48, qge_48, qeq_48, qlt_57, qle_57, qgt_57, qge_57, qeq_57, qlt_59, qle_59, qgt_59, qge_59, qeq_59, qlt_60, qle_60, qgt_60, qge_60, qeq_60, qlt_61, qle_61, qgt_61, qge_61, qeq_61, qlt_62, qle_62, qgt_62, qge_62, qeq_62, qlt_64, qle_64, qgt_64, qge_64, qeq_64, qlt_91, qle_91, qgt_91, qge_91, qeq_91, qlt_93, qle_93, qgt_93, qge_93, qeq_93, qlt_97, qle_97, qgt_97, qge_97, qeq_97, qlt_122, qle_122, qgt_122, qge_122, qeq_122, qlt_400, qle_400, qgt_400, qge_400, qeq_400, qlt_999, qle_999, qgt_999, qge_999, qeq_999, qlt_0, qle_0, qgt_0, qge_0, qeq_0, qltm, qeqm, ↓reduceIte, Option.bind_some, not_true_eq_false, not_false_eq_true, and_true, true_and, and_false, false_and, or_false, false_or, or_true, true_or, Bool.false_eq_true, reduceCtorEq, n1]) jF 0 0 (Nat.zero_le _) (by show _ < 5000; omega) rfl
  have v1' : f11_within_L5 X jF 0 0 = some v := v1
  rw [v1', v2]
theorem c_wi1 {T : jT} {S : jS} {t : Nat} {N : mN} (hN : NOk N) (h : HIs (hC S (100 + 8)) N) (ht : t ≤ 999) (hr : ∀ x, x < 64 → S.1 82 x = eB (wiG N t 0) x) : ∃ A, f8_mostWithin_L1 T (100 + 8) (nI t) jF S 0 0 = some A ∧ A.2 = nI (mxP (wiG N t (N 0 2)) 64) ∧ (∀ a i, a ≠ 82 → A.1.1 a i = S.1 a i) := by
  have hG := hN.2.2.1
  obtain ⟨A, p1, p2⟩ := lp_up (G := N 0 2) (Post := fun A : jS × Int32 => A.2 = nI (mxP (wiG N t (N 0 2)) 64) ∧ (∀ a i, a ≠ 82 → A.1.1 a i = S.1 a i)) (fun n k (A : jS × Int32) => f8_mostWithin_L1 T (100 + 8) (nI t) n A.1 A.2 (nI k)) (fun k A => A.2 = nI (mxP (wiG N t k) 64) ∧ (∀ x, x < 64 → A.1.1 82 x = eB (wiG N t k) x) ∧ (∀ a i, a ≠ 82 → A.1.1 a i = S.1 a i)) (by
    rintro n k ⟨S2, l4⟩ hk ⟨h4, h82, hf⟩
    left
    have h4' : l4 = nI (mxP (wiG N t k) 64) := h4
    subst h4'
    have hf' : ∀ a i, a ≠ 82 → S2.1 a i = S.1 a i := hf
    have hh : HIs (hC S2 (100 + 8)) N := h.mono (fun a i u1 u2 => hf' a i (by omega))
    have e2 : S2.1 (100 + 8) 2 = nI (N 0 2) := hh.1 2 (by omega) (by omega)
    have n1 : ¬ N 0 2 ≤ k := by omega
    obtain ⟨A, t1, t2, t3, t4⟩ := c_wi2 (T := T) hN hh hk ht h82
    refine ⟨A, ?_, t2, t3, fun a i ha => (t4 a i ha).trans (hf' a i ha)⟩
    show f8_mostWithin_L1 T (100 + 8) (nI t) (n + 1) S2 (nI (mxP (wiG N t k) 64)) (nI k) = _
    rw [f8_mostWithin_L1]
    simp (disch := omega) only [e2, t1, nI_ltI, nI_leI, nI_eq, nI_clamp, nI_1, nI_add, nI_mul, inb_n, irm_n, nI_div, nI_m6, nI_d6, irm_6, qlt_1, qle_1, qgt_1, qge_1, qeq_1, qlt_2, qle_2, qgt_2, qge_2, qeq_2, qlt_3, qle_3, qgt_3, qge_3, qeq_3, qlt_4, qle_4, qgt_4, qge_4, qeq_4, qlt_5, qle_5, qgt_5, qge_5, qeq_5, qlt_6, qle_6, qgt_6, qge_6, qeq_6, qlt_7, qle_7, qgt_7, qge_7, qeq_7, qlt_8, qle_8, qgt_8, qge_8, qeq_8, qlt_9, qle_9, qgt_9, qge_9, qeq_9, qlt_10, qle_10, qgt_10, qge_10, qeq_10, qlt_12, qle_12, qgt_12, qge_12, qeq_12, qlt_16, qle_16, qgt_16, qge_16, qeq_16, qlt_20, qle_20, qgt_20, qge_20, qeq_20, qlt_24, qle_24, qgt_24, qge_24, qeq_24, qlt_30, qle_30, qgt_30, qge_30, qeq_30, qlt_32, qle_32, qgt_32, qge_32, qeq_32, qlt_37, qle_37, qgt_37, qge_37, qeq_37, qlt_40, qle_40, qgt_40, qge_40, qeq_40, qlt_42, qle_42, qgt_42, qge_42, qeq_42, qlt_43, qle_43, qgt_43, qge_43, qeq_43, qlt_45, qle_45, qgt_45, qge_45, qeq_45, qlt_47, qle_47, qgt_47, qge_47, qeq_47, qlt_48, qle_48, qgt_48, qge_48, qeq_48, qlt_57, qle_57, qgt_57, qge_57, qeq_57, qlt_59, qle_59, qgt_59, qge_59, qeq_59, qlt_60, qle_60, qgt_60, qge_60, qeq_60, qlt_61, qle_61, qgt_61, qge_61, qeq_61, qlt_62, qle_62, qgt_62, qge_62, qeq_62, qlt_64, qle_64, qgt_64, qge_64, qeq_64, qlt_91, qle_91, qgt_91, qge_91, qeq_91, qlt_93, qle_93, qgt_93, qge_93, qeq_93, qlt_97, qle_97, qgt_97, qge_97, qeq_97, qlt_122, qle_122, qgt_122, qge_122, qeq_122, qlt_400, qle_400, qgt_400, qge_400, qeq_400, qlt_999, qle_999, qgt_999, qge_999, qeq_999, qlt_0, qle_0, qgt_0, qge_0, qeq_0, qltm, qeqm, ↓reduceIte, Option.bind_some, not_true_eq_false, not_false_eq_true, and_true, true_and, and_false, false_and, or_false, false_or, or_true, true_or, Bool.false_eq_true, reduceCtorEq, n1]) (by
    rintro n ⟨S2, l4⟩ ⟨h4, h82, hf⟩
    have hf' : ∀ a i, a ≠ 82 → S2.1 a i = S.1 a i := hf
    have e2 : S2.1 (100 + 8) 2 = nI (N 0 2) := (hf' _ _ (by omega)).trans (h.1 2 (by omega) (by omega))
    refine ⟨(S2, l4), ?_, h4, hf⟩
    show f8_mostWithin_L1 T (100 + 8) (nI t) (n + 1) S2 l4 (nI (N 0 2)) = _
    rw [f8_mostWithin_L1]
    simp (disch := omega) only [e2, nI_ltI, nI_leI, nI_eq, nI_clamp, nI_1, nI_add, nI_mul, inb_n, irm_n, nI_div, nI_m6, nI_d6, irm_6, qlt_1, qle_1, qgt_1, qge_1, qeq_1, qlt_2, qle_2, qgt_2, qge_2, qeq_2, qlt_3, qle_3, qgt_3, qge_3, qeq_3, qlt_4, qle_4, qgt_4, qge_4, qeq_4, qlt_5, qle_5, qgt_5, qge_5, qeq_5, qlt_6, qle_6, qgt_6, qge_6, qeq_6, qlt_7, qle_7, qgt_7, qge_7, qeq_7, qlt_8, qle_8, qgt_8, qge_8, qeq_8, qlt_9, qle_9, qgt_9, qge_9, qeq_9, qlt_10, qle_10, qgt_10, qge_10, qeq_10, qlt_12, qle_12, qgt_12, qge_12, qeq_12, qlt_16, qle_16, qgt_16, qge_16, qeq_16, qlt_20, qle_20, qgt_20, qge_20, qeq_20, qlt_24, qle_24, qgt_24, qge_24, qeq_24, qlt_30, qle_30, qgt_30, qge_30, qeq_30, qlt_32, qle_32, qgt_32, qge_32, qeq_32, qlt_37, qle_37, qgt_37, qge_37, qeq_37, qlt_40, qle_40, qgt_40, qge_40, qeq_40, qlt_42, qle_42, qgt_42, qge_42, qeq_42, qlt_43, qle_43, qgt_43, qge_43, qeq_43, qlt_45, qle_45, qgt_45, qge_45, qeq_45, qlt_47, qle_47, qgt_47, qge_47, qeq_47, qlt_48, qle_48, qgt_48, qge_48, qeq_48, qlt_57, qle_57, qgt_57, qge_57, qeq_57, qlt_59, qle_59, qgt_59, qge_59, qeq_59, qlt_60, qle_60, qgt_60, qge_60, qeq_60, qlt_61, qle_61, qgt_61, qge_61, qeq_61, qlt_62, qle_62, qgt_62, qge_62, qeq_62, qlt_64, qle_64, qgt_64, qge_64, qeq_64, qlt_91, qle_91, qgt_91, qge_91, qeq_91, qlt_93, qle_93, qgt_93, qge_93, qeq_93, qlt_97, qle_97, qgt_97, qge_97, qeq_97, qlt_122, qle_122, qgt_122, qge_122, qeq_122, qlt_400, qle_400, qgt_400, qge_400, qeq_400, qlt_999, qle_999, qgt_999, qge_999, qeq_999, qlt_0, qle_0, qgt_0, qge_0, qeq_0, qltm, qeqm, ↓reduceIte, Option.bind_some, not_true_eq_false, not_false_eq_true, and_true, true_and, and_false, false_and, or_false, false_or, or_true, true_or, Bool.false_eq_true, reduceCtorEq, Nat.le_refl]) jF 0 (S, 0) (Nat.zero_le _) (by show _ < 5000; omega) ⟨by show 0 = nI (mxP (fun x => decide (x = 0)) 64); rw [mxP_0]; rfl, hr, fun _ _ _ => rfl⟩
  exact ⟨A, p1, p2⟩
theorem k_within {S : jS} {T : jT} {X : jS} (a0 : Int32) (h : INV S T X) : ∃ S1 X1 v, f10_within T S a0 = some (S1, v) ∧ f11_within X a0 = some (X1, v) ∧ INV S1 T X1 := by
  obtain ⟨N, hN, hc, hr, -⟩ := h.get
  have m0 : (0 : Int32).toInt64 = 0 := by decide
  have m1 : (999 : Int32).toInt64 = 999 := by decide
  unfold f10_within f11_within
  rw [c_told hN hc, r_told hN hr, r_in a0 m0 m1]
  by_cases z : N 0 0 = 0
  · exact ⟨S, X, -1, by simp [z], by simp [z], h⟩
  · simp only [z, ↓reduceIte, Option.bind_some, not_true_eq_false, not_false_eq_true, and_true, true_and, and_false, false_and, or_false, false_or, or_true, true_or, Bool.false_eq_true, reduceCtorEq, one_ne0]
    by_cases c1 : 0 ≤ a0 ∧ a0 ≤ 999
    · have n1 : ¬ a0 < 0 := by grind
      have n2 : ¬ 999 < a0 := by grind
      simp only [c1, n1, n2, ↓reduceIte, Option.bind_some, not_true_eq_false, not_false_eq_true, and_true, true_and, and_false, false_and, or_false, false_or, or_true, true_or, Bool.false_eq_true, reduceCtorEq, one_ne0, and_self]
      obtain ⟨t, ht, rfl⟩ := nI_of (x := a0) n1
      have ht9 : t ≤ 999 := (qle_999 ht).mp c1.2
      obtain ⟨S0, s1, s2⟩ := c_fill (S := S) (a := 82) (n := 64) (x := 0) (by omega)
      have q0 : ∀ a i, a ≠ 82 → (wI S0 82 0 1).1 a i = S.1 a i := fun a i ha => by rw [wI_ne ha, s2, if_neg (fun z => ha z.1)]
      obtain ⟨A, p1, p2, p3⟩ := c_wi1 (T := T) (S := wI S0 82 0 1) (t := t) hN (hc.mono (fun a i u1 u2 => q0 a i (by omega))) ht9 (fun x hx => by
        show _ = eB (fun x => decide (x = 0)) x
        unfold eB
        by_cases e0 : x = 0
        · subst e0; rw [wI_self]; rfl
        · rw [wI_nj e0, s2, if_pos ⟨rfl, hx⟩]; simp [e0])
      obtain ⟨X0, x1, x2, x3⟩ := r_wi1 (X := X) (x := nI t) (N := N) (t := t)
      obtain ⟨X1, y1, y2, y3⟩ := r_wi2 (X := X0) (t := t) hN (HV_mono hr (fun a i u1 u2 => x3 a i (by omega))) ht9 x2
      have w := r_wi5 y2
      have cq : cQ S A.1 := fun a i u1 u2 => (p3 a i (by omega)).trans (q0 a i (by omega))
      have rq : ∀ a i, a ≠ 48 → X1.1 a i = X.1 a i := fun a i ha => (y3 a i ha).trans (x3 a i ha)
      have fin : INV A.1 T X1 := h.q cq ⟨fun a i u1 u2 => rq a i (by omega), ⟨fun i hi => rq 1 i (by omega), fun a g u1 u2 hg => rq a g (by omega)⟩, rq 0 40 (by omega)⟩
      refine ⟨A.1, X1, nI (mxP (wiG N t (N 0 2)) 64), ?_, ?_, fin⟩
      · unfold f8_mostWithin; rw [s1, Option.bind_some, p1, Option.bind_some, Option.bind_some, p2]
      · rw [x1, Option.bind_some, y1, Option.bind_some, w, Option.bind_some]
    · refine ⟨S, X, -1, ?_, by simp only [c1, ↓reduceIte, Option.bind_some, not_true_eq_false, not_false_eq_true, and_true, true_and, and_false, false_and, or_false, false_or, or_true, true_or, Bool.false_eq_true, reduceCtorEq], h⟩
      by_cases n1 : a0 < 0
      · rw [if_pos n1]
      · have n2 : 999 < a0 := by grind
        rw [if_neg n1, if_pos n2]
