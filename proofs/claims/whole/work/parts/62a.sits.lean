theorem c_there {S : jS} {o : Nat} {N : mN} (hN : NOk N) (h : HIs (hC S o) N) {c : Nat} (hc : c < N 0 1) : f4_isThere S o (nI c) = some (if (N 0 3).testBit c = true then 1 else 0) := by
  have e3 : S.1 o 3 = nI (N 0 3) := h.1 3 (by omega) (by omega)
  have ht := hN.t
  have hC := hN.2.1
  unfold f4_isThere
  rw [(c_isC hN h).1 c hc]
  simp (disch := omega) only [↓reduceIte, Option.bind_some, not_true_eq_false, not_false_eq_true, and_true, true_and, and_false, false_and, or_false, false_or, or_true, true_or, Bool.false_eq_true, reduceCtorEq, one_ne0, e3, b_1]
  split <;> rfl
theorem asked_cs (x : Int32) : (∃ n, 1 ≤ n ∧ n ≤ 20 ∧ x = nI n ∧ f10_isAsked x = some 1 ∧ f11_in x.toInt64 1 20 = some 1) ∨ (f10_isAsked x = some 0 ∧ f11_in x.toInt64 1 20 = some 0) := by
  have m1 : (1 : Int32).toInt64 = 1 := by decide
  have m20 : (20 : Int32).toInt64 = 20 := by decide
  rw [r_in x m1 m20]
  by_cases c : 1 ≤ x ∧ x ≤ 20
  · left
    obtain ⟨n, hn, rfl⟩ := nI_of2 (x := x) (M := 20) (n := 20) (by decide) (by grind) c.2
    refine ⟨n, (qge_1 (by omega)).mp c.1, hn, rfl, ?_, by rw [if_pos c]⟩
    unfold f10_isAsked
    rw [if_neg (by grind), if_neg (by grind)]
  · right
    refine ⟨?_, by rw [if_neg c]⟩
    unfold f10_isAsked
    by_cases d : x < 1
    · rw [if_pos d]
    · rw [if_neg d, if_pos (by grind)]
def awN (ru : Option mR) (g n : Nat) (N : mN) : Nat → Nat × Nat
  | 0 => (0, stN ru g n N)
  | k + 1 => if (N 0 3).testBit k = true then (if stN ru g n (setT N (clr (N 0 3) k)) ≤ (awN ru g n N k).2 then awN ru g n N k else (k + 1, stN ru g n (setT N (clr (N 0 3) k)))) else awN ru g n N k
theorem awN_le {ru : Option mR} {g n : Nat} {N : mN} : ∀ k, (awN ru g n N k).1 ≤ k ∧ (awN ru g n N k).2 ≤ n := by
  intro k
  induction k with
  | zero => exact ⟨Nat.le_refl _, stN_le n N⟩
  | succ k ih =>
    unfold awN
    split
    · split
      · exact ⟨by omega, ih.2⟩
      · exact ⟨Nat.le_refl _, stN_le _ _⟩
    · exact ⟨by omega, ih.2⟩
theorem clr_t {N : mN} (hN : NOk N) (k : Nat) : clr (N 0 3) k < 2 ^ N 0 1 := Nat.lt_of_le_of_lt (clr_le _ _) hN.2.2.2.1
theorem c_away {T : jT} {S : jS} {N : mN} {q : Option Nat} {ru : Option mR} {g n : Nat} (hN : NOk N) (h : HIs (hC S (100 + 8)) N) (hq : ruC T S q ru) (hg : g < N 0 2) (hn : n ≤ 20) : ∃ S1, f2_chooseChair T S (100 + 8) q (nI g) (nI n) = some (S1, ()) ∧ cQ S S1 ∧ S1.1 20 8 = nI (awN ru g n N (N 0 1)).1 - 1 ∧ S1.1 20 9 = nI (awN ru g n N (N 0 1)).2 := by
  have hG := hN.2.2.1
  have hC' := hN.2.1
  have ht := hN.t
  have hc0 : CRun S (wI (cpF S 21 (100 + 8)) 20 8 (-1)) 21 N := by
    have := CRun.cp (o := 21) (a0 := 100 + 8) (cQ.rf S) hN h (by omega) (by omega) (by omega)
    exact ⟨this.1.tr (fun a i g1 g2 => wI_ne (by omega)), this.2.1.mono (fun a i g1 g2 => wI_ne (by omega)), hN⟩
  obtain ⟨S1, s1, s2, s3⟩ := c_sft (T := T) (g := g) (n := n) hc0 hq (by omega) hn
  have f108 : ∀ a i, 100 ≤ a → a < 300 → S1.1 a i = S.1 a i := fun a i g1 g2 => s2 a i (by omega) (by omega)
  obtain ⟨r, hr, hp1, hp2, hp3⟩ := lp_up (G := N 0 1) (Post := fun r : jS => cQ S r ∧ r.1 20 8 = nI (awN ru g n N (N 0 1)).1 - 1 ∧ r.1 20 9 = nI (awN ru g n N (N 0 1)).2) (fun m k S' => f2_chooseChair_L1 T (100 + 8) q (nI g) (nI n) m S' (nI k)) (fun k S' => cQ S S' ∧ S'.1 20 8 = nI (awN ru g n N k).1 - 1 ∧ S'.1 20 9 = nI (awN ru g n N k).2) (by
    rintro m k S' hk ⟨hI, h8, h9⟩
    left
    have hh : HIs (hC S' (100 + 8)) N := h.mono (fun a i g1 g2 => hI a i (by omega) (by omega))
    have e1 : S'.1 (100 + 8) 1 = nI (N 0 1) := hh.1 1 (by omega) (by omega)
    have n1 : ¬ N 0 1 ≤ k := by omega
    have hth := c_there hN hh hk
    by_cases hb : (N 0 3).testBit k = true
    · have hcp := CRun.cp (o := 21) (a0 := 100 + 8) hI hN hh (by omega) (by omega) (by omega)
      have e3 : (cpF S' 21 (100 + 8)).1 21 3 = nI (N 0 3) := hcp.2.1.1 3 (by omega) (by omega)
      have hct : CRun S (wI (cpF S' 21 (100 + 8)) 21 3 (nI (clr (N 0 3) k))) 21 (setT N (clr (N 0 3) k)) := ⟨hcp.1.tr (fun a i g1 g2 => wI_ne (by omega)), HC_setT hcp.2.1, setT_ok hN (clr_t hN k)⟩
      obtain ⟨S2, t1, t2, t3⟩ := c_sft (T := T) (g := g) (n := n) hct hq (by omega) hn
      have g8 : S2.1 20 8 = nI (awN ru g n N k).1 - 1 := by rw [t3 _ _ (by omega) (by omega) (by omega) (by omega) (by omega), wI_ne (by omega), cp_fr (by omega) (by omega)]; exact h8
      have g9 : S2.1 20 9 = nI (awN ru g n N k).2 := by rw [t3 _ _ (by omega) (by omega) (by omega) (by omega) (by omega), wI_ne (by omega), cp_fr (by omega) (by omega)]; exact h9
      have hl1 := awN_le (ru := ru) (g := g) (n := n) (N := N) k
      have hl2 := stN_le (ru := ru) (g := g) n (setT N (clr (N 0 3) k))
      have hN3 : N 0 3 < 128 := by omega
      by_cases hle : stN ru g n (setT N (clr (N 0 3) k)) ≤ (awN ru g n N k).2
      · have hof : f2_offer S2 (nI k) (nI (stN ru g n (setT N (clr (N 0 3) k)))) = some (S2, ()) := by
          unfold f2_offer
          simp (disch := omega) only [g9, nI_ltI, nI_leI, nI_eq, nI_clamp, nI_1, nI_add, nI_mul, inb_n, irm_n, nI_div, nI_m6, nI_d6, irm_6, qlt_1, qle_1, qgt_1, qge_1, qeq_1, qlt_2, qle_2, qgt_2, qge_2, qeq_2, qlt_3, qle_3, qgt_3, qge_3, qeq_3, qlt_4, qle_4, qgt_4, qge_4, qeq_4, qlt_5, qle_5, qgt_5, qge_5, qeq_5, qlt_6, qle_6, qgt_6, qge_6, qeq_6, qlt_7, qle_7, qgt_7, qge_7, qeq_7, qlt_8, qle_8, qgt_8, qge_8, qeq_8, qlt_9, qle_9, qgt_9, qge_9, qeq_9, qlt_10, qle_10, qgt_10, qge_10, qeq_10, qlt_12, qle_12, qgt_12, qge_12, qeq_12, qlt_16, qle_16, qgt_16, qge_16, qeq_16, qlt_20, qle_20, qgt_20, qge_20, qeq_20, qlt_24, qle_24, qgt_24, qge_24, qeq_24, qlt_30, qle_30, qgt_30, qge_30, qeq_30, qlt_32, qle_32, qgt_32, qge_32, qeq_32, qlt_37, qle_37, qgt_37, qge_37, qeq_37, qlt_40, qle_40, qgt_40, qge_40, qeq_40, qlt_42, qle_42, qgt_42, qge_42, qeq_42, qlt_43, qle_43, qgt_43, qge_43, qeq_43, qlt_45, qle_45, qgt_45, qge_45, qeq_45, qlt_47, qle_47, qgt_47, qge_47, qeq_47, qlt_48, qle_48, qgt_48, qge_48, qeq_48, qlt_57, qle_57, qgt_57, qge_57, qeq_57, qlt_59, qle_59, qgt_59, qge_59, qeq_59, qlt_60, qle_60, qgt_60, qge_60, qeq_60, qlt_61, qle_61, qgt_61, qge_61, qeq_61, qlt_62, qle_62, qgt_62, qge_62, qeq_62, qlt_64, qle_64, qgt_64, qge_64, qeq_64, qlt_91, qle_91, qgt_91, qge_91, qeq_91, qlt_93, qle_93, qgt_93, qge_93, qeq_93, qlt_97, qle_97, qgt_97, qge_97, qeq_97, qlt_122, qle_122, qgt_122, qge_122, qeq_122, qlt_400, qle_400, qgt_400, qge_400, qeq_400, qlt_999, qle_999, qgt_999, qge_999, qeq_999, qlt_0, qle_0, qgt_0, qge_0, qeq_0, qltm, qeqm, ↓reduceIte, Option.bind_some, not_true_eq_false, not_false_eq_true, and_true, true_and, and_false, false_and, or_false, false_or, or_true, true_or, Bool.false_eq_true, reduceCtorEq, hle]
        refine ⟨S2, ?_, t2, ?_, ?_⟩
        · rw [f2_chooseChair_L1]
          simp (disch := omega) only [e1, hth, hb, cp_eq, e3, b_clr, t1, hof, nI_ltI, nI_leI, nI_eq, nI_clamp, nI_1, nI_add, nI_mul, inb_n, irm_n, nI_div, nI_m6, nI_d6, irm_6, qlt_1, qle_1, qgt_1, qge_1, qeq_1, qlt_2, qle_2, qgt_2, qge_2, qeq_2, qlt_3, qle_3, qgt_3, qge_3, qeq_3, qlt_4, qle_4, qgt_4, qge_4, qeq_4, qlt_5, qle_5, qgt_5, qge_5, qeq_5, qlt_6, qle_6, qgt_6, qge_6, qeq_6, qlt_7, qle_7, qgt_7, qge_7, qeq_7, qlt_8, qle_8, qgt_8, qge_8, qeq_8, qlt_9, qle_9, qgt_9, qge_9, qeq_9, qlt_10, qle_10, qgt_10, qge_10, qeq_10, qlt_12, qle_12, qgt_12, qge_12, qeq_12, qlt_16, qle_16, qgt_16, qge_16, qeq_16, qlt_20, qle_20, qgt_20, qge_20, qeq_20, qlt_24, qle_24, qgt_24, qge_24, qeq_24, qlt_30, qle_30, qgt_30, qge_30, qeq_30, qlt_32, qle_32, qgt_32, qge_32, qeq_32, qlt_37, qle_37, qgt_37, qge_37, qeq_37, qlt_40, qle_40, qgt_40, qge_40, qeq_40, qlt_42, qle_42, qgt_42, qge_42, qeq_42, qlt_43, qle_43, qgt_43, qge_43, qeq_43, qlt_45, qle_45, qgt_45, qge_45, qeq_45, qlt_47, qle_47, qgt_47, qge_47, qeq_47, qlt_48, qle_48, qgt_48, qge_48, qeq_48, qlt_57, qle_57, qgt_57, qge_57, qeq_57, qlt_59, qle_59, qgt_59, qge_59, qeq_59, qlt_60, qle_60, qgt_60, qge_60, qeq_60, qlt_61, qle_61, qgt_61, qge_61, qeq_61, qlt_62, qle_62, qgt_62, qge_62, qeq_62, qlt_64, qle_64, qgt_64, qge_64, qeq_64, qlt_91, qle_91, qgt_91, qge_91, qeq_91, qlt_93, qle_93, qgt_93, qge_93, qeq_93, qlt_97, qle_97, qgt_97, qge_97, qeq_97, qlt_122, qle_122, qgt_122, qge_122, qeq_122, qlt_400, qle_400, qgt_400, qge_400, qeq_400, qlt_999, qle_999, qgt_999, qge_999, qeq_999, qlt_0, qle_0, qgt_0, qge_0, qeq_0, qltm, qeqm, ↓reduceIte, Option.bind_some, not_true_eq_false, not_false_eq_true, and_true, true_and, and_false, false_and, or_false, false_or, or_true, true_or, Bool.false_eq_true, reduceCtorEq, n1, one_ne0]
        · rw [awN, if_pos hb, if_pos hle]; exact g8
        · rw [awN, if_pos hb, if_pos hle]; exact g9
      · have hof : f2_offer S2 (nI k) (nI (stN ru g n (setT N (clr (N 0 3) k)))) = some (wI (wI S2 20 8 (nI k)) 20 9 (nI (stN ru g n (setT N (clr (N 0 3) k)))), ()) := by
          unfold f2_offer
          simp (disch := omega) only [g9, nI_ltI, nI_leI, nI_eq, nI_clamp, nI_1, nI_add, nI_mul, inb_n, irm_n, nI_div, nI_m6, nI_d6, irm_6, qlt_1, qle_1, qgt_1, qge_1, qeq_1, qlt_2, qle_2, qgt_2, qge_2, qeq_2, qlt_3, qle_3, qgt_3, qge_3, qeq_3, qlt_4, qle_4, qgt_4, qge_4, qeq_4, qlt_5, qle_5, qgt_5, qge_5, qeq_5, qlt_6, qle_6, qgt_6, qge_6, qeq_6, qlt_7, qle_7, qgt_7, qge_7, qeq_7, qlt_8, qle_8, qgt_8, qge_8, qeq_8, qlt_9, qle_9, qgt_9, qge_9, qeq_9, qlt_10, qle_10, qgt_10, qge_10, qeq_10, qlt_12, qle_12, qgt_12, qge_12, qeq_12, qlt_16, qle_16, qgt_16, qge_16, qeq_16, qlt_20, qle_20, qgt_20, qge_20, qeq_20, qlt_24, qle_24, qgt_24, qge_24, qeq_24, qlt_30, qle_30, qgt_30, qge_30, qeq_30, qlt_32, qle_32, qgt_32, qge_32, qeq_32, qlt_37, qle_37, qgt_37, qge_37, qeq_37, qlt_40, qle_40, qgt_40, qge_40, qeq_40, qlt_42, qle_42, qgt_42, qge_42, qeq_42, qlt_43, qle_43, qgt_43, qge_43, qeq_43, qlt_45, qle_45, qgt_45, qge_45, qeq_45, qlt_47, qle_47, qgt_47, qge_47, qeq_47, qlt_48, qle_48, qgt_48, qge_48, qeq_48, qlt_57, qle_57, qgt_57, qge_57, qeq_57, qlt_59, qle_59, qgt_59, qge_59, qeq_59, qlt_60, qle_60, qgt_60, qge_60, qeq_60, qlt_61, qle_61, qgt_61, qge_61, qeq_61, qlt_62, qle_62, qgt_62, qge_62, qeq_62, qlt_64, qle_64, qgt_64, qge_64, qeq_64, qlt_91, qle_91, qgt_91, qge_91, qeq_91, qlt_93, qle_93, qgt_93, qge_93, qeq_93, qlt_97, qle_97, qgt_97, qge_97, qeq_97, qlt_122, qle_122, qgt_122, qge_122, qeq_122, qlt_400, qle_400, qgt_400, qge_400, qeq_400, qlt_999, qle_999, qgt_999, qge_999, qeq_999, qlt_0, qle_0, qgt_0, qge_0, qeq_0, qltm, qeqm, ↓reduceIte, Option.bind_some, not_true_eq_false, not_false_eq_true, and_true, true_and, and_false, false_and, or_false, false_or, or_true, true_or, Bool.false_eq_true, reduceCtorEq, hle]
        refine ⟨wI (wI S2 20 8 (nI k)) 20 9 (nI (stN ru g n (setT N (clr (N 0 3) k)))), ?_, t2.tr (fun a i g1 g2 => by rw [wI_ne (by omega), wI_ne (by omega)]), ?_, ?_⟩
        · rw [f2_chooseChair_L1]
          simp (disch := omega) only [e1, hth, hb, cp_eq, e3, b_clr, t1, hof, nI_ltI, nI_leI, nI_eq, nI_clamp, nI_1, nI_add, nI_mul, inb_n, irm_n, nI_div, nI_m6, nI_d6, irm_6, qlt_1, qle_1, qgt_1, qge_1, qeq_1, qlt_2, qle_2, qgt_2, qge_2, qeq_2, qlt_3, qle_3, qgt_3, qge_3, qeq_3, qlt_4, qle_4, qgt_4, qge_4, qeq_4, qlt_5, qle_5, qgt_5, qge_5, qeq_5, qlt_6, qle_6, qgt_6, qge_6, qeq_6, qlt_7, qle_7, qgt_7, qge_7, qeq_7, qlt_8, qle_8, qgt_8, qge_8, qeq_8, qlt_9, qle_9, qgt_9, qge_9, qeq_9, qlt_10, qle_10, qgt_10, qge_10, qeq_10, qlt_12, qle_12, qgt_12, qge_12, qeq_12, qlt_16, qle_16, qgt_16, qge_16, qeq_16, qlt_20, qle_20, qgt_20, qge_20, qeq_20, qlt_24, qle_24, qgt_24, qge_24, qeq_24, qlt_30, qle_30, qgt_30, qge_30, qeq_30, qlt_32, qle_32, qgt_32, qge_32, qeq_32, qlt_37, qle_37, qgt_37, qge_37, qeq_37, qlt_40, qle_40, qgt_40, qge_40, qeq_40, qlt_42, qle_42, qgt_42, qge_42, qeq_42, qlt_43, qle_43, qgt_43, qge_43, qeq_43, qlt_45, qle_45, qgt_45, qge_45, qeq_45, qlt_47, qle_47, qgt_47, qge_47, qeq_47, qlt_48, qle_48, qgt_48, qge_48, qeq_48, qlt_57, qle_57, qgt_57, qge_57, qeq_57, qlt_59, qle_59, qgt_59, qge_59, qeq_59, qlt_60, qle_60, qgt_60, qge_60, qeq_60, qlt_61, qle_61, qgt_61, qge_61, qeq_61, qlt_62, qle_62, qgt_62, qge_62, qeq_62, qlt_64, qle_64, qgt_64, qge_64, qeq_64, qlt_91, qle_91, qgt_91, qge_91, qeq_91, qlt_93, qle_93, qgt_93, qge_93, qeq_93, qlt_97, qle_97, qgt_97, qge_97, qeq_97, qlt_122, qle_122, qgt_122, qge_122, qeq_122, qlt_400, qle_400, qgt_400, qge_400, qeq_400, qlt_999, qle_999, qgt_999, qge_999, qeq_999, qlt_0, qle_0, qgt_0, qge_0, qeq_0, qltm, qeqm, ↓reduceIte, Option.bind_some, not_true_eq_false, not_false_eq_true, and_true, true_and, and_false, false_and, or_false, false_or, or_true, true_or, Bool.false_eq_true, reduceCtorEq, n1, one_ne0]
        · rw [awN, if_pos hb, if_neg hle, wI_nj (by omega), wI_self]; exact (nI_pred k).symm
        · rw [awN, if_pos hb, if_neg hle, wI_self]
    · refine ⟨S', ?_, hI, ?_, ?_⟩
      · rw [f2_chooseChair_L1]
        simp (disch := omega) only [e1, hth, hb, nI_ltI, nI_leI, nI_eq, nI_clamp, nI_1, nI_add, nI_mul, inb_n, irm_n, nI_div, nI_m6, nI_d6, irm_6, qlt_1, qle_1, qgt_1, qge_1, qeq_1, qlt_2, qle_2, qgt_2, qge_2, qeq_2, qlt_3, qle_3, qgt_3, qge_3, qeq_3, qlt_4, qle_4, qgt_4, qge_4, qeq_4, qlt_5, qle_5, qgt_5, qge_5, qeq_5, qlt_6, qle_6, qgt_6, qge_6, qeq_6, qlt_7, qle_7, qgt_7, qge_7, qeq_7, qlt_8, qle_8, qgt_8, qge_8, qeq_8, qlt_9, qle_9, qgt_9, qge_9, qeq_9, qlt_10, qle_10, qgt_10, qge_10, qeq_10, qlt_12, qle_12, qgt_12, qge_12, qeq_12, qlt_16, qle_16, qgt_16, qge_16, qeq_16, qlt_20, qle_20, qgt_20, qge_20, qeq_20, qlt_24, qle_24, qgt_24, qge_24, qeq_24, qlt_30, qle_30, qgt_30, qge_30, qeq_30, qlt_32, qle_32, qgt_32, qge_32, qeq_32, qlt_37, qle_37, qgt_37, qge_37, qeq_37, qlt_40, qle_40, qgt_40, qge_40, qeq_40, qlt_42, qle_42, qgt_42, qge_42, qeq_42, qlt_43, qle_43, qgt_43, qge_43, qeq_43, qlt_45, qle_45, qgt_45, qge_45, qeq_45, qlt_47, qle_47, qgt_47, qge_47, qeq_47, qlt_48, qle_48, qgt_48, qge_48, qeq_48, qlt_57, qle_57, qgt_57, qge_57, qeq_57, qlt_59, qle_59, qgt_59, qge_59, qeq_59, qlt_60, qle_60, qgt_60, qge_60, qeq_60, qlt_61, qle_61, qgt_61, qge_61, qeq_61, qlt_62, qle_62, qgt_62, qge_62, qeq_62, qlt_64, qle_64, qgt_64, qge_64, qeq_64, qlt_91, qle_91, qgt_91, qge_91, qeq_91, qlt_93, qle_93, qgt_93, qge_93, qeq_93, qlt_97, qle_97, qgt_97, qge_97, qeq_97, qlt_122, qle_122, qgt_122, qge_122, qeq_122, qlt_400, qle_400, qgt_400, qge_400, qeq_400, qlt_999, qle_999, qgt_999, qge_999, qeq_999, qlt_0, qle_0, qgt_0, qge_0, qeq_0, qltm, qeqm, ↓reduceIte, Option.bind_some, not_true_eq_false, not_false_eq_true, and_true, true_and, and_false, false_and, or_false, false_or, or_true, true_or, Bool.false_eq_true, reduceCtorEq, n1]
      · rw [awN, if_neg hb]; exact h8
      · rw [awN, if_neg hb]; exact h9) (by
    rintro m S' ⟨hI, h8, h9⟩
    have hh : HIs (hC S' (100 + 8)) N := h.mono (fun a i g1 g2 => hI a i (by omega) (by omega))
    have e1 : S'.1 (100 + 8) 1 = nI (N 0 1) := hh.1 1 (by omega) (by omega)
    refine ⟨S', ?_, hI, h8, h9⟩
    rw [f2_chooseChair_L1]
    simp (disch := omega) only [e1, nI_ltI, nI_leI, nI_eq, nI_clamp, nI_1, nI_add, nI_mul, inb_n, irm_n, nI_div, nI_m6, nI_d6, irm_6, qlt_1, qle_1, qgt_1, qge_1, qeq_1, qlt_2, qle_2, qgt_2, qge_2, qeq_2, qlt_3, qle_3, qgt_3, qge_3, qeq_3, qlt_4, qle_4, qgt_4, qge_4, qeq_4, qlt_5, qle_5, qgt_5, qge_5, qeq_5, qlt_6, qle_6, qgt_6, qge_6, qeq_6, qlt_7, qle_7, qgt_7, qge_7, qeq_7, qlt_8, qle_8, qgt_8, qge_8, qeq_8, qlt_9, qle_9, qgt_9, qge_9, qeq_9, qlt_10, qle_10, qgt_10, qge_10, qeq_10, qlt_12, qle_12, qgt_12, qge_12, qeq_12, qlt_16, qle_16, qgt_16, qge_16, qeq_16, qlt_20, qle_20, qgt_20, qge_20, qeq_20, qlt_24, qle_24, qgt_24, qge_24, qeq_24, qlt_30, qle_30, qgt_30, qge_30, qeq_30, qlt_32, qle_32, qgt_32, qge_32, qeq_32, qlt_37, qle_37, qgt_37, qge_37, qeq_37, qlt_40, qle_40, qgt_40, qge_40, qeq_40, qlt_42, qle_42, qgt_42, qge_42, qeq_42, qlt_43, qle_43, qgt_43, qge_43, qeq_43, qlt_45, qle_45, qgt_45, qge_45, qeq_45, qlt_47, qle_47, qgt_47, qge_47, qeq_47, qlt_48, qle_48, qgt_48, qge_48, qeq_48, qlt_57, qle_57, qgt_57, qge_57, qeq_57, qlt_59, qle_59, qgt_59, qge_59, qeq_59, qlt_60, qle_60, qgt_60, qge_60, qeq_60, qlt_61, qle_61, qgt_61, qge_61, qeq_61, qlt_62, qle_62, qgt_62, qge_62, qeq_62, qlt_64, qle_64, qgt_64, qge_64, qeq_64, qlt_91, qle_91, qgt_91, qge_91, qeq_91, qlt_93, qle_93, qgt_93, qge_93, qeq_93, qlt_97, qle_97, qgt_97, qge_97, qeq_97, qlt_122, qle_122, qgt_122, qge_122, qeq_122, qlt_400, qle_400, qgt_400, qge_400, qeq_400, qlt_999, qle_999, qgt_999, qge_999, qeq_999, qlt_0, qle_0, qgt_0, qge_0, qeq_0, qltm, qeqm, ↓reduceIte, Option.bind_some, not_true_eq_false, not_false_eq_true, and_true, true_and, and_false, false_and, or_false, false_or, or_true, true_or, Bool.false_eq_true, reduceCtorEq, Nat.le_refl]) jF 0 (wI S1 20 9 (nI (stN ru g n N))) (Nat.zero_le _) (by show _ < 5000; omega) ⟨s2.tr (fun a i g1 g2 => wI_ne (by omega)), by rw [wI_nj (by omega), s3 _ _ (by omega) (by omega) (by omega) (by omega) (by omega), wI_self]; exact nI_0m.symm, wI_self _ _ _ _⟩
  refine ⟨r, ?_, hp1, hp2, hp3⟩
  unfold f2_chooseChair
  have hr' : f2_chooseChair_L1 T (100 + 8) q (nI g) (nI n) jF (wI S1 20 9 (nI (stN ru g n N))) 0 = some r := hr
  simp only [cp_eq, Option.bind_some, s1, hr']
theorem r_away {X X' : jS} {N : mN} {ru : Option mR} {g n : Nat} {l3 : Int32} (h0 : HIs (hV X.1) N) (hN : NOk N) (h : RRun X X' N) (h40 : X'.1 0 40 = -1) (hq : ruR X ru) (hg : g < N 0 2) (hn : n ≤ 20) : ∃ r, f11_away_L1 (nI g) (nI n) l3 (nI (N 0 3)) jF X' (-1) (-1) (-1) = some r ∧ r.2.1 = nI (awN ru g n N (N 0 1)).1 - 1 ∧ r.2.2 = nI (awN ru g n N (N 0 1)).2 ∧ RRun X r.1 N ∧ r.1.1 0 40 = -1 ∧ rQ1 X r.1 := by
  have hG := hN.2.2.1
  have hC' := hN.2.1
  have ht := hN.t
  have hN3 : N 0 3 < 128 := by omega
  have e1 := HV1 h.2.2.1
  have e7 := HV3 h.2.2.1
  have hst : RRun X (wI X' 1 7 (nI (N 0 3))) N := by
    refine ⟨h.1.tr (fun b i g1 g2 => by rw [wI_g, if_neg (by omega)]), h.2.1.fr (fun i => wI_ne (by omega)), HV_mono h.2.2.1 (fun a i g1 g2 => ?_), hN, by rw [wI_nj (by omega)]; exact h.2.2.2.2⟩
    rw [wI_g]
    split
    · rename_i z; rw [z.1, z.2]; exact e7.symm
    · rfl
  obtain ⟨X1, s1, s2, s3, s4⟩ := r_sft hst (by rw [wI_ne (by omega)]; exact h40) hq (g := g) (by omega) hn h0 hN
  have hsl := stN_le (ru := ru) (g := g) n N
  have first : f11_away_L1 (nI g) (nI n) l3 (nI (N 0 3)) jF X' (-1) (-1) (-1) = f11_away_L1 (nI g) (nI n) l3 (nI (N 0 3)) 4999 X1 (-1) (nI (stN ru g n N)) 0 := by
    show f11_away_L1 (nI g) (nI n) l3 (nI (N 0 3)) (4999 + 1) X' (-1) (-1) (-1) = _
    have c1 : ¬ nI (N 0 1) ≤ -1 := by
      have := nI_pos' (n := N 0 1) (by omega)
      grind
    have c2 : ¬ nI (stN ru g n N) ≤ -1 := by
      have := nI_pos' (n := stN ru g n N) (by omega)
      grind
    have c3 : (-1 : Int32) + 1 = 0 := by decide
    rw [f11_away_L1]
    simp only [e1, c1, ↓reduceIte, Option.bind_some, not_true_eq_false, not_false_eq_true, and_true, true_and, and_false, false_and, or_false, false_or, or_true, true_or, Bool.false_eq_true, reduceCtorEq, s1, c2, c3]
  rw [first]
  exact lp_up (G := N 0 1) (Post := fun r : jS × Int32 × Int32 => r.2.1 = nI (awN ru g n N (N 0 1)).1 - 1 ∧ r.2.2 = nI (awN ru g n N (N 0 1)).2 ∧ RRun X r.1 N ∧ r.1.1 0 40 = -1 ∧ rQ1 X r.1) (fun m k (A : jS × Int32 × Int32) => f11_away_L1 (nI g) (nI n) l3 (nI (N 0 3)) m A.1 A.2.1 A.2.2 (nI k)) (fun k A => A.2.1 = nI (awN ru g n N k).1 - 1 ∧ A.2.2 = nI (awN ru g n N k).2 ∧ RRun X A.1 N ∧ A.1.1 0 40 = -1 ∧ rQ1 X A.1) (by
    rintro m k ⟨X2, l4, l5⟩ hk ⟨rfl, rfl, hI, i40, hI1⟩
    left
    have f1 : X2.1 1 1 = nI (N 0 1) := HV1 hI.2.2.1
    have n1 : ¬ N 0 1 ≤ k := by omega
    have k7 : k < 7 := by omega
    by_cases hb : (N 0 3).testBit k = true
    · obtain ⟨X3, t1, t2, t3, t4⟩ := r_sft (hI.setT (t := clr (N 0 3) k) (setT_ok hN (clr_t hN k))) (by rw [wI_ne (by omega)]; exact i40) hq (g := g) (by omega) hn h0 hN
      have t1' : f11_satIn (wI X2 1 7 (nI (clr (N 0 3) k))) (nI g) (nI n) = some (X3, nI (stN ru g n (setT N (clr (N 0 3) k)))) := t1
      have hl1 := awN_le (ru := ru) (g := g) (n := n) (N := N) k
      have hl2 := stN_le (ru := ru) (g := g) n (setT N (clr (N 0 3) k))
      refine ⟨(X3, nI (awN ru g n N (k + 1)).1 - 1, nI (awN ru g n N (k + 1)).2), ?_, rfl, rfl, t2, t3, t4⟩
      show f11_away_L1 (nI g) (nI n) l3 (nI (N 0 3)) (m + 1) X2 (nI (awN ru g n N k).1 - 1) (nI (awN ru g n N k).2) (nI k) = f11_away_L1 (nI g) (nI n) l3 (nI (N 0 3)) m X3 (nI (awN ru g n N (k + 1)).1 - 1) (nI (awN ru g n N (k + 1)).2) (nI (k + 1))
      rw [f11_away_L1, awN, if_pos hb]
      by_cases hle : stN ru g n (setT N (clr (N 0 3) k)) ≤ (awN ru g n N k).2
      · simp (disch := omega) only [f1, r_has, hb, b_clr, t1', nI_ltI, nI_leI, nI_eq, nI_clamp, nI_1, nI_add, nI_mul, inb_n, irm_n, nI_div, nI_m6, nI_d6, irm_6, qlt_1, qle_1, qgt_1, qge_1, qeq_1, qlt_2, qle_2, qgt_2, qge_2, qeq_2, qlt_3, qle_3, qgt_3, qge_3, qeq_3, qlt_4, qle_4, qgt_4, qge_4, qeq_4, qlt_5, qle_5, qgt_5, qge_5, qeq_5, qlt_6, qle_6, qgt_6, qge_6, qeq_6, qlt_7, qle_7, qgt_7, qge_7, qeq_7, qlt_8, qle_8, qgt_8, qge_8, qeq_8, qlt_9, qle_9, qgt_9, qge_9, qeq_9, qlt_10, qle_10, qgt_10, qge_10, qeq_10, qlt_12, qle_12, qgt_12, qge_12, qeq_12, qlt_16, qle_16, qgt_16, qge_16, qeq_16, qlt_20, qle_20, qgt_20, qge_20, qeq_20, qlt_24, qle_24, qgt_24, qge_24, qeq_24, qlt_30, qle_30, qgt_30, qge_30, qeq_30, qlt_32, qle_32, qgt_32, qge_32, qeq_32, qlt_37, qle_37, qgt_37, qge_37, qeq_37, qlt_40, qle_40, qgt_40, qge_40, qeq_40, qlt_42, qle_42, qgt_42, qge_42, qeq_42, qlt_43, qle_43, qgt_43, qge_43, qeq_43, qlt_45, qle_45, qgt_45, qge_45, qeq_45, qlt_47, qle_47, qgt_47, qge_47, qeq_47, qlt_48, qle_48, qgt_48, qge_48, qeq_48, qlt_57, qle_57, qgt_57, qge_57, qeq_57, qlt_59, qle_59, qgt_59, qge_59, qeq_59, qlt_60, qle_60, qgt_60, qge_60, qeq_60, qlt_61, qle_61, qgt_61, qge_61, qeq_61, qlt_62, qle_62, qgt_62, qge_62, qeq_62, qlt_64, qle_64, qgt_64, qge_64, qeq_64, qlt_91, qle_91, qgt_91, qge_91, qeq_91, qlt_93, qle_93, qgt_93, qge_93, qeq_93, qlt_97, qle_97, qgt_97, qge_97, qeq_97, qlt_122, qle_122, qgt_122, qge_122, qeq_122, qlt_400, qle_400, qgt_400, qge_400, qeq_400, qlt_999, qle_999, qgt_999, qge_999, qeq_999, qlt_0, qle_0, qgt_0, qge_0, qeq_0, qltm, qeqm, ↓reduceIte, Option.bind_some, not_true_eq_false, not_false_eq_true, and_true, true_and, and_false, false_and, or_false, false_or, or_true, true_or, Bool.false_eq_true, reduceCtorEq, n1, one_ne0, hle]
      · simp (disch := omega) only [f1, r_has, hb, b_clr, t1', nI_ltI, nI_leI, nI_eq, nI_clamp, nI_1, nI_add, nI_mul, inb_n, irm_n, nI_div, nI_m6, nI_d6, irm_6, qlt_1, qle_1, qgt_1, qge_1, qeq_1, qlt_2, qle_2, qgt_2, qge_2, qeq_2, qlt_3, qle_3, qgt_3, qge_3, qeq_3, qlt_4, qle_4, qgt_4, qge_4, qeq_4, qlt_5, qle_5, qgt_5, qge_5, qeq_5, qlt_6, qle_6, qgt_6, qge_6, qeq_6, qlt_7, qle_7, qgt_7, qge_7, qeq_7, qlt_8, qle_8, qgt_8, qge_8, qeq_8, qlt_9, qle_9, qgt_9, qge_9, qeq_9, qlt_10, qle_10, qgt_10, qge_10, qeq_10, qlt_12, qle_12, qgt_12, qge_12, qeq_12, qlt_16, qle_16, qgt_16, qge_16, qeq_16, qlt_20, qle_20, qgt_20, qge_20, qeq_20, qlt_24, qle_24, qgt_24, qge_24, qeq_24, qlt_30, qle_30, qgt_30, qge_30, qeq_30, qlt_32, qle_32, qgt_32, qge_32, qeq_32, qlt_37, qle_37, qgt_37, qge_37, qeq_37, qlt_40, qle_40, qgt_40, qge_40, qeq_40, qlt_42, qle_42, qgt_42, qge_42, qeq_42, qlt_43, qle_43, qgt_43, qge_43, qeq_43, qlt_45, qle_45, qgt_45, qge_45, qeq_45, qlt_47, qle_47, qgt_47, qge_47, qeq_47, qlt_48, qle_48, qgt_48, qge_48, qeq_48, qlt_57, qle_57, qgt_57, qge_57, qeq_57, qlt_59, qle_59, qgt_59, qge_59, qeq_59, qlt_60, qle_60, qgt_60, qge_60, qeq_60, qlt_61, qle_61, qgt_61, qge_61, qeq_61, qlt_62, qle_62, qgt_62, qge_62, qeq_62, qlt_64, qle_64, qgt_64, qge_64, qeq_64, qlt_91, qle_91, qgt_91, qge_91, qeq_91, qlt_93, qle_93, qgt_93, qge_93, qeq_93, qlt_97, qle_97, qgt_97, qge_97, qeq_97, qlt_122, qle_122, qgt_122, qge_122, qeq_122, qlt_400, qle_400, qgt_400, qge_400, qeq_400, qlt_999, qle_999, qgt_999, qge_999, qeq_999, qlt_0, qle_0, qgt_0, qge_0, qeq_0, qltm, qeqm, ↓reduceIte, Option.bind_some, not_true_eq_false, not_false_eq_true, and_true, true_and, and_false, false_and, or_false, false_or, or_true, true_or, Bool.false_eq_true, reduceCtorEq, n1, one_ne0, hle, nI_pred]
    · refine ⟨(X2, nI (awN ru g n N (k + 1)).1 - 1, nI (awN ru g n N (k + 1)).2), ?_, rfl, rfl, hI, i40, hI1⟩
      show f11_away_L1 (nI g) (nI n) l3 (nI (N 0 3)) (m + 1) X2 (nI (awN ru g n N k).1 - 1) (nI (awN ru g n N k).2) (nI k) = f11_away_L1 (nI g) (nI n) l3 (nI (N 0 3)) m X2 (nI (awN ru g n N (k + 1)).1 - 1) (nI (awN ru g n N (k + 1)).2) (nI (k + 1))
      rw [f11_away_L1, awN, if_neg hb]
      simp (disch := omega) only [f1, r_has, hb, nI_ltI, nI_leI, nI_eq, nI_clamp, nI_1, nI_add, nI_mul, inb_n, irm_n, nI_div, nI_m6, nI_d6, irm_6, qlt_1, qle_1, qgt_1, qge_1, qeq_1, qlt_2, qle_2, qgt_2, qge_2, qeq_2, qlt_3, qle_3, qgt_3, qge_3, qeq_3, qlt_4, qle_4, qgt_4, qge_4, qeq_4, qlt_5, qle_5, qgt_5, qge_5, qeq_5, qlt_6, qle_6, qgt_6, qge_6, qeq_6, qlt_7, qle_7, qgt_7, qge_7, qeq_7, qlt_8, qle_8, qgt_8, qge_8, qeq_8, qlt_9, qle_9, qgt_9, qge_9, qeq_9, qlt_10, qle_10, qgt_10, qge_10, qeq_10, qlt_12, qle_12, qgt_12, qge_12, qeq_12, qlt_16, qle_16, qgt_16, qge_16, qeq_16, qlt_20, qle_20, qgt_20, qge_20, qeq_20, qlt_24, qle_24, qgt_24, qge_24, qeq_24, qlt_30, qle_30, qgt_30, qge_30, qeq_30, qlt_32, qle_32, qgt_32, qge_32, qeq_32, qlt_37, qle_37, qgt_37, qge_37, qeq_37, qlt_40, qle_40, qgt_40, qge_40, qeq_40, qlt_42, qle_42, qgt_42, qge_42, qeq_42, qlt_43, qle_43, qgt_43, qge_43, qeq_43, qlt_45, qle_45, qgt_45, qge_45, qeq_45, qlt_47, qle_47, qgt_47, qge_47, qeq_47, qlt_48, qle_48, qgt_48, qge_48, qeq_48, qlt_57, qle_57, qgt_57, qge_57, qeq_57, qlt_59, qle_59, qgt_59, qge_59, qeq_59, qlt_60, qle_60, qgt_60, qge_60, qeq_60, qlt_61, qle_61, qgt_61, qge_61, qeq_61, qlt_62, qle_62, qgt_62, qge_62, qeq_62, qlt_64, qle_64, qgt_64, qge_64, qeq_64, qlt_91, qle_91, qgt_91, qge_91, qeq_91, qlt_93, qle_93, qgt_93, qge_93, qeq_93, qlt_97, qle_97, qgt_97, qge_97, qeq_97, qlt_122, qle_122, qgt_122, qge_122, qeq_122, qlt_400, qle_400, qgt_400, qge_400, qeq_400, qlt_999, qle_999, qgt_999, qge_999, qeq_999, qlt_0, qle_0, qgt_0, qge_0, qeq_0, qltm, qeqm, ↓reduceIte, Option.bind_some, not_true_eq_false, not_false_eq_true, and_true, true_and, and_false, false_and, or_false, false_or, or_true, true_or, Bool.false_eq_true, reduceCtorEq, n1]) (by
    rintro m ⟨X2, l4, l5⟩ ⟨h3, h4, hI, i40, hI1⟩
    have f1 : X2.1 1 1 = nI (N 0 1) := HV1 hI.2.2.1
    refine ⟨(X2, l4, l5), ?_, h3, h4, hI, i40, hI1⟩
    show f11_away_L1 (nI g) (nI n) l3 (nI (N 0 3)) (m + 1) X2 l4 l5 (nI (N 0 1)) = _
    rw [f11_away_L1]
    simp (disch := omega) only [f1, nI_ltI, nI_leI, nI_eq, nI_clamp, nI_1, nI_add, nI_mul, inb_n, irm_n, nI_div, nI_m6, nI_d6, irm_6, qlt_1, qle_1, qgt_1, qge_1, qeq_1, qlt_2, qle_2, qgt_2, qge_2, qeq_2, qlt_3, qle_3, qgt_3, qge_3, qeq_3, qlt_4, qle_4, qgt_4, qge_4, qeq_4, qlt_5, qle_5, qgt_5, qge_5, qeq_5, qlt_6, qle_6, qgt_6, qge_6, qeq_6, qlt_7, qle_7, qgt_7, qge_7, qeq_7, qlt_8, qle_8, qgt_8, qge_8, qeq_8, qlt_9, qle_9, qgt_9, qge_9, qeq_9, qlt_10, qle_10, qgt_10, qge_10, qeq_10, qlt_12, qle_12, qgt_12, qge_12, qeq_12, qlt_16, qle_16, qgt_16, qge_16, qeq_16, qlt_20, qle_20, qgt_20, qge_20, qeq_20, qlt_24, qle_24, qgt_24, qge_24, qeq_24, qlt_30, qle_30, qgt_30, qge_30, qeq_30, qlt_32, qle_32, qgt_32, qge_32, qeq_32, qlt_37, qle_37, qgt_37, qge_37, qeq_37, qlt_40, qle_40, qgt_40, qge_40, qeq_40, qlt_42, qle_42, qgt_42, qge_42, qeq_42, qlt_43, qle_43, qgt_43, qge_43, qeq_43, qlt_45, qle_45, qgt_45, qge_45, qeq_45, qlt_47, qle_47, qgt_47, qge_47, qeq_47, qlt_48, qle_48, qgt_48, qge_48, qeq_48, qlt_57, qle_57, qgt_57, qge_57, qeq_57, qlt_59, qle_59, qgt_59, qge_59, qeq_59, qlt_60, qle_60, qgt_60, qge_60, qeq_60, qlt_61, qle_61, qgt_61, qge_61, qeq_61, qlt_62, qle_62, qgt_62, qge_62, qeq_62, qlt_64, qle_64, qgt_64, qge_64, qeq_64, qlt_91, qle_91, qgt_91, qge_91, qeq_91, qlt_93, qle_93, qgt_93, qge_93, qeq_93, qlt_97, qle_97, qgt_97, qge_97, qeq_97, qlt_122, qle_122, qgt_122, qge_122, qeq_122, qlt_400, qle_400, qgt_400, qge_400, qeq_400, qlt_999, qle_999, qgt_999, qge_999, qeq_999, qlt_0, qle_0, qgt_0, qge_0, qeq_0, qltm, qeqm, ↓reduceIte, Option.bind_some, not_true_eq_false, not_false_eq_true, and_true, true_and, and_false, false_and, or_false, false_or, or_true, true_or, Bool.false_eq_true, reduceCtorEq, Nat.le_refl]) 4999 0 (X1, -1, nI (stN ru g n N)) (Nat.zero_le _) (by omega) ⟨nI_0m.symm, rfl, s2, s3, s4⟩
theorem k_away {S : jS} {T : jT} {X : jS} (h : INV S T X) (a0 a1 a2 : Int32) : ∃ S1 X1 v, f10_away T S a0 a1 a2 = some (S1, v) ∧ f11_away X a0 a1 a2 = some (X1, v) ∧ INV S1 T X1 := by
  obtain ⟨N, hN, hc, hr, -⟩ := h.get
  obtain ⟨h40, q, ru, q1, q2, q3⟩ := h.rule
  have hG := hN.2.2.1
  have m0 : (0 : Int32).toInt64 = 0 := by decide
  have m1 : (1 : Int32).toInt64 = 1 := by decide
  unfold f10_away f11_away
  rcases arg_cs a0 (G := N 0 2) (by omega) with ⟨g, hg, rfl⟩ | hg
  · rw [(c_in hN hc).1 g hg, (r_still hN hr).1 g hg, r_in a2 m0 m1, q1]
    by_cases hb : (N 0 4).testBit g = true
    · simp only [hb, ↓reduceIte, Option.bind_some, not_true_eq_false, not_false_eq_true, and_true, true_and, and_false, false_and, or_false, false_or, or_true, true_or, Bool.false_eq_true, reduceCtorEq, one_ne0]
      rcases asked_cs a1 with ⟨n, n1, n2, rfl, n3, n4⟩ | ⟨n3, n4⟩
      · simp only [n3, n4, ↓reduceIte, Option.bind_some, not_true_eq_false, not_false_eq_true, and_true, true_and, and_false, false_and, or_false, false_or, or_true, true_or, Bool.false_eq_true, reduceCtorEq, one_ne0]
        by_cases c : 0 ≤ a2 ∧ a2 ≤ 1
        · have d : ¬ a2 < 0 := by grind
          obtain ⟨S1, s1, s2, s3, s4⟩ := c_away (T := T) hN hc q2 hg n2
          obtain ⟨X0, x1, x2, x3, x4⟩ := RRun.keep hr hN
          have e7 := HV3 x2.2.2.1
          obtain ⟨⟨X1, u, w⟩, y1, y2, y3, y4, y5, y6⟩ := r_away (l3 := a2) hr hN x2 (x3.trans h40) q3 hg n2
          have fin : INV S1 T X1 := h.end s2 y4.1 y6 (by rw [h40]; exact y5)
          have y2' : u = _ := y2
          have y3' : w = _ := y3
          simp only [c, d, ↓reduceIte, Option.bind_some, not_true_eq_false, not_false_eq_true, and_true, true_and, and_false, false_and, or_false, false_or, or_true, true_or, Bool.false_eq_true, reduceCtorEq, one_ne0, and_self, s1, x1, e7, y1, s3, s4]
          by_cases e0 : a2 = 0
          · simp only [e0, ↓reduceIte, Option.bind_some, not_true_eq_false, not_false_eq_true, and_true, true_and, and_false, false_and, or_false, false_or, or_true, true_or, Bool.false_eq_true, reduceCtorEq]
            exact ⟨S1, X1, u, by rw [y2'], rfl, fin⟩
          · simp only [e0, ↓reduceIte, Option.bind_some, not_true_eq_false, not_false_eq_true, and_true, true_and, and_false, false_and, or_false, false_or, or_true, true_or, Bool.false_eq_true, reduceCtorEq]
            exact ⟨S1, X1, w, by rw [y3'], rfl, fin⟩
        · refine ⟨S, X, -2, ?_, by simp only [c, ↓reduceIte, Option.bind_some, not_true_eq_false, not_false_eq_true, and_true, true_and, and_false, false_and, or_false, false_or, or_true, true_or, Bool.false_eq_true, reduceCtorEq], h⟩
          by_cases d : a2 < 0
          · rw [if_pos d]
          · rw [if_neg d, if_neg (by grind)]
      · simp only [n3, n4, ↓reduceIte, Option.bind_some, not_true_eq_false, not_false_eq_true, and_true, true_and, and_false, false_and, or_false, false_or, or_true, true_or, Bool.false_eq_true, reduceCtorEq]
        exact ⟨S, X, -2, rfl, rfl, h⟩
    · simp only [hb, ↓reduceIte, Option.bind_some, not_true_eq_false, not_false_eq_true, and_true, true_and, and_false, false_and, or_false, false_or, or_true, true_or, Bool.false_eq_true, reduceCtorEq]
      exact ⟨S, X, -2, rfl, rfl, h⟩
  · rw [(c_in hN hc).2 a0 hg, (r_still hN hr).2 a0 hg]
    exact ⟨S, X, -2, rfl, rfl, h⟩
