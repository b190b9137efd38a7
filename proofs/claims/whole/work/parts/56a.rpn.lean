def stk (f : Nat → Int64) : List Int64 → Prop
  | [] => True
  | v :: u => f u.length = v ∧ stk f u
theorem stk_ext {f g : Nat → Int64} : ∀ {u : List Int64}, (∀ j, j < u.length → g j = f j) → stk f u → stk g u
  | [], _, _ => trivial
  | v :: u, h, hs => ⟨(h u.length (by simp)).trans hs.1, stk_ext (fun j hj => h j (by simp; omega)) hs.2⟩
theorem c_push {S : jS} {r m : Nat} {v : Int64} (h : S.1 r 2 = nI m) (hm : m < 64) : f6_push S r v = some (wI (wL S (r + 2) m v) r 2 (nI (m + 1)), ()) := by
  have n1 : ¬ 64 ≤ m := by omega
  unfold f6_push
  simp (disch := omega) only [wL_g, h, nI_ltI, nI_leI, nI_eq, nI_clamp, nI_1, nI_add, nI_mul, inb_n, irm_n, nI_div, nI_m6, nI_d6, irm_6, qlt_1, qle_1, qgt_1, qge_1, qeq_1, qlt_2, qle_2, qgt_2, qge_2, qeq_2, qlt_3, qle_3, qgt_3, qge_3, qeq_3, qlt_4, qle_4, qgt_4, qge_4, qeq_4, qlt_5, qle_5, qgt_5, qge_5, qeq_5, qlt_6, qle_6, qgt_6, qge_6, qeq_6, qlt_7, qle_7, qgt_7, qge_7, qeq_7, qlt_8, qle_8, qgt_8, qge_8, qeq_8, qlt_9, qle_9, qgt_9, qge_9, qeq_9, qlt_10, qle_10, qgt_10, qge_10, qeq_10, qlt_12, qle_12, qgt_12, qge_12, qeq_12, qlt_16, qle_16, qgt_16, qge_16, qeq_16, qlt_20, qle_20, qgt_20, qge_20, qeq_20, qlt_24, qle_24, qgt_24, qge_24, qeq_24, qlt_30, qle_30, qgt_30, qge_30, qeq_30, qlt_32, qle_32, qgt_32, qge_32, qeq_32, qlt_37, qle_37, qgt_37, qge_37, qeq_37, qlt_40, qle_40, qgt_40, qge_40, qeq_40, qlt_42, qle_42, qgt_42, qge_42, qeq_42, qlt_43, qle_43, qgt_43, qge_43, qeq_43, qlt_45, qle_45, qgt_45, qge_45, qeq_45, qlt_47, qle_47, qgt_47, qge_47, qeq_47, qlt_48, qle_48, qgt_48, qge_48, qeq_48, qlt_57, qle_57, qgt_57, qge_57, qeq_57, qlt_59, qle_59, qgt_59, qge_59, qeq_59, qlt_60, qle_60, qgt_60, qge_60, qeq_60, qlt_61, qle_61, qgt_61, qge_61, qeq_61, qlt_62, qle_62, qgt_62, qge_62, qeq_62, qlt_64, qle_64, qgt_64, qge_64, qeq_64, qlt_91, qle_91, qgt_91, qge_91, qeq_91, qlt_93, qle_93, qgt_93, qge_93, qeq_93, qlt_97, qle_97, qgt_97, qge_97, qeq_97, qlt_122, qle_122, qgt_122, qge_122, qeq_122, qlt_400, qle_400, qgt_400, qge_400, qeq_400, qlt_999, qle_999, qgt_999, qge_999, qeq_999, qlt_0, qle_0, qgt_0, qge_0, qeq_0, qltm, qeqm, ↓reduceIte, Option.bind_some, not_true_eq_false, not_false_eq_true, and_true, true_and, and_false, false_and, or_false, false_or, or_true, true_or, Bool.false_eq_true, reduceCtorEq, hm, n1]
theorem c_pop {S : jS} {r m : Nat} (h : S.1 r 2 = nI (m + 1)) (hm : m < 64) : f6_pop S r = some (wI S r 2 (nI m), S.2 (r + 2) m) := by
  have n1 : m + 1 ≤ 64 := by omega
  have n2 : ¬ m + 1 = 0 := by omega
  unfold f6_pop
  simp (disch := omega) only [h, nI_pred, wI_self, wI_ne, wI_nj, wI_L, nI_ltI, nI_leI, nI_eq, nI_clamp, nI_1, nI_add, nI_mul, inb_n, irm_n, nI_div, nI_m6, nI_d6, irm_6, qlt_1, qle_1, qgt_1, qge_1, qeq_1, qlt_2, qle_2, qgt_2, qge_2, qeq_2, qlt_3, qle_3, qgt_3, qge_3, qeq_3, qlt_4, qle_4, qgt_4, qge_4, qeq_4, qlt_5, qle_5, qgt_5, qge_5, qeq_5, qlt_6, qle_6, qgt_6, qge_6, qeq_6, qlt_7, qle_7, qgt_7, qge_7, qeq_7, qlt_8, qle_8, qgt_8, qge_8, qeq_8, qlt_9, qle_9, qgt_9, qge_9, qeq_9, qlt_10, qle_10, qgt_10, qge_10, qeq_10, qlt_12, qle_12, qgt_12, qge_12, qeq_12, qlt_16, qle_16, qgt_16, qge_16, qeq_16, qlt_20, qle_20, qgt_20, qge_20, qeq_20, qlt_24, qle_24, qgt_24, qge_24, qeq_24, qlt_30, qle_30, qgt_30, qge_30, qeq_30, qlt_32, qle_32, qgt_32, qge_32, qeq_32, qlt_37, qle_37, qgt_37, qge_37, qeq_37, qlt_40, qle_40, qgt_40, qge_40, qeq_40, qlt_42, qle_42, qgt_42, qge_42, qeq_42, qlt_43, qle_43, qgt_43, qge_43, qeq_43, qlt_45, qle_45, qgt_45, qge_45, qeq_45, qlt_47, qle_47, qgt_47, qge_47, qeq_47, qlt_48, qle_48, qgt_48, qge_48, qeq_48, qlt_57, qle_57, qgt_57, qge_57, qeq_57, qlt_59, qle_59, qgt_59, qge_59, qeq_59, qlt_60, qle_60, qgt_60, qge_60, qeq_60, qlt_61, qle_61, qgt_61, qge_61, qeq_61, qlt_62, qle_62, qgt_62, qge_62, qeq_62, qlt_64, qle_64, qgt_64, qge_64, qeq_64, qlt_91, qle_91, qgt_91, qge_91, qeq_91, qlt_93, qle_93, qgt_93, qge_93, qeq_93, qlt_97, qle_97, qgt_97, qge_97, qeq_97, qlt_122, qle_122, qgt_122, qge_122, qeq_122, qlt_400, qle_400, qgt_400, qge_400, qeq_400, qlt_999, qle_999, qgt_999, qge_999, qeq_999, qlt_0, qle_0, qgt_0, qge_0, qeq_0, qltm, qeqm, ↓reduceIte, Option.bind_some, not_true_eq_false, not_false_eq_true, and_true, true_and, and_false, false_and, or_false, false_or, or_true, true_or, Bool.false_eq_true, reduceCtorEq, hm, n1, n2]
theorem stk_push {S : jS} {a : Nat} {v : Int64} {st : List Int64} (h : stk (S.2 a) st) : stk ((wL S a st.length v).2 a) (v :: st) := by
  refine ⟨by rw [wL_L, if_pos ⟨rfl, rfl⟩], stk_ext (fun j hj => ?_) h⟩
  rw [wL_L, if_neg (by omega)]
theorem c_tok {T : jT} {S : jS} {r o n k D : Nat} {x : Int32} {ts u : List Bool} {st : List Int64} {N : mN} (hN : NOk N) (hH : HIs (hC S o) N) (hro : o + 6 < r) (hx : S.1 (r + 1) k = x) (hk : k < T.2.2.1 (r + 1)) (hl : T.2.2.1 (r + 1) ≤ 400) (h : tk1 D x ts = some u) (hD : D ≤ 64) (hts : ts.length ≤ 64) (hty : tyd ts st) (htop : S.1 r 2 = nI st.length) (hst : stk (S.2 (r + 2)) st) :
    ∃ S1, f6_sumFor_L1 T r o (n + 1) S (nI k) = f6_sumFor_L1 T r o n S1 (nI (k + 1)) ∧ S1.1 r 2 = nI (ev1 (wvN N) x st).length ∧ stk (S1.2 (r + 2)) (ev1 (wvN N) x st) ∧ (∀ a i, ¬ (a = r ∧ i = 2) → S1.1 a i = S.1 a i) ∧ (∀ a, a ≠ r + 2 → S1.2 a = S.2 a) ∧ u.length ≤ 64 := by
  have n1 : ¬ T.2.2.1 (r + 1) ≤ k := by omega
  have hlen := tyd_len hty
  unfold ev1
  rcases tk1_cs h with ⟨h1, h2, rfl⟩ | ⟨rfl, v, rfl, rfl⟩ | ⟨h1, h2, v, rfl, rfl⟩ | ⟨h1, h2, v, rfl, rfl⟩ | ⟨h1, h2, v, rfl, rfl⟩
  · have m1 : ¬ x = -24 := by grind
    have m2 : ¬ x = -25 := by grind
    by_cases h0 : 0 ≤ x
    · have m3 : ¬ x < 0 := by grind
      have hp := c_push (v := x.toInt64) htop (by omega)
      refine ⟨wI (wL S (r + 2) st.length x.toInt64) r 2 (nI (st.length + 1)), ?_, ?_, ?_, ?_, ?_, by simp; omega⟩
      · simp (disch := omega) only [f6_sumFor_L1, hx, nI_ltI, nI_leI, nI_eq, nI_clamp, nI_1, nI_add, nI_mul, inb_n, irm_n, nI_div, nI_m6, nI_d6, irm_6, qlt_1, qle_1, qgt_1, qge_1, qeq_1, qlt_2, qle_2, qgt_2, qge_2, qeq_2, qlt_3, qle_3, qgt_3, qge_3, qeq_3, qlt_4, qle_4, qgt_4, qge_4, qeq_4, qlt_5, qle_5, qgt_5, qge_5, qeq_5, qlt_6, qle_6, qgt_6, qge_6, qeq_6, qlt_7, qle_7, qgt_7, qge_7, qeq_7, qlt_8, qle_8, qgt_8, qge_8, qeq_8, qlt_9, qle_9, qgt_9, qge_9, qeq_9, qlt_10, qle_10, qgt_10, qge_10, qeq_10, qlt_12, qle_12, qgt_12, qge_12, qeq_12, qlt_16, qle_16, qgt_16, qge_16, qeq_16, qlt_20, qle_20, qgt_20, qge_20, qeq_20, qlt_24, qle_24, qgt_24, qge_24, qeq_24, qlt_30, qle_30, qgt_30, qge_30, qeq_30, qlt_32, qle_32, qgt_32, qge_32, qeq_32, qlt_37, qle_37, qgt_37, qge_37, qeq_37, qlt_40, qle_40, qgt_40, qge_40, qeq_40, qlt_42, qle_42, qgt_42, qge_42, qeq_42, qlt_43, qle_43, qgt_43, qge_43, qeq_43, qlt_45, qle_45, qgt_45, qge_45, qeq_45, qlt_47, qle_47, qgt_47, qge_47, qeq_47, qlt_48, qle_48, qgt_48, qge_48, qeq_48, qlt_57, qle_57, qgt_57, qge_57, qeq_57, qlt_59, qle_59, qgt_59, qge_59, qeq_59, qlt_60, qle_60, qgt_60, qge_60, qeq_60, qlt_61, qle_61, qgt_61, qge_61, qeq_61, qlt_62, qle_62, qgt_62, qge_62, qeq_62, qlt_64, qle_64, qgt_64, qge_64, qeq_64, qlt_91, qle_91, qgt_91, qge_91, qeq_91, qlt_93, qle_93, qgt_93, qge_93, qeq_93, qlt_97, qle_97, qgt_97, qge_97, qeq_97, qlt_122, qle_122, qgt_122, qge_122, qeq_122, qlt_400, qle_400, qgt_400, qge_400, qeq_400, qlt_999, qle_999, qgt_999, qge_999, qeq_999, qlt_0, qle_0, qgt_0, qge_0, qeq_0, qltm, qeqm, ↓reduceIte, Option.bind_some, not_true_eq_false, not_false_eq_true, and_true, true_and, and_false, false_and, or_false, false_or, or_true, true_or, Bool.false_eq_true, reduceCtorEq, n1, hk, m1, m2, m3, hp]
      · simp only [evs, h0, if_true]; rw [wI_self]; rfl
      · simp only [evs, h0, if_true]; exact stk_push hst
      · intro a i hn; rw [wI_g, if_neg hn, wL_g]
      · intro a hn; funext i; rw [wI_L, wL_L, if_neg (fun z => hn z.1)]
    · have m3 : x < 0 := by grind
      have m4 : ¬ x < -10 := by grind
      obtain ⟨j, hj, e⟩ := nI_of2 (x := -1 - x) (M := 9) (n := 9) (by decide) (by grind) (by grind)
      have hw := c_word hN hH (k := j) (by omega)
      have hp := c_push (v := wvN N j) htop (by omega)
      refine ⟨wI (wL S (r + 2) st.length (wvN N j)) r 2 (nI (st.length + 1)), ?_, ?_, ?_, ?_, ?_, by simp; omega⟩
      · simp (disch := omega) only [f6_sumFor_L1, hx, e, hw, nI_ltI, nI_leI, nI_eq, nI_clamp, nI_1, nI_add, nI_mul, inb_n, irm_n, nI_div, nI_m6, nI_d6, irm_6, qlt_1, qle_1, qgt_1, qge_1, qeq_1, qlt_2, qle_2, qgt_2, qge_2, qeq_2, qlt_3, qle_3, qgt_3, qge_3, qeq_3, qlt_4, qle_4, qgt_4, qge_4, qeq_4, qlt_5, qle_5, qgt_5, qge_5, qeq_5, qlt_6, qle_6, qgt_6, qge_6, qeq_6, qlt_7, qle_7, qgt_7, qge_7, qeq_7, qlt_8, qle_8, qgt_8, qge_8, qeq_8, qlt_9, qle_9, qgt_9, qge_9, qeq_9, qlt_10, qle_10, qgt_10, qge_10, qeq_10, qlt_12, qle_12, qgt_12, qge_12, qeq_12, qlt_16, qle_16, qgt_16, qge_16, qeq_16, qlt_20, qle_20, qgt_20, qge_20, qeq_20, qlt_24, qle_24, qgt_24, qge_24, qeq_24, qlt_30, qle_30, qgt_30, qge_30, qeq_30, qlt_32, qle_32, qgt_32, qge_32, qeq_32, qlt_37, qle_37, qgt_37, qge_37, qeq_37, qlt_40, qle_40, qgt_40, qge_40, qeq_40, qlt_42, qle_42, qgt_42, qge_42, qeq_42, qlt_43, qle_43, qgt_43, qge_43, qeq_43, qlt_45, qle_45, qgt_45, qge_45, qeq_45, qlt_47, qle_47, qgt_47, qge_47, qeq_47, qlt_48, qle_48, qgt_48, qge_48, qeq_48, qlt_57, qle_57, qgt_57, qge_57, qeq_57, qlt_59, qle_59, qgt_59, qge_59, qeq_59, qlt_60, qle_60, qgt_60, qge_60, qeq_60, qlt_61, qle_61, qgt_61, qge_61, qeq_61, qlt_62, qle_62, qgt_62, qge_62, qeq_62, qlt_64, qle_64, qgt_64, qge_64, qeq_64, qlt_91, qle_91, qgt_91, qge_91, qeq_91, qlt_93, qle_93, qgt_93, qge_93, qeq_93, qlt_97, qle_97, qgt_97, qge_97, qeq_97, qlt_122, qle_122, qgt_122, qge_122, qeq_122, qlt_400, qle_400, qgt_400, qge_400, qeq_400, qlt_999, qle_999, qgt_999, qge_999, qeq_999, qlt_0, qle_0, qgt_0, qge_0, qeq_0, qltm, qeqm, ↓reduceIte, Option.bind_some, not_true_eq_false, not_false_eq_true, and_true, true_and, and_false, false_and, or_false, false_or, or_true, true_or, Bool.false_eq_true, reduceCtorEq, n1, hk, m1, m2, m3, m4, hp]
      · simp only [evs, h0, h1, if_false, if_true]; rw [wI_self]; rfl
      · simp (disch := omega) only [evs, h0, h1, if_false, if_true, e, nI_clamp]; exact stk_push hst
      · intro a i hn; rw [wI_g, if_neg hn, wL_g]
      · intro a hn; funext i; rw [wI_L, wL_L, if_neg (fun z => hn z.1)]
  · obtain ⟨a, q, rfl, k1, k2⟩ := tyd_inv hty
    have hq := tyd_len k2
    simp only [List.length_cons] at hts htop hlen
    have m1 : ¬ ((-23 : Int32) = -24) := by decide
    have m2 : ¬ ((-23 : Int32) = -25) := by decide
    have m3 : (-23 : Int32) < 0 := by decide
    have m4 : (-23 : Int32) < -10 := by decide
    have hpo := c_pop htop (by omega)
    have hp := c_push (S := wI S r 2 (nI q.length)) (v := 1 - S.2 (r + 2) q.length) (wI_self _ _ _ _) (by omega)
    refine ⟨wI (wL (wI S r 2 (nI q.length)) (r + 2) q.length (1 - S.2 (r + 2) q.length)) r 2 (nI (q.length + 1)), ?_, ?_, ?_, ?_, ?_, by simpa using hts⟩
    · simp (disch := omega) only [f6_sumFor_L1, hx, nI_ltI, nI_leI, nI_eq, nI_clamp, nI_1, nI_add, nI_mul, inb_n, irm_n, nI_div, nI_m6, nI_d6, irm_6, qlt_1, qle_1, qgt_1, qge_1, qeq_1, qlt_2, qle_2, qgt_2, qge_2, qeq_2, qlt_3, qle_3, qgt_3, qge_3, qeq_3, qlt_4, qle_4, qgt_4, qge_4, qeq_4, qlt_5, qle_5, qgt_5, qge_5, qeq_5, qlt_6, qle_6, qgt_6, qge_6, qeq_6, qlt_7, qle_7, qgt_7, qge_7, qeq_7, qlt_8, qle_8, qgt_8, qge_8, qeq_8, qlt_9, qle_9, qgt_9, qge_9, qeq_9, qlt_10, qle_10, qgt_10, qge_10, qeq_10, qlt_12, qle_12, qgt_12, qge_12, qeq_12, qlt_16, qle_16, qgt_16, qge_16, qeq_16, qlt_20, qle_20, qgt_20, qge_20, qeq_20, qlt_24, qle_24, qgt_24, qge_24, qeq_24, qlt_30, qle_30, qgt_30, qge_30, qeq_30, qlt_32, qle_32, qgt_32, qge_32, qeq_32, qlt_37, qle_37, qgt_37, qge_37, qeq_37, qlt_40, qle_40, qgt_40, qge_40, qeq_40, qlt_42, qle_42, qgt_42, qge_42, qeq_42, qlt_43, qle_43, qgt_43, qge_43, qeq_43, qlt_45, qle_45, qgt_45, qge_45, qeq_45, qlt_47, qle_47, qgt_47, qge_47, qeq_47, qlt_48, qle_48, qgt_48, qge_48, qeq_48, qlt_57, qle_57, qgt_57, qge_57, qeq_57, qlt_59, qle_59, qgt_59, qge_59, qeq_59, qlt_60, qle_60, qgt_60, qge_60, qeq_60, qlt_61, qle_61, qgt_61, qge_61, qeq_61, qlt_62, qle_62, qgt_62, qge_62, qeq_62, qlt_64, qle_64, qgt_64, qge_64, qeq_64, qlt_91, qle_91, qgt_91, qge_91, qeq_91, qlt_93, qle_93, qgt_93, qge_93, qeq_93, qlt_97, qle_97, qgt_97, qge_97, qeq_97, qlt_122, qle_122, qgt_122, qge_122, qeq_122, qlt_400, qle_400, qgt_400, qge_400, qeq_400, qlt_999, qle_999, qgt_999, qge_999, qeq_999, qlt_0, qle_0, qgt_0, qge_0, qeq_0, qltm, qeqm, ↓reduceIte, Option.bind_some, not_true_eq_false, not_false_eq_true, and_true, true_and, and_false, false_and, or_false, false_or, or_true, true_or, Bool.false_eq_true, reduceCtorEq, n1, hk, m1, m2, m3, m4, hpo, hp]
    · rw [wI_self]; rfl
    · have e : S.2 (r + 2) q.length = a := hst.1
      rw [e]
      exact stk_push (S := wI S r 2 (nI q.length)) hst.2
    · intro a i hn; rw [wI_g, if_neg hn, wL_g, wI_g, if_neg hn]
    · intro a hn; funext i; rw [wI_L, wL_L, if_neg (fun z => hn z.1), wI_L]
  all_goals
    obtain ⟨b, q, rfl, k1, k2⟩ := tyd_inv hty
    obtain ⟨a, q, rfl, k3, k4⟩ := tyd_inv k2
    have hq := tyd_len k4
    simp only [List.length_cons] at hts htop hlen
    have l0 : ¬ 0 ≤ x := by grind
    have l1 : ¬ -10 ≤ x := by grind
    have l2 : ¬ x = -23 := by grind
    have m1 : ¬ x = -24 := by grind
    have m2 : ¬ x = -25 := by grind
    have m3 : x < 0 := by grind
    have m4 : x < -10 := by grind
    have hpo := c_pop htop (by omega)
    have hpo2 := c_pop (S := wI S r 2 (nI (q.length + 1))) (wI_self _ _ _ _) (m := q.length) (by omega)
    have hp := c_push (S := wI (wI S r 2 (nI (q.length + 1))) r 2 (nI q.length)) (v := opv x (S.2 (r + 2) q.length) (S.2 (r + 2) (q.length + 1))) (wI_self _ _ _ _) (by omega)
    have e1 : S.2 (r + 2) (q.length + 1) = b := hst.1
    have e2 : S.2 (r + 2) q.length = a := hst.2.1
    refine ⟨wI (wL (wI (wI S r 2 (nI (q.length + 1))) r 2 (nI q.length)) (r + 2) q.length (opv x (S.2 (r + 2) q.length) (S.2 (r + 2) (q.length + 1)))) r 2 (nI (q.length + 1)), ?_, ?_, ?_, ?_, ?_, by simp; omega⟩
    · simp (disch := omega) only [f6_sumFor_L1, hx, nI_ltI, nI_leI, nI_eq, nI_clamp, nI_1, nI_add, nI_mul, inb_n, irm_n, nI_div, nI_m6, nI_d6, irm_6, qlt_1, qle_1, qgt_1, qge_1, qeq_1, qlt_2, qle_2, qgt_2, qge_2, qeq_2, qlt_3, qle_3, qgt_3, qge_3, qeq_3, qlt_4, qle_4, qgt_4, qge_4, qeq_4, qlt_5, qle_5, qgt_5, qge_5, qeq_5, qlt_6, qle_6, qgt_6, qge_6, qeq_6, qlt_7, qle_7, qgt_7, qge_7, qeq_7, qlt_8, qle_8, qgt_8, qge_8, qeq_8, qlt_9, qle_9, qgt_9, qge_9, qeq_9, qlt_10, qle_10, qgt_10, qge_10, qeq_10, qlt_12, qle_12, qgt_12, qge_12, qeq_12, qlt_16, qle_16, qgt_16, qge_16, qeq_16, qlt_20, qle_20, qgt_20, qge_20, qeq_20, qlt_24, qle_24, qgt_24, qge_24, qeq_24, qlt_30, qle_30, qgt_30, qge_30, qeq_30, qlt_32, qle_32, qgt_32, qge_32, qeq_32, qlt_37, qle_37, qgt_37, qge_37, qeq_37, qlt_40, qle_40, qgt_40, qge_40, qeq_40, qlt_42, qle_42, qgt_42, qge_42, qeq_42, qlt_43, qle_43, qgt_43, qge_43, qeq_43, qlt_45, qle_45, qgt_45, qge_45, qeq_45, qlt_47, qle_47, qgt_47, qge_47, qeq_47, qlt_48, qle_48, qgt_48, qge_48, qeq_48, qlt_57, qle_57, qgt_57, qge_57, qeq_57, qlt_59, qle_59, qgt_59, qge_59, qeq_59, qlt_60, qle_60, qgt_60, qge_60, qeq_60, qlt_61, qle_61, qgt_61, qge_61, qeq_61, qlt_62, qle_62, qgt_62, qge_62, qeq_62, qlt_64, qle_64, qgt_64, qge_64, qeq_64, qlt_91, qle_91, qgt_91, qge_91, qeq_91, qlt_93, qle_93, qgt_93, qge_93, qeq_93, qlt_97, qle_97, qgt_97, qge_97, qeq_97, qlt_122, qle_122, qgt_122, qge_122, qeq_122, qlt_400, qle_400, qgt_400, qge_400, qeq_400, qlt_999, qle_999, qgt_999, qge_999, qeq_999, qlt_0, qle_0, qgt_0, qge_0, qeq_0, qltm, qeqm, ↓reduceIte, Option.bind_some, not_true_eq_false, not_false_eq_true, and_true, true_and, and_false, false_and, or_false, false_or, or_true, true_or, Bool.false_eq_true, reduceCtorEq, n1, hk, m1, m2, m3, m4, l2, hpo, hpo2, wI_L, join_opv, hp]
    · simp only [evs, l0, l1, l2, if_false]; rw [wI_self]; rfl
    · simp only [evs, l0, l1, l2, if_false]
      rw [e1, e2]
      exact stk_push (S := wI (wI S r 2 (nI (q.length + 1))) r 2 (nI q.length)) hst.2.2
    · intro a i hn; rw [wI_g, if_neg hn, wL_g, wI_g, if_neg hn, wI_g, if_neg hn]
    · intro a hn; funext i; rw [wI_L, wL_L, if_neg (fun z => hn z.1), wI_L, wI_L]
def cod (f : Nat → Int32) : Nat → List Int32 → Prop
  | _, [] => True
  | k, x :: r => f k = x ∧ cod f (k + 1) r
theorem c_seg {T : jT} {r o D : Nat} {N : mN} (hN : NOk N) (hro : o + 6 < r) (hl : T.2.2.1 (r + 1) ≤ 400) (hD : D ≤ 64) : ∀ {s : List Int32} {S : jS} {n k : Nat} {ts u : List Bool} {st : List Int64}, HIs (hC S o) N → cod (S.1 (r + 1)) k s → k + s.length ≤ T.2.2.1 (r + 1) → tky D s ts = some u → ts.length ≤ 64 → tyd ts st → S.1 r 2 = nI st.length → stk (S.2 (r + 2)) st →
    ∃ S1, f6_sumFor_L1 T r o (n + s.length) S (nI k) = f6_sumFor_L1 T r o n S1 (nI (k + s.length)) ∧ S1.1 r 2 = nI (evs (wvN N) s st).length ∧ stk (S1.2 (r + 2)) (evs (wvN N) s st) ∧ (∀ a i, ¬ (a = r ∧ i = 2) → S1.1 a i = S.1 a i) ∧ (∀ a, a ≠ r + 2 → S1.2 a = S.2 a) ∧ u.length ≤ 64 := by
  intro s
  induction s with
  | nil =>
    intro S n k ts u st hH hc hk hy hts hty htop hst
    cases hy
    exact ⟨S, rfl, htop, hst, fun _ _ _ => rfl, fun _ _ => rfl, hts⟩
  | cons x s ih =>
    intro S n k ts u st hH hc hk hy hts hty htop hst
    obtain ⟨v, y1, y2⟩ := tky_cons hy
    simp only [List.length_cons] at hk ⊢
    obtain ⟨S1, p1, p2, p3, p4, p5, p6⟩ := c_tok (T := T) (n := n + s.length) hN hH hro hc.1 (by omega) hl y1 hD hts hty htop hst
    obtain ⟨e1, e2⟩ := evs_cons (w := wvN N) (r := s) y1 hty
    have hf : ∀ i, S1.1 (r + 1) i = S.1 (r + 1) i := fun i => p4 _ _ (by omega)
    have hc1 : cod (S1.1 (r + 1)) (k + 1) s := by
      have : S1.1 (r + 1) = S.1 (r + 1) := funext hf
      rw [this]; exact hc.2
    obtain ⟨S2, q1, q2, q3, q4, q5, q6⟩ := ih (n := n) (hH.mono (fun a i h1 h2 => p4 a i (by omega))) hc1 (by omega) y2 p6 e2 p2 p3
    refine ⟨S2, ?_, ?_, ?_, fun a i hn => (q4 a i hn).trans (p4 a i hn), fun a hn => (q5 a hn).trans (p5 a hn), q6⟩
    · rw [show n + (s.length + 1) = n + s.length + 1 by omega, p1, q1, show k + 1 + s.length = k + (s.length + 1) by omega]
    · rw [e1]; exact q2
    · rw [e1]; exact q3
def rcd (f : Nat → Int32) (len : Nat) : Nat → mR → Prop
  | k, [] => k = len
  | k, q :: r => cod f k q.1 ∧ (if q.2 = [] then f (k + q.1.length) = -24 ∧ rcd f len (k + q.1.length + 1) r else cod f (k + q.1.length) q.2 ∧ f (k + q.1.length + q.2.length) = -25 ∧ rcd f len (k + q.1.length + q.2.length + 1) r)
theorem rcd_le {f : Nat → Int32} {len : Nat} : ∀ {k : Nat} {r : mR}, rcd f len k r → k ≤ len := by
  intro k r
  induction r generalizing k with
  | nil => intro h; exact Nat.le_of_eq h
  | cons q r ih =>
    intro h
    obtain ⟨h1, h2⟩ := h
    split at h2
    · have := ih h2.2; omega
    · have := ih h2.2.2; omega
theorem tyd_1 {t : Bool} {vs : List Int64} (h : tyd [t] vs) : ∃ v, vs = [v] ∧ (t = true → v = 0 ∨ v = 1) := by
  obtain ⟨v, u, rfl, h1, h2⟩ := tyd_inv h
  cases u with
  | nil => exact ⟨v, rfl, h1⟩
  | cons _ _ => exact h2.elim
theorem c_rule {T : jT} {r o : Nat} {N : mN} (hN : NOk N) (hro : o + 6 < r) (hl : T.2.2.1 (r + 1) ≤ 400) : ∀ {R : mR} {S : jS} {n k : Nat}, HIs (hC S o) N → rcd (S.1 (r + 1)) (T.2.2.1 (r + 1)) k R → (∀ q ∈ R, clOk q) → T.2.2.1 (r + 1) - k < n → S.1 r 2 = nI 0 →
    ∃ S1, f6_sumFor_L1 T r o n S (nI k) = some (S1, rlv (wvN N) R) ∧ (∀ a i, ¬ (a = r ∧ i = 2) → S1.1 a i = S.1 a i) ∧ (∀ a, a ≠ r + 2 → S1.2 a = S.2 a) := by
  intro R
  induction R with
  | nil =>
    intro S n k hH hc hok hn htop
    obtain ⟨m, rfl⟩ : ∃ m, n = m + 1 := ⟨n - 1, by omega⟩
    have e : k = T.2.2.1 (r + 1) := hc
    refine ⟨S, ?_, fun _ _ _ => rfl, fun _ _ => rfl⟩
    subst e
    simp (disch := omega) only [f6_sumFor_L1, nI_ltI, nI_leI, nI_eq, nI_clamp, nI_1, nI_add, nI_mul, inb_n, irm_n, nI_div, nI_m6, nI_d6, irm_6, qlt_1, qle_1, qgt_1, qge_1, qeq_1, qlt_2, qle_2, qgt_2, qge_2, qeq_2, qlt_3, qle_3, qgt_3, qge_3, qeq_3, qlt_4, qle_4, qgt_4, qge_4, qeq_4, qlt_5, qle_5, qgt_5, qge_5, qeq_5, qlt_6, qle_6, qgt_6, qge_6, qeq_6, qlt_7, qle_7, qgt_7, qge_7, qeq_7, qlt_8, qle_8, qgt_8, qge_8, qeq_8, qlt_9, qle_9, qgt_9, qge_9, qeq_9, qlt_10, qle_10, qgt_10, qge_10, qeq_10, qlt_12, qle_12, qgt_12, qge_12, qeq_12, qlt_16, qle_16, qgt_16, qge_16, qeq_16, qlt_20, qle_20, qgt_20, qge_20, qeq_20, qlt_24, qle_24, qgt_24, qge_24, qeq_24, qlt_30, qle_30, qgt_30, qge_30, qeq_30, qlt_32, qle_32, qgt_32, qge_32, qeq_32, qlt_37, qle_37, qgt_37, qge_37, qeq_37, qlt_40, qle_40, qgt_40, qge_40, qeq_40, qlt_42, qle_42, qgt_42, qge_42, qeq_42, qlt_43, qle_43, qgt_43, qge_43, qeq_43, qlt_45, qle_45, qgt_45, qge_45, qeq_45, qlt_47, qle_47, qgt_47, qge_47, qeq_47, qlt_48, qle_48, qgt_48, qge_48, qeq_48, qlt_57, qle_57, qgt_57, qge_57, qeq_57, qlt_59, qle_59, qgt_59, qge_59, qeq_59, qlt_60, qle_60, qgt_60, qge_60, qeq_60, qlt_61, qle_61, qgt_61, qge_61, qeq_61, qlt_62, qle_62, qgt_62, qge_62, qeq_62, qlt_64, qle_64, qgt_64, qge_64, qeq_64, qlt_91, qle_91, qgt_91, qge_91, qeq_91, qlt_93, qle_93, qgt_93, qge_93, qeq_93, qlt_97, qle_97, qgt_97, qge_97, qeq_97, qlt_122, qle_122, qgt_122, qge_122, qeq_122, qlt_400, qle_400, qgt_400, qge_400, qeq_400, qlt_999, qle_999, qgt_999, qge_999, qeq_999, qlt_0, qle_0, qgt_0, qge_0, qeq_0, qltm, qeqm, ↓reduceIte, Option.bind_some, not_true_eq_false, not_false_eq_true, and_true, true_and, and_false, false_and, or_false, false_or, or_true, true_or, Bool.false_eq_true, reduceCtorEq, Nat.le_refl, rlv]
  | cons q R ih =>
    intro S n k hH hc hok hn htop
    obtain ⟨hs, ht⟩ := hok q List.mem_cons_self
    obtain ⟨c1, c2⟩ := hc
    have hy := evs_ty (w := wvN N) hs (st := []) trivial
    obtain ⟨v, ev, -⟩ := tyd_1 hy
    by_cases hq : q.2 = []
    · rw [if_pos hq] at c2
      have hle := rcd_le c2.2
      obtain ⟨m, rfl⟩ : ∃ m, n = m + 1 + q.1.length := ⟨n - 1 - q.1.length, by omega⟩
      obtain ⟨S1, p1, p2, p3, p4, p5, p6⟩ := c_seg (T := T) (n := m + 1) (st := []) hN hro hl (by omega) hH c1 (by omega) hs (by simp) trivial htop trivial
      rw [ev] at p2 p3
      have f1 : S1.1 (r + 1) (k + q.1.length) = -24 := by rw [p4 _ _ (by omega)]; exact c2.1
      have n1 : ¬ T.2.2.1 (r + 1) ≤ k + q.1.length := by omega
      have n2 : k + q.1.length < T.2.2.1 (r + 1) := by omega
      have hpo := c_pop (m := 0) p2 (by omega)
      have e3 : S1.2 (r + 2) 0 = v := p3.1
      refine ⟨wI S1 r 2 (nI 0), ?_, ?_, ?_⟩
      · rw [p1]
        simp (disch := omega) only [f6_sumFor_L1, f1, nI_ltI, nI_leI, nI_eq, nI_clamp, nI_1, nI_add, nI_mul, inb_n, irm_n, nI_div, nI_m6, nI_d6, irm_6, qlt_1, qle_1, qgt_1, qge_1, qeq_1, qlt_2, qle_2, qgt_2, qge_2, qeq_2, qlt_3, qle_3, qgt_3, qge_3, qeq_3, qlt_4, qle_4, qgt_4, qge_4, qeq_4, qlt_5, qle_5, qgt_5, qge_5, qeq_5, qlt_6, qle_6, qgt_6, qge_6, qeq_6, qlt_7, qle_7, qgt_7, qge_7, qeq_7, qlt_8, qle_8, qgt_8, qge_8, qeq_8, qlt_9, qle_9, qgt_9, qge_9, qeq_9, qlt_10, qle_10, qgt_10, qge_10, qeq_10, qlt_12, qle_12, qgt_12, qge_12, qeq_12, qlt_16, qle_16, qgt_16, qge_16, qeq_16, qlt_20, qle_20, qgt_20, qge_20, qeq_20, qlt_24, qle_24, qgt_24, qge_24, qeq_24, qlt_30, qle_30, qgt_30, qge_30, qeq_30, qlt_32, qle_32, qgt_32, qge_32, qeq_32, qlt_37, qle_37, qgt_37, qge_37, qeq_37, qlt_40, qle_40, qgt_40, qge_40, qeq_40, qlt_42, qle_42, qgt_42, qge_42, qeq_42, qlt_43, qle_43, qgt_43, qge_43, qeq_43, qlt_45, qle_45, qgt_45, qge_45, qeq_45, qlt_47, qle_47, qgt_47, qge_47, qeq_47, qlt_48, qle_48, qgt_48, qge_48, qeq_48, qlt_57, qle_57, qgt_57, qge_57, qeq_57, qlt_59, qle_59, qgt_59, qge_59, qeq_59, qlt_60, qle_60, qgt_60, qge_60, qeq_60, qlt_61, qle_61, qgt_61, qge_61, qeq_61, qlt_62, qle_62, qgt_62, qge_62, qeq_62, qlt_64, qle_64, qgt_64, qge_64, qeq_64, qlt_91, qle_91, qgt_91, qge_91, qeq_91, qlt_93, qle_93, qgt_93, qge_93, qeq_93, qlt_97, qle_97, qgt_97, qge_97, qeq_97, qlt_122, qle_122, qgt_122, qge_122, qeq_122, qlt_400, qle_400, qgt_400, qge_400, qeq_400, qlt_999, qle_999, qgt_999, qge_999, qeq_999, qlt_0, qle_0, qgt_0, qge_0, qeq_0, qltm, qeqm, ↓reduceIte, Option.bind_some, not_true_eq_false, not_false_eq_true, and_true, true_and, and_false, false_and, or_false, false_or, or_true, true_or, Bool.false_eq_true, reduceCtorEq, n1, n2, hpo, e3, rlv, hq, ev, List.headD_cons]
      · intro a i hn; rw [wI_g, if_neg hn]; exact p4 a i hn
      · intro a hn; exact p5 a hn
    · rw [if_neg hq] at c2
      have ht' : tky 60 q.2 [] = some [true] := ht.resolve_left hq
      have hle := rcd_le c2.2.2
      have hy2 := evs_ty (w := wvN N) ht' (st := []) trivial
      obtain ⟨t, et, ht01⟩ := tyd_1 hy2
      obtain ⟨m, rfl⟩ : ∃ m, n = m + 1 + q.2.length + q.1.length := ⟨n - 1 - q.2.length - q.1.length, by omega⟩
      obtain ⟨S1, p1, p2, p3, p4, p5, p6⟩ := c_seg (T := T) (n := m + 1 + q.2.length) (st := []) hN hro hl (by omega) hH c1 (by omega) hs (by simp) trivial htop trivial
      rw [ev] at p2 p3
      have hc1 : cod (S1.1 (r + 1)) (k + q.1.length) q.2 := by
        have : S1.1 (r + 1) = S.1 (r + 1) := funext (fun i => p4 _ _ (by omega))
        rw [this]; exact c2.1
      have htu : tky 61 q.2 [false] = some [true, false] := tky_up [false] ht'
      have hty1 : tyd [false] [v] := ⟨fun z => absurd z (by decide), trivial⟩
      obtain ⟨S2, q1, q2, q3, q4, q5, q6⟩ := c_seg (T := T) (n := m + 1) hN hro hl (D := 61) (by omega) (hH.mono (fun a i h1 h2 => p4 a i (by omega))) hc1 (by omega) htu (by simp) hty1 p2 p3
      have ea : evs (wvN N) q.2 [v] = [t, v] := by
        have := evs_app (w := wvN N) hty1 ht' (st := []) trivial
        rw [List.nil_append] at this
        rw [this, et]; rfl
      rw [ea] at q2 q3
      have f1 : S2.1 (r + 1) (k + q.1.length + q.2.length) = -25 := by rw [q4 _ _ (by omega), p4 _ _ (by omega)]; exact c2.2.1
      have n1 : ¬ T.2.2.1 (r + 1) ≤ k + q.1.length + q.2.length := by omega
      have n2 : k + q.1.length + q.2.length < T.2.2.1 (r + 1) := by omega
      have m1 : ¬ ((-25 : Int32) = -24) := by decide
      have hpo := c_pop (m := 1) q2 (by omega)
      have hpo2 := c_pop (S := wI S2 r 2 (nI 1)) (m := 0) (wI_self _ _ _ _) (by omega)
      have e3 : S2.2 (r + 2) 1 = t := q3.1
      have e4 : S2.2 (r + 2) 0 = v := q3.2.1
      by_cases hz : t = 0
      · obtain ⟨S3, w1, w2, w3⟩ := ih (S := wI (wI S2 r 2 (nI 1)) r 2 (nI 0)) (n := m) (k := k + q.1.length + q.2.length + 1) (hH.mono (fun a i h1 h2 => by
          rw [wI_ne (by omega), wI_ne (by omega), q4 a i (by omega), p4 a i (by omega)])) (by
          have : (wI (wI S2 r 2 (nI 1)) r 2 (nI 0)).1 (r + 1) = S.1 (r + 1) := funext (fun i => by rw [wI_ne (by omega), wI_ne (by omega), q4 _ _ (by omega), p4 _ _ (by omega)])
          rw [this]; exact c2.2.2) (fun x hx => hok x (List.mem_cons_of_mem _ hx)) (by omega) (wI_self _ _ _ _)
        refine ⟨S3, ?_, ?_, ?_⟩
        · rw [p1, q1]
          simp (disch := omega) only [f6_sumFor_L1, f1, nI_ltI, nI_leI, nI_eq, nI_clamp, nI_1, nI_add, nI_mul, inb_n, irm_n, nI_div, nI_m6, nI_d6, irm_6, qlt_1, qle_1, qgt_1, qge_1, qeq_1, qlt_2, qle_2, qgt_2, qge_2, qeq_2, qlt_3, qle_3, qgt_3, qge_3, qeq_3, qlt_4, qle_4, qgt_4, qge_4, qeq_4, qlt_5, qle_5, qgt_5, qge_5, qeq_5, qlt_6, qle_6, qgt_6, qge_6, qeq_6, qlt_7, qle_7, qgt_7, qge_7, qeq_7, qlt_8, qle_8, qgt_8, qge_8, qeq_8, qlt_9, qle_9, qgt_9, qge_9, qeq_9, qlt_10, qle_10, qgt_10, qge_10, qeq_10, qlt_12, qle_12, qgt_12, qge_12, qeq_12, qlt_16, qle_16, qgt_16, qge_16, qeq_16, qlt_20, qle_20, qgt_20, qge_20, qeq_20, qlt_24, qle_24, qgt_24, qge_24, qeq_24, qlt_30, qle_30, qgt_30, qge_30, qeq_30, qlt_32, qle_32, qgt_32, qge_32, qeq_32, qlt_37, qle_37, qgt_37, qge_37, qeq_37, qlt_40, qle_40, qgt_40, qge_40, qeq_40, qlt_42, qle_42, qgt_42, qge_42, qeq_42, qlt_43, qle_43, qgt_43, qge_43, qeq_43, qlt_45, qle_45, qgt_45, qge_45, qeq_45, qlt_47, qle_47, qgt_47, qge_47, qeq_47, qlt_48, qle_48, qgt_48, qge_48, qeq_48, qlt_57, qle_57, qgt_57, qge_57, qeq_57, qlt_59, qle_59, qgt_59, qge_59, qeq_59, qlt_60, qle_60, qgt_60, qge_60, qeq_60, qlt_61, qle_61, qgt_61, qge_61, qeq_61, qlt_62, qle_62, qgt_62, qge_62, qeq_62, qlt_64, qle_64, qgt_64, qge_64, qeq_64, qlt_91, qle_91, qgt_91, qge_91, qeq_91, qlt_93, qle_93, qgt_93, qge_93, qeq_93, qlt_97, qle_97, qgt_97, qge_97, qeq_97, qlt_122, qle_122, qgt_122, qge_122, qeq_122, qlt_400, qle_400, qgt_400, qge_400, qeq_400, qlt_999, qle_999, qgt_999, qge_999, qeq_999, qlt_0, qle_0, qgt_0, qge_0, qeq_0, qltm, qeqm, ↓reduceIte, Option.bind_some, not_true_eq_false, not_false_eq_true, and_true, true_and, and_false, false_and, or_false, false_or, or_true, true_or, Bool.false_eq_true, reduceCtorEq, n1, n2, m1, hpo, hpo2, wI_L, e3, e4, lg_eq, hz, w1, rlv, hq, et, List.headD_cons]
        · intro a i hn
          rw [w2 a i hn, wI_g, if_neg hn, wI_g, if_neg hn, q4 a i hn, p4 a i hn]
        · intro a hn
          rw [w3 a hn, wI_L, wI_L, q5 a hn, p5 a hn]
      · refine ⟨wI (wI S2 r 2 (nI 1)) r 2 (nI 0), ?_, ?_, ?_⟩
        · rw [p1, q1]
          simp (disch := omega) only [f6_sumFor_L1, f1, nI_ltI, nI_leI, nI_eq, nI_clamp, nI_1, nI_add, nI_mul, inb_n, irm_n, nI_div, nI_m6, nI_d6, irm_6, qlt_1, qle_1, qgt_1, qge_1, qeq_1, qlt_2, qle_2, qgt_2, qge_2, qeq_2, qlt_3, qle_3, qgt_3, qge_3, qeq_3, qlt_4, qle_4, qgt_4, qge_4, qeq_4, qlt_5, qle_5, qgt_5, qge_5, qeq_5, qlt_6, qle_6, qgt_6, qge_6, qeq_6, qlt_7, qle_7, qgt_7, qge_7, qeq_7, qlt_8, qle_8, qgt_8, qge_8, qeq_8, qlt_9, qle_9, qgt_9, qge_9, qeq_9, qlt_10, qle_10, qgt_10, qge_10, qeq_10, qlt_12, qle_12, qgt_12, qge_12, qeq_12, qlt_16, qle_16, qgt_16, qge_16, qeq_16, qlt_20, qle_20, qgt_20, qge_20, qeq_20, qlt_24, qle_24, qgt_24, qge_24, qeq_24, qlt_30, qle_30, qgt_30, qge_30, qeq_30, qlt_32, qle_32, qgt_32, qge_32, qeq_32, qlt_37, qle_37, qgt_37, qge_37, qeq_37, qlt_40, qle_40, qgt_40, qge_40, qeq_40, qlt_42, qle_42, qgt_42, qge_42, qeq_42, qlt_43, qle_43, qgt_43, qge_43, qeq_43, qlt_45, qle_45, qgt_45, qge_45, qeq_45, qlt_47, qle_47, qgt_47, qge_47, qeq_47, qlt_48, qle_48, qgt_48, qge_48, qeq_48, qlt_57, qle_57, qgt_57, qge_57, qeq_57, qlt_59, qle_59, qgt_59, qge_59, qeq_59, qlt_60, qle_60, qgt_60, qge_60, qeq_60, qlt_61, qle_61, qgt_61, qge_61, qeq_61, qlt_62, qle_62, qgt_62, qge_62, qeq_62, qlt_64, qle_64, qgt_64, qge_64, qeq_64, qlt_91, qle_91, qgt_91, qge_91, qeq_91, qlt_93, qle_93, qgt_93, qge_93, qeq_93, qlt_97, qle_97, qgt_97, qge_97, qeq_97, qlt_122, qle_122, qgt_122, qge_122, qeq_122, qlt_400, qle_400, qgt_400, qge_400, qeq_400, qlt_999, qle_999, qgt_999, qge_999, qeq_999, qlt_0, qle_0, qgt_0, qge_0, qeq_0, qltm, qeqm, ↓reduceIte, Option.bind_some, not_true_eq_false, not_false_eq_true, and_true, true_and, and_false, false_and, or_false, false_or, or_true, true_or, Bool.false_eq_true, reduceCtorEq, n1, n2, m1, hpo, hpo2, wI_L, e3, e4, lg_eq, hz, rlv, hq, et, ev, List.headD_cons]
        · intro a i hn
          rw [wI_g, if_neg hn, wI_g, if_neg hn, q4 a i hn, p4 a i hn]
        · intro a hn
          rw [wI_L, wI_L, q5 a hn, p5 a hn]
theorem c_sum {T : jT} {S : jS} {r o : Nat} {N : mN} {R : mR} (hN : NOk N) (hro : o + 6 < r) (hl : T.2.2.1 (r + 1) ≤ 400) (hH : HIs (hC S o) N) (hc : rcd (S.1 (r + 1)) (T.2.2.1 (r + 1)) 0 R) (hok : ∀ q ∈ R, clOk q) : ∃ S1, f6_sumFor T S r o = some (S1, rlv (wvN N) R) ∧ (∀ a i, ¬ (a = r ∧ i = 2) → S1.1 a i = S.1 a i) ∧ (∀ a, a ≠ r + 2 → S1.2 a = S.2 a) := by
  have e : (wI S r 2 0).1 (r + 1) = S.1 (r + 1) := funext (fun i => wI_ne (by omega))
  obtain ⟨S1, p1, p2, p3⟩ := c_rule (T := T) (R := R) (S := wI S r 2 0) (n := jF) (k := 0) hN hro hl (hH.mono (fun a i h1 h2 => wI_ne (by omega))) (by rw [e]; exact hc) hok (by show _ < 5000; omega) (wI_self _ _ _ _)
  exact ⟨S1, p1, fun a i hn => by rw [p2 a i hn, wI_g, if_neg hn], fun a hn => p3 a hn⟩
