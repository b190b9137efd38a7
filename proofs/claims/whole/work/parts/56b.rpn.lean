def enS (x : Int32) : Int32 := if 0 ≤ x then 0 else if -10 ≤ x then 1 else if x = -11 then 2 else if x = -12 then 3 else if x = -13 then 13 else if x = -14 then 14 else if x = -15 then 15 else if x = -16 then 4 else if x = -17 then 5 else if x = -18 then 6 else if x = -19 then 7 else if x = -20 then 8 else if x = -21 then 10 else if x = -22 then 11 else 9
def enN (x : Int32) : Int32 := if 0 ≤ x then x else if -10 ≤ x then -1 - x else 0
theorem both_opv {x : Int32} {a b : Int64} (h1 : x < -10) (h2 : -22 ≤ x) : f11_both (enS x) a b = some (opv x a b) ∧ ¬ enS x = 0 ∧ ¬ enS x = 1 ∧ ¬ enS x = 9 := by
  have hx : x = -11 ∨ x = -12 ∨ x = -13 ∨ x = -14 ∨ x = -15 ∨ x = -16 ∨ x = -17 ∨ x = -18 ∨ x = -19 ∨ x = -20 ∨ x = -21 ∨ x = -22 := by grind
  rw [← join_opv]
  rcases hx with rfl | rfl | rfl | rfl | rfl | rfl | rfl | rfl | rfl | rfl | rfl | rfl
  · exact ⟨rfl, by decide, by decide, by decide⟩
  · exact ⟨rfl, by decide, by decide, by decide⟩
  · exact ⟨rfl, by decide, by decide, by decide⟩
  · exact ⟨rfl, by decide, by decide, by decide⟩
  · exact ⟨rfl, by decide, by decide, by decide⟩
  · refine ⟨?_, by decide, by decide, by decide⟩
    show Option.bind (f11_truth (((if 0 ≤ (lg_cmp a b) then 0 else 1) : Int32))) (fun r1 => some r1) = (if (0 : Int32) ≤ (lg_cmp a b) then some 0 else some 1)
    split <;> rfl
  · refine ⟨?_, by decide, by decide, by decide⟩
    show Option.bind (f11_truth (((if 0 < (lg_cmp a b) then 0 else 1) : Int32))) (fun r1 => some r1) = (if (0 : Int32) < (lg_cmp a b) then some 0 else some 1)
    split <;> rfl
  · refine ⟨?_, by decide, by decide, by decide⟩
    show Option.bind (f11_truth (((if (lg_cmp a b) = 0 then 1 else 0) : Int32))) (fun r1 => some r1) = (if (lg_cmp a b) = 0 then some 1 else some 0)
    split <;> rfl
  · refine ⟨?_, by decide, by decide, by decide⟩
    show Option.bind (f11_truth (((if (lg_cmp a b) < 0 then 0 else 1) : Int32))) (fun r1 => some r1) = (if (lg_cmp a b) < 0 then some 0 else some 1)
    split <;> rfl
  · refine ⟨?_, by decide, by decide, by decide⟩
    show Option.bind (f11_truth (((if (lg_cmp a b) ≤ 0 then 0 else 1) : Int32))) (fun r1 => some r1) = (if (lg_cmp a b) ≤ 0 then some 0 else some 1)
    split <;> rfl
  · exact ⟨rfl, by decide, by decide, by decide⟩
  · exact ⟨rfl, by decide, by decide, by decide⟩
theorem nI_m1 (m : Nat) : nI (m + 1) + -1 = nI m := by
  have := nI_succ m
  grind
theorem nI_300 (a : Nat) : 300 * nI a = nI (300 * a) := nI_mul 300 a
theorem nI_12 (a : Nat) : 12 * nI a = nI (12 * a) := nI_mul 12 a
def wAt (S : jS) (w : Nat → Int64) : Prop := ∀ k, k < 10 → S.2 37 k = w k
theorem r_tok {S : jS} {w : Nat → Int64} {sl e n k D : Nat} {x : Int32} {ts u : List Bool} {st : List Int64} (hw : wAt S w) (hsl : sl < 6) (hk : k < e) (he : e ≤ 300) (h30 : S.1 30 (300 * sl + k) = enS x) (h31 : S.1 31 (300 * sl + k) = enN x) (h : tk1 D x ts = some u) (hD : D ≤ 64) (hts : ts.length ≤ 64) (hty : tyd ts st) (hst : stk (S.2 38) st) :
    ∃ S1, f11_answer_L1 (nI sl) (nI e) (n + 1) S (nI st.length) (nI k) = f11_answer_L1 (nI sl) (nI e) n S1 (nI (ev1 w x st).length) (nI (k + 1)) ∧ stk (S1.2 38) (ev1 w x st) ∧ S1.1 = S.1 ∧ (∀ a, a ≠ 38 → S1.2 a = S.2 a) ∧ u.length ≤ 64 := by
  have n1 : ¬ e ≤ k := by omega
  have n2 : 300 * sl + k < 1800 := by omega
  have hlen := tyd_len hty
  unfold ev1
  rcases tk1_cs h with ⟨h1, h2, rfl⟩ | ⟨rfl, v, rfl, rfl⟩ | ⟨h1, h2, v, rfl, rfl⟩ | ⟨h1, h2, v, rfl, rfl⟩ | ⟨h1, h2, v, rfl, rfl⟩
  · have n3 : st.length < 300 := by omega
    by_cases h0 : 0 ≤ x
    · have e1 : enS x = 0 := by unfold enS; rw [if_pos h0]
      have e2 : enN x = x := by unfold enN; rw [if_pos h0]
      refine ⟨wL S 38 st.length x.toInt64, ?_, ?_, rfl, ?_, by simp; omega⟩
      · simp (disch := omega) only [f11_answer_L1, nI_300, nI_ltI, nI_leI, nI_eq, nI_clamp, nI_1, nI_add, nI_mul, inb_n, irm_n, nI_div, nI_m6, nI_d6, irm_6, qlt_1, qle_1, qgt_1, qge_1, qeq_1, qlt_2, qle_2, qgt_2, qge_2, qeq_2, qlt_3, qle_3, qgt_3, qge_3, qeq_3, qlt_4, qle_4, qgt_4, qge_4, qeq_4, qlt_5, qle_5, qgt_5, qge_5, qeq_5, qlt_6, qle_6, qgt_6, qge_6, qeq_6, qlt_7, qle_7, qgt_7, qge_7, qeq_7, qlt_8, qle_8, qgt_8, qge_8, qeq_8, qlt_9, qle_9, qgt_9, qge_9, qeq_9, qlt_10, qle_10, qgt_10, qge_10, qeq_10, qlt_12, qle_12, qgt_12, qge_12, qeq_12, qlt_16, qle_16, qgt_16, qge_16, qeq_16, qlt_20, qle_20, qgt_20, qge_20, qeq_20, qlt_24, qle_24, qgt_24, qge_24, qeq_24, qlt_30, qle_30, qgt_30, qge_30, qeq_30, qlt_32, qle_32, qgt_32, qge_32, qeq_32, qlt_37, qle_37, qgt_37, qge_37, qeq_37, qlt_40, qle_40, qgt_40, qge_40, qeq_40, qlt_42, qle_42, qgt_42, qge_42, qeq_42, qlt_43, qle_43, qgt_43, qge_43, qeq_43, qlt_45, qle_45, qgt_45, qge_45, qeq_45, qlt_47, qle_47, qgt_47, qge_47, qeq_47, qlt_48, qle_48, qgt_48, qge_48, qeq_48, qlt_57, qle_57, qgt_57, qge_57, qeq_57, qlt_59, qle_59, qgt_59, qge_59, qeq_59, qlt_60, qle_60, qgt_60, qge_60, qeq_60, qlt_61, qle_61, qgt_61, qge_61, qeq_61, qlt_62, qle_62, qgt_62, qge_62, qeq_62, qlt_64, qle_64, qgt_64, qge_64, qeq_64, qlt_91, qle_91, qgt_91, qge_91, qeq_91, qlt_93, qle_93, qgt_93, qge_93, qeq_93, qlt_97, qle_97, qgt_97, qge_97, qeq_97, qlt_122, qle_122, qgt_122, qge_122, qeq_122, qlt_400, qle_400, qgt_400, qge_400, qeq_400, qlt_999, qle_999, qgt_999, qge_999, qeq_999, qlt_0, qle_0, qgt_0, qge_0, qeq_0, qltm, qeqm, ↓reduceIte, Option.bind_some, not_true_eq_false, not_false_eq_true, and_true, true_and, and_false, false_and, or_false, false_or, or_true, true_or, Bool.false_eq_true, reduceCtorEq, n1, n2, n3, h30, h31, e1, e2, evs, h0, List.length_cons]
      · simp only [evs, h0, if_true]; exact stk_push hst
      · intro a hn; funext i; rw [wL_L, if_neg (fun z => hn z.1)]
    · have e1 : enS x = 1 := by unfold enS; rw [if_neg h0, if_pos h1]
      have e2 : enN x = -1 - x := by unfold enN; rw [if_neg h0, if_pos h1]
      obtain ⟨j, hj, e⟩ := nI_of2 (x := -1 - x) (M := 9) (n := 9) (by decide) (by grind) (by grind)
      have n4 : j < 10 := by omega
      have e3 := hw j n4
      refine ⟨wL S 38 st.length (w j), ?_, ?_, rfl, ?_, by simp; omega⟩
      · simp (disch := omega) only [f11_answer_L1, nI_300, nI_ltI, nI_leI, nI_eq, nI_clamp, nI_1, nI_add, nI_mul, inb_n, irm_n, nI_div, nI_m6, nI_d6, irm_6, qlt_1, qle_1, qgt_1, qge_1, qeq_1, qlt_2, qle_2, qgt_2, qge_2, qeq_2, qlt_3, qle_3, qgt_3, qge_3, qeq_3, qlt_4, qle_4, qgt_4, qge_4, qeq_4, qlt_5, qle_5, qgt_5, qge_5, qeq_5, qlt_6, qle_6, qgt_6, qge_6, qeq_6, qlt_7, qle_7, qgt_7, qge_7, qeq_7, qlt_8, qle_8, qgt_8, qge_8, qeq_8, qlt_9, qle_9, qgt_9, qge_9, qeq_9, qlt_10, qle_10, qgt_10, qge_10, qeq_10, qlt_12, qle_12, qgt_12, qge_12, qeq_12, qlt_16, qle_16, qgt_16, qge_16, qeq_16, qlt_20, qle_20, qgt_20, qge_20, qeq_20, qlt_24, qle_24, qgt_24, qge_24, qeq_24, qlt_30, qle_30, qgt_30, qge_30, qeq_30, qlt_32, qle_32, qgt_32, qge_32, qeq_32, qlt_37, qle_37, qgt_37, qge_37, qeq_37, qlt_40, qle_40, qgt_40, qge_40, qeq_40, qlt_42, qle_42, qgt_42, qge_42, qeq_42, qlt_43, qle_43, qgt_43, qge_43, qeq_43, qlt_45, qle_45, qgt_45, qge_45, qeq_45, qlt_47, qle_47, qgt_47, qge_47, qeq_47, qlt_48, qle_48, qgt_48, qge_48, qeq_48, qlt_57, qle_57, qgt_57, qge_57, qeq_57, qlt_59, qle_59, qgt_59, qge_59, qeq_59, qlt_60, qle_60, qgt_60, qge_60, qeq_60, qlt_61, qle_61, qgt_61, qge_61, qeq_61, qlt_62, qle_62, qgt_62, qge_62, qeq_62, qlt_64, qle_64, qgt_64, qge_64, qeq_64, qlt_91, qle_91, qgt_91, qge_91, qeq_91, qlt_93, qle_93, qgt_93, qge_93, qeq_93, qlt_97, qle_97, qgt_97, qge_97, qeq_97, qlt_122, qle_122, qgt_122, qge_122, qeq_122, qlt_400, qle_400, qgt_400, qge_400, qeq_400, qlt_999, qle_999, qgt_999, qge_999, qeq_999, qlt_0, qle_0, qgt_0, qge_0, qeq_0, qltm, qeqm, ↓reduceIte, Option.bind_some, not_true_eq_false, not_false_eq_true, and_true, true_and, and_false, false_and, or_false, false_or, or_true, true_or, Bool.false_eq_true, reduceCtorEq, n1, n2, n3, n4, h30, h31, e1, e2, e, e3, evs, h0, h1, one_ne0, List.length_cons]
      · simp (disch := omega) only [evs, h0, h1, if_false, if_true, e, nI_clamp]; exact stk_push hst
      · intro a hn; funext i; rw [wL_L, if_neg (fun z => hn z.1)]
  · obtain ⟨a, q, rfl, k1, k2⟩ := tyd_inv hty
    have hq := tyd_len k2
    simp only [List.length_cons] at hts hlen
    have e1 : enS (-23) = 9 := by decide
    have l1 : ¬ ((9 : Int32) = 0) := by decide
    have l2 : ¬ ((9 : Int32) = 1) := by decide
    have n3 : q.length < 300 := by omega
    have e : S.2 38 q.length = a := hst.1
    refine ⟨wL S 38 q.length (1 - a), ?_, ?_, rfl, ?_, by simpa using hts⟩
    · simp (disch := omega) only [f11_answer_L1, nI_300, nI_ltI, nI_leI, nI_eq, nI_clamp, nI_1, nI_add, nI_mul, inb_n, irm_n, nI_div, nI_m6, nI_d6, irm_6, qlt_1, qle_1, qgt_1, qge_1, qeq_1, qlt_2, qle_2, qgt_2, qge_2, qeq_2, qlt_3, qle_3, qgt_3, qge_3, qeq_3, qlt_4, qle_4, qgt_4, qge_4, qeq_4, qlt_5, qle_5, qgt_5, qge_5, qeq_5, qlt_6, qle_6, qgt_6, qge_6, qeq_6, qlt_7, qle_7, qgt_7, qge_7, qeq_7, qlt_8, qle_8, qgt_8, qge_8, qeq_8, qlt_9, qle_9, qgt_9, qge_9, qeq_9, qlt_10, qle_10, qgt_10, qge_10, qeq_10, qlt_12, qle_12, qgt_12, qge_12, qeq_12, qlt_16, qle_16, qgt_16, qge_16, qeq_16, qlt_20, qle_20, qgt_20, qge_20, qeq_20, qlt_24, qle_24, qgt_24, qge_24, qeq_24, qlt_30, qle_30, qgt_30, qge_30, qeq_30, qlt_32, qle_32, qgt_32, qge_32, qeq_32, qlt_37, qle_37, qgt_37, qge_37, qeq_37, qlt_40, qle_40, qgt_40, qge_40, qeq_40, qlt_42, qle_42, qgt_42, qge_42, qeq_42, qlt_43, qle_43, qgt_43, qge_43, qeq_43, qlt_45, qle_45, qgt_45, qge_45, qeq_45, qlt_47, qle_47, qgt_47, qge_47, qeq_47, qlt_48, qle_48, qgt_48, qge_48, qeq_48, qlt_57, qle_57, qgt_57, qge_57, qeq_57, qlt_59, qle_59, qgt_59, qge_59, qeq_59, qlt_60, qle_60, qgt_60, qge_60, qeq_60, qlt_61, qle_61, qgt_61, qge_61, qeq_61, qlt_62, qle_62, qgt_62, qge_62, qeq_62, qlt_64, qle_64, qgt_64, qge_64, qeq_64, qlt_91, qle_91, qgt_91, qge_91, qeq_91, qlt_93, qle_93, qgt_93, qge_93, qeq_93, qlt_97, qle_97, qgt_97, qge_97, qeq_97, qlt_122, qle_122, qgt_122, qge_122, qeq_122, qlt_400, qle_400, qgt_400, qge_400, qeq_400, qlt_999, qle_999, qgt_999, qge_999, qeq_999, qlt_0, qle_0, qgt_0, qge_0, qeq_0, qltm, qeqm, ↓reduceIte, Option.bind_some, not_true_eq_false, not_false_eq_true, and_true, true_and, and_false, false_and, or_false, false_or, or_true, true_or, Bool.false_eq_true, reduceCtorEq, n1, n2, n3, h30, e1, l1, l2, nI_pred, List.length_cons, e]
      rfl
    · exact stk_push hst.2
    · intro a hn; funext i; rw [wL_L, if_neg (fun z => hn z.1)]
  all_goals
    obtain ⟨b, q, rfl, k1, k2⟩ := tyd_inv hty
    obtain ⟨a, q, rfl, k3, k4⟩ := tyd_inv k2
    have hq := tyd_len k4
    simp only [List.length_cons] at hts hlen
    have l0 : ¬ 0 ≤ x := by grind
    have l1 : ¬ -10 ≤ x := by grind
    have l2 : ¬ x = -23 := by grind
    obtain ⟨b1, b2, b3, b4⟩ := both_opv (x := x) (a := a) (b := b) (by grind) (by grind)
    have n3 : q.length < 300 := by omega
    have n4 : q.length + 1 < 300 := by omega
    have e1 : S.2 38 (q.length + 1) = b := hst.1
    have e2 : S.2 38 q.length = a := hst.2.1
    refine ⟨wL S 38 q.length (opv x a b), ?_, ?_, rfl, ?_, by simp; omega⟩
    · simp (disch := omega) only [f11_answer_L1, nI_300, nI_ltI, nI_leI, nI_eq, nI_clamp, nI_1, nI_add, nI_mul, inb_n, irm_n, nI_div, nI_m6, nI_d6, irm_6, qlt_1, qle_1, qgt_1, qge_1, qeq_1, qlt_2, qle_2, qgt_2, qge_2, qeq_2, qlt_3, qle_3, qgt_3, qge_3, qeq_3, qlt_4, qle_4, qgt_4, qge_4, qeq_4, qlt_5, qle_5, qgt_5, qge_5, qeq_5, qlt_6, qle_6, qgt_6, qge_6, qeq_6, qlt_7, qle_7, qgt_7, qge_7, qeq_7, qlt_8, qle_8, qgt_8, qge_8, qeq_8, qlt_9, qle_9, qgt_9, qge_9, qeq_9, qlt_10, qle_10, qgt_10, qge_10, qeq_10, qlt_12, qle_12, qgt_12, qge_12, qeq_12, qlt_16, qle_16, qgt_16, qge_16, qeq_16, qlt_20, qle_20, qgt_20, qge_20, qeq_20, qlt_24, qle_24, qgt_24, qge_24, qeq_24, qlt_30, qle_30, qgt_30, qge_30, qeq_30, qlt_32, qle_32, qgt_32, qge_32, qeq_32, qlt_37, qle_37, qgt_37, qge_37, qeq_37, qlt_40, qle_40, qgt_40, qge_40, qeq_40, qlt_42, qle_42, qgt_42, qge_42, qeq_42, qlt_43, qle_43, qgt_43, qge_43, qeq_43, qlt_45, qle_45, qgt_45, qge_45, qeq_45, qlt_47, qle_47, qgt_47, qge_47, qeq_47, qlt_48, qle_48, qgt_48, qge_48, qeq_48, qlt_57, qle_57, qgt_57, qge_57, qeq_57, qlt_59, qle_59, qgt_59, qge_59, qeq_59, qlt_60, qle_60, qgt_60, qge_60, qeq_60, qlt_61, qle_61, qgt_61, qge_61, qeq_61, qlt_62, qle_62, qgt_62, qge_62, qeq_62, qlt_64, qle_64, qgt_64, qge_64, qeq_64, qlt_91, qle_91, qgt_91, qge_91, qeq_91, qlt_93, qle_93, qgt_93, qge_93, qeq_93, qlt_97, qle_97, qgt_97, qge_97, qeq_97, qlt_122, qle_122, qgt_122, qge_122, qeq_122, qlt_400, qle_400, qgt_400, qge_400, qeq_400, qlt_999, qle_999, qgt_999, qge_999, qeq_999, qlt_0, qle_0, qgt_0, qge_0, qeq_0, qltm, qeqm, ↓reduceIte, Option.bind_some, not_true_eq_false, not_false_eq_true, and_true, true_and, and_false, false_and, or_false, false_or, or_true, true_or, Bool.false_eq_true, reduceCtorEq, n1, n2, n3, n4, h30, b2, b3, b4, nI_m1, nI_pred, List.length_cons, e1, e2, b1, evs, l0, l1, l2]
    · simp only [evs, l0, l1, l2, if_false]
      exact stk_push hst.2.2
    · intro a hn; funext i; rw [wL_L, if_neg (fun z => hn z.1)]
def ents (f g : Nat → Int32) : Nat → List Int32 → Prop
  | _, [] => True
  | k, x :: r => (f k = enS x ∧ g k = enN x) ∧ ents f g (k + 1) r
theorem r_seg {w : Nat → Int64} {sl e D : Nat} (hsl : sl < 6) (he : e ≤ 300) (hD : D ≤ 64) : ∀ {s : List Int32} {S : jS} {n k : Nat} {ts u : List Bool} {st : List Int64}, wAt S w → ents (S.1 30) (S.1 31) (300 * sl + k) s → k + s.length ≤ e → tky D s ts = some u → ts.length ≤ 64 → tyd ts st → stk (S.2 38) st →
    ∃ S1, f11_answer_L1 (nI sl) (nI e) (n + s.length) S (nI st.length) (nI k) = f11_answer_L1 (nI sl) (nI e) n S1 (nI (evs w s st).length) (nI (k + s.length)) ∧ stk (S1.2 38) (evs w s st) ∧ S1.1 = S.1 ∧ (∀ a, a ≠ 38 → S1.2 a = S.2 a) := by
  intro s
  induction s with
  | nil =>
    intro S n k ts u st hw hc hk hy hts hty hst
    cases hy
    exact ⟨S, rfl, hst, rfl, fun _ _ => rfl⟩
  | cons x s ih =>
    intro S n k ts u st hw hc hk hy hts hty hst
    obtain ⟨v, y1, y2⟩ := tky_cons hy
    simp only [List.length_cons] at hk ⊢
    obtain ⟨S1, p1, p3, p4, p5, p6⟩ := r_tok (n := n + s.length) hw hsl (by omega) he hc.1.1 hc.1.2 y1 hD hts hty hst
    obtain ⟨e1, e2⟩ := evs_cons (w := w) (r := s) y1 hty
    obtain ⟨S2, q1, q3, q4, q5⟩ := ih (S := S1) (n := n) (k := k + 1) (fun j hj => by rw [p5 _ (by omega)]; exact hw j hj) (by rw [p4]; exact hc.2) (by omega) y2 p6 e2 p3
    refine ⟨S2, ?_, ?_, q4.trans p4, fun a hn => (q5 a hn).trans (p5 a hn)⟩
    · rw [show n + (s.length + 1) = n + s.length + 1 by omega, p1, q1, e1, show k + 1 + s.length = k + (s.length + 1) by omega]
    · rw [e1]; exact q3
theorem r_answer {S : jS} {w : Nat → Int64} {sl k : Nat} {s : List Int32} {t : Bool} (hw : wAt S w) (hsl : sl < 6) (he : k + s.length ≤ 300) (hc : ents (S.1 30) (S.1 31) (300 * sl + k) s) (hy : tky 60 s [] = some [t]) : ∃ S1, f11_answer S (nI sl) (nI k) (nI (k + s.length)) = some (S1, (evs w s []).headD 0) ∧ S1.1 = S.1 ∧ (∀ a, a ≠ 38 → S1.2 a = S.2 a) := by
  obtain ⟨S1, p1, p2, p3, p4⟩ := r_seg (e := k + s.length) (n := 4999 - s.length + 1) (D := 60) (st := []) hsl he (by omega) hw hc (Nat.le_refl _) hy (by simp) trivial trivial
  obtain ⟨v, ev, -⟩ := tyd_1 (evs_ty (w := w) hy (st := []) trivial)
  rw [ev] at p1 p2
  refine ⟨S1, ?_, p3, p4⟩
  unfold f11_answer
  have hj : jF = 4999 - s.length + 1 + s.length := by show 5000 = _; omega
  have p1' : f11_answer_L1 (nI sl) (nI (k + s.length)) jF S 0 (nI k) = some S1 := by
    rw [hj]
    refine p1.trans ?_
    simp (disch := omega) only [f11_answer_L1, nI_ltI, nI_leI, nI_eq, nI_clamp, nI_1, nI_add, nI_mul, inb_n, irm_n, nI_div, nI_m6, nI_d6, irm_6, qlt_1, qle_1, qgt_1, qge_1, qeq_1, qlt_2, qle_2, qgt_2, qge_2, qeq_2, qlt_3, qle_3, qgt_3, qge_3, qeq_3, qlt_4, qle_4, qgt_4, qge_4, qeq_4, qlt_5, qle_5, qgt_5, qge_5, qeq_5, qlt_6, qle_6, qgt_6, qge_6, qeq_6, qlt_7, qle_7, qgt_7, qge_7, qeq_7, qlt_8, qle_8, qgt_8, qge_8, qeq_8, qlt_9, qle_9, qgt_9, qge_9, qeq_9, qlt_10, qle_10, qgt_10, qge_10, qeq_10, qlt_12, qle_12, qgt_12, qge_12, qeq_12, qlt_16, qle_16, qgt_16, qge_16, qeq_16, qlt_20, qle_20, qgt_20, qge_20, qeq_20, qlt_24, qle_24, qgt_24, qge_24, qeq_24, qlt_30, qle_30, qgt_30, qge_30, qeq_30, qlt_32, qle_32, qgt_32, qge_32, qeq_32, qlt_37, qle_37, qgt_37, qge_37, qeq_37, qlt_40, qle_40, qgt_40, qge_40, qeq_40, qlt_42, qle_42, qgt_42, qge_42, qeq_42, qlt_43, qle_43, qgt_43, qge_43, qeq_43, qlt_45, qle_45, qgt_45, qge_45, qeq_45, qlt_47, qle_47, qgt_47, qge_47, qeq_47, qlt_48, qle_48, qgt_48, qge_48, qeq_48, qlt_57, qle_57, qgt_57, qge_57, qeq_57, qlt_59, qle_59, qgt_59, qge_59, qeq_59, qlt_60, qle_60, qgt_60, qge_60, qeq_60, qlt_61, qle_61, qgt_61, qge_61, qeq_61, qlt_62, qle_62, qgt_62, qge_62, qeq_62, qlt_64, qle_64, qgt_64, qge_64, qeq_64, qlt_91, qle_91, qgt_91, qge_91, qeq_91, qlt_93, qle_93, qgt_93, qge_93, qeq_93, qlt_97, qle_97, qgt_97, qge_97, qeq_97, qlt_122, qle_122, qgt_122, qge_122, qeq_122, qlt_400, qle_400, qgt_400, qge_400, qeq_400, qlt_999, qle_999, qgt_999, qge_999, qeq_999, qlt_0, qle_0, qgt_0, qge_0, qeq_0, qltm, qeqm, ↓reduceIte, Option.bind_some, not_true_eq_false, not_false_eq_true, and_true, true_and, and_false, false_and, or_false, false_or, or_true, true_or, Bool.false_eq_true, reduceCtorEq, Nat.le_refl]
  rw [p1', ev]
  have e3 : S1.2 38 0 = v := p2.1
  rw [Option.bind_some, e3]; rfl
def rre (S : jS) (sl : Nat) : Nat → Nat → mR → Prop
  | _, k, [] => k ≤ 300
  | i, k, q :: r => S.1 33 (12 * sl + i) = nI k ∧ S.1 34 (12 * sl + i) = nI (k + q.1.length) ∧ S.1 35 (12 * sl + i) = nI (k + q.1.length + q.2.length) ∧ ents (S.1 30) (S.1 31) (300 * sl + k) q.1 ∧ ents (S.1 30) (S.1 31) (300 * sl + (k + q.1.length)) q.2 ∧ rre S sl (i + 1) (k + q.1.length + q.2.length) r
theorem rre_le {S : jS} {sl : Nat} : ∀ {r : mR} {i k : Nat}, rre S sl i k r → k ≤ 300 := by
  intro r
  induction r with
  | nil => intro i k h; exact h
  | cons q r ih => intro i k h; have := ih h.2.2.2.2.2; omega
theorem rre_ext {S S1 : jS} (h : S1.1 = S.1) {sl : Nat} : ∀ {r : mR} {i k : Nat}, rre S sl i k r → rre S1 sl i k r := by
  intro r
  induction r with
  | nil => intro i k h; exact h
  | cons q r ih =>
    intro i k g
    unfold rre
    rw [h]
    exact ⟨g.1, g.2.1, g.2.2.1, g.2.2.2.1, g.2.2.2.2.1, ih g.2.2.2.2.2⟩
theorem r_rule {w : Nat → Int64} {sl c : Nat} (hsl : sl < 6) (hc12 : c ≤ 12) : ∀ {R : mR} {S : jS} {n i k : Nat}, wAt S w → S.1 32 sl = nI c → i + R.length = c → rre S sl i k R → (∀ q ∈ R, clOk q) → R.length < n →
    ∃ S1, f11_wanted_L1 (nI sl) n S (nI (12 * sl + i)) = some (S1, rlv w R) ∧ S1.1 = S.1 ∧ (∀ a, a ≠ 38 → S1.2 a = S.2 a) := by
  intro R
  induction R with
  | nil =>
    intro S n i k hw h32 hi hr hok hn
    obtain ⟨m, rfl⟩ : ∃ m, n = m + 1 := ⟨n - 1, by simp at hn; omega⟩
    have e : i = c := by simpa using hi
    subst e
    refine ⟨S, ?_, rfl, fun _ _ => rfl⟩
    simp (disch := omega) only [f11_wanted_L1, h32, nI_12, nI_ltI, nI_leI, nI_eq, nI_clamp, nI_1, nI_add, nI_mul, inb_n, irm_n, nI_div, nI_m6, nI_d6, irm_6, qlt_1, qle_1, qgt_1, qge_1, qeq_1, qlt_2, qle_2, qgt_2, qge_2, qeq_2, qlt_3, qle_3, qgt_3, qge_3, qeq_3, qlt_4, qle_4, qgt_4, qge_4, qeq_4, qlt_5, qle_5, qgt_5, qge_5, qeq_5, qlt_6, qle_6, qgt_6, qge_6, qeq_6, qlt_7, qle_7, qgt_7, qge_7, qeq_7, qlt_8, qle_8, qgt_8, qge_8, qeq_8, qlt_9, qle_9, qgt_9, qge_9, qeq_9, qlt_10, qle_10, qgt_10, qge_10, qeq_10, qlt_12, qle_12, qgt_12, qge_12, qeq_12, qlt_16, qle_16, qgt_16, qge_16, qeq_16, qlt_20, qle_20, qgt_20, qge_20, qeq_20, qlt_24, qle_24, qgt_24, qge_24, qeq_24, qlt_30, qle_30, qgt_30, qge_30, qeq_30, qlt_32, qle_32, qgt_32, qge_32, qeq_32, qlt_37, qle_37, qgt_37, qge_37, qeq_37, qlt_40, qle_40, qgt_40, qge_40, qeq_40, qlt_42, qle_42, qgt_42, qge_42, qeq_42, qlt_43, qle_43, qgt_43, qge_43, qeq_43, qlt_45, qle_45, qgt_45, qge_45, qeq_45, qlt_47, qle_47, qgt_47, qge_47, qeq_47, qlt_48, qle_48, qgt_48, qge_48, qeq_48, qlt_57, qle_57, qgt_57, qge_57, qeq_57, qlt_59, qle_59, qgt_59, qge_59, qeq_59, qlt_60, qle_60, qgt_60, qge_60, qeq_60, qlt_61, qle_61, qgt_61, qge_61, qeq_61, qlt_62, qle_62, qgt_62, qge_62, qeq_62, qlt_64, qle_64, qgt_64, qge_64, qeq_64, qlt_91, qle_91, qgt_91, qge_91, qeq_91, qlt_93, qle_93, qgt_93, qge_93, qeq_93, qlt_97, qle_97, qgt_97, qge_97, qeq_97, qlt_122, qle_122, qgt_122, qge_122, qeq_122, qlt_400, qle_400, qgt_400, qge_400, qeq_400, qlt_999, qle_999, qgt_999, qge_999, qeq_999, qlt_0, qle_0, qgt_0, qge_0, qeq_0, qltm, qeqm, ↓reduceIte, Option.bind_some, not_true_eq_false, not_false_eq_true, and_true, true_and, and_false, false_and, or_false, false_or, or_true, true_or, Bool.false_eq_true, reduceCtorEq, hsl, Nat.le_refl, rlv]
  | cons q R ih =>
    intro S n i k hw h32 hi hr hok hn
    simp only [List.length_cons] at hi hn
    obtain ⟨m, rfl⟩ : ∃ m, n = m + 1 := ⟨n - 1, by omega⟩
    obtain ⟨hs, ht⟩ := hok q List.mem_cons_self
    obtain ⟨r1, r2, r3, r4, r5, r6⟩ := hr
    have hle := rre_le r6
    have n1 : ¬ 12 * sl + c ≤ 12 * sl + i := by omega
    have n2 : 12 * sl + i < 72 := by omega
    by_cases hq : q.2 = []
    · obtain ⟨S1, p1, p2, p3⟩ := r_answer hw hsl (by omega) r4 hs
      have e0 : k + q.1.length = k + q.1.length + q.2.length := by rw [hq]; rfl
      rw [← e0] at r3
      refine ⟨S1, ?_, p2, p3⟩
      simp (disch := omega) only [f11_wanted_L1, h32, nI_12, nI_ltI, nI_leI, nI_eq, nI_clamp, nI_1, nI_add, nI_mul, inb_n, irm_n, nI_div, nI_m6, nI_d6, irm_6, qlt_1, qle_1, qgt_1, qge_1, qeq_1, qlt_2, qle_2, qgt_2, qge_2, qeq_2, qlt_3, qle_3, qgt_3, qge_3, qeq_3, qlt_4, qle_4, qgt_4, qge_4, qeq_4, qlt_5, qle_5, qgt_5, qge_5, qeq_5, qlt_6, qle_6, qgt_6, qge_6, qeq_6, qlt_7, qle_7, qgt_7, qge_7, qeq_7, qlt_8, qle_8, qgt_8, qge_8, qeq_8, qlt_9, qle_9, qgt_9, qge_9, qeq_9, qlt_10, qle_10, qgt_10, qge_10, qeq_10, qlt_12, qle_12, qgt_12, qge_12, qeq_12, qlt_16, qle_16, qgt_16, qge_16, qeq_16, qlt_20, qle_20, qgt_20, qge_20, qeq_20, qlt_24, qle_24, qgt_24, qge_24, qeq_24, qlt_30, qle_30, qgt_30, qge_30, qeq_30, qlt_32, qle_32, qgt_32, qge_32, qeq_32, qlt_37, qle_37, qgt_37, qge_37, qeq_37, qlt_40, qle_40, qgt_40, qge_40, qeq_40, qlt_42, qle_42, qgt_42, qge_42, qeq_42, qlt_43, qle_43, qgt_43, qge_43, qeq_43, qlt_45, qle_45, qgt_45, qge_45, qeq_45, qlt_47, qle_47, qgt_47, qge_47, qeq_47, qlt_48, qle_48, qgt_48, qge_48, qeq_48, qlt_57, qle_57, qgt_57, qge_57, qeq_57, qlt_59, qle_59, qgt_59, qge_59, qeq_59, qlt_60, qle_60, qgt_60, qge_60, qeq_60, qlt_61, qle_61, qgt_61, qge_61, qeq_61, qlt_62, qle_62, qgt_62, qge_62, qeq_62, qlt_64, qle_64, qgt_64, qge_64, qeq_64, qlt_91, qle_91, qgt_91, qge_91, qeq_91, qlt_93, qle_93, qgt_93, qge_93, qeq_93, qlt_97, qle_97, qgt_97, qge_97, qeq_97, qlt_122, qle_122, qgt_122, qge_122, qeq_122, qlt_400, qle_400, qgt_400, qge_400, qeq_400, qlt_999, qle_999, qgt_999, qge_999, qeq_999, qlt_0, qle_0, qgt_0, qge_0, qeq_0, qltm, qeqm, ↓reduceIte, Option.bind_some, not_true_eq_false, not_false_eq_true, and_true, true_and, and_false, false_and, or_false, false_or, or_true, true_or, Bool.false_eq_true, reduceCtorEq, hsl, n1, n2, r1, r2, r3, p1, rlv, hq]
    · have ht' : tky 60 q.2 [] = some [true] := ht.resolve_left hq
      have hne : ¬ k + q.1.length = k + q.1.length + q.2.length := by
        have : 0 < q.2.length := by
          cases e : q.2 with
          | nil => exact absurd e hq
          | cons _ _ => simp
        omega
      obtain ⟨S1, p1, p2, p3⟩ := r_answer hw hsl (by omega) r5 ht'
      have hw1 : wAt S1 w := fun j hj => by rw [p3 _ (by omega)]; exact hw j hj
      obtain ⟨t, et, ht01⟩ := tyd_1 (evs_ty (w := w) ht' (st := []) trivial)
      have eh : (evs w q.2 []).headD 0 = t := by rw [et]; rfl
      rw [eh] at p1
      by_cases hz : t = 0
      · have hz1 : ¬ t = 1 := by rw [hz]; decide
        obtain ⟨S2, q1, q2, q3⟩ := ih (n := m) hw1 (by rw [p2]; exact h32) (by omega) (rre_ext p2 r6) (fun x hx => hok x (List.mem_cons_of_mem _ hx)) (by omega)
        refine ⟨S2, ?_, q2.trans p2, fun a hn => (q3 a hn).trans (p3 a hn)⟩
        rw [rlv, if_neg hq, eh, if_pos hz]
        simp (disch := omega) only [f11_wanted_L1, h32, nI_12, nI_ltI, nI_leI, nI_eq, nI_clamp, nI_1, nI_add, nI_mul, inb_n, irm_n, nI_div, nI_m6, nI_d6, irm_6, qlt_1, qle_1, qgt_1, qge_1, qeq_1, qlt_2, qle_2, qgt_2, qge_2, qeq_2, qlt_3, qle_3, qgt_3, qge_3, qeq_3, qlt_4, qle_4, qgt_4, qge_4, qeq_4, qlt_5, qle_5, qgt_5, qge_5, qeq_5, qlt_6, qle_6, qgt_6, qge_6, qeq_6, qlt_7, qle_7, qgt_7, qge_7, qeq_7, qlt_8, qle_8, qgt_8, qge_8, qeq_8, qlt_9, qle_9, qgt_9, qge_9, qeq_9, qlt_10, qle_10, qgt_10, qge_10, qeq_10, qlt_12, qle_12, qgt_12, qge_12, qeq_12, qlt_16, qle_16, qgt_16, qge_16, qeq_16, qlt_20, qle_20, qgt_20, qge_20, qeq_20, qlt_24, qle_24, qgt_24, qge_24, qeq_24, qlt_30, qle_30, qgt_30, qge_30, qeq_30, qlt_32, qle_32, qgt_32, qge_32, qeq_32, qlt_37, qle_37, qgt_37, qge_37, qeq_37, qlt_40, qle_40, qgt_40, qge_40, qeq_40, qlt_42, qle_42, qgt_42, qge_42, qeq_42, qlt_43, qle_43, qgt_43, qge_43, qeq_43, qlt_45, qle_45, qgt_45, qge_45, qeq_45, qlt_47, qle_47, qgt_47, qge_47, qeq_47, qlt_48, qle_48, qgt_48, qge_48, qeq_48, qlt_57, qle_57, qgt_57, qge_57, qeq_57, qlt_59, qle_59, qgt_59, qge_59, qeq_59, qlt_60, qle_60, qgt_60, qge_60, qeq_60, qlt_61, qle_61, qgt_61, qge_61, qeq_61, qlt_62, qle_62, qgt_62, qge_62, qeq_62, qlt_64, qle_64, qgt_64, qge_64, qeq_64, qlt_91, qle_91, qgt_91, qge_91, qeq_91, qlt_93, qle_93, qgt_93, qge_93, qeq_93, qlt_97, qle_97, qgt_97, qge_97, qeq_97, qlt_122, qle_122, qgt_122, qge_122, qeq_122, qlt_400, qle_400, qgt_400, qge_400, qeq_400, qlt_999, qle_999, qgt_999, qge_999, qeq_999, qlt_0, qle_0, qgt_0, qge_0, qeq_0, qltm, qeqm, ↓reduceIte, Option.bind_some, not_true_eq_false, not_false_eq_true, and_true, true_and, and_false, false_and, or_false, false_or, or_true, true_or, Bool.false_eq_true, reduceCtorEq, hsl, n1, n2, r1, r2, r3, hne, p1, lg_eq, hz1]
        exact q1
      · have hz1 : t = 1 := (ht01 rfl).resolve_left hz
        obtain ⟨S2, q1, q2, q3⟩ := r_answer (S := S1) (s := q.1) (k := k) hw1 hsl (by omega) (by rw [p2]; exact r4) hs
        refine ⟨S2, ?_, q2.trans p2, fun a hn => (q3 a hn).trans (p3 a hn)⟩
        rw [rlv, if_neg hq, eh, if_neg hz]
        simp (disch := omega) only [f11_wanted_L1, h32, nI_12, nI_ltI, nI_leI, nI_eq, nI_clamp, nI_1, nI_add, nI_mul, inb_n, irm_n, nI_div, nI_m6, nI_d6, irm_6, qlt_1, qle_1, qgt_1, qge_1, qeq_1, qlt_2, qle_2, qgt_2, qge_2, qeq_2, qlt_3, qle_3, qgt_3, qge_3, qeq_3, qlt_4, qle_4, qgt_4, qge_4, qeq_4, qlt_5, qle_5, qgt_5, qge_5, qeq_5, qlt_6, qle_6, qgt_6, qge_6, qeq_6, qlt_7, qle_7, qgt_7, qge_7, qeq_7, qlt_8, qle_8, qgt_8, qge_8, qeq_8, qlt_9, qle_9, qgt_9, qge_9, qeq_9, qlt_10, qle_10, qgt_10, qge_10, qeq_10, qlt_12, qle_12, qgt_12, qge_12, qeq_12, qlt_16, qle_16, qgt_16, qge_16, qeq_16, qlt_20, qle_20, qgt_20, qge_20, qeq_20, qlt_24, qle_24, qgt_24, qge_24, qeq_24, qlt_30, qle_30, qgt_30, qge_30, qeq_30, qlt_32, qle_32, qgt_32, qge_32, qeq_32, qlt_37, qle_37, qgt_37, qge_37, qeq_37, qlt_40, qle_40, qgt_40, qge_40, qeq_40, qlt_42, qle_42, qgt_42, qge_42, qeq_42, qlt_43, qle_43, qgt_43, qge_43, qeq_43, qlt_45, qle_45, qgt_45, qge_45, qeq_45, qlt_47, qle_47, qgt_47, qge_47, qeq_47, qlt_48, qle_48, qgt_48, qge_48, qeq_48, qlt_57, qle_57, qgt_57, qge_57, qeq_57, qlt_59, qle_59, qgt_59, qge_59, qeq_59, qlt_60, qle_60, qgt_60, qge_60, qeq_60, qlt_61, qle_61, qgt_61, qge_61, qeq_61, qlt_62, qle_62, qgt_62, qge_62, qeq_62, qlt_64, qle_64, qgt_64, qge_64, qeq_64, qlt_91, qle_91, qgt_91, qge_91, qeq_91, qlt_93, qle_93, qgt_93, qge_93, qeq_93, qlt_97, qle_97, qgt_97, qge_97, qeq_97, qlt_122, qle_122, qgt_122, qge_122, qeq_122, qlt_400, qle_400, qgt_400, qge_400, qeq_400, qlt_999, qle_999, qgt_999, qge_999, qeq_999, qlt_0, qle_0, qgt_0, qge_0, qeq_0, qltm, qeqm, ↓reduceIte, Option.bind_some, not_true_eq_false, not_false_eq_true, and_true, true_and, and_false, false_and, or_false, false_or, or_true, true_or, Bool.false_eq_true, reduceCtorEq, hsl, n1, n2, r1, r2, r3, hne, p1, p2, lg_eq, hz1, q1]
