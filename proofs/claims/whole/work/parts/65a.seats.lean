theorem cE_0 {N : mN} {tg : Bool} {s : Nat} : (if pcn s = mstN N then (0 : Int32) else 1048576) = cE (lsG N tg 0 s) := by
  unfold lsG; split <;> rfl
theorem rE_0 {N : mN} {tg : Bool} {s : Nat} : (if pcn s = mstN N then (0 : Int32) else 99999) = rE (lsG N tg 0 s) := by
  unfold lsG; split <;> rfl
theorem c_ls1 {T : jT} {S : jS} {o : Nat} {N : mN} {tg : Bool} {x : Int32} (hT : LayT81 T) (ho : 100 ≤ o) (hN : NOk N) (h : HIs (hC S o) N) : ∃ S1, f8_leastTime_L1 T o x (nI (mstN N)) jF S 0 = some S1 ∧ (∀ s, s < 64 → S1.1 (82 + N 0 2) s = cE (lsG N tg 0 s)) ∧ (∀ a i, a ≠ 82 + N 0 2 → S1.1 a i = S.1 a i) := by
  have hG := hN.2.2.1
  have hms : mstN N ≤ 7 := by have := pcn_le0 _ hN.i; unfold mstN; omega
  have t8 := hT (N 0 2) (by omega)
  exact lp_up (G := 64) (Post := fun r : jS => (∀ s, s < 64 → r.1 (82 + N 0 2) s = cE (lsG N tg 0 s)) ∧ (∀ a i, a ≠ 82 + N 0 2 → r.1 a i = S.1 a i)) (fun m k S' => f8_leastTime_L1 T o x (nI (mstN N)) m S' (nI k)) (fun k r => (∀ s, s < k → r.1 (82 + N 0 2) s = cE (lsG N tg 0 s)) ∧ (∀ a i, a ≠ 82 + N 0 2 → r.1 a i = S.1 a i)) (by
    rintro m k S' hk ⟨g1, g2⟩
    left
    have e2 : S'.1 o 2 = nI (N 0 2) := (g2 _ _ (by omega)).trans (h.1 2 (by omega) (by omega))
    have n1 : ¬ 64 ≤ k := by omega
    have n8 : N 0 2 < 8 := by omega
    have hp := pcn_le0 k (by omega)
    refine ⟨wI S' (82 + N 0 2) k (cE (lsG N tg 0 k)), ?_, fun s hs => ?_, fun a i ha => by rw [wI_ne ha]; exact g2 a i ha⟩
    · show f8_leastTime_L1 T o x (nI (mstN N)) (m + 1) S' (nI k) = _
      rw [f8_leastTime_L1, ← cE_0]
      simp (disch := omega) only [e2, bitc, t8, nI_ltI, nI_leI, nI_eq, nI_clamp, nI_1, nI_add, nI_mul, inb_n, irm_n, nI_div, nI_m6, nI_d6, irm_6, qlt_1, qle_1, qgt_1, qge_1, qeq_1, qlt_2, qle_2, qgt_2, qge_2, qeq_2, qlt_3, qle_3, qgt_3, qge_3, qeq_3, qlt_4, qle_4, qgt_4, qge_4, qeq_4, qlt_5, qle_5, qgt_5, qge_5, qeq_5, qlt_6, qle_6, qgt_6, qge_6, qeq_6, qlt_7, qle_7, qgt_7, qge_7, qeq_7, qlt_8, qle_8, qgt_8, qge_8, qeq_8, qlt_9, qle_9, qgt_9, qge_9, qeq_9, qlt_10, qle_10, qgt_10, qge_10, qeq_10, qlt_12, qle_12, qgt_12, qge_12, qeq_12, qlt_16, qle_16, qgt_16, qge_16, qeq_16, qlt_20, qle_20, qgt_20, qge_20, qeq_20, qlt_24, qle_24, qgt_24, qge_24, qeq_24, qlt_30, qle_30, qgt_30, qge_30, qeq_30, qlt_32, qle_32, qgt_32, qge_32, qeq_32, qlt_37, qle_37, qgt_37, qge_37, qeq_37, qlt_40, qle_40, qgt_40, qge_40, qeq_40, qlt_42, qle_42, qgt_42, qge_42, qeq_42, qlt_43, qle_43, qgt_43, qge_43, qeq_43, qlt_45, qle_45, qgt_45, qge_45, qeq_45, qlt_47, qle_47, qgt_47, qge_47, qeq_47, qlt_48, qle_48, qgt_48, qge_48, qeq_48, qlt_57, qle_57, qgt_57, qge_57, qeq_57, qlt_59, qle_59, qgt_59, qge_59, qeq_59, qlt_60, qle_60, qgt_60, qge_60, qeq_60, qlt_61, qle_61, qgt_61, qge_61, qeq_61, qlt_62, qle_62, qgt_62, qge_62, qeq_62, qlt_64, qle_64, qgt_64, qge_64, qeq_64, qlt_91, qle_91, qgt_91, qge_91, qeq_91, qlt_93, qle_93, qgt_93, qge_93, qeq_93, qlt_97, qle_97, qgt_97, qge_97, qeq_97, qlt_122, qle_122, qgt_122, qge_122, qeq_122, qlt_400, qle_400, qgt_400, qge_400, qeq_400, qlt_999, qle_999, qgt_999, qge_999, qeq_999, qlt_0, qle_0, qgt_0, qge_0, qeq_0, qltm, qeqm, ↓reduceIte, Option.bind_some, not_true_eq_false, not_false_eq_true, and_true, true_and, and_false, false_and, or_false, false_or, or_true, true_or, Bool.false_eq_true, reduceCtorEq, n1, n8, hk]
    · by_cases e : s = k
      · subst e; exact wI_self _ _ _ _
      · rw [wI_nj e]; exact g1 s (by omega)) (by
    rintro m S' hI
    refine ⟨S', ?_, hI⟩
    have n1 : 64 ≤ 64 := by omega
    show f8_leastTime_L1 T o x (nI (mstN N)) (m + 1) S' (nI 64) = _
    rw [f8_leastTime_L1]
    simp (disch := omega) only [nI_ltI, nI_leI, nI_eq, nI_clamp, nI_1, nI_add, nI_mul, inb_n, irm_n, nI_div, nI_m6, nI_d6, irm_6, qlt_1, qle_1, qgt_1, qge_1, qeq_1, qlt_2, qle_2, qgt_2, qge_2, qeq_2, qlt_3, qle_3, qgt_3, qge_3, qeq_3, qlt_4, qle_4, qgt_4, qge_4, qeq_4, qlt_5, qle_5, qgt_5, qge_5, qeq_5, qlt_6, qle_6, qgt_6, qge_6, qeq_6, qlt_7, qle_7, qgt_7, qge_7, qeq_7, qlt_8, qle_8, qgt_8, qge_8, qeq_8, qlt_9, qle_9, qgt_9, qge_9, qeq_9, qlt_10, qle_10, qgt_10, qge_10, qeq_10, qlt_12, qle_12, qgt_12, qge_12, qeq_12, qlt_16, qle_16, qgt_16, qge_16, qeq_16, qlt_20, qle_20, qgt_20, qge_20, qeq_20, qlt_24, qle_24, qgt_24, qge_24, qeq_24, qlt_30, qle_30, qgt_30, qge_30, qeq_30, qlt_32, qle_32, qgt_32, qge_32, qeq_32, qlt_37, qle_37, qgt_37, qge_37, qeq_37, qlt_40, qle_40, qgt_40, qge_40, qeq_40, qlt_42, qle_42, qgt_42, qge_42, qeq_42, qlt_43, qle_43, qgt_43, qge_43, qeq_43, qlt_45, qle_45, qgt_45, qge_45, qeq_45, qlt_47, qle_47, qgt_47, qge_47, qeq_47, qlt_48, qle_48, qgt_48, qge_48, qeq_48, qlt_57, qle_57, qgt_57, qge_57, qeq_57, qlt_59, qle_59, qgt_59, qge_59, qeq_59, qlt_60, qle_60, qgt_60, qge_60, qeq_60, qlt_61, qle_61, qgt_61, qge_61, qeq_61, qlt_62, qle_62, qgt_62, qge_62, qeq_62, qlt_64, qle_64, qgt_64, qge_64, qeq_64, qlt_91, qle_91, qgt_91, qge_91, qeq_91, qlt_93, qle_93, qgt_93, qge_93, qeq_93, qlt_97, qle_97, qgt_97, qge_97, qeq_97, qlt_122, qle_122, qgt_122, qge_122, qeq_122, qlt_400, qle_400, qgt_400, qge_400, qeq_400, qlt_999, qle_999, qgt_999, qge_999, qeq_999, qlt_0, qle_0, qgt_0, qge_0, qeq_0, qltm, qeqm, ↓reduceIte, Option.bind_some, not_true_eq_false, not_false_eq_true, and_true, true_and, and_false, false_and, or_false, false_or, or_true, true_or, Bool.false_eq_true, reduceCtorEq, n1]) jF 0 S (Nat.zero_le _) (by show _ < 5000; omega) ⟨fun s hs => by omega, fun _ _ _ => rfl⟩
theorem c_ls3 {T : jT} {S : jS} {o g : Nat} {N : mN} {tg : Bool} {L : Nat → Option Nat} (hT : LayT81 T) (ho : 100 ≤ o) (hN : NOk N) (h : HIs (hC S o) N) (hg : g < N 0 2) (hL : ∀ x, x < 64 → S.1 (82 + (g + 1)) x = cE (L x)) (hb : ∀ x, bnd 6 (L x)) : ∃ S1, f8_leastTime_L3 T o (if tg = true then 1 else 0) (nI g) jF S 0 = some S1 ∧ (∀ s, s < 64 → S1.1 (82 + g) s = cE (lsC N tg L g s (N 0 1))) ∧ (∀ a i, a ≠ 82 + g → S1.1 a i = S.1 a i) := by
  have hG := hN.2.2.1
  have t8 := hT g (by omega)
  exact lp_up (G := 64) (Post := fun r : jS => (∀ s, s < 64 → r.1 (82 + g) s = cE (lsC N tg L g s (N 0 1))) ∧ (∀ a i, a ≠ 82 + g → r.1 a i = S.1 a i)) (fun m k S' => f8_leastTime_L3 T o (if tg = true then 1 else 0) (nI g) m S' (nI k)) (fun k r => (∀ s, s < k → r.1 (82 + g) s = cE (lsC N tg L g s (N 0 1))) ∧ (∀ a i, a ≠ 82 + g → r.1 a i = S.1 a i)) (by
    rintro m k S' hk ⟨g1, g2⟩
    left
    have n1 : ¬ 64 ≤ k := by omega
    have n8 : g < 8 := by omega
    have hlf := c_lfrom (S := S') (tg := tg) (L := L) (s := k) hT hN (h.mono (fun a i u1 u2 => g2 a i (by omega))) hg hk (fun x hx => by rw [g2 _ _ (by omega)]; exact hL x hx) hb
    refine ⟨wI S' (82 + g) k (cE (lsC N tg L g k (N 0 1))), ?_, fun s hs => ?_, fun a i ha => by rw [wI_ne ha]; exact g2 a i ha⟩
    · show f8_leastTime_L3 T o (if tg = true then 1 else 0) (nI g) (m + 1) S' (nI k) = _
      rw [f8_leastTime_L3]
      simp (disch := omega) only [hlf, t8, nI_ltI, nI_leI, nI_eq, nI_clamp, nI_1, nI_add, nI_mul, inb_n, irm_n, nI_div, nI_m6, nI_d6, irm_6, qlt_1, qle_1, qgt_1, qge_1, qeq_1, qlt_2, qle_2, qgt_2, qge_2, qeq_2, qlt_3, qle_3, qgt_3, qge_3, qeq_3, qlt_4, qle_4, qgt_4, qge_4, qeq_4, qlt_5, qle_5, qgt_5, qge_5, qeq_5, qlt_6, qle_6, qgt_6, qge_6, qeq_6, qlt_7, qle_7, qgt_7, qge_7, qeq_7, qlt_8, qle_8, qgt_8, qge_8, qeq_8, qlt_9, qle_9, qgt_9, qge_9, qeq_9, qlt_10, qle_10, qgt_10, qge_10, qeq_10, qlt_12, qle_12, qgt_12, qge_12, qeq_12, qlt_16, qle_16, qgt_16, qge_16, qeq_16, qlt_20, qle_20, qgt_20, qge_20, qeq_20, qlt_24, qle_24, qgt_24, qge_24, qeq_24, qlt_30, qle_30, qgt_30, qge_30, qeq_30, qlt_32, qle_32, qgt_32, qge_32, qeq_32, qlt_37, qle_37, qgt_37, qge_37, qeq_37, qlt_40, qle_40, qgt_40, qge_40, qeq_40, qlt_42, qle_42, qgt_42, qge_42, qeq_42, qlt_43, qle_43, qgt_43, qge_43, qeq_43, qlt_45, qle_45, qgt_45, qge_45, qeq_45, qlt_47, qle_47, qgt_47, qge_47, qeq_47, qlt_48, qle_48, qgt_48, qge_48, qeq_48, qlt_57, qle_57, qgt_57, qge_57, qeq_57, qlt_59, qle_59, qgt_59, qge_59, qeq_59, qlt_60, qle_60, qgt_60, qge_60, qeq_60, qlt_61, qle_61, qgt_61, qge_61, qeq_61, qlt_62, qle_62, qgt_62, qge_62, qeq_62, qlt_64, qle_64, qgt_64, qge_64, qeq_64, qlt_91, qle_91, qgt_91, qge_91, qeq_91, qlt_93, qle_93, qgt_93, qge_93, qeq_93, qlt_97, qle_97, qgt_97, qge_97, qeq_97, qlt_122, qle_122, qgt_122, qge_122, qeq_122, qlt_400, qle_400, qgt_400, qge_400, qeq_400, qlt_999, qle_999, qgt_999, qge_999, qeq_999, qlt_0, qle_0, qgt_0, qge_0, qeq_0, qltm, qeqm, ↓reduceIte, Option.bind_some, not_true_eq_false, not_false_eq_true, and_true, true_and, and_false, false_and, or_false, false_or, or_true, true_or, Bool.false_eq_true, reduceCtorEq, n1, n8, hk]
    · by_cases e : s = k
      · subst e; exact wI_self _ _ _ _
      · rw [wI_nj e]; exact g1 s (by omega)) (by
    rintro m S' hI
    refine ⟨S', ?_, hI⟩
    have n1 : 64 ≤ 64 := by omega
    show f8_leastTime_L3 T o (if tg = true then 1 else 0) (nI g) (m + 1) S' (nI 64) = _
    rw [f8_leastTime_L3]
    simp (disch := omega) only [nI_ltI, nI_leI, nI_eq, nI_clamp, nI_1, nI_add, nI_mul, inb_n, irm_n, nI_div, nI_m6, nI_d6, irm_6, qlt_1, qle_1, qgt_1, qge_1, qeq_1, qlt_2, qle_2, qgt_2, qge_2, qeq_2, qlt_3, qle_3, qgt_3, qge_3, qeq_3, qlt_4, qle_4, qgt_4, qge_4, qeq_4, qlt_5, qle_5, qgt_5, qge_5, qeq_5, qlt_6, qle_6, qgt_6, qge_6, qeq_6, qlt_7, qle_7, qgt_7, qge_7, qeq_7, qlt_8, qle_8, qgt_8, qge_8, qeq_8, qlt_9, qle_9, qgt_9, qge_9, qeq_9, qlt_10, qle_10, qgt_10, qge_10, qeq_10, qlt_12, qle_12, qgt_12, qge_12, qeq_12, qlt_16, qle_16, qgt_16, qge_16, qeq_16, qlt_20, qle_20, qgt_20, qge_20, qeq_20, qlt_24, qle_24, qgt_24, qge_24, qeq_24, qlt_30, qle_30, qgt_30, qge_30, qeq_30, qlt_32, qle_32, qgt_32, qge_32, qeq_32, qlt_37, qle_37, qgt_37, qge_37, qeq_37, qlt_40, qle_40, qgt_40, qge_40, qeq_40, qlt_42, qle_42, qgt_42, qge_42, qeq_42, qlt_43, qle_43, qgt_43, qge_43, qeq_43, qlt_45, qle_45, qgt_45, qge_45, qeq_45, qlt_47, qle_47, qgt_47, qge_47, qeq_47, qlt_48, qle_48, qgt_48, qge_48, qeq_48, qlt_57, qle_57, qgt_57, qge_57, qeq_57, qlt_59, qle_59, qgt_59, qge_59, qeq_59, qlt_60, qle_60, qgt_60, qge_60, qeq_60, qlt_61, qle_61, qgt_61, qge_61, qeq_61, qlt_62, qle_62, qgt_62, qge_62, qeq_62, qlt_64, qle_64, qgt_64, qge_64, qeq_64, qlt_91, qle_91, qgt_91, qge_91, qeq_91, qlt_93, qle_93, qgt_93, qge_93, qeq_93, qlt_97, qle_97, qgt_97, qge_97, qeq_97, qlt_122, qle_122, qgt_122, qge_122, qeq_122, qlt_400, qle_400, qgt_400, qge_400, qeq_400, qlt_999, qle_999, qgt_999, qge_999, qeq_999, qlt_0, qle_0, qgt_0, qge_0, qeq_0, qltm, qeqm, ↓reduceIte, Option.bind_some, not_true_eq_false, not_false_eq_true, and_true, true_and, and_false, false_and, or_false, false_or, or_true, true_or, Bool.false_eq_true, reduceCtorEq, n1]) jF 0 S (Nat.zero_le _) (by show _ < 5000; omega) ⟨fun s hs => by omega, fun _ _ _ => rfl⟩
theorem bnd_mono {k m : Nat} {o : Option Nat} (h : bnd k o) (hk : k ≤ m) : bnd m o := fun v hv => by
  have := h v hv
  have : 960 * k ≤ 960 * m := Nat.mul_le_mul (Nat.le_refl _) hk
  omega
theorem c_ls {T : jT} {S : jS} {N : mN} {tg : Bool} (hT : LayT81 T) (hN : NOk N) (h : HIs (hC S (100 + 8)) N) : ∃ S1, f8_leastTime T S (100 + 8) (if tg = true then 1 else 0) = some (S1, cE (lsG N tg (N 0 2) 0)) ∧ cQ S S1 ∧ ∀ j, j ≤ N 0 2 → ∀ s, s < 64 → S1.1 (82 + j) s = cE (lsG N tg (N 0 2 - j) s) := by
  have hG := hN.2.2.1
  have hi := hN.i
  have ht := hN.t
  have e3 : S.1 (100 + 8) 3 = nI (N 0 3) := h.1 3 (by omega) (by omega)
  have e4 : S.1 (100 + 8) 4 = nI (N 0 4) := h.1 4 (by omega) (by omega)
  have p1 := pcn_le0 _ hi
  have p2 := pcn_le0 (N 0 3) (by omega)
  obtain ⟨S0, s1, s2, s3⟩ := c_ls1 (T := T) (tg := tg) (x := if tg = true then 1 else 0) hT (by omega) hN h
  have cq0 : cQ S S0 := fun a i u1 u2 => s3 a i (by omega)
  have e2 : S0.1 (100 + 8) 2 = nI (N 0 2) := (s3 _ _ (by omega)).trans (h.1 2 (by omega) (by omega))
  obtain ⟨S1, t1, t2, t3⟩ := lp_dn (Post := fun r : jS => cQ S r ∧ ∀ j, j ≤ N 0 2 → ∀ s, s < 64 → r.1 (82 + j) s = cE (lsG N tg (N 0 2 - j) s)) (fun m k S' => f8_leastTime_L2 T (100 + 8) (if tg = true then 1 else 0) m S' (nI k - 1)) (fun k r => k ≤ N 0 2 ∧ cQ S r ∧ ∀ j, k ≤ j → j ≤ N 0 2 → ∀ s, s < 64 → r.1 (82 + j) s = cE (lsG N tg (N 0 2 - j) s)) (by
    rintro m k S' ⟨hk, hI, hv⟩
    left
    have hh : HIs (hC S' (100 + 8)) N := h.mono (fun a i u1 u2 => hI a i (by omega) (by omega))
    obtain ⟨S3, u1, u2, u3⟩ := c_ls3 (T := T) (S := S') (g := k) (tg := tg) (L := lsG N tg (N 0 2 - (k + 1))) hT (by omega) hN hh (by omega) (fun x hx => hv (k + 1) (by omega) hk x hx) (fun x => bnd_mono (lsG_b hN _ x (by omega)) (by omega))
    refine ⟨S3, ?_, by omega, hI.tr (fun a i v1 v2 => u3 a i (by omega)), fun j j1 j2 s hs => ?_⟩
    · show f8_leastTime_L2 T (100 + 8) (if tg = true then 1 else 0) (m + 1) S' (nI (k + 1) - 1) = f8_leastTime_L2 T (100 + 8) (if tg = true then 1 else 0) m S3 (nI k - 1)
      have e1 : nI k + -1 = nI k - 1 := by grind
      rw [f8_leastTime_L2, nI_pred]
      simp (disch := omega) only [u1, nI_ltI, nI_leI, nI_eq, nI_clamp, nI_1, nI_add, nI_mul, inb_n, irm_n, nI_div, nI_m6, nI_d6, irm_6, qlt_1, qle_1, qgt_1, qge_1, qeq_1, qlt_2, qle_2, qgt_2, qge_2, qeq_2, qlt_3, qle_3, qgt_3, qge_3, qeq_3, qlt_4, qle_4, qgt_4, qge_4, qeq_4, qlt_5, qle_5, qgt_5, qge_5, qeq_5, qlt_6, qle_6, qgt_6, qge_6, qeq_6, qlt_7, qle_7, qgt_7, qge_7, qeq_7, qlt_8, qle_8, qgt_8, qge_8, qeq_8, qlt_9, qle_9, qgt_9, qge_9, qeq_9, qlt_10, qle_10, qgt_10, qge_10, qeq_10, qlt_12, qle_12, qgt_12, qge_12, qeq_12, qlt_16, qle_16, qgt_16, qge_16, qeq_16, qlt_20, qle_20, qgt_20, qge_20, qeq_20, qlt_24, qle_24, qgt_24, qge_24, qeq_24, qlt_30, qle_30, qgt_30, qge_30, qeq_30, qlt_32, qle_32, qgt_32, qge_32, qeq_32, qlt_37, qle_37, qgt_37, qge_37, qeq_37, qlt_40, qle_40, qgt_40, qge_40, qeq_40, qlt_42, qle_42, qgt_42, qge_42, qeq_42, qlt_43, qle_43, qgt_43, qge_43, qeq_43, qlt_45, qle_45, qgt_45, qge_45, qeq_45, qlt_47, qle_47, qgt_47, qge_47, qeq_47, qlt_48, qle_48, qgt_48, qge_48, qeq_48, qlt_57, qle_57, qgt_57, qge_57, qeq_57, qlt_59, qle_59, qgt_59, qge_59, qeq_59, qlt_60, qle_60, qgt_60, qge_60, qeq_60, qlt_61, qle_61, qgt_61, qge_61, qeq_61, qlt_62, qle_62, qgt_62, qge_62, qeq_62, qlt_64, qle_64, qgt_64, qge_64, qeq_64, qlt_91, qle_91, qgt_91, qge_91, qeq_91, qlt_93, qle_93, qgt_93, qge_93, qeq_93, qlt_97, qle_97, qgt_97, qge_97, qeq_97, qlt_122, qle_122, qgt_122, qge_122, qeq_122, qlt_400, qle_400, qgt_400, qge_400, qeq_400, qlt_999, qle_999, qgt_999, qge_999, qeq_999, qlt_0, qle_0, qgt_0, qge_0, qeq_0, qltm, qeqm, ↓reduceIte, Option.bind_some, not_true_eq_false, not_false_eq_true, and_true, true_and, and_false, false_and, or_false, false_or, or_true, true_or, Bool.false_eq_true, reduceCtorEq, e1]
    · by_cases e : j = k
      · subst e
        rw [u2 s hs]
        have e5 : N 0 2 - j = (N 0 2 - (j + 1)) + 1 := by omega
        rw [e5, lsG, show N 0 2 - (N 0 2 - (j + 1) + 1) = j by omega]
      · rw [u3 _ _ (by omega)]; exact hv j (by omega) j2 s hs) (by
    rintro m S' ⟨hk, hI, hv⟩
    refine ⟨S', ?_, hI, fun j hj s hs => hv j (by omega) hj s hs⟩
    show f8_leastTime_L2 T (100 + 8) (if tg = true then 1 else 0) (m + 1) S' (nI 0 - 1) = _
    rw [f8_leastTime_L2, nI_0m, if_pos (by decide)]) jF (N 0 2) S0 (by show _ < 5000; omega) ⟨Nat.le_refl _, cq0, fun j j1 j2 s hs => by
      have : j = N 0 2 := by omega
      subst this
      rw [Nat.sub_self]; exact s2 s hs⟩
  refine ⟨S1, ?_, t2, t3⟩
  have t1' : f8_leastTime_L2 T (100 + 8) (if tg = true then 1 else 0) jF S0 (nI (N 0 2) - 1) = some S1 := t1
  have hfin := t3 0 (by omega) 0 (by omega)
  rw [Nat.sub_zero] at hfin
  have hfin' : S1.1 82 0 = cE (lsG N tg (N 0 2) 0) := hfin
  have s1' : f8_leastTime_L1 T (100 + 8) (if tg = true then 1 else 0) (nI (min (pcn (N 0 4)) (pcn (N 0 3)))) jF S 0 = some S0 := s1
  unfold f8_leastTime
  simp (disch := omega) only [e3, e4, bitc, mmin_n, ↓reduceIte, Option.bind_some, not_true_eq_false, not_false_eq_true, and_true, true_and, and_false, false_and, or_false, false_or, or_true, true_or, Bool.false_eq_true, reduceCtorEq, s1', e2, t1', hfin']
theorem r_ls1 {X : jS} {N : mN} {tg : Bool} {x : Int32} (hN : NOk N) (h : HIs (hV X.1) N) : ∃ X1, f11_laysLeast_L1 x (nI (N 0 2)) (nI (mstN N)) jF X 0 = some X1 ∧ (∀ s, s < 64 → X1.1 47 (64 * N 0 2 + s) = rE (lsG N tg 0 s)) ∧ (∀ a i, a ≠ 47 → X1.1 a i = X.1 a i) := by
  have hG := hN.2.2.1
  have hms : mstN N ≤ 7 := by have := pcn_le0 _ hN.i; unfold mstN; omega
  exact lp_up (G := 64) (Post := fun r : jS => (∀ s, s < 64 → r.1 47 (64 * N 0 2 + s) = rE (lsG N tg 0 s)) ∧ (∀ a i, a ≠ 47 → r.1 a i = X.1 a i)) (fun m k X' => f11_laysLeast_L1 x (nI (N 0 2)) (nI (mstN N)) m X' (nI k)) (fun k r => (∀ s, s < k → r.1 47 (64 * N 0 2 + s) = rE (lsG N tg 0 s)) ∧ (∀ a i, a ≠ 47 → r.1 a i = X.1 a i)) (by
    rintro m k X' hk ⟨g1, g2⟩
    left
    have n1 : ¬ 64 ≤ k := by omega
    have n5 : 64 * N 0 2 + k < 512 := by omega
    have hp := pcn_le0 k (by omega)
    refine ⟨wI X' 47 (64 * N 0 2 + k) (rE (lsG N tg 0 k)), ?_, fun s hs => ?_, fun a i ha => by rw [wI_ne ha]; exact g2 a i ha⟩
    · show f11_laysLeast_L1 x (nI (N 0 2)) (nI (mstN N)) (m + 1) X' (nI k) = _
      rw [f11_laysLeast_L1, ← rE_0]
      simp (disch := omega) only [bits1, nI_64m, nI_ltI, nI_leI, nI_eq, nI_clamp, nI_1, nI_add, nI_mul, inb_n, irm_n, nI_div, nI_m6, nI_d6, irm_6, qlt_1, qle_1, qgt_1, qge_1, qeq_1, qlt_2, qle_2, qgt_2, qge_2, qeq_2, qlt_3, qle_3, qgt_3, qge_3, qeq_3, qlt_4, qle_4, qgt_4, qge_4, qeq_4, qlt_5, qle_5, qgt_5, qge_5, qeq_5, qlt_6, qle_6, qgt_6, qge_6, qeq_6, qlt_7, qle_7, qgt_7, qge_7, qeq_7, qlt_8, qle_8, qgt_8, qge_8, qeq_8, qlt_9, qle_9, qgt_9, qge_9, qeq_9, qlt_10, qle_10, qgt_10, qge_10, qeq_10, qlt_12, qle_12, qgt_12, qge_12, qeq_12, qlt_16, qle_16, qgt_16, qge_16, qeq_16, qlt_20, qle_20, qgt_20, qge_20, qeq_20, qlt_24, qle_24, qgt_24, qge_24, qeq_24, qlt_30, qle_30, qgt_30, qge_30, qeq_30, qlt_32, qle_32, qgt_32, qge_32, qeq_32, qlt_37, qle_37, qgt_37, qge_37, qeq_37, qlt_40, qle_40, qgt_40, qge_40, qeq_40, qlt_42, qle_42, qgt_42, qge_42, qeq_42, qlt_43, qle_43, qgt_43, qge_43, qeq_43, qlt_45, qle_45, qgt_45, qge_45, qeq_45, qlt_47, qle_47, qgt_47, qge_47, qeq_47, qlt_48, qle_48, qgt_48, qge_48, qeq_48, qlt_57, qle_57, qgt_57, qge_57, qeq_57, qlt_59, qle_59, qgt_59, qge_59, qeq_59, qlt_60, qle_60, qgt_60, qge_60, qeq_60, qlt_61, qle_61, qgt_61, qge_61, qeq_61, qlt_62, qle_62, qgt_62, qge_62, qeq_62, qlt_64, qle_64, qgt_64, qge_64, qeq_64, qlt_91, qle_91, qgt_91, qge_91, qeq_91, qlt_93, qle_93, qgt_93, qge_93, qeq_93, qlt_97, qle_97, qgt_97, qge_97, qeq_97, qlt_122, qle_122, qgt_122, qge_122, qeq_122, qlt_400, qle_400, qgt_400, qge_400, qeq_400, qlt_999, qle_999, qgt_999, qge_999, qeq_999, qlt_0, qle_0, qgt_0, qge_0, qeq_0, qltm, qeqm, ↓reduceIte, Option.bind_some, not_true_eq_false, not_false_eq_true, and_true, true_and, and_false, false_and, or_false, false_or, or_true, true_or, Bool.false_eq_true, reduceCtorEq, n1, n5]
    · by_cases e : s = k
      · subst e; exact wI_self _ _ _ _
      · rw [wI_nj (by omega)]; exact g1 s (by omega)) (by
    rintro m X' hI
    refine ⟨X', ?_, hI⟩
    have n1 : 64 ≤ 64 := by omega
    show f11_laysLeast_L1 x (nI (N 0 2)) (nI (mstN N)) (m + 1) X' (nI 64) = _
    rw [f11_laysLeast_L1]
    simp (disch := omega) only [nI_ltI, nI_leI, nI_eq, nI_clamp, nI_1, nI_add, nI_mul, inb_n, irm_n, nI_div, nI_m6, nI_d6, irm_6, qlt_1, qle_1, qgt_1, qge_1, qeq_1, qlt_2, qle_2, qgt_2, qge_2, qeq_2, qlt_3, qle_3, qgt_3, qge_3, qeq_3, qlt_4, qle_4, qgt_4, qge_4, qeq_4, qlt_5, qle_5, qgt_5, qge_5, qeq_5, qlt_6, qle_6, qgt_6, qge_6, qeq_6, qlt_7, qle_7, qgt_7, qge_7, qeq_7, qlt_8, qle_8, qgt_8, qge_8, qeq_8, qlt_9, qle_9, qgt_9, qge_9, qeq_9, qlt_10, qle_10, qgt_10, qge_10, qeq_10, qlt_12, qle_12, qgt_12, qge_12, qeq_12, qlt_16, qle_16, qgt_16, qge_16, qeq_16, qlt_20, qle_20, qgt_20, qge_20, qeq_20, qlt_24, qle_24, qgt_24, qge_24, qeq_24, qlt_30, qle_30, qgt_30, qge_30, qeq_30, qlt_32, qle_32, qgt_32, qge_32, qeq_32, qlt_37, qle_37, qgt_37, qge_37, qeq_37, qlt_40, qle_40, qgt_40, qge_40, qeq_40, qlt_42, qle_42, qgt_42, qge_42, qeq_42, qlt_43, qle_43, qgt_43, qge_43, qeq_43, qlt_45, qle_45, qgt_45, qge_45, qeq_45, qlt_47, qle_47, qgt_47, qge_47, qeq_47, qlt_48, qle_48, qgt_48, qge_48, qeq_48, qlt_57, qle_57, qgt_57, qge_57, qeq_57, qlt_59, qle_59, qgt_59, qge_59, qeq_59, qlt_60, qle_60, qgt_60, qge_60, qeq_60, qlt_61, qle_61, qgt_61, qge_61, qeq_61, qlt_62, qle_62, qgt_62, qge_62, qeq_62, qlt_64, qle_64, qgt_64, qge_64, qeq_64, qlt_91, qle_91, qgt_91, qge_91, qeq_91, qlt_93, qle_93, qgt_93, qge_93, qeq_93, qlt_97, qle_97, qgt_97, qge_97, qeq_97, qlt_122, qle_122, qgt_122, qge_122, qeq_122, qlt_400, qle_400, qgt_400, qge_400, qeq_400, qlt_999, qle_999, qgt_999, qge_999, qeq_999, qlt_0, qle_0, qgt_0, qge_0, qeq_0, qltm, qeqm, ↓reduceIte, Option.bind_some, not_true_eq_false, not_false_eq_true, and_true, true_and, and_false, false_and, or_false, false_or, or_true, true_or, Bool.false_eq_true, reduceCtorEq, n1]) jF 0 X (Nat.zero_le _) (by show _ < 5000; omega) ⟨fun s hs => by omega, fun _ _ _ => rfl⟩
theorem r_ls3 {X : jS} {g : Nat} {N : mN} {tg : Bool} {L : Nat → Option Nat} (hN : NOk N) (h : HIs (hV X.1) N) (hg : g < N 0 2) (hL : ∀ x, x < 64 → X.1 47 (64 * (g + 1) + x) = rE (L x)) (hb : ∀ x, bnd 6 (L x)) : ∃ X1, f11_laysLeast_L3 (if tg = true then 1 else 0) (nI g) jF X 0 = some X1 ∧ (∀ s, s < 64 → X1.1 47 (64 * g + s) = rE (lsC N tg L g s (N 0 1))) ∧ (∀ a i, a ≠ 47 ∨ 64 * (g + 1) ≤ i → X1.1 a i = X.1 a i) := by
  have hG := hN.2.2.1
  exact lp_up (G := 64) (Post := fun r : jS => (∀ s, s < 64 → r.1 47 (64 * g + s) = rE (lsC N tg L g s (N 0 1))) ∧ (∀ a i, a ≠ 47 ∨ 64 * (g + 1) ≤ i → r.1 a i = X.1 a i)) (fun m k X' => f11_laysLeast_L3 (if tg = true then 1 else 0) (nI g) m X' (nI k)) (fun k r => (∀ s, s < k → r.1 47 (64 * g + s) = rE (lsC N tg L g s (N 0 1))) ∧ (∀ a i, a ≠ 47 ∨ 64 * (g + 1) ≤ i → r.1 a i = X.1 a i)) (by
    rintro m k X' hk ⟨g1, g2⟩
    left
    have n1 : ¬ 64 ≤ k := by omega
    have n5 : 64 * g + k < 512 := by omega
    have hlf := r_lfrom (X := X') (tg := tg) (L := L) (s := k) hN (HV_mono h (fun a i u1 u2 => g2 a i (by omega))) hg hk (fun x hx => by rw [g2 _ _ (by omega)]; exact hL x hx) hb
    refine ⟨wI X' 47 (64 * g + k) (rE (lsC N tg L g k (N 0 1))), ?_, fun s hs => ?_, fun a i ha => by rw [wI_g, if_neg (by omega)]; exact g2 a i ha⟩
    · show f11_laysLeast_L3 (if tg = true then 1 else 0) (nI g) (m + 1) X' (nI k) = _
      rw [f11_laysLeast_L3]
      simp (disch := omega) only [hlf, nI_64m, nI_ltI, nI_leI, nI_eq, nI_clamp, nI_1, nI_add, nI_mul, inb_n, irm_n, nI_div, nI_m6, nI_d6, irm_6, qlt_1, qle_1, qgt_1, qge_1, qeq_1, qlt_2, qle_2, qgt_2, qge_2, qeq_2, qlt_3, qle_3, qgt_3, qge_3, qeq_3, qlt_4, qle_4, qgt_4, qge_4, qeq_4, qlt_5, qle_5, qgt_5, qge_5, qeq_5, qlt_6, qle_6, qgt_6, qge_6, qeq_6, qlt_7, qle_7, qgt_7, qge_7, qeq_7, qlt_8, qle_8, qgt_8, qge_8, qeq_8, qlt_9, qle_9, qgt_9, qge_9, qeq_9, qlt_10, qle_10, qgt_10, qge_10, qeq_10, qlt_12, qle_12, qgt_12, qge_12, qeq_12, qlt_16, qle_16, qgt_16, qge_16, qeq_16, qlt_20, qle_20, qgt_20, qge_20, qeq_20, qlt_24, qle_24, qgt_24, qge_24, qeq_24, qlt_30, qle_30, qgt_30, qge_30, qeq_30, qlt_32, qle_32, qgt_32, qge_32, qeq_32, qlt_37, qle_37, qgt_37, qge_37, qeq_37, qlt_40, qle_40, qgt_40, qge_40, qeq_40, qlt_42, qle_42, qgt_42, qge_42, qeq_42, qlt_43, qle_43, qgt_43, qge_43, qeq_43, qlt_45, qle_45, qgt_45, qge_45, qeq_45, qlt_47, qle_47, qgt_47, qge_47, qeq_47, qlt_48, qle_48, qgt_48, qge_48, qeq_48, qlt_57, qle_57, qgt_57, qge_57, qeq_57, qlt_59, qle_59, qgt_59, qge_59, qeq_59, qlt_60, qle_60, qgt_60, qge_60, qeq_60, qlt_61, qle_61, qgt_61, qge_61, qeq_61, qlt_62, qle_62, qgt_62, qge_62, qeq_62, qlt_64, qle_64, qgt_64, qge_64, qeq_64, qlt_91, qle_91, qgt_91, qge_91, qeq_91, qlt_93, qle_93, qgt_93, qge_93, qeq_93, qlt_97, qle_97, qgt_97, qge_97, qeq_97, qlt_122, qle_122, qgt_122, qge_122, qeq_122, qlt_400, qle_400, qgt_400, qge_400, qeq_400, qlt_999, qle_999, qgt_999, qge_999, qeq_999, qlt_0, qle_0, qgt_0, qge_0, qeq_0, qltm, qeqm, ↓reduceIte, Option.bind_some, not_true_eq_false, not_false_eq_true, and_true, true_and, and_false, false_and, or_false, false_or, or_true, true_or, Bool.false_eq_true, reduceCtorEq, n1, n5]
    · by_cases e : s = k
      · subst e; exact wI_self _ _ _ _
      · rw [wI_nj (by omega)]; exact g1 s (by omega)) (by
    rintro m X' hI
    refine ⟨X', ?_, hI⟩
    have n1 : 64 ≤ 64 := by omega
    show f11_laysLeast_L3 (if tg = true then 1 else 0) (nI g) (m + 1) X' (nI 64) = _
    rw [f11_laysLeast_L3]
    simp (disch := omega) only [nI_ltI, nI_leI, nI_eq, nI_clamp, nI_1, nI_add, nI_mul, inb_n, irm_n, nI_div, nI_m6, nI_d6, irm_6, qlt_1, qle_1, qgt_1, qge_1, qeq_1, qlt_2, qle_2, qgt_2, qge_2, qeq_2, qlt_3, qle_3, qgt_3, qge_3, qeq_3, qlt_4, qle_4, qgt_4, qge_4, qeq_4, qlt_5, qle_5, qgt_5, qge_5, qeq_5, qlt_6, qle_6, qgt_6, qge_6, qeq_6, qlt_7, qle_7, qgt_7, qge_7, qeq_7, qlt_8, qle_8, qgt_8, qge_8, qeq_8, qlt_9, qle_9, qgt_9, qge_9, qeq_9, qlt_10, qle_10, qgt_10, qge_10, qeq_10, qlt_12, qle_12, qgt_12, qge_12, qeq_12, qlt_16, qle_16, qgt_16, qge_16, qeq_16, qlt_20, qle_20, qgt_20, qge_20, qeq_20, qlt_24, qle_24, qgt_24, qge_24, qeq_24, qlt_30, qle_30, qgt_30, qge_30, qeq_30, qlt_32, qle_32, qgt_32, qge_32, qeq_32, qlt_37, qle_37, qgt_37, qge_37, qeq_37, qlt_40, qle_40, qgt_40, qge_40, qeq_40, qlt_42, qle_42, qgt_42, qge_42, qeq_42, qlt_43, qle_43, qgt_43, qge_43, qeq_43, qlt_45, qle_45, qgt_45, qge_45, qeq_45, qlt_47, qle_47, qgt_47, qge_47, qeq_47, qlt_48, qle_48, qgt_48, qge_48, qeq_48, qlt_57, qle_57, qgt_57, qge_57, qeq_57, qlt_59, qle_59, qgt_59, qge_59, qeq_59, qlt_60, qle_60, qgt_60, qge_60, qeq_60, qlt_61, qle_61, qgt_61, qge_61, qeq_61, qlt_62, qle_62, qgt_62, qge_62, qeq_62, qlt_64, qle_64, qgt_64, qge_64, qeq_64, qlt_91, qle_91, qgt_91, qge_91, qeq_91, qlt_93, qle_93, qgt_93, qge_93, qeq_93, qlt_97, qle_97, qgt_97, qge_97, qeq_97, qlt_122, qle_122, qgt_122, qge_122, qeq_122, qlt_400, qle_400, qgt_400, qge_400, qeq_400, qlt_999, qle_999, qgt_999, qge_999, qeq_999, qlt_0, qle_0, qgt_0, qge_0, qeq_0, qltm, qeqm, ↓reduceIte, Option.bind_some, not_true_eq_false, not_false_eq_true, and_true, true_and, and_false, false_and, or_false, false_or, or_true, true_or, Bool.false_eq_true, reduceCtorEq, n1]) jF 0 X (Nat.zero_le _) (by show _ < 5000; omega) ⟨fun s hs => by omega, fun _ _ _ => rfl⟩
theorem r_ls {X : jS} {N : mN} {tg : Bool} (hN : NOk N) (h : HIs (hV X.1) N) : ∃ X1, f11_laysLeast X (if tg = true then 1 else 0) = some (X1, ()) ∧ (∀ a i, a ≠ 47 → X1.1 a i = X.1 a i) ∧ ∀ j, j ≤ N 0 2 → ∀ s, s < 64 → X1.1 47 (64 * j + s) = rE (lsG N tg (N 0 2 - j) s) := by
  have hG := hN.2.2.1
  have hi := hN.i
  have ht := hN.t
  have e2 := HV2 h
  have e6 := HV4 h
  have e7 := HV3 h
  have p1 := pcn_le0 _ hi
  have p2 := pcn_le0 (N 0 3) (by omega)
  obtain ⟨X0, s1, s2, s3⟩ := r_ls1 (tg := tg) (x := if tg = true then 1 else 0) hN h
  obtain ⟨X1, t1, t2, t3⟩ := lp_dn (Post := fun r : jS => (∀ a i, a ≠ 47 → r.1 a i = X.1 a i) ∧ ∀ j, j ≤ N 0 2 → ∀ s, s < 64 → r.1 47 (64 * j + s) = rE (lsG N tg (N 0 2 - j) s)) (fun m k X' => f11_laysLeast_L2 (if tg = true then 1 else 0) m X' (nI k - 1)) (fun k r => k ≤ N 0 2 ∧ (∀ a i, a ≠ 47 → r.1 a i = X.1 a i) ∧ ∀ j, k ≤ j → j ≤ N 0 2 → ∀ s, s < 64 → r.1 47 (64 * j + s) = rE (lsG N tg (N 0 2 - j) s)) (by
    rintro m k X' ⟨hk, hI, hv⟩
    left
    obtain ⟨X3, u1, u2, u3⟩ := r_ls3 (X := X') (g := k) (tg := tg) (L := lsG N tg (N 0 2 - (k + 1))) hN (HV_mono h (fun a i u1 u2 => hI a i (by omega))) (by omega) (fun x hx => hv (k + 1) (by omega) hk x hx) (fun x => bnd_mono (lsG_b hN _ x (by omega)) (by omega))
    refine ⟨X3, ?_, by omega, fun a i ha => (u3 a i (Or.inl ha)).trans (hI a i ha), fun j j1 j2 s hs => ?_⟩
    · show f11_laysLeast_L2 (if tg = true then 1 else 0) (m + 1) X' (nI (k + 1) - 1) = f11_laysLeast_L2 (if tg = true then 1 else 0) m X3 (nI k - 1)
      have e1 : nI k + -1 = nI k - 1 := by grind
      rw [f11_laysLeast_L2, nI_pred]
      simp (disch := omega) only [u1, nI_ltI, nI_leI, nI_eq, nI_clamp, nI_1, nI_add, nI_mul, inb_n, irm_n, nI_div, nI_m6, nI_d6, irm_6, qlt_1, qle_1, qgt_1, qge_1, qeq_1, qlt_2, qle_2, qgt_2, qge_2, qeq_2, qlt_3, qle_3, qgt_3, qge_3, qeq_3, qlt_4, qle_4, qgt_4, qge_4, qeq_4, qlt_5, qle_5, qgt_5, qge_5, qeq_5, qlt_6, qle_6, qgt_6, qge_6, qeq_6, qlt_7, qle_7, qgt_7, qge_7, qeq_7, qlt_8, qle_8, qgt_8, qge_8, qeq_8, qlt_9, qle_9, qgt_9, qge_9, qeq_9, qlt_10, qle_10, qgt_10, qge_10, qeq_10, qlt_12, qle_12, qgt_12, qge_12, qeq_12, qlt_16, qle_16, qgt_16, qge_16, qeq_16, qlt_20, qle_20, qgt_20, qge_20, qeq_20, qlt_24, qle_24, qgt_24, qge_24, qeq_24, qlt_30, qle_30, qgt_30, qge_30, qeq_30, qlt_32, qle_32, qgt_32, qge_32, qeq_32, qlt_37, qle_37, qgt_37, qge_37, qeq_37, qlt_40, qle_40, qgt_40, qge_40, qeq_40, qlt_42, qle_42, qgt_42, qge_42, qeq_42, qlt_43, qle_43, qgt_43, qge_43, qeq_43, qlt_45, qle_45, qgt_45, qge_45, qeq_45, qlt_47, qle_47, qgt_47, qge_47, qeq_47, qlt_48, qle_48, qgt_48, qge_48, qeq_48, qlt_57, qle_57, qgt_57, qge_57, qeq_57, qlt_59, qle_59, qgt_59, qge_59, qeq_59, qlt_60, qle_60, qgt_60, qge_60, qeq_60, qlt_61, qle_61, qgt_61, qge_61, qeq_61, qlt_62, qle_62, qgt_62, qge_62, qeq_62, qlt_64, qle_64, qgt_64, qge_64, qeq_64, qlt_91, qle_91, qgt_91, qge_91, qeq_91, qlt_93, qle_93, qgt_93, qge_93, qeq_93, qlt_97, qle_97, qgt_97, qge_97, qeq_97, qlt_122, qle_122, qgt_122, qge_122, qeq_122, qlt_400, qle_400, qgt_400, qge_400, qeq_400, qlt_999, qle_999, qgt_999, qge_999, qeq_999, qlt_0, qle_0, qgt_0, qge_0, qeq_0, qltm, qeqm, ↓reduceIte, Option.bind_some, not_true_eq_false, not_false_eq_true, and_true, true_and, and_false, false_and, or_false, false_or, or_true, true_or, Bool.false_eq_true, reduceCtorEq, e1]
    · by_cases e : j = k
      · subst e
        rw [u2 s hs]
        have e5 : N 0 2 - j = (N 0 2 - (j + 1)) + 1 := by omega
        rw [e5, lsG, show N 0 2 - (N 0 2 - (j + 1) + 1) = j by omega]
      · rw [u3 _ _ (by omega)]; exact hv j (by omega) j2 s hs) (by
    rintro m X' ⟨hk, hI, hv⟩
    refine ⟨X', ?_, hI, fun j hj s hs => hv j (by omega) hj s hs⟩
    show f11_laysLeast_L2 (if tg = true then 1 else 0) (m + 1) X' (nI 0 - 1) = _
    rw [f11_laysLeast_L2, nI_0m, if_pos (by decide)]) jF (N 0 2) X0 (by show _ < 5000; omega) ⟨Nat.le_refl _, s3, fun j j1 j2 s hs => by
      have : j = N 0 2 := by omega
      subst this
      rw [Nat.sub_self]; exact s2 s hs⟩
  refine ⟨X1, ?_, t2, t3⟩
  have t1' : f11_laysLeast_L2 (if tg = true then 1 else 0) jF X0 (nI (N 0 2) - 1) = some X1 := t1
  have hm : Option.bind (if nI (pcn (N 0 3)) ≤ nI (pcn (N 0 4)) then some (nI (pcn (N 0 3))) else some (nI (pcn (N 0 4)))) (fun (y5 : Int32) => some y5) = some (nI (mstN N)) := by
    unfold mstN
    by_cases c : pcn (N 0 3) ≤ pcn (N 0 4)
    · simp (disch := omega) only [nI_ltI, nI_leI, nI_eq, nI_clamp, nI_1, nI_add, nI_mul, inb_n, irm_n, nI_div, nI_m6, nI_d6, irm_6, qlt_1, qle_1, qgt_1, qge_1, qeq_1, qlt_2, qle_2, qgt_2, qge_2, qeq_2, qlt_3, qle_3, qgt_3, qge_3, qeq_3, qlt_4, qle_4, qgt_4, qge_4, qeq_4, qlt_5, qle_5, qgt_5, qge_5, qeq_5, qlt_6, qle_6, qgt_6, qge_6, qeq_6, qlt_7, qle_7, qgt_7, qge_7, qeq_7, qlt_8, qle_8, qgt_8, qge_8, qeq_8, qlt_9, qle_9, qgt_9, qge_9, qeq_9, qlt_10, qle_10, qgt_10, qge_10, qeq_10, qlt_12, qle_12, qgt_12, qge_12, qeq_12, qlt_16, qle_16, qgt_16, qge_16, qeq_16, qlt_20, qle_20, qgt_20, qge_20, qeq_20, qlt_24, qle_24, qgt_24, qge_24, qeq_24, qlt_30, qle_30, qgt_30, qge_30, qeq_30, qlt_32, qle_32, qgt_32, qge_32, qeq_32, qlt_37, qle_37, qgt_37, qge_37, qeq_37, qlt_40, qle_40, qgt_40, qge_40, qeq_40, qlt_42, qle_42, qgt_42, qge_42, qeq_42, qlt_43, qle_43, qgt_43, qge_43, qeq_43, qlt_45, qle_45, qgt_45, qge_45, qeq_45, qlt_47, qle_47, qgt_47, qge_47, qeq_47, qlt_48, qle_48, qgt_48, qge_48, qeq_48, qlt_57, qle_57, qgt_57, qge_57, qeq_57, qlt_59, qle_59, qgt_59, qge_59, qeq_59, qlt_60, qle_60, qgt_60, qge_60, qeq_60, qlt_61, qle_61, qgt_61, qge_61, qeq_61, qlt_62, qle_62, qgt_62, qge_62, qeq_62, qlt_64, qle_64, qgt_64, qge_64, qeq_64, qlt_91, qle_91, qgt_91, qge_91, qeq_91, qlt_93, qle_93, qgt_93, qge_93, qeq_93, qlt_97, qle_97, qgt_97, qge_97, qeq_97, qlt_122, qle_122, qgt_122, qge_122, qeq_122, qlt_400, qle_400, qgt_400, qge_400, qeq_400, qlt_999, qle_999, qgt_999, qge_999, qeq_999, qlt_0, qle_0, qgt_0, qge_0, qeq_0, qltm, qeqm, ↓reduceIte, Option.bind_some, not_true_eq_false, not_false_eq_true, and_true, true_and, and_false, false_and, or_false, false_or, or_true, true_or, Bool.false_eq_true, reduceCtorEq, c, Nat.min_eq_right]
    · simp (disch := omega) only [nI_ltI, nI_leI, nI_eq, nI_clamp, nI_1, nI_add, nI_mul, inb_n, irm_n, nI_div, nI_m6, nI_d6, irm_6, qlt_1, qle_1, qgt_1, qge_1, qeq_1, qlt_2, qle_2, qgt_2, qge_2, qeq_2, qlt_3, qle_3, qgt_3, qge_3, qeq_3, qlt_4, qle_4, qgt_4, qge_4, qeq_4, qlt_5, qle_5, qgt_5, qge_5, qeq_5, qlt_6, qle_6, qgt_6, qge_6, qeq_6, qlt_7, qle_7, qgt_7, qge_7, qeq_7, qlt_8, qle_8, qgt_8, qge_8, qeq_8, qlt_9, qle_9, qgt_9, qge_9, qeq_9, qlt_10, qle_10, qgt_10, qge_10, qeq_10, qlt_12, qle_12, qgt_12, qge_12, qeq_12, qlt_16, qle_16, qgt_16, qge_16, qeq_16, qlt_20, qle_20, qgt_20, qge_20, qeq_20, qlt_24, qle_24, qgt_24, qge_24, qeq_24, qlt_30, qle_30, qgt_30, qge_30, qeq_30, qlt_32, qle_32, qgt_32, qge_32, qeq_32, qlt_37, qle_37, qgt_37, qge_37, qeq_37, qlt_40, qle_40, qgt_40, qge_40, qeq_40, qlt_42, qle_42, qgt_42, qge_42, qeq_42, qlt_43, qle_43, qgt_43, qge_43, qeq_43, qlt_45, qle_45, qgt_45, qge_45, qeq_45, qlt_47, qle_47, qgt_47, qge_47, qeq_47, qlt_48, qle_48, qgt_48, qge_48, qeq_48, qlt_57, qle_57, qgt_57, qge_57, qeq_57, qlt_59, qle_59, qgt_59, qge_59, qeq_59, qlt_60, qle_60, qgt_60, qge_60, qeq_60, qlt_61, qle_61, qgt_61, qge_61, qeq_61, qlt_62, qle_62, qgt_62, qge_62, qeq_62, qlt_64, qle_64, qgt_64, qge_64, qeq_64, qlt_91, qle_91, qgt_91, qge_91, qeq_91, qlt_93, qle_93, qgt_93, qge_93, qeq_93, qlt_97, qle_97, qgt_97, qge_97, qeq_97, qlt_122, qle_122, qgt_122, qge_122, qeq_122, qlt_400, qle_400, qgt_400, qge_400, qeq_400, qlt_999, qle_999, qgt_999, qge_999, qeq_999, qlt_0, qle_0, qgt_0, qge_0, qeq_0, qltm, qeqm, ↓reduceIte, Option.bind_some, not_true_eq_false, not_false_eq_true, and_true, true_and, and_false, false_and, or_false, false_or, or_true, true_or, Bool.false_eq_true, reduceCtorEq, c, Nat.min_eq_left]
  obtain ⟨y, y1, y2⟩ := bind_el hm
  cases y2
  unfold f11_laysLeast
  simp (disch := omega) only [e2, e6, e7, bits1, ↓reduceIte, Option.bind_some, not_true_eq_false, not_false_eq_true, and_true, true_and, and_false, false_and, or_false, false_or, or_true, true_or, Bool.false_eq_true, reduceCtorEq, y1, s1, t1']
