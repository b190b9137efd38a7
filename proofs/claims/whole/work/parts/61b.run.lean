/-! safe -/
def sfB (N : mN) (g b : Nat) : Bool := (rnd N b 0 4).testBit g
def csN (N : mN) (g : Nat) : Nat → Nat
  | 0 => 0
  | k + 1 => csN N g k + (if sfB N g (k + 1) = true then 1 else 0)
def fsN (N : mN) (g : Nat) : Nat → Nat
  | 0 => 0
  | k + 1 => if fsN N g k = 0 then (if sfB N g (k + 1) = true then k + 1 else 0) else fsN N g k
theorem cs_fs {N : mN} {g : Nat} : ∀ k, csN N g k = 0 ↔ fsN N g k = 0 := by
  intro k
  induction k with
  | zero => exact Iff.rfl
  | succ k ih =>
    unfold csN fsN
    by_cases h : fsN N g k = 0
    · rw [if_pos h, ih.mpr h]
      split <;> omega
    · rw [if_neg h]
      have := fun z => h (ih.mp z)
      constructor
      · intro z; omega
      · intro z; exact absurd z h
theorem cs_le {N : mN} {g : Nat} : ∀ k, csN N g k ≤ k ∧ fsN N g k ≤ k := by
  intro k
  induction k with
  | zero => exact ⟨Nat.le_refl _, Nat.le_refl _⟩
  | succ k ih =>
    unfold csN fsN
    refine ⟨by split <;> omega, ?_⟩
    split
    · split <;> omega
    · omega
def fsV (N : mN) (g k : Nat) : Int32 := if fsN N g k = 0 then -2 else nI (fsN N g k)
theorem c_sits {S S' : jS} {N : mN} {g b : Nat} (hq : cQ S S') (hN : NOk N) (h : HIs (hC S' (100 + 8)) N) (hb : b ≤ 60) (hg : g < N 0 2) : ∃ S1, f2_sitsBy S' (100 + 8) (nI g) (nI b) = some (S1, if sfB N g b = true then 1 else 0) ∧ cQ S S1 ∧ HIs (hC S1 (100 + 8)) N := by
  have hG := hN.2.2.1
  have hc := CRun.cp (o := 21) (a0 := 100 + 8) hq hN h (by omega) (by omega) (by omega)
  obtain ⟨S1, p1, p2, p3⟩ := hc.of (b := b) (by omega) (by omega) hb
  have hi := p2.2.2.i
  refine ⟨S1, ?_, p2.1, h.mono (fun a i g1 g2 => by rw [p3 a i (by omega) (by omega) (by omega) (by omega), cp_fr (by omega) (by omega)])⟩
  unfold f2_sitsBy sfB
  rw [cp_eq, Option.bind_some]
  simp (disch := omega) only [p1, ↓reduceIte, Option.bind_some, not_true_eq_false, not_false_eq_true, and_true, true_and, and_false, false_and, or_false, false_or, or_true, true_or, Bool.false_eq_true, reduceCtorEq, b_1]
  split <;> rfl
theorem c_countSafe {S : jS} {N : mN} {g : Nat} (hN : NOk N) (h : HIs (hC S (100 + 8)) N) (hg : g < N 0 2) : ∃ S1, f2_countSafe S (100 + 8) (nI g) = some (S1, nI (csN N g 60)) ∧ cQ S S1 := by
  obtain ⟨r, hr, hp1, hp2⟩ := lp_up (G := 60) (Post := fun r : jS × Int32 => r.2 = nI (csN N g 60) ∧ cQ S r.1) (fun m k (A : jS × Int32) => f2_countSafe_L1 (100 + 8) (nI g) m A.1 A.2 (nI (k + 1))) (fun k A => A.2 = nI (csN N g k) ∧ cQ S A.1 ∧ HIs (hC A.1 (100 + 8)) N) (by
    rintro m k ⟨S', l3⟩ hk ⟨rfl, hI1, hI2⟩
    left
    have n1 : ¬ 60 < k + 1 := by omega
    obtain ⟨S1, p1, p2, p3⟩ := c_sits (b := k + 1) hI1 hN hI2 (by omega) hg
    refine ⟨(S1, nI (csN N g (k + 1))), ?_, rfl, p2, p3⟩
    show f2_countSafe_L1 (100 + 8) (nI g) (m + 1) S' (nI (csN N g k)) (nI (k + 1)) = f2_countSafe_L1 (100 + 8) (nI g) m S1 (nI (csN N g (k + 1))) (nI (k + 1 + 1))
    rw [f2_countSafe_L1, csN]
    by_cases hs : sfB N g (k + 1) = true
    · simp (disch := omega) only [p1, nI_ltI, nI_leI, nI_eq, nI_clamp, nI_1, nI_add, nI_mul, inb_n, irm_n, nI_div, nI_m6, nI_d6, irm_6, qlt_1, qle_1, qgt_1, qge_1, qeq_1, qlt_2, qle_2, qgt_2, qge_2, qeq_2, qlt_3, qle_3, qgt_3, qge_3, qeq_3, qlt_4, qle_4, qgt_4, qge_4, qeq_4, qlt_5, qle_5, qgt_5, qge_5, qeq_5, qlt_6, qle_6, qgt_6, qge_6, qeq_6, qlt_7, qle_7, qgt_7, qge_7, qeq_7, qlt_8, qle_8, qgt_8, qge_8, qeq_8, qlt_9, qle_9, qgt_9, qge_9, qeq_9, qlt_10, qle_10, qgt_10, qge_10, qeq_10, qlt_12, qle_12, qgt_12, qge_12, qeq_12, qlt_16, qle_16, qgt_16, qge_16, qeq_16, qlt_20, qle_20, qgt_20, qge_20, qeq_20, qlt_24, qle_24, qgt_24, qge_24, qeq_24, qlt_30, qle_30, qgt_30, qge_30, qeq_30, qlt_32, qle_32, qgt_32, qge_32, qeq_32, qlt_37, qle_37, qgt_37, qge_37, qeq_37, qlt_40, qle_40, qgt_40, qge_40, qeq_40, qlt_42, qle_42, qgt_42, qge_42, qeq_42, qlt_43, qle_43, qgt_43, qge_43, qeq_43, qlt_45, qle_45, qgt_45, qge_45, qeq_45, qlt_47, qle_47, qgt_47, qge_47, qeq_47, qlt_48, qle_48, qgt_48, qge_48, qeq_48, qlt_57, qle_57, qgt_57, qge_57, qeq_57, qlt_59, qle_59, qgt_59, qge_59, qeq_59, qlt_60, qle_60, qgt_60, qge_60, qeq_60, qlt_61, qle_61, qgt_61, qge_61, qeq_61, qlt_62, qle_62, qgt_62, qge_62, qeq_62, qlt_64, qle_64, qgt_64, qge_64, qeq_64, qlt_91, qle_91, qgt_91, qge_91, qeq_91, qlt_93, qle_93, qgt_93, qge_93, qeq_93, qlt_97, qle_97, qgt_97, qge_97, qeq_97, qlt_122, qle_122, qgt_122, qge_122, qeq_122, qlt_400, qle_400, qgt_400, qge_400, qeq_400, qlt_999, qle_999, qgt_999, qge_999, qeq_999, qlt_0, qle_0, qgt_0, qge_0, qeq_0, qltm, qeqm, ↓reduceIte, Option.bind_some, not_true_eq_false, not_false_eq_true, and_true, true_and, and_false, false_and, or_false, false_or, or_true, true_or, Bool.false_eq_true, reduceCtorEq, n1, hs, one_ne0]
    · simp (disch := omega) only [p1, nI_ltI, nI_leI, nI_eq, nI_clamp, nI_1, nI_add, nI_mul, inb_n, irm_n, nI_div, nI_m6, nI_d6, irm_6, qlt_1, qle_1, qgt_1, qge_1, qeq_1, qlt_2, qle_2, qgt_2, qge_2, qeq_2, qlt_3, qle_3, qgt_3, qge_3, qeq_3, qlt_4, qle_4, qgt_4, qge_4, qeq_4, qlt_5, qle_5, qgt_5, qge_5, qeq_5, qlt_6, qle_6, qgt_6, qge_6, qeq_6, qlt_7, qle_7, qgt_7, qge_7, qeq_7, qlt_8, qle_8, qgt_8, qge_8, qeq_8, qlt_9, qle_9, qgt_9, qge_9, qeq_9, qlt_10, qle_10, qgt_10, qge_10, qeq_10, qlt_12, qle_12, qgt_12, qge_12, qeq_12, qlt_16, qle_16, qgt_16, qge_16, qeq_16, qlt_20, qle_20, qgt_20, qge_20, qeq_20, qlt_24, qle_24, qgt_24, qge_24, qeq_24, qlt_30, qle_30, qgt_30, qge_30, qeq_30, qlt_32, qle_32, qgt_32, qge_32, qeq_32, qlt_37, qle_37, qgt_37, qge_37, qeq_37, qlt_40, qle_40, qgt_40, qge_40, qeq_40, qlt_42, qle_42, qgt_42, qge_42, qeq_42, qlt_43, qle_43, qgt_43, qge_43, qeq_43, qlt_45, qle_45, qgt_45, qge_45, qeq_45, qlt_47, qle_47, qgt_47, qge_47, qeq_47, qlt_48, qle_48, qgt_48, qge_48, qeq_48, qlt_57, qle_57, qgt_57, qge_57, qeq_57, qlt_59, qle_59, qgt_59, qge_59, qeq_59, qlt_60, qle_60, qgt_60, qge_60, qeq_60, qlt_61, qle_61, qgt_61, qge_61, qeq_61, qlt_62, qle_62, qgt_62, qge_62, qeq_62, qlt_64, qle_64, qgt_64, qge_64, qeq_64, qlt_91, qle_91, qgt_91, qge_91, qeq_91, qlt_93, qle_93, qgt_93, qge_93, qeq_93, qlt_97, qle_97, qgt_97, qge_97, qeq_97, qlt_122, qle_122, qgt_122, qge_122, qeq_122, qlt_400, qle_400, qgt_400, qge_400, qeq_400, qlt_999, qle_999, qgt_999, qge_999, qeq_999, qlt_0, qle_0, qgt_0, qge_0, qeq_0, qltm, qeqm, ↓reduceIte, Option.bind_some, not_true_eq_false, not_false_eq_true, and_true, true_and, and_false, false_and, or_false, false_or, or_true, true_or, Bool.false_eq_true, reduceCtorEq, n1, hs, Nat.add_zero]) (by
    rintro m ⟨S', l3⟩ ⟨rfl, hI1, hI2⟩
    refine ⟨(S', nI (csN N g 60)), ?_, rfl, hI1⟩
    have n1 : 60 < 60 + 1 := by omega
    show f2_countSafe_L1 (100 + 8) (nI g) (m + 1) S' (nI (csN N g 60)) (nI (60 + 1)) = _
    rw [f2_countSafe_L1]
    simp (disch := omega) only [nI_ltI, nI_leI, nI_eq, nI_clamp, nI_1, nI_add, nI_mul, inb_n, irm_n, nI_div, nI_m6, nI_d6, irm_6, qlt_1, qle_1, qgt_1, qge_1, qeq_1, qlt_2, qle_2, qgt_2, qge_2, qeq_2, qlt_3, qle_3, qgt_3, qge_3, qeq_3, qlt_4, qle_4, qgt_4, qge_4, qeq_4, qlt_5, qle_5, qgt_5, qge_5, qeq_5, qlt_6, qle_6, qgt_6, qge_6, qeq_6, qlt_7, qle_7, qgt_7, qge_7, qeq_7, qlt_8, qle_8, qgt_8, qge_8, qeq_8, qlt_9, qle_9, qgt_9, qge_9, qeq_9, qlt_10, qle_10, qgt_10, qge_10, qeq_10, qlt_12, qle_12, qgt_12, qge_12, qeq_12, qlt_16, qle_16, qgt_16, qge_16, qeq_16, qlt_20, qle_20, qgt_20, qge_20, qeq_20, qlt_24, qle_24, qgt_24, qge_24, qeq_24, qlt_30, qle_30, qgt_30, qge_30, qeq_30, qlt_32, qle_32, qgt_32, qge_32, qeq_32, qlt_37, qle_37, qgt_37, qge_37, qeq_37, qlt_40, qle_40, qgt_40, qge_40, qeq_40, qlt_42, qle_42, qgt_42, qge_42, qeq_42, qlt_43, qle_43, qgt_43, qge_43, qeq_43, qlt_45, qle_45, qgt_45, qge_45, qeq_45, qlt_47, qle_47, qgt_47, qge_47, qeq_47, qlt_48, qle_48, qgt_48, qge_48, qeq_48, qlt_57, qle_57, qgt_57, qge_57, qeq_57, qlt_59, qle_59, qgt_59, qge_59, qeq_59, qlt_60, qle_60, qgt_60, qge_60, qeq_60, qlt_61, qle_61, qgt_61, qge_61, qeq_61, qlt_62, qle_62, qgt_62, qge_62, qeq_62, qlt_64, qle_64, qgt_64, qge_64, qeq_64, qlt_91, qle_91, qgt_91, qge_91, qeq_91, qlt_93, qle_93, qgt_93, qge_93, qeq_93, qlt_97, qle_97, qgt_97, qge_97, qeq_97, qlt_122, qle_122, qgt_122, qge_122, qeq_122, qlt_400, qle_400, qgt_400, qge_400, qeq_400, qlt_999, qle_999, qgt_999, qge_999, qeq_999, qlt_0, qle_0, qgt_0, qge_0, qeq_0, qltm, qeqm, ↓reduceIte, Option.bind_some, not_true_eq_false, not_false_eq_true, and_true, true_and, and_false, false_and, or_false, false_or, or_true, true_or, Bool.false_eq_true, reduceCtorEq, n1]) jF 0 (S, 0) (Nat.zero_le _) (by show _ < 5000; omega) ⟨rfl, cQ.rf S, h⟩
  obtain ⟨S1, v⟩ := r
  refine ⟨S1, ?_, hp2⟩
  unfold f2_countSafe
  have hr' : f2_countSafe_L1 (100 + 8) (nI g) jF S 0 1 = some (S1, v) := hr
  have hp1' : v = nI (csN N g 60) := hp1
  rw [hr', hp1']; rfl
theorem fs_stay {N : mN} {g k : Nat} (h : fsN N g k ≠ 0) : ∀ d, fsN N g (k + d) = fsN N g k := by
  intro d
  induction d with
  | zero => rfl
  | succ d ih =>
    show fsN N g (k + d + 1) = _
    rw [fsN, ih, if_neg h]
theorem c_leastSafe {S : jS} {N : mN} {g : Nat} (hN : NOk N) (h : HIs (hC S (100 + 8)) N) (hg : g < N 0 2) : ∃ S1, f2_leastSafe S (100 + 8) (nI g) = some (S1, fsV N g 60) ∧ cQ S S1 := by
  obtain ⟨r, hr, hp1, hp2⟩ := lp_up (G := 60) (Post := fun r : jS × Int32 => r.2 = fsV N g 60 ∧ cQ S r.1) (fun m k S' => f2_leastSafe_L1 (100 + 8) (nI g) m S' (nI (k + 1))) (fun k S' => fsN N g k = 0 ∧ cQ S S' ∧ HIs (hC S' (100 + 8)) N) (by
    rintro m k S' hk ⟨hI0, hI1, hI2⟩
    have n1 : ¬ 60 < k + 1 := by omega
    obtain ⟨S1, p1, p2, p3⟩ := c_sits (b := k + 1) hI1 hN hI2 (by omega) hg
    by_cases hs : sfB N g (k + 1) = true
    · right
      refine ⟨(S1, nI (k + 1)), ?_, ?_, p2⟩
      · show f2_leastSafe_L1 (100 + 8) (nI g) (m + 1) S' (nI (k + 1)) = _
        rw [f2_leastSafe_L1]
        simp (disch := omega) only [p1, nI_ltI, nI_leI, nI_eq, nI_clamp, nI_1, nI_add, nI_mul, inb_n, irm_n, nI_div, nI_m6, nI_d6, irm_6, qlt_1, qle_1, qgt_1, qge_1, qeq_1, qlt_2, qle_2, qgt_2, qge_2, qeq_2, qlt_3, qle_3, qgt_3, qge_3, qeq_3, qlt_4, qle_4, qgt_4, qge_4, qeq_4, qlt_5, qle_5, qgt_5, qge_5, qeq_5, qlt_6, qle_6, qgt_6, qge_6, qeq_6, qlt_7, qle_7, qgt_7, qge_7, qeq_7, qlt_8, qle_8, qgt_8, qge_8, qeq_8, qlt_9, qle_9, qgt_9, qge_9, qeq_9, qlt_10, qle_10, qgt_10, qge_10, qeq_10, qlt_12, qle_12, qgt_12, qge_12, qeq_12, qlt_16, qle_16, qgt_16, qge_16, qeq_16, qlt_20, qle_20, qgt_20, qge_20, qeq_20, qlt_24, qle_24, qgt_24, qge_24, qeq_24, qlt_30, qle_30, qgt_30, qge_30, qeq_30, qlt_32, qle_32, qgt_32, qge_32, qeq_32, qlt_37, qle_37, qgt_37, qge_37, qeq_37, qlt_40, qle_40, qgt_40, qge_40, qeq_40, qlt_42, qle_42, qgt_42, qge_42, qeq_42, qlt_43, qle_43, qgt_43, qge_43, qeq_43, qlt_45, qle_45, qgt_45, qge_45, qeq_45, qlt_47, qle_47, qgt_47, qge_47, qeq_47, qlt_48, qle_48, qgt_48, qge_48, qeq_48, qlt_57, qle_57, qgt_57, qge_57, qeq_57, qlt_59, qle_59, qgt_59, qge_59, qeq_59, qlt_60, qle_60, qgt_60, qge_60, qeq_60, qlt_61, qle_61, qgt_61, qge_61, qeq_61, qlt_62, qle_62, qgt_62, qge_62, qeq_62, qlt_64, qle_64, qgt_64, qge_64, qeq_64, qlt_91, qle_91, qgt_91, qge_91, qeq_91, qlt_93, qle_93, qgt_93, qge_93, qeq_93, qlt_97, qle_97, qgt_97, qge_97, qeq_97, qlt_122, qle_122, qgt_122, qge_122, qeq_122, qlt_400, qle_400, qgt_400, qge_400, qeq_400, qlt_999, qle_999, qgt_999, qge_999, qeq_999, qlt_0, qle_0, qgt_0, qge_0, qeq_0, qltm, qeqm, ↓reduceIte, Option.bind_some, not_true_eq_false, not_false_eq_true, and_true, true_and, and_false, false_and, or_false, false_or, or_true, true_or, Bool.false_eq_true, reduceCtorEq, n1, hs, one_ne0]
      · have e : fsN N g (k + 1) = k + 1 := by rw [fsN, if_pos hI0, if_pos hs]
        have := fs_stay (N := N) (g := g) (k := k + 1) (by omega) (59 - k)
        rw [show k + 1 + (59 - k) = 60 by omega, e] at this
        show nI (k + 1) = fsV N g 60
        unfold fsV
        rw [this, if_neg (by omega)]
    · left
      refine ⟨S1, ?_, ?_, p2, p3⟩
      · show f2_leastSafe_L1 (100 + 8) (nI g) (m + 1) S' (nI (k + 1)) = f2_leastSafe_L1 (100 + 8) (nI g) m S1 (nI (k + 1 + 1))
        rw [f2_leastSafe_L1]
        simp (disch := omega) only [p1, nI_ltI, nI_leI, nI_eq, nI_clamp, nI_1, nI_add, nI_mul, inb_n, irm_n, nI_div, nI_m6, nI_d6, irm_6, qlt_1, qle_1, qgt_1, qge_1, qeq_1, qlt_2, qle_2, qgt_2, qge_2, qeq_2, qlt_3, qle_3, qgt_3, qge_3, qeq_3, qlt_4, qle_4, qgt_4, qge_4, qeq_4, qlt_5, qle_5, qgt_5, qge_5, qeq_5, qlt_6, qle_6, qgt_6, qge_6, qeq_6, qlt_7, qle_7, qgt_7, qge_7, qeq_7, qlt_8, qle_8, qgt_8, qge_8, qeq_8, qlt_9, qle_9, qgt_9, qge_9, qeq_9, qlt_10, qle_10, qgt_10, qge_10, qeq_10, qlt_12, qle_12, qgt_12, qge_12, qeq_12, qlt_16, qle_16, qgt_16, qge_16, qeq_16, qlt_20, qle_20, qgt_20, qge_20, qeq_20, qlt_24, qle_24, qgt_24, qge_24, qeq_24, qlt_30, qle_30, qgt_30, qge_30, qeq_30, qlt_32, qle_32, qgt_32, qge_32, qeq_32, qlt_37, qle_37, qgt_37, qge_37, qeq_37, qlt_40, qle_40, qgt_40, qge_40, qeq_40, qlt_42, qle_42, qgt_42, qge_42, qeq_42, qlt_43, qle_43, qgt_43, qge_43, qeq_43, qlt_45, qle_45, qgt_45, qge_45, qeq_45, qlt_47, qle_47, qgt_47, qge_47, qeq_47, qlt_48, qle_48, qgt_48, qge_48, qeq_48, qlt_57, qle_57, qgt_57, qge_57, qeq_57, qlt_59, qle_59, qgt_59, qge_59, qeq_59, qlt_60, qle_60, qgt_60, qge_60, qeq_60, qlt_61, qle_61, qgt_61, qge_61, qeq_61, qlt_62, qle_62, qgt_62, qge_62, qeq_62, qlt_64, qle_64, qgt_64, qge_64, qeq_64, qlt_91, qle_91, qgt_91, qge_91, qeq_91, qlt_93, qle_93, qgt_93, qge_93, qeq_93, qlt_97, qle_97, qgt_97, qge_97, qeq_97, qlt_122, qle_122, qgt_122, qge_122, qeq_122, qlt_400, qle_400, qgt_400, qge_400, qeq_400, qlt_999, qle_999, qgt_999, qge_999, qeq_999, qlt_0, qle_0, qgt_0, qge_0, qeq_0, qltm, qeqm, ↓reduceIte, Option.bind_some, not_true_eq_false, not_false_eq_true, and_true, true_and, and_false, false_and, or_false, false_or, or_true, true_or, Bool.false_eq_true, reduceCtorEq, n1, hs]
      · rw [fsN, if_pos hI0, if_neg hs]) (by
    rintro m S' ⟨hI0, hI1, hI2⟩
    refine ⟨(S', -2), ?_, ?_, hI1⟩
    · have n1 : 60 < 60 + 1 := by omega
      show f2_leastSafe_L1 (100 + 8) (nI g) (m + 1) S' (nI (60 + 1)) = _
      rw [f2_leastSafe_L1]
      simp (disch := omega) only [nI_ltI, nI_leI, nI_eq, nI_clamp, nI_1, nI_add, nI_mul, inb_n, irm_n, nI_div, nI_m6, nI_d6, irm_6, qlt_1, qle_1, qgt_1, qge_1, qeq_1, qlt_2, qle_2, qgt_2, qge_2, qeq_2, qlt_3, qle_3, qgt_3, qge_3, qeq_3, qlt_4, qle_4, qgt_4, qge_4, qeq_4, qlt_5, qle_5, qgt_5, qge_5, qeq_5, qlt_6, qle_6, qgt_6, qge_6, qeq_6, qlt_7, qle_7, qgt_7, qge_7, qeq_7, qlt_8, qle_8, qgt_8, qge_8, qeq_8, qlt_9, qle_9, qgt_9, qge_9, qeq_9, qlt_10, qle_10, qgt_10, qge_10, qeq_10, qlt_12, qle_12, qgt_12, qge_12, qeq_12, qlt_16, qle_16, qgt_16, qge_16, qeq_16, qlt_20, qle_20, qgt_20, qge_20, qeq_20, qlt_24, qle_24, qgt_24, qge_24, qeq_24, qlt_30, qle_30, qgt_30, qge_30, qeq_30, qlt_32, qle_32, qgt_32, qge_32, qeq_32, qlt_37, qle_37, qgt_37, qge_37, qeq_37, qlt_40, qle_40, qgt_40, qge_40, qeq_40, qlt_42, qle_42, qgt_42, qge_42, qeq_42, qlt_43, qle_43, qgt_43, qge_43, qeq_43, qlt_45, qle_45, qgt_45, qge_45, qeq_45, qlt_47, qle_47, qgt_47, qge_47, qeq_47, qlt_48, qle_48, qgt_48, qge_48, qeq_48, qlt_57, qle_57, qgt_57, qge_57, qeq_57, qlt_59, qle_59, qgt_59, qge_59, qeq_59, qlt_60, qle_60, qgt_60, qge_60, qeq_60, qlt_61, qle_61, qgt_61, qge_61, qeq_61, qlt_62, qle_62, qgt_62, qge_62, qeq_62, qlt_64, qle_64, qgt_64, qge_64, qeq_64, qlt_91, qle_91, qgt_91, qge_91, qeq_91, qlt_93, qle_93, qgt_93, qge_93, qeq_93, qlt_97, qle_97, qgt_97, qge_97, qeq_97, qlt_122, qle_122, qgt_122, qge_122, qeq_122, qlt_400, qle_400, qgt_400, qge_400, qeq_400, qlt_999, qle_999, qgt_999, qge_999, qeq_999, qlt_0, qle_0, qgt_0, qge_0, qeq_0, qltm, qeqm, ↓reduceIte, Option.bind_some, not_true_eq_false, not_false_eq_true, and_true, true_and, and_false, false_and, or_false, false_or, or_true, true_or, Bool.false_eq_true, reduceCtorEq, n1]
    · show -2 = fsV N g 60
      unfold fsV; rw [if_pos hI0]) jF 0 S (Nat.zero_le _) (by show _ < 5000; omega) ⟨rfl, cQ.rf S, h⟩
  obtain ⟨S1, v⟩ := r
  refine ⟨S1, ?_, hp2⟩
  unfold f2_leastSafe
  have hr' : f2_leastSafe_L1 (100 + 8) (nI g) jF S 1 = some (S1, v) := hr
  have hp1' : v = fsV N g 60 := hp1
  rw [hr', hp1']
theorem RRun.w40 {X X' : jS} {N : mN} {x : Int32} (h : RRun X X' N) : RRun X (wI X' 0 40 x) N :=
  ⟨h.1.tr (fun a i g1 g2 => by rw [wI_g, if_neg (by omega)]), h.2.1.fr (fun i => wI_ne (by omega)), HV_mono h.2.2.1 (fun a i g1 g2 => wI_ne (by omega)), h.2.2.2.1, by rw [wI_ne (by omega)]; exact h.2.2.2.2⟩
theorem r_safe {X X' : jS} {N : mN} {g : Nat} {l2 : Int32} (h0 : HIs (hV X.1) N) (hN : NOk N) (h : RRun X X' N) (hg : g < N 0 2) (hov : ¬ ovB N = true) (hr1 : rQ1 X X') : ∃ r, f11_safe_L1 (nI g) l2 jF X' 0 (-2) 1 = some r ∧ r.2.1 = nI (csN N g 60) ∧ r.2.2 = fsV N g 60 ∧ RRun X r.1 N ∧ rQ1 X r.1 := by
  have hG := hN.2.2.1
  exact lp_up (G := 60) (Post := fun r : jS × Int32 × Int32 => r.2.1 = nI (csN N g 60) ∧ r.2.2 = fsV N g 60 ∧ RRun X r.1 N ∧ rQ1 X r.1) (fun m k (A : jS × Int32 × Int32) => f11_safe_L1 (nI g) l2 m A.1 A.2.1 A.2.2 (nI (k + 1))) (fun k A => A.2.1 = nI (csN N g k) ∧ A.2.2 = fsV N g k ∧ RRun X A.1 N ∧ rQ1 X A.1) (by
    rintro m k ⟨X', l3, l4⟩ hk ⟨rfl, rfl, hI, hI1⟩
    left
    have n1 : ¬ 60 < k + 1 := by omega
    obtain ⟨X1, p1, p2, p3⟩ := (hI.w40 (x := nI (k + 1))).of (wI_self _ _ _ _) (b := k + 1) (by omega)
    obtain ⟨X2, w1, w2, w3, w4⟩ := p2.lay h0 hN
    have hrb : rbs N (k + 1) = rnd N (k + 1) 0 4 := by unfold rbs; rw [if_neg hov]
    have hi := (rnd_ok (b := k + 1) hN (by omega)).i
    rw [hrb] at p1
    have p1' : f11_goes (wI X' 0 40 (nI (k + 1))) = some (X1, nI (rnd N (k + 1) 0 4)) := p1
    have hcl := cs_le (N := N) (g := g) k
    refine ⟨(X2, nI (csN N g (k + 1)), fsV N g (k + 1)), ?_, rfl, rfl, w2, w4⟩
    show f11_safe_L1 (nI g) l2 (m + 1) X' (nI (csN N g k)) (fsV N g k) (nI (k + 1)) = f11_safe_L1 (nI g) l2 m X2 (nI (csN N g (k + 1))) (fsV N g (k + 1)) (nI (k + 1 + 1))
    rw [f11_safe_L1, csN]
    have z0 : nI (csN N g k) + 0 = nI (csN N g k) := Int32.add_zero _
    by_cases hs : sfB N g (k + 1) = true
    · have hs' : (rnd N (k + 1) 0 4).testBit g = true := hs
      by_cases hc0 : csN N g k = 0
      · have hf := (cs_fs k).mp hc0
        have e : fsV N g (k + 1) = nI (k + 1) := by
          unfold fsV; rw [fsN, if_pos hf, if_pos hs, if_neg (by omega)]
        simp (disch := omega) only [p1', r_has, w1, nI_ltI, nI_leI, nI_eq, nI_clamp, nI_1, nI_add, nI_mul, inb_n, irm_n, nI_div, nI_m6, nI_d6, irm_6, qlt_1, qle_1, qgt_1, qge_1, qeq_1, qlt_2, qle_2, qgt_2, qge_2, qeq_2, qlt_3, qle_3, qgt_3, qge_3, qeq_3, qlt_4, qle_4, qgt_4, qge_4, qeq_4, qlt_5, qle_5, qgt_5, qge_5, qeq_5, qlt_6, qle_6, qgt_6, qge_6, qeq_6, qlt_7, qle_7, qgt_7, qge_7, qeq_7, qlt_8, qle_8, qgt_8, qge_8, qeq_8, qlt_9, qle_9, qgt_9, qge_9, qeq_9, qlt_10, qle_10, qgt_10, qge_10, qeq_10, qlt_12, qle_12, qgt_12, qge_12, qeq_12, qlt_16, qle_16, qgt_16, qge_16, qeq_16, qlt_20, qle_20, qgt_20, qge_20, qeq_20, qlt_24, qle_24, qgt_24, qge_24, qeq_24, qlt_30, qle_30, qgt_30, qge_30, qeq_30, qlt_32, qle_32, qgt_32, qge_32, qeq_32, qlt_37, qle_37, qgt_37, qge_37, qeq_37, qlt_40, qle_40, qgt_40, qge_40, qeq_40, qlt_42, qle_42, qgt_42, qge_42, qeq_42, qlt_43, qle_43, qgt_43, qge_43, qeq_43, qlt_45, qle_45, qgt_45, qge_45, qeq_45, qlt_47, qle_47, qgt_47, qge_47, qeq_47, qlt_48, qle_48, qgt_48, qge_48, qeq_48, qlt_57, qle_57, qgt_57, qge_57, qeq_57, qlt_59, qle_59, qgt_59, qge_59, qeq_59, qlt_60, qle_60, qgt_60, qge_60, qeq_60, qlt_61, qle_61, qgt_61, qge_61, qeq_61, qlt_62, qle_62, qgt_62, qge_62, qeq_62, qlt_64, qle_64, qgt_64, qge_64, qeq_64, qlt_91, qle_91, qgt_91, qge_91, qeq_91, qlt_93, qle_93, qgt_93, qge_93, qeq_93, qlt_97, qle_97, qgt_97, qge_97, qeq_97, qlt_122, qle_122, qgt_122, qge_122, qeq_122, qlt_400, qle_400, qgt_400, qge_400, qeq_400, qlt_999, qle_999, qgt_999, qge_999, qeq_999, qlt_0, qle_0, qgt_0, qge_0, qeq_0, qltm, qeqm, ↓reduceIte, Option.bind_some, not_true_eq_false, not_false_eq_true, and_true, true_and, and_false, false_and, or_false, false_or, or_true, true_or, Bool.false_eq_true, reduceCtorEq, n1, hs, hs', one_ne0, hc0, e]
      · have hf : ¬ fsN N g k = 0 := fun z => hc0 ((cs_fs k).mpr z)
        have e : fsV N g (k + 1) = fsV N g k := by
          unfold fsV; rw [fsN, if_neg hf]
        simp (disch := omega) only [p1', r_has, w1, nI_ltI, nI_leI, nI_eq, nI_clamp, nI_1, nI_add, nI_mul, inb_n, irm_n, nI_div, nI_m6, nI_d6, irm_6, qlt_1, qle_1, qgt_1, qge_1, qeq_1, qlt_2, qle_2, qgt_2, qge_2, qeq_2, qlt_3, qle_3, qgt_3, qge_3, qeq_3, qlt_4, qle_4, qgt_4, qge_4, qeq_4, qlt_5, qle_5, qgt_5, qge_5, qeq_5, qlt_6, qle_6, qgt_6, qge_6, qeq_6, qlt_7, qle_7, qgt_7, qge_7, qeq_7, qlt_8, qle_8, qgt_8, qge_8, qeq_8, qlt_9, qle_9, qgt_9, qge_9, qeq_9, qlt_10, qle_10, qgt_10, qge_10, qeq_10, qlt_12, qle_12, qgt_12, qge_12, qeq_12, qlt_16, qle_16, qgt_16, qge_16, qeq_16, qlt_20, qle_20, qgt_20, qge_20, qeq_20, qlt_24, qle_24, qgt_24, qge_24, qeq_24, qlt_30, qle_30, qgt_30, qge_30, qeq_30, qlt_32, qle_32, qgt_32, qge_32, qeq_32, qlt_37, qle_37, qgt_37, qge_37, qeq_37, qlt_40, qle_40, qgt_40, qge_40, qeq_40, qlt_42, qle_42, qgt_42, qge_42, qeq_42, qlt_43, qle_43, qgt_43, qge_43, qeq_43, qlt_45, qle_45, qgt_45, qge_45, qeq_45, qlt_47, qle_47, qgt_47, qge_47, qeq_47, qlt_48, qle_48, qgt_48, qge_48, qeq_48, qlt_57, qle_57, qgt_57, qge_57, qeq_57, qlt_59, qle_59, qgt_59, qge_59, qeq_59, qlt_60, qle_60, qgt_60, qge_60, qeq_60, qlt_61, qle_61, qgt_61, qge_61, qeq_61, qlt_62, qle_62, qgt_62, qge_62, qeq_62, qlt_64, qle_64, qgt_64, qge_64, qeq_64, qlt_91, qle_91, qgt_91, qge_91, qeq_91, qlt_93, qle_93, qgt_93, qge_93, qeq_93, qlt_97, qle_97, qgt_97, qge_97, qeq_97, qlt_122, qle_122, qgt_122, qge_122, qeq_122, qlt_400, qle_400, qgt_400, qge_400, qeq_400, qlt_999, qle_999, qgt_999, qge_999, qeq_999, qlt_0, qle_0, qgt_0, qge_0, qeq_0, qltm, qeqm, ↓reduceIte, Option.bind_some, not_true_eq_false, not_false_eq_true, and_true, true_and, and_false, false_and, or_false, false_or, or_true, true_or, Bool.false_eq_true, reduceCtorEq, n1, hs, hs', one_ne0, hc0, e]
    · have hs' : ¬ (rnd N (k + 1) 0 4).testBit g = true := hs
      have e : fsV N g (k + 1) = fsV N g k := by
        unfold fsV; rw [fsN]
        by_cases hf : fsN N g k = 0
        · rw [if_pos hf, if_neg hs, hf]
        · rw [if_neg hf]
      simp (disch := omega) only [p1', r_has, w1, nI_ltI, nI_leI, nI_eq, nI_clamp, nI_1, nI_add, nI_mul, inb_n, irm_n, nI_div, nI_m6, nI_d6, irm_6, qlt_1, qle_1, qgt_1, qge_1, qeq_1, qlt_2, qle_2, qgt_2, qge_2, qeq_2, qlt_3, qle_3, qgt_3, qge_3, qeq_3, qlt_4, qle_4, qgt_4, qge_4, qeq_4, qlt_5, qle_5, qgt_5, qge_5, qeq_5, qlt_6, qle_6, qgt_6, qge_6, qeq_6, qlt_7, qle_7, qgt_7, qge_7, qeq_7, qlt_8, qle_8, qgt_8, qge_8, qeq_8, qlt_9, qle_9, qgt_9, qge_9, qeq_9, qlt_10, qle_10, qgt_10, qge_10, qeq_10, qlt_12, qle_12, qgt_12, qge_12, qeq_12, qlt_16, qle_16, qgt_16, qge_16, qeq_16, qlt_20, qle_20, qgt_20, qge_20, qeq_20, qlt_24, qle_24, qgt_24, qge_24, qeq_24, qlt_30, qle_30, qgt_30, qge_30, qeq_30, qlt_32, qle_32, qgt_32, qge_32, qeq_32, qlt_37, qle_37, qgt_37, qge_37, qeq_37, qlt_40, qle_40, qgt_40, qge_40, qeq_40, qlt_42, qle_42, qgt_42, qge_42, qeq_42, qlt_43, qle_43, qgt_43, qge_43, qeq_43, qlt_45, qle_45, qgt_45, qge_45, qeq_45, qlt_47, qle_47, qgt_47, qge_47, qeq_47, qlt_48, qle_48, qgt_48, qge_48, qeq_48, qlt_57, qle_57, qgt_57, qge_57, qeq_57, qlt_59, qle_59, qgt_59, qge_59, qeq_59, qlt_60, qle_60, qgt_60, qge_60, qeq_60, qlt_61, qle_61, qgt_61, qge_61, qeq_61, qlt_62, qle_62, qgt_62, qge_62, qeq_62, qlt_64, qle_64, qgt_64, qge_64, qeq_64, qlt_91, qle_91, qgt_91, qge_91, qeq_91, qlt_93, qle_93, qgt_93, qge_93, qeq_93, qlt_97, qle_97, qgt_97, qge_97, qeq_97, qlt_122, qle_122, qgt_122, qge_122, qeq_122, qlt_400, qle_400, qgt_400, qge_400, qeq_400, qlt_999, qle_999, qgt_999, qge_999, qeq_999, qlt_0, qle_0, qgt_0, qge_0, qeq_0, qltm, qeqm, ↓reduceIte, Option.bind_some, not_true_eq_false, not_false_eq_true, and_true, true_and, and_false, false_and, or_false, false_or, or_true, true_or, Bool.false_eq_true, reduceCtorEq, n1, hs, hs', z0, e, Nat.add_zero]) (by
    rintro m ⟨X', l3, l4⟩ ⟨h3, h4, hI, hI1⟩
    refine ⟨(X', l3, l4), ?_, h3, h4, hI, hI1⟩
    have n1 : 60 < 60 + 1 := by omega
    show f11_safe_L1 (nI g) l2 (m + 1) X' l3 l4 (nI (60 + 1)) = _
    rw [f11_safe_L1]
    simp (disch := omega) only [nI_ltI, nI_leI, nI_eq, nI_clamp, nI_1, nI_add, nI_mul, inb_n, irm_n, nI_div, nI_m6, nI_d6, irm_6, qlt_1, qle_1, qgt_1, qge_1, qeq_1, qlt_2, qle_2, qgt_2, qge_2, qeq_2, qlt_3, qle_3, qgt_3, qge_3, qeq_3, qlt_4, qle_4, qgt_4, qge_4, qeq_4, qlt_5, qle_5, qgt_5, qge_5, qeq_5, qlt_6, qle_6, qgt_6, qge_6, qeq_6, qlt_7, qle_7, qgt_7, qge_7, qeq_7, qlt_8, qle_8, qgt_8, qge_8, qeq_8, qlt_9, qle_9, qgt_9, qge_9, qeq_9, qlt_10, qle_10, qgt_10, qge_10, qeq_10, qlt_12, qle_12, qgt_12, qge_12, qeq_12, qlt_16, qle_16, qgt_16, qge_16, qeq_16, qlt_20, qle_20, qgt_20, qge_20, qeq_20, qlt_24, qle_24, qgt_24, qge_24, qeq_24, qlt_30, qle_30, qgt_30, qge_30, qeq_30, qlt_32, qle_32, qgt_32, qge_32, qeq_32, qlt_37, qle_37, qgt_37, qge_37, qeq_37, qlt_40, qle_40, qgt_40, qge_40, qeq_40, qlt_42, qle_42, qgt_42, qge_42, qeq_42, qlt_43, qle_43, qgt_43, qge_43, qeq_43, qlt_45, qle_45, qgt_45, qge_45, qeq_45, qlt_47, qle_47, qgt_47, qge_47, qeq_47, qlt_48, qle_48, qgt_48, qge_48, qeq_48, qlt_57, qle_57, qgt_57, qge_57, qeq_57, qlt_59, qle_59, qgt_59, qge_59, qeq_59, qlt_60, qle_60, qgt_60, qge_60, qeq_60, qlt_61, qle_61, qgt_61, qge_61, qeq_61, qlt_62, qle_62, qgt_62, qge_62, qeq_62, qlt_64, qle_64, qgt_64, qge_64, qeq_64, qlt_91, qle_91, qgt_91, qge_91, qeq_91, qlt_93, qle_93, qgt_93, qge_93, qeq_93, qlt_97, qle_97, qgt_97, qge_97, qeq_97, qlt_122, qle_122, qgt_122, qge_122, qeq_122, qlt_400, qle_400, qgt_400, qge_400, qeq_400, qlt_999, qle_999, qgt_999, qge_999, qeq_999, qlt_0, qle_0, qgt_0, qge_0, qeq_0, qltm, qeqm, ↓reduceIte, Option.bind_some, not_true_eq_false, not_false_eq_true, and_true, true_and, and_false, false_and, or_false, false_or, or_true, true_or, Bool.false_eq_true, reduceCtorEq, n1]) jF 0 (X', 0, -2) (Nat.zero_le _) (by show _ < 5000; omega) ⟨rfl, rfl, h, hr1⟩
theorem k_safe {S : jS} {T : jT} {X : jS} (h : INV S T X) (a0 a1 : Int32) : ∃ S1 X1 v, f10_safe S a0 a1 = some (S1, v) ∧ f11_safe X a0 a1 = some (X1, v) ∧ INV S1 T X1 := by
  obtain ⟨N, hN, hc, hr, -⟩ := h.get
  obtain ⟨h40, -⟩ := h.rule
  have hG := hN.2.2.1
  have m0 : (0 : Int32).toInt64 = 0 := by decide
  have m1 : (1 : Int32).toInt64 = 1 := by decide
  unfold f10_safe f11_safe
  rw [r_in a1 m0 m1]
  by_cases hv : ovB N = true
  · rw [(c_over hN hc).1 (ovB_t.mp hv), (r_done hN hr).1 (ovB_t.mp hv)]
    refine ⟨S, X, -1, rfl, ?_, h⟩
    rcases arg_cs a0 (G := N 0 2) (by omega) with ⟨g, hg, rfl⟩ | hg
    · rw [(r_still hN hr).1 g hg]
      by_cases hb : (N 0 4).testBit g = true
      · simp only [hb, ↓reduceIte, Option.bind_some, not_true_eq_false, not_false_eq_true, and_true, true_and, and_false, false_and, or_false, false_or, or_true, true_or, Bool.false_eq_true, reduceCtorEq, one_ne0]
      · simp only [hb, ↓reduceIte, Option.bind_some, not_true_eq_false, not_false_eq_true, and_true, true_and, and_false, false_and, or_false, false_or, or_true, true_or, Bool.false_eq_true, reduceCtorEq]
    · rw [(r_still hN hr).2 a0 hg]; rfl
  · rw [(c_over hN hc).2 (fun z => hv (ovB_t.mpr z)), (r_done hN hr).2 (fun z => hv (ovB_t.mpr z))]
    rcases arg_cs a0 (G := N 0 2) (by omega) with ⟨g, hg, rfl⟩ | hg
    · rw [(c_in hN hc).1 g hg, (r_still hN hr).1 g hg]
      by_cases hb : (N 0 4).testBit g = true
      · simp only [hb, ↓reduceIte, Option.bind_some, not_true_eq_false, not_false_eq_true, and_true, true_and, and_false, false_and, or_false, false_or, or_true, true_or, Bool.false_eq_true, reduceCtorEq, one_ne0]
        by_cases c : 0 ≤ a1 ∧ a1 ≤ 1
        · have d : ¬ a1 < 0 := by grind
          obtain ⟨S1, s1, s2⟩ := c_countSafe hN hc hg
          obtain ⟨S2, t1, t2⟩ := c_leastSafe hN hc hg
          obtain ⟨X0, x1, x2, x3, x4⟩ := RRun.keep hr hN
          obtain ⟨⟨X1, u, w⟩, y1, y2, y3, y4, y5⟩ := r_safe (l2 := a1) hr hN x2 hg hv x4
          have y2' : u = nI (csN N g 60) := y2
          have y3' : w = fsV N g 60 := y3
          have f0 : rQ0 X (wI X1 0 40 (-1)) := y4.1.tr (fun a i g1 g2 => by rw [wI_g, if_neg (by omega)])
          have f1 : rQ1 X (wI X1 0 40 (-1)) := ⟨fun i hi => by rw [wI_ne (by omega)]; exact y5.1 i hi, fun a g g1 g2 hg => by rw [wI_ne (by omega)]; exact y5.2 a g g1 g2 hg⟩
          have f2 : (wI X1 0 40 (-1)).1 0 40 = X.1 0 40 := by rw [wI_self, h40]
          simp only [c, d, ↓reduceIte, Option.bind_some, not_true_eq_false, not_false_eq_true, and_true, true_and, and_false, false_and, or_false, false_or, or_true, true_or, Bool.false_eq_true, reduceCtorEq, one_ne0, and_self, x1, y1]
          by_cases e0 : a1 = 0
          · simp only [e0, ↓reduceIte, Option.bind_some, not_true_eq_false, not_false_eq_true, and_true, true_and, and_false, false_and, or_false, false_or, or_true, true_or, Bool.false_eq_true, reduceCtorEq, s1]
            exact ⟨S1, wI X1 0 40 (-1), u, by rw [y2'], rfl, h.end s2 f0 f1 f2⟩
          · simp only [e0, ↓reduceIte, Option.bind_some, not_true_eq_false, not_false_eq_true, and_true, true_and, and_false, false_and, or_false, false_or, or_true, true_or, Bool.false_eq_true, reduceCtorEq, t1]
            exact ⟨S2, wI X1 0 40 (-1), w, by rw [y3'], rfl, h.end t2 f0 f1 f2⟩
        · refine ⟨S, X, -1, ?_, by simp only [c, ↓reduceIte, Option.bind_some, not_true_eq_false, not_false_eq_true, and_true, true_and, and_false, false_and, or_false, false_or, or_true, true_or, Bool.false_eq_true, reduceCtorEq], h⟩
          by_cases d : a1 < 0
          · rw [if_pos d]
          · rw [if_neg d, if_neg (by grind)]
      · refine ⟨S, X, -1, ?_, ?_, h⟩
        · simp only [hb, ↓reduceIte, Option.bind_some, not_true_eq_false, not_false_eq_true, and_true, true_and, and_false, false_and, or_false, false_or, or_true, true_or, Bool.false_eq_true, reduceCtorEq]
        · simp only [hb, ↓reduceIte, Option.bind_some, not_true_eq_false, not_false_eq_true, and_true, true_and, and_false, false_and, or_false, false_or, or_true, true_or, Bool.false_eq_true, reduceCtorEq]
    · rw [(c_in hN hc).2 a0 hg, (r_still hN hr).2 a0 hg]
      exact ⟨S, X, -1, rfl, rfl, h⟩
