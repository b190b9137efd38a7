/-! how often one sits; a hall with one number changed -/
def setG (N : mN) (a g p : Nat) : mN := fun b i => if b = a ∧ i = g then p else N b i
def setT (N : mN) (t : Nat) : mN := fun b i => if b = 0 ∧ i = 3 then t else N b i
theorem setG_ok {N : mN} {a g p : Nat} (hN : NOk N) (ha : 2 ≤ a) (h2 : a = 2 → p < N 0 0) (h3 : a = 3 → p ≤ 5) (h4 : a = 4 → 1 ≤ p ∧ p ≤ 9) (h5 : a = 5 → p ≤ 30) (h6 : a = 6 → p ≤ 999) : NOk (setG N a g p) := by
  have e0 : ∀ i, setG N a g p 0 i = N 0 i := fun i => if_neg (by omega)
  have e1 : ∀ i, setG N a g p 1 i = N 1 i := fun i => if_neg (by omega)
  obtain ⟨k1, k2, k3, k4, k5, k6, k7, k8, k9, k10⟩ := hN
  unfold NOk
  simp only [e0, e1]
  refine ⟨k1, k2, k3, k4, k5, k6, k7, k8, k9, fun g' hg => ?_⟩
  obtain ⟨b1, b2, b3, b4, b5⟩ := k10 g' hg
  unfold setG
  refine ⟨?_, ?_, ?_, ?_, ?_⟩
  · split
    · rename_i z; exact h2 z.1.symm
    · exact b1
  · split
    · rename_i z; exact h3 z.1.symm
    · exact b2
  · split
    · rename_i z; exact h4 z.1.symm
    · exact b3
  · split
    · rename_i z; exact h5 z.1.symm
    · exact b4
  · split
    · rename_i z; exact h6 z.1.symm
    · exact b5
theorem setT_ok {N : mN} {t : Nat} (hN : NOk N) (ht : t < 2 ^ N 0 1) : NOk (setT N t) := by
  obtain ⟨k1, k2, k3, k4, k5, k6, k7, k8, k9, k10⟩ := hN
  exact ⟨k1, k2, k3, ht, k5, k6, k7, k8, k9, k10⟩
theorem HC_setG {S : jS} {o a g p : Nat} {N : mN} (h : HIs (hC S o) N) (ha : 2 ≤ a) : HIs (hC (wI S (o + a) g (nI p)) o) (setG N a g p) := by
  have e0 : ∀ i, setG N a g p 0 i = N 0 i := fun i => if_neg (by omega)
  have e1 : ∀ i, setG N a g p 1 i = N 1 i := fun i => if_neg (by omega)
  refine ⟨fun i a1 a2 => ?_, ?_, fun c hc => ?_, fun b g' a1 a2 hg => ?_⟩
  · show (wI S (o + a) g (nI p)).1 (o + 0) i = _
    rw [wI_ne (by omega), e0]; exact h.1 i a1 a2
  · show (wI S (o + a) g (nI p)).1 (o + 0) 6 = _
    rw [wI_ne (by omega), e0]; exact h.2.1
  · show (wI S (o + a) g (nI p)).1 (o + 1) c = _
    rw [e0] at hc
    rw [wI_ne (by omega), e1]; exact h.2.2.1 c hc
  · show (wI S (o + a) g (nI p)).1 (o + b) g' = _
    rw [e0] at hg
    rw [wI_g]
    unfold setG
    by_cases z : b = a ∧ g' = g
    · rw [if_pos (by omega), if_pos z]
    · rw [if_neg (by omega), if_neg z]; exact h.2.2.2 b g' a1 a2 hg
theorem HC_setT {S : jS} {o t : Nat} {N : mN} (h : HIs (hC S o) N) : HIs (hC (wI S o 3 (nI t)) o) (setT N t) := by
  refine ⟨fun i a1 a2 => ?_, ?_, fun c hc => ?_, fun b g' a1 a2 hg => ?_⟩
  · show (wI S o 3 (nI t)).1 o i = nI (if 0 = 0 ∧ i = 3 then t else N 0 i)
    rw [wI_g]
    by_cases z : i = 3
    · rw [if_pos ⟨rfl, z⟩, if_pos ⟨rfl, z⟩]
    · rw [if_neg (fun y => z y.2), if_neg (fun y => z y.2)]; exact h.1 i a1 a2
  · show (wI S o 3 (nI t)).1 o 6 = nI (N 0 6) - 1
    rw [wI_nj (by omega)]; exact h.2.1
  · show (wI S o 3 (nI t)).1 (o + 1) c = nI (N 1 c)
    rw [wI_ne (by omega)]; exact h.2.2.1 c hc
  · show (wI S o 3 (nI t)).1 (o + b) g' = nI (if b = 0 ∧ g' = 3 then t else N b g')
    rw [wI_ne (by omega), if_neg (by omega)]; exact h.2.2.2 b g' a1 a2 hg
theorem HV_setG {X : jS} {a g p : Nat} {N : mN} (h : HIs (hV X.1) N) (ha : 2 ≤ a) (ha6 : a ≤ 6) : HIs (hV (wI X a g (nI p)).1) (setG N a g p) := by
  have e0 : ∀ i, setG N a g p 0 i = N 0 i := fun i => if_neg (by omega)
  have e1 : ∀ i, setG N a g p 1 i = N 1 i := fun i => if_neg (by omega)
  refine HIs_V ?_ ?_ ?_ ?_ ?_ ?_ ?_ ?_ (fun c hc => ?_) (fun b g' g1 g2 hg => ?_)
  · rw [wI_ne (by omega), e0]; exact HV0 h
  · rw [wI_ne (by omega), e0]; exact HV1 h
  · rw [wI_ne (by omega), e0]; exact HV2 h
  · rw [wI_ne (by omega), e0]; exact HV3 h
  · rw [wI_ne (by omega), e0]; exact HV4 h
  · rw [wI_ne (by omega), e0]; exact HV5 h
  · rw [wI_ne (by omega), e0]; exact HV6 h
  · rw [wI_ne (by omega), e0]; exact HV7 h
  · rw [e0] at hc
    rw [wI_ne (by omega), e1]; exact HVc h hc
  · rw [e0] at hg
    rw [wI_g]
    unfold setG
    by_cases z : b = a ∧ g' = g
    · rw [if_pos z, if_pos z]
    · rw [if_neg z, if_neg z]; exact HVg h g1 g2 hg
theorem HV_setT {X : jS} {t : Nat} {N : mN} (h : HIs (hV X.1) N) : HIs (hV (wI X 1 7 (nI t)).1) (setT N t) := by
  refine HIs_V ?_ ?_ ?_ ?_ ?_ ?_ ?_ ?_ (fun c hc => ?_) (fun b g' g1 g2 hg => ?_)
  · rw [wI_nj (by omega)]; exact (HV0 h).trans rfl
  · rw [wI_nj (by omega)]; exact (HV1 h).trans rfl
  · rw [wI_nj (by omega)]; exact (HV2 h).trans rfl
  · rw [wI_self]; rfl
  · rw [wI_nj (by omega)]; exact (HV4 h).trans rfl
  · rw [wI_nj (by omega)]; exact (HV5 h).trans rfl
  · rw [wI_nj (by omega)]; exact (HV6 h).trans rfl
  · rw [wI_nj (by omega)]; exact (HV7 h).trans rfl
  · rw [wI_ne (by omega)]; exact (HVc h hc).trans rfl
  · rw [wI_ne (by omega)]
    have : setT N t b g' = N b g' := if_neg (by omega)
    rw [this]; exact HVg h g1 g2 hg
def stN (ru : Option mR) (g : Nat) : Nat → mN → Nat
  | 0, _ => 0
  | n + 1, N => (if (rbs N (bwN ru N)).testBit g = true then 1 else 0) + stN ru g n (rst ru N)
theorem ov_ovN {N : mN} (h : ovB N = true) : ovB (ovN N) = true := h
theorem rst_o {ru : Option mR} {N : mN} (h : ovB N = true) : rst ru N = ovN N := by
  unfold rst rbb; rw [if_pos h]
theorem stN_o {ru : Option mR} {g : Nat} : ∀ (n : Nat) (N : mN), ovB N = true → stN ru g n N = 0 := by
  intro n
  induction n with
  | zero => intro N _; rfl
  | succ n ih =>
    intro N h
    have e : rbs N (bwN ru N) = 0 := by unfold rbs; rw [if_pos h]
    unfold stN
    rw [e, rst_o h, ih _ (ov_ovN h), Nat.zero_testBit]; rfl
theorem stN_le {ru : Option mR} {g : Nat} : ∀ (n : Nat) (N : mN), stN ru g n N ≤ n := by
  intro n
  induction n with
  | zero => intro N; exact Nat.le_refl _
  | succ n ih => intro N; have := ih (rst ru N); unfold stN; split <;> omega
theorem rbs_lt {N : mN} {b : Nat} (hN : NOk N) (hb : b ≤ 60) : rbs N b < 128 := by
  unfold rbs; split
  · omega
  · exact (rnd_ok hN hb).i
/-- frames of the class in its trial hall -/
def tFr (S' S1 : jS) : Prop := ∀ a i, a ≠ 17 → a ≠ 18 → a ≠ 19 → (a < 21 ∨ 27 < a) → a < 1200 → S1.1 a i = S'.1 a i
theorem tFr.rf (S : jS) : tFr S S := fun _ _ _ _ _ _ _ => rfl
theorem tFr.tr {S X Z : jS} (h : tFr S X) (g : tFr X Z) : tFr S Z := fun a i h1 h2 h3 h4 h5 => (g a i h1 h2 h3 h4 h5).trans (h a i h1 h2 h3 h4 h5)
theorem CRun.by2 {T : jT} {S S' : jS} {N : mN} {q : Option Nat} {ru : Option mR} (h : CRun S S' 21 N) (hq : ruC T S q ru) : ∃ S1, f3_roundBy T S' 21 q = some (S1, nI (rbs N (bwN ru N))) ∧ CRun S S1 21 (rst ru N) ∧ tFr S' S1 := by
  obtain ⟨S1, p1, p2, p3⟩ := c_by (by omega) (by omega) h.2.2 h.2.1 (hq.q h.1)
  exact ⟨S1, p1, ⟨h.1.tr (fun a i g1 g2 => p3 a i (by omega) (by omega) (by omega) (by omega) g2), p2, rbb_ok h.2.2 (bw_le ru N).2⟩, fun a i h1 h2 h3 h4 h5 => p3 a i h1 h2 h3 (by omega) (by omega)⟩
theorem c_sft {T : jT} {S S' : jS} {N : mN} {q : Option Nat} {ru : Option mR} {g n : Nat} (h : CRun S S' 21 N) (hq : ruC T S q ru) (hg : g < 7) (hn : n ≤ 20) : ∃ S1, f2_sitsFromTrial T S' q (nI g) (nI n) = some (S1, nI (stN ru g n N)) ∧ cQ S S1 ∧ tFr S' S1 := by
  obtain ⟨r, hr, hp1, hp2, hp3⟩ := lp_up (G := n) (Post := fun r : jS × Int32 => r.2 = nI (stN ru g n N) ∧ cQ S r.1 ∧ tFr S' r.1) (fun m k (A : jS × Int32) => f2_sitsFromTrial_L1 T q (nI g) (nI n) m A.1 A.2 (nI k)) (fun k A => ∃ M c, CRun S A.1 21 M ∧ A.2 = nI c ∧ c + stN ru g (n - k) M = stN ru g n N ∧ tFr S' A.1) (by
    rintro m k ⟨S2, l4⟩ hk ⟨M, c, hI, rfl, hs, hf⟩
    have n1 : ¬ n ≤ k := by omega
    have hle := stN_le (ru := ru) (g := g) n N
    obtain ⟨j, hj⟩ : ∃ j, n - k = j + 1 := ⟨n - k - 1, by omega⟩
    by_cases hv : ovB M = true
    · right
      rw [stN_o _ _ hv] at hs
      refine ⟨(S2, nI c), ?_, by show nI c = _; rw [← hs]; rfl, hI.1, hf⟩
      show f2_sitsFromTrial_L1 T q (nI g) (nI n) (m + 1) S2 (nI c) (nI k) = _
      rw [f2_sitsFromTrial_L1]
      simp (disch := omega) only [(c_over hI.2.2 hI.2.1).1 (ovB_t.mp hv), nI_ltI, nI_leI, nI_eq, nI_clamp, nI_1, nI_add, nI_mul, inb_n, irm_n, nI_div, nI_m6, nI_d6, irm_6, qlt_1, qle_1, qgt_1, qge_1, qeq_1, qlt_2, qle_2, qgt_2, qge_2, qeq_2, qlt_3, qle_3, qgt_3, qge_3, qeq_3, qlt_4, qle_4, qgt_4, qge_4, qeq_4, qlt_5, qle_5, qgt_5, qge_5, qeq_5, qlt_6, qle_6, qgt_6, qge_6, qeq_6, qlt_7, qle_7, qgt_7, qge_7, qeq_7, qlt_8, qle_8, qgt_8, qge_8, qeq_8, qlt_9, qle_9, qgt_9, qge_9, qeq_9, qlt_10, qle_10, qgt_10, qge_10, qeq_10, qlt_12, qle_12, qgt_12, qge_12, qeq_12, qlt_16, qle_16, qgt_16, qge_16, qeq_16, qlt_20, qle_20, qgt_20, qge_20, qeq_20, qlt_24, qle_24, qgt_24, qge_24, qeq_24, qlt_30, qle_30, qgt_30, qge_30, qeq_30, qlt_32, qle_32, qgt_32, qge_32, qeq_32, qlt_37, qle_37, qgt_37, qge_37, qeq_37, qlt_40, qle_40, qgt_40, qge_40, qeq_40, qlt_42, qle_42, qgt_42, qge_42, qeq_42, qlt_43, qle_43, qgt_43, qge_43, qeq_43, qlt_45, qle_45, qgt_45, qge_45, qeq_45, qlt_47, qle_47, qgt_47, qge_47, qeq_47, qlt_48, qle_48, qgt_48, qge_48, qeq_48, qlt_57, qle_57, qgt_57, qge_57, qeq_57, qlt_59, qle_59, qgt_59, qge_59, qeq_59, qlt_60, qle_60, qgt_60, qge_60, qeq_60, qlt_61, qle_61, qgt_61, qge_61, qeq_61, qlt_62, qle_62, qgt_62, qge_62, qeq_62, qlt_64, qle_64, qgt_64, qge_64, qeq_64, qlt_91, qle_91, qgt_91, qge_91, qeq_91, qlt_93, qle_93, qgt_93, qge_93, qeq_93, qlt_97, qle_97, qgt_97, qge_97, qeq_97, qlt_122, qle_122, qgt_122, qge_122, qeq_122, qlt_400, qle_400, qgt_400, qge_400, qeq_400, qlt_999, qle_999, qgt_999, qge_999, qeq_999, qlt_0, qle_0, qgt_0, qge_0, qeq_0, qltm, qeqm, ↓reduceIte, Option.bind_some, not_true_eq_false, not_false_eq_true, and_true, true_and, and_false, false_and, or_false, false_or, or_true, true_or, Bool.false_eq_true, reduceCtorEq, n1, one_ne0]
    · left
      obtain ⟨S1, p1, p2, p3⟩ := hI.by2 (T := T) hq
      have hlt := rbs_lt hI.2.2 (bw_le ru M).2
      rw [hj, stN] at hs
      refine ⟨(S1, nI (c + (if (rbs M (bwN ru M)).testBit g = true then 1 else 0))), ?_, _, _, p2, rfl, ?_, hf.tr p3⟩
      · show f2_sitsFromTrial_L1 T q (nI g) (nI n) (m + 1) S2 (nI c) (nI k) = f2_sitsFromTrial_L1 T q (nI g) (nI n) m S1 (nI (c + (if (rbs M (bwN ru M)).testBit g = true then 1 else 0))) (nI (k + 1))
        rw [f2_sitsFromTrial_L1]
        simp (disch := omega) only [(c_over hI.2.2 hI.2.1).2 (fun z => hv (ovB_t.mpr z)), p1, nI_bit, nI_ltI, nI_leI, nI_eq, nI_clamp, nI_1, nI_add, nI_mul, inb_n, irm_n, nI_div, nI_m6, nI_d6, irm_6, qlt_1, qle_1, qgt_1, qge_1, qeq_1, qlt_2, qle_2, qgt_2, qge_2, qeq_2, qlt_3, qle_3, qgt_3, qge_3, qeq_3, qlt_4, qle_4, qgt_4, qge_4, qeq_4, qlt_5, qle_5, qgt_5, qge_5, qeq_5, qlt_6, qle_6, qgt_6, qge_6, qeq_6, qlt_7, qle_7, qgt_7, qge_7, qeq_7, qlt_8, qle_8, qgt_8, qge_8, qeq_8, qlt_9, qle_9, qgt_9, qge_9, qeq_9, qlt_10, qle_10, qgt_10, qge_10, qeq_10, qlt_12, qle_12, qgt_12, qge_12, qeq_12, qlt_16, qle_16, qgt_16, qge_16, qeq_16, qlt_20, qle_20, qgt_20, qge_20, qeq_20, qlt_24, qle_24, qgt_24, qge_24, qeq_24, qlt_30, qle_30, qgt_30, qge_30, qeq_30, qlt_32, qle_32, qgt_32, qge_32, qeq_32, qlt_37, qle_37, qgt_37, qge_37, qeq_37, qlt_40, qle_40, qgt_40, qge_40, qeq_40, qlt_42, qle_42, qgt_42, qge_42, qeq_42, qlt_43, qle_43, qgt_43, qge_43, qeq_43, qlt_45, qle_45, qgt_45, qge_45, qeq_45, qlt_47, qle_47, qgt_47, qge_47, qeq_47, qlt_48, qle_48, qgt_48, qge_48, qeq_48, qlt_57, qle_57, qgt_57, qge_57, qeq_57, qlt_59, qle_59, qgt_59, qge_59, qeq_59, qlt_60, qle_60, qgt_60, qge_60, qeq_60, qlt_61, qle_61, qgt_61, qge_61, qeq_61, qlt_62, qle_62, qgt_62, qge_62, qeq_62, qlt_64, qle_64, qgt_64, qge_64, qeq_64, qlt_91, qle_91, qgt_91, qge_91, qeq_91, qlt_93, qle_93, qgt_93, qge_93, qeq_93, qlt_97, qle_97, qgt_97, qge_97, qeq_97, qlt_122, qle_122, qgt_122, qge_122, qeq_122, qlt_400, qle_400, qgt_400, qge_400, qeq_400, qlt_999, qle_999, qgt_999, qge_999, qeq_999, qlt_0, qle_0, qgt_0, qge_0, qeq_0, qltm, qeqm, ↓reduceIte, Option.bind_some, not_true_eq_false, not_false_eq_true, and_true, true_and, and_false, false_and, or_false, false_or, or_true, true_or, Bool.false_eq_true, reduceCtorEq, n1]
      · rw [show n - (k + 1) = j by omega]; omega) (by
    rintro m ⟨S2, l4⟩ ⟨M, c, hI, rfl, hs, hf⟩
    rw [Nat.sub_self] at hs
    have hs' : c = stN ru g n N := hs
    refine ⟨(S2, nI c), ?_, by show nI c = _; rw [hs'], hI.1, hf⟩
    show f2_sitsFromTrial_L1 T q (nI g) (nI n) (m + 1) S2 (nI c) (nI n) = _
    rw [f2_sitsFromTrial_L1]
    simp (disch := omega) only [nI_ltI, nI_leI, nI_eq, nI_clamp, nI_1, nI_add, nI_mul, inb_n, irm_n, nI_div, nI_m6, nI_d6, irm_6, qlt_1, qle_1, qgt_1, qge_1, qeq_1, qlt_2, qle_2, qgt_2, qge_2, qeq_2, qlt_3, qle_3, qgt_3, qge_3, qeq_3, qlt_4, qle_4, qgt_4, qge_4, qeq_4, qlt_5, qle_5, qgt_5, qge_5, qeq_5, qlt_6, qle_6, qgt_6, qge_6, qeq_6, qlt_7, qle_7, qgt_7, qge_7, qeq_7, qlt_8, qle_8, qgt_8, qge_8, qeq_8, qlt_9, qle_9, qgt_9, qge_9, qeq_9, qlt_10, qle_10, qgt_10, qge_10, qeq_10, qlt_12, qle_12, qgt_12, qge_12, qeq_12, qlt_16, qle_16, qgt_16, qge_16, qeq_16, qlt_20, qle_20, qgt_20, qge_20, qeq_20, qlt_24, qle_24, qgt_24, qge_24, qeq_24, qlt_30, qle_30, qgt_30, qge_30, qeq_30, qlt_32, qle_32, qgt_32, qge_32, qeq_32, qlt_37, qle_37, qgt_37, qge_37, qeq_37, qlt_40, qle_40, qgt_40, qge_40, qeq_40, qlt_42, qle_42, qgt_42, qge_42, qeq_42, qlt_43, qle_43, qgt_43, qge_43, qeq_43, qlt_45, qle_45, qgt_45, qge_45, qeq_45, qlt_47, qle_47, qgt_47, qge_47, qeq_47, qlt_48, qle_48, qgt_48, qge_48, qeq_48, qlt_57, qle_57, qgt_57, qge_57, qeq_57, qlt_59, qle_59, qgt_59, qge_59, qeq_59, qlt_60, qle_60, qgt_60, qge_60, qeq_60, qlt_61, qle_61, qgt_61, qge_61, qeq_61, qlt_62, qle_62, qgt_62, qge_62, qeq_62, qlt_64, qle_64, qgt_64, qge_64, qeq_64, qlt_91, qle_91, qgt_91, qge_91, qeq_91, qlt_93, qle_93, qgt_93, qge_93, qeq_93, qlt_97, qle_97, qgt_97, qge_97, qeq_97, qlt_122, qle_122, qgt_122, qge_122, qeq_122, qlt_400, qle_400, qgt_400, qge_400, qeq_400, qlt_999, qle_999, qgt_999, qge_999, qeq_999, qlt_0, qle_0, qgt_0, qge_0, qeq_0, qltm, qeqm, ↓reduceIte, Option.bind_some, not_true_eq_false, not_false_eq_true, and_true, true_and, and_false, false_and, or_false, false_or, or_true, true_or, Bool.false_eq_true, reduceCtorEq, Nat.le_refl]) jF 0 (S', 0) (Nat.zero_le _) (by show _ < 5000; omega) ⟨N, 0, h, rfl, by rw [Nat.zero_add, Nat.sub_zero], tFr.rf S'⟩
  obtain ⟨S1, v⟩ := r
  refine ⟨S1, ?_, hp2, hp3⟩
  unfold f2_sitsFromTrial
  have hr' : f2_sitsFromTrial_L1 T q (nI g) (nI n) jF S' 0 0 = some (S1, v) := hr
  have hp1' : v = nI (stN ru g n N) := hp1
  rw [hr', hp1']; rfl
theorem r_sft {X X' : jS} {N N0 : mN} {ru : Option mR} {g n : Nat} (h : RRun X X' N) (h40 : X'.1 0 40 = -1) (hq : ruR X ru) (hg : g < 7) (hn : n ≤ 20) (h0 : HIs (hV X.1) N0) (hN0 : NOk N0) : ∃ X1, f11_satIn X' (nI g) (nI n) = some (X1, nI (stN ru g n N)) ∧ RRun X X1 N0 ∧ X1.1 0 40 = -1 ∧ rQ1 X X1 := by
  obtain ⟨r, hr, hp1, ⟨M', hp2⟩, hp3⟩ := lp_up (G := n) (Post := fun r : jS × Int32 => r.2 = nI (stN ru g n N) ∧ (∃ M, RRun X r.1 M) ∧ r.1.1 0 40 = -1) (fun m k (A : jS × Int32) => f11_satIn_L1 (nI g) (nI n) m A.1 A.2 (nI k)) (fun k A => ∃ M c, RRun X A.1 M ∧ A.1.1 0 40 = -1 ∧ A.2 = nI c ∧ c + stN ru g (n - k) M = stN ru g n N) (by
    rintro m k ⟨X2, l3⟩ hk ⟨M, c, hI, i40, rfl, hs⟩
    have n1 : ¬ n ≤ k := by omega
    obtain ⟨j, hj⟩ : ∃ j, n - k = j + 1 := ⟨n - k - 1, by omega⟩
    left
    obtain ⟨X1, p1, p2, p3⟩ := hI.by i40 hq
    have p1' : f11_goes X2 = some (X1, nI (rbs M (bwN ru M))) := p1
    have hlt := rbs_lt hI.2.2.2.1 (bw_le ru M).2
    rw [hj, stN] at hs
    refine ⟨(X1, nI (c + (if (rbs M (bwN ru M)).testBit g = true then 1 else 0))), ?_, _, _, p2, p3, rfl, ?_⟩
    · show f11_satIn_L1 (nI g) (nI n) (m + 1) X2 (nI c) (nI k) = f11_satIn_L1 (nI g) (nI n) m X1 (nI (c + (if (rbs M (bwN ru M)).testBit g = true then 1 else 0))) (nI (k + 1))
      rw [f11_satIn_L1]
      have z0 : nI c + 0 = nI c := Int32.add_zero _
      by_cases hb : (rbs M (bwN ru M)).testBit g = true
      · simp (disch := omega) only [p1', r_has, hb, nI_ltI, nI_leI, nI_eq, nI_clamp, nI_1, nI_add, nI_mul, inb_n, irm_n, nI_div, nI_m6, nI_d6, irm_6, qlt_1, qle_1, qgt_1, qge_1, qeq_1, qlt_2, qle_2, qgt_2, qge_2, qeq_2, qlt_3, qle_3, qgt_3, qge_3, qeq_3, qlt_4, qle_4, qgt_4, qge_4, qeq_4, qlt_5, qle_5, qgt_5, qge_5, qeq_5, qlt_6, qle_6, qgt_6, qge_6, qeq_6, qlt_7, qle_7, qgt_7, qge_7, qeq_7, qlt_8, qle_8, qgt_8, qge_8, qeq_8, qlt_9, qle_9, qgt_9, qge_9, qeq_9, qlt_10, qle_10, qgt_10, qge_10, qeq_10, qlt_12, qle_12, qgt_12, qge_12, qeq_12, qlt_16, qle_16, qgt_16, qge_16, qeq_16, qlt_20, qle_20, qgt_20, qge_20, qeq_20, qlt_24, qle_24, qgt_24, qge_24, qeq_24, qlt_30, qle_30, qgt_30, qge_30, qeq_30, qlt_32, qle_32, qgt_32, qge_32, qeq_32, qlt_37, qle_37, qgt_37, qge_37, qeq_37, qlt_40, qle_40, qgt_40, qge_40, qeq_40, qlt_42, qle_42, qgt_42, qge_42, qeq_42, qlt_43, qle_43, qgt_43, qge_43, qeq_43, qlt_45, qle_45, qgt_45, qge_45, qeq_45, qlt_47, qle_47, qgt_47, qge_47, qeq_47, qlt_48, qle_48, qgt_48, qge_48, qeq_48, qlt_57, qle_57, qgt_57, qge_57, qeq_57, qlt_59, qle_59, qgt_59, qge_59, qeq_59, qlt_60, qle_60, qgt_60, qge_60, qeq_60, qlt_61, qle_61, qgt_61, qge_61, qeq_61, qlt_62, qle_62, qgt_62, qge_62, qeq_62, qlt_64, qle_64, qgt_64, qge_64, qeq_64, qlt_91, qle_91, qgt_91, qge_91, qeq_91, qlt_93, qle_93, qgt_93, qge_93, qeq_93, qlt_97, qle_97, qgt_97, qge_97, qeq_97, qlt_122, qle_122, qgt_122, qge_122, qeq_122, qlt_400, qle_400, qgt_400, qge_400, qeq_400, qlt_999, qle_999, qgt_999, qge_999, qeq_999, qlt_0, qle_0, qgt_0, qge_0, qeq_0, qltm, qeqm, ↓reduceIte, Option.bind_some, not_true_eq_false, not_false_eq_true, and_true, true_and, and_false, false_and, or_false, false_or, or_true, true_or, Bool.false_eq_true, reduceCtorEq, n1, one_ne0]
      · simp (disch := omega) only [p1', r_has, hb, nI_ltI, nI_leI, nI_eq, nI_clamp, nI_1, nI_add, nI_mul, inb_n, irm_n, nI_div, nI_m6, nI_d6, irm_6, qlt_1, qle_1, qgt_1, qge_1, qeq_1, qlt_2, qle_2, qgt_2, qge_2, qeq_2, qlt_3, qle_3, qgt_3, qge_3, qeq_3, qlt_4, qle_4, qgt_4, qge_4, qeq_4, qlt_5, qle_5, qgt_5, qge_5, qeq_5, qlt_6, qle_6, qgt_6, qge_6, qeq_6, qlt_7, qle_7, qgt_7, qge_7, qeq_7, qlt_8, qle_8, qgt_8, qge_8, qeq_8, qlt_9, qle_9, qgt_9, qge_9, qeq_9, qlt_10, qle_10, qgt_10, qge_10, qeq_10, qlt_12, qle_12, qgt_12, qge_12, qeq_12, qlt_16, qle_16, qgt_16, qge_16, qeq_16, qlt_20, qle_20, qgt_20, qge_20, qeq_20, qlt_24, qle_24, qgt_24, qge_24, qeq_24, qlt_30, qle_30, qgt_30, qge_30, qeq_30, qlt_32, qle_32, qgt_32, qge_32, qeq_32, qlt_37, qle_37, qgt_37, qge_37, qeq_37, qlt_40, qle_40, qgt_40, qge_40, qeq_40, qlt_42, qle_42, qgt_42, qge_42, qeq_42, qlt_43, qle_43, qgt_43, qge_43, qeq_43, qlt_45, qle_45, qgt_45, qge_45, qeq_45, qlt_47, qle_47, qgt_47, qge_47, qeq_47, qlt_48, qle_48, qgt_48, qge_48, qeq_48, qlt_57, qle_57, qgt_57, qge_57, qeq_57, qlt_59, qle_59, qgt_59, qge_59, qeq_59, qlt_60, qle_60, qgt_60, qge_60, qeq_60, qlt_61, qle_61, qgt_61, qge_61, qeq_61, qlt_62, qle_62, qgt_62, qge_62, qeq_62, qlt_64, qle_64, qgt_64, qge_64, qeq_64, qlt_91, qle_91, qgt_91, qge_91, qeq_91, qlt_93, qle_93, qgt_93, qge_93, qeq_93, qlt_97, qle_97, qgt_97, qge_97, qeq_97, qlt_122, qle_122, qgt_122, qge_122, qeq_122, qlt_400, qle_400, qgt_400, qge_400, qeq_400, qlt_999, qle_999, qgt_999, qge_999, qeq_999, qlt_0, qle_0, qgt_0, qge_0, qeq_0, qltm, qeqm, ↓reduceIte, Option.bind_some, not_true_eq_false, not_false_eq_true, and_true, true_and, and_false, false_and, or_false, false_or, or_true, true_or, Bool.false_eq_true, reduceCtorEq, n1, z0, Nat.add_zero]
    · rw [show n - (k + 1) = j by omega]; omega) (by
    rintro m ⟨X2, l3⟩ ⟨M, c, hI, i40, rfl, hs⟩
    rw [Nat.sub_self] at hs
    have hs' : c = stN ru g n N := hs
    refine ⟨(X2, nI c), ?_, by show nI c = _; rw [hs'], ⟨M, hI⟩, i40⟩
    show f11_satIn_L1 (nI g) (nI n) (m + 1) X2 (nI c) (nI n) = _
    rw [f11_satIn_L1]
    simp (disch := omega) only [nI_ltI, nI_leI, nI_eq, nI_clamp, nI_1, nI_add, nI_mul, inb_n, irm_n, nI_div, nI_m6, nI_d6, irm_6, qlt_1, qle_1, qgt_1, qge_1, qeq_1, qlt_2, qle_2, qgt_2, qge_2, qeq_2, qlt_3, qle_3, qgt_3, qge_3, qeq_3, qlt_4, qle_4, qgt_4, qge_4, qeq_4, qlt_5, qle_5, qgt_5, qge_5, qeq_5, qlt_6, qle_6, qgt_6, qge_6, qeq_6, qlt_7, qle_7, qgt_7, qge_7, qeq_7, qlt_8, qle_8, qgt_8, qge_8, qeq_8, qlt_9, qle_9, qgt_9, qge_9, qeq_9, qlt_10, qle_10, qgt_10, qge_10, qeq_10, qlt_12, qle_12, qgt_12, qge_12, qeq_12, qlt_16, qle_16, qgt_16, qge_16, qeq_16, qlt_20, qle_20, qgt_20, qge_20, qeq_20, qlt_24, qle_24, qgt_24, qge_24, qeq_24, qlt_30, qle_30, qgt_30, qge_30, qeq_30, qlt_32, qle_32, qgt_32, qge_32, qeq_32, qlt_37, qle_37, qgt_37, qge_37, qeq_37, qlt_40, qle_40, qgt_40, qge_40, qeq_40, qlt_42, qle_42, qgt_42, qge_42, qeq_42, qlt_43, qle_43, qgt_43, qge_43, qeq_43, qlt_45, qle_45, qgt_45, qge_45, qeq_45, qlt_47, qle_47, qgt_47, qge_47, qeq_47, qlt_48, qle_48, qgt_48, qge_48, qeq_48, qlt_57, qle_57, qgt_57, qge_57, qeq_57, qlt_59, qle_59, qgt_59, qge_59, qeq_59, qlt_60, qle_60, qgt_60, qge_60, qeq_60, qlt_61, qle_61, qgt_61, qge_61, qeq_61, qlt_62, qle_62, qgt_62, qge_62, qeq_62, qlt_64, qle_64, qgt_64, qge_64, qeq_64, qlt_91, qle_91, qgt_91, qge_91, qeq_91, qlt_93, qle_93, qgt_93, qge_93, qeq_93, qlt_97, qle_97, qgt_97, qge_97, qeq_97, qlt_122, qle_122, qgt_122, qge_122, qeq_122, qlt_400, qle_400, qgt_400, qge_400, qeq_400, qlt_999, qle_999, qgt_999, qge_999, qeq_999, qlt_0, qle_0, qgt_0, qge_0, qeq_0, qltm, qeqm, ↓reduceIte, Option.bind_some, not_true_eq_false, not_false_eq_true, and_true, true_and, and_false, false_and, or_false, false_or, or_true, true_or, Bool.false_eq_true, reduceCtorEq, Nat.le_refl]) jF 0 (X', 0) (Nat.zero_le _) (by show _ < 5000; omega) ⟨N, 0, h, h40, rfl, by rw [Nat.zero_add, Nat.sub_zero]⟩
  obtain ⟨X1, v⟩ := r
  obtain ⟨X2, w1, w2, w3, w4⟩ := hp2.lay h0 hN0
  have w1' : f11_laysBack X1 = some (X2, ()) := w1
  refine ⟨X2, ?_, w2, w3.trans hp3, w4⟩
  unfold f11_satIn
  have hr' : f11_satIn_L1 (nI g) (nI n) jF X' 0 0 = some (X1, v) := hr
  have hp1' : v = nI (stN ru g n N) := hp1
  rw [hr', hp1', Option.bind_some]
  simp only [w1', Option.bind_some]
theorem RRun.setG {X X' : jS} {N : mN} {a g p : Nat} (h : RRun X X' N) (ha : 2 ≤ a) (ha6 : a ≤ 6) (hok : NOk (setG N a g p)) : RRun X (wI X' a g (nI p)) (setG N a g p) :=
  ⟨h.1.tr (fun b i g1 g2 => by rw [wI_g, if_neg (by omega)]), h.2.1.fr (fun i => wI_ne (by omega)), HV_setG h.2.2.1 ha ha6, hok, by rw [wI_ne (by omega)]; exact h.2.2.2.2⟩
theorem RRun.setT {X X' : jS} {N : mN} {t : Nat} (h : RRun X X' N) (hok : NOk (setT N t)) : RRun X (wI X' 1 7 (nI t)) (setT N t) :=
  ⟨h.1.tr (fun b i g1 g2 => by rw [wI_g, if_neg (by omega)]), h.2.1.fr (fun i => wI_ne (by omega)), HV_setT h.2.2.1, hok, by rw [wI_nj (by omega)]; exact h.2.2.2.2⟩
