/-! what the notes say -/
def crs (ru : Option mR) (N : mN) (i : Nat) : Nat := itb ru (i + 1) N 0 4
def ntF (B : mB) (c : Nat → Nat) : Nat → Bool
  | 0 => true
  | k + 1 => ntF B c k && ((if (c (bNr B k)).testBit (bNg B k) = true then 1 else 0) == bNi B k)
theorem ntF_mono {B : mB} {c : Nat → Nat} : ∀ (m k : Nat), k ≤ m → ntF B c k = false → ntF B c m = false := by
  intro m
  induction m with
  | zero => intro k h e; have : k = 0 := by omega
            subst this; exact e
  | succ m ih =>
    intro k h e
    by_cases h2 : k = m + 1
    · subst h2; exact e
    · unfold ntF; rw [ih k (by omega) e]; rfl
theorem itb_ok {ru : Option mR} {N : mN} (hN : NOk N) : ∀ k, NOk (itb ru k N) := by
  intro k
  induction k with
  | zero => exact hN
  | succ k ih => exact rbb_ok ih (bw_le _ _).2
def eFr (S' S1 : jS) : Prop := ∀ a i, a ≠ 17 → a ≠ 18 → a ≠ 19 → (a < 71 ∨ 78 < a) → a < 1200 → S1.1 a i = S'.1 a i
theorem c_fits1 {T : jT} {S S' : jS} {N : mN} {q : Option Nat} {ru : Option mR} {a0 : Nat} (h : CRun S S' 71 N) (hq : ruC T S q ru) : ∃ S1, f1_trialFits_L1 T a0 q jF S' 0 = some S1 ∧ cQ S S1 ∧ eFr S' S1 ∧ ∀ i, i < 21 → S1.1 78 i = nI (crs ru N i) := by
  exact lp_up (G := 21) (Post := fun r : jS => cQ S r ∧ eFr S' r ∧ ∀ i, i < 21 → r.1 78 i = nI (crs ru N i)) (fun m k S2 => f1_trialFits_L1 T a0 q m S2 (nI k)) (fun k S2 => CRun S S2 71 (itb ru k N) ∧ eFr S' S2 ∧ ∀ i, i < k → S2.1 78 i = nI (crs ru N i)) (by
    rintro m k S2 hk ⟨hI, hf, hv⟩
    left
    obtain ⟨S1, p1, p2, p3⟩ := c_by (by omega) (by omega) hI.2.2 hI.2.1 (hq.q hI.1)
    have hI' : CRun S S1 71 (itb ru (k + 1) N) := ⟨hI.1.tr (fun a i g1 g2 => p3 a i (by omega) (by omega) (by omega) (by omega) g2), p2, rbb_ok hI.2.2 (bw_le _ _).2⟩
    have e4 : S1.1 71 4 = nI (crs ru N k) := hI'.2.1.1 4 (by omega) (by omega)
    have n1 : ¬ 20 < k := by omega
    refine ⟨wI S1 78 k (nI (crs ru N k)), ?_, ⟨hI'.1.tr (fun a i g1 g2 => wI_ne (by omega)), hI'.2.1.mono (fun a i g1 g2 => wI_ne (by omega)), hI'.2.2⟩, ?_, ?_⟩
    · rw [f1_trialFits_L1]
      simp (disch := omega) only [p1, e4, nI_ltI, nI_leI, nI_eq, nI_clamp, nI_1, nI_add, nI_mul, inb_n, irm_n, nI_div, nI_m6, nI_d6, irm_6, qlt_1, qle_1, qgt_1, qge_1, qeq_1, qlt_2, qle_2, qgt_2, qge_2, qeq_2, qlt_3, qle_3, qgt_3, qge_3, qeq_3, qlt_4, qle_4, qgt_4, qge_4, qeq_4, qlt_5, qle_5, qgt_5, qge_5, qeq_5, qlt_6, qle_6, qgt_6, qge_6, qeq_6, qlt_7, qle_7, qgt_7, qge_7, qeq_7, qlt_8, qle_8, qgt_8, qge_8, qeq_8, qlt_9, qle_9, qgt_9, qge_9, qeq_9, qlt_10, qle_10, qgt_10, qge_10, qeq_10, qlt_12, qle_12, qgt_12, qge_12, qeq_12, qlt_16, qle_16, qgt_16, qge_16, qeq_16, qlt_20, qle_20, qgt_20, qge_20, qeq_20, qlt_24, qle_24, qgt_24, qge_24, qeq_24, qlt_30, qle_30, qgt_30, qge_30, qeq_30, qlt_32, qle_32, qgt_32, qge_32, qeq_32, qlt_37, qle_37, qgt_37, qge_37, qeq_37, qlt_40, qle_40, qgt_40, qge_40, qeq_40, qlt_42, qle_42, qgt_42, qge_42, qeq_42, qlt_43, qle_43, qgt_43, qge_43, qeq_43, qlt_45, qle_45, qgt_45, qge_45, qeq_45, qlt_47, qle_47, qgt_47, qge_47, qeq_47, qlt_48, qle_48, qgt_48, qge_48, qeq_48, qlt_57, qle_57, qgt_57, qge_57, qeq_57, qlt_59, qle_59, qgt_59, qge_59, qeq_59, qlt_60, qle_60, qgt_60, qge_60, qeq_60, qlt_61, qle_61, qgt_61, qge_61, qeq_61, qlt_62, qle_62, qgt_62, qge_62, qeq_62, qlt_64, qle_64, qgt_64, qge_64, qeq_64, qlt_91, qle_91, qgt_91, qge_91, qeq_91, qlt_93, qle_93, qgt_93, qge_93, qeq_93, qlt_97, qle_97, qgt_97, qge_97, qeq_97, qlt_122, qle_122, qgt_122, qge_122, qeq_122, qlt_400, qle_400, qgt_400, qge_400, qeq_400, qlt_999, qle_999, qgt_999, qge_999, qeq_999, qlt_0, qle_0, qgt_0, qge_0, qeq_0, qltm, qeqm, ↓reduceIte, Option.bind_some, not_true_eq_false, not_false_eq_true, and_true, true_and, and_false, false_and, or_false, false_or, or_true, true_or, Bool.false_eq_true, reduceCtorEq, n1, hk]
    · intro a i g1 g2 g3 g4 g5
      rw [wI_ne (by omega), p3 a i g1 g2 g3 (by omega) (by omega)]; exact hf a i g1 g2 g3 g4 g5
    · intro i hi
      by_cases e : i = k
      · subst e; exact wI_self _ _ _ _
      · rw [wI_nj e, p3 78 i (by omega) (by omega) (by omega) (by omega) (by omega)]; exact hv i (by omega)) (by
    rintro m S2 ⟨hI, hf, hv⟩
    refine ⟨S2, ?_, hI.1, hf, hv⟩
    have n1 : 20 < 21 := by omega
    show f1_trialFits_L1 T a0 q (m + 1) S2 (nI 21) = _
    rw [f1_trialFits_L1]
    simp (disch := omega) only [nI_ltI, nI_leI, nI_eq, nI_clamp, nI_1, nI_add, nI_mul, inb_n, irm_n, nI_div, nI_m6, nI_d6, irm_6, qlt_1, qle_1, qgt_1, qge_1, qeq_1, qlt_2, qle_2, qgt_2, qge_2, qeq_2, qlt_3, qle_3, qgt_3, qge_3, qeq_3, qlt_4, qle_4, qgt_4, qge_4, qeq_4, qlt_5, qle_5, qgt_5, qge_5, qeq_5, qlt_6, qle_6, qgt_6, qge_6, qeq_6, qlt_7, qle_7, qgt_7, qge_7, qeq_7, qlt_8, qle_8, qgt_8, qge_8, qeq_8, qlt_9, qle_9, qgt_9, qge_9, qeq_9, qlt_10, qle_10, qgt_10, qge_10, qeq_10, qlt_12, qle_12, qgt_12, qge_12, qeq_12, qlt_16, qle_16, qgt_16, qge_16, qeq_16, qlt_20, qle_20, qgt_20, qge_20, qeq_20, qlt_24, qle_24, qgt_24, qge_24, qeq_24, qlt_30, qle_30, qgt_30, qge_30, qeq_30, qlt_32, qle_32, qgt_32, qge_32, qeq_32, qlt_37, qle_37, qgt_37, qge_37, qeq_37, qlt_40, qle_40, qgt_40, qge_40, qeq_40, qlt_42, qle_42, qgt_42, qge_42, qeq_42, qlt_43, qle_43, qgt_43, qge_43, qeq_43, qlt_45, qle_45, qgt_45, qge_45, qeq_45, qlt_47, qle_47, qgt_47, qge_47, qeq_47, qlt_48, qle_48, qgt_48, qge_48, qeq_48, qlt_57, qle_57, qgt_57, qge_57, qeq_57, qlt_59, qle_59, qgt_59, qge_59, qeq_59, qlt_60, qle_60, qgt_60, qge_60, qeq_60, qlt_61, qle_61, qgt_61, qge_61, qeq_61, qlt_62, qle_62, qgt_62, qge_62, qeq_62, qlt_64, qle_64, qgt_64, qge_64, qeq_64, qlt_91, qle_91, qgt_91, qge_91, qeq_91, qlt_93, qle_93, qgt_93, qge_93, qeq_93, qlt_97, qle_97, qgt_97, qge_97, qeq_97, qlt_122, qle_122, qgt_122, qge_122, qeq_122, qlt_400, qle_400, qgt_400, qge_400, qeq_400, qlt_999, qle_999, qgt_999, qge_999, qeq_999, qlt_0, qle_0, qgt_0, qge_0, qeq_0, qltm, qeqm, ↓reduceIte, Option.bind_some, not_true_eq_false, not_false_eq_true, and_true, true_and, and_false, false_and, or_false, false_or, or_true, true_or, Bool.false_eq_true, reduceCtorEq, n1]) jF 0 S' (Nat.zero_le _) (by show _ < 5000; omega) ⟨h, fun _ _ _ _ _ _ _ => rfl, fun i hi => by omega⟩
theorem c_fits {T : jT} {S S' : jS} {N : mN} {q : Option Nat} {ru : Option mR} {B : mB} {rc : Nat} (ho : BOk B rc) (hn : CNt S 100 B) (h : CRun S S' 71 N) (hq : ruC T S q ru) : ∃ S1, f1_trialFits T S' 100 q = some (S1, if ntF B (crs ru N) (bNn B) = true then 1 else 0) ∧ cQ S S1 ∧ eFr S' S1 ∧ ∀ i, i < 21 → S1.1 78 i = nI (crs ru N i) := by
  obtain ⟨S1, p1, p2, p3, p4⟩ := c_fits1 (T := T) (a0 := 100) h hq
  obtain ⟨-, -, -, -, -, -, -, o1, o2, -, -⟩ := ho
  have f8 : S1.1 100 8 = nI (bNn B) := (p2 _ _ (by omega) (by omega)).trans hn.1
  have fk : ∀ k, k < bNn B → S1.1 (100 + 16) k = nI (bNr B k) ∧ S1.1 (100 + 17) k = nI (bNg B k) ∧ S1.1 (100 + 18) k = nI (bNi B k) := by
    intro k hk
    rw [p2 _ _ (by omega) (by omega), p2 _ _ (by omega) (by omega), p2 _ _ (by omega) (by omega)]; exact hn.2 k hk
  obtain ⟨r, hr, hp⟩ := lp_up (G := bNn B) (Post := fun r : jS × Int32 => r = (S1, if ntF B (crs ru N) (bNn B) = true then 1 else 0)) (fun m k (_ : Unit) => f1_trialFits_L2 T S1 100 m (nI k)) (fun k _ => ntF B (crs ru N) k = true) (by
    intro m k _ hk hI
    obtain ⟨k1, k2, k3⟩ := fk k hk
    obtain ⟨u1, u2, u3⟩ := o2 k hk
    have c78 := p4 (bNr B k) (by omega)
    have hlt : crs ru N (bNr B k) < 128 := (itb_ok h.2.2 _).i
    have n1 : ¬ bNn B ≤ k := by omega
    have n2 : ¬ 10 ≤ k := by omega
    have n3 : k < 10 := by omega
    have n4 : ¬ 20 < bNr B k := by omega
    have n5 : bNr B k < 21 := by omega
    by_cases e : (if (crs ru N (bNr B k)).testBit (bNg B k) = true then 1 else 0) = bNi B k
    · left
      refine ⟨(), ?_, ?_⟩
      · show f1_trialFits_L2 T S1 100 (m + 1) (nI k) = _
        rw [f1_trialFits_L2]
        simp (disch := omega) only [f8, k1, k2, k3, c78, nI_bit, e, nI_ltI, nI_leI, nI_eq, nI_clamp, nI_1, nI_add, nI_mul, inb_n, irm_n, nI_div, nI_m6, nI_d6, irm_6, qlt_1, qle_1, qgt_1, qge_1, qeq_1, qlt_2, qle_2, qgt_2, qge_2, qeq_2, qlt_3, qle_3, qgt_3, qge_3, qeq_3, qlt_4, qle_4, qgt_4, qge_4, qeq_4, qlt_5, qle_5, qgt_5, qge_5, qeq_5, qlt_6, qle_6, qgt_6, qge_6, qeq_6, qlt_7, qle_7, qgt_7, qge_7, qeq_7, qlt_8, qle_8, qgt_8, qge_8, qeq_8, qlt_9, qle_9, qgt_9, qge_9, qeq_9, qlt_10, qle_10, qgt_10, qge_10, qeq_10, qlt_12, qle_12, qgt_12, qge_12, qeq_12, qlt_16, qle_16, qgt_16, qge_16, qeq_16, qlt_20, qle_20, qgt_20, qge_20, qeq_20, qlt_24, qle_24, qgt_24, qge_24, qeq_24, qlt_30, qle_30, qgt_30, qge_30, qeq_30, qlt_32, qle_32, qgt_32, qge_32, qeq_32, qlt_37, qle_37, qgt_37, qge_37, qeq_37, qlt_40, qle_40, qgt_40, qge_40, qeq_40, qlt_42, qle_42, qgt_42, qge_42, qeq_42, qlt_43, qle_43, qgt_43, qge_43, qeq_43, qlt_45, qle_45, qgt_45, qge_45, qeq_45, qlt_47, qle_47, qgt_47, qge_47, qeq_47, qlt_48, qle_48, qgt_48, qge_48, qeq_48, qlt_57, qle_57, qgt_57, qge_57, qeq_57, qlt_59, qle_59, qgt_59, qge_59, qeq_59, qlt_60, qle_60, qgt_60, qge_60, qeq_60, qlt_61, qle_61, qgt_61, qge_61, qeq_61, qlt_62, qle_62, qgt_62, qge_62, qeq_62, qlt_64, qle_64, qgt_64, qge_64, qeq_64, qlt_91, qle_91, qgt_91, qge_91, qeq_91, qlt_93, qle_93, qgt_93, qge_93, qeq_93, qlt_97, qle_97, qgt_97, qge_97, qeq_97, qlt_122, qle_122, qgt_122, qge_122, qeq_122, qlt_400, qle_400, qgt_400, qge_400, qeq_400, qlt_999, qle_999, qgt_999, qge_999, qeq_999, qlt_0, qle_0, qgt_0, qge_0, qeq_0, qltm, qeqm, ↓reduceIte, Option.bind_some, not_true_eq_false, not_false_eq_true, and_true, true_and, and_false, false_and, or_false, false_or, or_true, true_or, Bool.false_eq_true, reduceCtorEq, n1, n2, n3, n4, n5]
      · unfold ntF; rw [hI, e]; simp
    · right
      refine ⟨(S1, 0), ?_, ?_⟩
      · show f1_trialFits_L2 T S1 100 (m + 1) (nI k) = _
        have e' : ¬ nI (if (crs ru N (bNr B k)).testBit (bNg B k) = true then 1 else 0) = nI (bNi B k) := fun z => e ((nI_eq (by split <;> omega) (by omega)).mp z)
        rw [f1_trialFits_L2]
        simp (disch := omega) only [f8, k1, k2, k3, c78, nI_bit, nI_ltI, nI_leI, nI_eq, nI_clamp, nI_1, nI_add, nI_mul, inb_n, irm_n, nI_div, nI_m6, nI_d6, irm_6, qlt_1, qle_1, qgt_1, qge_1, qeq_1, qlt_2, qle_2, qgt_2, qge_2, qeq_2, qlt_3, qle_3, qgt_3, qge_3, qeq_3, qlt_4, qle_4, qgt_4, qge_4, qeq_4, qlt_5, qle_5, qgt_5, qge_5, qeq_5, qlt_6, qle_6, qgt_6, qge_6, qeq_6, qlt_7, qle_7, qgt_7, qge_7, qeq_7, qlt_8, qle_8, qgt_8, qge_8, qeq_8, qlt_9, qle_9, qgt_9, qge_9, qeq_9, qlt_10, qle_10, qgt_10, qge_10, qeq_10, qlt_12, qle_12, qgt_12, qge_12, qeq_12, qlt_16, qle_16, qgt_16, qge_16, qeq_16, qlt_20, qle_20, qgt_20, qge_20, qeq_20, qlt_24, qle_24, qgt_24, qge_24, qeq_24, qlt_30, qle_30, qgt_30, qge_30, qeq_30, qlt_32, qle_32, qgt_32, qge_32, qeq_32, qlt_37, qle_37, qgt_37, qge_37, qeq_37, qlt_40, qle_40, qgt_40, qge_40, qeq_40, qlt_42, qle_42, qgt_42, qge_42, qeq_42, qlt_43, qle_43, qgt_43, qge_43, qeq_43, qlt_45, qle_45, qgt_45, qge_45, qeq_45, qlt_47, qle_47, qgt_47, qge_47, qeq_47, qlt_48, qle_48, qgt_48, qge_48, qeq_48, qlt_57, qle_57, qgt_57, qge_57, qeq_57, qlt_59, qle_59, qgt_59, qge_59, qeq_59, qlt_60, qle_60, qgt_60, qge_60, qeq_60, qlt_61, qle_61, qgt_61, qge_61, qeq_61, qlt_62, qle_62, qgt_62, qge_62, qeq_62, qlt_64, qle_64, qgt_64, qge_64, qeq_64, qlt_91, qle_91, qgt_91, qge_91, qeq_91, qlt_93, qle_93, qgt_93, qge_93, qeq_93, qlt_97, qle_97, qgt_97, qge_97, qeq_97, qlt_122, qle_122, qgt_122, qge_122, qeq_122, qlt_400, qle_400, qgt_400, qge_400, qeq_400, qlt_999, qle_999, qgt_999, qge_999, qeq_999, qlt_0, qle_0, qgt_0, qge_0, qeq_0, qltm, qeqm, ↓reduceIte, Option.bind_some, not_true_eq_false, not_false_eq_true, and_true, true_and, and_false, false_and, or_false, false_or, or_true, true_or, Bool.false_eq_true, reduceCtorEq, n1, n2, n3, n4, n5]
        rw [if_neg e']
      · have : ntF B (crs ru N) (k + 1) = false := by
          unfold ntF; rw [hI]; simpa using e
        rw [ntF_mono (bNn B) (k + 1) (by omega) this]; rfl) (by
    intro m _ hI
    refine ⟨(S1, 1), ?_, by rw [if_pos hI]⟩
    show f1_trialFits_L2 T S1 100 (m + 1) (nI (bNn B)) = _
    rw [f1_trialFits_L2]
    simp (disch := omega) only [f8, nI_ltI, nI_leI, nI_eq, nI_clamp, nI_1, nI_add, nI_mul, inb_n, irm_n, nI_div, nI_m6, nI_d6, irm_6, qlt_1, qle_1, qgt_1, qge_1, qeq_1, qlt_2, qle_2, qgt_2, qge_2, qeq_2, qlt_3, qle_3, qgt_3, qge_3, qeq_3, qlt_4, qle_4, qgt_4, qge_4, qeq_4, qlt_5, qle_5, qgt_5, qge_5, qeq_5, qlt_6, qle_6, qgt_6, qge_6, qeq_6, qlt_7, qle_7, qgt_7, qge_7, qeq_7, qlt_8, qle_8, qgt_8, qge_8, qeq_8, qlt_9, qle_9, qgt_9, qge_9, qeq_9, qlt_10, qle_10, qgt_10, qge_10, qeq_10, qlt_12, qle_12, qgt_12, qge_12, qeq_12, qlt_16, qle_16, qgt_16, qge_16, qeq_16, qlt_20, qle_20, qgt_20, qge_20, qeq_20, qlt_24, qle_24, qgt_24, qge_24, qeq_24, qlt_30, qle_30, qgt_30, qge_30, qeq_30, qlt_32, qle_32, qgt_32, qge_32, qeq_32, qlt_37, qle_37, qgt_37, qge_37, qeq_37, qlt_40, qle_40, qgt_40, qge_40, qeq_40, qlt_42, qle_42, qgt_42, qge_42, qeq_42, qlt_43, qle_43, qgt_43, qge_43, qeq_43, qlt_45, qle_45, qgt_45, qge_45, qeq_45, qlt_47, qle_47, qgt_47, qge_47, qeq_47, qlt_48, qle_48, qgt_48, qge_48, qeq_48, qlt_57, qle_57, qgt_57, qge_57, qeq_57, qlt_59, qle_59, qgt_59, qge_59, qeq_59, qlt_60, qle_60, qgt_60, qge_60, qeq_60, qlt_61, qle_61, qgt_61, qge_61, qeq_61, qlt_62, qle_62, qgt_62, qge_62, qeq_62, qlt_64, qle_64, qgt_64, qge_64, qeq_64, qlt_91, qle_91, qgt_91, qge_91, qeq_91, qlt_93, qle_93, qgt_93, qge_93, qeq_93, qlt_97, qle_97, qgt_97, qge_97, qeq_97, qlt_122, qle_122, qgt_122, qge_122, qeq_122, qlt_400, qle_400, qgt_400, qge_400, qeq_400, qlt_999, qle_999, qgt_999, qge_999, qeq_999, qlt_0, qle_0, qgt_0, qge_0, qeq_0, qltm, qeqm, ↓reduceIte, Option.bind_some, not_true_eq_false, not_false_eq_true, and_true, true_and, and_false, false_and, or_false, false_or, or_true, true_or, Bool.false_eq_true, reduceCtorEq, Nat.le_refl]) jF 0 () (Nat.zero_le _) (by show _ < 5000; omega) rfl
  refine ⟨S1, ?_, p2, p3, p4⟩
  unfold f1_trialFits
  rw [p1, Option.bind_some, ← hp]
  exact hr
/-- the reference, whatever rule stands in it -/
def RRn (X X' : jS) (N : mN) (ru : Option mR) : Prop := rQ0 X X' ∧ svd X X' ∧ HIs (hV X'.1) N ∧ NOk N ∧ ruR X' ru ∧ X'.1 0 40 = -1
theorem RRn.by {X X' : jS} {N : mN} {ru : Option mR} (h : RRn X X' N ru) : ∃ X1, f11_goes X' = some (X1, nI (rbs N (bwN ru N))) ∧ RRn X X1 (rst ru N) ru ∧ rF X' X1 := by
  obtain ⟨g1, g2, g3, g4, g5, g6⟩ := h
  obtain ⟨X1, p1, p2, p3⟩ := r_by g4 g3 g6 g5
  exact ⟨X1, p1, ⟨g1.tr p3.q, g2.fr (fun i => p3 _ _ (by omega) (by omega) (by omega) (by omega) (by omega) (by omega)), p2, rbb_ok g4 (bw_le ru N).2, g5.q p3.q (p3 1 10 (by omega) (by omega) (by omega) (by omega) (by omega) (by omega)), (p3 0 40 (by omega) (by omega) (by omega) (by omega) (by omega) (by omega)).trans g6⟩, p3⟩
theorem r_fits {X X' : jS} {N N0 : mN} {ru : Option mR} {B : mB} {rc : Nat} (ho : BOk B rc) (hn : RNt (VC X) B) (h : RRn X X' N ru) (h0 : HIs (hV X.1) N0) (hN0 : NOk N0) : ∃ X1, f11_doNotesFit X' = some (X1, if ntF B (crs ru N) (bNn B) = true then 1 else 0) ∧ RRun X X1 N0 ∧ rQ1 X X1 ∧ X1.1 0 40 = -1 ∧ (∀ i, i < 21 → X1.1 51 i = nI (crs ru N i)) ∧ (∀ i, X1.1 52 i = X'.1 52 i) := by
  obtain ⟨-, -, -, -, -, -, -, o1, o2, -, -⟩ := ho
  obtain ⟨Y, y1, ⟨M', y2⟩, y3, y4⟩ := lp_up (G := 21) (Post := fun r : jS => (∃ M, RRn X r M ru) ∧ (∀ i, i < 21 → r.1 51 i = nI (crs ru N i)) ∧ (∀ i, r.1 52 i = X'.1 52 i)) (fun m k X2 => f11_doNotesFit_L1 m X2 (nI k)) (fun k r => RRn X r (itb ru k N) ru ∧ (∀ i, i < k → r.1 51 i = nI (crs ru N i)) ∧ (∀ i, r.1 52 i = X'.1 52 i)) (by
    rintro m k X2 hk ⟨hI, hv, h52⟩
    left
    obtain ⟨X1, p1, p2, p3⟩ := hI.by
    have e6 : X1.1 1 6 = nI (crs ru N k) := HV4 p2.2.2.1
    have n1 : ¬ 20 < k := by omega
    obtain ⟨g1, g2, g3, g4, g5, g6⟩ := p2
    refine ⟨wI X1 51 k (nI (crs ru N k)), ?_, ⟨g1.tr (fun a i u1 u2 => wI_ne (by omega)), g2.fr (fun i => wI_ne (by omega)), HV_mono g3 (fun a i u1 u2 => wI_ne (by omega)), g4, g5.q (fun a i u1 u2 => wI_ne (by omega)) (wI_ne (by omega)), by rw [wI_ne (by omega)]; exact g6⟩, ?_, ?_⟩
    · show f11_doNotesFit_L1 (m + 1) X2 (nI k) = _
      rw [f11_doNotesFit_L1]
      simp (disch := omega) only [p1, e6, nI_ltI, nI_leI, nI_eq, nI_clamp, nI_1, nI_add, nI_mul, inb_n, irm_n, nI_div, nI_m6, nI_d6, irm_6, qlt_1, qle_1, qgt_1, qge_1, qeq_1, qlt_2, qle_2, qgt_2, qge_2, qeq_2, qlt_3, qle_3, qgt_3, qge_3, qeq_3, qlt_4, qle_4, qgt_4, qge_4, qeq_4, qlt_5, qle_5, qgt_5, qge_5, qeq_5, qlt_6, qle_6, qgt_6, qge_6, qeq_6, qlt_7, qle_7, qgt_7, qge_7, qeq_7, qlt_8, qle_8, qgt_8, qge_8, qeq_8, qlt_9, qle_9, qgt_9, qge_9, qeq_9, qlt_10, qle_10, qgt_10, qge_10, qeq_10, qlt_12, qle_12, qgt_12, qge_12, qeq_12, qlt_16, qle_16, qgt_16, qge_16, qeq_16, qlt_20, qle_20, qgt_20, qge_20, qeq_20, qlt_24, qle_24, qgt_24, qge_24, qeq_24, qlt_30, qle_30, qgt_30, qge_30, qeq_30, qlt_32, qle_32, qgt_32, qge_32, qeq_32, qlt_37, qle_37, qgt_37, qge_37, qeq_37, qlt_40, qle_40, qgt_40, qge_40, qeq_40, qlt_42, qle_42, qgt_42, qge_42, qeq_42, qlt_43, qle_43, qgt_43, qge_43, qeq_43, qlt_45, qle_45, qgt_45, qge_45, qeq_45, qlt_47, qle_47, qgt_47, qge_47, qeq_47, qlt_48, qle_48, qgt_48, qge_48, qeq_48, qlt_57, qle_57, qgt_57, qge_57, qeq_57, qlt_59, qle_59, qgt_59, qge_59, qeq_59, qlt_60, qle_60, qgt_60, qge_60, qeq_60, qlt_61, qle_61, qgt_61, qge_61, qeq_61, qlt_62, qle_62, qgt_62, qge_62, qeq_62, qlt_64, qle_64, qgt_64, qge_64, qeq_64, qlt_91, qle_91, qgt_91, qge_91, qeq_91, qlt_93, qle_93, qgt_93, qge_93, qeq_93, qlt_97, qle_97, qgt_97, qge_97, qeq_97, qlt_122, qle_122, qgt_122, qge_122, qeq_122, qlt_400, qle_400, qgt_400, qge_400, qeq_400, qlt_999, qle_999, qgt_999, qge_999, qeq_999, qlt_0, qle_0, qgt_0, qge_0, qeq_0, qltm, qeqm, ↓reduceIte, Option.bind_some, not_true_eq_false, not_false_eq_true, and_true, true_and, and_false, false_and, or_false, false_or, or_true, true_or, Bool.false_eq_true, reduceCtorEq, n1, hk]
    · intro i hi
      by_cases e : i = k
      · subst e; exact wI_self _ _ _ _
      · rw [wI_nj e, p3 51 i (by omega) (by omega) (by omega) (by omega) (by omega) (by omega)]; exact hv i (by omega)
    · intro i
      rw [wI_ne (by omega), p3 52 i (by omega) (by omega) (by omega) (by omega) (by omega) (by omega)]; exact h52 i) (by
    rintro m X2 ⟨hI, hI2, hI3⟩
    refine ⟨X2, ?_, ⟨_, hI⟩, hI2, hI3⟩
    have n1 : 20 < 21 := by omega
    show f11_doNotesFit_L1 (m + 1) X2 (nI 21) = _
    rw [f11_doNotesFit_L1]
    simp (disch := omega) only [nI_ltI, nI_leI, nI_eq, nI_clamp, nI_1, nI_add, nI_mul, inb_n, irm_n, nI_div, nI_m6, nI_d6, irm_6, qlt_1, qle_1, qgt_1, qge_1, qeq_1, qlt_2, qle_2, qgt_2, qge_2, qeq_2, qlt_3, qle_3, qgt_3, qge_3, qeq_3, qlt_4, qle_4, qgt_4, qge_4, qeq_4, qlt_5, qle_5, qgt_5, qge_5, qeq_5, qlt_6, qle_6, qgt_6, qge_6, qeq_6, qlt_7, qle_7, qgt_7, qge_7, qeq_7, qlt_8, qle_8, qgt_8, qge_8, qeq_8, qlt_9, qle_9, qgt_9, qge_9, qeq_9, qlt_10, qle_10, qgt_10, qge_10, qeq_10, qlt_12, qle_12, qgt_12, qge_12, qeq_12, qlt_16, qle_16, qgt_16, qge_16, qeq_16, qlt_20, qle_20, qgt_20, qge_20, qeq_20, qlt_24, qle_24, qgt_24, qge_24, qeq_24, qlt_30, qle_30, qgt_30, qge_30, qeq_30, qlt_32, qle_32, qgt_32, qge_32, qeq_32, qlt_37, qle_37, qgt_37, qge_37, qeq_37, qlt_40, qle_40, qgt_40, qge_40, qeq_40, qlt_42, qle_42, qgt_42, qge_42, qeq_42, qlt_43, qle_43, qgt_43, qge_43, qeq_43, qlt_45, qle_45, qgt_45, qge_45, qeq_45, qlt_47, qle_47, qgt_47, qge_47, qeq_47, qlt_48, qle_48, qgt_48, qge_48, qeq_48, qlt_57, qle_57, qgt_57, qge_57, qeq_57, qlt_59, qle_59, qgt_59, qge_59, qeq_59, qlt_60, qle_60, qgt_60, qge_60, qeq_60, qlt_61, qle_61, qgt_61, qge_61, qeq_61, qlt_62, qle_62, qgt_62, qge_62, qeq_62, qlt_64, qle_64, qgt_64, qge_64, qeq_64, qlt_91, qle_91, qgt_91, qge_91, qeq_91, qlt_93, qle_93, qgt_93, qge_93, qeq_93, qlt_97, qle_97, qgt_97, qge_97, qeq_97, qlt_122, qle_122, qgt_122, qge_122, qeq_122, qlt_400, qle_400, qgt_400, qge_400, qeq_400, qlt_999, qle_999, qgt_999, qge_999, qeq_999, qlt_0, qle_0, qgt_0, qge_0, qeq_0, qltm, qeqm, ↓reduceIte, Option.bind_some, not_true_eq_false, not_false_eq_true, and_true, true_and, and_false, false_and, or_false, false_or, or_true, true_or, Bool.false_eq_true, reduceCtorEq, n1]) jF 0 X' (Nat.zero_le _) (by show _ < 5000; omega) ⟨h, fun i hi => by omega, fun i => rfl⟩
  obtain ⟨X1, w1, w2, w3, w4⟩ := RRun.lay' y2.1 y2.2.1 h0 hN0
  obtain ⟨Z, z1, z2, z3⟩ := r_lay y2.2.1
  have ez : X1 = Z := by rw [w1] at z1; cases z1; rfl
  rw [← ez] at z3
  have c51 : ∀ i, i < 21 → X1.1 51 i = nI (crs ru N i) := fun i hi => (z3 51 i (by omega) (by omega)).trans (y3 i hi)
  have f8 : X1.1 1 8 = nI (bNn B) := (w4.1 8 (by omega)).trans hn.1
  have fk : ∀ k, k < bNn B → X1.1 8 k = nI (bNr B k) ∧ X1.1 9 k = nI (bNg B k) ∧ X1.1 10 k = nI (bNi B k) := by
    intro k hk
    rw [w2.1 8 k (by omega) (by omega), w2.1 9 k (by omega) (by omega), w2.1 10 k (by omega) (by omega)]; exact hn.2 k hk
  obtain ⟨r, hr, hp⟩ := lp_up (G := bNn B) (Post := fun r : jS × Int32 => r = (X1, if ntF B (crs ru N) (bNn B) = true then 1 else 0)) (fun m k (_ : Unit) => f11_doNotesFit_L2 X1 m (nI k)) (fun k _ => ntF B (crs ru N) k = true) (by
    intro m k _ hk hI
    obtain ⟨k1, k2, k3⟩ := fk k hk
    obtain ⟨u1, u2, u3⟩ := o2 k hk
    have cc := c51 (bNr B k) (by omega)
    have hlt : crs ru N (bNr B k) < 128 := (itb_ok h.2.2.2.1 _).i
    have n1 : ¬ bNn B ≤ k := by omega
    have n3 : k < 10 := by omega
    have n5 : bNr B k < 21 := by omega
    by_cases e : (if (crs ru N (bNr B k)).testBit (bNg B k) = true then 1 else 0) = bNi B k
    · left
      refine ⟨(), ?_, ?_⟩
      · show f11_doNotesFit_L2 X1 (m + 1) (nI k) = _
        rw [f11_doNotesFit_L2]
        simp (disch := omega) only [f8, k1, k2, k3, cc, nI_bit, e, nI_ltI, nI_leI, nI_eq, nI_clamp, nI_1, nI_add, nI_mul, inb_n, irm_n, nI_div, nI_m6, nI_d6, irm_6, qlt_1, qle_1, qgt_1, qge_1, qeq_1, qlt_2, qle_2, qgt_2, qge_2, qeq_2, qlt_3, qle_3, qgt_3, qge_3, qeq_3, qlt_4, qle_4, qgt_4, qge_4, qeq_4, qlt_5, qle_5, qgt_5, qge_5, qeq_5, qlt_6, qle_6, qgt_6, qge_6, qeq_6, qlt_7, qle_7, qgt_7, qge_7, qeq_7, qlt_8, qle_8, qgt_8, qge_8, qeq_8, qlt_9, qle_9, qgt_9, qge_9, qeq_9, qlt_10, qle_10, qgt_10, qge_10, qeq_10, qlt_12, qle_12, qgt_12, qge_12, qeq_12, qlt_16, qle_16, qgt_16, qge_16, qeq_16, qlt_20, qle_20, qgt_20, qge_20, qeq_20, qlt_24, qle_24, qgt_24, qge_24, qeq_24, qlt_30, qle_30, qgt_30, qge_30, qeq_30, qlt_32, qle_32, qgt_32, qge_32, qeq_32, qlt_37, qle_37, qgt_37, qge_37, qeq_37, qlt_40, qle_40, qgt_40, qge_40, qeq_40, qlt_42, qle_42, qgt_42, qge_42, qeq_42, qlt_43, qle_43, qgt_43, qge_43, qeq_43, qlt_45, qle_45, qgt_45, qge_45, qeq_45, qlt_47, qle_47, qgt_47, qge_47, qeq_47, qlt_48, qle_48, qgt_48, qge_48, qeq_48, qlt_57, qle_57, qgt_57, qge_57, qeq_57, qlt_59, qle_59, qgt_59, qge_59, qeq_59, qlt_60, qle_60, qgt_60, qge_60, qeq_60, qlt_61, qle_61, qgt_61, qge_61, qeq_61, qlt_62, qle_62, qgt_62, qge_62, qeq_62, qlt_64, qle_64, qgt_64, qge_64, qeq_64, qlt_91, qle_91, qgt_91, qge_91, qeq_91, qlt_93, qle_93, qgt_93, qge_93, qeq_93, qlt_97, qle_97, qgt_97, qge_97, qeq_97, qlt_122, qle_122, qgt_122, qge_122, qeq_122, qlt_400, qle_400, qgt_400, qge_400, qeq_400, qlt_999, qle_999, qgt_999, qge_999, qeq_999, qlt_0, qle_0, qgt_0, qge_0, qeq_0, qltm, qeqm, ↓reduceIte, Option.bind_some, not_true_eq_false, not_false_eq_true, and_true, true_and, and_false, false_and, or_false, false_or, or_true, true_or, Bool.false_eq_true, reduceCtorEq, n1, n3, n5]
      · unfold ntF; rw [hI, e]; simp
    · right
      refine ⟨(X1, 0), ?_, ?_⟩
      · show f11_doNotesFit_L2 X1 (m + 1) (nI k) = _
        have e' : ¬ nI (if (crs ru N (bNr B k)).testBit (bNg B k) = true then 1 else 0) = nI (bNi B k) := fun z => e ((nI_eq (by split <;> omega) (by omega)).mp z)
        rw [f11_doNotesFit_L2]
        simp (disch := omega) only [f8, k1, k2, k3, cc, nI_bit, nI_ltI, nI_leI, nI_eq, nI_clamp, nI_1, nI_add, nI_mul, inb_n, irm_n, nI_div, nI_m6, nI_d6, irm_6, qlt_1, qle_1, qgt_1, qge_1, qeq_1, qlt_2, qle_2, qgt_2, qge_2, qeq_2, qlt_3, qle_3, qgt_3, qge_3, qeq_3, qlt_4, qle_4, qgt_4, qge_4, qeq_4, qlt_5, qle_5, qgt_5, qge_5, qeq_5, qlt_6, qle_6, qgt_6, qge_6, qeq_6, qlt_7, qle_7, qgt_7, qge_7, qeq_7, qlt_8, qle_8, qgt_8, qge_8, qeq_8, qlt_9, qle_9, qgt_9, qge_9, qeq_9, qlt_10, qle_10, qgt_10, qge_10, qeq_10, qlt_12, qle_12, qgt_12, qge_12, qeq_12, qlt_16, qle_16, qgt_16, qge_16, qeq_16, qlt_20, qle_20, qgt_20, qge_20, qeq_20, qlt_24, qle_24, qgt_24, qge_24, qeq_24, qlt_30, qle_30, qgt_30, qge_30, qeq_30, qlt_32, qle_32, qgt_32, qge_32, qeq_32, qlt_37, qle_37, qgt_37, qge_37, qeq_37, qlt_40, qle_40, qgt_40, qge_40, qeq_40, qlt_42, qle_42, qgt_42, qge_42, qeq_42, qlt_43, qle_43, qgt_43, qge_43, qeq_43, qlt_45, qle_45, qgt_45, qge_45, qeq_45, qlt_47, qle_47, qgt_47, qge_47, qeq_47, qlt_48, qle_48, qgt_48, qge_48, qeq_48, qlt_57, qle_57, qgt_57, qge_57, qeq_57, qlt_59, qle_59, qgt_59, qge_59, qeq_59, qlt_60, qle_60, qgt_60, qge_60, qeq_60, qlt_61, qle_61, qgt_61, qge_61, qeq_61, qlt_62, qle_62, qgt_62, qge_62, qeq_62, qlt_64, qle_64, qgt_64, qge_64, qeq_64, qlt_91, qle_91, qgt_91, qge_91, qeq_91, qlt_93, qle_93, qgt_93, qge_93, qeq_93, qlt_97, qle_97, qgt_97, qge_97, qeq_97, qlt_122, qle_122, qgt_122, qge_122, qeq_122, qlt_400, qle_400, qgt_400, qge_400, qeq_400, qlt_999, qle_999, qgt_999, qge_999, qeq_999, qlt_0, qle_0, qgt_0, qge_0, qeq_0, qltm, qeqm, ↓reduceIte, Option.bind_some, not_true_eq_false, not_false_eq_true, and_true, true_and, and_false, false_and, or_false, false_or, or_true, true_or, Bool.false_eq_true, reduceCtorEq, n1, n3, n5]
        rw [if_neg e']
      · have : ntF B (crs ru N) (k + 1) = false := by
          unfold ntF; rw [hI]; simpa using e
        rw [ntF_mono (bNn B) (k + 1) (by omega) this]; rfl) (by
    intro m _ hI
    refine ⟨(X1, 1), ?_, by rw [if_pos hI]⟩
    show f11_doNotesFit_L2 X1 (m + 1) (nI (bNn B)) = _
    rw [f11_doNotesFit_L2]
    simp (disch := omega) only [f8, nI_ltI, nI_leI, nI_eq, nI_clamp, nI_1, nI_add, nI_mul, inb_n, irm_n, nI_div, nI_m6, nI_d6, irm_6, qlt_1, qle_1, qgt_1, qge_1, qeq_1, qlt_2, qle_2, qgt_2, qge_2, qeq_2, qlt_3, qle_3, qgt_3, qge_3, qeq_3, qlt_4, qle_4, qgt_4, qge_4, qeq_4, qlt_5, qle_5, qgt_5, qge_5, qeq_5, qlt_6, qle_6, qgt_6, qge_6, qeq_6, qlt_7, qle_7, qgt_7, qge_7, qeq_7, qlt_8, qle_8, qgt_8, qge_8, qeq_8, qlt_9, qle_9, qgt_9, qge_9, qeq_9, qlt_10, qle_10, qgt_10, qge_10, qeq_10, qlt_12, qle_12, qgt_12, qge_12, qeq_12, qlt_16, qle_16, qgt_16, qge_16, qeq_16, qlt_20, qle_20, qgt_20, qge_20, qeq_20, qlt_24, qle_24, qgt_24, qge_24, qeq_24, qlt_30, qle_30, qgt_30, qge_30, qeq_30, qlt_32, qle_32, qgt_32, qge_32, qeq_32, qlt_37, qle_37, qgt_37, qge_37, qeq_37, qlt_40, qle_40, qgt_40, qge_40, qeq_40, qlt_42, qle_42, qgt_42, qge_42, qeq_42, qlt_43, qle_43, qgt_43, qge_43, qeq_43, qlt_45, qle_45, qgt_45, qge_45, qeq_45, qlt_47, qle_47, qgt_47, qge_47, qeq_47, qlt_48, qle_48, qgt_48, qge_48, qeq_48, qlt_57, qle_57, qgt_57, qge_57, qeq_57, qlt_59, qle_59, qgt_59, qge_59, qeq_59, qlt_60, qle_60, qgt_60, qge_60, qeq_60, qlt_61, qle_61, qgt_61, qge_61, qeq_61, qlt_62, qle_62, qgt_62, qge_62, qeq_62, qlt_64, qle_64, qgt_64, qge_64, qeq_64, qlt_91, qle_91, qgt_91, qge_91, qeq_91, qlt_93, qle_93, qgt_93, qge_93, qeq_93, qlt_97, qle_97, qgt_97, qge_97, qeq_97, qlt_122, qle_122, qgt_122, qge_122, qeq_122, qlt_400, qle_400, qgt_400, qge_400, qeq_400, qlt_999, qle_999, qgt_999, qge_999, qeq_999, qlt_0, qle_0, qgt_0, qge_0, qeq_0, qltm, qeqm, ↓reduceIte, Option.bind_some, not_true_eq_false, not_false_eq_true, and_true, true_and, and_false, false_and, or_false, false_or, or_true, true_or, Bool.false_eq_true, reduceCtorEq, Nat.le_refl]) jF 0 () (Nat.zero_le _) (by show _ < 5000; omega) rfl
  have hr2 : f11_doNotesFit_L2 X1 jF 0 = some r := hr
  have y1' : f11_doNotesFit_L1 jF X' 0 = some Y := y1
  have e : f11_doNotesFit X' = f11_doNotesFit_L2 X1 jF 0 := by
    unfold f11_doNotesFit
    rw [y1', Option.bind_some, w1, Option.bind_some]
  have q40 : X1.1 0 40 = -1 := w3.trans y2.2.2.2.2.2
  have q52 : ∀ i, X1.1 52 i = X'.1 52 i := fun i => (z3 52 i (by omega) (by omega)).trans (y4 i)
  exact ⟨X1, e.trans (hr2.trans (congrArg some hp)), w2, w4, q40, c51, q52⟩
theorem r_copies {S : jS} {a b n : Nat} (ha : a ≠ b) (hn : n ≤ 10) : ∃ S1, f11_copies S a n b n = some (S1, ()) ∧ (∀ c i, S1.1 c i = if c = b ∧ i < n then S.1 a i else S.1 c i) := by
  obtain ⟨r, hr, hp⟩ := lp_up (G := n) (Post := fun r : jS => ∀ c i, r.1 c i = if c = b ∧ i < n then S.1 a i else S.1 c i) (fun m k S' => f11_copies_L1 a n b n m S' (nI k)) (fun k r => ∀ c i, r.1 c i = if c = b ∧ i < k then S.1 a i else S.1 c i) (by
    intro m k S' hk hI
    left
    have fa : S'.1 a k = S.1 a k := by rw [hI, if_neg (by omega)]
    have n1 : ¬ n ≤ k := by omega
    refine ⟨wI S' b k (S.1 a k), ?_, fun c i => ?_⟩
    · show f11_copies_L1 a n b n (m + 1) S' (nI k) = _
      rw [f11_copies_L1]
      simp (disch := omega) only [fa, nI_ltI, nI_leI, nI_eq, nI_clamp, nI_1, nI_add, nI_mul, inb_n, irm_n, nI_div, nI_m6, nI_d6, irm_6, qlt_1, qle_1, qgt_1, qge_1, qeq_1, qlt_2, qle_2, qgt_2, qge_2, qeq_2, qlt_3, qle_3, qgt_3, qge_3, qeq_3, qlt_4, qle_4, qgt_4, qge_4, qeq_4, qlt_5, qle_5, qgt_5, qge_5, qeq_5, qlt_6, qle_6, qgt_6, qge_6, qeq_6, qlt_7, qle_7, qgt_7, qge_7, qeq_7, qlt_8, qle_8, qgt_8, qge_8, qeq_8, qlt_9, qle_9, qgt_9, qge_9, qeq_9, qlt_10, qle_10, qgt_10, qge_10, qeq_10, qlt_12, qle_12, qgt_12, qge_12, qeq_12, qlt_16, qle_16, qgt_16, qge_16, qeq_16, qlt_20, qle_20, qgt_20, qge_20, qeq_20, qlt_24, qle_24, qgt_24, qge_24, qeq_24, qlt_30, qle_30, qgt_30, qge_30, qeq_30, qlt_32, qle_32, qgt_32, qge_32, qeq_32, qlt_37, qle_37, qgt_37, qge_37, qeq_37, qlt_40, qle_40, qgt_40, qge_40, qeq_40, qlt_42, qle_42, qgt_42, qge_42, qeq_42, qlt_43, qle_43, qgt_43, qge_43, qeq_43, qlt_45, qle_45, qgt_45, qge_45, qeq_45, qlt_47, qle_47, qgt_47, qge_47, qeq_47, qlt_48, qle_48, qgt_48, qge_48, qeq_48, qlt_57, qle_57, qgt_57, qge_57, qeq_57, qlt_59, qle_59, qgt_59, qge_59, qeq_59, qlt_60, qle_60, qgt_60, qge_60, qeq_60, qlt_61, qle_61, qgt_61, qge_61, qeq_61, qlt_62, qle_62, qgt_62, qge_62, qeq_62, qlt_64, qle_64, qgt_64, qge_64, qeq_64, qlt_91, qle_91, qgt_91, qge_91, qeq_91, qlt_93, qle_93, qgt_93, qge_93, qeq_93, qlt_97, qle_97, qgt_97, qge_97, qeq_97, qlt_122, qle_122, qgt_122, qge_122, qeq_122, qlt_400, qle_400, qgt_400, qge_400, qeq_400, qlt_999, qle_999, qgt_999, qge_999, qeq_999, qlt_0, qle_0, qgt_0, qge_0, qeq_0, qltm, qeqm, ↓reduceIte, Option.bind_some, not_true_eq_false, not_false_eq_true, and_true, true_and, and_false, false_and, or_false, false_or, or_true, true_or, Bool.false_eq_true, reduceCtorEq, n1, hk]
    · rw [wI_g, hI]
      by_cases e : i = k
      · subst e; grind
      · grind) (by
    intro m S' hI
    refine ⟨S', ?_, hI⟩
    show f11_copies_L1 a n b n (m + 1) S' (nI n) = _
    rw [f11_copies_L1]
    simp (disch := omega) only [nI_ltI, nI_leI, nI_eq, nI_clamp, nI_1, nI_add, nI_mul, inb_n, irm_n, nI_div, nI_m6, nI_d6, irm_6, qlt_1, qle_1, qgt_1, qge_1, qeq_1, qlt_2, qle_2, qgt_2, qge_2, qeq_2, qlt_3, qle_3, qgt_3, qge_3, qeq_3, qlt_4, qle_4, qgt_4, qge_4, qeq_4, qlt_5, qle_5, qgt_5, qge_5, qeq_5, qlt_6, qle_6, qgt_6, qge_6, qeq_6, qlt_7, qle_7, qgt_7, qge_7, qeq_7, qlt_8, qle_8, qgt_8, qge_8, qeq_8, qlt_9, qle_9, qgt_9, qge_9, qeq_9, qlt_10, qle_10, qgt_10, qge_10, qeq_10, qlt_12, qle_12, qgt_12, qge_12, qeq_12, qlt_16, qle_16, qgt_16, qge_16, qeq_16, qlt_20, qle_20, qgt_20, qge_20, qeq_20, qlt_24, qle_24, qgt_24, qge_24, qeq_24, qlt_30, qle_30, qgt_30, qge_30, qeq_30, qlt_32, qle_32, qgt_32, qge_32, qeq_32, qlt_37, qle_37, qgt_37, qge_37, qeq_37, qlt_40, qle_40, qgt_40, qge_40, qeq_40, qlt_42, qle_42, qgt_42, qge_42, qeq_42, qlt_43, qle_43, qgt_43, qge_43, qeq_43, qlt_45, qle_45, qgt_45, qge_45, qeq_45, qlt_47, qle_47, qgt_47, qge_47, qeq_47, qlt_48, qle_48, qgt_48, qge_48, qeq_48, qlt_57, qle_57, qgt_57, qge_57, qeq_57, qlt_59, qle_59, qgt_59, qge_59, qeq_59, qlt_60, qle_60, qgt_60, qge_60, qeq_60, qlt_61, qle_61, qgt_61, qge_61, qeq_61, qlt_62, qle_62, qgt_62, qge_62, qeq_62, qlt_64, qle_64, qgt_64, qge_64, qeq_64, qlt_91, qle_91, qgt_91, qge_91, qeq_91, qlt_93, qle_93, qgt_93, qge_93, qeq_93, qlt_97, qle_97, qgt_97, qge_97, qeq_97, qlt_122, qle_122, qgt_122, qge_122, qeq_122, qlt_400, qle_400, qgt_400, qge_400, qeq_400, qlt_999, qle_999, qgt_999, qge_999, qeq_999, qlt_0, qle_0, qgt_0, qge_0, qeq_0, qltm, qeqm, ↓reduceIte, Option.bind_some, not_true_eq_false, not_false_eq_true, and_true, true_and, and_false, false_and, or_false, false_or, or_true, true_or, Bool.false_eq_true, reduceCtorEq, Nat.le_refl]) jF 0 S (Nat.zero_le _) (by show _ < 5000; omega) (fun c i => by rw [if_neg (by omega)])
  refine ⟨r, ?_, hp⟩
  unfold f11_copies
  have hr' : f11_copies_L1 a n b n jF S 0 = some r := hr
  rw [hr']; rfl
