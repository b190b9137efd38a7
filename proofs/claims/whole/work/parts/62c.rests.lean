/-! rests of two who set their pace -/
def paN (N : mN) (g1 g2 k : Nat) : mN := setG (setG N 3 g1 (k / 6)) 3 g2 (k % 6)
theorem paN_ok {N : mN} {g1 g2 k : Nat} (hN : NOk N) (hk : k < 36) : NOk (paN N g1 g2 k) :=
  setG_ok (setG_ok hN (by omega) (fun z => by omega) (fun _ => by omega) (fun z => by omega) (fun z => by omega) (fun z => by omega)) (by omega) (fun z => by omega) (fun _ => by omega) (fun z => by omega) (fun z => by omega) (fun z => by omega)
theorem c_pp2 {T : jT} {S S' : jS} {N : mN} {q : Option Nat} {ru : Option mR} {g1 g2 n k a0 : Nat} (h : CRun S S' 21 N) (hq : ruC T S q ru) (h1 : g1 < 7) (h2 : g2 < 7) (hn : n ≤ 20) (hk : k < 36) (z1 : S'.1 67 k = 0) (z2 : S'.1 68 k = 0) : ∃ S1, f2_playPaces_L2 T a0 q (nI g1) (nI g2) (nI n) (nI k) jF S' 0 = some S1 ∧ cQ S S1 ∧ S1.1 67 k = nI (stN ru g1 n N) ∧ S1.1 68 k = nI (stN ru g2 n N) ∧ (∀ a i, a = 67 ∨ a = 68 → i ≠ k → S1.1 a i = S'.1 a i) := by
  exact lp_up (G := n) (Post := fun r : jS => cQ S r ∧ r.1 67 k = nI (stN ru g1 n N) ∧ r.1 68 k = nI (stN ru g2 n N) ∧ (∀ a i, a = 67 ∨ a = 68 → i ≠ k → r.1 a i = S'.1 a i)) (fun m j S2 => f2_playPaces_L2 T a0 q (nI g1) (nI g2) (nI n) (nI k) m S2 (nI j)) (fun j S2 => ∃ M c1 c2, CRun S S2 21 M ∧ S2.1 67 k = nI c1 ∧ S2.1 68 k = nI c2 ∧ c1 + stN ru g1 (n - j) M = stN ru g1 n N ∧ c2 + stN ru g2 (n - j) M = stN ru g2 n N ∧ (∀ a i, a = 67 ∨ a = 68 → i ≠ k → S2.1 a i = S'.1 a i)) (by
    rintro m j S2 hj ⟨M, c1, c2, hI, e1, e2, s1, s2, hf⟩
    have n1 : ¬ n ≤ j := by omega
    obtain ⟨d, hd⟩ : ∃ d, n - j = d + 1 := ⟨n - j - 1, by omega⟩
    by_cases hv : ovB M = true
    · right
      rw [stN_o _ _ hv] at s1 s2
      refine ⟨S2, ?_, hI.1, by rw [e1, ← s1]; rfl, by rw [e2, ← s2]; rfl, hf⟩
      rw [f2_playPaces_L2]
      simp (disch := omega) only [(c_over hI.2.2 hI.2.1).1 (ovB_t.mp hv), nI_ltI, nI_leI, nI_eq, nI_clamp, nI_1, nI_add, nI_mul, inb_n, irm_n, nI_div, nI_m6, nI_d6, irm_6, qlt_1, qle_1, qgt_1, qge_1, qeq_1, qlt_2, qle_2, qgt_2, qge_2, qeq_2, qlt_3, qle_3, qgt_3, qge_3, qeq_3, qlt_4, qle_4, qgt_4, qge_4, qeq_4, qlt_5, qle_5, qgt_5, qge_5, qeq_5, qlt_6, qle_6, qgt_6, qge_6, qeq_6, qlt_7, qle_7, qgt_7, qge_7, qeq_7, qlt_8, qle_8, qgt_8, qge_8, qeq_8, qlt_9, qle_9, qgt_9, qge_9, qeq_9, qlt_10, qle_10, qgt_10, qge_10, qeq_10, qlt_12, qle_12, qgt_12, qge_12, qeq_12, qlt_16, qle_16, qgt_16, qge_16, qeq_16, qlt_20, qle_20, qgt_20, qge_20, qeq_20, qlt_24, qle_24, qgt_24, qge_24, qeq_24, qlt_30, qle_30, qgt_30, qge_30, qeq_30, qlt_32, qle_32, qgt_32, qge_32, qeq_32, qlt_37, qle_37, qgt_37, qge_37, qeq_37, qlt_40, qle_40, qgt_40, qge_40, qeq_40, qlt_42, qle_42, qgt_42, qge_42, qeq_42, qlt_43, qle_43, qgt_43, qge_43, qeq_43, qlt_45, qle_45, qgt_45, qge_45, qeq_45, qlt_47, qle_47, qgt_47, qge_47, qeq_47, qlt_48, qle_48, qgt_48, qge_48, qeq_48, qlt_57, qle_57, qgt_57, qge_57, qeq_57, qlt_59, qle_59, qgt_59, qge_59, qeq_59, qlt_60, qle_60, qgt_60, qge_60, qeq_60, qlt_61, qle_61, qgt_61, qge_61, qeq_61, qlt_62, qle_62, qgt_62, qge_62, qeq_62, qlt_64, qle_64, qgt_64, qge_64, qeq_64, qlt_91, qle_91, qgt_91, qge_91, qeq_91, qlt_93, qle_93, qgt_93, qge_93, qeq_93, qlt_97, qle_97, qgt_97, qge_97, qeq_97, qlt_122, qle_122, qgt_122, qge_122, qeq_122, qlt_400, qle_400, qgt_400, qge_400, qeq_400, qlt_999, qle_999, qgt_999, qge_999, qeq_999, qlt_0, qle_0, qgt_0, qge_0, qeq_0, qltm, qeqm, ↓reduceIte, Option.bind_some, not_true_eq_false, not_false_eq_true, and_true, true_and, and_false, false_and, or_false, false_or, or_true, true_or, Bool.false_eq_true, reduceCtorEq, n1, one_ne0]
    · left
      obtain ⟨S1, p1, p2, p3⟩ := hI.by2 (T := T) hq
      have hlt := rbs_lt hI.2.2 (bw_le ru M).2
      rw [hd, stN] at s1 s2
      have f1 : S1.1 67 k = nI c1 := by rw [p3 _ _ (by omega) (by omega) (by omega) (by omega) (by omega)]; exact e1
      have f2 : S1.1 68 k = nI c2 := by rw [p3 _ _ (by omega) (by omega) (by omega) (by omega) (by omega)]; exact e2
      refine ⟨wI (wI S1 67 k (nI (c1 + (if (rbs M (bwN ru M)).testBit g1 = true then 1 else 0)))) 68 k (nI (c2 + (if (rbs M (bwN ru M)).testBit g2 = true then 1 else 0))), ?_, rst ru M, _, _, ⟨p2.1.tr (fun a i u1 u2 => by rw [wI_ne (by omega), wI_ne (by omega)]), p2.2.1.mono (fun a i u1 u2 => by rw [wI_ne (by omega), wI_ne (by omega)]), p2.2.2⟩, by rw [wI_ne (by omega), wI_self], by rw [wI_self], ?_, ?_, ?_⟩
      · rw [f2_playPaces_L2]
        simp (disch := omega) only [(c_over hI.2.2 hI.2.1).2 (fun z => hv (ovB_t.mpr z)), p1, f1, f2, nI_bit, nI_ltI, nI_leI, nI_eq, nI_clamp, nI_1, nI_add, nI_mul, inb_n, irm_n, nI_div, nI_m6, nI_d6, irm_6, qlt_1, qle_1, qgt_1, qge_1, qeq_1, qlt_2, qle_2, qgt_2, qge_2, qeq_2, qlt_3, qle_3, qgt_3, qge_3, qeq_3, qlt_4, qle_4, qgt_4, qge_4, qeq_4, qlt_5, qle_5, qgt_5, qge_5, qeq_5, qlt_6, qle_6, qgt_6, qge_6, qeq_6, qlt_7, qle_7, qgt_7, qge_7, qeq_7, qlt_8, qle_8, qgt_8, qge_8, qeq_8, qlt_9, qle_9, qgt_9, qge_9, qeq_9, qlt_10, qle_10, qgt_10, qge_10, qeq_10, qlt_12, qle_12, qgt_12, qge_12, qeq_12, qlt_16, qle_16, qgt_16, qge_16, qeq_16, qlt_20, qle_20, qgt_20, qge_20, qeq_20, qlt_24, qle_24, qgt_24, qge_24, qeq_24, qlt_30, qle_30, qgt_30, qge_30, qeq_30, qlt_32, qle_32, qgt_32, qge_32, qeq_32, qlt_37, qle_37, qgt_37, qge_37, qeq_37, qlt_40, qle_40, qgt_40, qge_40, qeq_40, qlt_42, qle_42, qgt_42, qge_42, qeq_42, qlt_43, qle_43, qgt_43, qge_43, qeq_43, qlt_45, qle_45, qgt_45, qge_45, qeq_45, qlt_47, qle_47, qgt_47, qge_47, qeq_47, qlt_48, qle_48, qgt_48, qge_48, qeq_48, qlt_57, qle_57, qgt_57, qge_57, qeq_57, qlt_59, qle_59, qgt_59, qge_59, qeq_59, qlt_60, qle_60, qgt_60, qge_60, qeq_60, qlt_61, qle_61, qgt_61, qge_61, qeq_61, qlt_62, qle_62, qgt_62, qge_62, qeq_62, qlt_64, qle_64, qgt_64, qge_64, qeq_64, qlt_91, qle_91, qgt_91, qge_91, qeq_91, qlt_93, qle_93, qgt_93, qge_93, qeq_93, qlt_97, qle_97, qgt_97, qge_97, qeq_97, qlt_122, qle_122, qgt_122, qge_122, qeq_122, qlt_400, qle_400, qgt_400, qge_400, qeq_400, qlt_999, qle_999, qgt_999, qge_999, qeq_999, qlt_0, qle_0, qgt_0, qge_0, qeq_0, qltm, qeqm, ↓reduceIte, Option.bind_some, not_true_eq_false, not_false_eq_true, and_true, true_and, and_false, false_and, or_false, false_or, or_true, true_or, Bool.false_eq_true, reduceCtorEq, wI_self, wI_ne, wI_nj, wI_L, n1, hk]
      · rw [show n - (j + 1) = d by omega]; omega
      · rw [show n - (j + 1) = d by omega]; omega
      · intro a i ha hi
        rw [wI_g, wI_g, if_neg (by omega), if_neg (by omega), p3 _ _ (by omega) (by omega) (by omega) (by omega) (by omega)]
        exact hf a i ha hi) (by
    rintro m S2 ⟨M, c1, c2, hI, e1, e2, s1, s2, hf⟩
    rw [Nat.sub_self] at s1 s2
    have s1' : c1 = stN ru g1 n N := s1
    have s2' : c2 = stN ru g2 n N := s2
    refine ⟨S2, ?_, hI.1, by rw [e1, s1'], by rw [e2, s2'], hf⟩
    rw [f2_playPaces_L2]
    simp (disch := omega) only [nI_ltI, nI_leI, nI_eq, nI_clamp, nI_1, nI_add, nI_mul, inb_n, irm_n, nI_div, nI_m6, nI_d6, irm_6, qlt_1, qle_1, qgt_1, qge_1, qeq_1, qlt_2, qle_2, qgt_2, qge_2, qeq_2, qlt_3, qle_3, qgt_3, qge_3, qeq_3, qlt_4, qle_4, qgt_4, qge_4, qeq_4, qlt_5, qle_5, qgt_5, qge_5, qeq_5, qlt_6, qle_6, qgt_6, qge_6, qeq_6, qlt_7, qle_7, qgt_7, qge_7, qeq_7, qlt_8, qle_8, qgt_8, qge_8, qeq_8, qlt_9, qle_9, qgt_9, qge_9, qeq_9, qlt_10, qle_10, qgt_10, qge_10, qeq_10, qlt_12, qle_12, qgt_12, qge_12, qeq_12, qlt_16, qle_16, qgt_16, qge_16, qeq_16, qlt_20, qle_20, qgt_20, qge_20, qeq_20, qlt_24, qle_24, qgt_24, qge_24, qeq_24, qlt_30, qle_30, qgt_30, qge_30, qeq_30, qlt_32, qle_32, qgt_32, qge_32, qeq_32, qlt_37, qle_37, qgt_37, qge_37, qeq_37, qlt_40, qle_40, qgt_40, qge_40, qeq_40, qlt_42, qle_42, qgt_42, qge_42, qeq_42, qlt_43, qle_43, qgt_43, qge_43, qeq_43, qlt_45, qle_45, qgt_45, qge_45, qeq_45, qlt_47, qle_47, qgt_47, qge_47, qeq_47, qlt_48, qle_48, qgt_48, qge_48, qeq_48, qlt_57, qle_57, qgt_57, qge_57, qeq_57, qlt_59, qle_59, qgt_59, qge_59, qeq_59, qlt_60, qle_60, qgt_60, qge_60, qeq_60, qlt_61, qle_61, qgt_61, qge_61, qeq_61, qlt_62, qle_62, qgt_62, qge_62, qeq_62, qlt_64, qle_64, qgt_64, qge_64, qeq_64, qlt_91, qle_91, qgt_91, qge_91, qeq_91, qlt_93, qle_93, qgt_93, qge_93, qeq_93, qlt_97, qle_97, qgt_97, qge_97, qeq_97, qlt_122, qle_122, qgt_122, qge_122, qeq_122, qlt_400, qle_400, qgt_400, qge_400, qeq_400, qlt_999, qle_999, qgt_999, qge_999, qeq_999, qlt_0, qle_0, qgt_0, qge_0, qeq_0, qltm, qeqm, ↓reduceIte, Option.bind_some, not_true_eq_false, not_false_eq_true, and_true, true_and, and_false, false_and, or_false, false_or, or_true, true_or, Bool.false_eq_true, reduceCtorEq, Nat.le_refl]) jF 0 S' (Nat.zero_le _) (by show _ < 5000; omega) ⟨N, 0, 0, h, z1, z2, by rw [Nat.zero_add, Nat.sub_zero], by rw [Nat.zero_add, Nat.sub_zero], fun _ _ _ _ => rfl⟩
theorem c_pp {T : jT} {S : jS} {N : mN} {q : Option Nat} {ru : Option mR} {g1 g2 n : Nat} (hN : NOk N) (h : HIs (hC S (100 + 8)) N) (hq : ruC T S q ru) (h1 : g1 < N 0 2) (h2 : g2 < N 0 2) (hn : n ≤ 20) : ∃ S1, f2_playPaces T S (100 + 8) q (nI g1) (nI g2) (nI n) = some (S1, ()) ∧ cQ S S1 ∧ ∀ j, j < 36 → S1.1 67 j = nI (stN ru g1 n (paN N g1 g2 j)) ∧ S1.1 68 j = nI (stN ru g2 n (paN N g1 g2 j)) := by
  have hG := hN.2.2.1
  have m1 : g1 < 7 := by omega
  have m2 : g2 < 7 := by omega
  obtain ⟨r, hr, hp⟩ := lp_up (G := 36) (Post := fun r : jS => cQ S r ∧ ∀ j, j < 36 → r.1 67 j = nI (stN ru g1 n (paN N g1 g2 j)) ∧ r.1 68 j = nI (stN ru g2 n (paN N g1 g2 j))) (fun m k S' => f2_playPaces_L1 T (100 + 8) q (nI g1) (nI g2) (nI n) m S' (nI k)) (fun k r => cQ S r ∧ ∀ j, j < k → r.1 67 j = nI (stN ru g1 n (paN N g1 g2 j)) ∧ r.1 68 j = nI (stN ru g2 n (paN N g1 g2 j))) (by
    rintro m k S' hk ⟨hI, hv⟩
    left
    have hh : HIs (hC S' (100 + 8)) N := h.mono (fun a i u1 u2 => hI a i (by omega) (by omega))
    have n1 : ¬ 36 ≤ nI k := fun z => by
      have := (nI_leI (a := 36) (b := k) (by omega) (by omega)).mp z
      omega
    have hcp := CRun.cp (o := 21) (a0 := 100 + 8) hI hN hh (by omega) (by omega) (by omega)
    have hct : CRun S (wI (wI (wI (wI (cpF S' 21 (100 + 8)) (21 + 3) g1 (nI (k / 6))) (21 + 3) g2 (nI (k % 6))) 67 k 0) 68 k 0) 21 (paN N g1 g2 k) := ⟨hcp.1.tr (fun a i u1 u2 => by rw [wI_ne (by omega), wI_ne (by omega), wI_ne (by omega), wI_ne (by omega)]), (HC_setG (HC_setG hcp.2.1 (by omega)) (by omega)).mono (fun a i u1 u2 => by rw [wI_ne (by omega), wI_ne (by omega)]), paN_ok hN hk⟩
    obtain ⟨S1, p1, p2, p3, p4, p5⟩ := c_pp2 (T := T) (a0 := 100 + 8) (g1 := g1) (g2 := g2) (n := n) hct hq m1 m2 hn hk (by rw [wI_ne (by omega), wI_self]) (wI_self _ _ _ _)
    refine ⟨S1, ?_, p2, fun j hj => ?_⟩
    · rw [f2_playPaces_L1]
      simp (disch := omega) only [cp_eq, p1, nI_ltI, nI_leI, nI_eq, nI_clamp, nI_1, nI_add, nI_mul, inb_n, irm_n, nI_div, nI_m6, nI_d6, irm_6, qlt_1, qle_1, qgt_1, qge_1, qeq_1, qlt_2, qle_2, qgt_2, qge_2, qeq_2, qlt_3, qle_3, qgt_3, qge_3, qeq_3, qlt_4, qle_4, qgt_4, qge_4, qeq_4, qlt_5, qle_5, qgt_5, qge_5, qeq_5, qlt_6, qle_6, qgt_6, qge_6, qeq_6, qlt_7, qle_7, qgt_7, qge_7, qeq_7, qlt_8, qle_8, qgt_8, qge_8, qeq_8, qlt_9, qle_9, qgt_9, qge_9, qeq_9, qlt_10, qle_10, qgt_10, qge_10, qeq_10, qlt_12, qle_12, qgt_12, qge_12, qeq_12, qlt_16, qle_16, qgt_16, qge_16, qeq_16, qlt_20, qle_20, qgt_20, qge_20, qeq_20, qlt_24, qle_24, qgt_24, qge_24, qeq_24, qlt_30, qle_30, qgt_30, qge_30, qeq_30, qlt_32, qle_32, qgt_32, qge_32, qeq_32, qlt_37, qle_37, qgt_37, qge_37, qeq_37, qlt_40, qle_40, qgt_40, qge_40, qeq_40, qlt_42, qle_42, qgt_42, qge_42, qeq_42, qlt_43, qle_43, qgt_43, qge_43, qeq_43, qlt_45, qle_45, qgt_45, qge_45, qeq_45, qlt_47, qle_47, qgt_47, qge_47, qeq_47, qlt_48, qle_48, qgt_48, qge_48, qeq_48, qlt_57, qle_57, qgt_57, qge_57, qeq_57, qlt_59, qle_59, qgt_59, qge_59, qeq_59, qlt_60, qle_60, qgt_60, qge_60, qeq_60, qlt_61, qle_61, qgt_61, qge_61, qeq_61, qlt_62, qle_62, qgt_62, qge_62, qeq_62, qlt_64, qle_64, qgt_64, qge_64, qeq_64, qlt_91, qle_91, qgt_91, qge_91, qeq_91, qlt_93, qle_93, qgt_93, qge_93, qeq_93, qlt_97, qle_97, qgt_97, qge_97, qeq_97, qlt_122, qle_122, qgt_122, qge_122, qeq_122, qlt_400, qle_400, qgt_400, qge_400, qeq_400, qlt_999, qle_999, qgt_999, qge_999, qeq_999, qlt_0, qle_0, qgt_0, qge_0, qeq_0, qltm, qeqm, ↓reduceIte, Option.bind_some, not_true_eq_false, not_false_eq_true, and_true, true_and, and_false, false_and, or_false, false_or, or_true, true_or, Bool.false_eq_true, reduceCtorEq, n1, m1, m2, hk]
    · by_cases e : j = k
      · subst e; exact ⟨p3, p4⟩
      · rw [p5 67 j (Or.inl rfl) e, p5 68 j (Or.inr rfl) e]
        simp (disch := omega) only [wI_self, wI_ne, wI_nj, wI_L]
        rw [cp_fr (by omega) (by omega), cp_fr (by omega) (by omega)]
        exact hv j (by omega)) (by
    rintro m S' ⟨hI, hv⟩
    refine ⟨S', ?_, hI, hv⟩
    rw [f2_playPaces_L1, if_pos (show (36 : Int32) ≤ nI 36 by decide)]) jF 0 S (Nat.zero_le _) (by show _ < 5000; omega) ⟨cQ.rf S, fun j hj => by omega⟩
  refine ⟨r, ?_, hp⟩
  unfold f2_playPaces
  have hr' : f2_playPaces_L1 T (100 + 8) q (nI g1) (nI g2) (nI n) jF S 0 = some r := hr
  rw [hr']; rfl
theorem r_pp2 {X X' : jS} {N : mN} {ru : Option mR} {g1 g2 n k : Nat} (h : RRun X X' N) (h40 : X'.1 0 40 = -1) (hq : ruR X ru) (h1 : g1 < 7) (h2 : g2 < 7) (hn : n ≤ 20) (hk : k < 36) (z1 : X'.1 49 k = 0) (z2 : X'.1 50 k = 0) : ∃ X1, f11_laysPaces_L2 (nI g1) (nI g2) (nI n) (nI k) jF X' 0 = some X1 ∧ (∃ M, RRun X X1 M) ∧ X1.1 0 40 = -1 ∧ X1.1 49 k = nI (stN ru g1 n N) ∧ X1.1 50 k = nI (stN ru g2 n N) ∧ (∀ a i, a = 49 ∨ a = 50 → i ≠ k → X1.1 a i = X'.1 a i) := by
  exact lp_up (G := n) (Post := fun r : jS => (∃ M, RRun X r M) ∧ r.1 0 40 = -1 ∧ r.1 49 k = nI (stN ru g1 n N) ∧ r.1 50 k = nI (stN ru g2 n N) ∧ (∀ a i, a = 49 ∨ a = 50 → i ≠ k → r.1 a i = X'.1 a i)) (fun m j X2 => f11_laysPaces_L2 (nI g1) (nI g2) (nI n) (nI k) m X2 (nI j)) (fun j X2 => ∃ M c1 c2, RRun X X2 M ∧ X2.1 0 40 = -1 ∧ X2.1 49 k = nI c1 ∧ X2.1 50 k = nI c2 ∧ c1 + stN ru g1 (n - j) M = stN ru g1 n N ∧ c2 + stN ru g2 (n - j) M = stN ru g2 n N ∧ (∀ a i, a = 49 ∨ a = 50 → i ≠ k → X2.1 a i = X'.1 a i)) (by
    rintro m j X2 hj ⟨M, c1, c2, hI, i40, e1, e2, s1, s2, hf⟩
    have n1 : ¬ n ≤ j := by omega
    obtain ⟨d, hd⟩ : ∃ d, n - j = d + 1 := ⟨n - j - 1, by omega⟩
    left
    obtain ⟨g1', g2', g3', g4', g5'⟩ := id hI
    obtain ⟨X1, p1, p2, p3⟩ := r_by g4' g3' i40 (hq.q g1' g5')
    have hlt := rbs_lt g4' (bw_le ru M).2
    rw [hd, stN] at s1 s2
    have f1 : X1.1 49 k = nI c1 := by rw [p3 _ _ (by omega) (by omega) (by omega) (by omega) (by omega) (by omega)]; exact e1
    have f2 : X1.1 50 k = nI c2 := by rw [p3 _ _ (by omega) (by omega) (by omega) (by omega) (by omega) (by omega)]; exact e2
    refine ⟨wI (wI X1 49 k (nI (c1 + (if (rbs M (bwN ru M)).testBit g1 = true then 1 else 0)))) 50 k (nI (c2 + (if (rbs M (bwN ru M)).testBit g2 = true then 1 else 0))), ?_, rst ru M, _, _, ⟨(g1'.tr p3.q).tr (fun a i u1 u2 => by rw [wI_ne (by omega), wI_ne (by omega)]), g2'.fr (fun i => by rw [wI_ne (by omega), wI_ne (by omega), p3 _ _ (by omega) (by omega) (by omega) (by omega) (by omega) (by omega)]), HV_mono p2 (fun a i u1 u2 => by rw [wI_ne (by omega), wI_ne (by omega)]), rbb_ok g4' (bw_le ru M).2, by rw [wI_ne (by omega), wI_ne (by omega), p3 _ _ (by omega) (by omega) (by omega) (by omega) (by omega) (by omega)]; exact g5'⟩, by rw [wI_ne (by omega), wI_ne (by omega), p3 _ _ (by omega) (by omega) (by omega) (by omega) (by omega) (by omega)]; exact i40, by rw [wI_ne (by omega), wI_self], by rw [wI_self], ?_, ?_, ?_⟩
    · rw [f11_laysPaces_L2]
      simp (disch := omega) only [p1, f1, f2, nI_bit, nI_ltI, nI_leI, nI_eq, nI_clamp, nI_1, nI_add, nI_mul, inb_n, irm_n, nI_div, nI_m6, nI_d6, irm_6, qlt_1, qle_1, qgt_1, qge_1, qeq_1, qlt_2, qle_2, qgt_2, qge_2, qeq_2, qlt_3, qle_3, qgt_3, qge_3, qeq_3, qlt_4, qle_4, qgt_4, qge_4, qeq_4, qlt_5, qle_5, qgt_5, qge_5, qeq_5, qlt_6, qle_6, qgt_6, qge_6, qeq_6, qlt_7, qle_7, qgt_7, qge_7, qeq_7, qlt_8, qle_8, qgt_8, qge_8, qeq_8, qlt_9, qle_9, qgt_9, qge_9, qeq_9, qlt_10, qle_10, qgt_10, qge_10, qeq_10, qlt_12, qle_12, qgt_12, qge_12, qeq_12, qlt_16, qle_16, qgt_16, qge_16, qeq_16, qlt_20, qle_20, qgt_20, qge_20, qeq_20, qlt_24, qle_24, qgt_24, qge_24, qeq_24, qlt_30, qle_30, qgt_30, qge_30, qeq_30, qlt_32, qle_32, qgt_32, qge_32, qeq_32, qlt_37, qle_37, qgt_37, qge_37, qeq_37, qlt_40, qle_40, qgt_40, qge_40, qeq_40, qlt_42, qle_42, qgt_42, qge_42, qeq_42, qlt_43, qle_43, qgt_43, qge_43, qeq_43, qlt_45, qle_45, qgt_45, qge_45, qeq_45, qlt_47, qle_47, qgt_47, qge_47, qeq_47, qlt_48, qle_48, qgt_48, qge_48, qeq_48, qlt_57, qle_57, qgt_57, qge_57, qeq_57, qlt_59, qle_59, qgt_59, qge_59, qeq_59, qlt_60, qle_60, qgt_60, qge_60, qeq_60, qlt_61, qle_61, qgt_61, qge_61, qeq_61, qlt_62, qle_62, qgt_62, qge_62, qeq_62, qlt_64, qle_64, qgt_64, qge_64, qeq_64, qlt_91, qle_91, qgt_91, qge_91, qeq_91, qlt_93, qle_93, qgt_93, qge_93, qeq_93, qlt_97, qle_97, qgt_97, qge_97, qeq_97, qlt_122, qle_122, qgt_122, qge_122, qeq_122, qlt_400, qle_400, qgt_400, qge_400, qeq_400, qlt_999, qle_999, qgt_999, qge_999, qeq_999, qlt_0, qle_0, qgt_0, qge_0, qeq_0, qltm, qeqm, ↓reduceIte, Option.bind_some, not_true_eq_false, not_false_eq_true, and_true, true_and, and_false, false_and, or_false, false_or, or_true, true_or, Bool.false_eq_true, reduceCtorEq, wI_self, wI_ne, wI_nj, wI_L, n1, hk]
    · rw [show n - (j + 1) = d by omega]; omega
    · rw [show n - (j + 1) = d by omega]; omega
    · intro a i ha hi
      rw [wI_g, wI_g, if_neg (by omega), if_neg (by omega), p3 _ _ (by omega) (by omega) (by omega) (by omega) (by omega) (by omega)]
      exact hf a i ha hi) (by
    rintro m X2 ⟨M, c1, c2, hI, i40, e1, e2, s1, s2, hf⟩
    rw [Nat.sub_self] at s1 s2
    have s1' : c1 = stN ru g1 n N := s1
    have s2' : c2 = stN ru g2 n N := s2
    refine ⟨X2, ?_, ⟨M, hI⟩, i40, by rw [e1, s1'], by rw [e2, s2'], hf⟩
    rw [f11_laysPaces_L2]
    simp (disch := omega) only [nI_ltI, nI_leI, nI_eq, nI_clamp, nI_1, nI_add, nI_mul, inb_n, irm_n, nI_div, nI_m6, nI_d6, irm_6, qlt_1, qle_1, qgt_1, qge_1, qeq_1, qlt_2, qle_2, qgt_2, qge_2, qeq_2, qlt_3, qle_3, qgt_3, qge_3, qeq_3, qlt_4, qle_4, qgt_4, qge_4, qeq_4, qlt_5, qle_5, qgt_5, qge_5, qeq_5, qlt_6, qle_6, qgt_6, qge_6, qeq_6, qlt_7, qle_7, qgt_7, qge_7, qeq_7, qlt_8, qle_8, qgt_8, qge_8, qeq_8, qlt_9, qle_9, qgt_9, qge_9, qeq_9, qlt_10, qle_10, qgt_10, qge_10, qeq_10, qlt_12, qle_12, qgt_12, qge_12, qeq_12, qlt_16, qle_16, qgt_16, qge_16, qeq_16, qlt_20, qle_20, qgt_20, qge_20, qeq_20, qlt_24, qle_24, qgt_24, qge_24, qeq_24, qlt_30, qle_30, qgt_30, qge_30, qeq_30, qlt_32, qle_32, qgt_32, qge_32, qeq_32, qlt_37, qle_37, qgt_37, qge_37, qeq_37, qlt_40, qle_40, qgt_40, qge_40, qeq_40, qlt_42, qle_42, qgt_42, qge_42, qeq_42, qlt_43, qle_43, qgt_43, qge_43, qeq_43, qlt_45, qle_45, qgt_45, qge_45, qeq_45, qlt_47, qle_47, qgt_47, qge_47, qeq_47, qlt_48, qle_48, qgt_48, qge_48, qeq_48, qlt_57, qle_57, qgt_57, qge_57, qeq_57, qlt_59, qle_59, qgt_59, qge_59, qeq_59, qlt_60, qle_60, qgt_60, qge_60, qeq_60, qlt_61, qle_61, qgt_61, qge_61, qeq_61, qlt_62, qle_62, qgt_62, qge_62, qeq_62, qlt_64, qle_64, qgt_64, qge_64, qeq_64, qlt_91, qle_91, qgt_91, qge_91, qeq_91, qlt_93, qle_93, qgt_93, qge_93, qeq_93, qlt_97, qle_97, qgt_97, qge_97, qeq_97, qlt_122, qle_122, qgt_122, qge_122, qeq_122, qlt_400, qle_400, qgt_400, qge_400, qeq_400, qlt_999, qle_999, qgt_999, qge_999, qeq_999, qlt_0, qle_0, qgt_0, qge_0, qeq_0, qltm, qeqm, ↓reduceIte, Option.bind_some, not_true_eq_false, not_false_eq_true, and_true, true_and, and_false, false_and, or_false, false_or, or_true, true_or, Bool.false_eq_true, reduceCtorEq, Nat.le_refl]) jF 0 X' (Nat.zero_le _) (by show _ < 5000; omega) ⟨N, 0, 0, h, h40, z1, z2, by rw [Nat.zero_add, Nat.sub_zero], by rw [Nat.zero_add, Nat.sub_zero], fun _ _ _ _ => rfl⟩
theorem r_lay_fr {X : jS} {Y : jS} (h : f11_laysBack X = some (Y, ())) (s : ∃ S0, svd S0 X) : ∀ a i, a = 49 ∨ a = 50 → Y.1 a i = X.1 a i := by
  obtain ⟨S0, s⟩ := s
  obtain ⟨S1, p1, p2, p3⟩ := r_lay s
  rw [h] at p1
  cases p1
  intro a i ha
  exact p3 a i (by omega) (by omega)
theorem r_pp {X : jS} {N : mN} {ru : Option mR} {g1 g2 n : Nat} (hN : NOk N) (h0 : HIs (hV X.1) N) (h40 : X.1 0 40 = -1) (hq : ruR X ru) (h1 : g1 < N 0 2) (h2 : g2 < N 0 2) (hn : n ≤ 20) : ∃ X1, f11_laysPaces X (nI g1) (nI g2) (nI n) = some (X1, ()) ∧ rQ0 X X1 ∧ rQ1 X X1 ∧ X1.1 0 40 = -1 ∧ ∀ j, j < 36 → X1.1 49 j = nI (stN ru g1 n (paN N g1 g2 j)) ∧ X1.1 50 j = nI (stN ru g2 n (paN N g1 g2 j)) := by
  have hG := hN.2.2.1
  have m1 : g1 < 7 := by omega
  have m2 : g2 < 7 := by omega
  obtain ⟨X0, x1, x2, x3, x4⟩ := RRun.keep h0 hN
  obtain ⟨r, hr, hp0, hp1, hp2, hp3⟩ := lp_up (G := 36) (Post := fun r : jS => RRun X r N ∧ rQ1 X r ∧ r.1 0 40 = -1 ∧ ∀ j, j < 36 → r.1 49 j = nI (stN ru g1 n (paN N g1 g2 j)) ∧ r.1 50 j = nI (stN ru g2 n (paN N g1 g2 j))) (fun m k X' => f11_laysPaces_L1 (nI g1) (nI g2) (nI n) m X' (nI k)) (fun k r => RRun X r N ∧ rQ1 X r ∧ r.1 0 40 = -1 ∧ ∀ j, j < k → r.1 49 j = nI (stN ru g1 n (paN N g1 g2 j)) ∧ r.1 50 j = nI (stN ru g2 n (paN N g1 g2 j))) (by
    rintro m k X' hk ⟨hI, hI1, i40, hv⟩
    left
    have n1 : ¬ 36 ≤ nI k := fun z => by
      have := (nI_leI (a := 36) (b := k) (by omega) (by omega)).mp z
      omega
    have ok1 : NOk (setG N 3 g1 (k / 6)) := setG_ok hN (by omega) (fun z => by omega) (fun _ => by omega) (fun z => by omega) (fun z => by omega) (fun z => by omega)
    have hs := (hI.setG (a := 3) (g := g1) (p := k / 6) (by omega) (by omega) ok1).setG (a := 3) (g := g2) (p := k % 6) (by omega) (by omega) (paN_ok (g1 := g1) hN hk)
    have hct : RRun X (wI (wI (wI (wI X' 3 g1 (nI (k / 6))) 3 g2 (nI (k % 6))) 49 k 0) 50 k 0) (paN N g1 g2 k) := ⟨hs.1.tr (fun a i u1 u2 => by rw [wI_ne (by omega), wI_ne (by omega)]), hs.2.1.fr (fun i => by rw [wI_ne (by omega), wI_ne (by omega)]), HV_mono hs.2.2.1 (fun a i u1 u2 => by rw [wI_ne (by omega), wI_ne (by omega)]), hs.2.2.2.1, by rw [wI_ne (by omega), wI_ne (by omega)]; exact hs.2.2.2.2⟩
    obtain ⟨X1, p1, ⟨M, p2⟩, p3, p4, p5, p6⟩ := r_pp2 (g1 := g1) (g2 := g2) (n := n) (k := k) hct (by simp (disch := omega) only [wI_self, wI_ne, wI_nj, wI_L]; exact i40) hq m1 m2 hn hk (by rw [wI_ne (by omega), wI_self]) (wI_self _ _ _ _)
    obtain ⟨X2, w1, w2, w3, w4⟩ := p2.lay h0 hN
    have wf := r_lay_fr w1 ⟨X, p2.2.1⟩
    refine ⟨X2, ?_, w2, w4, by rw [w3]; exact p3, fun j hj => ?_⟩
    · rw [f11_laysPaces_L1]
      simp (disch := omega) only [p1, w1, nI_ltI, nI_leI, nI_eq, nI_clamp, nI_1, nI_add, nI_mul, inb_n, irm_n, nI_div, nI_m6, nI_d6, irm_6, qlt_1, qle_1, qgt_1, qge_1, qeq_1, qlt_2, qle_2, qgt_2, qge_2, qeq_2, qlt_3, qle_3, qgt_3, qge_3, qeq_3, qlt_4, qle_4, qgt_4, qge_4, qeq_4, qlt_5, qle_5, qgt_5, qge_5, qeq_5, qlt_6, qle_6, qgt_6, qge_6, qeq_6, qlt_7, qle_7, qgt_7, qge_7, qeq_7, qlt_8, qle_8, qgt_8, qge_8, qeq_8, qlt_9, qle_9, qgt_9, qge_9, qeq_9, qlt_10, qle_10, qgt_10, qge_10, qeq_10, qlt_12, qle_12, qgt_12, qge_12, qeq_12, qlt_16, qle_16, qgt_16, qge_16, qeq_16, qlt_20, qle_20, qgt_20, qge_20, qeq_20, qlt_24, qle_24, qgt_24, qge_24, qeq_24, qlt_30, qle_30, qgt_30, qge_30, qeq_30, qlt_32, qle_32, qgt_32, qge_32, qeq_32, qlt_37, qle_37, qgt_37, qge_37, qeq_37, qlt_40, qle_40, qgt_40, qge_40, qeq_40, qlt_42, qle_42, qgt_42, qge_42, qeq_42, qlt_43, qle_43, qgt_43, qge_43, qeq_43, qlt_45, qle_45, qgt_45, qge_45, qeq_45, qlt_47, qle_47, qgt_47, qge_47, qeq_47, qlt_48, qle_48, qgt_48, qge_48, qeq_48, qlt_57, qle_57, qgt_57, qge_57, qeq_57, qlt_59, qle_59, qgt_59, qge_59, qeq_59, qlt_60, qle_60, qgt_60, qge_60, qeq_60, qlt_61, qle_61, qgt_61, qge_61, qeq_61, qlt_62, qle_62, qgt_62, qge_62, qeq_62, qlt_64, qle_64, qgt_64, qge_64, qeq_64, qlt_91, qle_91, qgt_91, qge_91, qeq_91, qlt_93, qle_93, qgt_93, qge_93, qeq_93, qlt_97, qle_97, qgt_97, qge_97, qeq_97, qlt_122, qle_122, qgt_122, qge_122, qeq_122, qlt_400, qle_400, qgt_400, qge_400, qeq_400, qlt_999, qle_999, qgt_999, qge_999, qeq_999, qlt_0, qle_0, qgt_0, qge_0, qeq_0, qltm, qeqm, ↓reduceIte, Option.bind_some, not_true_eq_false, not_false_eq_true, and_true, true_and, and_false, false_and, or_false, false_or, or_true, true_or, Bool.false_eq_true, reduceCtorEq, n1, m1, m2, hk]
    · rw [wf 49 j (Or.inl rfl), wf 50 j (Or.inr rfl)]
      by_cases e : j = k
      · subst e; exact ⟨p4, p5⟩
      · rw [p6 49 j (Or.inl rfl) e, p6 50 j (Or.inr rfl) e]
        simp (disch := omega) only [wI_self, wI_ne, wI_nj, wI_L]
        exact hv j (by omega)) (by
    rintro m X' ⟨hI, hI1, i40, hv⟩
    refine ⟨X', ?_, hI, hI1, i40, hv⟩
    rw [f11_laysPaces_L1, if_pos (show (36 : Int32) ≤ nI 36 by decide)]) jF 0 X0 (Nat.zero_le _) (by show _ < 5000; omega) ⟨x2, x4, x3.trans h40, fun j hj => by omega⟩
  refine ⟨r, ?_, hp0.1, hp1, hp2, hp3⟩
  unfold f11_laysPaces
  have hr' : f11_laysPaces_L1 (nI g1) (nI g2) (nI n) jF X0 0 = some r := hr
  simp only [x1, Option.bind_some, hr']
def rsK (P Q : Nat → Nat) (p : Nat) : Nat → Bool
  | 0 => true
  | k + 1 => rsK P Q p k && (decide (P (k * 6 + p % 6) ≤ P p) && decide (Q (p / 6 * 6 + k) ≤ Q p))
theorem rsK_mono {P Q : Nat → Nat} {p : Nat} : ∀ (m k : Nat), k ≤ m → rsK P Q p k = false → rsK P Q p m = false := by
  intro m
  induction m with
  | zero => intro k h e; have : k = 0 := by omega
            subst this; exact e
  | succ m ih =>
    intro k h e
    by_cases h2 : k = m + 1
    · subst h2; exact e
    · unfold rsK; rw [ih k (by omega) e]; rfl
theorem c_isRest {S : jS} {P Q : Nat → Nat} {p : Nat} (h : ∀ j, j < 36 → S.1 67 j = nI (P j) ∧ S.1 68 j = nI (Q j)) (hP : ∀ j, P j ≤ 20 ∧ Q j ≤ 20) (hp : p < 36) : f2_isRest S (nI p) = some (if rsK P Q p 6 = true then 1 else 0) := by
  unfold f2_isRest
  rw [nI_d6 (by omega), irm_6 (by omega)]
  obtain ⟨r, hr, hq⟩ := lp_up (G := 6) (Post := fun r : Int32 => r = if rsK P Q p 6 = true then 1 else 0) (fun n k (_ : Unit) => f2_isRest_L1 S (nI p) (nI (p / 6)) (nI (p % 6)) n (nI k)) (fun k _ => rsK P Q p k = true) (by
    intro n k _ hk hI
    have n1 : ¬ 6 ≤ k := by omega
    have l1 : k * 6 + p % 6 < 36 := by omega
    have l2 : p / 6 * 6 + k < 36 := by omega
    obtain ⟨a1, a2⟩ := h _ l1
    obtain ⟨b1, b2⟩ := h _ l2
    obtain ⟨c1, c2⟩ := h p hp
    have := hP (k * 6 + p % 6)
    have := hP (p / 6 * 6 + k)
    have := hP p
    by_cases u1 : P (k * 6 + p % 6) ≤ P p
    · have u1' : ¬ P p < P (k * 6 + p % 6) := by omega
      by_cases u2 : Q (p / 6 * 6 + k) ≤ Q p
      · left
        refine ⟨(), ?_, ?_⟩
        · rw [f2_isRest_L1]
          simp (disch := omega) only [nI_ltI, nI_leI, nI_eq, nI_clamp, nI_1, nI_add, nI_mul, inb_n, irm_n, nI_div, nI_m6, nI_d6, irm_6, qlt_1, qle_1, qgt_1, qge_1, qeq_1, qlt_2, qle_2, qgt_2, qge_2, qeq_2, qlt_3, qle_3, qgt_3, qge_3, qeq_3, qlt_4, qle_4, qgt_4, qge_4, qeq_4, qlt_5, qle_5, qgt_5, qge_5, qeq_5, qlt_6, qle_6, qgt_6, qge_6, qeq_6, qlt_7, qle_7, qgt_7, qge_7, qeq_7, qlt_8, qle_8, qgt_8, qge_8, qeq_8, qlt_9, qle_9, qgt_9, qge_9, qeq_9, qlt_10, qle_10, qgt_10, qge_10, qeq_10, qlt_12, qle_12, qgt_12, qge_12, qeq_12, qlt_16, qle_16, qgt_16, qge_16, qeq_16, qlt_20, qle_20, qgt_20, qge_20, qeq_20, qlt_24, qle_24, qgt_24, qge_24, qeq_24, qlt_30, qle_30, qgt_30, qge_30, qeq_30, qlt_32, qle_32, qgt_32, qge_32, qeq_32, qlt_37, qle_37, qgt_37, qge_37, qeq_37, qlt_40, qle_40, qgt_40, qge_40, qeq_40, qlt_42, qle_42, qgt_42, qge_42, qeq_42, qlt_43, qle_43, qgt_43, qge_43, qeq_43, qlt_45, qle_45, qgt_45, qge_45, qeq_45, qlt_47, qle_47, qgt_47, qge_47, qeq_47, qlt_48, qle_48, qgt_48, qge_48, qeq_48, qlt_57, qle_57, qgt_57, qge_57, qeq_57, qlt_59, qle_59, qgt_59, qge_59, qeq_59, qlt_60, qle_60, qgt_60, qge_60, qeq_60, qlt_61, qle_61, qgt_61, qge_61, qeq_61, qlt_62, qle_62, qgt_62, qge_62, qeq_62, qlt_64, qle_64, qgt_64, qge_64, qeq_64, qlt_91, qle_91, qgt_91, qge_91, qeq_91, qlt_93, qle_93, qgt_93, qge_93, qeq_93, qlt_97, qle_97, qgt_97, qge_97, qeq_97, qlt_122, qle_122, qgt_122, qge_122, qeq_122, qlt_400, qle_400, qgt_400, qge_400, qeq_400, qlt_999, qle_999, qgt_999, qge_999, qeq_999, qlt_0, qle_0, qgt_0, qge_0, qeq_0, qltm, qeqm, ↓reduceIte, Option.bind_some, not_true_eq_false, not_false_eq_true, and_true, true_and, and_false, false_and, or_false, false_or, or_true, true_or, Bool.false_eq_true, reduceCtorEq, n1, l1, l2, hp, a1, b2, c1, c2, u1', u2]
        · unfold rsK; rw [hI]; simp [u1, u2]
      · right
        refine ⟨0, ?_, ?_⟩
        · rw [f2_isRest_L1]
          simp (disch := omega) only [nI_ltI, nI_leI, nI_eq, nI_clamp, nI_1, nI_add, nI_mul, inb_n, irm_n, nI_div, nI_m6, nI_d6, irm_6, qlt_1, qle_1, qgt_1, qge_1, qeq_1, qlt_2, qle_2, qgt_2, qge_2, qeq_2, qlt_3, qle_3, qgt_3, qge_3, qeq_3, qlt_4, qle_4, qgt_4, qge_4, qeq_4, qlt_5, qle_5, qgt_5, qge_5, qeq_5, qlt_6, qle_6, qgt_6, qge_6, qeq_6, qlt_7, qle_7, qgt_7, qge_7, qeq_7, qlt_8, qle_8, qgt_8, qge_8, qeq_8, qlt_9, qle_9, qgt_9, qge_9, qeq_9, qlt_10, qle_10, qgt_10, qge_10, qeq_10, qlt_12, qle_12, qgt_12, qge_12, qeq_12, qlt_16, qle_16, qgt_16, qge_16, qeq_16, qlt_20, qle_20, qgt_20, qge_20, qeq_20, qlt_24, qle_24, qgt_24, qge_24, qeq_24, qlt_30, qle_30, qgt_30, qge_30, qeq_30, qlt_32, qle_32, qgt_32, qge_32, qeq_32, qlt_37, qle_37, qgt_37, qge_37, qeq_37, qlt_40, qle_40, qgt_40, qge_40, qeq_40, qlt_42, qle_42, qgt_42, qge_42, qeq_42, qlt_43, qle_43, qgt_43, qge_43, qeq_43, qlt_45, qle_45, qgt_45, qge_45, qeq_45, qlt_47, qle_47, qgt_47, qge_47, qeq_47, qlt_48, qle_48, qgt_48, qge_48, qeq_48, qlt_57, qle_57, qgt_57, qge_57, qeq_57, qlt_59, qle_59, qgt_59, qge_59, qeq_59, qlt_60, qle_60, qgt_60, qge_60, qeq_60, qlt_61, qle_61, qgt_61, qge_61, qeq_61, qlt_62, qle_62, qgt_62, qge_62, qeq_62, qlt_64, qle_64, qgt_64, qge_64, qeq_64, qlt_91, qle_91, qgt_91, qge_91, qeq_91, qlt_93, qle_93, qgt_93, qge_93, qeq_93, qlt_97, qle_97, qgt_97, qge_97, qeq_97, qlt_122, qle_122, qgt_122, qge_122, qeq_122, qlt_400, qle_400, qgt_400, qge_400, qeq_400, qlt_999, qle_999, qgt_999, qge_999, qeq_999, qlt_0, qle_0, qgt_0, qge_0, qeq_0, qltm, qeqm, ↓reduceIte, Option.bind_some, not_true_eq_false, not_false_eq_true, and_true, true_and, and_false, false_and, or_false, false_or, or_true, true_or, Bool.false_eq_true, reduceCtorEq, n1, l1, l2, hp, a1, b2, c1, c2, u1', u2]
        · have : rsK P Q p (k + 1) = false := by unfold rsK; simp [u2]
          rw [rsK_mono 6 (k + 1) (by omega) this]; rfl
    · right
      have u1' : P p < P (k * 6 + p % 6) := by omega
      refine ⟨0, ?_, ?_⟩
      · rw [f2_isRest_L1]
        simp (disch := omega) only [nI_ltI, nI_leI, nI_eq, nI_clamp, nI_1, nI_add, nI_mul, inb_n, irm_n, nI_div, nI_m6, nI_d6, irm_6, qlt_1, qle_1, qgt_1, qge_1, qeq_1, qlt_2, qle_2, qgt_2, qge_2, qeq_2, qlt_3, qle_3, qgt_3, qge_3, qeq_3, qlt_4, qle_4, qgt_4, qge_4, qeq_4, qlt_5, qle_5, qgt_5, qge_5, qeq_5, qlt_6, qle_6, qgt_6, qge_6, qeq_6, qlt_7, qle_7, qgt_7, qge_7, qeq_7, qlt_8, qle_8, qgt_8, qge_8, qeq_8, qlt_9, qle_9, qgt_9, qge_9, qeq_9, qlt_10, qle_10, qgt_10, qge_10, qeq_10, qlt_12, qle_12, qgt_12, qge_12, qeq_12, qlt_16, qle_16, qgt_16, qge_16, qeq_16, qlt_20, qle_20, qgt_20, qge_20, qeq_20, qlt_24, qle_24, qgt_24, qge_24, qeq_24, qlt_30, qle_30, qgt_30, qge_30, qeq_30, qlt_32, qle_32, qgt_32, qge_32, qeq_32, qlt_37, qle_37, qgt_37, qge_37, qeq_37, qlt_40, qle_40, qgt_40, qge_40, qeq_40, qlt_42, qle_42, qgt_42, qge_42, qeq_42, qlt_43, qle_43, qgt_43, qge_43, qeq_43, qlt_45, qle_45, qgt_45, qge_45, qeq_45, qlt_47, qle_47, qgt_47, qge_47, qeq_47, qlt_48, qle_48, qgt_48, qge_48, qeq_48, qlt_57, qle_57, qgt_57, qge_57, qeq_57, qlt_59, qle_59, qgt_59, qge_59, qeq_59, qlt_60, qle_60, qgt_60, qge_60, qeq_60, qlt_61, qle_61, qgt_61, qge_61, qeq_61, qlt_62, qle_62, qgt_62, qge_62, qeq_62, qlt_64, qle_64, qgt_64, qge_64, qeq_64, qlt_91, qle_91, qgt_91, qge_91, qeq_91, qlt_93, qle_93, qgt_93, qge_93, qeq_93, qlt_97, qle_97, qgt_97, qge_97, qeq_97, qlt_122, qle_122, qgt_122, qge_122, qeq_122, qlt_400, qle_400, qgt_400, qge_400, qeq_400, qlt_999, qle_999, qgt_999, qge_999, qeq_999, qlt_0, qle_0, qgt_0, qge_0, qeq_0, qltm, qeqm, ↓reduceIte, Option.bind_some, not_true_eq_false, not_false_eq_true, and_true, true_and, and_false, false_and, or_false, false_or, or_true, true_or, Bool.false_eq_true, reduceCtorEq, n1, l1, hp, a1, c1, u1']
      · have : rsK P Q p (k + 1) = false := by unfold rsK; simp [u1]
        rw [rsK_mono 6 (k + 1) (by omega) this]; rfl) (by
    intro n _ hI
    refine ⟨1, ?_, by rw [if_pos hI]⟩
    have n1 : 6 ≤ 6 := by omega
    rw [f2_isRest_L1]
    simp (disch := omega) only [nI_ltI, nI_leI, nI_eq, nI_clamp, nI_1, nI_add, nI_mul, inb_n, irm_n, nI_div, nI_m6, nI_d6, irm_6, qlt_1, qle_1, qgt_1, qge_1, qeq_1, qlt_2, qle_2, qgt_2, qge_2, qeq_2, qlt_3, qle_3, qgt_3, qge_3, qeq_3, qlt_4, qle_4, qgt_4, qge_4, qeq_4, qlt_5, qle_5, qgt_5, qge_5, qeq_5, qlt_6, qle_6, qgt_6, qge_6, qeq_6, qlt_7, qle_7, qgt_7, qge_7, qeq_7, qlt_8, qle_8, qgt_8, qge_8, qeq_8, qlt_9, qle_9, qgt_9, qge_9, qeq_9, qlt_10, qle_10, qgt_10, qge_10, qeq_10, qlt_12, qle_12, qgt_12, qge_12, qeq_12, qlt_16, qle_16, qgt_16, qge_16, qeq_16, qlt_20, qle_20, qgt_20, qge_20, qeq_20, qlt_24, qle_24, qgt_24, qge_24, qeq_24, qlt_30, qle_30, qgt_30, qge_30, qeq_30, qlt_32, qle_32, qgt_32, qge_32, qeq_32, qlt_37, qle_37, qgt_37, qge_37, qeq_37, qlt_40, qle_40, qgt_40, qge_40, qeq_40, qlt_42, qle_42, qgt_42, qge_42, qeq_42, qlt_43, qle_43, qgt_43, qge_43, qeq_43, qlt_45, qle_45, qgt_45, qge_45, qeq_45, qlt_47, qle_47, qgt_47, qge_47, qeq_47, qlt_48, qle_48, qgt_48, qge_48, qeq_48, qlt_57, qle_57, qgt_57, qge_57, qeq_57, qlt_59, qle_59, qgt_59, qge_59, qeq_59, qlt_60, qle_60, qgt_60, qge_60, qeq_60, qlt_61, qle_61, qgt_61, qge_61, qeq_61, qlt_62, qle_62, qgt_62, qge_62, qeq_62, qlt_64, qle_64, qgt_64, qge_64, qeq_64, qlt_91, qle_91, qgt_91, qge_91, qeq_91, qlt_93, qle_93, qgt_93, qge_93, qeq_93, qlt_97, qle_97, qgt_97, qge_97, qeq_97, qlt_122, qle_122, qgt_122, qge_122, qeq_122, qlt_400, qle_400, qgt_400, qge_400, qeq_400, qlt_999, qle_999, qgt_999, qge_999, qeq_999, qlt_0, qle_0, qgt_0, qge_0, qeq_0, qltm, qeqm, ↓reduceIte, Option.bind_some, not_true_eq_false, not_false_eq_true, and_true, true_and, and_false, false_and, or_false, false_or, or_true, true_or, Bool.false_eq_true, reduceCtorEq, n1]) jF 0 () (Nat.zero_le _) (by show _ < 5000; omega) rfl
  rw [← hq]; exact hr
theorem nI_6m (a : Nat) : 6 * nI a = nI (6 * a) := nI_mul 6 a
theorem r_isRest {X : jS} {P Q : Nat → Nat} {i k : Nat} (h : ∀ j, j < 36 → X.1 49 j = nI (P j) ∧ X.1 50 j = nI (Q j)) (hP : ∀ j, P j ≤ 20 ∧ Q j ≤ 20) (hi : i < 6) (hk : k < 6) : f11_isRest X (nI i) (nI k) = some (if rsK P Q (i * 6 + k) 6 = true then 1 else 0) := by
  have d1 : (i * 6 + k) / 6 = i := by omega
  have d2 : (i * 6 + k) % 6 = k := by omega
  have hp : i * 6 + k < 36 := by omega
  unfold f11_isRest
  obtain ⟨r, hr, hq⟩ := lp_up (G := 6) (Post := fun r : Int32 => r = if rsK P Q (i * 6 + k) 6 = true then 1 else 0) (fun n j (_ : Unit) => f11_isRest_L1 X (nI i) (nI k) 6 n (nI j)) (fun j _ => rsK P Q (i * 6 + k) j = true) (by
    intro n j _ hj hI
    have n1 : ¬ 6 ≤ j := by omega
    have l1 : j * 6 + k < 36 := by omega
    have l2 : i * 6 + j < 36 := by omega
    obtain ⟨a1, a2⟩ := h _ l1
    obtain ⟨b1, b2⟩ := h _ l2
    obtain ⟨c1, c2⟩ := h _ hp
    have := hP (j * 6 + k)
    have := hP (i * 6 + j)
    have := hP (i * 6 + k)
    have m1 : 6 * j + k = j * 6 + k := by omega
    have m2 : 6 * i + j = i * 6 + j := by omega
    have m3 : 6 * i + k = i * 6 + k := by omega
    by_cases u1 : P (j * 6 + k) ≤ P (i * 6 + k)
    · have u1' : ¬ P (i * 6 + k) < P (j * 6 + k) := by omega
      by_cases u2 : Q (i * 6 + j) ≤ Q (i * 6 + k)
      · left
        refine ⟨(), ?_, ?_⟩
        · rw [f11_isRest_L1]
          simp (disch := omega) only [nI_6m, nI_ltI, nI_leI, nI_eq, nI_clamp, nI_1, nI_add, nI_mul, inb_n, irm_n, nI_div, nI_m6, nI_d6, irm_6, qlt_1, qle_1, qgt_1, qge_1, qeq_1, qlt_2, qle_2, qgt_2, qge_2, qeq_2, qlt_3, qle_3, qgt_3, qge_3, qeq_3, qlt_4, qle_4, qgt_4, qge_4, qeq_4, qlt_5, qle_5, qgt_5, qge_5, qeq_5, qlt_6, qle_6, qgt_6, qge_6, qeq_6, qlt_7, qle_7, qgt_7, qge_7, qeq_7, qlt_8, qle_8, qgt_8, qge_8, qeq_8, qlt_9, qle_9, qgt_9, qge_9, qeq_9, qlt_10, qle_10, qgt_10, qge_10, qeq_10, qlt_12, qle_12, qgt_12, qge_12, qeq_12, qlt_16, qle_16, qgt_16, qge_16, qeq_16, qlt_20, qle_20, qgt_20, qge_20, qeq_20, qlt_24, qle_24, qgt_24, qge_24, qeq_24, qlt_30, qle_30, qgt_30, qge_30, qeq_30, qlt_32, qle_32, qgt_32, qge_32, qeq_32, qlt_37, qle_37, qgt_37, qge_37, qeq_37, qlt_40, qle_40, qgt_40, qge_40, qeq_40, qlt_42, qle_42, qgt_42, qge_42, qeq_42, qlt_43, qle_43, qgt_43, qge_43, qeq_43, qlt_45, qle_45, qgt_45, qge_45, qeq_45, qlt_47, qle_47, qgt_47, qge_47, qeq_47, qlt_48, qle_48, qgt_48, qge_48, qeq_48, qlt_57, qle_57, qgt_57, qge_57, qeq_57, qlt_59, qle_59, qgt_59, qge_59, qeq_59, qlt_60, qle_60, qgt_60, qge_60, qeq_60, qlt_61, qle_61, qgt_61, qge_61, qeq_61, qlt_62, qle_62, qgt_62, qge_62, qeq_62, qlt_64, qle_64, qgt_64, qge_64, qeq_64, qlt_91, qle_91, qgt_91, qge_91, qeq_91, qlt_93, qle_93, qgt_93, qge_93, qeq_93, qlt_97, qle_97, qgt_97, qge_97, qeq_97, qlt_122, qle_122, qgt_122, qge_122, qeq_122, qlt_400, qle_400, qgt_400, qge_400, qeq_400, qlt_999, qle_999, qgt_999, qge_999, qeq_999, qlt_0, qle_0, qgt_0, qge_0, qeq_0, qltm, qeqm, ↓reduceIte, Option.bind_some, not_true_eq_false, not_false_eq_true, and_true, true_and, and_false, false_and, or_false, false_or, or_true, true_or, Bool.false_eq_true, reduceCtorEq, n1, m1, m2, m3, l1, l2, hp, a1, b2, c1, c2, u1', u2]
        · unfold rsK; rw [hI, d1, d2]; simp [u1, u2]
      · right
        refine ⟨0, ?_, ?_⟩
        · rw [f11_isRest_L1]
          simp (disch := omega) only [nI_6m, nI_ltI, nI_leI, nI_eq, nI_clamp, nI_1, nI_add, nI_mul, inb_n, irm_n, nI_div, nI_m6, nI_d6, irm_6, qlt_1, qle_1, qgt_1, qge_1, qeq_1, qlt_2, qle_2, qgt_2, qge_2, qeq_2, qlt_3, qle_3, qgt_3, qge_3, qeq_3, qlt_4, qle_4, qgt_4, qge_4, qeq_4, qlt_5, qle_5, qgt_5, qge_5, qeq_5, qlt_6, qle_6, qgt_6, qge_6, qeq_6, qlt_7, qle_7, qgt_7, qge_7, qeq_7, qlt_8, qle_8, qgt_8, qge_8, qeq_8, qlt_9, qle_9, qgt_9, qge_9, qeq_9, qlt_10, qle_10, qgt_10, qge_10, qeq_10, qlt_12, qle_12, qgt_12, qge_12, qeq_12, qlt_16, qle_16, qgt_16, qge_16, qeq_16, qlt_20, qle_20, qgt_20, qge_20, qeq_20, qlt_24, qle_24, qgt_24, qge_24, qeq_24, qlt_30, qle_30, qgt_30, qge_30, qeq_30, qlt_32, qle_32, qgt_32, qge_32, qeq_32, qlt_37, qle_37, qgt_37, qge_37, qeq_37, qlt_40, qle_40, qgt_40, qge_40, qeq_40, qlt_42, qle_42, qgt_42, qge_42, qeq_42, qlt_43, qle_43, qgt_43, qge_43, qeq_43, qlt_45, qle_45, qgt_45, qge_45, qeq_45, qlt_47, qle_47, qgt_47, qge_47, qeq_47, qlt_48, qle_48, qgt_48, qge_48, qeq_48, qlt_57, qle_57, qgt_57, qge_57, qeq_57, qlt_59, qle_59, qgt_59, qge_59, qeq_59, qlt_60, qle_60, qgt_60, qge_60, qeq_60, qlt_61, qle_61, qgt_61, qge_61, qeq_61, qlt_62, qle_62, qgt_62, qge_62, qeq_62, qlt_64, qle_64, qgt_64, qge_64, qeq_64, qlt_91, qle_91, qgt_91, qge_91, qeq_91, qlt_93, qle_93, qgt_93, qge_93, qeq_93, qlt_97, qle_97, qgt_97, qge_97, qeq_97, qlt_122, qle_122, qgt_122, qge_122, qeq_122, qlt_400, qle_400, qgt_400, qge_400, qeq_400, qlt_999, qle_999, qgt_999, qge_999, qeq_999, qlt_0, qle_0, qgt_0, qge_0, qeq_0, qltm, qeqm, ↓reduceIte, Option.bind_some, not_true_eq_false, not_false_eq_true, and_true, true_and, and_false, false_and, or_false, false_or, or_true, true_or, Bool.false_eq_true, reduceCtorEq, n1, m1, m2, m3, l1, l2, hp, a1, b2, c1, c2, u1', u2]
        · have : rsK P Q (i * 6 + k) (j + 1) = false := by unfold rsK; rw [d1, d2]; simp [u2]
          rw [rsK_mono 6 (j + 1) (by omega) this]; rfl
    · right
      have u1' : P (i * 6 + k) < P (j * 6 + k) := by omega
      refine ⟨0, ?_, ?_⟩
      · rw [f11_isRest_L1]
        simp (disch := omega) only [nI_6m, nI_ltI, nI_leI, nI_eq, nI_clamp, nI_1, nI_add, nI_mul, inb_n, irm_n, nI_div, nI_m6, nI_d6, irm_6, qlt_1, qle_1, qgt_1, qge_1, qeq_1, qlt_2, qle_2, qgt_2, qge_2, qeq_2, qlt_3, qle_3, qgt_3, qge_3, qeq_3, qlt_4, qle_4, qgt_4, qge_4, qeq_4, qlt_5, qle_5, qgt_5, qge_5, qeq_5, qlt_6, qle_6, qgt_6, qge_6, qeq_6, qlt_7, qle_7, qgt_7, qge_7, qeq_7, qlt_8, qle_8, qgt_8, qge_8, qeq_8, qlt_9, qle_9, qgt_9, qge_9, qeq_9, qlt_10, qle_10, qgt_10, qge_10, qeq_10, qlt_12, qle_12, qgt_12, qge_12, qeq_12, qlt_16, qle_16, qgt_16, qge_16, qeq_16, qlt_20, qle_20, qgt_20, qge_20, qeq_20, qlt_24, qle_24, qgt_24, qge_24, qeq_24, qlt_30, qle_30, qgt_30, qge_30, qeq_30, qlt_32, qle_32, qgt_32, qge_32, qeq_32, qlt_37, qle_37, qgt_37, qge_37, qeq_37, qlt_40, qle_40, qgt_40, qge_40, qeq_40, qlt_42, qle_42, qgt_42, qge_42, qeq_42, qlt_43, qle_43, qgt_43, qge_43, qeq_43, qlt_45, qle_45, qgt_45, qge_45, qeq_45, qlt_47, qle_47, qgt_47, qge_47, qeq_47, qlt_48, qle_48, qgt_48, qge_48, qeq_48, qlt_57, qle_57, qgt_57, qge_57, qeq_57, qlt_59, qle_59, qgt_59, qge_59, qeq_59, qlt_60, qle_60, qgt_60, qge_60, qeq_60, qlt_61, qle_61, qgt_61, qge_61, qeq_61, qlt_62, qle_62, qgt_62, qge_62, qeq_62, qlt_64, qle_64, qgt_64, qge_64, qeq_64, qlt_91, qle_91, qgt_91, qge_91, qeq_91, qlt_93, qle_93, qgt_93, qge_93, qeq_93, qlt_97, qle_97, qgt_97, qge_97, qeq_97, qlt_122, qle_122, qgt_122, qge_122, qeq_122, qlt_400, qle_400, qgt_400, qge_400, qeq_400, qlt_999, qle_999, qgt_999, qge_999, qeq_999, qlt_0, qle_0, qgt_0, qge_0, qeq_0, qltm, qeqm, ↓reduceIte, Option.bind_some, not_true_eq_false, not_false_eq_true, and_true, true_and, and_false, false_and, or_false, false_or, or_true, true_or, Bool.false_eq_true, reduceCtorEq, n1, m1, m3, l1, hp, a1, c1, u1']
      · have : rsK P Q (i * 6 + k) (j + 1) = false := by unfold rsK; rw [d1, d2]; simp [u1]
        rw [rsK_mono 6 (j + 1) (by omega) this]; rfl) (by
    intro n _ hI
    refine ⟨1, ?_, by rw [if_pos hI]⟩
    have n1 : 6 ≤ 6 := by omega
    rw [f11_isRest_L1]
    simp (disch := omega) only [nI_ltI, nI_leI, nI_eq, nI_clamp, nI_1, nI_add, nI_mul, inb_n, irm_n, nI_div, nI_m6, nI_d6, irm_6, qlt_1, qle_1, qgt_1, qge_1, qeq_1, qlt_2, qle_2, qgt_2, qge_2, qeq_2, qlt_3, qle_3, qgt_3, qge_3, qeq_3, qlt_4, qle_4, qgt_4, qge_4, qeq_4, qlt_5, qle_5, qgt_5, qge_5, qeq_5, qlt_6, qle_6, qgt_6, qge_6, qeq_6, qlt_7, qle_7, qgt_7, qge_7, qeq_7, qlt_8, qle_8, qgt_8, qge_8, qeq_8, qlt_9, qle_9, qgt_9, qge_9, qeq_9, qlt_10, qle_10, qgt_10, qge_10, qeq_10, qlt_12, qle_12, qgt_12, qge_12, qeq_12, qlt_16, qle_16, qgt_16, qge_16, qeq_16, qlt_20, qle_20, qgt_20, qge_20, qeq_20, qlt_24, qle_24, qgt_24, qge_24, qeq_24, qlt_30, qle_30, qgt_30, qge_30, qeq_30, qlt_32, qle_32, qgt_32, qge_32, qeq_32, qlt_37, qle_37, qgt_37, qge_37, qeq_37, qlt_40, qle_40, qgt_40, qge_40, qeq_40, qlt_42, qle_42, qgt_42, qge_42, qeq_42, qlt_43, qle_43, qgt_43, qge_43, qeq_43, qlt_45, qle_45, qgt_45, qge_45, qeq_45, qlt_47, qle_47, qgt_47, qge_47, qeq_47, qlt_48, qle_48, qgt_48, qge_48, qeq_48, qlt_57, qle_57, qgt_57, qge_57, qeq_57, qlt_59, qle_59, qgt_59, qge_59, qeq_59, qlt_60, qle_60, qgt_60, qge_60, qeq_60, qlt_61, qle_61, qgt_61, qge_61, qeq_61, qlt_62, qle_62, qgt_62, qge_62, qeq_62, qlt_64, qle_64, qgt_64, qge_64, qeq_64, qlt_91, qle_91, qgt_91, qge_91, qeq_91, qlt_93, qle_93, qgt_93, qge_93, qeq_93, qlt_97, qle_97, qgt_97, qge_97, qeq_97, qlt_122, qle_122, qgt_122, qge_122, qeq_122, qlt_400, qle_400, qgt_400, qge_400, qeq_400, qlt_999, qle_999, qgt_999, qge_999, qeq_999, qlt_0, qle_0, qgt_0, qge_0, qeq_0, qltm, qeqm, ↓reduceIte, Option.bind_some, not_true_eq_false, not_false_eq_true, and_true, true_and, and_false, false_and, or_false, false_or, or_true, true_or, Bool.false_eq_true, reduceCtorEq, n1]) jF 0 () (Nat.zero_le _) (by show _ < 5000; omega) rfl
  rw [← hq]; exact hr
