theorem wI_self (S : jS) (a i : Nat) (x : Int32) : (wI S a i x).1 a i = x := by rw [wI_g, if_pos ⟨rfl, rfl⟩]
theorem wI_ne {S : jS} {a i b j : Nat} {x : Int32} (h : b ≠ a) : (wI S a i x).1 b j = S.1 b j := by rw [wI_g, if_neg (fun z => h z.1)]
theorem wI_nj {S : jS} {a i j : Nat} {x : Int32} (h : j ≠ i) : (wI S a i x).1 a j = S.1 a j := by rw [wI_g, if_neg (fun z => h z.2)]
theorem nI_0m : nI 0 - 1 = -1 := by decide
theorem c_seat {S : jS} {o : Nat} {N : mN} (ho : 20 ≤ o) (hN : NOk N) (h : HIs (hC S o) N) (ht : ∀ p, p / 6 < N 0 2 → (N 0 4).testBit (p / 6) = true → p % 6 < N 0 1 → S.1 18 p = nI (tpN N p)) : ∃ S1, f3_seatAll S o = some (S1, nI (dif (N 0 4) (seN N).1)) ∧ (∀ a i, a ≠ 17 → a ≠ 19 → S1.1 a i = S.1 a i) ∧ S1.2 = S.2 ∧ S1.1 17 2 = nI (seN N).2.2.2 - 1 ∧ (∀ g, (N 0 4).testBit g = true → (seN N).1.testBit g = false → S1.1 19 g = nI ((seN N).2.2.1 g)) := by
  have hi := hN.i
  have hth := hN.t
  have hG := hN.2.2.1
  have hCC := hN.2.1
  obtain ⟨r, hr, hp⟩ := lp_up (G := 6) (Post := fun r : jS × Int32 => r.2 = nI (dif (N 0 4) (seN N).1) ∧ (∀ a i, a ≠ 17 → a ≠ 19 → r.1.1 a i = S.1 a i) ∧ r.1.2 = S.2 ∧ r.1.1 17 2 = nI (seN N).2.2.2 - 1 ∧ (∀ g, (N 0 4).testBit g = true → (seN N).1.testBit g = false → r.1.1 19 g = nI ((seN N).2.2.1 g))) (fun n k (A : jS × Int32 × Int32) => f3_seatAll_L1 o n A.1 A.2.1 A.2.2 (nI k)) (fun k A => ∃ q : mQ, QOk N q ∧ A.2.1 = nI q.1 ∧ A.2.2 = nI q.2.1 ∧ sitN (tpN N) (6 - k) q = seN N ∧ (∀ a i, a ≠ 17 → a ≠ 19 → A.1.1 a i = S.1 a i) ∧ A.1.2 = S.2 ∧ A.1.1 17 2 = nI q.2.2.2 - 1 ∧ (∀ g, (N 0 4).testBit g = true → q.1.testBit g = false → A.1.1 19 g = nI (q.2.2.1 g))) (by
    rintro n k ⟨S', l2, l3⟩ hk ⟨q, hQ, rfl, rfl, hs, hI, hL, hla, hse⟩
    have hq1 := hQ.s hN
    have hq2 := hQ.f hN
    have f4 : S'.1 o 4 = nI (N 0 4) := by rw [hI _ _ (by omega) (by omega)]; exact h.1 4 (by omega) (by omega)
    have n1 : ¬ 6 ≤ k := by omega
    have hnp := c_near (S := S') (t := tpN N) hq1 hq2 (fun p p1 p2 p3 => by
      have b1 := hQ.1 _ p2
      have b2 := hQ.2.1 _ p3
      have c1 := hN.ib b1
      have c2 := hN.tb b2
      rw [hI _ _ (by omega) (by omega)]
      refine ⟨ht p c1 b1 c2, ?_⟩
      have := tmN_le hN c1 c2
      show tmN N _ _ < _
      omega)
    obtain ⟨m, hm⟩ : ∃ m, 6 - k = m + 1 := ⟨5 - k, by omega⟩
    rw [hm] at hs
    cases e : scn (tpN N) q.1 q.2.1 42 with
    | none =>
      right
      have hsq : sqN (tpN N) q = none := by unfold sqN; rw [e]; rfl
      have hqq : q = seN N := by
        rw [← hs]; unfold sitN; rw [hsq]
      subst hqq
      rw [e] at hnp
      have hnp' : f3_nearestPair S' (nI (seN N).1) (nI (seN N).2.1) = some (-1) := hnp
      refine ⟨(S', nI (dif (N 0 4) (seN N).1)), ?_, rfl, hI, hL, hla, hse⟩
      simp (disch := omega) only [f3_seatAll_L1, hnp', f4, nI_ltI, nI_leI, nI_eq, nI_clamp, nI_1, nI_add, nI_mul, inb_n, irm_n, nI_div, nI_m6, nI_d6, irm_6, qlt_1, qle_1, qgt_1, qge_1, qeq_1, qlt_2, qle_2, qgt_2, qge_2, qeq_2, qlt_3, qle_3, qgt_3, qge_3, qeq_3, qlt_4, qle_4, qgt_4, qge_4, qeq_4, qlt_5, qle_5, qgt_5, qge_5, qeq_5, qlt_6, qle_6, qgt_6, qge_6, qeq_6, qlt_7, qle_7, qgt_7, qge_7, qeq_7, qlt_8, qle_8, qgt_8, qge_8, qeq_8, qlt_9, qle_9, qgt_9, qge_9, qeq_9, qlt_10, qle_10, qgt_10, qge_10, qeq_10, qlt_12, qle_12, qgt_12, qge_12, qeq_12, qlt_16, qle_16, qgt_16, qge_16, qeq_16, qlt_20, qle_20, qgt_20, qge_20, qeq_20, qlt_24, qle_24, qgt_24, qge_24, qeq_24, qlt_30, qle_30, qgt_30, qge_30, qeq_30, qlt_32, qle_32, qgt_32, qge_32, qeq_32, qlt_37, qle_37, qgt_37, qge_37, qeq_37, qlt_40, qle_40, qgt_40, qge_40, qeq_40, qlt_42, qle_42, qgt_42, qge_42, qeq_42, qlt_43, qle_43, qgt_43, qge_43, qeq_43, qlt_45, qle_45, qgt_45, qge_45, qeq_45, qlt_47, qle_47, qgt_47, qge_47, qeq_47, qlt_48, qle_48, qgt_48, qge_48, qeq_48, qlt_57, qle_57, qgt_57, qge_57, qeq_57, qlt_59, qle_59, qgt_59, qge_59, qeq_59, qlt_60, qle_60, qgt_60, qge_60, qeq_60, qlt_61, qle_61, qgt_61, qge_61, qeq_61, qlt_62, qle_62, qgt_62, qge_62, qeq_62, qlt_64, qle_64, qgt_64, qge_64, qeq_64, qlt_91, qle_91, qgt_91, qge_91, qeq_91, qlt_93, qle_93, qgt_93, qge_93, qeq_93, qlt_97, qle_97, qgt_97, qge_97, qeq_97, qlt_122, qle_122, qgt_122, qge_122, qeq_122, qlt_400, qle_400, qgt_400, qge_400, qeq_400, qlt_999, qle_999, qgt_999, qge_999, qeq_999, qlt_0, qle_0, qgt_0, qge_0, qeq_0, qltm, qeqm, ↓reduceIte, Option.bind_some, not_true_eq_false, not_false_eq_true, and_true, true_and, and_false, false_and, or_false, false_or, or_true, true_or, Bool.false_eq_true, reduceCtorEq, n1, b_dif]
    | some p =>
      left
      rw [e] at hnp
      obtain ⟨p1, p2, p3, p4, p5⟩ := hQ.pair hN e
      have hnp' : f3_nearestPair S' (nI q.1) (nI q.2.1) = some (nI p) := hnp
      have hsq : sqN (tpN N) q = some (clr q.1 (p / 6), clr q.2.1 (p % 6), (fun g => if g = p / 6 then p % 6 else q.2.2.1 g), p % 6 + 1) := by unfold sqN; rw [e]; rfl
      have hst := hQ.step hN hsq
      have n2 : p / 6 < 7 := by omega
      have n3 : p % 6 < 7 := by omega
      have n4 : q.2.1 < 128 := by omega
      refine ⟨(wI (wI S' 17 2 (nI (p % 6))) 19 (p / 6) (nI (p % 6)), nI (clr q.1 (p / 6)), nI (clr q.2.1 (p % 6))), ?_, _, hst, rfl, rfl, ?_, ?_, hL, ?_, ?_⟩
      · simp (disch := omega) only [f3_seatAll_L1, hnp', nI_ltI, nI_leI, nI_eq, nI_clamp, nI_1, nI_add, nI_mul, inb_n, irm_n, nI_div, nI_m6, nI_d6, irm_6, qlt_1, qle_1, qgt_1, qge_1, qeq_1, qlt_2, qle_2, qgt_2, qge_2, qeq_2, qlt_3, qle_3, qgt_3, qge_3, qeq_3, qlt_4, qle_4, qgt_4, qge_4, qeq_4, qlt_5, qle_5, qgt_5, qge_5, qeq_5, qlt_6, qle_6, qgt_6, qge_6, qeq_6, qlt_7, qle_7, qgt_7, qge_7, qeq_7, qlt_8, qle_8, qgt_8, qge_8, qeq_8, qlt_9, qle_9, qgt_9, qge_9, qeq_9, qlt_10, qle_10, qgt_10, qge_10, qeq_10, qlt_12, qle_12, qgt_12, qge_12, qeq_12, qlt_16, qle_16, qgt_16, qge_16, qeq_16, qlt_20, qle_20, qgt_20, qge_20, qeq_20, qlt_24, qle_24, qgt_24, qge_24, qeq_24, qlt_30, qle_30, qgt_30, qge_30, qeq_30, qlt_32, qle_32, qgt_32, qge_32, qeq_32, qlt_37, qle_37, qgt_37, qge_37, qeq_37, qlt_40, qle_40, qgt_40, qge_40, qeq_40, qlt_42, qle_42, qgt_42, qge_42, qeq_42, qlt_43, qle_43, qgt_43, qge_43, qeq_43, qlt_45, qle_45, qgt_45, qge_45, qeq_45, qlt_47, qle_47, qgt_47, qge_47, qeq_47, qlt_48, qle_48, qgt_48, qge_48, qeq_48, qlt_57, qle_57, qgt_57, qge_57, qeq_57, qlt_59, qle_59, qgt_59, qge_59, qeq_59, qlt_60, qle_60, qgt_60, qge_60, qeq_60, qlt_61, qle_61, qgt_61, qge_61, qeq_61, qlt_62, qle_62, qgt_62, qge_62, qeq_62, qlt_64, qle_64, qgt_64, qge_64, qeq_64, qlt_91, qle_91, qgt_91, qge_91, qeq_91, qlt_93, qle_93, qgt_93, qge_93, qeq_93, qlt_97, qle_97, qgt_97, qge_97, qeq_97, qlt_122, qle_122, qgt_122, qge_122, qeq_122, qlt_400, qle_400, qgt_400, qge_400, qeq_400, qlt_999, qle_999, qgt_999, qge_999, qeq_999, qlt_0, qle_0, qgt_0, qge_0, qeq_0, qltm, qeqm, ↓reduceIte, Option.bind_some, not_true_eq_false, not_false_eq_true, and_true, true_and, and_false, false_and, or_false, false_or, or_true, true_or, Bool.false_eq_true, reduceCtorEq, wI_self, wI_ne, wI_nj, wI_L, n1, n2, b_clr]
      · rw [show 6 - (k + 1) = m by omega]
        rw [← hs, sitN, hsq]
      · intro a i ha hb
        simp (disch := omega) only [wI_self, wI_ne, wI_nj, wI_L]
        exact hI a i ha hb
      · simp (disch := omega) only [wI_self, wI_ne, wI_nj, wI_L]
        exact (nI_pred (p % 6)).symm
      · intro g hg hc
        show (wI (wI S' 17 2 (nI (p % 6))) 19 (p / 6) (nI (p % 6))).1 19 g = nI (if g = p / 6 then p % 6 else q.2.2.1 g)
        by_cases eg : g = p / 6
        · rw [if_pos eg, eg, wI_self]
        · rw [if_neg eg, wI_nj eg, wI_ne (by omega)]
          apply hse g hg
          have hg7 : g < 7 := by have := hN.ib hg; omega
          have hc' : (clr q.1 (p / 6)).testBit g = false := hc
          rw [clr_b hq1 n2 hg7] at hc'
          have : (g == p / 6) = false := by simpa using eg
          rw [this] at hc'
          simpa using hc') (by
    rintro n ⟨S', l2, l3⟩ ⟨q, hQ, rfl, rfl, hs, hI, hL, hla, hse⟩
    have hq1 := hQ.s hN
    have f4 : S'.1 o 4 = nI (N 0 4) := by rw [hI _ _ (by omega) (by omega)]; exact h.1 4 (by omega) (by omega)
    have n1 : 6 ≤ 6 := by omega
    have hqq : q = seN N := hs
    subst hqq
    refine ⟨(S', nI (dif (N 0 4) (seN N).1)), ?_, rfl, hI, hL, hla, hse⟩
    simp (disch := omega) only [f3_seatAll_L1, f4, nI_ltI, nI_leI, nI_eq, nI_clamp, nI_1, nI_add, nI_mul, inb_n, irm_n, nI_div, nI_m6, nI_d6, irm_6, qlt_1, qle_1, qgt_1, qge_1, qeq_1, qlt_2, qle_2, qgt_2, qge_2, qeq_2, qlt_3, qle_3, qgt_3, qge_3, qeq_3, qlt_4, qle_4, qgt_4, qge_4, qeq_4, qlt_5, qle_5, qgt_5, qge_5, qeq_5, qlt_6, qle_6, qgt_6, qge_6, qeq_6, qlt_7, qle_7, qgt_7, qge_7, qeq_7, qlt_8, qle_8, qgt_8, qge_8, qeq_8, qlt_9, qle_9, qgt_9, qge_9, qeq_9, qlt_10, qle_10, qgt_10, qge_10, qeq_10, qlt_12, qle_12, qgt_12, qge_12, qeq_12, qlt_16, qle_16, qgt_16, qge_16, qeq_16, qlt_20, qle_20, qgt_20, qge_20, qeq_20, qlt_24, qle_24, qgt_24, qge_24, qeq_24, qlt_30, qle_30, qgt_30, qge_30, qeq_30, qlt_32, qle_32, qgt_32, qge_32, qeq_32, qlt_37, qle_37, qgt_37, qge_37, qeq_37, qlt_40, qle_40, qgt_40, qge_40, qeq_40, qlt_42, qle_42, qgt_42, qge_42, qeq_42, qlt_43, qle_43, qgt_43, qge_43, qeq_43, qlt_45, qle_45, qgt_45, qge_45, qeq_45, qlt_47, qle_47, qgt_47, qge_47, qeq_47, qlt_48, qle_48, qgt_48, qge_48, qeq_48, qlt_57, qle_57, qgt_57, qge_57, qeq_57, qlt_59, qle_59, qgt_59, qge_59, qeq_59, qlt_60, qle_60, qgt_60, qge_60, qeq_60, qlt_61, qle_61, qgt_61, qge_61, qeq_61, qlt_62, qle_62, qgt_62, qge_62, qeq_62, qlt_64, qle_64, qgt_64, qge_64, qeq_64, qlt_91, qle_91, qgt_91, qge_91, qeq_91, qlt_93, qle_93, qgt_93, qge_93, qeq_93, qlt_97, qle_97, qgt_97, qge_97, qeq_97, qlt_122, qle_122, qgt_122, qge_122, qeq_122, qlt_400, qle_400, qgt_400, qge_400, qeq_400, qlt_999, qle_999, qgt_999, qge_999, qeq_999, qlt_0, qle_0, qgt_0, qge_0, qeq_0, qltm, qeqm, ↓reduceIte, Option.bind_some, not_true_eq_false, not_false_eq_true, and_true, true_and, and_false, false_and, or_false, false_or, or_true, true_or, Bool.false_eq_true, reduceCtorEq, n1, b_dif]) jF 0 (wI S 17 2 (-1), S.1 o 4, S.1 o 3) (Nat.zero_le _) (by show _ < 5000; omega) ⟨(N 0 4, N 0 3, fun _ => 0, 0), QOk.init, h.1 4 (by omega) (by omega), h.1 3 (by omega) (by omega), rfl, fun a i ha hb => wI_ne ha, rfl, by rw [wI_self]; exact nI_0m.symm, fun g h1 h2 => absurd (h1.symm.trans h2) (by decide)⟩
  obtain ⟨S1, v⟩ := r
  obtain ⟨rfl, hp⟩ := hp
  exact ⟨S1, hr, hp⟩
theorem c_sit {S : jS} {o g c p1 p2 s5 s6 : Nat} (hg : g < 7) (hc : c < 6) (e1 : S.1 (o + 1) c = nI p1) (e2 : S.1 (o + 2) g = nI p2) (e5 : S.1 (o + 5) g = nI s5) (e6 : S.1 (o + 6) g = nI s6) (b1 : p1 < 2 ^ 31) (b2 : p2 < 2 ^ 31) (b5 : s5 < 2 ^ 31) (b6 : s6 < 2 ^ 31) : ∃ S1, f3_sit S o (nI g) (nI c) = some (S1, ()) ∧ (∀ a i, S1.1 a i = if a = o + 6 ∧ i = g then nI (if s6 < 999 then s6 + 1 else s6) else if a = o + 2 ∧ i = g then nI p1 else if a = o + 5 ∧ i = g then nI (if p2 ≠ p1 ∧ s5 < 30 then s5 + 1 else s5) else S.1 a i) ∧ S1.2 = S.2 := by
  by_cases h6 : s6 < 999
  · have h6' : ¬ 999 ≤ s6 := by omega
    by_cases h2 : p2 = p1
    · refine ⟨wI S (o + 6) g (nI (s6 + 1)), ?_, ?_, rfl⟩
      · unfold f3_sit
        simp (disch := omega) only [nI_ltI, nI_leI, nI_eq, nI_clamp, nI_1, nI_add, nI_mul, inb_n, irm_n, nI_div, nI_m6, nI_d6, irm_6, qlt_1, qle_1, qgt_1, qge_1, qeq_1, qlt_2, qle_2, qgt_2, qge_2, qeq_2, qlt_3, qle_3, qgt_3, qge_3, qeq_3, qlt_4, qle_4, qgt_4, qge_4, qeq_4, qlt_5, qle_5, qgt_5, qge_5, qeq_5, qlt_6, qle_6, qgt_6, qge_6, qeq_6, qlt_7, qle_7, qgt_7, qge_7, qeq_7, qlt_8, qle_8, qgt_8, qge_8, qeq_8, qlt_9, qle_9, qgt_9, qge_9, qeq_9, qlt_10, qle_10, qgt_10, qge_10, qeq_10, qlt_12, qle_12, qgt_12, qge_12, qeq_12, qlt_16, qle_16, qgt_16, qge_16, qeq_16, qlt_20, qle_20, qgt_20, qge_20, qeq_20, qlt_24, qle_24, qgt_24, qge_24, qeq_24, qlt_30, qle_30, qgt_30, qge_30, qeq_30, qlt_32, qle_32, qgt_32, qge_32, qeq_32, qlt_37, qle_37, qgt_37, qge_37, qeq_37, qlt_40, qle_40, qgt_40, qge_40, qeq_40, qlt_42, qle_42, qgt_42, qge_42, qeq_42, qlt_43, qle_43, qgt_43, qge_43, qeq_43, qlt_45, qle_45, qgt_45, qge_45, qeq_45, qlt_47, qle_47, qgt_47, qge_47, qeq_47, qlt_48, qle_48, qgt_48, qge_48, qeq_48, qlt_57, qle_57, qgt_57, qge_57, qeq_57, qlt_59, qle_59, qgt_59, qge_59, qeq_59, qlt_60, qle_60, qgt_60, qge_60, qeq_60, qlt_61, qle_61, qgt_61, qge_61, qeq_61, qlt_62, qle_62, qgt_62, qge_62, qeq_62, qlt_64, qle_64, qgt_64, qge_64, qeq_64, qlt_91, qle_91, qgt_91, qge_91, qeq_91, qlt_93, qle_93, qgt_93, qge_93, qeq_93, qlt_97, qle_97, qgt_97, qge_97, qeq_97, qlt_122, qle_122, qgt_122, qge_122, qeq_122, qlt_400, qle_400, qgt_400, qge_400, qeq_400, qlt_999, qle_999, qgt_999, qge_999, qeq_999, qlt_0, qle_0, qgt_0, qge_0, qeq_0, qltm, qeqm, ↓reduceIte, Option.bind_some, not_true_eq_false, not_false_eq_true, and_true, true_and, and_false, false_and, or_false, false_or, or_true, true_or, Bool.false_eq_true, reduceCtorEq, wI_self, wI_ne, wI_nj, wI_L, hg, hc, e1, e2, e6, h6', h2]
      · intro a i
        rw [wI_g]
        grind
    · by_cases h5 : s5 < 30
      · have h5' : ¬ 30 ≤ s5 := by omega
        refine ⟨wI (wI (wI S (o + 6) g (nI (s6 + 1))) (o + 2) g (nI p1)) (o + 5) g (nI (s5 + 1)), ?_, ?_, rfl⟩
        · unfold f3_sit
          simp (disch := omega) only [nI_ltI, nI_leI, nI_eq, nI_clamp, nI_1, nI_add, nI_mul, inb_n, irm_n, nI_div, nI_m6, nI_d6, irm_6, qlt_1, qle_1, qgt_1, qge_1, qeq_1, qlt_2, qle_2, qgt_2, qge_2, qeq_2, qlt_3, qle_3, qgt_3, qge_3, qeq_3, qlt_4, qle_4, qgt_4, qge_4, qeq_4, qlt_5, qle_5, qgt_5, qge_5, qeq_5, qlt_6, qle_6, qgt_6, qge_6, qeq_6, qlt_7, qle_7, qgt_7, qge_7, qeq_7, qlt_8, qle_8, qgt_8, qge_8, qeq_8, qlt_9, qle_9, qgt_9, qge_9, qeq_9, qlt_10, qle_10, qgt_10, qge_10, qeq_10, qlt_12, qle_12, qgt_12, qge_12, qeq_12, qlt_16, qle_16, qgt_16, qge_16, qeq_16, qlt_20, qle_20, qgt_20, qge_20, qeq_20, qlt_24, qle_24, qgt_24, qge_24, qeq_24, qlt_30, qle_30, qgt_30, qge_30, qeq_30, qlt_32, qle_32, qgt_32, qge_32, qeq_32, qlt_37, qle_37, qgt_37, qge_37, qeq_37, qlt_40, qle_40, qgt_40, qge_40, qeq_40, qlt_42, qle_42, qgt_42, qge_42, qeq_42, qlt_43, qle_43, qgt_43, qge_43, qeq_43, qlt_45, qle_45, qgt_45, qge_45, qeq_45, qlt_47, qle_47, qgt_47, qge_47, qeq_47, qlt_48, qle_48, qgt_48, qge_48, qeq_48, qlt_57, qle_57, qgt_57, qge_57, qeq_57, qlt_59, qle_59, qgt_59, qge_59, qeq_59, qlt_60, qle_60, qgt_60, qge_60, qeq_60, qlt_61, qle_61, qgt_61, qge_61, qeq_61, qlt_62, qle_62, qgt_62, qge_62, qeq_62, qlt_64, qle_64, qgt_64, qge_64, qeq_64, qlt_91, qle_91, qgt_91, qge_91, qeq_91, qlt_93, qle_93, qgt_93, qge_93, qeq_93, qlt_97, qle_97, qgt_97, qge_97, qeq_97, qlt_122, qle_122, qgt_122, qge_122, qeq_122, qlt_400, qle_400, qgt_400, qge_400, qeq_400, qlt_999, qle_999, qgt_999, qge_999, qeq_999, qlt_0, qle_0, qgt_0, qge_0, qeq_0, qltm, qeqm, ↓reduceIte, Option.bind_some, not_true_eq_false, not_false_eq_true, and_true, true_and, and_false, false_and, or_false, false_or, or_true, true_or, Bool.false_eq_true, reduceCtorEq, wI_self, wI_ne, wI_nj, wI_L, hg, hc, e1, e2, e5, e6, h6', h2, h5']
        · intro a i
          rw [wI_g, wI_g, wI_g]
          grind
      · have h5' : 30 ≤ s5 := by omega
        refine ⟨wI (wI S (o + 6) g (nI (s6 + 1))) (o + 2) g (nI p1), ?_, ?_, rfl⟩
        · unfold f3_sit
          simp (disch := omega) only [nI_ltI, nI_leI, nI_eq, nI_clamp, nI_1, nI_add, nI_mul, inb_n, irm_n, nI_div, nI_m6, nI_d6, irm_6, qlt_1, qle_1, qgt_1, qge_1, qeq_1, qlt_2, qle_2, qgt_2, qge_2, qeq_2, qlt_3, qle_3, qgt_3, qge_3, qeq_3, qlt_4, qle_4, qgt_4, qge_4, qeq_4, qlt_5, qle_5, qgt_5, qge_5, qeq_5, qlt_6, qle_6, qgt_6, qge_6, qeq_6, qlt_7, qle_7, qgt_7, qge_7, qeq_7, qlt_8, qle_8, qgt_8, qge_8, qeq_8, qlt_9, qle_9, qgt_9, qge_9, qeq_9, qlt_10, qle_10, qgt_10, qge_10, qeq_10, qlt_12, qle_12, qgt_12, qge_12, qeq_12, qlt_16, qle_16, qgt_16, qge_16, qeq_16, qlt_20, qle_20, qgt_20, qge_20, qeq_20, qlt_24, qle_24, qgt_24, qge_24, qeq_24, qlt_30, qle_30, qgt_30, qge_30, qeq_30, qlt_32, qle_32, qgt_32, qge_32, qeq_32, qlt_37, qle_37, qgt_37, qge_37, qeq_37, qlt_40, qle_40, qgt_40, qge_40, qeq_40, qlt_42, qle_42, qgt_42, qge_42, qeq_42, qlt_43, qle_43, qgt_43, qge_43, qeq_43, qlt_45, qle_45, qgt_45, qge_45, qeq_45, qlt_47, qle_47, qgt_47, qge_47, qeq_47, qlt_48, qle_48, qgt_48, qge_48, qeq_48, qlt_57, qle_57, qgt_57, qge_57, qeq_57, qlt_59, qle_59, qgt_59, qge_59, qeq_59, qlt_60, qle_60, qgt_60, qge_60, qeq_60, qlt_61, qle_61, qgt_61, qge_61, qeq_61, qlt_62, qle_62, qgt_62, qge_62, qeq_62, qlt_64, qle_64, qgt_64, qge_64, qeq_64, qlt_91, qle_91, qgt_91, qge_91, qeq_91, qlt_93, qle_93, qgt_93, qge_93, qeq_93, qlt_97, qle_97, qgt_97, qge_97, qeq_97, qlt_122, qle_122, qgt_122, qge_122, qeq_122, qlt_400, qle_400, qgt_400, qge_400, qeq_400, qlt_999, qle_999, qgt_999, qge_999, qeq_999, qlt_0, qle_0, qgt_0, qge_0, qeq_0, qltm, qeqm, ↓reduceIte, Option.bind_some, not_true_eq_false, not_false_eq_true, and_true, true_and, and_false, false_and, or_false, false_or, or_true, true_or, Bool.false_eq_true, reduceCtorEq, wI_self, wI_ne, wI_nj, wI_L, hg, hc, e1, e2, e5, e6, h6', h2, h5']
        · intro a i
          rw [wI_g, wI_g]
          grind
  · have h6' : 999 ≤ s6 := by omega
    by_cases h2 : p2 = p1
    · refine ⟨S, ?_, ?_, rfl⟩
      · unfold f3_sit
        simp (disch := omega) only [nI_ltI, nI_leI, nI_eq, nI_clamp, nI_1, nI_add, nI_mul, inb_n, irm_n, nI_div, nI_m6, nI_d6, irm_6, qlt_1, qle_1, qgt_1, qge_1, qeq_1, qlt_2, qle_2, qgt_2, qge_2, qeq_2, qlt_3, qle_3, qgt_3, qge_3, qeq_3, qlt_4, qle_4, qgt_4, qge_4, qeq_4, qlt_5, qle_5, qgt_5, qge_5, qeq_5, qlt_6, qle_6, qgt_6, qge_6, qeq_6, qlt_7, qle_7, qgt_7, qge_7, qeq_7, qlt_8, qle_8, qgt_8, qge_8, qeq_8, qlt_9, qle_9, qgt_9, qge_9, qeq_9, qlt_10, qle_10, qgt_10, qge_10, qeq_10, qlt_12, qle_12, qgt_12, qge_12, qeq_12, qlt_16, qle_16, qgt_16, qge_16, qeq_16, qlt_20, qle_20, qgt_20, qge_20, qeq_20, qlt_24, qle_24, qgt_24, qge_24, qeq_24, qlt_30, qle_30, qgt_30, qge_30, qeq_30, qlt_32, qle_32, qgt_32, qge_32, qeq_32, qlt_37, qle_37, qgt_37, qge_37, qeq_37, qlt_40, qle_40, qgt_40, qge_40, qeq_40, qlt_42, qle_42, qgt_42, qge_42, qeq_42, qlt_43, qle_43, qgt_43, qge_43, qeq_43, qlt_45, qle_45, qgt_45, qge_45, qeq_45, qlt_47, qle_47, qgt_47, qge_47, qeq_47, qlt_48, qle_48, qgt_48, qge_48, qeq_48, qlt_57, qle_57, qgt_57, qge_57, qeq_57, qlt_59, qle_59, qgt_59, qge_59, qeq_59, qlt_60, qle_60, qgt_60, qge_60, qeq_60, qlt_61, qle_61, qgt_61, qge_61, qeq_61, qlt_62, qle_62, qgt_62, qge_62, qeq_62, qlt_64, qle_64, qgt_64, qge_64, qeq_64, qlt_91, qle_91, qgt_91, qge_91, qeq_91, qlt_93, qle_93, qgt_93, qge_93, qeq_93, qlt_97, qle_97, qgt_97, qge_97, qeq_97, qlt_122, qle_122, qgt_122, qge_122, qeq_122, qlt_400, qle_400, qgt_400, qge_400, qeq_400, qlt_999, qle_999, qgt_999, qge_999, qeq_999, qlt_0, qle_0, qgt_0, qge_0, qeq_0, qltm, qeqm, ↓reduceIte, Option.bind_some, not_true_eq_false, not_false_eq_true, and_true, true_and, and_false, false_and, or_false, false_or, or_true, true_or, Bool.false_eq_true, reduceCtorEq, wI_self, wI_ne, wI_nj, wI_L, hg, hc, e1, e2, e6, h6', h2]
      · intro a i
        grind
    · by_cases h5 : s5 < 30
      · have h5' : ¬ 30 ≤ s5 := by omega
        refine ⟨wI (wI S (o + 2) g (nI p1)) (o + 5) g (nI (s5 + 1)), ?_, ?_, rfl⟩
        · unfold f3_sit
          simp (disch := omega) only [nI_ltI, nI_leI, nI_eq, nI_clamp, nI_1, nI_add, nI_mul, inb_n, irm_n, nI_div, nI_m6, nI_d6, irm_6, qlt_1, qle_1, qgt_1, qge_1, qeq_1, qlt_2, qle_2, qgt_2, qge_2, qeq_2, qlt_3, qle_3, qgt_3, qge_3, qeq_3, qlt_4, qle_4, qgt_4, qge_4, qeq_4, qlt_5, qle_5, qgt_5, qge_5, qeq_5, qlt_6, qle_6, qgt_6, qge_6, qeq_6, qlt_7, qle_7, qgt_7, qge_7, qeq_7, qlt_8, qle_8, qgt_8, qge_8, qeq_8, qlt_9, qle_9, qgt_9, qge_9, qeq_9, qlt_10, qle_10, qgt_10, qge_10, qeq_10, qlt_12, qle_12, qgt_12, qge_12, qeq_12, qlt_16, qle_16, qgt_16, qge_16, qeq_16, qlt_20, qle_20, qgt_20, qge_20, qeq_20, qlt_24, qle_24, qgt_24, qge_24, qeq_24, qlt_30, qle_30, qgt_30, qge_30, qeq_30, qlt_32, qle_32, qgt_32, qge_32, qeq_32, qlt_37, qle_37, qgt_37, qge_37, qeq_37, qlt_40, qle_40, qgt_40, qge_40, qeq_40, qlt_42, qle_42, qgt_42, qge_42, qeq_42, qlt_43, qle_43, qgt_43, qge_43, qeq_43, qlt_45, qle_45, qgt_45, qge_45, qeq_45, qlt_47, qle_47, qgt_47, qge_47, qeq_47, qlt_48, qle_48, qgt_48, qge_48, qeq_48, qlt_57, qle_57, qgt_57, qge_57, qeq_57, qlt_59, qle_59, qgt_59, qge_59, qeq_59, qlt_60, qle_60, qgt_60, qge_60, qeq_60, qlt_61, qle_61, qgt_61, qge_61, qeq_61, qlt_62, qle_62, qgt_62, qge_62, qeq_62, qlt_64, qle_64, qgt_64, qge_64, qeq_64, qlt_91, qle_91, qgt_91, qge_91, qeq_91, qlt_93, qle_93, qgt_93, qge_93, qeq_93, qlt_97, qle_97, qgt_97, qge_97, qeq_97, qlt_122, qle_122, qgt_122, qge_122, qeq_122, qlt_400, qle_400, qgt_400, qge_400, qeq_400, qlt_999, qle_999, qgt_999, qge_999, qeq_999, qlt_0, qle_0, qgt_0, qge_0, qeq_0, qltm, qeqm, ↓reduceIte, Option.bind_some, not_true_eq_false, not_false_eq_true, and_true, true_and, and_false, false_and, or_false, false_or, or_true, true_or, Bool.false_eq_true, reduceCtorEq, wI_self, wI_ne, wI_nj, wI_L, hg, hc, e1, e2, e5, e6, h6', h2, h5']
        · intro a i
          rw [wI_g, wI_g]
          grind
      · have h5' : 30 ≤ s5 := by omega
        refine ⟨wI S (o + 2) g (nI p1), ?_, ?_, rfl⟩
        · unfold f3_sit
          simp (disch := omega) only [nI_ltI, nI_leI, nI_eq, nI_clamp, nI_1, nI_add, nI_mul, inb_n, irm_n, nI_div, nI_m6, nI_d6, irm_6, qlt_1, qle_1, qgt_1, qge_1, qeq_1, qlt_2, qle_2, qgt_2, qge_2, qeq_2, qlt_3, qle_3, qgt_3, qge_3, qeq_3, qlt_4, qle_4, qgt_4, qge_4, qeq_4, qlt_5, qle_5, qgt_5, qge_5, qeq_5, qlt_6, qle_6, qgt_6, qge_6, qeq_6, qlt_7, qle_7, qgt_7, qge_7, qeq_7, qlt_8, qle_8, qgt_8, qge_8, qeq_8, qlt_9, qle_9, qgt_9, qge_9, qeq_9, qlt_10, qle_10, qgt_10, qge_10, qeq_10, qlt_12, qle_12, qgt_12, qge_12, qeq_12, qlt_16, qle_16, qgt_16, qge_16, qeq_16, qlt_20, qle_20, qgt_20, qge_20, qeq_20, qlt_24, qle_24, qgt_24, qge_24, qeq_24, qlt_30, qle_30, qgt_30, qge_30, qeq_30, qlt_32, qle_32, qgt_32, qge_32, qeq_32, qlt_37, qle_37, qgt_37, qge_37, qeq_37, qlt_40, qle_40, qgt_40, qge_40, qeq_40, qlt_42, qle_42, qgt_42, qge_42, qeq_42, qlt_43, qle_43, qgt_43, qge_43, qeq_43, qlt_45, qle_45, qgt_45, qge_45, qeq_45, qlt_47, qle_47, qgt_47, qge_47, qeq_47, qlt_48, qle_48, qgt_48, qge_48, qeq_48, qlt_57, qle_57, qgt_57, qge_57, qeq_57, qlt_59, qle_59, qgt_59, qge_59, qeq_59, qlt_60, qle_60, qgt_60, qge_60, qeq_60, qlt_61, qle_61, qgt_61, qge_61, qeq_61, qlt_62, qle_62, qgt_62, qge_62, qeq_62, qlt_64, qle_64, qgt_64, qge_64, qeq_64, qlt_91, qle_91, qgt_91, qge_91, qeq_91, qlt_93, qle_93, qgt_93, qge_93, qeq_93, qlt_97, qle_97, qgt_97, qge_97, qeq_97, qlt_122, qle_122, qgt_122, qge_122, qeq_122, qlt_400, qle_400, qgt_400, qge_400, qeq_400, qlt_999, qle_999, qgt_999, qge_999, qeq_999, qlt_0, qle_0, qgt_0, qge_0, qeq_0, qltm, qeqm, ↓reduceIte, Option.bind_some, not_true_eq_false, not_false_eq_true, and_true, true_and, and_false, false_and, or_false, false_or, or_true, true_or, Bool.false_eq_true, reduceCtorEq, wI_self, wI_ne, wI_nj, wI_L, hg, hc, e1, e2, e5, e6, h6', h2, h5']
        · intro a i
          rw [wI_g]
          grind
