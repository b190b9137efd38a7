theorem b_or0 : ∀ y, y < 64 → ∀ c, c < 6 → nI y ||| ((1 : Int32) <<< (nI c &&& 31)) = nI (y ||| 2 ^ c) ∧ y ||| 2 ^ c < 64 := by decide +kernel
theorem dif_or {x y c : Nat} (hx : x < 64) (hc : c < 6) : dif x (y ||| 2 ^ c) = clr (dif x y) c := by
  have h1 := dif_le x y
  have h2 := dif_le x (y ||| 2 ^ c)
  have h3 := clr_le (dif x y) c
  apply bits_ext (by omega) (by omega)
  intro j hj
  rw [clr_b (by omega) (by omega) hj, dif_b hj, dif_b hj, Nat.testBit_or, Nat.testBit_two_pow]
  by_cases e : j = c
  · subst e; simp
  · have e1 : (j == c) = false := by simpa using e
    have e2 : decide (c = j) = false := by simpa using (fun z : c = j => e z.symm)
    rw [e1, e2]; simp
/-- rows and scalars that a round of the reference leaves alone -/
def rFr (S S1 : jS) : Prop := ∀ a i, a ≠ 39 → ¬ (a = 0 ∧ i = 41) → S1.1 a i = S.1 a i
theorem HV_mono {V V1 : mH} {N : mN} (h : HIs (hV V) N) (hs : ∀ a i, 1 ≤ a → a ≤ 7 → V1 a i = V a i) : HIs (hV V1) N := by
  refine HIs_V ?_ ?_ ?_ ?_ ?_ ?_ ?_ ?_ (fun c hc => ?_) (fun a g h1 h2 hg => ?_)
  · rw [hs _ _ (by omega) (by omega)]; exact HV0 h
  · rw [hs _ _ (by omega) (by omega)]; exact HV1 h
  · rw [hs _ _ (by omega) (by omega)]; exact HV2 h
  · rw [hs _ _ (by omega) (by omega)]; exact HV3 h
  · rw [hs _ _ (by omega) (by omega)]; exact HV4 h
  · rw [hs _ _ (by omega) (by omega)]; exact HV5 h
  · rw [hs _ _ (by omega) (by omega)]; exact HV6 h
  · rw [hs _ _ (by omega) (by omega)]; exact HV7 h
  · rw [hs _ _ (by omega) (by omega)]; exact HVc h hc
  · rw [hs _ _ (by omega) (by omega)]; exact HVg h h1 h2 hg
theorem r_sits1 {S : jS} : ∃ S1, f11_sits_L1 jF S 0 = some S1 ∧ (∀ a i, S1.1 a i = if a = 39 ∧ i < 7 then -1 else S.1 a i) ∧ S1.2 = S.2 := by
  exact lp_up (G := 7) (Post := fun r : jS => (∀ a i, r.1 a i = if a = 39 ∧ i < 7 then -1 else S.1 a i) ∧ r.2 = S.2) (fun n k S' => f11_sits_L1 n S' (nI k)) (fun k r => (∀ a i, r.1 a i = if a = 39 ∧ i < k then -1 else S.1 a i) ∧ r.2 = S.2) (by
    intro n k S' hk ⟨hI, hL⟩
    left
    have n1 : ¬ 7 ≤ k := by omega
    refine ⟨wI S' 39 k (-1), ?_, fun a i => ?_, hL⟩
    · simp (disch := omega) only [f11_sits_L1, nI_ltI, nI_leI, nI_eq, nI_clamp, nI_1, nI_add, nI_mul, inb_n, irm_n, nI_div, nI_m6, nI_d6, irm_6, qlt_1, qle_1, qgt_1, qge_1, qeq_1, qlt_2, qle_2, qgt_2, qge_2, qeq_2, qlt_3, qle_3, qgt_3, qge_3, qeq_3, qlt_4, qle_4, qgt_4, qge_4, qeq_4, qlt_5, qle_5, qgt_5, qge_5, qeq_5, qlt_6, qle_6, qgt_6, qge_6, qeq_6, qlt_7, qle_7, qgt_7, qge_7, qeq_7, qlt_8, qle_8, qgt_8, qge_8, qeq_8, qlt_9, qle_9, qgt_9, qge_9, qeq_9, qlt_10, qle_10, qgt_10, qge_10, qeq_10, qlt_12, qle_12, qgt_12, qge_12, qeq_12, qlt_16, qle_16, qgt_16, qge_16, qeq_16, qlt_20, qle_20, qgt_20, qge_20, qeq_20, qlt_24, qle_24, qgt_24, qge_24, qeq_24, qlt_30, qle_30, qgt_30, qge_30, qeq_30, qlt_32, qle_32, qgt_32, qge_32, qeq_32, qlt_37, qle_37, qgt_37, qge_37, qeq_37, qlt_40, qle_40, qgt_40, qge_40, qeq_40, qlt_42, qle_42, qgt_42, qge_42, qeq_42, qlt_43, qle_43, qgt_43, qge_43, qeq_43, qlt_45, qle_45, qgt_45, qge_45, qeq_45, qlt_47, qle_47, qgt_47, qge_47, qeq_47, qlt_48, qle_48, qgt_48, qge_48, qeq_48, qlt_57, qle_57, qgt_57, qge_57, qeq_57, qlt_59, qle_59, qgt_59, qge_59, qeq_59, qlt_60, qle_60, qgt_60, qge_60, qeq_60, qlt_61, qle_61, qgt_61, qge_61, qeq_61, qlt_62, qle_62, qgt_62, qge_62, qeq_62, qlt_64, qle_64, qgt_64, qge_64, qeq_64, qlt_91, qle_91, qgt_91, qge_91, qeq_91, qlt_93, qle_93, qgt_93, qge_93, qeq_93, qlt_97, qle_97, qgt_97, qge_97, qeq_97, qlt_122, qle_122, qgt_122, qge_122, qeq_122, qlt_400, qle_400, qgt_400, qge_400, qeq_400, qlt_999, qle_999, qgt_999, qge_999, qeq_999, qlt_0, qle_0, qgt_0, qge_0, qeq_0, qltm, qeqm, ↓reduceIte, Option.bind_some, not_true_eq_false, not_false_eq_true, and_true, true_and, and_false, false_and, or_false, false_or, or_true, true_or, Bool.false_eq_true, reduceCtorEq, n1, hk]
    · rw [wI_g, hI]; grind) (by
    intro n S' hI
    refine ⟨S', ?_, hI⟩
    have n1 : 7 ≤ 7 := by omega
    simp (disch := omega) only [f11_sits_L1, nI_ltI, nI_leI, nI_eq, nI_clamp, nI_1, nI_add, nI_mul, inb_n, irm_n, nI_div, nI_m6, nI_d6, irm_6, qlt_1, qle_1, qgt_1, qge_1, qeq_1, qlt_2, qle_2, qgt_2, qge_2, qeq_2, qlt_3, qle_3, qgt_3, qge_3, qeq_3, qlt_4, qle_4, qgt_4, qge_4, qeq_4, qlt_5, qle_5, qgt_5, qge_5, qeq_5, qlt_6, qle_6, qgt_6, qge_6, qeq_6, qlt_7, qle_7, qgt_7, qge_7, qeq_7, qlt_8, qle_8, qgt_8, qge_8, qeq_8, qlt_9, qle_9, qgt_9, qge_9, qeq_9, qlt_10, qle_10, qgt_10, qge_10, qeq_10, qlt_12, qle_12, qgt_12, qge_12, qeq_12, qlt_16, qle_16, qgt_16, qge_16, qeq_16, qlt_20, qle_20, qgt_20, qge_20, qeq_20, qlt_24, qle_24, qgt_24, qge_24, qeq_24, qlt_30, qle_30, qgt_30, qge_30, qeq_30, qlt_32, qle_32, qgt_32, qge_32, qeq_32, qlt_37, qle_37, qgt_37, qge_37, qeq_37, qlt_40, qle_40, qgt_40, qge_40, qeq_40, qlt_42, qle_42, qgt_42, qge_42, qeq_42, qlt_43, qle_43, qgt_43, qge_43, qeq_43, qlt_45, qle_45, qgt_45, qge_45, qeq_45, qlt_47, qle_47, qgt_47, qge_47, qeq_47, qlt_48, qle_48, qgt_48, qge_48, qeq_48, qlt_57, qle_57, qgt_57, qge_57, qeq_57, qlt_59, qle_59, qgt_59, qge_59, qeq_59, qlt_60, qle_60, qgt_60, qge_60, qeq_60, qlt_61, qle_61, qgt_61, qge_61, qeq_61, qlt_62, qle_62, qgt_62, qge_62, qeq_62, qlt_64, qle_64, qgt_64, qge_64, qeq_64, qlt_91, qle_91, qgt_91, qge_91, qeq_91, qlt_93, qle_93, qgt_93, qge_93, qeq_93, qlt_97, qle_97, qgt_97, qge_97, qeq_97, qlt_122, qle_122, qgt_122, qge_122, qeq_122, qlt_400, qle_400, qgt_400, qge_400, qeq_400, qlt_999, qle_999, qgt_999, qge_999, qeq_999, qlt_0, qle_0, qgt_0, qge_0, qeq_0, qltm, qeqm, ↓reduceIte, Option.bind_some, not_true_eq_false, not_false_eq_true, and_true, true_and, and_false, false_and, or_false, false_or, or_true, true_or, Bool.false_eq_true, reduceCtorEq, n1]) jF 0 S (Nat.zero_le _) (by show _ < 5000; omega) ⟨fun a i => by rw [if_neg (by omega)], rfl⟩
theorem r_sits {S : jS} {N : mN} (hN : NOk N) (h : HIs (hV S.1) N) : ∃ S1 y, f11_sits S = some (S1, ()) ∧ rFr S S1 ∧ S1.2 = S.2 ∧ rSe N (seN N) S1 y ∧ ((seN N).2.2.2 ≠ 0 → S1.1 0 41 = nI ((seN N).2.2.2 - 1)) := by
  have hth := hN.t
  have hG := hN.2.2.1
  have hCC := hN.2.1
  obtain ⟨S1, p1, p2, p3⟩ := r_sits1 (S := S)
  obtain ⟨r, hr, y, q1, q2, q3, q4⟩ := lp_m (Post := fun r : jS => ∃ y, rFr S r ∧ r.2 = S.2 ∧ rSe N (seN N) r y ∧ ((seN N).2.2.2 ≠ 0 → r.1 0 41 = nI ((seN N).2.2.2 - 1))) (fun n (A : Nat × jS × Int32) => f11_sits_L2 n A.2.1 A.2.2) (fun A => A.1) (fun A => ∃ q y, QOk N q ∧ sitN (tpN N) A.1 q = seN N ∧ pcn q.2.1 ≤ A.1 ∧ rFr S A.2.1 ∧ A.2.1.2 = S.2 ∧ A.2.2 = nI y ∧ rSe N q A.2.1 y ∧ (q.2.2.2 ≠ 0 → A.2.1.1 0 41 = nI (q.2.2.2 - 1))) (by
    rintro n ⟨m, S', l1⟩ ⟨q, y, hQ, hs, hpc, hI, hL, rfl, hS, hla⟩
    have hh : HIs (hV S'.1) N := HV_mono h (fun a i a1 a2 => hI a i (by omega) (by omega))
    have hone := r_one1 hN hh hQ hS
    have hq1 := hQ.s hN
    have hq2 := hQ.f hN
    cases e : scn (tpN N) q.1 q.2.1 42 with
    | none =>
      right
      have hsq : sqN (tpN N) q = none := by unfold sqN; rw [e]; rfl
      have hqq : q = seN N := by
        rw [← hs]
        show q = sitN (tpN N) m q
        cases m with
        | zero => rfl
        | succ m => unfold sitN; rw [hsq]
      subst hqq
      rw [e] at hone
      have hone' : f11_sitsOne_L1 S' (nI y) jF (-1) (-1) 0 = some (-1, -1) := hone
      refine ⟨S', ?_, y, hI, hL, hS, hla⟩
      simp (disch := omega) only [f11_sits_L2, f11_sitsOne, hone', ↓reduceIte, Option.bind_some, not_true_eq_false, not_false_eq_true, and_true, true_and, and_false, false_and, or_false, false_or, or_true, true_or, Bool.false_eq_true, reduceCtorEq]
    | some p =>
      left
      rw [e] at hone
      obtain ⟨p1, p2, p3, p4, p5⟩ := hQ.pair hN e
      have hone' : f11_sitsOne_L1 S' (nI y) jF (-1) (-1) 0 = some (nI (p / 6), nI (p % 6)) := hone
      have hsq : sqN (tpN N) q = some (clr q.1 (p / 6), clr q.2.1 (p % 6), (fun g => if g = p / 6 then p % 6 else q.2.2.1 g), p % 6 + 1) := by unfold sqN; rw [e]; rfl
      have hst := hQ.step hN hsq
      have hpc2 := sq_pcn hN hQ hsq
      have hm : ∃ m', m = m' + 1 := ⟨m - 1, by have : pcn q.2.1 ≤ m := hpc; omega⟩
      obtain ⟨m', rfl⟩ := hm
      have n2 : p / 6 < 7 := by omega
      have n3 : p % 6 < 6 := by omega
      obtain ⟨o1, o2⟩ := b_or0 y hS.2.1 (p % 6) n3
      refine ⟨(m', wI (wI S' 39 (p / 6) (nI (p % 6))) 0 41 (nI (p % 6)), nI (y ||| 2 ^ (p % 6))), ?_, ⟨_, y ||| 2 ^ (p % 6), hst, ?_, ?_, ?_, hL, rfl, ⟨?_, o2, ?_⟩, ?_⟩, ?_⟩
      · simp (disch := omega) only [f11_sits_L2, f11_sitsOne, hone', nI_ltI, nI_leI, nI_eq, nI_clamp, nI_1, nI_add, nI_mul, inb_n, irm_n, nI_div, nI_m6, nI_d6, irm_6, qlt_1, qle_1, qgt_1, qge_1, qeq_1, qlt_2, qle_2, qgt_2, qge_2, qeq_2, qlt_3, qle_3, qgt_3, qge_3, qeq_3, qlt_4, qle_4, qgt_4, qge_4, qeq_4, qlt_5, qle_5, qgt_5, qge_5, qeq_5, qlt_6, qle_6, qgt_6, qge_6, qeq_6, qlt_7, qle_7, qgt_7, qge_7, qeq_7, qlt_8, qle_8, qgt_8, qge_8, qeq_8, qlt_9, qle_9, qgt_9, qge_9, qeq_9, qlt_10, qle_10, qgt_10, qge_10, qeq_10, qlt_12, qle_12, qgt_12, qge_12, qeq_12, qlt_16, qle_16, qgt_16, qge_16, qeq_16, qlt_20, qle_20, qgt_20, qge_20, qeq_20, qlt_24, qle_24, qgt_24, qge_24, qeq_24, qlt_30, qle_30, qgt_30, qge_30, qeq_30, qlt_32, qle_32, qgt_32, qge_32, qeq_32, qlt_37, qle_37, qgt_37, qge_37, qeq_37, qlt_40, qle_40, qgt_40, qge_40, qeq_40, qlt_42, qle_42, qgt_42, qge_42, qeq_42, qlt_43, qle_43, qgt_43, qge_43, qeq_43, qlt_45, qle_45, qgt_45, qge_45, qeq_45, qlt_47, qle_47, qgt_47, qge_47, qeq_47, qlt_48, qle_48, qgt_48, qge_48, qeq_48, qlt_57, qle_57, qgt_57, qge_57, qeq_57, qlt_59, qle_59, qgt_59, qge_59, qeq_59, qlt_60, qle_60, qgt_60, qge_60, qeq_60, qlt_61, qle_61, qgt_61, qge_61, qeq_61, qlt_62, qle_62, qgt_62, qge_62, qeq_62, qlt_64, qle_64, qgt_64, qge_64, qeq_64, qlt_91, qle_91, qgt_91, qge_91, qeq_91, qlt_93, qle_93, qgt_93, qge_93, qeq_93, qlt_97, qle_97, qgt_97, qge_97, qeq_97, qlt_122, qle_122, qgt_122, qge_122, qeq_122, qlt_400, qle_400, qgt_400, qge_400, qeq_400, qlt_999, qle_999, qgt_999, qge_999, qeq_999, qlt_0, qle_0, qgt_0, qge_0, qeq_0, qltm, qeqm, ↓reduceIte, Option.bind_some, not_true_eq_false, not_false_eq_true, and_true, true_and, and_false, false_and, or_false, false_or, or_true, true_or, Bool.false_eq_true, reduceCtorEq, wI_self, wI_ne, wI_nj, wI_L, n2, one_ne0, o1]
      · rw [← hs]
        show _ = sitN (tpN N) (m' + 1) q
        rw [sitN, hsq]
      · have : pcn q.2.1 ≤ m' + 1 := hpc
        show pcn (clr q.2.1 (p % 6)) ≤ m'
        have hpc2' : pcn (clr q.2.1 (p % 6)) + 1 = pcn q.2.1 := hpc2
        omega
      · intro a i a1 a2
        show (wI (wI S' 39 (p / 6) (nI (p % 6))) 0 41 (nI (p % 6))).1 a i = _
        rw [wI_g, wI_g, if_neg a2, if_neg (fun z => a1 z.1)]
        exact hI a i a1 a2
      · intro g hg
        show (wI (wI S' 39 (p / 6) (nI (p % 6))) 0 41 (nI (p % 6))).1 39 g = if (N 0 4).testBit g = true ∧ (clr q.1 (p / 6)).testBit g = false then nI (if g = p / 6 then p % 6 else q.2.2.1 g) else -1
        rw [wI_ne (by omega), clr_b hq1 n2 hg]
        by_cases eg : g = p / 6
        · subst eg
          rw [wI_self, if_pos ⟨p3, by simp⟩, if_pos rfl]
        · rw [wI_nj eg, if_neg eg]
          have : (g == p / 6) = false := by simpa using eg
          rw [this, Bool.not_false, Bool.and_true]
          exact hS.1 g hg
      · show clr q.2.1 (p % 6) = _
        rw [dif_or hth n3, hS.2.2]
      · intro _
        show (wI (wI S' 39 (p / 6) (nI (p % 6))) 0 41 (nI (p % 6))).1 0 41 = nI (p % 6 + 1 - 1)
        rw [wI_self]; rfl
      · show m' < m' + 1
        omega) jF (6, S1, 0) (by show 6 < 5000; omega) ⟨(N 0 4, N 0 3, fun _ => 0, 0), 0, QOk.init, rfl, pcn_6 _ hth, fun a i a1 a2 => (p2 a i).trans (if_neg (fun z => a1 z.1)), p3, rfl, ⟨fun g hg => by
      rw [p2, if_pos ⟨rfl, hg⟩, if_neg]
      intro z; exact absurd (z.1.symm.trans z.2) (by decide), by omega, by
      apply bits_ext
      · show N 0 3 < 128; omega
      · have := dif_le (N 0 3) 0; omega
      · intro j hj
        rw [dif_b hj]; simp⟩, fun z => absurd rfl z⟩
  refine ⟨r, y, ?_, q1, q2, q3, q4⟩
  unfold f11_sits
  have hr' : f11_sits_L2 jF S1 0 = some r := hr
  rw [p1, Option.bind_some, hr']; rfl
theorem r_leaves {S : jS} {N : mN} {b y : Nat} (hN : NOk N) (h : HIs (hV S.1) N) (hS : rSe N (seN N) S y) : ∃ S1, f11_leaves S = some (S1, ()) ∧ S1.1 1 6 = nI (stl N b 0 4) ∧ S1.1 1 5 = nI (stl N b 0 6) - 1 ∧ (∀ a i, a ≠ 1 ∨ (i ≠ 5 ∧ i ≠ 6) → S1.1 a i = if (a = 2 ∨ a = 5 ∨ a = 6) ∧ i < N 0 2 ∧ (dif (N 0 4) (seN N).1).testBit i = true then nI (stl N b a i) else S.1 a i) ∧ S1.2 = S.2 := by
  have hi := hN.i
  have hG := hN.2.2.1
  have hCC := hN.2.1
  have hQ := seN_ok hN
  have hdd := dif_le (N 0 4) (seN N).1
  have hdt := fun g => @dif_t N (seN N) g hN
  have hdb := fun (g : Nat) (hg : g < 7) => @dif_b (N 0 4) (seN N).1 g hg
  generalize hs : dif (N 0 4) (seN N).1 = s at hdd hdt hdb ⊢
  have hs128 : s < 128 := by omega
  have e2 := HV2 h
  obtain ⟨r, hr, x, hx, r4, rx, r6, hI, hL⟩ := lp_up (G := N 0 2) (Post := fun r : jS => ∃ x, x < 128 ∧ r.1 1 6 = nI x ∧ (∀ j, j < 7 → x.testBit j = if j < N 0 2 then s.testBit j else (N 0 4).testBit j) ∧ r.1 1 5 = nI (loN (N 0 4) s (N 0 2) (N 0 6)) - 1 ∧ (∀ a i, a ≠ 1 ∨ (i ≠ 5 ∧ i ≠ 6) → r.1 a i = if (a = 2 ∨ a = 5 ∨ a = 6) ∧ i < N 0 2 ∧ s.testBit i = true then nI (stl N b a i) else S.1 a i) ∧ r.2 = S.2) (fun n k S' => f11_leaves_L1 n S' (nI k)) (fun k r => ∃ x, x < 128 ∧ r.1 1 6 = nI x ∧ (∀ j, j < 7 → x.testBit j = if j < k then s.testBit j else (N 0 4).testBit j) ∧ r.1 1 5 = nI (loN (N 0 4) s k (N 0 6)) - 1 ∧ (∀ a i, a ≠ 1 ∨ (i ≠ 5 ∧ i ≠ 6) → r.1 a i = if (a = 2 ∨ a = 5 ∨ a = 6) ∧ i < k ∧ s.testBit i = true then nI (stl N b a i) else S.1 a i) ∧ r.2 = S.2) (by
    rintro n k S' hk ⟨x, hx, r4, rx, r6, hI, hL⟩
    left
    have f2 : S'.1 1 2 = nI (N 0 2) := by rw [hI _ _ (by omega), if_neg (by omega)]; exact e2
    have n1 : ¬ N 0 2 ≤ k := by omega
    have n7 : k < 7 := by omega
    have hxk := rx k n7
    rw [if_neg (by omega)] at hxk
    have h39 : S'.1 39 k = S.1 39 k := by rw [hI _ _ (by omega), if_neg (by omega)]
    have hsg := hS.1 k n7
    rw [← h39] at hsg
    have hsb := hdb k n7
    by_cases hb : s.testBit k = true
    · obtain ⟨d1, d2, d3⟩ := hdt k hb
      have hsk := hQ.2.2.1 k d1 d2
      obtain ⟨a1, a2, a3, a4, a5⟩ := hN.2.2.2.2.2.2.2.2.2 k hk
      have a6 := hN.2.2.2.2.2.2.2.2.1 _ hsk
      have a7 := hN.1
      rw [if_pos ⟨d1, d2⟩] at hsg
      rw [d1] at hxk
      have n6 : (seN N).2.2.1 k < 6 := by omega
      have g7 : S'.1 7 ((seN N).2.2.1 k) = nI (N 1 ((seN N).2.2.1 k)) := by rw [hI _ _ (by omega), if_neg (by omega)]; exact HVc h hsk
      have g2 : S'.1 2 k = nI (N 2 k) := by rw [hI _ _ (by omega), if_neg (by omega)]; exact HVg h (by omega) (by omega) hk
      have g5 : S'.1 5 k = nI (N 5 k) := by rw [hI _ _ (by omega), if_neg (by omega)]; exact HVg h (by omega) (by omega) hk
      have g6 : S'.1 6 k = nI (N 6 k) := by rw [hI _ _ (by omega), if_neg (by omega)]; exact HVg h (by omega) (by omega) hk
      have s2 : stl N b 2 k = N 1 ((seN N).2.2.1 k) := by unfold stl; rw [hs, if_neg (by omega), if_pos ⟨rfl, hb⟩]
      have s5 : stl N b 5 k = (if N 2 k ≠ N 1 ((seN N).2.2.1 k) ∧ N 5 k < 30 then N 5 k + 1 else N 5 k) := by unfold stl; rw [hs, if_neg (by omega), if_neg (by omega), if_pos ⟨rfl, hb⟩]
      have s6 : stl N b 6 k = (if N 6 k < 999 then N 6 k + 1 else N 6 k) := by unfold stl; rw [hs, if_neg (by omega), if_neg (by omega), if_neg (by omega), if_pos ⟨rfl, hb⟩]
      refine ⟨wI (wI (wI S' 6 k (nI (stl N b 6 k))) 5 k (nI (stl N b 5 k))) 2 k (nI (stl N b 2 k)), ?_, x, hx, ?_, ?_, ?_, ?_, hL⟩
      · have v6 : nI (N 6 k) + (if 999 ≤ N 6 k then (0 : Int32) else 1) = nI (stl N b 6 k) := by
          rw [s6]
          by_cases z : N 6 k < 999
          · rw [if_pos z, if_neg (by omega), nI_1]
          · rw [if_neg z, if_pos (by omega)]; exact nI_add _ 0
        by_cases z2 : N 2 k = N 1 ((seN N).2.2.1 k)
        · have v5 : nI (N 5 k) + 0 = nI (stl N b 5 k) := by
            rw [s5, if_neg (fun z => z.1 z2)]; exact nI_add _ 0
          simp (disch := omega) only [f11_leaves_L1, f2, r4, r_has, nI_ltI, nI_leI, nI_eq, nI_clamp, nI_1, nI_add, nI_mul, inb_n, irm_n, nI_div, nI_m6, nI_d6, irm_6, qlt_1, qle_1, qgt_1, qge_1, qeq_1, qlt_2, qle_2, qgt_2, qge_2, qeq_2, qlt_3, qle_3, qgt_3, qge_3, qeq_3, qlt_4, qle_4, qgt_4, qge_4, qeq_4, qlt_5, qle_5, qgt_5, qge_5, qeq_5, qlt_6, qle_6, qgt_6, qge_6, qeq_6, qlt_7, qle_7, qgt_7, qge_7, qeq_7, qlt_8, qle_8, qgt_8, qge_8, qeq_8, qlt_9, qle_9, qgt_9, qge_9, qeq_9, qlt_10, qle_10, qgt_10, qge_10, qeq_10, qlt_12, qle_12, qgt_12, qge_12, qeq_12, qlt_16, qle_16, qgt_16, qge_16, qeq_16, qlt_20, qle_20, qgt_20, qge_20, qeq_20, qlt_24, qle_24, qgt_24, qge_24, qeq_24, qlt_30, qle_30, qgt_30, qge_30, qeq_30, qlt_32, qle_32, qgt_32, qge_32, qeq_32, qlt_37, qle_37, qgt_37, qge_37, qeq_37, qlt_40, qle_40, qgt_40, qge_40, qeq_40, qlt_42, qle_42, qgt_42, qge_42, qeq_42, qlt_43, qle_43, qgt_43, qge_43, qeq_43, qlt_45, qle_45, qgt_45, qge_45, qeq_45, qlt_47, qle_47, qgt_47, qge_47, qeq_47, qlt_48, qle_48, qgt_48, qge_48, qeq_48, qlt_57, qle_57, qgt_57, qge_57, qeq_57, qlt_59, qle_59, qgt_59, qge_59, qeq_59, qlt_60, qle_60, qgt_60, qge_60, qeq_60, qlt_61, qle_61, qgt_61, qge_61, qeq_61, qlt_62, qle_62, qgt_62, qge_62, qeq_62, qlt_64, qle_64, qgt_64, qge_64, qeq_64, qlt_91, qle_91, qgt_91, qge_91, qeq_91, qlt_93, qle_93, qgt_93, qge_93, qeq_93, qlt_97, qle_97, qgt_97, qge_97, qeq_97, qlt_122, qle_122, qgt_122, qge_122, qeq_122, qlt_400, qle_400, qgt_400, qge_400, qeq_400, qlt_999, qle_999, qgt_999, qge_999, qeq_999, qlt_0, qle_0, qgt_0, qge_0, qeq_0, qltm, qeqm, ↓reduceIte, Option.bind_some, not_true_eq_false, not_false_eq_true, and_true, true_and, and_false, false_and, or_false, false_or, or_true, true_or, Bool.false_eq_true, reduceCtorEq, wI_self, wI_ne, wI_nj, wI_L, n1, n7, n6, hxk, hsg, g7, g2, g5, g6, v6, v5, z2, s2, one_ne0]
        · by_cases z5 : N 5 k < 30
          · have z5' : ¬ 30 ≤ N 5 k := by omega
            have v5 : nI (N 5 k + 1) = nI (stl N b 5 k) := by rw [s5, if_pos ⟨z2, z5⟩]
            simp (disch := omega) only [f11_leaves_L1, f2, r4, r_has, nI_ltI, nI_leI, nI_eq, nI_clamp, nI_1, nI_add, nI_mul, inb_n, irm_n, nI_div, nI_m6, nI_d6, irm_6, qlt_1, qle_1, qgt_1, qge_1, qeq_1, qlt_2, qle_2, qgt_2, qge_2, qeq_2, qlt_3, qle_3, qgt_3, qge_3, qeq_3, qlt_4, qle_4, qgt_4, qge_4, qeq_4, qlt_5, qle_5, qgt_5, qge_5, qeq_5, qlt_6, qle_6, qgt_6, qge_6, qeq_6, qlt_7, qle_7, qgt_7, qge_7, qeq_7, qlt_8, qle_8, qgt_8, qge_8, qeq_8, qlt_9, qle_9, qgt_9, qge_9, qeq_9, qlt_10, qle_10, qgt_10, qge_10, qeq_10, qlt_12, qle_12, qgt_12, qge_12, qeq_12, qlt_16, qle_16, qgt_16, qge_16, qeq_16, qlt_20, qle_20, qgt_20, qge_20, qeq_20, qlt_24, qle_24, qgt_24, qge_24, qeq_24, qlt_30, qle_30, qgt_30, qge_30, qeq_30, qlt_32, qle_32, qgt_32, qge_32, qeq_32, qlt_37, qle_37, qgt_37, qge_37, qeq_37, qlt_40, qle_40, qgt_40, qge_40, qeq_40, qlt_42, qle_42, qgt_42, qge_42, qeq_42, qlt_43, qle_43, qgt_43, qge_43, qeq_43, qlt_45, qle_45, qgt_45, qge_45, qeq_45, qlt_47, qle_47, qgt_47, qge_47, qeq_47, qlt_48, qle_48, qgt_48, qge_48, qeq_48, qlt_57, qle_57, qgt_57, qge_57, qeq_57, qlt_59, qle_59, qgt_59, qge_59, qeq_59, qlt_60, qle_60, qgt_60, qge_60, qeq_60, qlt_61, qle_61, qgt_61, qge_61, qeq_61, qlt_62, qle_62, qgt_62, qge_62, qeq_62, qlt_64, qle_64, qgt_64, qge_64, qeq_64, qlt_91, qle_91, qgt_91, qge_91, qeq_91, qlt_93, qle_93, qgt_93, qge_93, qeq_93, qlt_97, qle_97, qgt_97, qge_97, qeq_97, qlt_122, qle_122, qgt_122, qge_122, qeq_122, qlt_400, qle_400, qgt_400, qge_400, qeq_400, qlt_999, qle_999, qgt_999, qge_999, qeq_999, qlt_0, qle_0, qgt_0, qge_0, qeq_0, qltm, qeqm, ↓reduceIte, Option.bind_some, not_true_eq_false, not_false_eq_true, and_true, true_and, and_false, false_and, or_false, false_or, or_true, true_or, Bool.false_eq_true, reduceCtorEq, wI_self, wI_ne, wI_nj, wI_L, n1, n7, n6, hxk, hsg, g7, g2, g5, g6, v6, v5, z2, z5', s2, one_ne0]
          · have z5' : 30 ≤ N 5 k := by omega
            have v5 : nI (N 5 k) + 0 = nI (stl N b 5 k) := by rw [s5, if_neg (fun z => z5 z.2)]; exact nI_add _ 0
            simp (disch := omega) only [f11_leaves_L1, f2, r4, r_has, nI_ltI, nI_leI, nI_eq, nI_clamp, nI_1, nI_add, nI_mul, inb_n, irm_n, nI_div, nI_m6, nI_d6, irm_6, qlt_1, qle_1, qgt_1, qge_1, qeq_1, qlt_2, qle_2, qgt_2, qge_2, qeq_2, qlt_3, qle_3, qgt_3, qge_3, qeq_3, qlt_4, qle_4, qgt_4, qge_4, qeq_4, qlt_5, qle_5, qgt_5, qge_5, qeq_5, qlt_6, qle_6, qgt_6, qge_6, qeq_6, qlt_7, qle_7, qgt_7, qge_7, qeq_7, qlt_8, qle_8, qgt_8, qge_8, qeq_8, qlt_9, qle_9, qgt_9, qge_9, qeq_9, qlt_10, qle_10, qgt_10, qge_10, qeq_10, qlt_12, qle_12, qgt_12, qge_12, qeq_12, qlt_16, qle_16, qgt_16, qge_16, qeq_16, qlt_20, qle_20, qgt_20, qge_20, qeq_20, qlt_24, qle_24, qgt_24, qge_24, qeq_24, qlt_30, qle_30, qgt_30, qge_30, qeq_30, qlt_32, qle_32, qgt_32, qge_32, qeq_32, qlt_37, qle_37, qgt_37, qge_37, qeq_37, qlt_40, qle_40, qgt_40, qge_40, qeq_40, qlt_42, qle_42, qgt_42, qge_42, qeq_42, qlt_43, qle_43, qgt_43, qge_43, qeq_43, qlt_45, qle_45, qgt_45, qge_45, qeq_45, qlt_47, qle_47, qgt_47, qge_47, qeq_47, qlt_48, qle_48, qgt_48, qge_48, qeq_48, qlt_57, qle_57, qgt_57, qge_57, qeq_57, qlt_59, qle_59, qgt_59, qge_59, qeq_59, qlt_60, qle_60, qgt_60, qge_60, qeq_60, qlt_61, qle_61, qgt_61, qge_61, qeq_61, qlt_62, qle_62, qgt_62, qge_62, qeq_62, qlt_64, qle_64, qgt_64, qge_64, qeq_64, qlt_91, qle_91, qgt_91, qge_91, qeq_91, qlt_93, qle_93, qgt_93, qge_93, qeq_93, qlt_97, qle_97, qgt_97, qge_97, qeq_97, qlt_122, qle_122, qgt_122, qge_122, qeq_122, qlt_400, qle_400, qgt_400, qge_400, qeq_400, qlt_999, qle_999, qgt_999, qge_999, qeq_999, qlt_0, qle_0, qgt_0, qge_0, qeq_0, qltm, qeqm, ↓reduceIte, Option.bind_some, not_true_eq_false, not_false_eq_true, and_true, true_and, and_false, false_and, or_false, false_or, or_true, true_or, Bool.false_eq_true, reduceCtorEq, wI_self, wI_ne, wI_nj, wI_L, n1, n7, n6, hxk, hsg, g7, g2, g5, g6, v6, v5, z2, z5', s2, one_ne0]
      · simp (disch := omega) only [wI_self, wI_ne, wI_nj, wI_L]; exact r4
      · intro j hj
        rw [rx j hj]
        by_cases e : j = k
        · subst e; rw [if_neg (by omega), if_pos (by omega), d1, hb]
        · grind
      · simp (disch := omega) only [wI_self, wI_ne, wI_nj, wI_L]
        rw [r6, loN, if_neg]
        intro z; rw [hb] at z; exact absurd z.2 (by decide)
      · intro a i ha
        rw [wI_g, wI_g, wI_g, hI a i ha]
        by_cases e : i = k
        · subst e
          grind
        · grind
    · have hb0 : s.testBit k = false := by simpa using hb
      by_cases hik : (N 0 4).testBit k = true
      · rw [hik] at hxk
        rw [hb0, hik] at hsb
        have hst : (seN N).1.testBit k = true := by simpa using hsb
        rw [if_neg (by rw [hst]; intro z; exact absurd z.2 (by decide))] at hsg
        refine ⟨wI (wI S' 1 6 (nI (clr x k))) 1 5 (nI k), ?_, clr x k, Nat.lt_of_le_of_lt (clr_le _ _) hx, ?_, ?_, ?_, ?_, hL⟩
        · simp (disch := omega) only [f11_leaves_L1, f2, r4, r_has, nI_ltI, nI_leI, nI_eq, nI_clamp, nI_1, nI_add, nI_mul, inb_n, irm_n, nI_div, nI_m6, nI_d6, irm_6, qlt_1, qle_1, qgt_1, qge_1, qeq_1, qlt_2, qle_2, qgt_2, qge_2, qeq_2, qlt_3, qle_3, qgt_3, qge_3, qeq_3, qlt_4, qle_4, qgt_4, qge_4, qeq_4, qlt_5, qle_5, qgt_5, qge_5, qeq_5, qlt_6, qle_6, qgt_6, qge_6, qeq_6, qlt_7, qle_7, qgt_7, qge_7, qeq_7, qlt_8, qle_8, qgt_8, qge_8, qeq_8, qlt_9, qle_9, qgt_9, qge_9, qeq_9, qlt_10, qle_10, qgt_10, qge_10, qeq_10, qlt_12, qle_12, qgt_12, qge_12, qeq_12, qlt_16, qle_16, qgt_16, qge_16, qeq_16, qlt_20, qle_20, qgt_20, qge_20, qeq_20, qlt_24, qle_24, qgt_24, qge_24, qeq_24, qlt_30, qle_30, qgt_30, qge_30, qeq_30, qlt_32, qle_32, qgt_32, qge_32, qeq_32, qlt_37, qle_37, qgt_37, qge_37, qeq_37, qlt_40, qle_40, qgt_40, qge_40, qeq_40, qlt_42, qle_42, qgt_42, qge_42, qeq_42, qlt_43, qle_43, qgt_43, qge_43, qeq_43, qlt_45, qle_45, qgt_45, qge_45, qeq_45, qlt_47, qle_47, qgt_47, qge_47, qeq_47, qlt_48, qle_48, qgt_48, qge_48, qeq_48, qlt_57, qle_57, qgt_57, qge_57, qeq_57, qlt_59, qle_59, qgt_59, qge_59, qeq_59, qlt_60, qle_60, qgt_60, qge_60, qeq_60, qlt_61, qle_61, qgt_61, qge_61, qeq_61, qlt_62, qle_62, qgt_62, qge_62, qeq_62, qlt_64, qle_64, qgt_64, qge_64, qeq_64, qlt_91, qle_91, qgt_91, qge_91, qeq_91, qlt_93, qle_93, qgt_93, qge_93, qeq_93, qlt_97, qle_97, qgt_97, qge_97, qeq_97, qlt_122, qle_122, qgt_122, qge_122, qeq_122, qlt_400, qle_400, qgt_400, qge_400, qeq_400, qlt_999, qle_999, qgt_999, qge_999, qeq_999, qlt_0, qle_0, qgt_0, qge_0, qeq_0, qltm, qeqm, ↓reduceIte, Option.bind_some, not_true_eq_false, not_false_eq_true, and_true, true_and, and_false, false_and, or_false, false_or, or_true, true_or, Bool.false_eq_true, reduceCtorEq, wI_self, wI_ne, wI_nj, wI_L, n1, n7, hxk, hsg, one_ne0, b_clr]
        · simp (disch := omega) only [wI_self, wI_ne, wI_nj, wI_L]
        · intro j hj
          rw [clr_b hx n7 hj, rx j hj]
          by_cases e : j = k
          · subst e; rw [if_neg (by omega), if_pos (by omega), hb0]; simp
          · have : (j == k) = false := by simpa using e
            rw [this]; simp only [Bool.not_false, Bool.and_true]
            grind
        · rw [wI_self, loN, if_pos ⟨hik, hb0⟩]; exact (nI_pred k).symm
        · intro a i ha
          rw [wI_g, wI_g, if_neg (by omega), if_neg (by omega), hI a i ha]
          by_cases e : i = k
          · subst e; simp [hb0]
          · grind
      · have hik0 : (N 0 4).testBit k = false := by simpa using hik
        rw [hik0] at hxk
        refine ⟨S', ?_, x, hx, r4, ?_, ?_, ?_, hL⟩
        · simp (disch := omega) only [f11_leaves_L1, f2, r4, r_has, nI_ltI, nI_leI, nI_eq, nI_clamp, nI_1, nI_add, nI_mul, inb_n, irm_n, nI_div, nI_m6, nI_d6, irm_6, qlt_1, qle_1, qgt_1, qge_1, qeq_1, qlt_2, qle_2, qgt_2, qge_2, qeq_2, qlt_3, qle_3, qgt_3, qge_3, qeq_3, qlt_4, qle_4, qgt_4, qge_4, qeq_4, qlt_5, qle_5, qgt_5, qge_5, qeq_5, qlt_6, qle_6, qgt_6, qge_6, qeq_6, qlt_7, qle_7, qgt_7, qge_7, qeq_7, qlt_8, qle_8, qgt_8, qge_8, qeq_8, qlt_9, qle_9, qgt_9, qge_9, qeq_9, qlt_10, qle_10, qgt_10, qge_10, qeq_10, qlt_12, qle_12, qgt_12, qge_12, qeq_12, qlt_16, qle_16, qgt_16, qge_16, qeq_16, qlt_20, qle_20, qgt_20, qge_20, qeq_20, qlt_24, qle_24, qgt_24, qge_24, qeq_24, qlt_30, qle_30, qgt_30, qge_30, qeq_30, qlt_32, qle_32, qgt_32, qge_32, qeq_32, qlt_37, qle_37, qgt_37, qge_37, qeq_37, qlt_40, qle_40, qgt_40, qge_40, qeq_40, qlt_42, qle_42, qgt_42, qge_42, qeq_42, qlt_43, qle_43, qgt_43, qge_43, qeq_43, qlt_45, qle_45, qgt_45, qge_45, qeq_45, qlt_47, qle_47, qgt_47, qge_47, qeq_47, qlt_48, qle_48, qgt_48, qge_48, qeq_48, qlt_57, qle_57, qgt_57, qge_57, qeq_57, qlt_59, qle_59, qgt_59, qge_59, qeq_59, qlt_60, qle_60, qgt_60, qge_60, qeq_60, qlt_61, qle_61, qgt_61, qge_61, qeq_61, qlt_62, qle_62, qgt_62, qge_62, qeq_62, qlt_64, qle_64, qgt_64, qge_64, qeq_64, qlt_91, qle_91, qgt_91, qge_91, qeq_91, qlt_93, qle_93, qgt_93, qge_93, qeq_93, qlt_97, qle_97, qgt_97, qge_97, qeq_97, qlt_122, qle_122, qgt_122, qge_122, qeq_122, qlt_400, qle_400, qgt_400, qge_400, qeq_400, qlt_999, qle_999, qgt_999, qge_999, qeq_999, qlt_0, qle_0, qgt_0, qge_0, qeq_0, qltm, qeqm, ↓reduceIte, Option.bind_some, not_true_eq_false, not_false_eq_true, and_true, true_and, and_false, false_and, or_false, false_or, or_true, true_or, Bool.false_eq_true, reduceCtorEq, wI_self, wI_ne, wI_nj, wI_L, n1, n7, hxk]
        · intro j hj
          rw [rx j hj]
          by_cases e : j = k
          · subst e; rw [if_neg (by omega), if_pos (by omega), hb0, hik0]
          · grind
        · rw [r6, loN, if_neg (fun z => hik z.1)]
        · intro a i ha
          rw [hI a i ha]
          by_cases e : i = k
          · subst e; simp [hb0]
          · grind) (by
    rintro n S' ⟨x, hx, r4, rx, r6, hI, hL⟩
    have f2 : S'.1 1 2 = nI (N 0 2) := by rw [hI _ _ (by omega), if_neg (by omega)]; exact e2
    refine ⟨S', ?_, x, hx, r4, rx, r6, hI, hL⟩
    simp (disch := omega) only [f11_leaves_L1, f2, nI_ltI, nI_leI, nI_eq, nI_clamp, nI_1, nI_add, nI_mul, inb_n, irm_n, nI_div, nI_m6, nI_d6, irm_6, qlt_1, qle_1, qgt_1, qge_1, qeq_1, qlt_2, qle_2, qgt_2, qge_2, qeq_2, qlt_3, qle_3, qgt_3, qge_3, qeq_3, qlt_4, qle_4, qgt_4, qge_4, qeq_4, qlt_5, qle_5, qgt_5, qge_5, qeq_5, qlt_6, qle_6, qgt_6, qge_6, qeq_6, qlt_7, qle_7, qgt_7, qge_7, qeq_7, qlt_8, qle_8, qgt_8, qge_8, qeq_8, qlt_9, qle_9, qgt_9, qge_9, qeq_9, qlt_10, qle_10, qgt_10, qge_10, qeq_10, qlt_12, qle_12, qgt_12, qge_12, qeq_12, qlt_16, qle_16, qgt_16, qge_16, qeq_16, qlt_20, qle_20, qgt_20, qge_20, qeq_20, qlt_24, qle_24, qgt_24, qge_24, qeq_24, qlt_30, qle_30, qgt_30, qge_30, qeq_30, qlt_32, qle_32, qgt_32, qge_32, qeq_32, qlt_37, qle_37, qgt_37, qge_37, qeq_37, qlt_40, qle_40, qgt_40, qge_40, qeq_40, qlt_42, qle_42, qgt_42, qge_42, qeq_42, qlt_43, qle_43, qgt_43, qge_43, qeq_43, qlt_45, qle_45, qgt_45, qge_45, qeq_45, qlt_47, qle_47, qgt_47, qge_47, qeq_47, qlt_48, qle_48, qgt_48, qge_48, qeq_48, qlt_57, qle_57, qgt_57, qge_57, qeq_57, qlt_59, qle_59, qgt_59, qge_59, qeq_59, qlt_60, qle_60, qgt_60, qge_60, qeq_60, qlt_61, qle_61, qgt_61, qge_61, qeq_61, qlt_62, qle_62, qgt_62, qge_62, qeq_62, qlt_64, qle_64, qgt_64, qge_64, qeq_64, qlt_91, qle_91, qgt_91, qge_91, qeq_91, qlt_93, qle_93, qgt_93, qge_93, qeq_93, qlt_97, qle_97, qgt_97, qge_97, qeq_97, qlt_122, qle_122, qgt_122, qge_122, qeq_122, qlt_400, qle_400, qgt_400, qge_400, qeq_400, qlt_999, qle_999, qgt_999, qge_999, qeq_999, qlt_0, qle_0, qgt_0, qge_0, qeq_0, qltm, qeqm, ↓reduceIte, Option.bind_some, not_true_eq_false, not_false_eq_true, and_true, true_and, and_false, false_and, or_false, false_or, or_true, true_or, Bool.false_eq_true, reduceCtorEq, Nat.le_refl]) jF 0 S (Nat.zero_le _) (by show _ < 5000; omega) ⟨N 0 4, hi, HV4 h, fun j hj => by rw [if_neg (by omega)], HV6 h, fun a i ha => by rw [if_neg (by omega)], rfl⟩
  have exs : x = s := by
    apply bits_ext hx hs128
    intro j hj
    rw [rx j hj]
    by_cases e : j < N 0 2
    · rw [if_pos e]
    · rw [if_neg e]
      cases e2 : s.testBit j
      · cases e3 : (N 0 4).testBit j
        · rfl
        · exact absurd (hN.ib e3) e
      · exact absurd (hdt j e2).2.2 e
  subst exs
  have w4 : stl N b 0 4 = x := by unfold stl; rw [if_pos rfl, if_neg (by omega), if_pos rfl, hs]
  have w6 : stl N b 0 6 = loN (N 0 4) x (N 0 2) (N 0 6) := by unfold stl; rw [if_pos rfl, if_neg (by omega), if_neg (by omega), if_neg (by omega), if_pos rfl, hs]
  rw [w4, w6]
  refine ⟨r, ?_, r4, r6, hI, hL⟩
  unfold f11_leaves
  have hr' : f11_leaves_L1 jF S 0 = some r := hr
  rw [hr']; rfl
