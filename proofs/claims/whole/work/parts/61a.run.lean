theorem sit_lb {N : mN} {t : Nat → Nat} (hN : NOk N) : ∀ (n : Nat) (q : mQ), QOk N q → (q.2.2.2 ≠ 0 → (N 0 3).testBit (q.2.2.2 - 1) = true) → (sitN t n q).2.2.2 ≠ 0 → (N 0 3).testBit ((sitN t n q).2.2.2 - 1) = true := by
  intro n
  induction n with
  | zero => intro q _ h; exact h
  | succ n ih =>
    intro q hQ h
    unfold sitN
    cases e : sqN t q with
    | none => exact h
    | some q1 =>
      refine ih q1 (hQ.step hN e) ?_
      intro _
      unfold sqN at e
      cases e2 : scn t q.1 q.2.1 42 with
      | none => rw [e2] at e; cases e
      | some p =>
        obtain ⟨p1, p2, p3, p4, p5⟩ := hQ.pair hN e2
        rw [e2] at e; cases e
        exact p4
theorem rnd_pcn {N : mN} {b : Nat} (hN : NOk N) (ho : ¬ overN N) : pcn (rnd N b 0 3) + 1 = pcn (N 0 3) := by
  have hN1 : NOk (wkN N b) := wkN_ok hN
  have hla := la_ne hN1 (show ¬ overN (wkN N b) from ho)
  have hl := (seN_ok hN1).2.2.2
  have hC : wkN N b 0 1 ≤ 6 := hN1.2.1
  have hb := sit_lb (t := tpN (wkN N b)) hN1 6 _ QOk.init (fun z => absurd rfl z) hla
  have e : rnd N b 0 3 = clr (N 0 3) ((seN (wkN N b)).2.2.2 - 1) := by
    show stl (wkN N b) b 0 3 = _
    unfold stl; rw [if_pos rfl, if_pos rfl, if_neg hla]; rfl
  rw [e]
  exact pcn_clr _ hN.t _ (by omega) hb
theorem pcn_z : ∀ x, x < 64 → pcn x = 0 → x = 0 := by decide +kernel
theorem pcn0_ov {N : mN} (hN : NOk N) (h : pcn (N 0 3) = 0) : ovB N = true := ovB_t.mpr (Or.inr (pcn_z _ hN.t h))
theorem rst_n {ru : Option mR} {N : mN} (h : ¬ ovB N = true) : rst ru N = rnd N (bwN ru N) := by
  unfold rst rbb; rw [if_neg h]
def wov (ru : Option mR) : Nat → mN → mN
  | 0, N => N
  | n + 1, N => if ovB N = true then N else wov ru n (rst ru N)
theorem wov_o {ru : Option mR} {n : Nat} {N : mN} (h : ovB N = true) : wov ru n N = N := by
  cases n with
  | zero => rfl
  | succ n => unfold wov; rw [if_pos h]
theorem c_whenOver {T : jT} {S : jS} {N : mN} {q : Option Nat} {ru : Option mR} (hN : NOk N) (h : HIs (hC S (100 + 8)) N) (hq : ruC T S q ru) : ∃ S1, f2_whenOver T S (100 + 8) q = some (S1, ()) ∧ CRun S S1 21 (wov ru 6 N) := by
  obtain ⟨r, hr, hp⟩ := lp_up (G := 6) (Post := fun r : jS => CRun S r 21 (wov ru 6 N)) (fun m k S' => f2_whenOver_L1 T q m S' (nI k)) (fun k S' => ∃ M, CRun S S' 21 M ∧ wov ru (6 - k) M = wov ru 6 N) (by
    rintro m k S' hk ⟨M, hI, hw⟩
    have n1 : ¬ 6 ≤ k := by omega
    obtain ⟨j, hj⟩ : ∃ j, 6 - k = j + 1 := ⟨5 - k, by omega⟩
    by_cases hv : ovB M = true
    · right
      rw [wov_o hv] at hw
      refine ⟨S', ?_, hw ▸ hI⟩
      rw [f2_whenOver_L1]
      simp (disch := omega) only [(c_over hI.2.2 hI.2.1).1 (ovB_t.mp hv), nI_ltI, nI_leI, nI_eq, nI_clamp, nI_1, nI_add, nI_mul, inb_n, irm_n, nI_div, nI_m6, nI_d6, irm_6, qlt_1, qle_1, qgt_1, qge_1, qeq_1, qlt_2, qle_2, qgt_2, qge_2, qeq_2, qlt_3, qle_3, qgt_3, qge_3, qeq_3, qlt_4, qle_4, qgt_4, qge_4, qeq_4, qlt_5, qle_5, qgt_5, qge_5, qeq_5, qlt_6, qle_6, qgt_6, qge_6, qeq_6, qlt_7, qle_7, qgt_7, qge_7, qeq_7, qlt_8, qle_8, qgt_8, qge_8, qeq_8, qlt_9, qle_9, qgt_9, qge_9, qeq_9, qlt_10, qle_10, qgt_10, qge_10, qeq_10, qlt_12, qle_12, qgt_12, qge_12, qeq_12, qlt_16, qle_16, qgt_16, qge_16, qeq_16, qlt_20, qle_20, qgt_20, qge_20, qeq_20, qlt_24, qle_24, qgt_24, qge_24, qeq_24, qlt_30, qle_30, qgt_30, qge_30, qeq_30, qlt_32, qle_32, qgt_32, qge_32, qeq_32, qlt_37, qle_37, qgt_37, qge_37, qeq_37, qlt_40, qle_40, qgt_40, qge_40, qeq_40, qlt_42, qle_42, qgt_42, qge_42, qeq_42, qlt_43, qle_43, qgt_43, qge_43, qeq_43, qlt_45, qle_45, qgt_45, qge_45, qeq_45, qlt_47, qle_47, qgt_47, qge_47, qeq_47, qlt_48, qle_48, qgt_48, qge_48, qeq_48, qlt_57, qle_57, qgt_57, qge_57, qeq_57, qlt_59, qle_59, qgt_59, qge_59, qeq_59, qlt_60, qle_60, qgt_60, qge_60, qeq_60, qlt_61, qle_61, qgt_61, qge_61, qeq_61, qlt_62, qle_62, qgt_62, qge_62, qeq_62, qlt_64, qle_64, qgt_64, qge_64, qeq_64, qlt_91, qle_91, qgt_91, qge_91, qeq_91, qlt_93, qle_93, qgt_93, qge_93, qeq_93, qlt_97, qle_97, qgt_97, qge_97, qeq_97, qlt_122, qle_122, qgt_122, qge_122, qeq_122, qlt_400, qle_400, qgt_400, qge_400, qeq_400, qlt_999, qle_999, qgt_999, qge_999, qeq_999, qlt_0, qle_0, qgt_0, qge_0, qeq_0, qltm, qeqm, ↓reduceIte, Option.bind_some, not_true_eq_false, not_false_eq_true, and_true, true_and, and_false, false_and, or_false, false_or, or_true, true_or, Bool.false_eq_true, reduceCtorEq, n1, one_ne0]
    · left
      obtain ⟨S1, p1, p2⟩ := hI.by (T := T) (by omega) (by omega) hq
      refine ⟨S1, ?_, _, p2, ?_⟩
      · rw [f2_whenOver_L1]
        simp (disch := omega) only [(c_over hI.2.2 hI.2.1).2 (fun z => hv (ovB_t.mpr z)), p1, nI_ltI, nI_leI, nI_eq, nI_clamp, nI_1, nI_add, nI_mul, inb_n, irm_n, nI_div, nI_m6, nI_d6, irm_6, qlt_1, qle_1, qgt_1, qge_1, qeq_1, qlt_2, qle_2, qgt_2, qge_2, qeq_2, qlt_3, qle_3, qgt_3, qge_3, qeq_3, qlt_4, qle_4, qgt_4, qge_4, qeq_4, qlt_5, qle_5, qgt_5, qge_5, qeq_5, qlt_6, qle_6, qgt_6, qge_6, qeq_6, qlt_7, qle_7, qgt_7, qge_7, qeq_7, qlt_8, qle_8, qgt_8, qge_8, qeq_8, qlt_9, qle_9, qgt_9, qge_9, qeq_9, qlt_10, qle_10, qgt_10, qge_10, qeq_10, qlt_12, qle_12, qgt_12, qge_12, qeq_12, qlt_16, qle_16, qgt_16, qge_16, qeq_16, qlt_20, qle_20, qgt_20, qge_20, qeq_20, qlt_24, qle_24, qgt_24, qge_24, qeq_24, qlt_30, qle_30, qgt_30, qge_30, qeq_30, qlt_32, qle_32, qgt_32, qge_32, qeq_32, qlt_37, qle_37, qgt_37, qge_37, qeq_37, qlt_40, qle_40, qgt_40, qge_40, qeq_40, qlt_42, qle_42, qgt_42, qge_42, qeq_42, qlt_43, qle_43, qgt_43, qge_43, qeq_43, qlt_45, qle_45, qgt_45, qge_45, qeq_45, qlt_47, qle_47, qgt_47, qge_47, qeq_47, qlt_48, qle_48, qgt_48, qge_48, qeq_48, qlt_57, qle_57, qgt_57, qge_57, qeq_57, qlt_59, qle_59, qgt_59, qge_59, qeq_59, qlt_60, qle_60, qgt_60, qge_60, qeq_60, qlt_61, qle_61, qgt_61, qge_61, qeq_61, qlt_62, qle_62, qgt_62, qge_62, qeq_62, qlt_64, qle_64, qgt_64, qge_64, qeq_64, qlt_91, qle_91, qgt_91, qge_91, qeq_91, qlt_93, qle_93, qgt_93, qge_93, qeq_93, qlt_97, qle_97, qgt_97, qge_97, qeq_97, qlt_122, qle_122, qgt_122, qge_122, qeq_122, qlt_400, qle_400, qgt_400, qge_400, qeq_400, qlt_999, qle_999, qgt_999, qge_999, qeq_999, qlt_0, qle_0, qgt_0, qge_0, qeq_0, qltm, qeqm, ↓reduceIte, Option.bind_some, not_true_eq_false, not_false_eq_true, and_true, true_and, and_false, false_and, or_false, false_or, or_true, true_or, Bool.false_eq_true, reduceCtorEq, n1]
      · rw [← hw, hj, show 6 - (k + 1) = j by omega, wov, if_neg hv]) (by
    rintro m S' ⟨M, hI, hw⟩
    have hw' : M = wov ru 6 N := hw
    refine ⟨S', ?_, hw' ▸ hI⟩
    have n1 : 6 ≤ 6 := by omega
    rw [f2_whenOver_L1]
    simp (disch := omega) only [nI_ltI, nI_leI, nI_eq, nI_clamp, nI_1, nI_add, nI_mul, inb_n, irm_n, nI_div, nI_m6, nI_d6, irm_6, qlt_1, qle_1, qgt_1, qge_1, qeq_1, qlt_2, qle_2, qgt_2, qge_2, qeq_2, qlt_3, qle_3, qgt_3, qge_3, qeq_3, qlt_4, qle_4, qgt_4, qge_4, qeq_4, qlt_5, qle_5, qgt_5, qge_5, qeq_5, qlt_6, qle_6, qgt_6, qge_6, qeq_6, qlt_7, qle_7, qgt_7, qge_7, qeq_7, qlt_8, qle_8, qgt_8, qge_8, qeq_8, qlt_9, qle_9, qgt_9, qge_9, qeq_9, qlt_10, qle_10, qgt_10, qge_10, qeq_10, qlt_12, qle_12, qgt_12, qge_12, qeq_12, qlt_16, qle_16, qgt_16, qge_16, qeq_16, qlt_20, qle_20, qgt_20, qge_20, qeq_20, qlt_24, qle_24, qgt_24, qge_24, qeq_24, qlt_30, qle_30, qgt_30, qge_30, qeq_30, qlt_32, qle_32, qgt_32, qge_32, qeq_32, qlt_37, qle_37, qgt_37, qge_37, qeq_37, qlt_40, qle_40, qgt_40, qge_40, qeq_40, qlt_42, qle_42, qgt_42, qge_42, qeq_42, qlt_43, qle_43, qgt_43, qge_43, qeq_43, qlt_45, qle_45, qgt_45, qge_45, qeq_45, qlt_47, qle_47, qgt_47, qge_47, qeq_47, qlt_48, qle_48, qgt_48, qge_48, qeq_48, qlt_57, qle_57, qgt_57, qge_57, qeq_57, qlt_59, qle_59, qgt_59, qge_59, qeq_59, qlt_60, qle_60, qgt_60, qge_60, qeq_60, qlt_61, qle_61, qgt_61, qge_61, qeq_61, qlt_62, qle_62, qgt_62, qge_62, qeq_62, qlt_64, qle_64, qgt_64, qge_64, qeq_64, qlt_91, qle_91, qgt_91, qge_91, qeq_91, qlt_93, qle_93, qgt_93, qge_93, qeq_93, qlt_97, qle_97, qgt_97, qge_97, qeq_97, qlt_122, qle_122, qgt_122, qge_122, qeq_122, qlt_400, qle_400, qgt_400, qge_400, qeq_400, qlt_999, qle_999, qgt_999, qge_999, qeq_999, qlt_0, qle_0, qgt_0, qge_0, qeq_0, qltm, qeqm, ↓reduceIte, Option.bind_some, not_true_eq_false, not_false_eq_true, and_true, true_and, and_false, false_and, or_false, false_or, or_true, true_or, Bool.false_eq_true, reduceCtorEq, n1]) jF 0 (cpF S 21 (100 + 8)) (Nat.zero_le _) (by show _ < 5000; omega) ⟨N, CRun.cp (cQ.rf S) hN h (by omega) (by omega) (by omega), rfl⟩
  refine ⟨r, ?_, hp⟩
  unfold f2_whenOver
  rw [cp_eq, Option.bind_some]
  have hr' : f2_whenOver_L1 T q jF (cpF S 21 (100 + 8)) 0 = some r := hr
  rw [hr']; rfl
theorem r_whenOver {X X' : jS} {N : mN} {ru : Option mR} {l1 : Int32} (h : RRun X X' N) (h40 : X'.1 0 40 = -1) (hq : ruR X ru) : ∃ X1, f11_winner_L1 l1 jF X' = some X1 ∧ RRun X X1 (wov ru 6 N) ∧ X1.1 0 40 = -1 := by
  exact lp_m (Post := fun r : jS => RRun X r (wov ru 6 N) ∧ r.1 0 40 = -1) (fun n (A : Nat × jS) => f11_winner_L1 l1 n A.2) (fun A => A.1) (fun A => ∃ M, RRun X A.2 M ∧ A.2.1 0 40 = -1 ∧ wov ru A.1 M = wov ru 6 N ∧ pcn (M 0 3) ≤ A.1) (by
    rintro n ⟨m, X'⟩ ⟨M, hI, i40, hw, hp⟩
    by_cases hv : ovB M = true
    · right
      have hw' : M = wov ru 6 N := by rw [← hw]; exact (wov_o hv).symm
      refine ⟨X', ?_, hw' ▸ hI, i40⟩
      show f11_winner_L1 l1 (n + 1) X' = _
      rw [f11_winner_L1]
      simp only [(r_done hI.2.2.2.1 hI.2.2.1).1 (ovB_t.mp hv), ↓reduceIte, Option.bind_some, not_true_eq_false, not_false_eq_true, and_true, true_and, and_false, false_and, or_false, false_or, or_true, true_or, Bool.false_eq_true, reduceCtorEq, one_ne0]
    · left
      have hv' : ¬ overN M := fun z => hv (ovB_t.mpr z)
      obtain ⟨X1, p1, p2, p3⟩ := hI.by i40 hq
      have hp' : pcn (M 0 3) ≤ m := hp
      have hpc := rnd_pcn (b := bwN ru M) hI.2.2.2.1 hv'
      obtain ⟨m', rfl⟩ : ∃ m', m = m' + 1 := ⟨m - 1, by omega⟩
      refine ⟨(m', X1), ?_, ⟨_, p2, p3, ?_, ?_⟩, by show m' < m' + 1; omega⟩
      · show f11_winner_L1 l1 (n + 1) X' = f11_winner_L1 l1 n X1
        rw [f11_winner_L1]
        simp only [(r_done hI.2.2.2.1 hI.2.2.1).2 hv', p1, ↓reduceIte, Option.bind_some, not_true_eq_false, not_false_eq_true, and_true, true_and, and_false, false_and, or_false, false_or, or_true, true_or, Bool.false_eq_true, reduceCtorEq]
      · rw [← hw]
        show _ = wov ru (m' + 1) M
        rw [wov, if_neg hv]
      · rw [rst_n hv]
        show _ ≤ m'
        omega) jF (6, X') (by show 6 < 5000; omega) ⟨N, h, h40, rfl, pcn_6 _ h.2.2.2.1.t⟩
/-- who is in alone -/
def aln (x : Nat) : Int32 := if x = 1 then 0 else if x = 2 then 1 else if x = 4 then 2 else if x = 8 then 3 else if x = 16 then 4 else if x = 32 then 5 else if x = 64 then 6 else -2
theorem aln0 : ∀ x, x < 128 → Option.bind (f13_bitCount (nI x)) (fun r1 => (if r1 = 1 then Option.bind (f13_numberOfTrailingZeros (nI x)) (fun r2 => some r2) else some ((-2)))) = some (aln x) := by decide +kernel
theorem c_alone {S : jS} {o : Nat} {N : mN} (hN : NOk N) (h : HIs (hC S o) N) : f4_alone S o = some (aln (N 0 4)) := by
  have e4 : S.1 o 4 = nI (N 0 4) := h.1 4 (by omega) (by omega)
  unfold f4_alone
  rw [e4]; exact aln0 _ hN.i
theorem aln_p : ∀ g, g < 7 → aln (2 ^ g) = nI g ∧ (1 : Int32) <<< (nI g &&& 31) = nI (2 ^ g) := by decide +kernel
theorem aln_n {x G : Nat} (hG : G ≤ 7) (hx : x < 2 ^ G) (h : ∀ j, j < G → x ≠ 2 ^ j) : aln x = -2 := by
  have hh : ∀ j, j < 7 → x ≠ 2 ^ j := by
    intro j hj
    by_cases e : j < G
    · exact h j e
    · have : 2 ^ G ≤ 2 ^ j := Nat.pow_le_pow_right (by omega) (by omega)
      omega
  have h0 := hh 0 (by omega)
  have h1 := hh 1 (by omega)
  have h2 := hh 2 (by omega)
  have h3 := hh 3 (by omega)
  have h4 := hh 4 (by omega)
  have h5 := hh 5 (by omega)
  have h6 := hh 6 (by omega)
  unfold aln
  rw [if_neg h0, if_neg h1, if_neg h2, if_neg h3, if_neg h4, if_neg h5, if_neg h6]
theorem r_alone {X : jS} {N : mN} (hN : NOk N) (h : HIs (hV X.1) N) : f11_alone X = some (aln (N 0 4)) := by
  have e2 := HV2 h
  have e6 := HV4 h
  have hi := hN.i
  have hG := hN.2.2.1
  unfold f11_alone
  rw [e6]
  obtain ⟨r, hr, hp⟩ := lp_up (G := N 0 2) (Post := fun r : Int32 => r = aln (N 0 4)) (fun n k (_ : Unit) => f11_alone_L1 X (nI (N 0 4)) n (nI k)) (fun k _ => ∀ j, j < k → N 0 4 ≠ 2 ^ j) (by
    intro n k _ hk hI
    have n1 : ¬ N 0 2 ≤ k := by omega
    obtain ⟨w1, w2⟩ := aln_p k (by omega)
    have hp : 2 ^ k < 2 ^ 7 := Nat.pow_lt_pow_right (by omega) (by omega)
    by_cases e : N 0 4 = 2 ^ k
    · right
      refine ⟨nI k, ?_, by rw [e, w1]⟩
      rw [f11_alone_L1]
      simp (disch := omega) only [e2, w2, nI_ltI, nI_leI, nI_eq, nI_clamp, nI_1, nI_add, nI_mul, inb_n, irm_n, nI_div, nI_m6, nI_d6, irm_6, qlt_1, qle_1, qgt_1, qge_1, qeq_1, qlt_2, qle_2, qgt_2, qge_2, qeq_2, qlt_3, qle_3, qgt_3, qge_3, qeq_3, qlt_4, qle_4, qgt_4, qge_4, qeq_4, qlt_5, qle_5, qgt_5, qge_5, qeq_5, qlt_6, qle_6, qgt_6, qge_6, qeq_6, qlt_7, qle_7, qgt_7, qge_7, qeq_7, qlt_8, qle_8, qgt_8, qge_8, qeq_8, qlt_9, qle_9, qgt_9, qge_9, qeq_9, qlt_10, qle_10, qgt_10, qge_10, qeq_10, qlt_12, qle_12, qgt_12, qge_12, qeq_12, qlt_16, qle_16, qgt_16, qge_16, qeq_16, qlt_20, qle_20, qgt_20, qge_20, qeq_20, qlt_24, qle_24, qgt_24, qge_24, qeq_24, qlt_30, qle_30, qgt_30, qge_30, qeq_30, qlt_32, qle_32, qgt_32, qge_32, qeq_32, qlt_37, qle_37, qgt_37, qge_37, qeq_37, qlt_40, qle_40, qgt_40, qge_40, qeq_40, qlt_42, qle_42, qgt_42, qge_42, qeq_42, qlt_43, qle_43, qgt_43, qge_43, qeq_43, qlt_45, qle_45, qgt_45, qge_45, qeq_45, qlt_47, qle_47, qgt_47, qge_47, qeq_47, qlt_48, qle_48, qgt_48, qge_48, qeq_48, qlt_57, qle_57, qgt_57, qge_57, qeq_57, qlt_59, qle_59, qgt_59, qge_59, qeq_59, qlt_60, qle_60, qgt_60, qge_60, qeq_60, qlt_61, qle_61, qgt_61, qge_61, qeq_61, qlt_62, qle_62, qgt_62, qge_62, qeq_62, qlt_64, qle_64, qgt_64, qge_64, qeq_64, qlt_91, qle_91, qgt_91, qge_91, qeq_91, qlt_93, qle_93, qgt_93, qge_93, qeq_93, qlt_97, qle_97, qgt_97, qge_97, qeq_97, qlt_122, qle_122, qgt_122, qge_122, qeq_122, qlt_400, qle_400, qgt_400, qge_400, qeq_400, qlt_999, qle_999, qgt_999, qge_999, qeq_999, qlt_0, qle_0, qgt_0, qge_0, qeq_0, qltm, qeqm, ↓reduceIte, Option.bind_some, not_true_eq_false, not_false_eq_true, and_true, true_and, and_false, false_and, or_false, false_or, or_true, true_or, Bool.false_eq_true, reduceCtorEq, n1, e]
    · left
      refine ⟨(), ?_, fun j hj => ?_⟩
      · rw [f11_alone_L1]
        simp (disch := omega) only [e2, w2, nI_ltI, nI_leI, nI_eq, nI_clamp, nI_1, nI_add, nI_mul, inb_n, irm_n, nI_div, nI_m6, nI_d6, irm_6, qlt_1, qle_1, qgt_1, qge_1, qeq_1, qlt_2, qle_2, qgt_2, qge_2, qeq_2, qlt_3, qle_3, qgt_3, qge_3, qeq_3, qlt_4, qle_4, qgt_4, qge_4, qeq_4, qlt_5, qle_5, qgt_5, qge_5, qeq_5, qlt_6, qle_6, qgt_6, qge_6, qeq_6, qlt_7, qle_7, qgt_7, qge_7, qeq_7, qlt_8, qle_8, qgt_8, qge_8, qeq_8, qlt_9, qle_9, qgt_9, qge_9, qeq_9, qlt_10, qle_10, qgt_10, qge_10, qeq_10, qlt_12, qle_12, qgt_12, qge_12, qeq_12, qlt_16, qle_16, qgt_16, qge_16, qeq_16, qlt_20, qle_20, qgt_20, qge_20, qeq_20, qlt_24, qle_24, qgt_24, qge_24, qeq_24, qlt_30, qle_30, qgt_30, qge_30, qeq_30, qlt_32, qle_32, qgt_32, qge_32, qeq_32, qlt_37, qle_37, qgt_37, qge_37, qeq_37, qlt_40, qle_40, qgt_40, qge_40, qeq_40, qlt_42, qle_42, qgt_42, qge_42, qeq_42, qlt_43, qle_43, qgt_43, qge_43, qeq_43, qlt_45, qle_45, qgt_45, qge_45, qeq_45, qlt_47, qle_47, qgt_47, qge_47, qeq_47, qlt_48, qle_48, qgt_48, qge_48, qeq_48, qlt_57, qle_57, qgt_57, qge_57, qeq_57, qlt_59, qle_59, qgt_59, qge_59, qeq_59, qlt_60, qle_60, qgt_60, qge_60, qeq_60, qlt_61, qle_61, qgt_61, qge_61, qeq_61, qlt_62, qle_62, qgt_62, qge_62, qeq_62, qlt_64, qle_64, qgt_64, qge_64, qeq_64, qlt_91, qle_91, qgt_91, qge_91, qeq_91, qlt_93, qle_93, qgt_93, qge_93, qeq_93, qlt_97, qle_97, qgt_97, qge_97, qeq_97, qlt_122, qle_122, qgt_122, qge_122, qeq_122, qlt_400, qle_400, qgt_400, qge_400, qeq_400, qlt_999, qle_999, qgt_999, qge_999, qeq_999, qlt_0, qle_0, qgt_0, qge_0, qeq_0, qltm, qeqm, ↓reduceIte, Option.bind_some, not_true_eq_false, not_false_eq_true, and_true, true_and, and_false, false_and, or_false, false_or, or_true, true_or, Bool.false_eq_true, reduceCtorEq, n1, e]
      · by_cases ej : j = k
        · rw [ej]; exact e
        · exact hI j (by omega)) (by
    intro n _ hI
    refine ⟨-2, ?_, (aln_n hG hN.2.2.2.2.1 hI).symm⟩
    rw [f11_alone_L1]
    simp (disch := omega) only [e2, nI_ltI, nI_leI, nI_eq, nI_clamp, nI_1, nI_add, nI_mul, inb_n, irm_n, nI_div, nI_m6, nI_d6, irm_6, qlt_1, qle_1, qgt_1, qge_1, qeq_1, qlt_2, qle_2, qgt_2, qge_2, qeq_2, qlt_3, qle_3, qgt_3, qge_3, qeq_3, qlt_4, qle_4, qgt_4, qge_4, qeq_4, qlt_5, qle_5, qgt_5, qge_5, qeq_5, qlt_6, qle_6, qgt_6, qge_6, qeq_6, qlt_7, qle_7, qgt_7, qge_7, qeq_7, qlt_8, qle_8, qgt_8, qge_8, qeq_8, qlt_9, qle_9, qgt_9, qge_9, qeq_9, qlt_10, qle_10, qgt_10, qge_10, qeq_10, qlt_12, qle_12, qgt_12, qge_12, qeq_12, qlt_16, qle_16, qgt_16, qge_16, qeq_16, qlt_20, qle_20, qgt_20, qge_20, qeq_20, qlt_24, qle_24, qgt_24, qge_24, qeq_24, qlt_30, qle_30, qgt_30, qge_30, qeq_30, qlt_32, qle_32, qgt_32, qge_32, qeq_32, qlt_37, qle_37, qgt_37, qge_37, qeq_37, qlt_40, qle_40, qgt_40, qge_40, qeq_40, qlt_42, qle_42, qgt_42, qge_42, qeq_42, qlt_43, qle_43, qgt_43, qge_43, qeq_43, qlt_45, qle_45, qgt_45, qge_45, qeq_45, qlt_47, qle_47, qgt_47, qge_47, qeq_47, qlt_48, qle_48, qgt_48, qge_48, qeq_48, qlt_57, qle_57, qgt_57, qge_57, qeq_57, qlt_59, qle_59, qgt_59, qge_59, qeq_59, qlt_60, qle_60, qgt_60, qge_60, qeq_60, qlt_61, qle_61, qgt_61, qge_61, qeq_61, qlt_62, qle_62, qgt_62, qge_62, qeq_62, qlt_64, qle_64, qgt_64, qge_64, qeq_64, qlt_91, qle_91, qgt_91, qge_91, qeq_91, qlt_93, qle_93, qgt_93, qge_93, qeq_93, qlt_97, qle_97, qgt_97, qge_97, qeq_97, qlt_122, qle_122, qgt_122, qge_122, qeq_122, qlt_400, qle_400, qgt_400, qge_400, qeq_400, qlt_999, qle_999, qgt_999, qge_999, qeq_999, qlt_0, qle_0, qgt_0, qge_0, qeq_0, qltm, qeqm, ↓reduceIte, Option.bind_some, not_true_eq_false, not_false_eq_true, and_true, true_and, and_false, false_and, or_false, false_or, or_true, true_or, Bool.false_eq_true, reduceCtorEq, Nat.le_refl]) jF 0 () (Nat.zero_le _) (by show _ < 5000; omega) (fun j hj => by omega)
  rw [← hp]; exact hr
theorem k_winner {S : jS} {T : jT} {X : jS} (h : INV S T X) (a0 : Int32) : ∃ S1 X1 v, f10_winner T S a0 = some (S1, v) ∧ f11_winner X a0 = some (X1, v) ∧ INV S1 T X1 := by
  obtain ⟨N, hN, hc, hr, -⟩ := h.get
  obtain ⟨h40, q, ru, q1, q2, q3⟩ := h.rule
  have m0 : (0 : Int32).toInt64 = 0 := by decide
  have m1 : (1 : Int32).toInt64 = 1 := by decide
  unfold f10_winner f11_winner
  rw [c_told hN hc, r_told hN hr, r_in a0 m0 m1, q1]
  by_cases z : N 0 0 = 0
  · exact ⟨S, X, -1, by simp [z], by simp [z], h⟩
  · simp only [z, ↓reduceIte, Option.bind_some, not_true_eq_false, not_false_eq_true, and_true, true_and, and_false, false_and, or_false, false_or, or_true, true_or, Bool.false_eq_true, reduceCtorEq, one_ne0]
    by_cases c : 0 ≤ a0 ∧ a0 ≤ 1
    · have d : ¬ a0 < 0 := by grind
      obtain ⟨S1, s1, s2⟩ := c_whenOver (T := T) hN hc q2
      obtain ⟨X0, x1, x2, x3, -⟩ := RRun.keep hr hN
      obtain ⟨X1, y1, y2, y3⟩ := r_whenOver (l1 := a0) x2 (x3.trans h40) q3
      obtain ⟨X2, w1, w2, w3, w4⟩ := y2.lay hr hN
      have fin : INV S1 T X2 := h.end s2.1 w2.1 w4 (by rw [w3, y3, h40])
      simp only [c, d, ↓reduceIte, Option.bind_some, not_true_eq_false, not_false_eq_true, and_true, true_and, and_false, false_and, or_false, false_or, or_true, true_or, Bool.false_eq_true, reduceCtorEq, one_ne0, and_self, s1, x1, y1]
      by_cases e0 : a0 = 0
      · simp only [e0, ↓reduceIte, Option.bind_some, not_true_eq_false, not_false_eq_true, and_true, true_and, and_false, false_and, or_false, false_or, or_true, true_or, Bool.false_eq_true, reduceCtorEq, c_alone s2.2.2 s2.2.1, r_alone y2.2.2.2.1 y2.2.2.1, w1]
        exact ⟨_, _, _, rfl, rfl, fin⟩
      · have f1 : S1.1 21 5 = nI (wov ru 6 N 0 5) := s2.2.1.1 5 (by omega) (by omega)
        have f2 := HV5 y2.2.2.1
        simp only [e0, ↓reduceIte, Option.bind_some, not_true_eq_false, not_false_eq_true, and_true, true_and, and_false, false_and, or_false, false_or, or_true, true_or, Bool.false_eq_true, reduceCtorEq, f1, f2, w1]
        exact ⟨_, _, _, rfl, rfl, fin⟩
    · refine ⟨S, X, -1, ?_, by simp only [c, ↓reduceIte, Option.bind_some, not_true_eq_false, not_false_eq_true, and_true, true_and, and_false, false_and, or_false, false_or, or_true, true_or, Bool.false_eq_true, reduceCtorEq], h⟩
      by_cases d : a0 < 0
      · rw [if_pos d]
      · rw [if_neg d, if_neg (by grind)]
def gst (ru : Option mR) (g : Nat) : Nat → mN → mN
  | 0, N => N
  | n + 1, N => if ovB N = true ∨ (N 0 4).testBit g = false then N else gst ru g n (rst ru N)
theorem gst_o {ru : Option mR} {g n : Nat} {N : mN} (h : ovB N = true ∨ (N 0 4).testBit g = false) : gst ru g n N = N := by
  cases n with
  | zero => rfl
  | succ n => unfold gst; rw [if_pos h]
def gonV (N : mN) (g : Nat) : Int32 := if (N 0 4).testBit g = true then -2 else nI (N 0 5) - 1
theorem rst_02 {ru : Option mR} {N : mN} : rst ru N 0 2 = N 0 2 := by
  unfold rst rbb; split <;> rfl
theorem c_gone {T : jT} {S : jS} {N : mN} {q : Option Nat} {ru : Option mR} {g : Nat} (hN : NOk N) (h : HIs (hC S (100 + 8)) N) (hq : ruC T S q ru) (hg : (N 0 4).testBit g = true) : ∃ S1, f2_roundOut T S (100 + 8) q (nI g) = some (S1, gonV (gst ru g 6 N) g) ∧ cQ S S1 := by
  have hg2 := hN.ib hg
  obtain ⟨r, hr, hp1, hp2⟩ := lp_up (G := 6) (Post := fun r : jS × Int32 => r.2 = gonV (gst ru g 6 N) g ∧ cQ S r.1) (fun m k S' => f2_roundOut_L1 T q (nI g) m S' (nI k)) (fun k S' => ∃ M, CRun S S' 21 M ∧ gst ru g (6 - k) M = gst ru g 6 N ∧ (M 0 4).testBit g = true ∧ g < M 0 2) (by
    rintro m k S' hk ⟨M, hI, hw, hb, hgm⟩
    have n1 : ¬ 6 ≤ k := by omega
    obtain ⟨j, hj⟩ : ∃ j, 6 - k = j + 1 := ⟨5 - k, by omega⟩
    by_cases hv : ovB M = true
    · right
      rw [gst_o (Or.inl hv)] at hw
      refine ⟨(S', -2), ?_, ?_, hI.1⟩
      · rw [f2_roundOut_L1]
        simp (disch := omega) only [(c_over hI.2.2 hI.2.1).1 (ovB_t.mp hv), nI_ltI, nI_leI, nI_eq, nI_clamp, nI_1, nI_add, nI_mul, inb_n, irm_n, nI_div, nI_m6, nI_d6, irm_6, qlt_1, qle_1, qgt_1, qge_1, qeq_1, qlt_2, qle_2, qgt_2, qge_2, qeq_2, qlt_3, qle_3, qgt_3, qge_3, qeq_3, qlt_4, qle_4, qgt_4, qge_4, qeq_4, qlt_5, qle_5, qgt_5, qge_5, qeq_5, qlt_6, qle_6, qgt_6, qge_6, qeq_6, qlt_7, qle_7, qgt_7, qge_7, qeq_7, qlt_8, qle_8, qgt_8, qge_8, qeq_8, qlt_9, qle_9, qgt_9, qge_9, qeq_9, qlt_10, qle_10, qgt_10, qge_10, qeq_10, qlt_12, qle_12, qgt_12, qge_12, qeq_12, qlt_16, qle_16, qgt_16, qge_16, qeq_16, qlt_20, qle_20, qgt_20, qge_20, qeq_20, qlt_24, qle_24, qgt_24, qge_24, qeq_24, qlt_30, qle_30, qgt_30, qge_30, qeq_30, qlt_32, qle_32, qgt_32, qge_32, qeq_32, qlt_37, qle_37, qgt_37, qge_37, qeq_37, qlt_40, qle_40, qgt_40, qge_40, qeq_40, qlt_42, qle_42, qgt_42, qge_42, qeq_42, qlt_43, qle_43, qgt_43, qge_43, qeq_43, qlt_45, qle_45, qgt_45, qge_45, qeq_45, qlt_47, qle_47, qgt_47, qge_47, qeq_47, qlt_48, qle_48, qgt_48, qge_48, qeq_48, qlt_57, qle_57, qgt_57, qge_57, qeq_57, qlt_59, qle_59, qgt_59, qge_59, qeq_59, qlt_60, qle_60, qgt_60, qge_60, qeq_60, qlt_61, qle_61, qgt_61, qge_61, qeq_61, qlt_62, qle_62, qgt_62, qge_62, qeq_62, qlt_64, qle_64, qgt_64, qge_64, qeq_64, qlt_91, qle_91, qgt_91, qge_91, qeq_91, qlt_93, qle_93, qgt_93, qge_93, qeq_93, qlt_97, qle_97, qgt_97, qge_97, qeq_97, qlt_122, qle_122, qgt_122, qge_122, qeq_122, qlt_400, qle_400, qgt_400, qge_400, qeq_400, qlt_999, qle_999, qgt_999, qge_999, qeq_999, qlt_0, qle_0, qgt_0, qge_0, qeq_0, qltm, qeqm, ↓reduceIte, Option.bind_some, not_true_eq_false, not_false_eq_true, and_true, true_and, and_false, false_and, or_false, false_or, or_true, true_or, Bool.false_eq_true, reduceCtorEq, n1, one_ne0]
      · rw [← hw]; unfold gonV; rw [if_pos hb]
    · obtain ⟨S1, p1, p2⟩ := hI.by (T := T) (by omega) (by omega) hq
      have hng : ¬ (ovB M = true ∨ (M 0 4).testBit g = false) := by
        rintro (z | z)
        · exact hv z
        · rw [hb] at z; cases z
      have hst : gst ru g j (rst ru M) = gst ru g 6 N := by
        rw [← hw, hj, gst, if_neg hng]
      have hgm' : g < rst ru M 0 2 := by rw [rst_02]; exact hgm
      have hin := (c_in p2.2.2 p2.2.1).1 g hgm'
      by_cases hb1 : (rst ru M 0 4).testBit g = true
      · left
        refine ⟨S1, ?_, _, p2, ?_, hb1, hgm'⟩
        · rw [f2_roundOut_L1]
          simp (disch := omega) only [(c_over hI.2.2 hI.2.1).2 (fun z => hv (ovB_t.mpr z)), p1, hin, hb1, nI_ltI, nI_leI, nI_eq, nI_clamp, nI_1, nI_add, nI_mul, inb_n, irm_n, nI_div, nI_m6, nI_d6, irm_6, qlt_1, qle_1, qgt_1, qge_1, qeq_1, qlt_2, qle_2, qgt_2, qge_2, qeq_2, qlt_3, qle_3, qgt_3, qge_3, qeq_3, qlt_4, qle_4, qgt_4, qge_4, qeq_4, qlt_5, qle_5, qgt_5, qge_5, qeq_5, qlt_6, qle_6, qgt_6, qge_6, qeq_6, qlt_7, qle_7, qgt_7, qge_7, qeq_7, qlt_8, qle_8, qgt_8, qge_8, qeq_8, qlt_9, qle_9, qgt_9, qge_9, qeq_9, qlt_10, qle_10, qgt_10, qge_10, qeq_10, qlt_12, qle_12, qgt_12, qge_12, qeq_12, qlt_16, qle_16, qgt_16, qge_16, qeq_16, qlt_20, qle_20, qgt_20, qge_20, qeq_20, qlt_24, qle_24, qgt_24, qge_24, qeq_24, qlt_30, qle_30, qgt_30, qge_30, qeq_30, qlt_32, qle_32, qgt_32, qge_32, qeq_32, qlt_37, qle_37, qgt_37, qge_37, qeq_37, qlt_40, qle_40, qgt_40, qge_40, qeq_40, qlt_42, qle_42, qgt_42, qge_42, qeq_42, qlt_43, qle_43, qgt_43, qge_43, qeq_43, qlt_45, qle_45, qgt_45, qge_45, qeq_45, qlt_47, qle_47, qgt_47, qge_47, qeq_47, qlt_48, qle_48, qgt_48, qge_48, qeq_48, qlt_57, qle_57, qgt_57, qge_57, qeq_57, qlt_59, qle_59, qgt_59, qge_59, qeq_59, qlt_60, qle_60, qgt_60, qge_60, qeq_60, qlt_61, qle_61, qgt_61, qge_61, qeq_61, qlt_62, qle_62, qgt_62, qge_62, qeq_62, qlt_64, qle_64, qgt_64, qge_64, qeq_64, qlt_91, qle_91, qgt_91, qge_91, qeq_91, qlt_93, qle_93, qgt_93, qge_93, qeq_93, qlt_97, qle_97, qgt_97, qge_97, qeq_97, qlt_122, qle_122, qgt_122, qge_122, qeq_122, qlt_400, qle_400, qgt_400, qge_400, qeq_400, qlt_999, qle_999, qgt_999, qge_999, qeq_999, qlt_0, qle_0, qgt_0, qge_0, qeq_0, qltm, qeqm, ↓reduceIte, Option.bind_some, not_true_eq_false, not_false_eq_true, and_true, true_and, and_false, false_and, or_false, false_or, or_true, true_or, Bool.false_eq_true, reduceCtorEq, n1, one_ne0]
        · rw [show 6 - (k + 1) = j by omega]; exact hst
      · right
        have hb1' : (rst ru M 0 4).testBit g = false := by simpa using hb1
        rw [gst_o (Or.inr hb1')] at hst
        have e5 : S1.1 21 5 = nI (rst ru M 0 5) := p2.2.1.1 5 (by omega) (by omega)
        refine ⟨(S1, nI (rst ru M 0 5) - 1), ?_, ?_, p2.1⟩
        · rw [f2_roundOut_L1]
          simp (disch := omega) only [(c_over hI.2.2 hI.2.1).2 (fun z => hv (ovB_t.mpr z)), p1, hin, hb1, e5, nI_ltI, nI_leI, nI_eq, nI_clamp, nI_1, nI_add, nI_mul, inb_n, irm_n, nI_div, nI_m6, nI_d6, irm_6, qlt_1, qle_1, qgt_1, qge_1, qeq_1, qlt_2, qle_2, qgt_2, qge_2, qeq_2, qlt_3, qle_3, qgt_3, qge_3, qeq_3, qlt_4, qle_4, qgt_4, qge_4, qeq_4, qlt_5, qle_5, qgt_5, qge_5, qeq_5, qlt_6, qle_6, qgt_6, qge_6, qeq_6, qlt_7, qle_7, qgt_7, qge_7, qeq_7, qlt_8, qle_8, qgt_8, qge_8, qeq_8, qlt_9, qle_9, qgt_9, qge_9, qeq_9, qlt_10, qle_10, qgt_10, qge_10, qeq_10, qlt_12, qle_12, qgt_12, qge_12, qeq_12, qlt_16, qle_16, qgt_16, qge_16, qeq_16, qlt_20, qle_20, qgt_20, qge_20, qeq_20, qlt_24, qle_24, qgt_24, qge_24, qeq_24, qlt_30, qle_30, qgt_30, qge_30, qeq_30, qlt_32, qle_32, qgt_32, qge_32, qeq_32, qlt_37, qle_37, qgt_37, qge_37, qeq_37, qlt_40, qle_40, qgt_40, qge_40, qeq_40, qlt_42, qle_42, qgt_42, qge_42, qeq_42, qlt_43, qle_43, qgt_43, qge_43, qeq_43, qlt_45, qle_45, qgt_45, qge_45, qeq_45, qlt_47, qle_47, qgt_47, qge_47, qeq_47, qlt_48, qle_48, qgt_48, qge_48, qeq_48, qlt_57, qle_57, qgt_57, qge_57, qeq_57, qlt_59, qle_59, qgt_59, qge_59, qeq_59, qlt_60, qle_60, qgt_60, qge_60, qeq_60, qlt_61, qle_61, qgt_61, qge_61, qeq_61, qlt_62, qle_62, qgt_62, qge_62, qeq_62, qlt_64, qle_64, qgt_64, qge_64, qeq_64, qlt_91, qle_91, qgt_91, qge_91, qeq_91, qlt_93, qle_93, qgt_93, qge_93, qeq_93, qlt_97, qle_97, qgt_97, qge_97, qeq_97, qlt_122, qle_122, qgt_122, qge_122, qeq_122, qlt_400, qle_400, qgt_400, qge_400, qeq_400, qlt_999, qle_999, qgt_999, qge_999, qeq_999, qlt_0, qle_0, qgt_0, qge_0, qeq_0, qltm, qeqm, ↓reduceIte, Option.bind_some, not_true_eq_false, not_false_eq_true, and_true, true_and, and_false, false_and, or_false, false_or, or_true, true_or, Bool.false_eq_true, reduceCtorEq, n1]
        · rw [← hst]; unfold gonV; rw [if_neg hb1]) (by
    rintro m S' ⟨M, hI, hw, hb, hgm⟩
    have hw' : M = gst ru g 6 N := hw
    refine ⟨(S', -2), ?_, ?_, hI.1⟩
    · have n1 : 6 ≤ 6 := by omega
      rw [f2_roundOut_L1]
      simp (disch := omega) only [nI_ltI, nI_leI, nI_eq, nI_clamp, nI_1, nI_add, nI_mul, inb_n, irm_n, nI_div, nI_m6, nI_d6, irm_6, qlt_1, qle_1, qgt_1, qge_1, qeq_1, qlt_2, qle_2, qgt_2, qge_2, qeq_2, qlt_3, qle_3, qgt_3, qge_3, qeq_3, qlt_4, qle_4, qgt_4, qge_4, qeq_4, qlt_5, qle_5, qgt_5, qge_5, qeq_5, qlt_6, qle_6, qgt_6, qge_6, qeq_6, qlt_7, qle_7, qgt_7, qge_7, qeq_7, qlt_8, qle_8, qgt_8, qge_8, qeq_8, qlt_9, qle_9, qgt_9, qge_9, qeq_9, qlt_10, qle_10, qgt_10, qge_10, qeq_10, qlt_12, qle_12, qgt_12, qge_12, qeq_12, qlt_16, qle_16, qgt_16, qge_16, qeq_16, qlt_20, qle_20, qgt_20, qge_20, qeq_20, qlt_24, qle_24, qgt_24, qge_24, qeq_24, qlt_30, qle_30, qgt_30, qge_30, qeq_30, qlt_32, qle_32, qgt_32, qge_32, qeq_32, qlt_37, qle_37, qgt_37, qge_37, qeq_37, qlt_40, qle_40, qgt_40, qge_40, qeq_40, qlt_42, qle_42, qgt_42, qge_42, qeq_42, qlt_43, qle_43, qgt_43, qge_43, qeq_43, qlt_45, qle_45, qgt_45, qge_45, qeq_45, qlt_47, qle_47, qgt_47, qge_47, qeq_47, qlt_48, qle_48, qgt_48, qge_48, qeq_48, qlt_57, qle_57, qgt_57, qge_57, qeq_57, qlt_59, qle_59, qgt_59, qge_59, qeq_59, qlt_60, qle_60, qgt_60, qge_60, qeq_60, qlt_61, qle_61, qgt_61, qge_61, qeq_61, qlt_62, qle_62, qgt_62, qge_62, qeq_62, qlt_64, qle_64, qgt_64, qge_64, qeq_64, qlt_91, qle_91, qgt_91, qge_91, qeq_91, qlt_93, qle_93, qgt_93, qge_93, qeq_93, qlt_97, qle_97, qgt_97, qge_97, qeq_97, qlt_122, qle_122, qgt_122, qge_122, qeq_122, qlt_400, qle_400, qgt_400, qge_400, qeq_400, qlt_999, qle_999, qgt_999, qge_999, qeq_999, qlt_0, qle_0, qgt_0, qge_0, qeq_0, qltm, qeqm, ↓reduceIte, Option.bind_some, not_true_eq_false, not_false_eq_true, and_true, true_and, and_false, false_and, or_false, false_or, or_true, true_or, Bool.false_eq_true, reduceCtorEq, n1]
    · rw [← hw']; unfold gonV; rw [if_pos hb]) jF 0 (cpF S 21 (100 + 8)) (Nat.zero_le _) (by show _ < 5000; omega) ⟨N, CRun.cp (cQ.rf S) hN h (by omega) (by omega) (by omega), rfl, hg, hg2⟩
  obtain ⟨S1, v⟩ := r
  refine ⟨S1, ?_, hp2⟩
  unfold f2_roundOut
  rw [cp_eq, Option.bind_some]
  have hr' : f2_roundOut_L1 T q (nI g) jF (cpF S 21 (100 + 8)) 0 = some (S1, v) := hr
  rw [hr']
  have hp1' : v = gonV (gst ru g 6 N) g := hp1
  rw [hp1']
theorem r_gone {X X' : jS} {N : mN} {ru : Option mR} {g : Nat} (h : RRun X X' N) (h40 : X'.1 0 40 = -1) (hq : ruR X ru) (hg : g < N 0 2) : ∃ X1, f11_gone_L1 (nI g) jF X' = some X1 ∧ RRun X X1 (gst ru g 6 N) ∧ X1.1 0 40 = -1 ∧ g < gst ru g 6 N 0 2 := by
  exact lp_m (Post := fun r : jS => RRun X r (gst ru g 6 N) ∧ r.1 0 40 = -1 ∧ g < gst ru g 6 N 0 2) (fun n (A : Nat × jS) => f11_gone_L1 (nI g) n A.2) (fun A => A.1) (fun A => ∃ M, RRun X A.2 M ∧ A.2.1 0 40 = -1 ∧ gst ru g A.1 M = gst ru g 6 N ∧ pcn (M 0 3) ≤ A.1 ∧ g < M 0 2) (by
    rintro n ⟨m, X'⟩ ⟨M, hI, i40, hw, hp, hgm⟩
    have hi := hI.2.2.2.1.i
    have hG := hI.2.2.2.1.2.2.1
    have e6 : X'.1 1 6 = nI (M 0 4) := HV4 hI.2.2.1
    have n7 : g < 7 := by omega
    by_cases hv : ovB M = true
    · right
      have hw' : M = gst ru g 6 N := by rw [← hw]; exact (gst_o (Or.inl hv)).symm
      refine ⟨X', ?_, hw' ▸ hI, i40, hw' ▸ hgm⟩
      show f11_gone_L1 (nI g) (n + 1) X' = _
      rw [f11_gone_L1]
      simp only [(r_done hI.2.2.2.1 hI.2.2.1).1 (ovB_t.mp hv), ↓reduceIte, Option.bind_some, not_true_eq_false, not_false_eq_true, and_true, true_and, and_false, false_and, or_false, false_or, or_true, true_or, Bool.false_eq_true, reduceCtorEq, one_ne0]
    · have hv' : ¬ overN M := fun z => hv (ovB_t.mpr z)
      by_cases hb : (M 0 4).testBit g = true
      · left
        obtain ⟨X1, p1, p2, p3⟩ := hI.by i40 hq
        have hp' : pcn (M 0 3) ≤ m := hp
        have hpc := rnd_pcn (b := bwN ru M) hI.2.2.2.1 hv'
        obtain ⟨m', rfl⟩ : ∃ m', m = m' + 1 := ⟨m - 1, by omega⟩
        have hng : ¬ (ovB M = true ∨ (M 0 4).testBit g = false) := by
          rintro (z | z)
          · exact hv z
          · rw [hb] at z; cases z
        refine ⟨(m', X1), ?_, ⟨_, p2, p3, ?_, ?_, by rw [rst_02]; exact hgm⟩, by show m' < m' + 1; omega⟩
        · show f11_gone_L1 (nI g) (n + 1) X' = f11_gone_L1 (nI g) n X1
          rw [f11_gone_L1]
          simp (disch := omega) only [(r_done hI.2.2.2.1 hI.2.2.1).2 hv', e6, r_has, hb, p1, ↓reduceIte, Option.bind_some, not_true_eq_false, not_false_eq_true, and_true, true_and, and_false, false_and, or_false, false_or, or_true, true_or, Bool.false_eq_true, reduceCtorEq, one_ne0]
        · rw [← hw]
          show _ = gst ru g (m' + 1) M
          rw [gst, if_neg hng]
        · rw [rst_n hv]
          show _ ≤ m'
          omega
      · right
        have hb' : (M 0 4).testBit g = false := by simpa using hb
        have hw' : M = gst ru g 6 N := by rw [← hw]; exact (gst_o (Or.inr hb')).symm
        refine ⟨X', ?_, hw' ▸ hI, i40, hw' ▸ hgm⟩
        show f11_gone_L1 (nI g) (n + 1) X' = _
        rw [f11_gone_L1]
        simp (disch := omega) only [(r_done hI.2.2.2.1 hI.2.2.1).2 hv', e6, r_has, hb, ↓reduceIte, Option.bind_some, not_true_eq_false, not_false_eq_true, and_true, true_and, and_false, false_and, or_false, false_or, or_true, true_or, Bool.false_eq_true, reduceCtorEq]) jF (6, X') (by show 6 < 5000; omega) ⟨N, h, h40, rfl, pcn_6 _ h.2.2.2.1.t, hg⟩
theorem k_gone {S : jS} {T : jT} {X : jS} (h : INV S T X) (a0 : Int32) : ∃ S1 X1 v, f10_gone T S a0 = some (S1, v) ∧ f11_gone X a0 = some (X1, v) ∧ INV S1 T X1 := by
  obtain ⟨N, hN, hc, hr, -⟩ := h.get
  obtain ⟨h40, q, ru, q1, q2, q3⟩ := h.rule
  have hG := hN.2.2.1
  unfold f10_gone f11_gone
  rcases arg_cs a0 (G := N 0 2) (by omega) with ⟨g, hg, rfl⟩ | hg
  · rw [(c_in hN hc).1 g hg, (r_still hN hr).1 g hg, q1]
    by_cases hb : (N 0 4).testBit g = true
    · obtain ⟨S1, s1, s2⟩ := c_gone (T := T) hN hc q2 hb
      obtain ⟨X0, x1, x2, x3, -⟩ := RRun.keep hr hN
      obtain ⟨X1, y1, y2, y3, y4⟩ := r_gone x2 (x3.trans h40) q3 hg
      obtain ⟨X2, w1, w2, w3, w4⟩ := y2.lay hr hN
      have fin : INV S1 T X2 := h.end s2 w2.1 w4 (by rw [w3, y3, h40])
      have hi := y2.2.2.2.1.i
      have hG2 := y2.2.2.2.1.2.2.1
      have e6 := HV4 y2.2.2.1
      have e3 := HV5 y2.2.2.1
      simp (disch := omega) only [hb, ↓reduceIte, Option.bind_some, not_true_eq_false, not_false_eq_true, and_true, true_and, and_false, false_and, or_false, false_or, or_true, true_or, Bool.false_eq_true, reduceCtorEq, one_ne0, s1, x1, y1, e6, r_has]
      refine ⟨S1, X2, gonV (gst ru g 6 N) g, rfl, ?_, fin⟩
      unfold gonV
      by_cases hb2 : (gst ru g 6 N 0 4).testBit g = true
      · simp only [hb2, ↓reduceIte, Option.bind_some, not_true_eq_false, not_false_eq_true, and_true, true_and, and_false, false_and, or_false, false_or, or_true, true_or, Bool.false_eq_true, reduceCtorEq, one_ne0, w1]
      · simp only [hb2, ↓reduceIte, Option.bind_some, not_true_eq_false, not_false_eq_true, and_true, true_and, and_false, false_and, or_false, false_or, or_true, true_or, Bool.false_eq_true, reduceCtorEq, e3, w1]
    · refine ⟨S, X, -1, ?_, ?_, h⟩
      · simp only [hb, ↓reduceIte, Option.bind_some, not_true_eq_false, not_false_eq_true, and_true, true_and, and_false, false_and, or_false, false_or, or_true, true_or, Bool.false_eq_true, reduceCtorEq]
      · simp only [hb, ↓reduceIte, Option.bind_some, not_true_eq_false, not_false_eq_true, and_true, true_and, and_false, false_and, or_false, false_or, or_true, true_or, Bool.false_eq_true, reduceCtorEq]
  · rw [(c_in hN hc).2 a0 hg, (r_still hN hr).2 a0 hg]
    exact ⟨S, X, -1, rfl, rfl, h⟩
