/-! parties of drawn beats -/
def lcg (d : Nat) : Nat := (d * 1103515245 + 12345) % 2147483648
theorem lcg_lt (d : Nat) : lcg d < 2 ^ 31 := Nat.mod_lt _ (by omega)
theorem lN_and (a b : Nat) : lN a &&& lN b = lN (a &&& b) := by
  apply Int64.toBitVec_inj.1
  show BitVec.ofNat 64 a &&& BitVec.ofNat 64 b = BitVec.ofNat 64 (a &&& b)
  apply BitVec.eq_of_getLsbD_eq
  intro i hi
  simp [hi]
theorem c_lcg (d : Nat) : ((lN d * 1103515245) + 12345) &&& 2147483647 = lN (lcg d) := by
  show ((lN d * lN 1103515245) + lN 12345) &&& lN 2147483647 = _
  have e : ∀ x : Nat, x &&& 2147483647 = x % 2147483648 := fun x => Nat.and_two_pow_sub_one_eq_mod x 31
  rw [lN_mul, lN_add, lN_and, e]
  rfl
theorem r_lcg {d : Nat} (h : d < 2 ^ 31) : (lrm (((nI d).toInt64 * 1103515245) + 12345) 2147483648).toInt32 = nI (lcg d) := by
  have hm : d * 1103515245 ≤ 2 ^ 31 * 1103515245 := Nat.mul_le_mul (by omega) (Nat.le_refl _)
  rw [nI_l h]
  show (lrm ((lN d * lN 1103515245) + lN 12345) (lN 2147483648)).toInt32 = _
  rw [lN_mul, lN_add]
  show (lN (d * 1103515245 + 12345) - lN (d * 1103515245 + 12345) / lN 2147483648 * lN 2147483648).toInt32 = _
  rw [pk_lRem (by omega) (by omega) (by omega), lN_i]
  rfl
theorem c_beat {x p : Nat} (hx : x < 2 ^ 31) (hp : 0 < p) (hp60 : p ≤ 60) : 1 + ((lrm (lN x / 65536) (nI p).toInt64).toInt32) = nI (1 + x / 65536 % p) := by
  rw [nI_l (by omega)]
  show 1 + ((lrm (lN x / lN 65536) (lN p)).toInt32) = _
  rw [pk_lDiv (by omega) (by omega) (by omega)]
  show 1 + ((lN (x / 65536) - lN (x / 65536) / lN p * lN p).toInt32) = _
  rw [pk_lRem (by omega) hp (by omega), lN_i]
  exact nI_add 1 _
theorem r_beat {x p : Nat} (hx : x < 2 ^ 31) (hp60 : p ≤ 60) : 1 + irm (nI x / 65536) (nI p) = nI (1 + x / 65536 % p) := by
  show 1 + irm (nI x / nI 65536) (nI p) = _
  rw [nI_div hx (by omega), irm_n (by omega) (by omega)]
  exact nI_add 1 _
def tuN (p : Nat) : Nat → mN × Nat → mN × Nat
  | 0, A => A
  | n + 1, A => if ovB A.1 = true then A else tuN p n (rnd A.1 (1 + lcg A.2 / 65536 % p), lcg A.2)
theorem tuN_o {p n : Nat} {A : mN × Nat} (h : ovB A.1 = true) : tuN p n A = A := by
  cases n with
  | zero => rfl
  | succ n => unfold tuN; rw [if_pos h]
theorem tb_le {x p : Nat} (hp : 0 < p) (hp60 : p ≤ 60) : 1 + x / 65536 % p ≤ 60 := by
  have : x / 65536 % p < p := Nat.mod_lt _ hp
  omega
theorem c_tune {S S' : jS} {N : mN} {p d a0 : Nat} {l3 l5 l6 l9 : Int32} (h : CRun S S' 21 N) (hd : d < 2 ^ 31) (hp : 0 < p) (hp60 : p ≤ 60) : ∃ r, f2_countTunes_L2 a0 l3 (nI p) l5 l6 l9 jF S' (lN d) 0 = some r ∧ CRun S r.1 21 (tuN p 6 (N, d)).1 ∧ r.2 = lN (tuN p 6 (N, d)).2 ∧ (tuN p 6 (N, d)).2 < 2 ^ 31 := by
  have hp0 : ¬ (nI p).toInt64 = 0 := by
    rw [nI_l (by omega)]
    intro z
    have : lN p = lN 0 := z
    rw [lN_eq (by omega) (by omega)] at this
    omega
  exact lp_up (G := 6) (Post := fun r : jS × Int64 => CRun S r.1 21 (tuN p 6 (N, d)).1 ∧ r.2 = lN (tuN p 6 (N, d)).2 ∧ (tuN p 6 (N, d)).2 < 2 ^ 31) (fun m k (A : jS × Int64) => f2_countTunes_L2 a0 l3 (nI p) l5 l6 l9 m A.1 A.2 (nI k)) (fun k A => ∃ M e, CRun S A.1 21 M ∧ A.2 = lN e ∧ e < 2 ^ 31 ∧ tuN p (6 - k) (M, e) = tuN p 6 (N, d)) (by
    rintro m k ⟨S2, l7⟩ hk ⟨M, e, hI, rfl, he, ht⟩
    have n1 : ¬ 6 ≤ k := by omega
    obtain ⟨j, hj⟩ : ∃ j, 6 - k = j + 1 := ⟨5 - k, by omega⟩
    by_cases hv : ovB M = true
    · right
      rw [tuN_o (A := (M, e)) hv] at ht
      refine ⟨(S2, lN e), ?_, by rw [← ht]; exact hI, by rw [← ht], by rw [← ht]; exact he⟩
      show f2_countTunes_L2 a0 l3 (nI p) l5 l6 l9 (m + 1) S2 (lN e) (nI k) = _
      rw [f2_countTunes_L2]
      simp (disch := omega) only [(c_over hI.2.2 hI.2.1).1 (ovB_t.mp hv), nI_ltI, nI_leI, nI_eq, nI_clamp, nI_1, nI_add, nI_mul, inb_n, irm_n, nI_div, nI_m6, nI_d6, irm_6, qlt_1, qle_1, qgt_1, qge_1, qeq_1, qlt_2, qle_2, qgt_2, qge_2, qeq_2, qlt_3, qle_3, qgt_3, qge_3, qeq_3, qlt_4, qle_4, qgt_4, qge_4, qeq_4, qlt_5, qle_5, qgt_5, qge_5, qeq_5, qlt_6, qle_6, qgt_6, qge_6, qeq_6, qlt_7, qle_7, qgt_7, qge_7, qeq_7, qlt_8, qle_8, qgt_8, qge_8, qeq_8, qlt_9, qle_9, qgt_9, qge_9, qeq_9, qlt_10, qle_10, qgt_10, qge_10, qeq_10, qlt_12, qle_12, qgt_12, qge_12, qeq_12, qlt_16, qle_16, qgt_16, qge_16, qeq_16, qlt_20, qle_20, qgt_20, qge_20, qeq_20, qlt_24, qle_24, qgt_24, qge_24, qeq_24, qlt_30, qle_30, qgt_30, qge_30, qeq_30, qlt_32, qle_32, qgt_32, qge_32, qeq_32, qlt_37, qle_37, qgt_37, qge_37, qeq_37, qlt_40, qle_40, qgt_40, qge_40, qeq_40, qlt_42, qle_42, qgt_42, qge_42, qeq_42, qlt_43, qle_43, qgt_43, qge_43, qeq_43, qlt_45, qle_45, qgt_45, qge_45, qeq_45, qlt_47, qle_47, qgt_47, qge_47, qeq_47, qlt_48, qle_48, qgt_48, qge_48, qeq_48, qlt_57, qle_57, qgt_57, qge_57, qeq_57, qlt_59, qle_59, qgt_59, qge_59, qeq_59, qlt_60, qle_60, qgt_60, qge_60, qeq_60, qlt_61, qle_61, qgt_61, qge_61, qeq_61, qlt_62, qle_62, qgt_62, qge_62, qeq_62, qlt_64, qle_64, qgt_64, qge_64, qeq_64, qlt_91, qle_91, qgt_91, qge_91, qeq_91, qlt_93, qle_93, qgt_93, qge_93, qeq_93, qlt_97, qle_97, qgt_97, qge_97, qeq_97, qlt_122, qle_122, qgt_122, qge_122, qeq_122, qlt_400, qle_400, qgt_400, qge_400, qeq_400, qlt_999, qle_999, qgt_999, qge_999, qeq_999, qlt_0, qle_0, qgt_0, qge_0, qeq_0, qltm, qeqm, ↓reduceIte, Option.bind_some, not_true_eq_false, not_false_eq_true, and_true, true_and, and_false, false_and, or_false, false_or, or_true, true_or, Bool.false_eq_true, reduceCtorEq, n1, one_ne0]
    · left
      have hx := lcg_lt e
      obtain ⟨S1, p1, p2, p3⟩ := hI.of (b := 1 + lcg e / 65536 % p) (by omega) (by omega) (tb_le hp hp60)
      refine ⟨(S1, lN (lcg e)), ?_, rnd M (1 + lcg e / 65536 % p), lcg e, p2, rfl, hx, ?_⟩
      · show f2_countTunes_L2 a0 l3 (nI p) l5 l6 l9 (m + 1) S2 (lN e) (nI k) = f2_countTunes_L2 a0 l3 (nI p) l5 l6 l9 m S1 (lN (lcg e)) (nI (k + 1))
        have hb := c_beat hx hp hp60
        rw [f2_countTunes_L2]
        simp (disch := omega) only [(c_over hI.2.2 hI.2.1).2 (fun z => hv (ovB_t.mpr z)), c_lcg, hb, p1, hp0, nI_ltI, nI_leI, nI_eq, nI_clamp, nI_1, nI_add, nI_mul, inb_n, irm_n, nI_div, nI_m6, nI_d6, irm_6, qlt_1, qle_1, qgt_1, qge_1, qeq_1, qlt_2, qle_2, qgt_2, qge_2, qeq_2, qlt_3, qle_3, qgt_3, qge_3, qeq_3, qlt_4, qle_4, qgt_4, qge_4, qeq_4, qlt_5, qle_5, qgt_5, qge_5, qeq_5, qlt_6, qle_6, qgt_6, qge_6, qeq_6, qlt_7, qle_7, qgt_7, qge_7, qeq_7, qlt_8, qle_8, qgt_8, qge_8, qeq_8, qlt_9, qle_9, qgt_9, qge_9, qeq_9, qlt_10, qle_10, qgt_10, qge_10, qeq_10, qlt_12, qle_12, qgt_12, qge_12, qeq_12, qlt_16, qle_16, qgt_16, qge_16, qeq_16, qlt_20, qle_20, qgt_20, qge_20, qeq_20, qlt_24, qle_24, qgt_24, qge_24, qeq_24, qlt_30, qle_30, qgt_30, qge_30, qeq_30, qlt_32, qle_32, qgt_32, qge_32, qeq_32, qlt_37, qle_37, qgt_37, qge_37, qeq_37, qlt_40, qle_40, qgt_40, qge_40, qeq_40, qlt_42, qle_42, qgt_42, qge_42, qeq_42, qlt_43, qle_43, qgt_43, qge_43, qeq_43, qlt_45, qle_45, qgt_45, qge_45, qeq_45, qlt_47, qle_47, qgt_47, qge_47, qeq_47, qlt_48, qle_48, qgt_48, qge_48, qeq_48, qlt_57, qle_57, qgt_57, qge_57, qeq_57, qlt_59, qle_59, qgt_59, qge_59, qeq_59, qlt_60, qle_60, qgt_60, qge_60, qeq_60, qlt_61, qle_61, qgt_61, qge_61, qeq_61, qlt_62, qle_62, qgt_62, qge_62, qeq_62, qlt_64, qle_64, qgt_64, qge_64, qeq_64, qlt_91, qle_91, qgt_91, qge_91, qeq_91, qlt_93, qle_93, qgt_93, qge_93, qeq_93, qlt_97, qle_97, qgt_97, qge_97, qeq_97, qlt_122, qle_122, qgt_122, qge_122, qeq_122, qlt_400, qle_400, qgt_400, qge_400, qeq_400, qlt_999, qle_999, qgt_999, qge_999, qeq_999, qlt_0, qle_0, qgt_0, qge_0, qeq_0, qltm, qeqm, ↓reduceIte, Option.bind_some, not_true_eq_false, not_false_eq_true, and_true, true_and, and_false, false_and, or_false, false_or, or_true, true_or, Bool.false_eq_true, reduceCtorEq, n1]
      · rw [← ht, hj, show 6 - (k + 1) = j by omega, tuN, if_neg hv]) (by
    rintro m ⟨S2, l7⟩ ⟨M, e, hI, rfl, he, ht⟩
    have ht' : (M, e) = tuN p 6 (N, d) := ht
    refine ⟨(S2, lN e), ?_, by rw [← ht']; exact hI, by rw [← ht'], by rw [← ht']; exact he⟩
    have n1 : 6 ≤ 6 := by omega
    show f2_countTunes_L2 a0 l3 (nI p) l5 l6 l9 (m + 1) S2 (lN e) (nI 6) = _
    rw [f2_countTunes_L2]
    simp (disch := omega) only [nI_ltI, nI_leI, nI_eq, nI_clamp, nI_1, nI_add, nI_mul, inb_n, irm_n, nI_div, nI_m6, nI_d6, irm_6, qlt_1, qle_1, qgt_1, qge_1, qeq_1, qlt_2, qle_2, qgt_2, qge_2, qeq_2, qlt_3, qle_3, qgt_3, qge_3, qeq_3, qlt_4, qle_4, qgt_4, qge_4, qeq_4, qlt_5, qle_5, qgt_5, qge_5, qeq_5, qlt_6, qle_6, qgt_6, qge_6, qeq_6, qlt_7, qle_7, qgt_7, qge_7, qeq_7, qlt_8, qle_8, qgt_8, qge_8, qeq_8, qlt_9, qle_9, qgt_9, qge_9, qeq_9, qlt_10, qle_10, qgt_10, qge_10, qeq_10, qlt_12, qle_12, qgt_12, qge_12, qeq_12, qlt_16, qle_16, qgt_16, qge_16, qeq_16, qlt_20, qle_20, qgt_20, qge_20, qeq_20, qlt_24, qle_24, qgt_24, qge_24, qeq_24, qlt_30, qle_30, qgt_30, qge_30, qeq_30, qlt_32, qle_32, qgt_32, qge_32, qeq_32, qlt_37, qle_37, qgt_37, qge_37, qeq_37, qlt_40, qle_40, qgt_40, qge_40, qeq_40, qlt_42, qle_42, qgt_42, qge_42, qeq_42, qlt_43, qle_43, qgt_43, qge_43, qeq_43, qlt_45, qle_45, qgt_45, qge_45, qeq_45, qlt_47, qle_47, qgt_47, qge_47, qeq_47, qlt_48, qle_48, qgt_48, qge_48, qeq_48, qlt_57, qle_57, qgt_57, qge_57, qeq_57, qlt_59, qle_59, qgt_59, qge_59, qeq_59, qlt_60, qle_60, qgt_60, qge_60, qeq_60, qlt_61, qle_61, qgt_61, qge_61, qeq_61, qlt_62, qle_62, qgt_62, qge_62, qeq_62, qlt_64, qle_64, qgt_64, qge_64, qeq_64, qlt_91, qle_91, qgt_91, qge_91, qeq_91, qlt_93, qle_93, qgt_93, qge_93, qeq_93, qlt_97, qle_97, qgt_97, qge_97, qeq_97, qlt_122, qle_122, qgt_122, qge_122, qeq_122, qlt_400, qle_400, qgt_400, qge_400, qeq_400, qlt_999, qle_999, qgt_999, qge_999, qeq_999, qlt_0, qle_0, qgt_0, qge_0, qeq_0, qltm, qeqm, ↓reduceIte, Option.bind_some, not_true_eq_false, not_false_eq_true, and_true, true_and, and_false, false_and, or_false, false_or, or_true, true_or, Bool.false_eq_true, reduceCtorEq, n1]) jF 0 (S', lN d) (Nat.zero_le _) (by show _ < 5000; omega) ⟨N, d, h, rfl, hd, rfl⟩
theorem RRun.w9 {X X' : jS} {N : mN} {x : Int32} (h : RRun X X' N) : RRun X (wI X' 1 9 x) N :=
  ⟨h.1.tr (fun a i g1 g2 => by rw [wI_g, if_neg (by omega)]), h.2.1.fr (fun i => wI_ne (by omega)), by
    refine HIs_V ?_ ?_ ?_ ?_ ?_ ?_ ?_ ?_ (fun c hc => ?_) (fun a g g1 g2 hg => ?_)
    · rw [wI_nj (by omega)]; exact HV0 h.2.2.1
    · rw [wI_nj (by omega)]; exact HV1 h.2.2.1
    · rw [wI_nj (by omega)]; exact HV2 h.2.2.1
    · rw [wI_nj (by omega)]; exact HV3 h.2.2.1
    · rw [wI_nj (by omega)]; exact HV4 h.2.2.1
    · rw [wI_nj (by omega)]; exact HV5 h.2.2.1
    · rw [wI_nj (by omega)]; exact HV6 h.2.2.1
    · rw [wI_nj (by omega)]; exact HV7 h.2.2.1
    · rw [wI_ne (by omega)]; exact HVc h.2.2.1 hc
    · rw [wI_ne (by omega)]; exact HVg h.2.2.1 g1 g2 hg, h.2.2.2.1, by rw [wI_nj (by omega)]; exact h.2.2.2.2⟩
theorem RRun.of9 {X X' : jS} {N : mN} {b : Nat} (h : RRun X X' N) (h40 : X'.1 0 40 = nI b) (hb : b ≤ 60) : ∃ X1, f11_goes X' = some (X1, nI (rbs N b)) ∧ RRun X X1 (rbb N b) ∧ X1.1 1 9 = X'.1 1 9 := by
  obtain ⟨g1, g2, g3, g4, g5⟩ := h
  obtain ⟨X1, p1, p2, p3⟩ := r_gb g4 g3 h40 hb
  exact ⟨X1, p1, ⟨g1.tr p3.q, g2.fr (fun i => p3 _ _ (by omega) (by omega) (by omega) (by omega) (by omega) (by omega)), p2, rbb_ok g4 hb, (p3 1 10 (by omega) (by omega) (by omega) (by omega) (by omega) (by omega)).trans g5⟩, p3 1 9 (by omega) (by omega) (by omega) (by omega) (by omega) (by omega)⟩
theorem r_draw {X : jS} {d p : Nat} (h : X.1 1 9 = nI d) (hd : d < 2 ^ 31) (hp : 0 < p) (hp60 : p ≤ 60) : f11_draws X (nI p) = some (wI X 1 9 (nI (lcg d)), nI (lcg d / 65536 % p)) := by
  have hx := lcg_lt d
  have e : irm (nI (lcg d) / 65536) (nI p) = nI (lcg d / 65536 % p) := by
    show irm (nI (lcg d) / nI 65536) (nI p) = _
    rw [nI_div hx (by omega), irm_n (by omega) (by omega)]
  have n0 : ¬ p = 0 := by omega
  unfold f11_draws
  rw [h, r_lcg hd, wI_self, e]
  simp (disch := omega) only [nI_ltI, nI_leI, nI_eq, nI_clamp, nI_1, nI_add, nI_mul, inb_n, irm_n, nI_div, nI_m6, nI_d6, irm_6, qlt_1, qle_1, qgt_1, qge_1, qeq_1, qlt_2, qle_2, qgt_2, qge_2, qeq_2, qlt_3, qle_3, qgt_3, qge_3, qeq_3, qlt_4, qle_4, qgt_4, qge_4, qeq_4, qlt_5, qle_5, qgt_5, qge_5, qeq_5, qlt_6, qle_6, qgt_6, qge_6, qeq_6, qlt_7, qle_7, qgt_7, qge_7, qeq_7, qlt_8, qle_8, qgt_8, qge_8, qeq_8, qlt_9, qle_9, qgt_9, qge_9, qeq_9, qlt_10, qle_10, qgt_10, qge_10, qeq_10, qlt_12, qle_12, qgt_12, qge_12, qeq_12, qlt_16, qle_16, qgt_16, qge_16, qeq_16, qlt_20, qle_20, qgt_20, qge_20, qeq_20, qlt_24, qle_24, qgt_24, qge_24, qeq_24, qlt_30, qle_30, qgt_30, qge_30, qeq_30, qlt_32, qle_32, qgt_32, qge_32, qeq_32, qlt_37, qle_37, qgt_37, qge_37, qeq_37, qlt_40, qle_40, qgt_40, qge_40, qeq_40, qlt_42, qle_42, qgt_42, qge_42, qeq_42, qlt_43, qle_43, qgt_43, qge_43, qeq_43, qlt_45, qle_45, qgt_45, qge_45, qeq_45, qlt_47, qle_47, qgt_47, qge_47, qeq_47, qlt_48, qle_48, qgt_48, qge_48, qeq_48, qlt_57, qle_57, qgt_57, qge_57, qeq_57, qlt_59, qle_59, qgt_59, qge_59, qeq_59, qlt_60, qle_60, qgt_60, qge_60, qeq_60, qlt_61, qle_61, qgt_61, qge_61, qeq_61, qlt_62, qle_62, qgt_62, qge_62, qeq_62, qlt_64, qle_64, qgt_64, qge_64, qeq_64, qlt_91, qle_91, qgt_91, qge_91, qeq_91, qlt_93, qle_93, qgt_93, qge_93, qeq_93, qlt_97, qle_97, qgt_97, qge_97, qeq_97, qlt_122, qle_122, qgt_122, qge_122, qeq_122, qlt_400, qle_400, qgt_400, qge_400, qeq_400, qlt_999, qle_999, qgt_999, qge_999, qeq_999, qlt_0, qle_0, qgt_0, qge_0, qeq_0, qltm, qeqm, ↓reduceIte, Option.bind_some, not_true_eq_false, not_false_eq_true, and_true, true_and, and_false, false_and, or_false, false_or, or_true, true_or, Bool.false_eq_true, reduceCtorEq, n0]
def tuM (p : Nat) (w : Int32) (N : mN) (s : Nat) : Nat → Nat × Nat
  | 0 => (0, s)
  | k + 1 => ((tuM p w N s k).1 + (if aln ((tuN p 6 (N, (tuM p w N s k).2)).1 0 4) = w then 1 else 0), (tuN p 6 (N, (tuM p w N s k).2)).2)
theorem c_tunes {S : jS} {N : mN} {p m s : Nat} {w : Int32} (hN : NOk N) (h : HIs (hC S (100 + 8)) N) (hs : s < 2 ^ 31) (hp : 0 < p) (hp60 : p ≤ 60) (hm : m ≤ 20) : ∃ S1, f2_countTunes S (100 + 8) (nI s) (nI m) (nI p) w = some (S1, nI (tuM p w N s m).1) ∧ cQ S S1 := by
  obtain ⟨⟨S1, v⟩, r1, r2, r3⟩ := lp_up (G := m) (Post := fun r : jS × Int32 => r.2 = nI (tuM p w N s m).1 ∧ cQ S r.1) (fun n k (A : jS × Int32 × Int64) => f2_countTunes_L1 (100 + 8) (nI m) (nI p) w n A.1 A.2.1 A.2.2 (nI k)) (fun k A => A.2.1 = nI (tuM p w N s k).1 ∧ A.2.2 = lN (tuM p w N s k).2 ∧ (tuM p w N s k).2 < 2 ^ 31 ∧ cQ S A.1) (by
    rintro n k ⟨S2, l6, l7⟩ hk ⟨rfl, rfl, hd, hI⟩
    left
    have n1 : ¬ m ≤ k := by omega
    have n2 : ¬ p = 0 := by omega
    have hh : HIs (hC S2 (100 + 8)) N := h.mono (fun a i g1 g2 => hI a i (by omega) (by omega))
    obtain ⟨⟨S3, x⟩, t1, t2, t3, t4⟩ := c_tune (a0 := 100 + 8) (l3 := nI m) (l5 := w) (l6 := nI (tuM p w N s k).1) (l9 := nI k) (CRun.cp (o := 21) (a0 := 100 + 8) hI hN hh (by omega) (by omega) (by omega)) hd hp hp60
    have t3' : x = lN (tuN p 6 (N, (tuM p w N s k).2)).2 := t3
    subst t3'
    refine ⟨(S3, nI (tuM p w N s (k + 1)).1, lN (tuM p w N s (k + 1)).2), ?_, rfl, rfl, t4, t2.1⟩
    show f2_countTunes_L1 (100 + 8) (nI m) (nI p) w (n + 1) S2 (nI (tuM p w N s k).1) (lN (tuM p w N s k).2) (nI k) = f2_countTunes_L1 (100 + 8) (nI m) (nI p) w n S3 (nI (tuM p w N s (k + 1)).1) (lN (tuM p w N s (k + 1)).2) (nI (k + 1))
    have al := c_alone t2.2.2 t2.2.1
    rw [f2_countTunes_L1, tuM]
    by_cases e : aln ((tuN p 6 (N, (tuM p w N s k).2)).1 0 4) = w
    · simp (disch := omega) only [cp_eq, t1, al, e, nI_ltI, nI_leI, nI_eq, nI_clamp, nI_1, nI_add, nI_mul, inb_n, irm_n, nI_div, nI_m6, nI_d6, irm_6, qlt_1, qle_1, qgt_1, qge_1, qeq_1, qlt_2, qle_2, qgt_2, qge_2, qeq_2, qlt_3, qle_3, qgt_3, qge_3, qeq_3, qlt_4, qle_4, qgt_4, qge_4, qeq_4, qlt_5, qle_5, qgt_5, qge_5, qeq_5, qlt_6, qle_6, qgt_6, qge_6, qeq_6, qlt_7, qle_7, qgt_7, qge_7, qeq_7, qlt_8, qle_8, qgt_8, qge_8, qeq_8, qlt_9, qle_9, qgt_9, qge_9, qeq_9, qlt_10, qle_10, qgt_10, qge_10, qeq_10, qlt_12, qle_12, qgt_12, qge_12, qeq_12, qlt_16, qle_16, qgt_16, qge_16, qeq_16, qlt_20, qle_20, qgt_20, qge_20, qeq_20, qlt_24, qle_24, qgt_24, qge_24, qeq_24, qlt_30, qle_30, qgt_30, qge_30, qeq_30, qlt_32, qle_32, qgt_32, qge_32, qeq_32, qlt_37, qle_37, qgt_37, qge_37, qeq_37, qlt_40, qle_40, qgt_40, qge_40, qeq_40, qlt_42, qle_42, qgt_42, qge_42, qeq_42, qlt_43, qle_43, qgt_43, qge_43, qeq_43, qlt_45, qle_45, qgt_45, qge_45, qeq_45, qlt_47, qle_47, qgt_47, qge_47, qeq_47, qlt_48, qle_48, qgt_48, qge_48, qeq_48, qlt_57, qle_57, qgt_57, qge_57, qeq_57, qlt_59, qle_59, qgt_59, qge_59, qeq_59, qlt_60, qle_60, qgt_60, qge_60, qeq_60, qlt_61, qle_61, qgt_61, qge_61, qeq_61, qlt_62, qle_62, qgt_62, qge_62, qeq_62, qlt_64, qle_64, qgt_64, qge_64, qeq_64, qlt_91, qle_91, qgt_91, qge_91, qeq_91, qlt_93, qle_93, qgt_93, qge_93, qeq_93, qlt_97, qle_97, qgt_97, qge_97, qeq_97, qlt_122, qle_122, qgt_122, qge_122, qeq_122, qlt_400, qle_400, qgt_400, qge_400, qeq_400, qlt_999, qle_999, qgt_999, qge_999, qeq_999, qlt_0, qle_0, qgt_0, qge_0, qeq_0, qltm, qeqm, ↓reduceIte, Option.bind_some, not_true_eq_false, not_false_eq_true, and_true, true_and, and_false, false_and, or_false, false_or, or_true, true_or, Bool.false_eq_true, reduceCtorEq, n1, n2]
    · simp (disch := omega) only [cp_eq, t1, al, e, nI_ltI, nI_leI, nI_eq, nI_clamp, nI_1, nI_add, nI_mul, inb_n, irm_n, nI_div, nI_m6, nI_d6, irm_6, qlt_1, qle_1, qgt_1, qge_1, qeq_1, qlt_2, qle_2, qgt_2, qge_2, qeq_2, qlt_3, qle_3, qgt_3, qge_3, qeq_3, qlt_4, qle_4, qgt_4, qge_4, qeq_4, qlt_5, qle_5, qgt_5, qge_5, qeq_5, qlt_6, qle_6, qgt_6, qge_6, qeq_6, qlt_7, qle_7, qgt_7, qge_7, qeq_7, qlt_8, qle_8, qgt_8, qge_8, qeq_8, qlt_9, qle_9, qgt_9, qge_9, qeq_9, qlt_10, qle_10, qgt_10, qge_10, qeq_10, qlt_12, qle_12, qgt_12, qge_12, qeq_12, qlt_16, qle_16, qgt_16, qge_16, qeq_16, qlt_20, qle_20, qgt_20, qge_20, qeq_20, qlt_24, qle_24, qgt_24, qge_24, qeq_24, qlt_30, qle_30, qgt_30, qge_30, qeq_30, qlt_32, qle_32, qgt_32, qge_32, qeq_32, qlt_37, qle_37, qgt_37, qge_37, qeq_37, qlt_40, qle_40, qgt_40, qge_40, qeq_40, qlt_42, qle_42, qgt_42, qge_42, qeq_42, qlt_43, qle_43, qgt_43, qge_43, qeq_43, qlt_45, qle_45, qgt_45, qge_45, qeq_45, qlt_47, qle_47, qgt_47, qge_47, qeq_47, qlt_48, qle_48, qgt_48, qge_48, qeq_48, qlt_57, qle_57, qgt_57, qge_57, qeq_57, qlt_59, qle_59, qgt_59, qge_59, qeq_59, qlt_60, qle_60, qgt_60, qge_60, qeq_60, qlt_61, qle_61, qgt_61, qge_61, qeq_61, qlt_62, qle_62, qgt_62, qge_62, qeq_62, qlt_64, qle_64, qgt_64, qge_64, qeq_64, qlt_91, qle_91, qgt_91, qge_91, qeq_91, qlt_93, qle_93, qgt_93, qge_93, qeq_93, qlt_97, qle_97, qgt_97, qge_97, qeq_97, qlt_122, qle_122, qgt_122, qge_122, qeq_122, qlt_400, qle_400, qgt_400, qge_400, qeq_400, qlt_999, qle_999, qgt_999, qge_999, qeq_999, qlt_0, qle_0, qgt_0, qge_0, qeq_0, qltm, qeqm, ↓reduceIte, Option.bind_some, not_true_eq_false, not_false_eq_true, and_true, true_and, and_false, false_and, or_false, false_or, or_true, true_or, Bool.false_eq_true, reduceCtorEq, n1, n2, Nat.add_zero]) (by
    rintro n ⟨S2, l6, l7⟩ ⟨h6, h7, hd, hI⟩
    refine ⟨(S2, l6), ?_, h6, hI⟩
    show f2_countTunes_L1 (100 + 8) (nI m) (nI p) w (n + 1) S2 l6 l7 (nI m) = _
    rw [f2_countTunes_L1]
    simp (disch := omega) only [nI_ltI, nI_leI, nI_eq, nI_clamp, nI_1, nI_add, nI_mul, inb_n, irm_n, nI_div, nI_m6, nI_d6, irm_6, qlt_1, qle_1, qgt_1, qge_1, qeq_1, qlt_2, qle_2, qgt_2, qge_2, qeq_2, qlt_3, qle_3, qgt_3, qge_3, qeq_3, qlt_4, qle_4, qgt_4, qge_4, qeq_4, qlt_5, qle_5, qgt_5, qge_5, qeq_5, qlt_6, qle_6, qgt_6, qge_6, qeq_6, qlt_7, qle_7, qgt_7, qge_7, qeq_7, qlt_8, qle_8, qgt_8, qge_8, qeq_8, qlt_9, qle_9, qgt_9, qge_9, qeq_9, qlt_10, qle_10, qgt_10, qge_10, qeq_10, qlt_12, qle_12, qgt_12, qge_12, qeq_12, qlt_16, qle_16, qgt_16, qge_16, qeq_16, qlt_20, qle_20, qgt_20, qge_20, qeq_20, qlt_24, qle_24, qgt_24, qge_24, qeq_24, qlt_30, qle_30, qgt_30, qge_30, qeq_30, qlt_32, qle_32, qgt_32, qge_32, qeq_32, qlt_37, qle_37, qgt_37, qge_37, qeq_37, qlt_40, qle_40, qgt_40, qge_40, qeq_40, qlt_42, qle_42, qgt_42, qge_42, qeq_42, qlt_43, qle_43, qgt_43, qge_43, qeq_43, qlt_45, qle_45, qgt_45, qge_45, qeq_45, qlt_47, qle_47, qgt_47, qge_47, qeq_47, qlt_48, qle_48, qgt_48, qge_48, qeq_48, qlt_57, qle_57, qgt_57, qge_57, qeq_57, qlt_59, qle_59, qgt_59, qge_59, qeq_59, qlt_60, qle_60, qgt_60, qge_60, qeq_60, qlt_61, qle_61, qgt_61, qge_61, qeq_61, qlt_62, qle_62, qgt_62, qge_62, qeq_62, qlt_64, qle_64, qgt_64, qge_64, qeq_64, qlt_91, qle_91, qgt_91, qge_91, qeq_91, qlt_93, qle_93, qgt_93, qge_93, qeq_93, qlt_97, qle_97, qgt_97, qge_97, qeq_97, qlt_122, qle_122, qgt_122, qge_122, qeq_122, qlt_400, qle_400, qgt_400, qge_400, qeq_400, qlt_999, qle_999, qgt_999, qge_999, qeq_999, qlt_0, qle_0, qgt_0, qge_0, qeq_0, qltm, qeqm, ↓reduceIte, Option.bind_some, not_true_eq_false, not_false_eq_true, and_true, true_and, and_false, false_and, or_false, false_or, or_true, true_or, Bool.false_eq_true, reduceCtorEq, Nat.le_refl]) jF 0 (S, 0, lN s) (Nat.zero_le _) (by show _ < 5000; omega) ⟨rfl, rfl, hs, cQ.rf S⟩
  refine ⟨S1, ?_, r3⟩
  unfold f2_countTunes
  have r1' : f2_countTunes_L1 (100 + 8) (nI m) (nI p) w jF S 0 (nI s).toInt64 0 = some (S1, v) := by rw [nI_l hs]; exact r1
  have r2' : v = nI (tuM p w N s m).1 := r2
  rw [r1', r2']; rfl
theorem r_tune {X X' : jS} {N : mN} {p d : Nat} {l1 l3 l4 l6 l7 : Int32} (h : RRun X X' N) (h9 : X'.1 1 9 = nI d) (hd : d < 2 ^ 31) (hp : 0 < p) (hp60 : p ≤ 60) : ∃ r, f11_tunes_L2 l1 (nI p) l3 l4 l6 l7 jF X' = some r ∧ RRun X r (tuN p 6 (N, d)).1 ∧ r.1 1 9 = nI (tuN p 6 (N, d)).2 ∧ (tuN p 6 (N, d)).2 < 2 ^ 31 := by
  exact lp_m (Post := fun r : jS => RRun X r (tuN p 6 (N, d)).1 ∧ r.1 1 9 = nI (tuN p 6 (N, d)).2 ∧ (tuN p 6 (N, d)).2 < 2 ^ 31) (fun n (A : Nat × jS) => f11_tunes_L2 l1 (nI p) l3 l4 l6 l7 n A.2) (fun A => A.1) (fun A => ∃ M e, RRun X A.2 M ∧ A.2.1 1 9 = nI e ∧ e < 2 ^ 31 ∧ tuN p A.1 (M, e) = tuN p 6 (N, d) ∧ pcn (M 0 3) ≤ A.1) (by
    rintro n ⟨m, X2⟩ ⟨M, e, hI, i9, he, ht, hpc⟩
    have i9' : X2.1 1 9 = nI e := i9
    by_cases hv : ovB M = true
    · right
      have ht' : (M, e) = tuN p 6 (N, d) := by rw [← ht]; exact (tuN_o (A := (M, e)) hv).symm
      refine ⟨X2, ?_, by rw [← ht']; exact hI, by rw [← ht']; exact i9, by rw [← ht']; exact he⟩
      show f11_tunes_L2 l1 (nI p) l3 l4 l6 l7 (n + 1) X2 = _
      rw [f11_tunes_L2]
      simp only [(r_done hI.2.2.2.1 hI.2.2.1).1 (ovB_t.mp hv), ↓reduceIte, Option.bind_some, not_true_eq_false, not_false_eq_true, and_true, true_and, and_false, false_and, or_false, false_or, or_true, true_or, Bool.false_eq_true, reduceCtorEq, one_ne0]
    · left
      have hv' : ¬ overN M := fun z => hv (ovB_t.mpr z)
      have hx := lcg_lt e
      have hdr := r_draw i9' he hp hp60
      have e40 : (1 : Int32) + nI (lcg e / 65536 % p) = nI (1 + lcg e / 65536 % p) := nI_add 1 _
      obtain ⟨X3, p1, p2, p3⟩ := ((hI.w9 (x := nI (lcg e))).w40 (x := nI (1 + lcg e / 65536 % p))).of9 (b := 1 + lcg e / 65536 % p) (wI_self _ _ _ _) (tb_le hp hp60)
      have p1' : f11_goes (wI (wI X2 1 9 (nI (lcg e))) 0 40 (nI (1 + lcg e / 65536 % p))) = some (X3, nI (rbs M (1 + lcg e / 65536 % p))) := p1
      have hpn := rnd_pcn (b := 1 + lcg e / 65536 % p) hI.2.2.2.1 hv'
      have hpc' : pcn (M 0 3) ≤ m := hpc
      obtain ⟨m', rfl⟩ : ∃ m', m = m' + 1 := ⟨m - 1, by omega⟩
      have hrb : rbb M (1 + lcg e / 65536 % p) = rnd M (1 + lcg e / 65536 % p) := by unfold rbb; rw [if_neg hv]
      rw [hrb] at p2
      refine ⟨(m', X3), ?_, ⟨rnd M (1 + lcg e / 65536 % p), lcg e, p2, ?_, hx, ?_, ?_⟩, by show m' < m' + 1; omega⟩
      · show f11_tunes_L2 l1 (nI p) l3 l4 l6 l7 (n + 1) X2 = f11_tunes_L2 l1 (nI p) l3 l4 l6 l7 n X3
        rw [f11_tunes_L2]
        simp only [(r_done hI.2.2.2.1 hI.2.2.1).2 hv', hdr, e40, p1', ↓reduceIte, Option.bind_some, not_true_eq_false, not_false_eq_true, and_true, true_and, and_false, false_and, or_false, false_or, or_true, true_or, Bool.false_eq_true, reduceCtorEq]
      · show X3.1 1 9 = _
        rw [p3, wI_ne (by omega), wI_self]
      · rw [← ht]
        show _ = tuN p (m' + 1) (M, e)
        rw [tuN, if_neg hv]
      · show _ ≤ m'
        omega) jF (6, X') (by show 6 < 5000; omega) ⟨N, d, h, h9, hd, rfl, pcn_6 _ h.2.2.2.1.t⟩
theorem r_tunes {X X' : jS} {N : mN} {p m s : Nat} {a2 w l4 : Int32} (hN : NOk N) (h0 : HIs (hV X.1) N) (h : RRun X X' N) (h1 : rQ1 X X') (hs : s < 2 ^ 31) (hp : 0 < p) (hp60 : p ≤ 60) (hm : m ≤ 20) (hw : (if a2 = -1 then -2 else a2) = w) : ∃ r, f11_tunes_L1 (nI m) (nI p) a2 l4 jF X' (nI s) 0 0 = some r ∧ r.2 = nI (tuM p w N s m).1 ∧ RRun X r.1 N ∧ rQ1 X r.1 := by
  exact lp_up (G := m) (Post := fun r : jS × Int32 => r.2 = nI (tuM p w N s m).1 ∧ RRun X r.1 N ∧ rQ1 X r.1) (fun n k (A : jS × Int32 × Int32) => f11_tunes_L1 (nI m) (nI p) a2 l4 n A.1 A.2.1 A.2.2 (nI k)) (fun k A => A.2.1 = nI (tuM p w N s k).2 ∧ A.2.2 = nI (tuM p w N s k).1 ∧ (tuM p w N s k).2 < 2 ^ 31 ∧ RRun X A.1 N ∧ rQ1 X A.1) (by
    rintro n k ⟨X2, l5, l6⟩ hk ⟨rfl, rfl, hd, hI, hI1⟩
    left
    have n1 : ¬ m ≤ k := by omega
    obtain ⟨X3, t1, t2, t3, t4⟩ := r_tune (l1 := nI m) (l3 := a2) (l4 := l4) (l6 := nI (tuM p w N s k).1) (l7 := nI k) (hI.w9 (x := nI (tuM p w N s k).2)) (wI_self _ _ _ _) hd hp hp60
    have t1' : f11_tunes_L2 (nI m) (nI p) a2 l4 (nI (tuM p w N s k).1) (nI k) jF (wI X2 1 9 (nI (tuM p w N s k).2)) = some X3 := t1
    obtain ⟨X4, w1, w2, w3, w4⟩ := t2.lay h0 hN
    have al := r_alone t2.2.2.2.1 t2.2.2.1
    refine ⟨(X4, nI (tuM p w N s (k + 1)).2, nI (tuM p w N s (k + 1)).1), ?_, rfl, rfl, t4, w2, w4⟩
    show f11_tunes_L1 (nI m) (nI p) a2 l4 (n + 1) X2 (nI (tuM p w N s k).2) (nI (tuM p w N s k).1) (nI k) = f11_tunes_L1 (nI m) (nI p) a2 l4 n X4 (nI (tuM p w N s (k + 1)).2) (nI (tuM p w N s (k + 1)).1) (nI (k + 1))
    have z0 : nI (tuM p w N s k).1 + 0 = nI (tuM p w N s k).1 := Int32.add_zero _
    rw [f11_tunes_L1, tuM, hw]
    by_cases e : aln ((tuN p 6 (N, (tuM p w N s k).2)).1 0 4) = w
    · simp (disch := omega) only [t1', al, w1, t3, e, nI_ltI, nI_leI, nI_eq, nI_clamp, nI_1, nI_add, nI_mul, inb_n, irm_n, nI_div, nI_m6, nI_d6, irm_6, qlt_1, qle_1, qgt_1, qge_1, qeq_1, qlt_2, qle_2, qgt_2, qge_2, qeq_2, qlt_3, qle_3, qgt_3, qge_3, qeq_3, qlt_4, qle_4, qgt_4, qge_4, qeq_4, qlt_5, qle_5, qgt_5, qge_5, qeq_5, qlt_6, qle_6, qgt_6, qge_6, qeq_6, qlt_7, qle_7, qgt_7, qge_7, qeq_7, qlt_8, qle_8, qgt_8, qge_8, qeq_8, qlt_9, qle_9, qgt_9, qge_9, qeq_9, qlt_10, qle_10, qgt_10, qge_10, qeq_10, qlt_12, qle_12, qgt_12, qge_12, qeq_12, qlt_16, qle_16, qgt_16, qge_16, qeq_16, qlt_20, qle_20, qgt_20, qge_20, qeq_20, qlt_24, qle_24, qgt_24, qge_24, qeq_24, qlt_30, qle_30, qgt_30, qge_30, qeq_30, qlt_32, qle_32, qgt_32, qge_32, qeq_32, qlt_37, qle_37, qgt_37, qge_37, qeq_37, qlt_40, qle_40, qgt_40, qge_40, qeq_40, qlt_42, qle_42, qgt_42, qge_42, qeq_42, qlt_43, qle_43, qgt_43, qge_43, qeq_43, qlt_45, qle_45, qgt_45, qge_45, qeq_45, qlt_47, qle_47, qgt_47, qge_47, qeq_47, qlt_48, qle_48, qgt_48, qge_48, qeq_48, qlt_57, qle_57, qgt_57, qge_57, qeq_57, qlt_59, qle_59, qgt_59, qge_59, qeq_59, qlt_60, qle_60, qgt_60, qge_60, qeq_60, qlt_61, qle_61, qgt_61, qge_61, qeq_61, qlt_62, qle_62, qgt_62, qge_62, qeq_62, qlt_64, qle_64, qgt_64, qge_64, qeq_64, qlt_91, qle_91, qgt_91, qge_91, qeq_91, qlt_93, qle_93, qgt_93, qge_93, qeq_93, qlt_97, qle_97, qgt_97, qge_97, qeq_97, qlt_122, qle_122, qgt_122, qge_122, qeq_122, qlt_400, qle_400, qgt_400, qge_400, qeq_400, qlt_999, qle_999, qgt_999, qge_999, qeq_999, qlt_0, qle_0, qgt_0, qge_0, qeq_0, qltm, qeqm, ↓reduceIte, Option.bind_some, not_true_eq_false, not_false_eq_true, and_true, true_and, and_false, false_and, or_false, false_or, or_true, true_or, Bool.false_eq_true, reduceCtorEq, n1]
    · simp (disch := omega) only [t1', al, w1, t3, e, nI_ltI, nI_leI, nI_eq, nI_clamp, nI_1, nI_add, nI_mul, inb_n, irm_n, nI_div, nI_m6, nI_d6, irm_6, qlt_1, qle_1, qgt_1, qge_1, qeq_1, qlt_2, qle_2, qgt_2, qge_2, qeq_2, qlt_3, qle_3, qgt_3, qge_3, qeq_3, qlt_4, qle_4, qgt_4, qge_4, qeq_4, qlt_5, qle_5, qgt_5, qge_5, qeq_5, qlt_6, qle_6, qgt_6, qge_6, qeq_6, qlt_7, qle_7, qgt_7, qge_7, qeq_7, qlt_8, qle_8, qgt_8, qge_8, qeq_8, qlt_9, qle_9, qgt_9, qge_9, qeq_9, qlt_10, qle_10, qgt_10, qge_10, qeq_10, qlt_12, qle_12, qgt_12, qge_12, qeq_12, qlt_16, qle_16, qgt_16, qge_16, qeq_16, qlt_20, qle_20, qgt_20, qge_20, qeq_20, qlt_24, qle_24, qgt_24, qge_24, qeq_24, qlt_30, qle_30, qgt_30, qge_30, qeq_30, qlt_32, qle_32, qgt_32, qge_32, qeq_32, qlt_37, qle_37, qgt_37, qge_37, qeq_37, qlt_40, qle_40, qgt_40, qge_40, qeq_40, qlt_42, qle_42, qgt_42, qge_42, qeq_42, qlt_43, qle_43, qgt_43, qge_43, qeq_43, qlt_45, qle_45, qgt_45, qge_45, qeq_45, qlt_47, qle_47, qgt_47, qge_47, qeq_47, qlt_48, qle_48, qgt_48, qge_48, qeq_48, qlt_57, qle_57, qgt_57, qge_57, qeq_57, qlt_59, qle_59, qgt_59, qge_59, qeq_59, qlt_60, qle_60, qgt_60, qge_60, qeq_60, qlt_61, qle_61, qgt_61, qge_61, qeq_61, qlt_62, qle_62, qgt_62, qge_62, qeq_62, qlt_64, qle_64, qgt_64, qge_64, qeq_64, qlt_91, qle_91, qgt_91, qge_91, qeq_91, qlt_93, qle_93, qgt_93, qge_93, qeq_93, qlt_97, qle_97, qgt_97, qge_97, qeq_97, qlt_122, qle_122, qgt_122, qge_122, qeq_122, qlt_400, qle_400, qgt_400, qge_400, qeq_400, qlt_999, qle_999, qgt_999, qge_999, qeq_999, qlt_0, qle_0, qgt_0, qge_0, qeq_0, qltm, qeqm, ↓reduceIte, Option.bind_some, not_true_eq_false, not_false_eq_true, and_true, true_and, and_false, false_and, or_false, false_or, or_true, true_or, Bool.false_eq_true, reduceCtorEq, n1, z0, Nat.add_zero]) (by
    rintro n ⟨X2, l5, l6⟩ ⟨h5, h6, hd, hI, hI1⟩
    refine ⟨(X2, l6), ?_, h6, hI, hI1⟩
    show f11_tunes_L1 (nI m) (nI p) a2 l4 (n + 1) X2 l5 l6 (nI m) = _
    rw [f11_tunes_L1]
    simp (disch := omega) only [nI_ltI, nI_leI, nI_eq, nI_clamp, nI_1, nI_add, nI_mul, inb_n, irm_n, nI_div, nI_m6, nI_d6, irm_6, qlt_1, qle_1, qgt_1, qge_1, qeq_1, qlt_2, qle_2, qgt_2, qge_2, qeq_2, qlt_3, qle_3, qgt_3, qge_3, qeq_3, qlt_4, qle_4, qgt_4, qge_4, qeq_4, qlt_5, qle_5, qgt_5, qge_5, qeq_5, qlt_6, qle_6, qgt_6, qge_6, qeq_6, qlt_7, qle_7, qgt_7, qge_7, qeq_7, qlt_8, qle_8, qgt_8, qge_8, qeq_8, qlt_9, qle_9, qgt_9, qge_9, qeq_9, qlt_10, qle_10, qgt_10, qge_10, qeq_10, qlt_12, qle_12, qgt_12, qge_12, qeq_12, qlt_16, qle_16, qgt_16, qge_16, qeq_16, qlt_20, qle_20, qgt_20, qge_20, qeq_20, qlt_24, qle_24, qgt_24, qge_24, qeq_24, qlt_30, qle_30, qgt_30, qge_30, qeq_30, qlt_32, qle_32, qgt_32, qge_32, qeq_32, qlt_37, qle_37, qgt_37, qge_37, qeq_37, qlt_40, qle_40, qgt_40, qge_40, qeq_40, qlt_42, qle_42, qgt_42, qge_42, qeq_42, qlt_43, qle_43, qgt_43, qge_43, qeq_43, qlt_45, qle_45, qgt_45, qge_45, qeq_45, qlt_47, qle_47, qgt_47, qge_47, qeq_47, qlt_48, qle_48, qgt_48, qge_48, qeq_48, qlt_57, qle_57, qgt_57, qge_57, qeq_57, qlt_59, qle_59, qgt_59, qge_59, qeq_59, qlt_60, qle_60, qgt_60, qge_60, qeq_60, qlt_61, qle_61, qgt_61, qge_61, qeq_61, qlt_62, qle_62, qgt_62, qge_62, qeq_62, qlt_64, qle_64, qgt_64, qge_64, qeq_64, qlt_91, qle_91, qgt_91, qge_91, qeq_91, qlt_93, qle_93, qgt_93, qge_93, qeq_93, qlt_97, qle_97, qgt_97, qge_97, qeq_97, qlt_122, qle_122, qgt_122, qge_122, qeq_122, qlt_400, qle_400, qgt_400, qge_400, qeq_400, qlt_999, qle_999, qgt_999, qge_999, qeq_999, qlt_0, qle_0, qgt_0, qge_0, qeq_0, qltm, qeqm, ↓reduceIte, Option.bind_some, not_true_eq_false, not_false_eq_true, and_true, true_and, and_false, false_and, or_false, false_or, or_true, true_or, Bool.false_eq_true, reduceCtorEq, Nat.le_refl]) jF 0 (X', nI s, 0) (Nat.zero_le _) (by show _ < 5000; omega) ⟨rfl, rfl, hs, h, h1⟩
theorem tunes_24 {l1 l2 l3 l4 l6 l7 : Int32} : ∀ (n : Nat) (X : jS), f11_tunes_L4 l1 l2 l3 l4 l6 l7 n X = f11_tunes_L2 l1 l2 l3 l4 l6 l7 n X := by
  intro n
  induction n with
  | zero => intro X; rfl
  | succ n ih => intro X; rw [f11_tunes_L4, f11_tunes_L2]; simp only [ih]
theorem tunes_13 {l1 l2 l3 l4 : Int32} : ∀ (n : Nat) (X : jS) (l5 l6 l7 : Int32), f11_tunes_L3 l1 l2 l3 l4 n X l5 l6 l7 = f11_tunes_L1 l1 l2 l3 l4 n X l5 l6 l7 := by
  intro n
  induction n with
  | zero => intro X l5 l6 l7; rfl
  | succ n ih => intro X l5 l6 l7; rw [f11_tunes_L3, f11_tunes_L1]; simp only [ih, tunes_24]
theorem k_tunes {S : jS} {T : jT} {X : jS} (h : INV S T X) (a0 a1 a2 : Int32) : ∃ S1 X1 v, f10_tunes S a0 a1 a2 = some (S1, v) ∧ f11_tunes X a0 a1 a2 = some (X1, v) ∧ INV S1 T X1 := by
  obtain ⟨tn, tb, rc, R, B, Bi, im, ⟨ct, cr, cb, ci⟩, ⟨rt, rr, rb, ri, r40, r28⟩, ⟨ot, or, ob, oi⟩⟩ := id h
  obtain ⟨hc, b2, b3, b4, b5, b6, b7⟩ := id cb
  have hr := rb.h
  have c7 : X.1 1 9 = nI (bSe B) := rb.2.2.2.2.2.2
  obtain ⟨hN, k2, hM, hs, ht, k6, k7, k8, k9, k10, hse⟩ := id ob
  have hG := hN.2.2.1
  have m1 : (1 : Int32).toInt64 = 1 := by decide
  have m20 : (20 : Int32).toInt64 = 20 := by decide
  have m60 : (60 : Int32).toInt64 = 60 := by decide
  unfold f10_tunes f11_tunes
  rw [c_told hN hc, r_told hN hr, r_in a0 m1 m20, r_in a1 m1 m60, b7, c7]
  by_cases z : bNow B 0 0 = 0
  · exact ⟨S, X, -2, by simp [z], by simp [z], h⟩
  · simp only [z, ↓reduceIte, Option.bind_some, not_true_eq_false, not_false_eq_true, and_true, true_and, and_false, false_and, or_false, false_or, or_true, true_or, Bool.false_eq_true, reduceCtorEq, one_ne0]
    by_cases c0 : 1 ≤ a0 ∧ a0 ≤ 20
    · obtain ⟨m, hm, rfl⟩ := nI_of2 (x := a0) (M := 20) (n := 20) (by decide) (by grind) c0.2
      have d0 : ¬ nI m < 1 := by grind
      have d0' : ¬ 20 < nI m := by grind
      by_cases c1 : 1 ≤ a1 ∧ a1 ≤ 60
      · obtain ⟨p, hp, rfl⟩ := nI_of2 (x := a1) (M := 60) (n := 60) (by decide) (by grind) c1.2
        have d1 : ¬ nI p < 1 := by grind
        have hp1 : 0 < p := (qge_1 (by omega)).mp c1.1
        obtain ⟨w, hw⟩ : ∃ w : Int32, (if a2 = -1 then -2 else a2) = w := ⟨_, rfl⟩
        rw [hw]
        obtain ⟨S1, s1, s2⟩ := c_tunes (w := w) hN hc hse hp1 hp hm
        obtain ⟨X0, x1, x2, x3, x4⟩ := RRun.keep hr hN
        obtain ⟨⟨X1, v⟩, y1, y2, y3, y4⟩ := r_tunes (a2 := a2) (l4 := nI (bSe B)) hN hr x2 x4 hse hp1 hp hm hw
        have y2' : v = _ := y2
        have fin : INV S1 T (wI (wI X1 0 40 (-1)) 1 9 (nI (bSe B))) := by
          refine h.end s2 (y3.1.tr (fun a i g1 g2 => by rw [wI_g, if_neg (by omega), wI_g, if_neg (by omega)])) ⟨fun i hi => ?_, fun a g g1 g2 hg => by rw [wI_ne (by omega), wI_ne (by omega)]; exact y4.2 a g g1 g2 hg⟩ (by rw [wI_ne (by omega), wI_self, r40])
          rw [wI_g]
          split
          · rename_i e; rw [e.2]; exact c7.symm
          · rw [wI_ne (by omega)]; exact y4.1 i hi
        simp only [c0, c1, d0, d0', d1, ↓reduceIte, Option.bind_some, not_true_eq_false, not_false_eq_true, and_true, true_and, and_false, false_and, or_false, false_or, or_true, true_or, Bool.false_eq_true, reduceCtorEq, one_ne0, and_self, x1, s1, y1, tunes_13]
        by_cases e2 : a2 = -1
        · simp only [e2, ↓reduceIte, Option.bind_some, not_true_eq_false, not_false_eq_true, and_true, true_and, and_false, false_and, or_false, false_or, or_true, true_or, Bool.false_eq_true, reduceCtorEq]
          exact ⟨S1, _, v, by rw [y2'], rfl, fin⟩
        · simp only [e2, ↓reduceIte, Option.bind_some, not_true_eq_false, not_false_eq_true, and_true, true_and, and_false, false_and, or_false, false_or, or_true, true_or, Bool.false_eq_true, reduceCtorEq]
          rcases arg_cs a2 (G := bNow B 0 2) (by omega) with ⟨g, hg, rfl⟩ | hg
          · rw [(c_isG hN hc).1 g hg, (r_isG hN hr).1 g hg]
            exact ⟨S1, _, v, by rw [y2']; rfl, rfl, fin⟩
          · rw [(c_isG hN hc).2 a2 hg, (r_isG hN hr).2 a2 hg]
            exact ⟨S, X, -2, rfl, rfl, h⟩
      · refine ⟨S, X, -2, ?_, by simp only [c0, c1, ↓reduceIte, Option.bind_some, not_true_eq_false, not_false_eq_true, and_true, true_and, and_false, false_and, or_false, false_or, or_true, true_or, Bool.false_eq_true, reduceCtorEq, one_ne0, and_self], h⟩
        rw [if_neg d0, if_neg d0']
        by_cases d1 : a1 < 1
        · rw [if_pos d1]
        · rw [if_neg d1, if_neg (by grind)]
    · refine ⟨S, X, -2, ?_, by simp only [c0, ↓reduceIte, Option.bind_some, not_true_eq_false, not_false_eq_true, and_true, true_and, and_false, false_and, or_false, false_or, or_true, true_or, Bool.false_eq_true, reduceCtorEq], h⟩
      by_cases d : a0 < 1
      · rw [if_pos d]
      · rw [if_neg d, if_pos (by grind)]
