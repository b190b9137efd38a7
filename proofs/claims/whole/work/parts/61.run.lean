/-! rounds played ahead: the class in a hall of its own, the reference in its rows, which it lays back -/
def CRun (S S' : jS) (o : Nat) (N : mN) : Prop := cQ S S' ∧ HIs (hC S' o) N ∧ NOk N
def RRun (X X' : jS) (N : mN) : Prop := rQ0 X X' ∧ svd X X' ∧ HIs (hV X'.1) N ∧ NOk N ∧ X'.1 1 10 = X.1 1 10
theorem ruC.q {T : jT} {S S1 : jS} {q : Option Nat} {ru : Option mR} (h : ruC T S q ru) (hf : cQ S S1) : ruC T S1 q ru := by
  cases q with
  | none => cases ru with
    | none => trivial
    | some R => exact h
  | some r => cases ru with
    | none => exact h
    | some R =>
      obtain ⟨h1, h2, h3, h4, h5⟩ := h
      refine ⟨h1, h2, h3, ?_, h5⟩
      have : S1.1 (r + 1) = S.1 (r + 1) := funext (fun i => hf _ _ (by omega) (by omega))
      rw [this]; exact h4
theorem ruR.q {X X1 : jS} {ru : Option mR} (h : ruR X ru) (hf : rQ0 X X1) (h10 : X1.1 1 10 = X.1 1 10) : ruR X1 ru := by
  cases ru with
  | none => exact h10.trans h
  | some R =>
    obtain ⟨sl, s1, s2, s3, s4, s5, s6⟩ := h
    exact ⟨sl, s1, h10.trans s2, (hf _ _ (by omega) (by omega)).trans s3, s4, rre_ext2 (fun a i g1 g2 => hf a i (by omega) (by omega)) s5, s6⟩
def rst (ru : Option mR) (N : mN) : mN := rbb N (bwN ru N)
theorem CRun.by {T : jT} {S S' : jS} {o : Nat} {N : mN} {q : Option Nat} {ru : Option mR} (h : CRun S S' o N) (ho : 20 ≤ o) (ho2 : o ≤ 90) (hq : ruC T S q ru) : ∃ S1, f3_roundBy T S' o q = some (S1, nI (rbs N (bwN ru N))) ∧ CRun S S1 o (rst ru N) := by
  obtain ⟨S1, p1, p2, p3⟩ := c_by ho (by omega) h.2.2 h.2.1 (hq.q h.1)
  exact ⟨S1, p1, h.1.tr (fun a i g1 g2 => p3 a i (by omega) (by omega) (by omega) (by omega) g2), p2, rbb_ok h.2.2 (bw_le ru N).2⟩
theorem CRun.of {S S' : jS} {o b : Nat} {N : mN} (h : CRun S S' o N) (ho : 20 ≤ o) (ho2 : o ≤ 90) (hb : b ≤ 60) : ∃ S1, f3_roundOf S' o (nI b) = some (S1, nI (rnd N b 0 4)) ∧ CRun S S1 o (rnd N b) ∧ (∀ a i, a ≠ 17 → a ≠ 18 → a ≠ 19 → (a < o ∨ o + 6 < a) → S1.1 a i = S'.1 a i) := by
  obtain ⟨S1, p1, p2, p3, p4⟩ := c_round ho h.2.2 h.2.1 hb
  exact ⟨S1, p1, ⟨h.1.tr (fun a i g1 g2 => p3 a i (by omega) (by omega) (by omega) (by omega)), p2, rnd_ok h.2.2 hb⟩, p3⟩
theorem CRun.cp {S S' : jS} {o a0 : Nat} {N : mN} (hq : cQ S S') (hN : NOk N) (h : HIs (hC S' a0) N) (ho : 3 ≤ o) (ho2 : o ≤ 90) (hd : a0 + 6 < o ∨ o + 6 < a0) : CRun S (cpF S' o a0) o N :=
  ⟨hq.tr (fun a i g1 g2 => cp_fr hd (by omega)), cp_H hd hN h, hN⟩
theorem svd.fr {X X' X1 : jS} (h : svd X X') (q : ∀ i, X1.1 53 i = X'.1 53 i) : svd X X1 := ⟨fun i hi => (q _).trans (h.1 i hi), fun a g h1 h2 hg => (q _).trans (h.2 a g h1 h2 hg)⟩
theorem RRun.by {X X' : jS} {N : mN} {ru : Option mR} (h : RRun X X' N) (h40 : X'.1 0 40 = -1) (hq : ruR X ru) : ∃ X1, f11_goes X' = some (X1, nI (rbs N (bwN ru N))) ∧ RRun X X1 (rst ru N) ∧ X1.1 0 40 = -1 := by
  obtain ⟨g1, g2, g3, g4, g5⟩ := h
  obtain ⟨X1, p1, p2, p3⟩ := r_by g4 g3 h40 (hq.q g1 g5)
  exact ⟨X1, p1, ⟨g1.tr p3.q, g2.fr (fun i => p3 _ _ (by omega) (by omega) (by omega) (by omega) (by omega) (by omega)), p2, rbb_ok g4 (bw_le ru N).2, (p3 1 10 (by omega) (by omega) (by omega) (by omega) (by omega) (by omega)).trans g5⟩, (p3 0 40 (by omega) (by omega) (by omega) (by omega) (by omega) (by omega)).trans h40⟩
theorem RRun.of {X X' : jS} {N : mN} {b : Nat} (h : RRun X X' N) (h40 : X'.1 0 40 = nI b) (hb : b ≤ 60) : ∃ X1, f11_goes X' = some (X1, nI (rbs N b)) ∧ RRun X X1 (rbb N b) ∧ X1.1 0 40 = nI b := by
  obtain ⟨g1, g2, g3, g4, g5⟩ := h
  obtain ⟨X1, p1, p2, p3⟩ := r_gb g4 g3 h40 hb
  exact ⟨X1, p1, ⟨g1.tr p3.q, g2.fr (fun i => p3 _ _ (by omega) (by omega) (by omega) (by omega) (by omega) (by omega)), p2, rbb_ok g4 hb, (p3 1 10 (by omega) (by omega) (by omega) (by omega) (by omega) (by omega)).trans g5⟩, (p3 0 40 (by omega) (by omega) (by omega) (by omega) (by omega) (by omega)).trans h40⟩
theorem RRun.keep {X : jS} {N : mN} (h : HIs (hV X.1) N) (hN : NOk N) : ∃ X1, f11_keepsAll X = some (X1, ()) ∧ RRun X X1 N ∧ X1.1 0 40 = X.1 0 40 ∧ rQ1 X X1 := by
  obtain ⟨X1, p1, p2, p3⟩ := r_keep (S := X)
  exact ⟨X1, p1, ⟨fun a i g1 g2 => p3 a i (by omega) (by omega), p2, HV_mono h (fun a i g1 g2 => p3 a i (by omega) (by omega)), hN, p3 1 10 (by omega) (by omega)⟩, p3 0 40 (by omega) (by omega), ⟨fun i hi => p3 1 i (by omega) (by omega), fun a g g1 g2 hg => p3 a g (by omega) (by omega)⟩⟩
theorem RRun.lay' {X X' : jS} {N0 : mN} (q0 : rQ0 X X') (s0 : svd X X') (h0 : HIs (hV X.1) N0) (hN0 : NOk N0) : ∃ X1, f11_laysBack X' = some (X1, ()) ∧ RRun X X1 N0 ∧ X1.1 0 40 = X'.1 0 40 ∧ rQ1 X X1 := by
  obtain ⟨X1, p1, p2, p3⟩ := r_lay s0
  have hG := hN0.2.2.1
  have hC := hN0.2.1
  refine ⟨X1, p1, ⟨q0.tr (fun a i g1 g2 => p3 a i (by omega) (by omega)), s0.fr (fun i => p3 _ _ (by omega) (by omega)), ?_, hN0, p2.1 10 (by omega)⟩, p3 0 40 (by omega) (by omega), p2⟩
  refine HIs_V ?_ ?_ ?_ ?_ ?_ ?_ ?_ ?_ (fun c hc => ?_) (fun a g g1 g2 hg => ?_)
  · rw [p2.1 _ (by omega)]; exact HV0 h0
  · rw [p2.1 _ (by omega)]; exact HV1 h0
  · rw [p2.1 _ (by omega)]; exact HV2 h0
  · rw [p2.1 _ (by omega)]; exact HV3 h0
  · rw [p2.1 _ (by omega)]; exact HV4 h0
  · rw [p2.1 _ (by omega)]; exact HV5 h0
  · rw [p2.1 _ (by omega)]; exact HV6 h0
  · rw [p2.1 _ (by omega)]; exact HV7 h0
  · rw [p3 _ _ (by omega) (by omega), q0 _ _ (by omega) (by omega)]; exact HVc h0 hc
  · rw [p2.2 a g g1 g2 (by omega)]; exact HVg h0 g1 g2 hg
theorem RRun.lay {X X' : jS} {N N0 : mN} (h : RRun X X' N) (h0 : HIs (hV X.1) N0) (hN0 : NOk N0) : ∃ X1, f11_laysBack X' = some (X1, ()) ∧ RRun X X1 N0 ∧ X1.1 0 40 = X'.1 0 40 ∧ rQ1 X X1 := RRun.lay' h.1 h.2.1 h0 hN0
/-- the rule in force, on both sides -/
theorem INV.rule {S : jS} {T : jT} {X : jS} (h : INV S T X) : X.1 0 40 = -1 ∧ ∃ q ru, f10_ruleInForce T S = some q ∧ ruC T S q ru ∧ ruR X ru := by
  obtain ⟨tn, tb, rc, R, B, Bi, im, ⟨ct, cr, cb, ci⟩, ⟨rt, rr, rb, ri, r40, r28⟩, ⟨ot, or, ob, oi⟩⟩ := h
  refine ⟨r40, ?_⟩
  obtain ⟨-, -, -, -, -, b6, -⟩ := cb
  obtain ⟨-, -, -, -, -, d6, -⟩ := rb
  have d6' : X.1 1 10 = nI (bFo B) - 1 := d6
  have hfo := ob.2.2.2.2.2.2.2.2.2.1
  have hrc := or.1
  cases e : bFo B with
  | zero =>
    rw [e, nI_0m] at b6 d6'
    refine ⟨none, none, ?_, trivial, d6'⟩
    unfold f10_ruleInForce f10_ruleOf
    rw [b6, if_pos (by decide)]; rfl
  | succ k =>
    rw [e, nI_pred] at b6 d6'
    have hk : k < rc := by omega
    obtain ⟨t1, t2, t3⟩ := cr.2.1 k hk
    refine ⟨some (1200 + 10 * k), some (R k), ?_, ⟨by omega, by omega, t2, t3, (or.2 k hk).2⟩, ⟨k, by omega, d6', (rr.2 k hk).1, (or.2 k hk).1, (rr.2 k hk).2, (or.2 k hk).2⟩⟩
    have n1 : ¬ rc ≤ k := by omega
    have n6 : k < 6 := by omega
    unfold f10_ruleInForce f10_ruleOf
    simp (disch := omega) only [b6, cr.1, nI_ltI, nI_leI, nI_eq, nI_clamp, nI_1, nI_add, nI_mul, inb_n, irm_n, nI_div, nI_m6, nI_d6, irm_6, qlt_1, qle_1, qgt_1, qge_1, qeq_1, qlt_2, qle_2, qgt_2, qge_2, qeq_2, qlt_3, qle_3, qgt_3, qge_3, qeq_3, qlt_4, qle_4, qgt_4, qge_4, qeq_4, qlt_5, qle_5, qgt_5, qge_5, qeq_5, qlt_6, qle_6, qgt_6, qge_6, qeq_6, qlt_7, qle_7, qgt_7, qge_7, qeq_7, qlt_8, qle_8, qgt_8, qge_8, qeq_8, qlt_9, qle_9, qgt_9, qge_9, qeq_9, qlt_10, qle_10, qgt_10, qge_10, qeq_10, qlt_12, qle_12, qgt_12, qge_12, qeq_12, qlt_16, qle_16, qgt_16, qge_16, qeq_16, qlt_20, qle_20, qgt_20, qge_20, qeq_20, qlt_24, qle_24, qgt_24, qge_24, qeq_24, qlt_30, qle_30, qgt_30, qge_30, qeq_30, qlt_32, qle_32, qgt_32, qge_32, qeq_32, qlt_37, qle_37, qgt_37, qge_37, qeq_37, qlt_40, qle_40, qgt_40, qge_40, qeq_40, qlt_42, qle_42, qgt_42, qge_42, qeq_42, qlt_43, qle_43, qgt_43, qge_43, qeq_43, qlt_45, qle_45, qgt_45, qge_45, qeq_45, qlt_47, qle_47, qgt_47, qge_47, qeq_47, qlt_48, qle_48, qgt_48, qge_48, qeq_48, qlt_57, qle_57, qgt_57, qge_57, qeq_57, qlt_59, qle_59, qgt_59, qge_59, qeq_59, qlt_60, qle_60, qgt_60, qge_60, qeq_60, qlt_61, qle_61, qgt_61, qge_61, qeq_61, qlt_62, qle_62, qgt_62, qge_62, qeq_62, qlt_64, qle_64, qgt_64, qge_64, qeq_64, qlt_91, qle_91, qgt_91, qge_91, qeq_91, qlt_93, qle_93, qgt_93, qge_93, qeq_93, qlt_97, qle_97, qgt_97, qge_97, qeq_97, qlt_122, qle_122, qgt_122, qge_122, qeq_122, qlt_400, qle_400, qgt_400, qge_400, qeq_400, qlt_999, qle_999, qgt_999, qge_999, qeq_999, qlt_0, qle_0, qgt_0, qge_0, qeq_0, qltm, qeqm, ↓reduceIte, Option.bind_some, not_true_eq_false, not_false_eq_true, and_true, true_and, and_false, false_and, or_false, false_or, or_true, true_or, Bool.false_eq_true, reduceCtorEq, n1, n6, t1]
def itb (ru : Option mR) : Nat → mN → mN
  | 0, N => N
  | k + 1, N => rst ru (itb ru k N)
theorem c_after {T : jT} {S : jS} {N : mN} {q : Option Nat} {ru : Option mR} {n : Nat} (hN : NOk N) (h : HIs (hC S (100 + 8)) N) (hq : ruC T S q ru) (hn : n ≤ 40) : ∃ S1, f2_after T S (100 + 8) q (nI n) = some (S1, ()) ∧ CRun S S1 21 (itb ru n N) := by
  obtain ⟨r, hr, hp⟩ := lp_up (G := n) (Post := fun r : jS => CRun S r 21 (itb ru n N)) (fun m k S' => f2_after_L1 T q (nI n) m S' (nI k)) (fun k S' => CRun S S' 21 (itb ru k N)) (by
    intro m k S' hk hI
    left
    obtain ⟨S1, p1, p2⟩ := hI.by (T := T) (by omega) (by omega) hq
    refine ⟨S1, ?_, p2⟩
    have n1 : ¬ n ≤ k := by omega
    rw [f2_after_L1]
    simp (disch := omega) only [p1, nI_ltI, nI_leI, nI_eq, nI_clamp, nI_1, nI_add, nI_mul, inb_n, irm_n, nI_div, nI_m6, nI_d6, irm_6, qlt_1, qle_1, qgt_1, qge_1, qeq_1, qlt_2, qle_2, qgt_2, qge_2, qeq_2, qlt_3, qle_3, qgt_3, qge_3, qeq_3, qlt_4, qle_4, qgt_4, qge_4, qeq_4, qlt_5, qle_5, qgt_5, qge_5, qeq_5, qlt_6, qle_6, qgt_6, qge_6, qeq_6, qlt_7, qle_7, qgt_7, qge_7, qeq_7, qlt_8, qle_8, qgt_8, qge_8, qeq_8, qlt_9, qle_9, qgt_9, qge_9, qeq_9, qlt_10, qle_10, qgt_10, qge_10, qeq_10, qlt_12, qle_12, qgt_12, qge_12, qeq_12, qlt_16, qle_16, qgt_16, qge_16, qeq_16, qlt_20, qle_20, qgt_20, qge_20, qeq_20, qlt_24, qle_24, qgt_24, qge_24, qeq_24, qlt_30, qle_30, qgt_30, qge_30, qeq_30, qlt_32, qle_32, qgt_32, qge_32, qeq_32, qlt_37, qle_37, qgt_37, qge_37, qeq_37, qlt_40, qle_40, qgt_40, qge_40, qeq_40, qlt_42, qle_42, qgt_42, qge_42, qeq_42, qlt_43, qle_43, qgt_43, qge_43, qeq_43, qlt_45, qle_45, qgt_45, qge_45, qeq_45, qlt_47, qle_47, qgt_47, qge_47, qeq_47, qlt_48, qle_48, qgt_48, qge_48, qeq_48, qlt_57, qle_57, qgt_57, qge_57, qeq_57, qlt_59, qle_59, qgt_59, qge_59, qeq_59, qlt_60, qle_60, qgt_60, qge_60, qeq_60, qlt_61, qle_61, qgt_61, qge_61, qeq_61, qlt_62, qle_62, qgt_62, qge_62, qeq_62, qlt_64, qle_64, qgt_64, qge_64, qeq_64, qlt_91, qle_91, qgt_91, qge_91, qeq_91, qlt_93, qle_93, qgt_93, qge_93, qeq_93, qlt_97, qle_97, qgt_97, qge_97, qeq_97, qlt_122, qle_122, qgt_122, qge_122, qeq_122, qlt_400, qle_400, qgt_400, qge_400, qeq_400, qlt_999, qle_999, qgt_999, qge_999, qeq_999, qlt_0, qle_0, qgt_0, qge_0, qeq_0, qltm, qeqm, ↓reduceIte, Option.bind_some, not_true_eq_false, not_false_eq_true, and_true, true_and, and_false, false_and, or_false, false_or, or_true, true_or, Bool.false_eq_true, reduceCtorEq, n1]) (by
    intro m S' hI
    refine ⟨S', ?_, hI⟩
    rw [f2_after_L1]
    simp (disch := omega) only [nI_ltI, nI_leI, nI_eq, nI_clamp, nI_1, nI_add, nI_mul, inb_n, irm_n, nI_div, nI_m6, nI_d6, irm_6, qlt_1, qle_1, qgt_1, qge_1, qeq_1, qlt_2, qle_2, qgt_2, qge_2, qeq_2, qlt_3, qle_3, qgt_3, qge_3, qeq_3, qlt_4, qle_4, qgt_4, qge_4, qeq_4, qlt_5, qle_5, qgt_5, qge_5, qeq_5, qlt_6, qle_6, qgt_6, qge_6, qeq_6, qlt_7, qle_7, qgt_7, qge_7, qeq_7, qlt_8, qle_8, qgt_8, qge_8, qeq_8, qlt_9, qle_9, qgt_9, qge_9, qeq_9, qlt_10, qle_10, qgt_10, qge_10, qeq_10, qlt_12, qle_12, qgt_12, qge_12, qeq_12, qlt_16, qle_16, qgt_16, qge_16, qeq_16, qlt_20, qle_20, qgt_20, qge_20, qeq_20, qlt_24, qle_24, qgt_24, qge_24, qeq_24, qlt_30, qle_30, qgt_30, qge_30, qeq_30, qlt_32, qle_32, qgt_32, qge_32, qeq_32, qlt_37, qle_37, qgt_37, qge_37, qeq_37, qlt_40, qle_40, qgt_40, qge_40, qeq_40, qlt_42, qle_42, qgt_42, qge_42, qeq_42, qlt_43, qle_43, qgt_43, qge_43, qeq_43, qlt_45, qle_45, qgt_45, qge_45, qeq_45, qlt_47, qle_47, qgt_47, qge_47, qeq_47, qlt_48, qle_48, qgt_48, qge_48, qeq_48, qlt_57, qle_57, qgt_57, qge_57, qeq_57, qlt_59, qle_59, qgt_59, qge_59, qeq_59, qlt_60, qle_60, qgt_60, qge_60, qeq_60, qlt_61, qle_61, qgt_61, qge_61, qeq_61, qlt_62, qle_62, qgt_62, qge_62, qeq_62, qlt_64, qle_64, qgt_64, qge_64, qeq_64, qlt_91, qle_91, qgt_91, qge_91, qeq_91, qlt_93, qle_93, qgt_93, qge_93, qeq_93, qlt_97, qle_97, qgt_97, qge_97, qeq_97, qlt_122, qle_122, qgt_122, qge_122, qeq_122, qlt_400, qle_400, qgt_400, qge_400, qeq_400, qlt_999, qle_999, qgt_999, qge_999, qeq_999, qlt_0, qle_0, qgt_0, qge_0, qeq_0, qltm, qeqm, ↓reduceIte, Option.bind_some, not_true_eq_false, not_false_eq_true, and_true, true_and, and_false, false_and, or_false, false_or, or_true, true_or, Bool.false_eq_true, reduceCtorEq, Nat.le_refl]) jF 0 (cpF S 21 (100 + 8)) (Nat.zero_le _) (by show _ < 5000; omega) (CRun.cp (cQ.rf S) hN h (by omega) (by omega) (by omega))
  refine ⟨r, ?_, hp⟩
  unfold f2_after
  rw [cp_eq, Option.bind_some]
  have hr' : f2_after_L1 T q (nI n) jF (cpF S 21 (100 + 8)) 0 = some r := hr
  rw [hr']; rfl
theorem r_goFor {X X' : jS} {N : mN} {ru : Option mR} {n : Nat} (h : RRun X X' N) (h40 : X'.1 0 40 = -1) (hq : ruR X ru) (hn : n ≤ 40) : ∃ X1, f11_goFor X' (nI n) = some (X1, ()) ∧ RRun X X1 (itb ru n N) ∧ X1.1 0 40 = -1 := by
  obtain ⟨r, hr, hp⟩ := lp_up (G := n) (Post := fun r : jS => RRun X r (itb ru n N) ∧ r.1 0 40 = -1) (fun m k X' => f11_goFor_L1 (nI n) m X' (nI k)) (fun k r => RRun X r (itb ru k N) ∧ r.1 0 40 = -1) (by
    intro m k X' hk hI
    left
    obtain ⟨X1, p1, p2, p3⟩ := hI.1.by hI.2 hq
    refine ⟨X1, ?_, p2, p3⟩
    have n1 : ¬ n ≤ k := by omega
    rw [f11_goFor_L1]
    simp (disch := omega) only [p1, nI_ltI, nI_leI, nI_eq, nI_clamp, nI_1, nI_add, nI_mul, inb_n, irm_n, nI_div, nI_m6, nI_d6, irm_6, qlt_1, qle_1, qgt_1, qge_1, qeq_1, qlt_2, qle_2, qgt_2, qge_2, qeq_2, qlt_3, qle_3, qgt_3, qge_3, qeq_3, qlt_4, qle_4, qgt_4, qge_4, qeq_4, qlt_5, qle_5, qgt_5, qge_5, qeq_5, qlt_6, qle_6, qgt_6, qge_6, qeq_6, qlt_7, qle_7, qgt_7, qge_7, qeq_7, qlt_8, qle_8, qgt_8, qge_8, qeq_8, qlt_9, qle_9, qgt_9, qge_9, qeq_9, qlt_10, qle_10, qgt_10, qge_10, qeq_10, qlt_12, qle_12, qgt_12, qge_12, qeq_12, qlt_16, qle_16, qgt_16, qge_16, qeq_16, qlt_20, qle_20, qgt_20, qge_20, qeq_20, qlt_24, qle_24, qgt_24, qge_24, qeq_24, qlt_30, qle_30, qgt_30, qge_30, qeq_30, qlt_32, qle_32, qgt_32, qge_32, qeq_32, qlt_37, qle_37, qgt_37, qge_37, qeq_37, qlt_40, qle_40, qgt_40, qge_40, qeq_40, qlt_42, qle_42, qgt_42, qge_42, qeq_42, qlt_43, qle_43, qgt_43, qge_43, qeq_43, qlt_45, qle_45, qgt_45, qge_45, qeq_45, qlt_47, qle_47, qgt_47, qge_47, qeq_47, qlt_48, qle_48, qgt_48, qge_48, qeq_48, qlt_57, qle_57, qgt_57, qge_57, qeq_57, qlt_59, qle_59, qgt_59, qge_59, qeq_59, qlt_60, qle_60, qgt_60, qge_60, qeq_60, qlt_61, qle_61, qgt_61, qge_61, qeq_61, qlt_62, qle_62, qgt_62, qge_62, qeq_62, qlt_64, qle_64, qgt_64, qge_64, qeq_64, qlt_91, qle_91, qgt_91, qge_91, qeq_91, qlt_93, qle_93, qgt_93, qge_93, qeq_93, qlt_97, qle_97, qgt_97, qge_97, qeq_97, qlt_122, qle_122, qgt_122, qge_122, qeq_122, qlt_400, qle_400, qgt_400, qge_400, qeq_400, qlt_999, qle_999, qgt_999, qge_999, qeq_999, qlt_0, qle_0, qgt_0, qge_0, qeq_0, qltm, qeqm, ↓reduceIte, Option.bind_some, not_true_eq_false, not_false_eq_true, and_true, true_and, and_false, false_and, or_false, false_or, or_true, true_or, Bool.false_eq_true, reduceCtorEq, n1]) (by
    intro m X' hI
    refine ⟨X', ?_, hI⟩
    rw [f11_goFor_L1]
    simp (disch := omega) only [nI_ltI, nI_leI, nI_eq, nI_clamp, nI_1, nI_add, nI_mul, inb_n, irm_n, nI_div, nI_m6, nI_d6, irm_6, qlt_1, qle_1, qgt_1, qge_1, qeq_1, qlt_2, qle_2, qgt_2, qge_2, qeq_2, qlt_3, qle_3, qgt_3, qge_3, qeq_3, qlt_4, qle_4, qgt_4, qge_4, qeq_4, qlt_5, qle_5, qgt_5, qge_5, qeq_5, qlt_6, qle_6, qgt_6, qge_6, qeq_6, qlt_7, qle_7, qgt_7, qge_7, qeq_7, qlt_8, qle_8, qgt_8, qge_8, qeq_8, qlt_9, qle_9, qgt_9, qge_9, qeq_9, qlt_10, qle_10, qgt_10, qge_10, qeq_10, qlt_12, qle_12, qgt_12, qge_12, qeq_12, qlt_16, qle_16, qgt_16, qge_16, qeq_16, qlt_20, qle_20, qgt_20, qge_20, qeq_20, qlt_24, qle_24, qgt_24, qge_24, qeq_24, qlt_30, qle_30, qgt_30, qge_30, qeq_30, qlt_32, qle_32, qgt_32, qge_32, qeq_32, qlt_37, qle_37, qgt_37, qge_37, qeq_37, qlt_40, qle_40, qgt_40, qge_40, qeq_40, qlt_42, qle_42, qgt_42, qge_42, qeq_42, qlt_43, qle_43, qgt_43, qge_43, qeq_43, qlt_45, qle_45, qgt_45, qge_45, qeq_45, qlt_47, qle_47, qgt_47, qge_47, qeq_47, qlt_48, qle_48, qgt_48, qge_48, qeq_48, qlt_57, qle_57, qgt_57, qge_57, qeq_57, qlt_59, qle_59, qgt_59, qge_59, qeq_59, qlt_60, qle_60, qgt_60, qge_60, qeq_60, qlt_61, qle_61, qgt_61, qge_61, qeq_61, qlt_62, qle_62, qgt_62, qge_62, qeq_62, qlt_64, qle_64, qgt_64, qge_64, qeq_64, qlt_91, qle_91, qgt_91, qge_91, qeq_91, qlt_93, qle_93, qgt_93, qge_93, qeq_93, qlt_97, qle_97, qgt_97, qge_97, qeq_97, qlt_122, qle_122, qgt_122, qge_122, qeq_122, qlt_400, qle_400, qgt_400, qge_400, qeq_400, qlt_999, qle_999, qgt_999, qge_999, qeq_999, qlt_0, qle_0, qgt_0, qge_0, qeq_0, qltm, qeqm, ↓reduceIte, Option.bind_some, not_true_eq_false, not_false_eq_true, and_true, true_and, and_false, false_and, or_false, false_or, or_true, true_or, Bool.false_eq_true, reduceCtorEq, Nat.le_refl]) jF 0 X' (Nat.zero_le _) (by show _ < 5000; omega) ⟨h, h40⟩
  refine ⟨r, ?_, hp⟩
  unfold f11_goFor
  have hr' : f11_goFor_L1 (nI n) jF X' 0 = some r := hr
  rw [hr']; rfl
/-- the end of a question: nothing that counts has changed -/
theorem INV.end {S S1 : jS} {T : jT} {X X1 : jS} (h : INV S T X) (q : cQ S S1) (r0 : rQ0 X X1) (r1 : rQ1 X X1) (r2 : X1.1 0 40 = X.1 0 40) : INV S1 T X1 := h.q q ⟨r0, r1, r2⟩
theorem sam_itb {ru : Option mR} {N : mN} : ∀ k, itb ru k N 0 2 = N 0 2 ∧ itb ru k N 0 1 = N 0 1 := by
  intro k
  induction k with
  | zero => exact ⟨rfl, rfl⟩
  | succ k ih =>
    have e : ∀ M b, rbb M b 0 2 = M 0 2 ∧ rbb M b 0 1 = M 0 1 := by
      intro M b
      unfold rbb
      split
      · exact ⟨rfl, rfl⟩
      · exact ⟨rfl, rfl⟩
    exact ⟨(e _ _).1.trans ih.1, (e _ _).2.trans ih.2⟩
theorem k_ahead {S : jS} {T : jT} {X : jS} (h : INV S T X) (a0 a1 a2 : Int32) : ∃ S1 X1 v, f10_ahead T S a0 a1 a2 = some (S1, v) ∧ f11_ahead X a0 a1 a2 = some (X1, v) ∧ INV S1 T X1 := by
  obtain ⟨N, hN, hc, hr, -⟩ := h.get
  obtain ⟨h40, q, ru, q1, q2, q3⟩ := h.rule
  have hG := hN.2.2.1
  have m0 : (0 : Int32).toInt64 = 0 := by decide
  have m2 : (2 : Int32).toInt64 = 2 := by decide
  have m40 : (40 : Int32).toInt64 = 40 := by decide
  unfold f10_ahead f11_ahead
  rw [c_told hN hc, r_told hN hr, r_in a2 m0 m2, r_in a1 m0 m40, q1]
  by_cases z : N 0 0 = 0
  · exact ⟨S, X, -1, by simp [z], by simp [z], h⟩
  · simp only [z, ↓reduceIte, Option.bind_some, not_true_eq_false, not_false_eq_true, and_true, true_and, and_false, false_and, or_false, false_or, or_true, true_or, Bool.false_eq_true, reduceCtorEq, one_ne0]
    by_cases c2 : 0 ≤ a2 ∧ a2 ≤ 2
    · have d2 : ¬ a2 < 0 := by grind
      simp only [c2, d2, ↓reduceIte, Option.bind_some, not_true_eq_false, not_false_eq_true, and_true, true_and, and_false, false_and, or_false, false_or, or_true, true_or, Bool.false_eq_true, reduceCtorEq, one_ne0, and_self]
      by_cases c1 : 0 ≤ a1 ∧ a1 ≤ 40
      · obtain ⟨n, hn, rfl⟩ := nI_of2 (x := a1) (M := 40) (n := 40) (by decide) (by grind) c1.2
        have d1 : ¬ nI n < 0 := by grind
        have d1' : ¬ 40 < nI n := by grind
        obtain ⟨S1, s1, s2⟩ := c_after (T := T) hN hc q2 hn
        obtain ⟨X0, x1, x2, x3, -⟩ := RRun.keep hr hN
        obtain ⟨X1, y1, y2, y3⟩ := r_goFor x2 (x3.trans h40) q3 hn
        obtain ⟨X2, w1, w2, w3, w4⟩ := y2.lay hr hN
        have fin : INV S1 T X2 := h.end s2.1 w2.1 w4 (by rw [w3, y3, h40])
        have hs := sam_itb (ru := ru) (N := N) n
        simp only [c1, d1, d1', ↓reduceIte, Option.bind_some, not_true_eq_false, not_false_eq_true, and_true, true_and, and_false, false_and, or_false, false_or, or_true, true_or, Bool.false_eq_true, reduceCtorEq, one_ne0, and_self, s1, x1, y1]
        by_cases e0 : a2 = 0
        · subst e0
          rcases arg_cs a0 (G := N 0 2) (by omega) with ⟨g, hg, rfl⟩ | hg
          · rw [(c_isG hN hc).1 g hg, (r_isG hN hr).1 g hg]
            have hg' : g < itb ru n N 0 2 := by rw [hs.1]; exact hg
            have n7 : g < 7 := by omega
            have e1 : S1.1 (21 + 2) g = nI (itb ru n N 2 g) := s2.2.1.2.2.2 2 g (by omega) (by omega) hg'
            have e2 : X1.1 2 g = nI (itb ru n N 2 g) := HVg y2.2.2.1 (by omega) (by omega) hg'
            simp (disch := omega) only [↓reduceIte, Option.bind_some, not_true_eq_false, not_false_eq_true, and_true, true_and, and_false, false_and, or_false, false_or, or_true, true_or, Bool.false_eq_true, reduceCtorEq, one_ne0, nI_ltI, nI_leI, nI_eq, nI_clamp, nI_1, nI_add, nI_mul, inb_n, irm_n, nI_div, nI_m6, nI_d6, irm_6, qlt_1, qle_1, qgt_1, qge_1, qeq_1, qlt_2, qle_2, qgt_2, qge_2, qeq_2, qlt_3, qle_3, qgt_3, qge_3, qeq_3, qlt_4, qle_4, qgt_4, qge_4, qeq_4, qlt_5, qle_5, qgt_5, qge_5, qeq_5, qlt_6, qle_6, qgt_6, qge_6, qeq_6, qlt_7, qle_7, qgt_7, qge_7, qeq_7, qlt_8, qle_8, qgt_8, qge_8, qeq_8, qlt_9, qle_9, qgt_9, qge_9, qeq_9, qlt_10, qle_10, qgt_10, qge_10, qeq_10, qlt_12, qle_12, qgt_12, qge_12, qeq_12, qlt_16, qle_16, qgt_16, qge_16, qeq_16, qlt_20, qle_20, qgt_20, qge_20, qeq_20, qlt_24, qle_24, qgt_24, qge_24, qeq_24, qlt_30, qle_30, qgt_30, qge_30, qeq_30, qlt_32, qle_32, qgt_32, qge_32, qeq_32, qlt_37, qle_37, qgt_37, qge_37, qeq_37, qlt_40, qle_40, qgt_40, qge_40, qeq_40, qlt_42, qle_42, qgt_42, qge_42, qeq_42, qlt_43, qle_43, qgt_43, qge_43, qeq_43, qlt_45, qle_45, qgt_45, qge_45, qeq_45, qlt_47, qle_47, qgt_47, qge_47, qeq_47, qlt_48, qle_48, qgt_48, qge_48, qeq_48, qlt_57, qle_57, qgt_57, qge_57, qeq_57, qlt_59, qle_59, qgt_59, qge_59, qeq_59, qlt_60, qle_60, qgt_60, qge_60, qeq_60, qlt_61, qle_61, qgt_61, qge_61, qeq_61, qlt_62, qle_62, qgt_62, qge_62, qeq_62, qlt_64, qle_64, qgt_64, qge_64, qeq_64, qlt_91, qle_91, qgt_91, qge_91, qeq_91, qlt_93, qle_93, qgt_93, qge_93, qeq_93, qlt_97, qle_97, qgt_97, qge_97, qeq_97, qlt_122, qle_122, qgt_122, qge_122, qeq_122, qlt_400, qle_400, qgt_400, qge_400, qeq_400, qlt_999, qle_999, qgt_999, qge_999, qeq_999, qlt_0, qle_0, qgt_0, qge_0, qeq_0, qltm, qeqm, n7, e1, e2, w1]
            exact ⟨_, _, _, rfl, rfl, fin⟩
          · rw [(c_isG hN hc).2 a0 hg, (r_isG hN hr).2 a0 hg]
            exact ⟨S, X, -1, rfl, rfl, h⟩
        · simp only [e0, ↓reduceIte, Option.bind_some, not_true_eq_false, not_false_eq_true, and_true, true_and, and_false, false_and, or_false, false_or, or_true, true_or, Bool.false_eq_true, reduceCtorEq]
          by_cases e1 : a2 = 1
          · have f1 : S1.1 21 4 = nI (itb ru n N 0 4) := s2.2.1.1 4 (by omega) (by omega)
            have f2 := HV4 y2.2.2.1
            simp only [e1, ↓reduceIte, Option.bind_some, not_true_eq_false, not_false_eq_true, and_true, true_and, and_false, false_and, or_false, false_or, or_true, true_or, Bool.false_eq_true, reduceCtorEq, f1, f2, w1]
            exact ⟨_, _, _, rfl, rfl, fin⟩
          · have f1 : S1.1 21 3 = nI (itb ru n N 0 3) := s2.2.1.1 3 (by omega) (by omega)
            have f2 := HV3 y2.2.2.1
            simp only [e1, ↓reduceIte, Option.bind_some, not_true_eq_false, not_false_eq_true, and_true, true_and, and_false, false_and, or_false, false_or, or_true, true_or, Bool.false_eq_true, reduceCtorEq, f1, f2, w1]
            exact ⟨_, _, _, rfl, rfl, fin⟩
      · refine ⟨S, X, -1, ?_, ?_, h⟩
        · by_cases d1 : a1 < 0
          · rw [if_pos d1]
          · rw [if_neg d1, if_pos (by grind)]
        · simp only [c1, ↓reduceIte, Option.bind_some, not_true_eq_false, not_false_eq_true, and_true, true_and, and_false, false_and, or_false, false_or, or_true, true_or, Bool.false_eq_true, reduceCtorEq]
          by_cases e0 : a2 = 0
          · rw [if_pos e0]
            rcases arg_cs a0 (G := N 0 2) (by omega) with ⟨g, hg, rfl⟩ | hg
            · rw [(r_isG hN hr).1 g hg]; rfl
            · rw [(r_isG hN hr).2 a0 hg]; rfl
          · rw [if_neg e0]
    · refine ⟨S, X, -1, ?_, by simp only [c2, ↓reduceIte, Option.bind_some, not_true_eq_false, not_false_eq_true, and_true, true_and, and_false, false_and, or_false, false_or, or_true, true_or, Bool.false_eq_true, reduceCtorEq], h⟩
      by_cases d1 : a1 < 0
      · rw [if_pos d1]
      · rw [if_neg d1]
        by_cases d2 : 40 < a1
        · rw [if_pos d2]
        · rw [if_neg d2]
          by_cases d3 : a2 < 0
          · rw [if_pos d3]
          · rw [if_neg d3, if_neg (by grind)]
