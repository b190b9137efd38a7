/-! by which rule it was -/
def ruK (R : Nat → mR) (k : Nat) : Option mR := match k with
  | 0 => none
  | j + 1 => some (R j)
theorem c_ruleOf {T : jT} {S S' : jS} {rc k : Nat} {R : Nat → mR} (cr : CRl S T rc R) (or : RlOk rc R) (hq : cQ S S') (hk : k ≤ rc) : ∃ q, f10_ruleOf T S' (nI k - 1) = some q ∧ ruC T S q (ruK R k) := by
  have e4 : S'.1 0 4 = nI rc := (hq _ _ (by omega) (by omega)).trans cr.1
  have hrc := or.1
  cases k with
  | zero =>
    refine ⟨none, ?_, trivial⟩
    unfold f10_ruleOf
    rw [nI_0m, if_pos (by decide)]
  | succ j =>
    obtain ⟨t1, t2, t3⟩ := cr.2.1 j (by omega)
    refine ⟨some (1200 + 10 * j), ?_, ⟨by omega, by omega, t2, t3, (or.2 j (by omega)).2⟩⟩
    have n1 : ¬ rc ≤ j := by omega
    have n6 : j < 6 := by omega
    unfold f10_ruleOf
    rw [nI_pred]
    simp (disch := omega) only [e4, nI_ltI, nI_leI, nI_eq, nI_clamp, nI_1, nI_add, nI_mul, inb_n, irm_n, nI_div, nI_m6, nI_d6, irm_6, qlt_1, qle_1, qgt_1, qge_1, qeq_1, qlt_2, qle_2, qgt_2, qge_2, qeq_2, qlt_3, qle_3, qgt_3, qge_3, qeq_3, qlt_4, qle_4, qgt_4, qge_4, qeq_4, qlt_5, qle_5, qgt_5, qge_5, qeq_5, qlt_6, qle_6, qgt_6, qge_6, qeq_6, qlt_7, qle_7, qgt_7, qge_7, qeq_7, qlt_8, qle_8, qgt_8, qge_8, qeq_8, qlt_9, qle_9, qgt_9, qge_9, qeq_9, qlt_10, qle_10, qgt_10, qge_10, qeq_10, qlt_12, qle_12, qgt_12, qge_12, qeq_12, qlt_16, qle_16, qgt_16, qge_16, qeq_16, qlt_20, qle_20, qgt_20, qge_20, qeq_20, qlt_24, qle_24, qgt_24, qge_24, qeq_24, qlt_30, qle_30, qgt_30, qge_30, qeq_30, qlt_32, qle_32, qgt_32, qge_32, qeq_32, qlt_37, qle_37, qgt_37, qge_37, qeq_37, qlt_40, qle_40, qgt_40, qge_40, qeq_40, qlt_42, qle_42, qgt_42, qge_42, qeq_42, qlt_43, qle_43, qgt_43, qge_43, qeq_43, qlt_45, qle_45, qgt_45, qge_45, qeq_45, qlt_47, qle_47, qgt_47, qge_47, qeq_47, qlt_48, qle_48, qgt_48, qge_48, qeq_48, qlt_57, qle_57, qgt_57, qge_57, qeq_57, qlt_59, qle_59, qgt_59, qge_59, qeq_59, qlt_60, qle_60, qgt_60, qge_60, qeq_60, qlt_61, qle_61, qgt_61, qge_61, qeq_61, qlt_62, qle_62, qgt_62, qge_62, qeq_62, qlt_64, qle_64, qgt_64, qge_64, qeq_64, qlt_91, qle_91, qgt_91, qge_91, qeq_91, qlt_93, qle_93, qgt_93, qge_93, qeq_93, qlt_97, qle_97, qgt_97, qge_97, qeq_97, qlt_122, qle_122, qgt_122, qge_122, qeq_122, qlt_400, qle_400, qgt_400, qge_400, qeq_400, qlt_999, qle_999, qgt_999, qge_999, qeq_999, qlt_0, qle_0, qgt_0, qge_0, qeq_0, qltm, qeqm, ↓reduceIte, Option.bind_some, not_true_eq_false, not_false_eq_true, and_true, true_and, and_false, false_and, or_false, false_or, or_true, true_or, Bool.false_eq_true, reduceCtorEq, n1, n6, t1]
theorem c_rfit {T : jT} {S S' : jS} {q : Option Nat} {ru : Option mR} {B : mB} {rc : Nat} (ho : BOk B rc) (hn : CNt S 100 B) (hc : HIs (hC S (100 + 1)) (bTold B)) (hI : cQ S S') (hq : ruC T S q ru) : ∃ S1, f1_ruleFits T S' 100 q = some (S1, if fitB B ru (bTold B) = true then 1 else 0) ∧ cQ S S1 ∧ (∀ i, S1.1 70 i = S'.1 70 i ∧ S1.1 79 i = S'.1 79 i) ∧ ∀ i, i < 21 → S1.1 78 i = nI (crs ru (bTold B) i) := by
  have hM := ho.2.2.1
  have hh : HIs (hC S' (100 + 1)) (bTold B) := hc.mono (fun a i u1 u2 => hI a i (by omega) (by omega))
  obtain ⟨S1, p1, p2, p3, p4⟩ := c_fits (T := T) ho hn (CRun.cp (o := 71) (a0 := 100 + 1) hI hM hh (by omega) (by omega) (by omega)) hq
  refine ⟨S1, ?_, p2, fun i => ⟨?_, ?_⟩, p4⟩
  · unfold f1_ruleFits fitB
    rw [cp_eq, Option.bind_some]
    simp only [p1, Option.bind_some]
    rw [if_pos]
    split
    · exact Or.inr rfl
    · exact Or.inl rfl
  · rw [p3 70 i (by omega) (by omega) (by omega) (by omega) (by omega), cp_fr (by omega) (by omega)]
  · rw [p3 79 i (by omega) (by omega) (by omega) (by omega) (by omega), cp_fr (by omega) (by omega)]
theorem r_could {X X' : jS} {rc k : Nat} {R : Nat → mR} {B : mB} (ho : BOk B rc) (rr : RRl X rc R) (or : RlOk rc R) (rb : RBk (VC X) B) (hk : k ≤ rc) (h : RRun X X' (bNow B)) (h40 : X'.1 0 40 = -1) : ∃ X1, f11_couldRule X' (nI k - 1) = some (X1, if fitB B (ruK R k) (bTold B) = true then 1 else 0) ∧ RRun X X1 (bNow B) ∧ rQ1 X X1 ∧ X1.1 0 40 = -1 ∧ (∀ i, i < 21 → X1.1 51 i = nI (crs (ruK R k) (bTold B) i)) ∧ (∀ i, X1.1 52 i = X'.1 52 i) := by
  obtain ⟨hN, k2, hM, hs, ht, -⟩ := id ho
  obtain ⟨c1, c2, c3, c4, c5, c6, c7⟩ := id rb
  have hrc := or.1
  have h1 : HIs (hV (wI X' 1 10 (nI k - 1)).1) (bNow B) := by
    refine HIs_V ?_ ?_ ?_ ?_ ?_ ?_ ?_ ?_ (fun c hc => ?_) (fun a g g1 g2 hg => ?_)
    · rw [wI_nj (by omega)]; exact HV0 h.2.2.1
    · rw [wI_nj (by omega)]; exact HV1 h.2.2.1
    · rw [wI_nj (by omega)]; exact HV2 h.2.2.1
    · rw [wI_nj (by omega)]; exact HV3 h.2.2.1
    · rw [wI_nj (by omega)]; exact HV4 h.2.2.1
    · rw [wI_nj (by omega)]; exact HV5 h.2.2.1
    · rw [wI_nj (by omega)]; exact HV6 h.2.2.1
    · rw [wI_nj (by omega)]; exact HV7 h.2.2.1
    · rw [wI_ne (by omega)]; exact HVc h.2.2.1 hc
    · rw [wI_ne (by omega)]; exact HVg h.2.2.1 g1 g2 hg
  have q0 : rQ0 X (wI X' 1 10 (nI k - 1)) := h.1.tr (fun b i u1 u2 => wI_ne (by omega))
  have hto' : RTo (wI X' 1 10 (nI k - 1)).1 (bTold B) := fun j hj => by
    rw [q0 11 j (by omega) (by omega), q0 12 j (by omega) (by omega), q0 13 j (by omega) (by omega)]; exact c2 j hj
  obtain ⟨X1, p1, p2, p3⟩ := r_begins hM h1 hs ht hto'
  have q1 : rQ0 X X1 := q0.tr (fun b i u1 u2 => p3 b i (by omega))
  have f10 : X1.1 1 10 = nI k - 1 := (p3 1 10 (by omega)).trans (wI_self _ _ _ _)
  have hru : ruR X1 (ruK R k) := by
    cases k with
    | zero => exact f10.trans nI_0m
    | succ j =>
      exact ⟨j, by omega, f10.trans (nI_pred j), (q1 32 j (by omega) (by omega)).trans (rr.2 j (by omega)).1, (or.2 j (by omega)).1, rre_ext2 (fun a i g1 g2 => q1 a i (by omega) (by omega)) (rr.2 j (by omega)).2, (or.2 j (by omega)).2⟩
  have hR : RRn X X1 (bTold B) (ruK R k) := ⟨q1, (h.2.1.fr (fun i => (wI_ne (by omega)))).fr (fun i => p3 _ _ (by omega)), p2, hM, hru, by rw [p3 0 40 (by omega), wI_ne (by omega)]; exact h40⟩
  obtain ⟨X2, t1, t2, t3, t4, t5, t6⟩ := r_fits ho c5 hR rb.h hN
  refine ⟨X2, ?_, t2, t3, t4, t5, fun i => by rw [t6, p3 52 i (by omega), wI_ne (by omega)]⟩
  unfold f11_couldRule fitB
  rw [p1, Option.bind_some]
  simp only [t1, Option.bind_some]
  rw [if_pos]
  split
  · exact Or.inr rfl
  · exact Or.inl rfl
def fiW (b : Nat → Bool) (k : Nat) : Int32 := if fiB b k = 0 then -2 else nI (fiB b k - 1) - 1
theorem fiB_sp {b : Nat → Bool} : ∀ hi, (fiB b hi = 0 → ∀ j, j < hi → b j = false) ∧ (∀ m, fiB b hi = m + 1 → b m = true ∧ m < hi ∧ ∀ j, j < m → b j = false) := by
  intro hi
  induction hi with
  | zero => exact ⟨fun _ j hj => by omega, fun m hm => by cases hm⟩
  | succ k ih =>
    unfold fiB
    by_cases hz : fiB b k = 0
    · rw [if_pos hz]
      by_cases hb : b k = true
      · rw [if_pos hb]
        refine ⟨fun z => by omega, fun m hm => ?_⟩
        have : m = k := by omega
        subst this
        exact ⟨hb, by omega, fun j hj => ih.1 hz j hj⟩
      · rw [if_neg hb]
        refine ⟨fun _ j hj => ?_, fun m hm => by omega⟩
        by_cases e : j = k
        · subst e; simpa using hb
        · exact ih.1 hz j (by omega)
    · rw [if_neg hz]
      refine ⟨fun z => absurd z hz, fun m hm => ?_⟩
      obtain ⟨u1, u2, u3⟩ := ih.2 m hm
      exact ⟨u1, by omega, u3⟩
def minP (b : Nat → Bool) (d hi : Nat) (l : Int32) : Prop := (l = -2 ∧ ∀ j, d ≤ j → j < hi → b j = false) ∨ (∃ m, d ≤ m ∧ m < hi ∧ b m = true ∧ l = nI m - 1 ∧ ∀ j, d ≤ j → j < m → b j = false)
theorem minP_0 {b : Nat → Bool} {hi : Nat} {l : Int32} (h : minP b 0 hi l) : l = fiW b hi := by
  obtain ⟨s1, s2⟩ := fiB_sp (b := b) hi
  unfold fiW
  rcases h with ⟨rfl, h⟩ | ⟨m, h1, h2, h3, rfl, h4⟩
  · cases e : fiB b hi with
    | zero => rw [if_pos rfl]
    | succ m =>
      obtain ⟨u1, u2, u3⟩ := s2 m e
      rw [h m (by omega) u2] at u1; cases u1
  · cases e : fiB b hi with
    | zero => rw [s1 e m h2] at h3; cases h3
    | succ m' =>
      obtain ⟨u1, u2, u3⟩ := s2 m' e
      rw [if_neg (by omega)]
      have : m = m' := by
        rcases Nat.lt_trichotomy m m' with z | z | z
        · rw [u3 m z] at h3; cases h3
        · exact z
        · rw [h4 m' (by omega) z] at u1; cases u1
      rw [this]; rfl
theorem k_ruled {S : jS} {T : jT} {X : jS} (h : INV S T X) (a0 : Int32) : ∃ S1 X1 v, f10_ruled T S a0 = some (S1, v) ∧ f11_ruled X a0 = some (X1, v) ∧ INV S1 T X1 := by
  obtain ⟨tn, tb, rc, R, B, Bi, im, ⟨ct, cr, cb, ci⟩, ⟨rt, rr, rb, ri, r40, r28⟩, ⟨ot, or, ob, oi⟩⟩ := id h
  obtain ⟨b1, b2, b3, b4, b5, b6, b7⟩ := id cb
  have hr := rb.h
  obtain ⟨hN, k2, hM, hs, ht, -⟩ := id ob
  have hrc := or.1
  have m0 : (0 : Int32).toInt64 = 0 := by decide
  have m1 : (1 : Int32).toInt64 = 1 := by decide
  have hP : bTold B 0 0 = bNow B 0 0 := hs.1
  unfold f10_ruled f11_ruled
  rw [c_told hM b2, r_told hN hr, r_in a0 m0 m1, hP]
  by_cases z : bNow B 0 0 = 0
  · exact ⟨S, X, -3, by simp [z], by simp [z], h⟩
  · simp only [z, ↓reduceIte, Option.bind_some, not_true_eq_false, not_false_eq_true, and_true, true_and, and_false, false_and, or_false, false_or, or_true, true_or, Bool.false_eq_true, reduceCtorEq, one_ne0]
    by_cases c : 0 ≤ a0 ∧ a0 ≤ 1
    · have d : ¬ a0 < 0 := by grind
      obtain ⟨⟨S1, u, w⟩, s1, s2, s3, s4⟩ := lp_dn (Post := fun r : jS × Int32 × Int32 => cQ S r.1 ∧ r.2.1 = nI (cnB (fun k => fitB B (ruK R k) (bTold B)) (rc + 1)) ∧ minP (fun k => fitB B (ruK R k) (bTold B)) 0 (rc + 1) r.2.2) (fun n k (A : jS × Int32 × Int32) => f10_ruled_L1 T a0 n A.1 A.2.1 A.2.2 (nI k - 2)) (fun k A => k ≤ rc + 1 ∧ cQ S A.1 ∧ (∃ c, A.2.1 = nI c ∧ c + cnB (fun k => fitB B (ruK R k) (bTold B)) k = cnB (fun k => fitB B (ruK R k) (bTold B)) (rc + 1)) ∧ minP (fun k => fitB B (ruK R k) (bTold B)) k (rc + 1) A.2.2) (by
        rintro n k ⟨S2, l2, l3⟩ ⟨hk, hI, ⟨c, rfl, hc⟩, hm⟩
        left
        have e1 : nI (k + 1) - 2 = nI k - 1 := by have := nI_succ k; grind
        have e2 : nI k - 1 + -1 = nI k - 2 := by grind
        have e3 : ¬ nI k - 1 < -1 := by
          have := nI_pos' (n := k) (by omega)
          have : nI k ≤ nI 7 := nI_le (by omega) (by decide)
          have e7 : nI 7 = 7 := rfl
          rw [e7] at this
          grind
        obtain ⟨q, q1, q2⟩ := c_ruleOf cr or hI (k := k) (by omega)
        obtain ⟨S3, t1, t2, t3, t4⟩ := c_rfit (T := T) ob b5 b2 hI q2
        have hc' : c + (cnB (fun k => fitB B (ruK R k) (bTold B)) k + (if fitB B (ruK R k) (bTold B) = true then 1 else 0)) = cnB (fun k => fitB B (ruK R k) (bTold B)) (rc + 1) := hc
        by_cases hf : fitB B (ruK R k) (bTold B) = true
        · rw [if_pos hf] at hc'
          refine ⟨(S3, nI (c + 1), nI k - 1), ?_, by omega, t2, ⟨c + 1, rfl, by omega⟩, Or.inr ⟨k, Nat.le_refl _, by omega, hf, rfl, fun j j1 j2 => by omega⟩⟩
          show f10_ruled_L1 T a0 (n + 1) S2 (nI c) l3 (nI (k + 1) - 2) = f10_ruled_L1 T a0 n S3 (nI (c + 1)) (nI k - 1) (nI k - 2)
          rw [f10_ruled_L1, e1, if_neg e3, q1, Option.bind_some, t1, Option.bind_some, e2]
          simp only [hf, ↓reduceIte, Option.bind_some, not_true_eq_false, not_false_eq_true, and_true, true_and, and_false, false_and, or_false, false_or, or_true, true_or, Bool.false_eq_true, reduceCtorEq, one_ne0, nI_1]
        · rw [if_neg hf] at hc'
          have hf' : fitB B (ruK R k) (bTold B) = false := by simpa using hf
          refine ⟨(S3, nI c, l3), ?_, by omega, t2, ⟨c, rfl, by omega⟩, ?_⟩
          · show f10_ruled_L1 T a0 (n + 1) S2 (nI c) l3 (nI (k + 1) - 2) = f10_ruled_L1 T a0 n S3 (nI c) l3 (nI k - 2)
            rw [f10_ruled_L1, e1, if_neg e3, q1, Option.bind_some, t1, Option.bind_some, e2]
            simp only [hf, ↓reduceIte, Option.bind_some, not_true_eq_false, not_false_eq_true, and_true, true_and, and_false, false_and, or_false, false_or, or_true, true_or, Bool.false_eq_true, reduceCtorEq]
          · rcases hm with ⟨g1, g2⟩ | ⟨m, g1, g2, g3, g4, g5⟩
            · refine Or.inl ⟨g1, fun j j1 j2 => ?_⟩
              by_cases e : j = k
              · subst e; exact hf'
              · exact g2 j (by omega) j2
            · refine Or.inr ⟨m, by omega, g2, g3, g4, fun j j1 j2 => ?_⟩
              by_cases e : j = k
              · subst e; exact hf'
              · exact g5 j (by omega) j2) (by
        rintro n ⟨S2, l2, l3⟩ ⟨hk, hI, ⟨c, rfl, hc⟩, hm⟩
        have hc' : c + 0 = cnB (fun k => fitB B (ruK R k) (bTold B)) (rc + 1) := hc
        refine ⟨(S2, nI c, l3), ?_, hI, by show nI c = _; rw [← hc', Nat.add_zero], hm⟩
        show f10_ruled_L1 T a0 (n + 1) S2 (nI c) l3 (nI 0 - 2) = _
        rw [f10_ruled_L1, if_pos (by decide)]) jF (rc + 1) (S, 0, -2) (by show _ < 5000; omega) ⟨Nat.le_refl _, cQ.rf S, ⟨0, rfl, by rw [Nat.zero_add]⟩, Or.inl ⟨rfl, fun j j1 j2 => by omega⟩⟩
      obtain ⟨X0, x1, x2, x3, x4⟩ := RRun.keep hr hN
      obtain ⟨⟨X1, u', w'⟩, y1, y2, y3, y4, y5, y6⟩ := lp_up (G := rc + 1) (Post := fun r : jS × Int32 × Int32 => r.2.1 = nI (cnB (fun k => fitB B (ruK R k) (bTold B)) (rc + 1)) ∧ r.2.2 = fiW (fun k => fitB B (ruK R k) (bTold B)) (rc + 1) ∧ RRun X r.1 (bNow B) ∧ r.1.1 0 40 = -1 ∧ rQ1 X r.1) (fun m k (A : jS × Int32 × Int32) => f11_ruled_L1 a0 m A.1 A.2.1 A.2.2 (nI k - 1)) (fun k A => A.2.1 = nI (cnB (fun k => fitB B (ruK R k) (bTold B)) k) ∧ A.2.2 = fiW (fun k => fitB B (ruK R k) (bTold B)) k ∧ RRun X A.1 (bNow B) ∧ A.1.1 0 40 = -1 ∧ rQ1 X A.1) (by
        rintro m k ⟨X2, l2, l3⟩ hk ⟨rfl, rfl, hI, i40, hI1⟩
        left
        have e23 : X2.1 0 23 = nI rc := (hI.1 _ _ (by omega) (by omega)).trans rr.1
        have e1 : ¬ nI rc ≤ nI k - 1 := by
          have h1 := nI_pos' (n := rc) (by omega)
          cases k with
          | zero => rw [nI_0m]; grind
          | succ j => rw [nI_pred]; exact nI_ge (by omega) (by omega)
        have e2 : nI k - 1 + 1 = nI (k + 1) - 1 := by have := nI_succ k; grind
        obtain ⟨X3, t1, t2, t3, t4, t5, t6⟩ := r_could ob rr or rb (by omega : k ≤ rc) hI i40
        have t1' : f11_couldRule X2 (nI k - 1) = some (X3, if fitB B (ruK R k) (bTold B) = true then 1 else 0) := t1
        have hle := cn_le (b := fun k => fitB B (ruK R k) (bTold B)) k
        refine ⟨(X3, nI (cnB (fun k => fitB B (ruK R k) (bTold B)) (k + 1)), fiW (fun k => fitB B (ruK R k) (bTold B)) (k + 1)), ?_, rfl, rfl, t2, t4, t3⟩
        show f11_ruled_L1 a0 (m + 1) X2 (nI (cnB (fun k => fitB B (ruK R k) (bTold B)) k)) (fiW (fun k => fitB B (ruK R k) (bTold B)) k) (nI k - 1) = f11_ruled_L1 a0 m X3 (nI (cnB (fun k => fitB B (ruK R k) (bTold B)) (k + 1))) (fiW (fun k => fitB B (ruK R k) (bTold B)) (k + 1)) (nI (k + 1) - 1)
        rw [f11_ruled_L1, e23, if_neg e1, t1', Option.bind_some, e2]
        have cf := cn_fi (b := fun k => fitB B (ruK R k) (bTold B)) k
        unfold fiW
        simp only [cnB, fiB]
        generalize cnB (fun k => fitB B (ruK R k) (bTold B)) k = C at hle cf ⊢
        generalize fiB (fun k => fitB B (ruK R k) (bTold B)) k = F at hle cf ⊢
        by_cases hf : fitB B (ruK R k) (bTold B) = true
        · by_cases hz : C = 0
          · have hF := cf.mp hz
            have n3 : ¬ k + 1 = 0 := by omega
            have n4 : k + 1 - 1 = k := by omega
            simp (disch := omega) only [hf, hz, hF, nI_ltI, nI_leI, nI_eq, nI_clamp, nI_1, nI_add, nI_mul, inb_n, irm_n, nI_div, nI_m6, nI_d6, irm_6, qlt_1, qle_1, qgt_1, qge_1, qeq_1, qlt_2, qle_2, qgt_2, qge_2, qeq_2, qlt_3, qle_3, qgt_3, qge_3, qeq_3, qlt_4, qle_4, qgt_4, qge_4, qeq_4, qlt_5, qle_5, qgt_5, qge_5, qeq_5, qlt_6, qle_6, qgt_6, qge_6, qeq_6, qlt_7, qle_7, qgt_7, qge_7, qeq_7, qlt_8, qle_8, qgt_8, qge_8, qeq_8, qlt_9, qle_9, qgt_9, qge_9, qeq_9, qlt_10, qle_10, qgt_10, qge_10, qeq_10, qlt_12, qle_12, qgt_12, qge_12, qeq_12, qlt_16, qle_16, qgt_16, qge_16, qeq_16, qlt_20, qle_20, qgt_20, qge_20, qeq_20, qlt_24, qle_24, qgt_24, qge_24, qeq_24, qlt_30, qle_30, qgt_30, qge_30, qeq_30, qlt_32, qle_32, qgt_32, qge_32, qeq_32, qlt_37, qle_37, qgt_37, qge_37, qeq_37, qlt_40, qle_40, qgt_40, qge_40, qeq_40, qlt_42, qle_42, qgt_42, qge_42, qeq_42, qlt_43, qle_43, qgt_43, qge_43, qeq_43, qlt_45, qle_45, qgt_45, qge_45, qeq_45, qlt_47, qle_47, qgt_47, qge_47, qeq_47, qlt_48, qle_48, qgt_48, qge_48, qeq_48, qlt_57, qle_57, qgt_57, qge_57, qeq_57, qlt_59, qle_59, qgt_59, qge_59, qeq_59, qlt_60, qle_60, qgt_60, qge_60, qeq_60, qlt_61, qle_61, qgt_61, qge_61, qeq_61, qlt_62, qle_62, qgt_62, qge_62, qeq_62, qlt_64, qle_64, qgt_64, qge_64, qeq_64, qlt_91, qle_91, qgt_91, qge_91, qeq_91, qlt_93, qle_93, qgt_93, qge_93, qeq_93, qlt_97, qle_97, qgt_97, qge_97, qeq_97, qlt_122, qle_122, qgt_122, qge_122, qeq_122, qlt_400, qle_400, qgt_400, qge_400, qeq_400, qlt_999, qle_999, qgt_999, qge_999, qeq_999, qlt_0, qle_0, qgt_0, qge_0, qeq_0, qltm, qeqm, ↓reduceIte, Option.bind_some, not_true_eq_false, not_false_eq_true, and_true, true_and, and_false, false_and, or_false, false_or, or_true, true_or, Bool.false_eq_true, reduceCtorEq, one_ne0, n3, n4]
          · have hF : ¬ F = 0 := fun z => hz (cf.mpr z)
            simp (disch := omega) only [hf, hz, hF, nI_ltI, nI_leI, nI_eq, nI_clamp, nI_1, nI_add, nI_mul, inb_n, irm_n, nI_div, nI_m6, nI_d6, irm_6, qlt_1, qle_1, qgt_1, qge_1, qeq_1, qlt_2, qle_2, qgt_2, qge_2, qeq_2, qlt_3, qle_3, qgt_3, qge_3, qeq_3, qlt_4, qle_4, qgt_4, qge_4, qeq_4, qlt_5, qle_5, qgt_5, qge_5, qeq_5, qlt_6, qle_6, qgt_6, qge_6, qeq_6, qlt_7, qle_7, qgt_7, qge_7, qeq_7, qlt_8, qle_8, qgt_8, qge_8, qeq_8, qlt_9, qle_9, qgt_9, qge_9, qeq_9, qlt_10, qle_10, qgt_10, qge_10, qeq_10, qlt_12, qle_12, qgt_12, qge_12, qeq_12, qlt_16, qle_16, qgt_16, qge_16, qeq_16, qlt_20, qle_20, qgt_20, qge_20, qeq_20, qlt_24, qle_24, qgt_24, qge_24, qeq_24, qlt_30, qle_30, qgt_30, qge_30, qeq_30, qlt_32, qle_32, qgt_32, qge_32, qeq_32, qlt_37, qle_37, qgt_37, qge_37, qeq_37, qlt_40, qle_40, qgt_40, qge_40, qeq_40, qlt_42, qle_42, qgt_42, qge_42, qeq_42, qlt_43, qle_43, qgt_43, qge_43, qeq_43, qlt_45, qle_45, qgt_45, qge_45, qeq_45, qlt_47, qle_47, qgt_47, qge_47, qeq_47, qlt_48, qle_48, qgt_48, qge_48, qeq_48, qlt_57, qle_57, qgt_57, qge_57, qeq_57, qlt_59, qle_59, qgt_59, qge_59, qeq_59, qlt_60, qle_60, qgt_60, qge_60, qeq_60, qlt_61, qle_61, qgt_61, qge_61, qeq_61, qlt_62, qle_62, qgt_62, qge_62, qeq_62, qlt_64, qle_64, qgt_64, qge_64, qeq_64, qlt_91, qle_91, qgt_91, qge_91, qeq_91, qlt_93, qle_93, qgt_93, qge_93, qeq_93, qlt_97, qle_97, qgt_97, qge_97, qeq_97, qlt_122, qle_122, qgt_122, qge_122, qeq_122, qlt_400, qle_400, qgt_400, qge_400, qeq_400, qlt_999, qle_999, qgt_999, qge_999, qeq_999, qlt_0, qle_0, qgt_0, qge_0, qeq_0, qltm, qeqm, ↓reduceIte, Option.bind_some, not_true_eq_false, not_false_eq_true, and_true, true_and, and_false, false_and, or_false, false_or, or_true, true_or, Bool.false_eq_true, reduceCtorEq, one_ne0]
        · by_cases hF : F = 0
          · simp (disch := omega) only [hf, hF, nI_ltI, nI_leI, nI_eq, nI_clamp, nI_1, nI_add, nI_mul, inb_n, irm_n, nI_div, nI_m6, nI_d6, irm_6, qlt_1, qle_1, qgt_1, qge_1, qeq_1, qlt_2, qle_2, qgt_2, qge_2, qeq_2, qlt_3, qle_3, qgt_3, qge_3, qeq_3, qlt_4, qle_4, qgt_4, qge_4, qeq_4, qlt_5, qle_5, qgt_5, qge_5, qeq_5, qlt_6, qle_6, qgt_6, qge_6, qeq_6, qlt_7, qle_7, qgt_7, qge_7, qeq_7, qlt_8, qle_8, qgt_8, qge_8, qeq_8, qlt_9, qle_9, qgt_9, qge_9, qeq_9, qlt_10, qle_10, qgt_10, qge_10, qeq_10, qlt_12, qle_12, qgt_12, qge_12, qeq_12, qlt_16, qle_16, qgt_16, qge_16, qeq_16, qlt_20, qle_20, qgt_20, qge_20, qeq_20, qlt_24, qle_24, qgt_24, qge_24, qeq_24, qlt_30, qle_30, qgt_30, qge_30, qeq_30, qlt_32, qle_32, qgt_32, qge_32, qeq_32, qlt_37, qle_37, qgt_37, qge_37, qeq_37, qlt_40, qle_40, qgt_40, qge_40, qeq_40, qlt_42, qle_42, qgt_42, qge_42, qeq_42, qlt_43, qle_43, qgt_43, qge_43, qeq_43, qlt_45, qle_45, qgt_45, qge_45, qeq_45, qlt_47, qle_47, qgt_47, qge_47, qeq_47, qlt_48, qle_48, qgt_48, qge_48, qeq_48, qlt_57, qle_57, qgt_57, qge_57, qeq_57, qlt_59, qle_59, qgt_59, qge_59, qeq_59, qlt_60, qle_60, qgt_60, qge_60, qeq_60, qlt_61, qle_61, qgt_61, qge_61, qeq_61, qlt_62, qle_62, qgt_62, qge_62, qeq_62, qlt_64, qle_64, qgt_64, qge_64, qeq_64, qlt_91, qle_91, qgt_91, qge_91, qeq_91, qlt_93, qle_93, qgt_93, qge_93, qeq_93, qlt_97, qle_97, qgt_97, qge_97, qeq_97, qlt_122, qle_122, qgt_122, qge_122, qeq_122, qlt_400, qle_400, qgt_400, qge_400, qeq_400, qlt_999, qle_999, qgt_999, qge_999, qeq_999, qlt_0, qle_0, qgt_0, qge_0, qeq_0, qltm, qeqm, ↓reduceIte, Option.bind_some, not_true_eq_false, not_false_eq_true, and_true, true_and, and_false, false_and, or_false, false_or, or_true, true_or, Bool.false_eq_true, reduceCtorEq, Nat.add_zero]
          · simp (disch := omega) only [hf, hF, nI_ltI, nI_leI, nI_eq, nI_clamp, nI_1, nI_add, nI_mul, inb_n, irm_n, nI_div, nI_m6, nI_d6, irm_6, qlt_1, qle_1, qgt_1, qge_1, qeq_1, qlt_2, qle_2, qgt_2, qge_2, qeq_2, qlt_3, qle_3, qgt_3, qge_3, qeq_3, qlt_4, qle_4, qgt_4, qge_4, qeq_4, qlt_5, qle_5, qgt_5, qge_5, qeq_5, qlt_6, qle_6, qgt_6, qge_6, qeq_6, qlt_7, qle_7, qgt_7, qge_7, qeq_7, qlt_8, qle_8, qgt_8, qge_8, qeq_8, qlt_9, qle_9, qgt_9, qge_9, qeq_9, qlt_10, qle_10, qgt_10, qge_10, qeq_10, qlt_12, qle_12, qgt_12, qge_12, qeq_12, qlt_16, qle_16, qgt_16, qge_16, qeq_16, qlt_20, qle_20, qgt_20, qge_20, qeq_20, qlt_24, qle_24, qgt_24, qge_24, qeq_24, qlt_30, qle_30, qgt_30, qge_30, qeq_30, qlt_32, qle_32, qgt_32, qge_32, qeq_32, qlt_37, qle_37, qgt_37, qge_37, qeq_37, qlt_40, qle_40, qgt_40, qge_40, qeq_40, qlt_42, qle_42, qgt_42, qge_42, qeq_42, qlt_43, qle_43, qgt_43, qge_43, qeq_43, qlt_45, qle_45, qgt_45, qge_45, qeq_45, qlt_47, qle_47, qgt_47, qge_47, qeq_47, qlt_48, qle_48, qgt_48, qge_48, qeq_48, qlt_57, qle_57, qgt_57, qge_57, qeq_57, qlt_59, qle_59, qgt_59, qge_59, qeq_59, qlt_60, qle_60, qgt_60, qge_60, qeq_60, qlt_61, qle_61, qgt_61, qge_61, qeq_61, qlt_62, qle_62, qgt_62, qge_62, qeq_62, qlt_64, qle_64, qgt_64, qge_64, qeq_64, qlt_91, qle_91, qgt_91, qge_91, qeq_91, qlt_93, qle_93, qgt_93, qge_93, qeq_93, qlt_97, qle_97, qgt_97, qge_97, qeq_97, qlt_122, qle_122, qgt_122, qge_122, qeq_122, qlt_400, qle_400, qgt_400, qge_400, qeq_400, qlt_999, qle_999, qgt_999, qge_999, qeq_999, qlt_0, qle_0, qgt_0, qge_0, qeq_0, qltm, qeqm, ↓reduceIte, Option.bind_some, not_true_eq_false, not_false_eq_true, and_true, true_and, and_false, false_and, or_false, false_or, or_true, true_or, Bool.false_eq_true, reduceCtorEq, Nat.add_zero]) (by
        rintro m ⟨X2, l2, l3⟩ ⟨g1, g2, hI, i40, hI1⟩
        have e23 : X2.1 0 23 = nI rc := (hI.1 _ _ (by omega) (by omega)).trans rr.1
        refine ⟨(X2, l2, l3), ?_, g1, g2, hI, i40, hI1⟩
        show f11_ruled_L1 a0 (m + 1) X2 l2 l3 (nI (rc + 1) - 1) = _
        rw [f11_ruled_L1, e23, nI_pred]
        simp (disch := omega) only [nI_ltI, nI_leI, nI_eq, nI_clamp, nI_1, nI_add, nI_mul, inb_n, irm_n, nI_div, nI_m6, nI_d6, irm_6, qlt_1, qle_1, qgt_1, qge_1, qeq_1, qlt_2, qle_2, qgt_2, qge_2, qeq_2, qlt_3, qle_3, qgt_3, qge_3, qeq_3, qlt_4, qle_4, qgt_4, qge_4, qeq_4, qlt_5, qle_5, qgt_5, qge_5, qeq_5, qlt_6, qle_6, qgt_6, qge_6, qeq_6, qlt_7, qle_7, qgt_7, qge_7, qeq_7, qlt_8, qle_8, qgt_8, qge_8, qeq_8, qlt_9, qle_9, qgt_9, qge_9, qeq_9, qlt_10, qle_10, qgt_10, qge_10, qeq_10, qlt_12, qle_12, qgt_12, qge_12, qeq_12, qlt_16, qle_16, qgt_16, qge_16, qeq_16, qlt_20, qle_20, qgt_20, qge_20, qeq_20, qlt_24, qle_24, qgt_24, qge_24, qeq_24, qlt_30, qle_30, qgt_30, qge_30, qeq_30, qlt_32, qle_32, qgt_32, qge_32, qeq_32, qlt_37, qle_37, qgt_37, qge_37, qeq_37, qlt_40, qle_40, qgt_40, qge_40, qeq_40, qlt_42, qle_42, qgt_42, qge_42, qeq_42, qlt_43, qle_43, qgt_43, qge_43, qeq_43, qlt_45, qle_45, qgt_45, qge_45, qeq_45, qlt_47, qle_47, qgt_47, qge_47, qeq_47, qlt_48, qle_48, qgt_48, qge_48, qeq_48, qlt_57, qle_57, qgt_57, qge_57, qeq_57, qlt_59, qle_59, qgt_59, qge_59, qeq_59, qlt_60, qle_60, qgt_60, qge_60, qeq_60, qlt_61, qle_61, qgt_61, qge_61, qeq_61, qlt_62, qle_62, qgt_62, qge_62, qeq_62, qlt_64, qle_64, qgt_64, qge_64, qeq_64, qlt_91, qle_91, qgt_91, qge_91, qeq_91, qlt_93, qle_93, qgt_93, qge_93, qeq_93, qlt_97, qle_97, qgt_97, qge_97, qeq_97, qlt_122, qle_122, qgt_122, qge_122, qeq_122, qlt_400, qle_400, qgt_400, qge_400, qeq_400, qlt_999, qle_999, qgt_999, qge_999, qeq_999, qlt_0, qle_0, qgt_0, qge_0, qeq_0, qltm, qeqm, ↓reduceIte, Option.bind_some, not_true_eq_false, not_false_eq_true, and_true, true_and, and_false, false_and, or_false, false_or, or_true, true_or, Bool.false_eq_true, reduceCtorEq, Nat.le_refl]) jF 0 (X0, 0, -2) (Nat.zero_le _) (by show _ < 5000; omega) ⟨rfl, rfl, x2, x3.trans r40, x4⟩
      have s1' : f10_ruled_L1 T a0 jF S 0 (-2) (nI (rc + 1) - 2) = some (S1, u, w) := s1
      have e5 : nI (rc + 1) - 2 = nI rc - 1 := by have := nI_succ rc; grind
      rw [e5] at s1'
      have y1' : f11_ruled_L1 a0 jF X0 0 (-2) (nI 0 - 1) = some (X1, u', w') := y1
      rw [nI_0m] at y1'
      have euu : u = u' := by
        have e1 : u = _ := s3
        have e2 : u' = _ := y2
        rw [e1, e2]
      have eww : w = w' := by
        have e1 : w = _ := minP_0 s4
        have e2 : w' = _ := y3
        rw [e1, e2]
      have fin : INV S1 T X1 := h.end s2 y4.1 y6 (by rw [r40]; exact y5)
      simp only [c, d, ↓reduceIte, Option.bind_some, not_true_eq_false, not_false_eq_true, and_true, true_and, and_false, false_and, or_false, false_or, or_true, true_or, Bool.false_eq_true, reduceCtorEq, one_ne0, and_self, cr.1, s1', x1, y1']
      by_cases e0 : a0 = 0
      · simp only [e0, ↓reduceIte, Option.bind_some, not_true_eq_false, not_false_eq_true, and_true, true_and, and_false, false_and, or_false, false_or, or_true, true_or, Bool.false_eq_true, reduceCtorEq]
        exact ⟨S1, X1, u, rfl, by rw [euu], fin⟩
      · simp only [e0, ↓reduceIte, Option.bind_some, not_true_eq_false, not_false_eq_true, and_true, true_and, and_false, false_and, or_false, false_or, or_true, true_or, Bool.false_eq_true, reduceCtorEq]
        exact ⟨S1, X1, w, rfl, by rw [eww], fin⟩
    · refine ⟨S, X, -3, ?_, by simp only [c, ↓reduceIte, Option.bind_some, not_true_eq_false, not_false_eq_true, and_true, true_and, and_false, false_and, or_false, false_or, or_true, true_or, Bool.false_eq_true, reduceCtorEq], h⟩
      by_cases d : a0 < 0
      · rw [if_pos d]
      · rw [if_neg d, if_neg (by grind)]
