/-! calls that change a number: end, force, seed, note -/
theorem k_end {S : jS} {T : jT} {X : jS} (h : INV S T X) (a0 : Int32) : ∃ S1 X1 v, f10_end S a0 = some (S1, v) ∧ f11_end X a0 = some (X1, v) ∧ INV S1 T X1 := by
  obtain ⟨tn, tb, rc, R, B, Bi, im, ⟨ct, cr, cb, ci⟩, ⟨rt, rr, rb, ri, r40, r28⟩, ⟨ot, or, ob, oi⟩⟩ := id h
  unfold f10_end f11_end
  rw [ct.1, rt.1]
  by_cases c0 : a0 < 0
  · exact ⟨S, X, -1, by rw [if_pos c0], by rw [if_pos c0], h⟩
  · rw [if_neg c0, if_neg c0]
    by_cases c1 : a0 ≤ nI tn
    · obtain ⟨m, hm, rfl⟩ := nI_of c0
      have hmt : m ≤ tn := (nI_leI hm (by have := ot.1; omega)).mp c1
      refine ⟨wI S 1 1 (nI m), wI X 0 19 (nI m), nI m, by rw [if_pos c1], by rw [if_pos c1], m, tb, rc, R, B, Bi, im, ⟨⟨wI_self _ _ _ _, fun i hi => ?_⟩, ⟨?_, fun r hr => ?_, cr.2.2⟩, cb.q (by omega) (by omega) (fun a i g1 g2 => wI_ne (by omega)), fun k hk => ⟨fun e => ⟨((ci k hk).1 e).1, ((ci k hk).1 e).2.q (by omega) (by omega) (fun a i g1 g2 => wI_ne (by omega))⟩, (ci k hk).2⟩⟩, ⟨⟨wI_self _ _ _ _, fun i hi => ?_⟩, ⟨?_, fun r hr => ⟨?_, rre_ext2 (fun a i g1 g2 => wI_ne (by omega)) (rr.2 r hr).2⟩⟩, ?_, fun k hk => ⟨?_, fun e => VI_q (oi k hk e) ((ri k hk).2 e) (fun i g1 g2 => wI_ne (by omega))⟩, ?_, ?_⟩, ⟨⟨by have := ot.1; omega, fun i hi => ot.2 i (by omega)⟩, or, ob, oi⟩⟩
      · rw [wI_ne (by omega)]; exact ct.2 i (by omega)
      · rw [wI_ne (by omega)]; exact cr.1
      · have e : (wI S 1 1 (nI m)).1 (1200 + 10 * r + 1) = S.1 (1200 + 10 * r + 1) := funext (fun i => wI_ne (by omega))
        rw [e]; exact cr.2.1 r hr
      · rw [wI_ne (by omega)]; exact rt.2 i (by omega)
      · rw [wI_nj (by omega)]; exact rr.1
      · rw [wI_ne (by omega)]; exact (rr.2 r hr).1
      · refine RBk.q ob rb (fun i hi => ?_) (fun a i h1 h2 hi => ?_) (fun c hc => ?_) (fun a i h1 h2 hi => ?_) (fun a i h1 h2 hi => ?_) ?_ (fun i hi => ?_)
        · exact wI_ne (by omega)
        · show (if a = 43 then _ else (wI X 0 19 (nI m)).1 a i) = (if a = 43 then _ else X.1 a i)
          rw [if_neg (by omega), if_neg (by omega)]; exact wI_ne (by omega)
        · exact wI_ne (by omega)
        · show (if a = 43 then _ else (wI X 0 19 (nI m)).1 a i) = (if a = 43 then _ else X.1 a i)
          rw [if_neg (by omega), if_neg (by omega)]; exact wI_ne (by omega)
        · show (if a = 43 then _ else (wI X 0 19 (nI m)).1 a i) = (if a = 43 then _ else X.1 a i)
          rw [if_neg (by omega), if_neg (by omega)]; exact wI_ne (by omega)
        · exact wI_nj (by omega)
        · exact wI_ne (by omega)
      · rw [wI_ne (by omega)]; exact (ri k hk).1
      · rw [wI_nj (by omega)]; exact r40
      · rw [wI_nj (by omega)]; exact r28
    · exact ⟨S, X, -1, by rw [if_neg c1], by rw [if_neg c1], h⟩
/-- a book whose numbers of force, seed and notes are changed -/
def bSet (B : mB) (nn : Nat) (nr ng ni : Nat → Nat) (fo se : Nat) : mB := (B.1, B.2.1, (nn, nr, ng, ni), (fo, se))
/-- the class's book, with changes in its own cell from 8 on and in its notes; the reference's, with changes in row 1 from 8 on and in rows 8 to 10 -/
theorem INV.set {S : jS} {T : jT} {X S1 X1 : jS} {tn : Nat} {tb : Nat → Nat} {rc : Nat} {R : Nat → mR} {B : mB} {Bi : Nat → mB} {im : Nat → Bool} {nn : Nat} {nr ng ni : Nat → Nat} {fo se : Nat} (h1 : CSt S T tn tb rc R B Bi im) (h2 : RSt X tn tb rc R B Bi im) (h3 : AOk tn tb rc R B Bi im)
    (q1 : ∀ a i, ¬ (a = 100 ∧ 8 ≤ i) → ¬ (116 ≤ a ∧ a ≤ 118) → S1.1 a i = S.1 a i) (q2 : ∀ a i, ¬ (a = 1 ∧ 8 ≤ i) → ¬ (8 ≤ a ∧ a ≤ 10) → X1.1 a i = X.1 a i)
    (c1 : CNt S1 100 (bSet B nn nr ng ni fo se)) (c2 : S1.1 100 9 = nI fo - 1) (c3 : S1.1 100 10 = nI se) (r1 : X1.1 1 8 = nI nn ∧ ∀ k, k < nn → X1.1 8 k = nI (nr k) ∧ X1.1 9 k = nI (ng k) ∧ X1.1 10 k = nI (ni k)) (r2 : X1.1 1 10 = nI fo - 1) (r3 : X1.1 1 9 = nI se)
    (o1 : nn ≤ 10) (o2 : ∀ k, k < nn → nr k ≤ 20 ∧ ng k < 7 ∧ ni k ≤ 1) (o3 : fo ≤ rc) (o4 : se < 2 ^ 31) : INV S1 T X1 := by
  obtain ⟨ct, cr, ⟨b1, b2, b3, ⟨np, b4, b5, b6⟩, -, -, -⟩, ci⟩ := h1
  obtain ⟨rt, rr, ⟨d1, d2, d3, d4, -, -, -⟩, ri, r40, r28⟩ := h2
  obtain ⟨ot, or, ⟨k1, k2, k3, k4, k5, k6, k7, -, -, -, -⟩, oi⟩ := h3
  have hs : ∀ A j, sl0 np A j < 20 := fun A j => Nat.mod_lt _ (by omega)
  refine ⟨tn, tb, rc, R, bSet B nn nr ng ni fo se, Bi, im, ⟨⟨?_, fun i hi => ?_⟩, ⟨?_, fun r hr => ?_, cr.2.2⟩, ⟨b1.mono (fun a i g1 g2 => q1 a i (by omega) (by omega)), b2.mono (fun a i g1 g2 => q1 a i (by omega) (by omega)), ?_, ⟨np, b4, ?_, fun j hj => ⟨(b6 j hj).1, (b6 j hj).2.mono (fun a i g1 g2 => q1 a i (by omega) (by omega))⟩⟩, c1, c2, c3⟩, fun k hk => ⟨fun e => ⟨((ci k hk).1 e).1, ((ci k hk).1 e).2.q (by omega) (by omega) (fun a i g1 g2 => q1 a i (by omega) (by omega))⟩, (ci k hk).2⟩⟩, ⟨⟨?_, fun i hi => ?_⟩, ⟨?_, fun r hr => ⟨?_, rre_ext2 (fun a i g1 g2 => q2 a i (by omega) (by omega)) (rr.2 r hr).2⟩⟩, ⟨?_, fun g hg => ?_, ?_, fun j hj => ?_, ⟨r1.1, fun k hk => ?_⟩, r2, r3⟩, fun k hk => ⟨?_, fun e => VI_q (oi k hk e) ((ri k hk).2 e) (fun i g1 g2 => q2 _ _ (by omega) (by omega))⟩, ?_, ?_⟩, ⟨ot, or, ⟨k1, k2, k3, k4, k5, k6, k7, o1, o2, o3, o4⟩, oi⟩⟩
  · rw [q1 _ _ (by omega) (by omega)]; exact ct.1
  · rw [q1 _ _ (by omega) (by omega)]; exact ct.2 i hi
  · rw [q1 _ _ (by omega) (by omega)]; exact cr.1
  · have e : S1.1 (1200 + 10 * r + 1) = S.1 (1200 + 10 * r + 1) := funext (fun i => q1 _ _ (by omega) (by omega))
    rw [e]; exact cr.2.1 r hr
  · rw [q1 _ _ (by omega) (by omega)]; exact b3
  · rw [q1 _ _ (by omega) (by omega)]; exact b5
  · rw [q2 _ _ (by omega) (by omega)]; exact rt.1
  · rw [q2 _ _ (by omega) (by omega)]; exact rt.2 i hi
  · rw [q2 _ _ (by omega) (by omega)]; exact rr.1
  · rw [q2 _ _ (by omega) (by omega)]; exact (rr.2 r hr).1
  · have e : ∀ a i, a ≠ 43 → VC X a i = X.1 a i := fun a i h => if_neg h
    have e1 : ∀ a i, a ≠ 43 → VC X1 a i = X1.1 a i := fun a i h => if_neg h
    have d1h : HIs (hV X.1) (bNow B) := HV_mono d1 (fun a i h1 h2 => (if_neg (by omega : ¬ a = 43)).symm)
    refine HIs_V ?_ ?_ ?_ ?_ ?_ ?_ ?_ ?_ (fun c hc => ?_) (fun a g g1 g2 hg => ?_)
    · exact (q2 1 0 (by omega) (by omega)).trans (HV0 d1h)
    · exact (q2 1 1 (by omega) (by omega)).trans (HV1 d1h)
    · exact (q2 1 2 (by omega) (by omega)).trans (HV2 d1h)
    · exact (q2 1 7 (by omega) (by omega)).trans (HV3 d1h)
    · exact (q2 1 6 (by omega) (by omega)).trans (HV4 d1h)
    · exact (q2 1 3 (by omega) (by omega)).trans (HV5 d1h)
    · exact (q2 1 5 (by omega) (by omega)).trans (HV6 d1h)
    · exact (q2 1 4 (by omega) (by omega)).trans (HV7 d1h)
    · exact (q2 7 c (by omega) (by omega)).trans (HVc d1h hc)
    · rw [e1 _ _ (by omega), q2 _ _ (by omega) (by omega)]; exact HVg d1h g1 g2 hg
  · have := d2 g hg
    exact ⟨(q2 11 g (by omega) (by omega)).trans this.1, (q2 12 g (by omega) (by omega)).trans this.2.1, (q2 13 g (by omega) (by omega)).trans this.2.2⟩
  · exact (q2 0 44 (by omega) (by omega)).trans d3
  · obtain ⟨e1, e2, e3, e4, e5, e6⟩ := d4 j hj
    refine ⟨(q2 42 _ (by omega) (by omega)).trans e1, (q2 42 _ (by omega) (by omega)).trans e2, (q2 42 _ (by omega) (by omega)).trans e3, (q2 42 _ (by omega) (by omega)).trans e4, (q2 42 _ (by omega) (by omega)).trans e5, fun a g g1 g2 hg => (q2 42 _ (by omega) (by omega)).trans (e6 a g g1 g2 hg)⟩
  · exact r1.2 k hk
  · rw [q2 _ _ (by omega) (by omega)]; exact (ri k hk).1
  · rw [q2 _ _ (by omega) (by omega)]; exact r40
  · rw [q2 _ _ (by omega) (by omega)]; exact r28
theorem k_force {S : jS} {T : jT} {X : jS} (h : INV S T X) (a0 : Int32) : ∃ S1 X1 v, f10_force S a0 = some (S1, v) ∧ f11_force X a0 = some (X1, v) ∧ INV S1 T X1 := by
  obtain ⟨tn, tb, rc, R, B, Bi, im, h1, h2, h3⟩ := id h
  obtain ⟨ct, cr, cb, ci⟩ := id h1
  obtain ⟨rt, rr, rb, ri, r40, r28⟩ := id h2
  obtain ⟨ot, or, ob, oi⟩ := id h3
  obtain ⟨-, -, -, -, ⟨n1, n2⟩, b6, b7⟩ := id cb
  obtain ⟨-, -, -, -, ⟨d1, d2⟩, d6, d7⟩ := id rb
  obtain ⟨-, -, -, -, -, -, -, o1, o2, o3, o4⟩ := id ob
  have hm : (-1 : Int32).toInt64 = -1 := by decide
  have hrc := or.1
  unfold f10_force f11_force
  rw [cr.1, rr.1, r_in a0 hm rfl, b6, show X.1 1 10 = nI (bFo B) - 1 from d6]
  by_cases c0 : a0 < -1
  · have : ¬ (-1 ≤ a0 ∧ a0 ≤ nI rc - 1) := by grind
    exact ⟨S, X, -2, by simp [c0], by simp [this], h⟩
  · rw [if_neg c0]
    have key : a0 < nI rc ↔ (-1 ≤ a0 ∧ a0 ≤ nI rc - 1) := by
      have := nI_pos' (n := rc) (by omega)
      constructor
      · intro z; exact ⟨by grind, by grind⟩
      · intro z; grind
    by_cases c1 : a0 < nI rc
    · obtain ⟨f, hf, hf2⟩ : ∃ f, f ≤ rc ∧ a0 = nI f - 1 := by
        by_cases z : a0 < 0
        · refine ⟨0, by omega, ?_⟩
          rw [nI_0m]; grind
        · obtain ⟨j, hj, rfl⟩ := nI_of z
          have := (nI_ltI hj (by omega)).mp c1
          exact ⟨j + 1, by omega, (nI_pred j).symm⟩
      rw [if_pos c1]
      simp only [key.mp c1, ↓reduceIte, Option.bind_some, not_true_eq_false, not_false_eq_true, and_true, true_and, and_false, false_and, or_false, false_or, or_true, true_or, Bool.false_eq_true, reduceCtorEq, one_ne0, and_self]
      refine ⟨_, _, _, rfl, rfl, INV.set (S1 := wI S 100 9 a0) (X1 := wI X 1 10 a0) (nn := bNn B) (nr := bNr B) (ng := bNg B) (ni := bNi B) (fo := f) (se := bSe B) h1 h2 h3 (fun a i g1 g2 => by rw [wI_g, if_neg (by omega)]) (fun a i g1 g2 => by rw [wI_g, if_neg (by omega)]) ⟨by rw [wI_nj (by omega)]; exact n1, fun k hk => by rw [wI_ne (by omega), wI_ne (by omega), wI_ne (by omega)]; exact n2 k hk⟩ (by rw [wI_self]; exact hf2) (by rw [wI_nj (by omega)]; exact b7) ⟨by rw [wI_nj (by omega)]; exact d1, fun k hk => by rw [wI_ne (by omega), wI_ne (by omega), wI_ne (by omega)]; exact d2 k hk⟩ (by rw [wI_self]; exact hf2) (by rw [wI_nj (by omega)]; exact d7) o1 o2 hf o4⟩
    · rw [if_neg c1]
      have : ¬ (-1 ≤ a0 ∧ a0 ≤ nI rc - 1) := fun z => c1 (key.mpr z)
      exact ⟨S, X, -2, rfl, by simp [this], h⟩
theorem k_seed {S : jS} {T : jT} {X : jS} (h : INV S T X) (a0 : Int32) : ∃ S1 X1 v, f10_seed S a0 = some (S1, v) ∧ f11_seed X a0 = some (X1, v) ∧ INV S1 T X1 := by
  obtain ⟨tn, tb, rc, R, B, Bi, im, h1, h2, h3⟩ := id h
  obtain ⟨ct, cr, cb, ci⟩ := id h1
  obtain ⟨rt, rr, rb, ri, r40, r28⟩ := id h2
  obtain ⟨ot, or, ob, oi⟩ := id h3
  obtain ⟨-, -, -, -, ⟨n1, n2⟩, b6, b7⟩ := id cb
  obtain ⟨-, -, -, -, ⟨d1, d2⟩, d6, d7⟩ := id rb
  obtain ⟨-, -, -, -, -, -, -, o1, o2, o3, o4⟩ := id ob
  unfold f10_seed f11_seed
  rw [b7, show X.1 1 9 = nI (bSe B) from d7]
  by_cases c0 : 0 ≤ a0
  · rw [if_pos c0, if_pos c0]
    obtain ⟨m, hm, rfl⟩ := nI_of (x := a0) (by grind)
    exact ⟨_, _, _, rfl, rfl, INV.set (S1 := wI S 100 10 (nI m)) (X1 := wI X 1 9 (nI m)) (nn := bNn B) (nr := bNr B) (ng := bNg B) (ni := bNi B) (fo := bFo B) (se := m) h1 h2 h3 (fun a i g1 g2 => by rw [wI_g, if_neg (by omega)]) (fun a i g1 g2 => by rw [wI_g, if_neg (by omega)]) ⟨by rw [wI_nj (by omega)]; exact n1, fun k hk => by rw [wI_ne (by omega), wI_ne (by omega), wI_ne (by omega)]; exact n2 k hk⟩ (by rw [wI_nj (by omega)]; exact b6) (wI_self _ _ _ _) ⟨by rw [wI_nj (by omega)]; exact d1, fun k hk => by rw [wI_ne (by omega), wI_ne (by omega), wI_ne (by omega)]; exact d2 k hk⟩ (by rw [wI_nj (by omega)]; exact d6) (wI_self _ _ _ _) o1 o2 o3 hm⟩
  · exact ⟨S, X, -1, by rw [if_neg c0], by rw [if_neg c0], h⟩
theorem k_note {S : jS} {T : jT} {X : jS} (h : INV S T X) (a0 a1 a2 : Int32) : ∃ S1 X1 v, f10_note S a0 a1 a2 = some (S1, v) ∧ f11_note X a0 a1 a2 = some (X1, v) ∧ INV S1 T X1 := by
  obtain ⟨tn, tb, rc, R, B, Bi, im, h1, h2, h3⟩ := id h
  obtain ⟨ct, cr, cb, ci⟩ := id h1
  obtain ⟨rt, rr, rb, ri, r40, r28⟩ := id h2
  obtain ⟨ot, or, ob, oi⟩ := id h3
  obtain ⟨hc, -, -, -, ⟨n1, n2⟩, b6, b7⟩ := id cb
  obtain ⟨-, -, -, -, ⟨d1, d2⟩, d6, d7⟩ := id rb
  obtain ⟨hN, -, -, -, -, -, -, o1, o2, o3, o4⟩ := id ob
  have hr := rb.h
  have d1' : X.1 1 8 = nI (bNn B) := d1
  have hG := hN.2.2.1
  have m0 : (0 : Int32).toInt64 = 0 := by decide
  have m1 : (1 : Int32).toInt64 = 1 := by decide
  have m20 : (20 : Int32).toInt64 = 20 := by decide
  unfold f10_note f11_note
  by_cases e : a0 = -1
  · rw [if_pos e, if_pos e]
    exact ⟨_, _, _, rfl, rfl, INV.set (S1 := wI S 100 8 0) (X1 := wI X 1 8 0) (nn := 0) (nr := bNr B) (ng := bNg B) (ni := bNi B) (fo := bFo B) (se := bSe B) h1 h2 h3 (fun a i g1 g2 => by rw [wI_g, if_neg (by omega)]) (fun a i g1 g2 => by rw [wI_g, if_neg (by omega)]) ⟨wI_self _ _ _ _, fun k hk => absurd hk (Nat.not_lt_zero k)⟩ (by rw [wI_nj (by omega)]; exact b6) (by rw [wI_nj (by omega)]; exact b7) ⟨wI_self _ _ _ _, fun k hk => by omega⟩ (by rw [wI_nj (by omega)]; exact d6) (by rw [wI_nj (by omega)]; exact d7) (by omega) (fun k hk => by omega) o3 o4⟩
  · rw [if_neg e, if_neg e, r_in a0 m0 m20, r_in a2 m0 m1]
    by_cases c0 : 0 ≤ a0 ∧ a0 ≤ 20
    · obtain ⟨m, hm, rfl⟩ := nI_of2 (x := a0) (M := 20) (n := 20) (by decide) (by grind) c0.2
      have c1 : ¬ nI m < 0 := by grind
      have c2 : ¬ 20 < nI m := by grind
      rw [if_neg c1, if_neg c2, if_pos c0]
      rcases arg_cs a1 (G := bNow B 0 2) (by omega) with ⟨g, hg, rfl⟩ | hg
      · rw [(c_isG hN hc).1 g hg, (r_isG hN hr).1 g hg]
        by_cases c3 : 0 ≤ a2 ∧ a2 ≤ 1
        · obtain ⟨w, hw, rfl⟩ := nI_of2 (x := a2) (M := 1) (n := 1) (by decide) (by grind) c3.2
          have c4 : ¬ nI w < 0 := by grind
          simp only [↓reduceIte, Option.bind_some, not_true_eq_false, not_false_eq_true, and_true, true_and, and_false, false_and, or_false, false_or, or_true, true_or, Bool.false_eq_true, reduceCtorEq, one_ne0, c3, c4, and_self, d1']
          by_cases cf : bNn B < 10
          · have cf2 : ¬ bNn B = 10 := by omega
            have ha : f0_addNote S 100 (nI m) (nI g) (nI w) = some (wI (wI (wI (wI S 116 (bNn B) (nI m)) 117 (bNn B) (nI g)) 118 (bNn B) (nI w)) 100 8 (nI (bNn B + 1)), 1) := by
              unfold f0_addNote
              simp (disch := omega) only [n1, wI_self, wI_ne, wI_nj, wI_L, nI_ltI, nI_leI, nI_eq, nI_clamp, nI_1, nI_add, nI_mul, inb_n, irm_n, nI_div, nI_m6, nI_d6, irm_6, qlt_1, qle_1, qgt_1, qge_1, qeq_1, qlt_2, qle_2, qgt_2, qge_2, qeq_2, qlt_3, qle_3, qgt_3, qge_3, qeq_3, qlt_4, qle_4, qgt_4, qge_4, qeq_4, qlt_5, qle_5, qgt_5, qge_5, qeq_5, qlt_6, qle_6, qgt_6, qge_6, qeq_6, qlt_7, qle_7, qgt_7, qge_7, qeq_7, qlt_8, qle_8, qgt_8, qge_8, qeq_8, qlt_9, qle_9, qgt_9, qge_9, qeq_9, qlt_10, qle_10, qgt_10, qge_10, qeq_10, qlt_12, qle_12, qgt_12, qge_12, qeq_12, qlt_16, qle_16, qgt_16, qge_16, qeq_16, qlt_20, qle_20, qgt_20, qge_20, qeq_20, qlt_24, qle_24, qgt_24, qge_24, qeq_24, qlt_30, qle_30, qgt_30, qge_30, qeq_30, qlt_32, qle_32, qgt_32, qge_32, qeq_32, qlt_37, qle_37, qgt_37, qge_37, qeq_37, qlt_40, qle_40, qgt_40, qge_40, qeq_40, qlt_42, qle_42, qgt_42, qge_42, qeq_42, qlt_43, qle_43, qgt_43, qge_43, qeq_43, qlt_45, qle_45, qgt_45, qge_45, qeq_45, qlt_47, qle_47, qgt_47, qge_47, qeq_47, qlt_48, qle_48, qgt_48, qge_48, qeq_48, qlt_57, qle_57, qgt_57, qge_57, qeq_57, qlt_59, qle_59, qgt_59, qge_59, qeq_59, qlt_60, qle_60, qgt_60, qge_60, qeq_60, qlt_61, qle_61, qgt_61, qge_61, qeq_61, qlt_62, qle_62, qgt_62, qge_62, qeq_62, qlt_64, qle_64, qgt_64, qge_64, qeq_64, qlt_91, qle_91, qgt_91, qge_91, qeq_91, qlt_93, qle_93, qgt_93, qge_93, qeq_93, qlt_97, qle_97, qgt_97, qge_97, qeq_97, qlt_122, qle_122, qgt_122, qge_122, qeq_122, qlt_400, qle_400, qgt_400, qge_400, qeq_400, qlt_999, qle_999, qgt_999, qge_999, qeq_999, qlt_0, qle_0, qgt_0, qge_0, qeq_0, qltm, qeqm, ↓reduceIte, Option.bind_some, not_true_eq_false, not_false_eq_true, and_true, true_and, and_false, false_and, or_false, false_or, or_true, true_or, Bool.false_eq_true, reduceCtorEq, cf]
            rw [ha]
            simp (disch := omega) only [nI_ltI, nI_leI, nI_eq, nI_clamp, nI_1, nI_add, nI_mul, inb_n, irm_n, nI_div, nI_m6, nI_d6, irm_6, qlt_1, qle_1, qgt_1, qge_1, qeq_1, qlt_2, qle_2, qgt_2, qge_2, qeq_2, qlt_3, qle_3, qgt_3, qge_3, qeq_3, qlt_4, qle_4, qgt_4, qge_4, qeq_4, qlt_5, qle_5, qgt_5, qge_5, qeq_5, qlt_6, qle_6, qgt_6, qge_6, qeq_6, qlt_7, qle_7, qgt_7, qge_7, qeq_7, qlt_8, qle_8, qgt_8, qge_8, qeq_8, qlt_9, qle_9, qgt_9, qge_9, qeq_9, qlt_10, qle_10, qgt_10, qge_10, qeq_10, qlt_12, qle_12, qgt_12, qge_12, qeq_12, qlt_16, qle_16, qgt_16, qge_16, qeq_16, qlt_20, qle_20, qgt_20, qge_20, qeq_20, qlt_24, qle_24, qgt_24, qge_24, qeq_24, qlt_30, qle_30, qgt_30, qge_30, qeq_30, qlt_32, qle_32, qgt_32, qge_32, qeq_32, qlt_37, qle_37, qgt_37, qge_37, qeq_37, qlt_40, qle_40, qgt_40, qge_40, qeq_40, qlt_42, qle_42, qgt_42, qge_42, qeq_42, qlt_43, qle_43, qgt_43, qge_43, qeq_43, qlt_45, qle_45, qgt_45, qge_45, qeq_45, qlt_47, qle_47, qgt_47, qge_47, qeq_47, qlt_48, qle_48, qgt_48, qge_48, qeq_48, qlt_57, qle_57, qgt_57, qge_57, qeq_57, qlt_59, qle_59, qgt_59, qge_59, qeq_59, qlt_60, qle_60, qgt_60, qge_60, qeq_60, qlt_61, qle_61, qgt_61, qge_61, qeq_61, qlt_62, qle_62, qgt_62, qge_62, qeq_62, qlt_64, qle_64, qgt_64, qge_64, qeq_64, qlt_91, qle_91, qgt_91, qge_91, qeq_91, qlt_93, qle_93, qgt_93, qge_93, qeq_93, qlt_97, qle_97, qgt_97, qge_97, qeq_97, qlt_122, qle_122, qgt_122, qge_122, qeq_122, qlt_400, qle_400, qgt_400, qge_400, qeq_400, qlt_999, qle_999, qgt_999, qge_999, qeq_999, qlt_0, qle_0, qgt_0, qge_0, qeq_0, qltm, qeqm, wI_self, wI_ne, wI_nj, wI_L, ↓reduceIte, Option.bind_some, not_true_eq_false, not_false_eq_true, and_true, true_and, and_false, false_and, or_false, false_or, or_true, true_or, Bool.false_eq_true, reduceCtorEq, cf, cf2, one_ne0, d1']
            refine ⟨_, _, _, rfl, rfl, INV.set (S1 := wI (wI (wI (wI S 116 (bNn B) (nI m)) 117 (bNn B) (nI g)) 118 (bNn B) (nI w)) 100 8 (nI (bNn B + 1))) (X1 := wI (wI (wI (wI X 8 (bNn B) (nI m)) 9 (bNn B) (nI g)) 10 (bNn B) (nI w)) 1 8 (nI (bNn B + 1))) (nn := bNn B + 1) (nr := fun k => if k = bNn B then m else bNr B k) (ng := fun k => if k = bNn B then g else bNg B k) (ni := fun k => if k = bNn B then w else bNi B k) (fo := bFo B) (se := bSe B) h1 h2 h3 (fun a i g1 g2 => by rw [wI_g, wI_g, wI_g, wI_g, if_neg (by omega), if_neg (by omega), if_neg (by omega), if_neg (by omega)]) (fun a i g1 g2 => by rw [wI_g, wI_g, wI_g, wI_g, if_neg (by omega), if_neg (by omega), if_neg (by omega), if_neg (by omega)]) ⟨wI_self _ _ _ _, fun k hk => ?_⟩ (by simp (disch := omega) only [wI_self, wI_ne, wI_nj, wI_L]; exact b6) (by simp (disch := omega) only [wI_self, wI_ne, wI_nj, wI_L]; exact b7) ⟨wI_self _ _ _ _, fun k hk => ?_⟩ (by simp (disch := omega) only [wI_self, wI_ne, wI_nj, wI_L]; exact d6) (by simp (disch := omega) only [wI_self, wI_ne, wI_nj, wI_L]; exact d7) (by omega) (fun k hk => ?_) o3 o4⟩
            · show (wI (wI (wI (wI S 116 (bNn B) (nI m)) 117 (bNn B) (nI g)) 118 (bNn B) (nI w)) 100 8 (nI (bNn B + 1))).1 116 k = nI (if k = bNn B then m else bNr B k) ∧ (wI (wI (wI (wI S 116 (bNn B) (nI m)) 117 (bNn B) (nI g)) 118 (bNn B) (nI w)) 100 8 (nI (bNn B + 1))).1 117 k = nI (if k = bNn B then g else bNg B k) ∧ (wI (wI (wI (wI S 116 (bNn B) (nI m)) 117 (bNn B) (nI g)) 118 (bNn B) (nI w)) 100 8 (nI (bNn B + 1))).1 118 k = nI (if k = bNn B then w else bNi B k)
              have hk' : k < bNn B + 1 := hk
              by_cases ek : k = bNn B
              · subst ek; simp (disch := omega) only [wI_self, wI_ne, wI_nj, wI_L, if_true]; exact ⟨trivial, trivial, trivial⟩
              · simp (disch := omega) only [wI_self, wI_ne, wI_nj, wI_L, ek, if_false]
                exact n2 k (by omega)
            · by_cases ek : k = bNn B
              · subst ek; simp (disch := omega) only [wI_self, wI_ne, wI_nj, wI_L, if_true]; exact ⟨trivial, trivial, trivial⟩
              · simp (disch := omega) only [wI_self, wI_ne, wI_nj, wI_L, ek, if_false]
                exact d2 k (by omega)
            · by_cases ek : k = bNn B
              · subst ek; simp only [if_true]; omega
              · simp only [ek, if_false]; exact o2 k (by omega)
          · have cf2 : bNn B = 10 := by omega
            refine ⟨S, X, -2, ?_, ?_, h⟩
            · have ha : f0_addNote S 100 (nI m) (nI g) (nI w) = some (S, 0) := by
                unfold f0_addNote
                simp (disch := omega) only [n1, nI_ltI, nI_leI, nI_eq, nI_clamp, nI_1, nI_add, nI_mul, inb_n, irm_n, nI_div, nI_m6, nI_d6, irm_6, qlt_1, qle_1, qgt_1, qge_1, qeq_1, qlt_2, qle_2, qgt_2, qge_2, qeq_2, qlt_3, qle_3, qgt_3, qge_3, qeq_3, qlt_4, qle_4, qgt_4, qge_4, qeq_4, qlt_5, qle_5, qgt_5, qge_5, qeq_5, qlt_6, qle_6, qgt_6, qge_6, qeq_6, qlt_7, qle_7, qgt_7, qge_7, qeq_7, qlt_8, qle_8, qgt_8, qge_8, qeq_8, qlt_9, qle_9, qgt_9, qge_9, qeq_9, qlt_10, qle_10, qgt_10, qge_10, qeq_10, qlt_12, qle_12, qgt_12, qge_12, qeq_12, qlt_16, qle_16, qgt_16, qge_16, qeq_16, qlt_20, qle_20, qgt_20, qge_20, qeq_20, qlt_24, qle_24, qgt_24, qge_24, qeq_24, qlt_30, qle_30, qgt_30, qge_30, qeq_30, qlt_32, qle_32, qgt_32, qge_32, qeq_32, qlt_37, qle_37, qgt_37, qge_37, qeq_37, qlt_40, qle_40, qgt_40, qge_40, qeq_40, qlt_42, qle_42, qgt_42, qge_42, qeq_42, qlt_43, qle_43, qgt_43, qge_43, qeq_43, qlt_45, qle_45, qgt_45, qge_45, qeq_45, qlt_47, qle_47, qgt_47, qge_47, qeq_47, qlt_48, qle_48, qgt_48, qge_48, qeq_48, qlt_57, qle_57, qgt_57, qge_57, qeq_57, qlt_59, qle_59, qgt_59, qge_59, qeq_59, qlt_60, qle_60, qgt_60, qge_60, qeq_60, qlt_61, qle_61, qgt_61, qge_61, qeq_61, qlt_62, qle_62, qgt_62, qge_62, qeq_62, qlt_64, qle_64, qgt_64, qge_64, qeq_64, qlt_91, qle_91, qgt_91, qge_91, qeq_91, qlt_93, qle_93, qgt_93, qge_93, qeq_93, qlt_97, qle_97, qgt_97, qge_97, qeq_97, qlt_122, qle_122, qgt_122, qge_122, qeq_122, qlt_400, qle_400, qgt_400, qge_400, qeq_400, qlt_999, qle_999, qgt_999, qge_999, qeq_999, qlt_0, qle_0, qgt_0, qge_0, qeq_0, qltm, qeqm, ↓reduceIte, Option.bind_some, not_true_eq_false, not_false_eq_true, and_true, true_and, and_false, false_and, or_false, false_or, or_true, true_or, Bool.false_eq_true, reduceCtorEq, cf]
              rw [ha]; rfl
            · simp (disch := omega) only [nI_ltI, nI_leI, nI_eq, nI_clamp, nI_1, nI_add, nI_mul, inb_n, irm_n, nI_div, nI_m6, nI_d6, irm_6, qlt_1, qle_1, qgt_1, qge_1, qeq_1, qlt_2, qle_2, qgt_2, qge_2, qeq_2, qlt_3, qle_3, qgt_3, qge_3, qeq_3, qlt_4, qle_4, qgt_4, qge_4, qeq_4, qlt_5, qle_5, qgt_5, qge_5, qeq_5, qlt_6, qle_6, qgt_6, qge_6, qeq_6, qlt_7, qle_7, qgt_7, qge_7, qeq_7, qlt_8, qle_8, qgt_8, qge_8, qeq_8, qlt_9, qle_9, qgt_9, qge_9, qeq_9, qlt_10, qle_10, qgt_10, qge_10, qeq_10, qlt_12, qle_12, qgt_12, qge_12, qeq_12, qlt_16, qle_16, qgt_16, qge_16, qeq_16, qlt_20, qle_20, qgt_20, qge_20, qeq_20, qlt_24, qle_24, qgt_24, qge_24, qeq_24, qlt_30, qle_30, qgt_30, qge_30, qeq_30, qlt_32, qle_32, qgt_32, qge_32, qeq_32, qlt_37, qle_37, qgt_37, qge_37, qeq_37, qlt_40, qle_40, qgt_40, qge_40, qeq_40, qlt_42, qle_42, qgt_42, qge_42, qeq_42, qlt_43, qle_43, qgt_43, qge_43, qeq_43, qlt_45, qle_45, qgt_45, qge_45, qeq_45, qlt_47, qle_47, qgt_47, qge_47, qeq_47, qlt_48, qle_48, qgt_48, qge_48, qeq_48, qlt_57, qle_57, qgt_57, qge_57, qeq_57, qlt_59, qle_59, qgt_59, qge_59, qeq_59, qlt_60, qle_60, qgt_60, qge_60, qeq_60, qlt_61, qle_61, qgt_61, qge_61, qeq_61, qlt_62, qle_62, qgt_62, qge_62, qeq_62, qlt_64, qle_64, qgt_64, qge_64, qeq_64, qlt_91, qle_91, qgt_91, qge_91, qeq_91, qlt_93, qle_93, qgt_93, qge_93, qeq_93, qlt_97, qle_97, qgt_97, qge_97, qeq_97, qlt_122, qle_122, qgt_122, qge_122, qeq_122, qlt_400, qle_400, qgt_400, qge_400, qeq_400, qlt_999, qle_999, qgt_999, qge_999, qeq_999, qlt_0, qle_0, qgt_0, qge_0, qeq_0, qltm, qeqm, ↓reduceIte, Option.bind_some, not_true_eq_false, not_false_eq_true, and_true, true_and, and_false, false_and, or_false, false_or, or_true, true_or, Bool.false_eq_true, reduceCtorEq, cf2]
        · refine ⟨S, X, -2, ?_, ?_, h⟩
          · simp only [↓reduceIte, Option.bind_some, not_true_eq_false, not_false_eq_true, and_true, true_and, and_false, false_and, or_false, false_or, or_true, true_or, Bool.false_eq_true, reduceCtorEq, one_ne0]
            by_cases c4 : a2 < 0
            · rw [if_pos c4]
            · rw [if_neg c4, if_neg (by grind)]
          · simp only [↓reduceIte, Option.bind_some, not_true_eq_false, not_false_eq_true, and_true, true_and, and_false, false_and, or_false, false_or, or_true, true_or, Bool.false_eq_true, reduceCtorEq, one_ne0, c3]
      · rw [(c_isG hN hc).2 a1 hg, (r_isG hN hr).2 a1 hg]
        exact ⟨S, X, -2, rfl, by simp [c0], h⟩
    · refine ⟨S, X, -2, ?_, ?_, h⟩
      · by_cases c1 : a0 < 0
        · rw [if_pos c1]
        · rw [if_neg c1, if_pos (by grind)]
      · simp [c0]
