/-! the invariant with another tape; feed -/
theorem ents_ext {f g f1 g1 : Nat → Int32} : ∀ {l : List Int32} {k : Nat}, (∀ i, k ≤ i → i < k + l.length → f1 i = f i ∧ g1 i = g i) → ents f g k l → ents f1 g1 k l := by
  intro l
  induction l with
  | nil => intro k _ _; trivial
  | cons x r ih =>
    intro k h e
    obtain ⟨⟨e1, e2⟩, e3⟩ := e
    have h0 := h k (by omega) (by simp only [List.length_cons]; omega)
    exact ⟨⟨h0.1.trans e1, h0.2.trans e2⟩, ih (fun i a b => h i (by omega) (by simp only [List.length_cons]; omega)) e3⟩
theorem rre_ext3 {S S1 : jS} {sl : Nat} (h0 : ∀ a i, 30 ≤ a → a ≤ 31 → i < 300 * sl + 300 → S1.1 a i = S.1 a i) (h1 : ∀ a i, 33 ≤ a → a ≤ 35 → i < 12 * sl + 12 → S1.1 a i = S.1 a i) : ∀ {r : mR} {i k : Nat}, i + r.length ≤ 12 → rre S sl i k r → rre S1 sl i k r := by
  intro r
  induction r with
  | nil => intro i k _ g; exact g
  | cons q r ih =>
    intro i k hl g
    simp only [List.length_cons] at hl
    obtain ⟨g1, g2, g3, g4, g5, g6⟩ := g
    have le := rre_le g6
    refine ⟨(h1 33 _ (by omega) (by omega) (by omega)).trans g1, (h1 34 _ (by omega) (by omega) (by omega)).trans g2, (h1 35 _ (by omega) (by omega) (by omega)).trans g3, ents_ext (fun j a b => ⟨h0 30 j (by omega) (by omega) (by omega), h0 31 j (by omega) (by omega) (by omega)⟩) g4, ents_ext (fun j a b => ⟨h0 30 j (by omega) (by omega) (by omega), h0 31 j (by omega) (by omega) (by omega)⟩) g5, ih (by omega) g6⟩
/-- what reading a text leaves alone in the reference, with n rules made -/
def kpR (n a i : Nat) : Prop := ¬ (a = 0 ∧ 19 ≤ i ∧ i ≤ 27 ∧ i ≠ 23) ∧ a ≠ 29 ∧ ¬ (14 ≤ a ∧ a ≤ 18) ∧ a ≠ 36 ∧ ¬ (30 ≤ a ∧ a ≤ 31 ∧ 300 * n ≤ i) ∧ ¬ (a = 32 ∧ n ≤ i) ∧ ¬ (33 ≤ a ∧ a ≤ 35 ∧ 12 * n ≤ i)
/-- what reading a text leaves alone in the class -/
def kpC (a : Nat) : Prop := (a = 0 ∨ 100 ≤ a) ∧ (a < 1200 ∨ a % 10 = 1)
theorem INV.tp {S : jS} {T : jT} {X S1 X1 : jS} {tn tn' : Nat} {tb tb' : Nat → Nat} {rc : Nat} {R : Nat → mR} {B : mB} {Bi : Nat → mB} {im : Nat → Bool} (h1 : CSt S T tn tb rc R B Bi im) (h2 : RSt X tn tb rc R B Bi im) (h3 : AOk tn tb rc R B Bi im) (o : TpOk tn' tb') (c : CTp S1 tn' tb') (r : RTp X1 tn' tb') (q1 : ∀ a i, kpC a → S1.1 a i = S.1 a i) (q2 : ∀ a i, kpR rc a i → X1.1 a i = X.1 a i) : INV S1 T X1 := by
  obtain ⟨ct, cr, cb, ci⟩ := h1
  obtain ⟨rt, rr, rb, ri, r40, r28⟩ := h2
  obtain ⟨ot, or, ob, oi⟩ := h3
  have q1' : ∀ a i, (a = 0 ∨ 100 ≤ a) → (a < 1200 ∨ a % 10 = 1) → S1.1 a i = S.1 a i := fun a i u v => q1 a i ⟨u, v⟩
  have vc : ∀ a i, a ≠ 0 → (a < 14 ∨ 36 < a) → VC X1 a i = VC X a i := fun a i u v => by
    unfold VC
    split
    · exact q2 _ _ (by unfold kpR; omega)
    · exact q2 _ _ (by unfold kpR; omega)
  refine ⟨tn', tb', rc, R, B, Bi, im, ⟨c, ⟨?_, fun r hr => ?_, cr.2.2⟩, cb.q (by omega) (by omega) (fun a i g1 g2 => q1' _ _ (by omega) (by omega)), fun k hk => ⟨fun e => ⟨((ci k hk).1 e).1, ((ci k hk).1 e).2.q (by omega) (by omega) (fun a i g1 g2 => q1' _ _ (by omega) (by omega))⟩, (ci k hk).2⟩⟩, ⟨r, ⟨?_, fun r hr => ⟨?_, rre_ext3 (fun a i g1 g2 g3 => q2 _ _ (by unfold kpR; omega)) (fun a i g1 g2 g3 => q2 _ _ (by unfold kpR; omega)) (by have := (or.2 r hr).1; omega) (rr.2 r hr).2⟩⟩, ?_, fun k hk => ⟨?_, fun e => VI_q (oi k hk e) ((ri k hk).2 e) (fun i g1 g2 => q2 _ _ (by unfold kpR; omega))⟩, ?_, ?_⟩, ⟨o, or, ob, oi⟩⟩
  · rw [q1' _ _ (by omega) (by omega)]; exact cr.1
  · have e : S1.1 (1200 + 10 * r + 1) = S.1 (1200 + 10 * r + 1) := funext (fun i => q1' _ _ (by omega) (by omega))
    rw [e]; exact cr.2.1 r hr
  · rw [q2 _ _ (by unfold kpR; omega)]; exact rr.1
  · rw [q2 _ _ (by unfold kpR; omega)]; exact (rr.2 r hr).1
  · exact RBk.q ob rb (fun i hi => vc _ _ (by omega) (by omega)) (fun a i h1 h2 hi => vc _ _ (by omega) (by omega)) (fun c hc => vc _ _ (by omega) (by omega)) (fun a i h1 h2 hi => vc _ _ (by omega) (by omega)) (fun a i h1 h2 hi => vc _ _ (by omega) (by omega)) (vc _ _ (by omega) (by omega)) (fun i hi => vc _ _ (by omega) (by omega))
  · rw [q2 _ _ (by unfold kpR; omega)]; exact (ri k hk).1
  · rw [q2 _ _ (by unfold kpR; omega)]; exact r40
  · rw [q2 _ _ (by unfold kpR; omega)]; exact r28
/-- a byte of a number -/
theorem by_c (x y : Int32) : ∃ b, b < 256 ∧ (x >>> y) &&& 255 = nI b ∧ (nI b).toInt8.toInt32 = (x >>> y).toInt8.toInt32 := by
  generalize x >>> y = z
  have e : nI (z &&& 255).toBitVec.toNat = z &&& 255 := by unfold nI; apply Int32.toBitVec_inj.mp; simp
  refine ⟨(z &&& 255).toBitVec.toNat, ?_, e.symm, ?_⟩
  · have : (z &&& 255).toBitVec = z.toBitVec &&& 255#32 := rfl
    rw [this, BitVec.toNat_and]
    exact Nat.lt_of_le_of_lt Nat.and_le_right (by decide)
  · rw [e]
    have e2 : (z &&& 255).toInt8 = z.toInt8 := by
      apply Int8.toBitVec_inj.mp
      show (z.toBitVec &&& 255#32).signExtend 8 = z.toBitVec.signExtend 8
      rw [BitVec.signExtend_eq_setWidth_of_le _ (by omega), BitVec.signExtend_eq_setWidth_of_le _ (by omega), BitVec.setWidth_and]
      show _ &&& BitVec.allOnes 8 = _
      exact BitVec.and_allOnes
    rw [e2]
theorem vn_b (z : Int32) : vp_nar .byte (z.toInt8.toInt32) = z.toInt8.toInt32 := by
  unfold vp_nar; rw [pk_nb]
/-- the tapes are alike, m bytes long; all else as in S0, X0 -/
def TPR (S0 X0 S X : jS) (m : Nat) : Prop := ∃ tb, TpOk m tb ∧ CTp S m tb ∧ RTp X m tb ∧ (∀ a i, kpC a → S.1 a i = S0.1 a i) ∧ (∀ n a i, kpR n a i → X.1 a i = X0.1 a i)
theorem ap_s {S0 X0 S X : jS} {m n n' : Nat} {a l2 : Int32} (h : TPR S0 X0 S X m) (hm : m < 400) (h0 : ¬ l2 < 0) : ∃ S1 X1, f9_append_L1 a (n + 1) S l2 = f9_append_L1 a n S1 (l2 + -8) ∧ f11_put_L1 a (n' + 1) X l2 = f11_put_L1 a n' X1 (l2 + -8) ∧ TPR S0 X0 S1 X1 (m + 1) := by
  obtain ⟨tb, o, c, r, q1, q2⟩ := h
  obtain ⟨b, b1, b2, b3⟩ := by_c a (l2 &&& 31)
  have e1 : nI m + 1 = nI (m + 1) := nI_add m 1
  have hc : (nI m).toNatClampNeg = m := nI_clamp (by omega)
  have hi : inb (nI m) 400 = true := by rw [inb_n (by omega)]; simpa using hm
  have c4 : ¬ (400 : Int32) ≤ nI m := by rw [show (400 : Int32) = nI 400 from rfl, nI_leI (by omega) (by omega)]; omega
  refine ⟨wI (wI S 2 m (nI b)) 1 1 (nI (m + 1)), wI (wI X 29 m ((nI b).toInt8.toInt32)) 0 19 (nI (m + 1)), ?_, ?_, fun i => if i = m then b else tb i, ⟨by omega, fun i hi => ?_⟩, ⟨wI_self _ _ _ _, fun i hi => ?_⟩, ⟨wI_self _ _ _ _, fun i hi => ?_⟩, fun a i k => ?_, fun n a i k => ?_⟩
  · rw [f9_append_L1, if_neg h0, c.1, if_neg c4, hi, if_pos rfl, hc, b2, wI_ne (by omega), c.1, e1]
  · rw [f11_put_L1, if_neg h0, r.1, hi, if_pos rfl, hc, vn_b, ← b3, wI_ne (by omega), r.1, e1]
  · dsimp only; split
    · exact b1
    · exact o.2 i (by omega)
  · rw [wI_ne (by omega), wI_g]; dsimp only; split
    · rw [if_pos (by omega)]
    · rw [if_neg (by omega)]; exact c.2 i (by omega)
  · rw [wI_ne (by omega), wI_g]; dsimp only; split
    · rw [if_pos (by omega)]
    · rw [if_neg (by omega)]; exact r.2 i (by omega)
  · have k' := k; unfold kpC at k'
    rw [wI_ne (by omega), wI_ne (by omega)]; exact q1 a i k
  · have k' := k; unfold kpR at k'
    rw [wI_g, if_neg (by omega), wI_ne (by omega)]; exact q2 n a i k
theorem ap_e {S X : jS} {n n' : Nat} {a l2 : Int32} (h0 : l2 < 0) : f9_append_L1 a (n + 1) S l2 = some S ∧ f11_put_L1 a (n' + 1) X l2 = some X := by
  rw [f9_append_L1, if_pos h0, f11_put_L1, if_pos h0]; exact ⟨rfl, rfl⟩
theorem ap_4 {S0 X0 S X : jS} {m : Nat} {a : Int32} (h : TPR S0 X0 S X m) (hm : m + 4 ≤ 400) : ∃ S1 X1, f9_append S a = some (S1, ()) ∧ f11_put X a = some (X1, ()) ∧ TPR S0 X0 S1 X1 (m + 4) := by
  have hF : jF = 4995 + 1 + 1 + 1 + 1 + 1 := rfl
  obtain ⟨S1, X1, a1, b1, c1⟩ := ap_s (n := 4995 + 1 + 1 + 1 + 1) (n' := 4995 + 1 + 1 + 1 + 1) (a := a) (l2 := 24) h (by omega) (by decide)
  obtain ⟨S2, X2, a2, b2, c2⟩ := ap_s (n := 4995 + 1 + 1 + 1) (n' := 4995 + 1 + 1 + 1) (a := a) (l2 := 24 + -8) c1 (by omega) (by decide)
  obtain ⟨S3, X3, a3, b3, c3⟩ := ap_s (n := 4995 + 1 + 1) (n' := 4995 + 1 + 1) (a := a) (l2 := 24 + -8 + -8) c2 (by omega) (by decide)
  obtain ⟨S4, X4, a4, b4, c4⟩ := ap_s (n := 4995 + 1) (n' := 4995 + 1) (a := a) (l2 := 24 + -8 + -8 + -8) c3 (by omega) (by decide)
  obtain ⟨a5, b5⟩ := ap_e (S := S4) (X := X4) (n := 4995) (n' := 4995) (a := a) (l2 := 24 + -8 + -8 + -8 + -8) (by decide)
  refine ⟨S4, X4, ?_, ?_, c4⟩
  · unfold f9_append; rw [hF, a1, a2, a3, a4, a5]; rfl
  · unfold f11_put; rw [hF, b1, b2, b3, b4, b5]; rfl
theorem k_feed {S : jS} {T : jT} {X : jS} (h : INV S T X) (a0 a1 a2 a3 a4 : Int32) : ∃ S1 X1 v, f10_feed S a0 a1 a2 a3 a4 = some (S1, v) ∧ f11_feed X a0 a1 a2 a3 a4 = some (X1, v) ∧ INV S1 T X1 := by
  obtain ⟨tn, tb, rc, R, B, Bi, im, hc, hr, ho⟩ := id h
  have e1 : nI tn + 20 = nI (tn + 20) := nI_add tn 20
  have l := ho.1.1
  unfold f10_feed f11_feed
  rw [hc.1.1, hr.1.1, e1]
  by_cases c : tn + 20 ≤ 400
  · have c' : nI (tn + 20) ≤ 400 := by rw [show (400 : Int32) = nI 400 from rfl, nI_leI (by omega) (by omega)]; omega
    rw [if_pos c', if_pos c']
    have t0 : TPR S X S X tn := ⟨tb, ho.1, hc.1, hr.1, fun _ _ _ => rfl, fun _ _ _ _ => rfl⟩
    obtain ⟨S1, X1, u1, v1, t1⟩ := ap_4 (a := a0) t0 (by omega)
    obtain ⟨S2, X2, u2, v2, t2⟩ := ap_4 (a := a1) t1 (by omega)
    obtain ⟨S3, X3, u3, v3, t3⟩ := ap_4 (a := a2) t2 (by omega)
    obtain ⟨S4, X4, u4, v4, t4⟩ := ap_4 (a := a3) t3 (by omega)
    obtain ⟨S5, X5, u5, v5, t5⟩ := ap_4 (a := a4) t4 (by omega)
    obtain ⟨tb', o, c, r, q1, q2⟩ := t5
    refine ⟨S5, X5, S5.1 1 1, ?_, ?_, INV.tp hc hr ho o c r q1 (fun a i k => q2 _ a i k)⟩
    · rw [u1, Option.bind_some, u2, Option.bind_some, u3, Option.bind_some, u4, Option.bind_some, u5, Option.bind_some]
    · rw [v1, Option.bind_some, v2, Option.bind_some, v3, Option.bind_some, v4, Option.bind_some, v5, Option.bind_some, c.1, r.1]
  · have c' : ¬ nI (tn + 20) ≤ 400 := by rw [show (400 : Int32) = nI 400 from rfl, nI_leI (by omega) (by omega)]; omega
    rw [if_neg c', if_neg c']
    exact ⟨S, X, -1, rfl, rfl, h⟩
