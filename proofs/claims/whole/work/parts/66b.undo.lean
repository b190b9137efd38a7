/-! a book changed by an act; undo -/
theorem CBk.qT {S S1 : jS} {T T1 : jT} {b : Nat} {B : mB} (h : CBk S T b B) (hb : 100 ≤ b) (hb2 : b ≤ 1000) (q : ∀ a i, b ≤ a → a < b + 159 → S1.1 a i = S.1 a i) (qt : ∀ i, T1.1 (b + 15) i = T.1 (b + 15) i) : CBk S1 T1 b B := by
  obtain ⟨g1, g2, g3, ⟨np, g4, g5, g6⟩, g7, g8, g9⟩ := h.q (S1 := S1) hb hb2 q
  exact ⟨g1, g2, g3, ⟨np, g4, g5, fun j hj => ⟨by rw [qt]; exact (g6 j hj).1, (g6 j hj).2⟩⟩, g7, g8, g9⟩
theorem INV.act {S S1 : jS} {T T1 : jT} {X X1 : jS} {tn : Nat} {tb : Nat → Nat} {rc : Nat} {R : Nat → mR} {B B1 : mB} {Bi : Nat → mB} {im : Nat → Bool} (h1 : CSt S T tn tb rc R B Bi im) (h2 : RSt X tn tb rc R B Bi im) (h3 : AOk tn tb rc R B Bi im) (c : CBk S1 T1 100 B1) (r : RBk (VC X1) B1) (o : BOk B1 rc)
    (qc : ∀ a i, (a ≤ 2 ∨ 300 ≤ a) → (a < 1200 ∨ a % 10 = 1) → S1.1 a i = S.1 a i) (qt : ∀ a i, (a = 15 ∨ a = 16 ∨ 300 ≤ a) → T1.1 a i = T.1 a i) (ql : ∀ a, 1200 ≤ a → T1.2.2.1 a = T.2.2.1 a)
    (qr : ∀ a i, (a = 0 → i = 19 ∨ i = 23 ∨ i = 28 ∨ i = 40) → (a = 0 ∨ (29 ≤ a ∧ a ≤ 35) ∨ (a = 53 ∧ i < 3800) ∨ a = 54) → X1.1 a i = X.1 a i) : INV S1 T1 X1 := by
  obtain ⟨ct, cr, -, ci⟩ := h1
  obtain ⟨⟨rt, rt'⟩, ⟨rr, rr'⟩, -, ri, r40, r28⟩ := h2
  obtain ⟨ot, or, -, oi⟩ := h3
  refine ⟨tn, tb, rc, R, B1, Bi, im, ⟨⟨?_, fun i hi => ?_⟩, ⟨?_, fun k hk => ?_, fun r hr => (qt _ _ (by omega)).trans (cr.2.2 r hr)⟩, c, fun k hk => ⟨fun e => ?_, fun e => ?_⟩⟩, ⟨⟨?_, fun i hi => ?_⟩, ⟨?_, fun k hk => ⟨?_, rre_ext2 (fun a i g1 g2 => qr a i (by omega) (by omega)) (rr' k hk).2⟩⟩, r, fun k hk => ⟨?_, fun e => VI_q (oi k hk e) ((ri k hk).2 e) (fun i g1 g2 => qr _ _ (by omega) (by omega))⟩, ?_, ?_⟩, ⟨ot, or, o, oi⟩⟩
  · rw [qc _ _ (by omega) (by omega)]; exact ct.1
  · rw [qc _ _ (by omega) (by omega)]; exact ct.2 i hi
  · rw [qc _ _ (by omega) (by omega)]; exact cr.1
  · have e : S1.1 (1200 + 10 * k + 1) = S.1 (1200 + 10 * k + 1) := funext (fun i => qc _ _ (by omega) (by omega))
    rw [e, ql _ (by omega), qt _ _ (by omega)]; exact cr.2.1 k hk
  · obtain ⟨a1, a2⟩ := (ci k hk).1 e
    exact ⟨by rw [qt _ _ (by omega)]; exact a1, a2.qT (by omega) (by omega) (fun a i g1 g2 => qc a i (by omega) (by omega)) (fun i => qt _ _ (by omega))⟩
  · rw [qt _ _ (by omega)]; exact (ci k hk).2 e
  · rw [qr _ _ (by omega) (by omega)]; exact rt
  · rw [qr _ _ (by omega) (by omega)]; exact rt' i hi
  · rw [qr _ _ (by omega) (by omega)]; exact rr
  · rw [qr _ _ (by omega) (by omega)]; exact (rr' k hk).1
  · rw [qr _ _ (by omega) (by omega)]; exact (ri k hk).1
  · rw [qr _ _ (by omega) (by omega)]; exact r40
  · rw [qr _ _ (by omega) (by omega)]; exact r28
def bAct (B : mB) (N : mN) (P : Nat → mN) (A : Nat) : mB := ((N, B.1.2), (P, A), B.2.2)
theorem irm_20 {a : Nat} (h : a < 2 ^ 31) : irm (nI a) 20 = nI (a % 20) := irm_n h (b := 20) (by decide)
theorem samT.tr {N M K : mN} (h : samT N M) (g : samT N K) : samT M K := ⟨g.1.trans h.1.symm, g.2.1.trans h.2.1.symm, g.2.2.1.trans h.2.2.1.symm, fun c hc => (g.2.2.2 c (by rw [← h.2.1]; exact hc)).trans (h.2.2.2 c (by rw [← h.2.1]; exact hc)).symm⟩
theorem k_undo {S : jS} {T : jT} {X : jS} (h : INV S T X) : ∃ S1 X1 v, f10_undo T S = some (S1, v) ∧ f11_undo X = some (X1, v) ∧ INV S1 T X1 := by
  obtain ⟨tn, tb, rc, R, B, Bi, im, hc, hr, ho⟩ := id h
  obtain ⟨ct, cr, ⟨b1, b2, b3, ⟨np, b4, b5, b6⟩, b7, b8, b9⟩, ci⟩ := id hc
  obtain ⟨rt, rr, ⟨d1, d2, d3, d4, ⟨d5, d5'⟩, d6, d7⟩, ri, r40, r28⟩ := id hr
  obtain ⟨ot, or, ⟨k1, k2, k3, k4, k5, k6, k7, k8, k9, k10, k11⟩, oi⟩ := id ho
  have d3' : X.1 0 44 = nI (bA B) := d3
  unfold f10_undo f11_undo f0_takeBack
  rw [b3, d3', b5]
  by_cases z : bA B = 0
  · refine ⟨S, X, -2, ?_, ?_, h⟩
    · rw [z, if_pos (by decide)]; rfl
    · rw [z]; rfl
  · obtain ⟨A, hA⟩ : ∃ A, bA B = A + 1 := ⟨bA B - 1, by omega⟩
    have hA20 : A < 20 := by omega
    obtain ⟨e1, e2⟩ := b6 A (by omega)
    obtain ⟨o1, o2, o3⟩ := k7 A (by omega)
    have es : sl0 np (bA B) A = (np + 19) % 20 := by unfold sl0; rw [hA]; congr 1; omega
    rw [es] at e1 e2
    have hs20 : (np + 19) % 20 < 20 := Nat.mod_lt _ (by omega)
    have ei : irm (nI np + 20 - 1) 20 = nI ((np + 19) % 20) := by
      have e : nI np + 20 - 1 = nI (np + 19) := by
        have h1 : nI np + nI 20 = nI (np + 20) := nI_add np 20
        have h2 : nI (np + 20) - nI 1 = nI (np + 20 - 1) := nI_sub (by omega)
        rw [← h1] at h2
        exact h2
      rw [e, irm_20 (by omega)]
    obtain ⟨X1, x1, x2, x3, x4⟩ := r_ma1 (S := wI X 0 44 (nI A)) (j := A) (by omega)
    have ep : nI (A + 1) - 1 = nI A := nI_pred A
    have hn1 : ¬ nI (A + 1) < 1 := by rw [qlt_1 (by omega)]; omega
    have hn0 : ¬ nI (A + 1) = 0 := by rw [qeq_0 (by omega)]; omega
    generalize hsl : (np + 19) % 20 = sl at *
    have hcl : (nI sl).toNatClampNeg = sl := nI_clamp (by omega)
    have hin : inb (nI sl) 20 = true := by rw [inb_n (by omega)]; simpa using hs20
    have x44 : X1.1 0 44 = nI A := by rw [x4 _ _ (by omega) (by omega), wI_self]
    have hd : 100 + 19 + 7 * sl + 6 < 100 + 8 ∨ 100 + 8 + 6 < 100 + 19 + 7 * sl := by omega
    have c4 : (wI (cpF S (100 + 8) (100 + 19 + 7 * sl)) 100 3 (nI sl)).1 100 4 = nI (A + 1) := by rw [wI_nj (by omega), cp_fr hd (by omega), b3, hA]
    have fr : ∀ a i, ¬ (100 + 8 ≤ a ∧ a ≤ 100 + 14) → ¬ (a = 100 ∧ (i = 3 ∨ i = 4)) → (wI (wI (cpF S (100 + 8) (100 + 19 + 7 * sl)) 100 3 (nI sl)) 100 4 (nI A)).1 a i = S.1 a i := fun a i g1 g2 => by
      rw [wI_g, if_neg (by omega), wI_g, if_neg (by omega), cp_fr hd (by omega)]
    have e : ∀ (Z : jS) a i, a ≠ 43 → VC Z a i = Z.1 a i := fun Z a i h => if_neg h
    have x4' : ∀ b i, b = 0 ∨ (b = 1 ∧ (i < 3 ∨ 8 ≤ i)) ∨ 7 ≤ b → ¬ (b = 0 ∧ (i = 44 ∨ i = 45 ∨ i = 46)) → X1.1 b i = X.1 b i := fun b i g1 g2 => by
      rw [x4 b i g1 (by omega), wI_g, if_neg (by omega)]
    have d1h : HIs (hV X.1) (bNow B) := HV_mono d1 (fun a i h1 h2 => (if_neg (by omega : ¬ a = 43)).symm)
    have hsam := o2
    obtain ⟨w1, w2, w3, w4⟩ := o2
    obtain ⟨p1, p2, p3, p4, p5, p6⟩ := d4 A (by omega)
    have hG := k1.2.2.1
    refine ⟨wI (wI (cpF S (100 + 8) (100 + 19 + 7 * sl)) 100 3 (nI sl)) 100 4 (nI A), X1, nI A, ?_, ?_, INV.act (B1 := bAct B (bPast B A) (bPast B) A) hc hr ho ⟨?_, ?_, ?_, ⟨sl, hs20, ?_, fun j hj => ?_⟩, ⟨?_, fun k hk => ?_⟩, ?_, ?_⟩ ⟨HIs_V ?_ ?_ ?_ ?_ ?_ ?_ ?_ ?_ (fun c hc => ?_) (fun a g g1 g2 hg => ?_), fun g hg => ?_, ?_, fun j hj => ?_, ⟨?_, fun k hk => ?_⟩, ?_, ?_⟩ ⟨o1, o3, k3, hsam.tr k4, k5, by show A ≤ 20; omega, fun j hj => ?_, k8, k9, k10, k11⟩ (fun a i g1 g2 => fr a i (by omega) (by omega)) (fun _ _ _ => rfl) (fun _ _ => rfl) (fun a i g1 g2 => x4' a i (by omega) (by omega))⟩
    · rw [hA, if_neg hn1, ei, hin, if_pos rfl, hcl, e1]
      simp only [jopt, cp_eq, c4, ep, one_ne0, ↓reduceIte, Option.bind_some, not_true_eq_false, not_false_eq_true, and_true, true_and, and_false, false_and, or_false, false_or, or_true, true_or, Bool.false_eq_true, reduceCtorEq, wI_self]
    · rw [hA, if_neg hn0, ep, wI_self, x1, Option.bind_some, x44]
    · exact (cp_H hd o1 e2).mono (fun a i g1 g2 => by rw [wI_g, if_neg (by omega), wI_g, if_neg (by omega)])
    · exact b2.mono (fun a i g1 g2 => fr a i (by omega) (by omega))
    · exact wI_self _ _ _ _
    · rw [wI_nj (by omega), wI_self]
    · have hj' : j < A := hj
      have e5 : sl0 sl A j = sl0 np (bA B) j := by unfold sl0; rw [hA]; omega
      obtain ⟨f1, f2⟩ := b6 j (by omega)
      have hlt : sl0 np (bA B) j < 20 := Nat.mod_lt _ (by omega)
      show T.1 (100 + 15) (sl0 sl A j) = some (100 + 19 + 7 * sl0 sl A j) ∧ HIs (hC _ (100 + 19 + 7 * sl0 sl A j)) (bPast B j)
      rw [e5]
      exact ⟨f1, f2.mono (fun a i g1 g2 => fr a i (by omega) (by omega))⟩
    · rw [fr _ _ (by omega) (by omega)]; exact b7.1
    · rw [fr _ _ (by omega) (by omega), fr _ _ (by omega) (by omega), fr _ _ (by omega) (by omega)]; exact b7.2 k hk
    · rw [fr _ _ (by omega) (by omega)]; exact b8
    · rw [fr _ _ (by omega) (by omega)]; exact b9
    · show X1.1 1 0 = nI (bPast B A 0 0)
      rw [x4' _ _ (by omega) (by omega), w1]; exact HV0 d1h
    · show X1.1 1 1 = nI (bPast B A 0 1)
      rw [x4' _ _ (by omega) (by omega), w2]; exact HV1 d1h
    · show X1.1 1 2 = nI (bPast B A 0 2)
      rw [x4' _ _ (by omega) (by omega), w3]; exact HV2 d1h
    · show X1.1 1 (3 + 4) = _
      rw [x2 4 (by omega), wI_ne (by omega)]; exact p5
    · show X1.1 1 (3 + 3) = _
      rw [x2 3 (by omega), wI_ne (by omega)]; exact p4
    · show X1.1 1 (3 + 0) = _
      rw [x2 0 (by omega), wI_ne (by omega)]; exact p1
    · show X1.1 1 (3 + 2) = _
      rw [x2 2 (by omega), wI_ne (by omega)]; exact p3
    · show X1.1 1 (3 + 1) = _
      rw [x2 1 (by omega), wI_ne (by omega)]; exact p2
    · have hc' : c < bPast B A 0 1 := hc
      show X1.1 7 c = nI (bPast B A 1 c)
      rw [x4' _ _ (by omega) (by omega), w4 c (by omega)]; exact HVc d1h (by omega)
    · have hg' : g < bPast B A 0 2 := hg
      show VC X1 a g = nI (bPast B A a g)
      rw [e _ _ _ (by omega), x3 a g g1 g2 (by omega), wI_ne (by omega)]
      exact p6 a g g1 g2 hg'
    · show X1.1 11 g = _ ∧ X1.1 12 g = _ ∧ X1.1 13 g = _
      rw [x4' _ _ (by omega) (by omega), x4' _ _ (by omega) (by omega), x4' _ _ (by omega) (by omega)]; exact d2 g hg
    · exact x44
    · have hj' : j < A := hj
      obtain ⟨u1, u2, u3, u4, u5, u6⟩ := d4 j (by omega)
      have e42 : ∀ i, VC X1 42 i = VC X 42 i := fun i => x4' 42 i (by omega) (by omega)
      exact ⟨(e42 _).trans u1, (e42 _).trans u2, (e42 _).trans u3, (e42 _).trans u4, (e42 _).trans u5, fun a g g1 g2 hg => (e42 _).trans (u6 a g g1 g2 hg)⟩
    · show X1.1 1 8 = _
      rw [x4' _ _ (by omega) (by omega)]; exact d5
    · show X1.1 8 k = _ ∧ X1.1 9 k = _ ∧ X1.1 10 k = _
      rw [x4' _ _ (by omega) (by omega), x4' _ _ (by omega) (by omega), x4' _ _ (by omega) (by omega)]; exact d5' k hk
    · show X1.1 1 10 = _
      rw [x4' _ _ (by omega) (by omega)]; exact d6
    · show X1.1 1 9 = _
      rw [x4' _ _ (by omega) (by omega)]; exact d7
    · have hj' : j < A := hj
      obtain ⟨v1, v2, v3⟩ := k7 j (by omega)
      exact ⟨v1, hsam.tr v2, v3⟩
