/-! an act: what is remembered before it, and the hall changed by it -/
/-- what Book.remember does on the class's side, for the book at 100 -/
def Rem (S : jS) (T : jT) (S1 : jS) (T1 : jT) : Prop := ∃ np A, np < 20 ∧ A ≤ 20 ∧ S.1 100 3 = nI np ∧ S.1 100 4 = nI A ∧ S1.1 100 3 = nI ((np + 1) % 20) ∧ S1.1 100 4 = nI (min A 19 + 1)
  ∧ (∀ N, NOk N → HIs (hC S (100 + 8)) N → HIs (hC S1 (100 + 19 + 7 * np)) N)
  ∧ (∀ a i, ¬ (100 + 19 + 7 * np ≤ a ∧ a ≤ 100 + 19 + 7 * np + 6) → ¬ (a = 100 ∧ (i = 3 ∨ i = 4)) → S1.1 a i = S.1 a i)
  ∧ T1.1 (100 + 15) np = some (100 + 19 + 7 * np)
  ∧ (∀ a i, ¬ (100 + 19 + 7 * np ≤ a ∧ a ≤ 100 + 19 + 7 * np + 6) → ¬ (a = 115 ∧ i = np) → T1.1 a i = T.1 a i)
  ∧ (∀ a, ¬ (100 + 19 + 7 * np ≤ a ∧ a ≤ 100 + 19 + 7 * np + 6) → T1.2.2.1 a = T.2.2.1 a)
def pKept (B : mB) : Nat → mN := fun j => if j < min (bA B) 19 then bPast B (j + (bA B - min (bA B) 19)) else bNow B
theorem samT.rf (N : mN) : samT N N := ⟨rfl, rfl, rfl, fun _ _ => rfl⟩
theorem INV.rem {S S1 : jS} {T T1 : jT} {X : jS} {tn : Nat} {tb : Nat → Nat} {rc : Nat} {R : Nat → mR} {B : mB} {Bi : Nat → mB} {im : Nat → Bool} (hc : CSt S T tn tb rc R B Bi im) (hr : RSt X tn tb rc R B Bi im) (ho : AOk tn tb rc R B Bi im) (hm : Rem S T S1 T1) : ∃ X1, f11_keepsAct X = some (X1, ()) ∧ (∀ a i, 1 ≤ a → a ≤ 7 → X1.1 a i = X.1 a i) ∧ (∀ a i, 100 ≤ a → a ≤ 114 → ¬ (a = 100 ∧ (i = 3 ∨ i = 4)) → S1.1 a i = S.1 a i) ∧ INV S1 T1 X1 := by
  obtain ⟨ct, cr, ⟨b1, b2, b3, ⟨np, b4, b5, b6⟩, b7, b8, b9⟩, ci⟩ := id hc
  obtain ⟨rt, rr, ⟨d1, d2, d3, d4, ⟨d5, d5'⟩, d6, d7⟩, ri, r40, r28⟩ := id hr
  obtain ⟨ot, or, ⟨k1, k2, k3, k4, k5, k6, k7, k8, k9, k10, k11⟩, oi⟩ := id ho
  obtain ⟨np', A', m1, m2, m3, m4, m5, m6, m7, m8, m9, m10, m11⟩ := hm
  have enp : np' = np := (nI_eq (by omega) (by omega)).mp (m3.symm.trans b5)
  subst enp
  have eA : A' = bA B := (nI_eq (by omega) (by omega)).mp (m4.symm.trans b3)
  subst eA
  have d3' : X.1 0 44 = nI (bA B) := d3
  obtain ⟨X1, x1, x2, x3, x4, x5, x6⟩ := r_ka d3' k6
  have e : ∀ (Z : jS) a i, a ≠ 43 → VC Z a i = Z.1 a i := fun Z a i h => if_neg h
  have d1h : HIs (hV X.1) (bNow B) := HV_mono d1 (fun a i h1 h2 => (if_neg (by omega : ¬ a = 43)).symm)
  have hG := k1.2.2.1
  refine ⟨X1, x1, fun a i g1 g2 => x6 a i (by omega) (by omega), fun a i g1 g2 g3 => m8 a i (by omega) g3, INV.act (B1 := bAct B (bNow B) (pKept B) (min (bA B) 19 + 1)) hc hr ho ⟨?_, ?_, ?_, ⟨(np' + 1) % 20, Nat.mod_lt _ (by omega), ?_, fun j hj => ?_⟩, ⟨?_, fun k hk => ?_⟩, ?_, ?_⟩ ⟨?_, fun g hg => ?_, ?_, fun j hj => ?_, ⟨?_, fun k hk => ?_⟩, ?_, ?_⟩ ⟨k1, k2, k3, k4, k5, by show min (bA B) 19 + 1 ≤ 20; omega, fun j hj => ?_, k8, k9, k10, k11⟩ (fun a i g1 g2 => m8 a i (by omega) (by omega)) (fun a i g1 => m10 a i (by omega) (by omega)) (fun a g1 => m11 a (by omega)) (fun a i g1 g2 => x6 a i (by omega) (by omega))⟩
  · exact b1.mono (fun a i g1 g2 => m8 a i (by omega) (by omega))
  · exact b2.mono (fun a i g1 g2 => m8 a i (by omega) (by omega))
  · exact m6
  · exact m5
  · have hj' : j < min (bA B) 19 + 1 := hj
    show T1.1 (100 + 15) (sl0 ((np' + 1) % 20) (min (bA B) 19 + 1) j) = some (100 + 19 + 7 * sl0 ((np' + 1) % 20) (min (bA B) 19 + 1) j) ∧ HIs (hC S1 (100 + 19 + 7 * sl0 ((np' + 1) % 20) (min (bA B) 19 + 1) j)) (pKept B j)
    by_cases c : j < min (bA B) 19
    · have e5 : sl0 ((np' + 1) % 20) (min (bA B) 19 + 1) j = sl0 np' (bA B) (j + (bA B - min (bA B) 19)) := by unfold sl0; omega
      have e6 : sl0 np' (bA B) (j + (bA B - min (bA B) 19)) ≠ np' := by unfold sl0; omega
      have e7 : pKept B j = bPast B (j + (bA B - min (bA B) 19)) := if_pos c
      obtain ⟨f1, f2⟩ := b6 (j + (bA B - min (bA B) 19)) (by omega)
      have hlt : sl0 np' (bA B) (j + (bA B - min (bA B) 19)) < 20 := Nat.mod_lt _ (by omega)
      rw [e5, e7]
      generalize sl0 np' (bA B) (j + (bA B - min (bA B) 19)) = sl at *
      refine ⟨by rw [m10 _ _ (by omega) (by omega)]; exact f1, f2.mono (fun a i g1 g2 => m8 a i (by omega) (by omega))⟩
    · have e5 : sl0 ((np' + 1) % 20) (min (bA B) 19 + 1) j = np' := by unfold sl0; omega
      have e7 : pKept B j = bNow B := if_neg c
      rw [e5, e7]
      exact ⟨m9, m7 _ k1 b1⟩
  · rw [m8 _ _ (by omega) (by omega)]; exact b7.1
  · rw [m8 _ _ (by omega) (by omega), m8 _ _ (by omega) (by omega), m8 _ _ (by omega) (by omega)]; exact b7.2 k hk
  · rw [m8 _ _ (by omega) (by omega)]; exact b8
  · rw [m8 _ _ (by omega) (by omega)]; exact b9
  · exact HV_mono d1h (fun a i g1 g2 => by rw [e _ _ _ (by omega)]; exact x6 a i (by omega) (by omega))
  · show X1.1 11 g = _ ∧ X1.1 12 g = _ ∧ X1.1 13 g = _
    rw [x6 _ _ (by omega) (by omega), x6 _ _ (by omega) (by omega), x6 _ _ (by omega) (by omega)]; exact d2 g hg
  · exact x2
  · have hj' : j < min (bA B) 19 + 1 := hj
    show pIs (VC X1) j (pKept B j)
    by_cases c : j < min (bA B) 19
    · have e7 : pKept B j = bPast B (j + (bA B - min (bA B) 19)) := if_pos c
      obtain ⟨u1, u2, u3, u4, u5, u6⟩ := d4 (j + (bA B - min (bA B) 19)) (by omega)
      have hgp : bPast B (j + (bA B - min (bA B) 19)) 0 2 = bNow B 0 2 := (k7 _ (by omega)).2.1.2.2.1
      rw [e7]
      have e42 : ∀ i, i < 40 → VC X1 42 (40 * j + i) = VC X 42 (40 * (j + (bA B - min (bA B) 19)) + i) := fun i hi => x3 j i c hi
      exact ⟨(e42 0 (by omega)).trans u1, (e42 1 (by omega)).trans u2, (e42 2 (by omega)).trans u3, (e42 3 (by omega)).trans u4, (e42 4 (by omega)).trans u5, fun a g g1 g2 hg => (e42 _ (by omega)).trans (u6 a g g1 g2 hg)⟩
    · have ej : j = min (bA B) 19 := by omega
      have e7 : pKept B j = bNow B := if_neg c
      rw [e7, ej]
      exact ⟨(x4 0 (by omega)).trans (HV5 d1h), (x4 1 (by omega)).trans (HV7 d1h), (x4 2 (by omega)).trans (HV6 d1h), (x4 3 (by omega)).trans (HV4 d1h), (x4 4 (by omega)).trans (HV3 d1h), fun a g g1 g2 hg => (x5 a g g1 g2 (by omega)).trans (HVg d1h g1 g2 hg)⟩
  · show X1.1 1 8 = _
    rw [x6 _ _ (by omega) (by omega)]; exact d5
  · show X1.1 8 k = _ ∧ X1.1 9 k = _ ∧ X1.1 10 k = _
    rw [x6 _ _ (by omega) (by omega), x6 _ _ (by omega) (by omega), x6 _ _ (by omega) (by omega)]; exact d5' k hk
  · show X1.1 1 10 = _
    rw [x6 _ _ (by omega) (by omega)]; exact d6
  · show X1.1 1 9 = _
    rw [x6 _ _ (by omega) (by omega)]; exact d7
  · have hj' : j < min (bA B) 19 + 1 := hj
    show NOk (pKept B j) ∧ samT (bNow B) (pKept B j) ∧ pKept B j 0 5 ≤ 999
    by_cases c : j < min (bA B) 19
    · have e7 : pKept B j = bPast B (j + (bA B - min (bA B) 19)) := if_pos c
      rw [e7]; exact k7 _ (by omega)
    · have e7 : pKept B j = bNow B := if_neg c
      rw [e7]; exact ⟨k1, samT.rf _, k2⟩
/-- the hall alone is changed -/
theorem INV.now {S S1 : jS} {T : jT} {X X1 : jS} {N' : mN} (h : INV S T X) (hN : ∀ N, NOk N → HIs (hC S (100 + 8)) N → HIs (hV X.1) N → N 0 5 ≤ 999 → NOk N' ∧ samT N N' ∧ N' 0 5 ≤ 999) (hc : HIs (hC S1 (100 + 8)) N') (hr : HIs (hV X1.1) N')
    (qc : ∀ a i, (a ≤ 2 ∨ 100 ≤ a) → ¬ (100 + 8 ≤ a ∧ a ≤ 100 + 14) → (a < 1200 ∨ a % 10 = 1) → S1.1 a i = S.1 a i) (qr : rQ0 X X1) (q1 : ∀ i, 8 ≤ i → i < 11 → X1.1 1 i = X.1 1 i) (q40 : X1.1 0 40 = -1) : INV S1 T X1 := by
  obtain ⟨tn, tb, rc, R, B, Bi, im, gc, gr, go⟩ := h
  obtain ⟨ct, cr, ⟨b1, b2, b3, ⟨np, b4, b5, b6⟩, b7, b8, b9⟩, ci⟩ := id gc
  obtain ⟨rt, rr, ⟨d1, d2, d3, d4, ⟨d5, d5'⟩, d6, d7⟩, ri, r40, r28⟩ := id gr
  obtain ⟨ot, or, ⟨k1, k2, k3, k4, k5, k6, k7, k8, k9, k10, k11⟩, oi⟩ := id go
  have d1h : HIs (hV X.1) (bNow B) := HV_mono d1 (fun a i h1 h2 => (if_neg (by omega : ¬ a = 43)).symm)
  have e : ∀ (Z : jS) a i, a ≠ 43 → VC Z a i = Z.1 a i := fun Z a i h => if_neg h
  obtain ⟨o1, o2, o3⟩ := hN _ k1 b1 d1h k2
  have hs : ∀ A j, sl0 np A j < 20 := fun A j => Nat.mod_lt _ (by omega)
  have r40' : X.1 0 40 = -1 := r40
  refine INV.act (B1 := bAct B N' (bPast B) (bA B)) gc gr go ⟨hc, ?_, ?_, ⟨np, b4, ?_, fun j hj => ⟨(b6 j hj).1, (b6 j hj).2.mono (fun a i g1 g2 => ?_)⟩⟩, ⟨?_, fun k hk => ?_⟩, ?_, ?_⟩ ⟨?_, fun g hg => ?_, ?_, fun j hj => ?_, ⟨?_, fun k hk => ?_⟩, ?_, ?_⟩ ⟨o1, o3, k3, o2.tr k4, k5, k6, fun j hj => ?_, k8, k9, k10, k11⟩ (fun a i g1 g2 => qc a i (by omega) (by omega) g2) (fun _ _ _ => rfl) (fun _ _ => rfl) (fun a i g1 g2 => ?_)
  · exact b2.mono (fun a i g1 g2 => qc a i (by omega) (by omega) (by omega))
  · rw [qc _ _ (by omega) (by omega) (by omega)]; exact b3
  · rw [qc _ _ (by omega) (by omega) (by omega)]; exact b5
  · have := hs (bA B) j
    change 100 + 19 + 7 * sl0 np (bA B) j ≤ a at g1
    change a ≤ 100 + 19 + 7 * sl0 np (bA B) j + 6 at g2
    exact qc a i (by omega) (by omega) (by omega)
  · rw [qc _ _ (by omega) (by omega) (by omega)]; exact b7.1
  · rw [qc _ _ (by omega) (by omega) (by omega), qc _ _ (by omega) (by omega) (by omega), qc _ _ (by omega) (by omega) (by omega)]; exact b7.2 k hk
  · rw [qc _ _ (by omega) (by omega) (by omega)]; exact b8
  · rw [qc _ _ (by omega) (by omega) (by omega)]; exact b9
  · exact HV_mono hr (fun a i g1 g2 => e _ _ _ (by omega))
  · show X1.1 11 g = _ ∧ X1.1 12 g = _ ∧ X1.1 13 g = _
    rw [qr _ _ (by omega) (by omega), qr _ _ (by omega) (by omega), qr _ _ (by omega) (by omega)]; exact d2 g hg
  · exact (qr 0 44 (by omega) (by omega)).trans d3
  · obtain ⟨u1, u2, u3, u4, u5, u6⟩ := d4 j hj
    have e42 : ∀ i, VC X1 42 i = VC X 42 i := fun i => qr 42 i (by omega) (by omega)
    exact ⟨(e42 _).trans u1, (e42 _).trans u2, (e42 _).trans u3, (e42 _).trans u4, (e42 _).trans u5, fun a g g1 g2 hg => (e42 _).trans (u6 a g g1 g2 hg)⟩
  · show X1.1 1 8 = _
    rw [q1 _ (by omega) (by omega)]; exact d5
  · show X1.1 8 k = _ ∧ X1.1 9 k = _ ∧ X1.1 10 k = _
    rw [qr _ _ (by omega) (by omega), qr _ _ (by omega) (by omega), qr _ _ (by omega) (by omega)]; exact d5' k hk
  · show X1.1 1 10 = _
    rw [q1 _ (by omega) (by omega)]; exact d6
  · show X1.1 1 9 = _
    rw [q1 _ (by omega) (by omega)]; exact d7
  · obtain ⟨v1, v2, v3⟩ := k7 j hj
    exact ⟨v1, o2.tr v2, v3⟩
  · by_cases c : a = 0 ∧ i = 40
    · rw [c.1, c.2, q40, r40']
    · exact qr a i (by omega) (by omega)
