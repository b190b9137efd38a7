/-! images of the reference: written by gen68.py -/
def Kp0 (S S' : jS) (base p : Nat) : Prop := S'.1 0 56 = 0 ∧ S'.1 0 55 = nI (base + p) ∧ (∀ b i, (b ≠ 53 ∨ i < base ∨ base + p ≤ i) → ¬ (b = 0 ∧ (i = 55 ∨ i = 56)) → S'.1 b i = S.1 b i)
theorem k0s {S S' : jS} {base p p' a n : Nat} (h : Kp0 S S' base p) (hp : p' = p + n) (hb : base + p' ≤ 4750) (hn : n ≤ 800) (ha : a ≠ 0) (ha2 : a ≠ 53) : ∃ Z, f11_carryRow S' a n = some (Z, ()) ∧ Kp0 S Z base p' ∧ (∀ i, i < n → Z.1 53 (base + p + i) = S.1 a i) ∧ (∀ i, i < base + p → Z.1 53 i = S'.1 53 i) := by
  subst hp
  obtain ⟨h1, h2, h3⟩ := h
  obtain ⟨Z, z1, z2⟩ := r_cr0 (S := S') (p := base + p) (a := a) (n := n) h1 h2 (by omega) hn ha ha2
  refine ⟨Z, z1, ⟨?_, ?_, fun b i g1 g2 => ?_⟩, fun i hi => ?_, fun i hi => ?_⟩
  · rw [z2, if_neg (by omega), if_neg (by omega)]; exact h1
  · rw [z2, if_neg (by omega), if_pos (by omega), Nat.add_assoc]
  · rw [z2, if_neg (by omega), if_neg (by omega)]; exact h3 b i (by omega) g2
  · rw [z2, if_pos (by omega), show base + p + i - (base + p) = i by omega]; exact h3 a i (by omega) (by omega)
  · rw [z2, if_neg (by omega), if_neg (by omega)]
def Kp1 (S S' : jS) (base p : Nat) : Prop := S'.1 0 56 = 1 ∧ S'.1 0 55 = nI (base + p) ∧ (∀ i, S'.1 53 i = S.1 53 i)
theorem k1s {S S' : jS} {base p p' a n : Nat} (h : Kp1 S S' base p) (hp : p' = p + n) (hb : base + p' ≤ 4750) (hn : n ≤ 800) (ha : a ≠ 0) (ha2 : a ≠ 53) : ∃ Z, f11_carryRow S' a n = some (Z, ()) ∧ Kp1 S Z base p' ∧ (∀ i, i < n → Z.1 a i = S.1 53 (base + p + i)) ∧ (∀ b i, b ≠ a → ¬ (b = 0 ∧ i = 55) → Z.1 b i = S'.1 b i) := by
  subst hp
  obtain ⟨h1, h2, h3⟩ := h
  obtain ⟨Z, z1, z2⟩ := r_cr1 (S := S') (p := base + p) (a := a) (n := n) h1 h2 (by omega) hn ha ha2
  refine ⟨Z, z1, ⟨?_, ?_, fun i => ?_⟩, fun i hi => ?_, fun b i g1 g2 => ?_⟩
  · rw [z2, if_neg (by omega), if_neg (by omega)]; exact h1
  · rw [z2, if_neg (by omega), if_pos (by omega), Nat.add_assoc]
  · rw [z2, if_neg (by omega), if_neg (by omega)]; exact h3 i
  · rw [z2, if_pos (by omega)]; exact h3 _
  · rw [z2, if_neg (by omega), if_neg (by omega)]
theorem nI_950 (a : Nat) : 950 * nI a = nI (950 * a) := nI_mul 950 a
theorem nk4 {k : Nat} (hk : k < 4) : ¬ nI k = 4 := fun e => by
  have := (nI_eq (b := 4) (by omega) (by omega)).mp e
  omega
def vIm (a i : Nat) : Prop := (a = 1 ∧ i < 11) ∨ (2 ≤ a ∧ a ≤ 6 ∧ i < 7) ∨ (a = 7 ∧ i < 6) ∨ (8 ≤ a ∧ a ≤ 10 ∧ i < 10) ∨ (11 ≤ a ∧ a ≤ 13 ∧ i < 7) ∨ (a = 43 ∧ i = 0) ∨ (a = 42 ∧ i < 800)
theorem vIm_cs {P : Nat → Nat → Prop}
    (h1 : ∀ i, i < 11 → P 1 i)
    (h2 : ∀ i, i < 7 → P 2 i)
    (h3 : ∀ i, i < 7 → P 3 i)
    (h4 : ∀ i, i < 7 → P 4 i)
    (h5 : ∀ i, i < 7 → P 5 i)
    (h6 : ∀ i, i < 7 → P 6 i)
    (h43 : ∀ i, i < 1 → P 43 i)
    (h7 : ∀ i, i < 6 → P 7 i)
    (h8 : ∀ i, i < 10 → P 8 i)
    (h9 : ∀ i, i < 10 → P 9 i)
    (h10 : ∀ i, i < 10 → P 10 i)
    (h11 : ∀ i, i < 7 → P 11 i)
    (h12 : ∀ i, i < 7 → P 12 i)
    (h13 : ∀ i, i < 7 → P 13 i)
    (h42 : ∀ i, i < 800 → P 42 i)
    : ∀ a i, vIm a i → P a i := by
  intro a i h
  rcases h with ⟨rfl, q⟩ | ⟨q1, q2, q⟩ | ⟨rfl, q⟩ | ⟨q1, q2, q⟩ | ⟨q1, q2, q⟩ | ⟨rfl, q⟩ | ⟨rfl, q⟩
  · exact h1 i q
  · have hc : a = 2 ∨ a = 3 ∨ a = 4 ∨ a = 5 ∨ a = 6 := by omega
    rcases hc with rfl | rfl | rfl | rfl | rfl
    · exact h2 i q
    · exact h3 i q
    · exact h4 i q
    · exact h5 i q
    · exact h6 i q
  · exact h7 i q
  · have hc : a = 8 ∨ a = 9 ∨ a = 10 := by omega
    rcases hc with rfl | rfl | rfl
    · exact h8 i q
    · exact h9 i q
    · exact h10 i q
  · have hc : a = 11 ∨ a = 12 ∨ a = 13 := by omega
    rcases hc with rfl | rfl | rfl
    · exact h11 i q
    · exact h12 i q
    · exact h13 i q
  · exact h43 i (by omega)
  · exact h42 i q
theorem r_img {X : jS} {k : Nat} (hk : k < 4) : ∃ X1, f11_carriesAll X (nI k) 0 = some (X1, ()) ∧ (∀ a i, vIm a i → X1.1 53 (950 * k + (imO a + i)) = VC X a i) ∧ (∀ b i, ¬ (b = 43 ∧ i = 0) → ¬ (b = 53 ∧ 950 * k ≤ i ∧ i < 950 * k + 950) → ¬ (b = 0 ∧ (i = 55 ∨ i = 56)) → X1.1 b i = X.1 b i) := by
  have K0 : Kp0 X (wI (wI X 0 55 (nI (950 * k))) 0 56 0) (950 * k) 0 := ⟨wI_self _ _ _ _, by rw [wI_nj (by omega), wI_self]; rfl, fun b i g1 g2 => by rw [wI_g, if_neg (by omega), wI_g, if_neg (by omega)]⟩
  obtain ⟨Z1, c1, K1, r1, f1⟩ := k0s K0 (p' := 11) (a := 1) (n := 11) rfl (by omega) (by omega) (by omega) (by omega)
  obtain ⟨Z2, c2, K2, r2, f2⟩ := k0s K1 (p' := 18) (a := 2) (n := 7) rfl (by omega) (by omega) (by omega) (by omega)
  obtain ⟨Z3, c3, K3, r3, f3⟩ := k0s K2 (p' := 25) (a := 3) (n := 7) rfl (by omega) (by omega) (by omega) (by omega)
  obtain ⟨Z4, c4, K4, r4, f4⟩ := k0s K3 (p' := 32) (a := 4) (n := 7) rfl (by omega) (by omega) (by omega) (by omega)
  obtain ⟨Z5, c5, K5, r5, f5⟩ := k0s K4 (p' := 39) (a := 5) (n := 7) rfl (by omega) (by omega) (by omega) (by omega)
  obtain ⟨Z6, c6, K6, r6, f6⟩ := k0s K5 (p' := 46) (a := 6) (n := 7) rfl (by omega) (by omega) (by omega) (by omega)
  have v44 : Z6.1 0 44 = X.1 0 44 := K6.2.2 0 44 (by omega) (by omega)
  have K6b : Kp0 (wI X 43 0 (X.1 0 44)) (wI Z6 43 0 (X.1 0 44)) (950 * k) 46 := ⟨by rw [wI_ne (by omega)]; exact K6.1, by rw [wI_ne (by omega)]; exact K6.2.1, fun b i g1 g2 => by rw [wI_g, wI_g, K6.2.2 b i g1 g2]⟩
  obtain ⟨Z7, c7, K7, r7, f7⟩ := k0s K6b (p' := 47) (a := 43) (n := 1) rfl (by omega) (by omega) (by omega) (by omega)
  have v43 : Z7.1 43 0 = X.1 0 44 := by rw [K7.2.2 43 0 (by omega) (by omega), wI_self]
  have K7b : Kp0 (wI X 43 0 (X.1 0 44)) (wI Z7 0 44 (X.1 0 44)) (950 * k) 47 := ⟨by rw [wI_nj (by omega)]; exact K7.1, by rw [wI_nj (by omega)]; exact K7.2.1, fun b i g1 g2 => by
    by_cases e : b = 0 ∧ i = 44
    · rw [e.1, e.2, wI_self, wI_ne (by omega)]
    · rw [wI_g, if_neg e]; exact K7.2.2 b i g1 g2⟩
  obtain ⟨Z8, c8, K8, r8, f8⟩ := k0s K7b (p' := 53) (a := 7) (n := 6) rfl (by omega) (by omega) (by omega) (by omega)
  obtain ⟨Z9, c9, K9, r9, f9⟩ := k0s K8 (p' := 63) (a := 8) (n := 10) rfl (by omega) (by omega) (by omega) (by omega)
  obtain ⟨Z10, c10, K10, r10, f10⟩ := k0s K9 (p' := 73) (a := 9) (n := 10) rfl (by omega) (by omega) (by omega) (by omega)
  obtain ⟨Z11, c11, K11, r11, f11⟩ := k0s K10 (p' := 83) (a := 10) (n := 10) rfl (by omega) (by omega) (by omega) (by omega)
  obtain ⟨Z12, c12, K12, r12, f12⟩ := k0s K11 (p' := 90) (a := 11) (n := 7) rfl (by omega) (by omega) (by omega) (by omega)
  obtain ⟨Z13, c13, K13, r13, f13⟩ := k0s K12 (p' := 97) (a := 12) (n := 7) rfl (by omega) (by omega) (by omega) (by omega)
  obtain ⟨Z14, c14, K14, r14, f14⟩ := k0s K13 (p' := 104) (a := 13) (n := 7) rfl (by omega) (by omega) (by omega) (by omega)
  obtain ⟨Z15, c15, K15, r15, f15⟩ := k0s K14 (p' := 904) (a := 42) (n := 800) rfl (by omega) (by omega) (by omega) (by omega)
  have G15 : ∀ i, i < 950 * k + 904 → Z15.1 53 i = Z15.1 53 i := fun _ _ => rfl
  have G14 : ∀ i, i < 950 * k + 104 → Z15.1 53 i = Z14.1 53 i := fun i hi => (G15 i (by omega)).trans (f15 i hi)
  have G13 : ∀ i, i < 950 * k + 97 → Z15.1 53 i = Z13.1 53 i := fun i hi => (G14 i (by omega)).trans (f14 i hi)
  have G12 : ∀ i, i < 950 * k + 90 → Z15.1 53 i = Z12.1 53 i := fun i hi => (G13 i (by omega)).trans (f13 i hi)
  have G11 : ∀ i, i < 950 * k + 83 → Z15.1 53 i = Z11.1 53 i := fun i hi => (G12 i (by omega)).trans (f12 i hi)
  have G10 : ∀ i, i < 950 * k + 73 → Z15.1 53 i = Z10.1 53 i := fun i hi => (G11 i (by omega)).trans (f11 i hi)
  have G9 : ∀ i, i < 950 * k + 63 → Z15.1 53 i = Z9.1 53 i := fun i hi => (G10 i (by omega)).trans (f10 i hi)
  have G8 : ∀ i, i < 950 * k + 53 → Z15.1 53 i = Z8.1 53 i := fun i hi => (G9 i (by omega)).trans (f9 i hi)
  have G7 : ∀ i, i < 950 * k + 47 → Z15.1 53 i = Z7.1 53 i := fun i hi => (G8 i (by omega)).trans ((f8 i hi).trans (wI_ne (by omega)))
  have G6 : ∀ i, i < 950 * k + 46 → Z15.1 53 i = Z6.1 53 i := fun i hi => (G7 i (by omega)).trans ((f7 i hi).trans (wI_ne (by omega)))
  have G5 : ∀ i, i < 950 * k + 39 → Z15.1 53 i = Z5.1 53 i := fun i hi => (G6 i (by omega)).trans (f6 i hi)
  have G4 : ∀ i, i < 950 * k + 32 → Z15.1 53 i = Z4.1 53 i := fun i hi => (G5 i (by omega)).trans (f5 i hi)
  have G3 : ∀ i, i < 950 * k + 25 → Z15.1 53 i = Z3.1 53 i := fun i hi => (G4 i (by omega)).trans (f4 i hi)
  have G2 : ∀ i, i < 950 * k + 18 → Z15.1 53 i = Z2.1 53 i := fun i hi => (G3 i (by omega)).trans (f3 i hi)
  have G1 : ∀ i, i < 950 * k + 11 → Z15.1 53 i = Z1.1 53 i := fun i hi => (G2 i (by omega)).trans (f2 i hi)
  refine ⟨Z15, ?_, vIm_cs (fun i hi => ?_) (fun i hi => ?_) (fun i hi => ?_) (fun i hi => ?_) (fun i hi => ?_) (fun i hi => ?_) (fun i hi => ?_) (fun i hi => ?_) (fun i hi => ?_) (fun i hi => ?_) (fun i hi => ?_) (fun i hi => ?_) (fun i hi => ?_) (fun i hi => ?_) (fun i hi => ?_), fun b i g1 g2 g3 => ?_⟩
  · unfold f11_carriesAll
    rw [if_pos (Or.inl rfl), nI_950]
    simp only [c1, c2, c3, c4, c5, c6, c7, c8, c9, c10, c11, c12, c13, c14, c15, v44, v43, nk4 hk, ↓reduceIte, Option.bind_some, not_true_eq_false, not_false_eq_true, and_true, true_and, and_false, false_and, or_false, false_or, or_true, true_or, Bool.false_eq_true, reduceCtorEq]
  · have := r1 i hi
    show Z15.1 53 (950 * k + (0 + i)) = X.1 1 i
    rw [G1 _ (by omega), ← Nat.add_assoc, this]
  · have := r2 i hi
    show Z15.1 53 (950 * k + (11 + i)) = X.1 2 i
    rw [G2 _ (by omega), ← Nat.add_assoc, this]
  · have := r3 i hi
    show Z15.1 53 (950 * k + (18 + i)) = X.1 3 i
    rw [G3 _ (by omega), ← Nat.add_assoc, this]
  · have := r4 i hi
    show Z15.1 53 (950 * k + (25 + i)) = X.1 4 i
    rw [G4 _ (by omega), ← Nat.add_assoc, this]
  · have := r5 i hi
    show Z15.1 53 (950 * k + (32 + i)) = X.1 5 i
    rw [G5 _ (by omega), ← Nat.add_assoc, this]
  · have := r6 i hi
    show Z15.1 53 (950 * k + (39 + i)) = X.1 6 i
    rw [G6 _ (by omega), ← Nat.add_assoc, this]
  · have := r7 i hi
    have ei : i = 0 := by omega
    subst ei
    show Z15.1 53 (950 * k + (46 + 0)) = X.1 0 44
    rw [G7 _ (by omega), ← Nat.add_assoc, this, wI_self]
  · have := r8 i hi
    show Z15.1 53 (950 * k + (47 + i)) = X.1 7 i
    rw [G8 _ (by omega), ← Nat.add_assoc, this, wI_ne (by omega)]
  · have := r9 i hi
    show Z15.1 53 (950 * k + (53 + i)) = X.1 8 i
    rw [G9 _ (by omega), ← Nat.add_assoc, this, wI_ne (by omega)]
  · have := r10 i hi
    show Z15.1 53 (950 * k + (63 + i)) = X.1 9 i
    rw [G10 _ (by omega), ← Nat.add_assoc, this, wI_ne (by omega)]
  · have := r11 i hi
    show Z15.1 53 (950 * k + (73 + i)) = X.1 10 i
    rw [G11 _ (by omega), ← Nat.add_assoc, this, wI_ne (by omega)]
  · have := r12 i hi
    show Z15.1 53 (950 * k + (83 + i)) = X.1 11 i
    rw [G12 _ (by omega), ← Nat.add_assoc, this, wI_ne (by omega)]
  · have := r13 i hi
    show Z15.1 53 (950 * k + (90 + i)) = X.1 12 i
    rw [G13 _ (by omega), ← Nat.add_assoc, this, wI_ne (by omega)]
  · have := r14 i hi
    show Z15.1 53 (950 * k + (97 + i)) = X.1 13 i
    rw [G14 _ (by omega), ← Nat.add_assoc, this, wI_ne (by omega)]
  · have := r15 i hi
    show Z15.1 53 (950 * k + (104 + i)) = X.1 42 i
    rw [G15 _ (by omega), ← Nat.add_assoc, this, wI_ne (by omega)]
  · rw [K15.2.2 b i (by omega) g3, wI_g, if_neg g1]
theorem r_bck {X : jS} {k : Nat} (hk : k < 4) : ∃ X1, f11_carriesAll X (nI k) 1 = some (X1, ()) ∧ (∀ a i, vIm a i → VC X1 a i = X.1 53 (950 * k + (imO a + i))) ∧ (∀ b i, b = 0 ∨ (14 ≤ b ∧ b ≠ 42 ∧ b ≠ 43) → ¬ (b = 0 ∧ (i = 44 ∨ i = 55 ∨ i = 56)) → X1.1 b i = X.1 b i) := by
  have K0 : Kp1 X (wI (wI X 0 55 (nI (950 * k))) 0 56 1) (950 * k) 0 := ⟨wI_self _ _ _ _, by rw [wI_nj (by omega), wI_self]; rfl, fun i => by rw [wI_ne (by omega), wI_ne (by omega)]⟩
  obtain ⟨Z1, c1, K1, r1, f1⟩ := k1s K0 (p' := 11) (a := 1) (n := 11) rfl (by omega) (by omega) (by omega) (by omega)
  obtain ⟨Z2, c2, K2, r2, f2⟩ := k1s K1 (p' := 18) (a := 2) (n := 7) rfl (by omega) (by omega) (by omega) (by omega)
  obtain ⟨Z3, c3, K3, r3, f3⟩ := k1s K2 (p' := 25) (a := 3) (n := 7) rfl (by omega) (by omega) (by omega) (by omega)
  obtain ⟨Z4, c4, K4, r4, f4⟩ := k1s K3 (p' := 32) (a := 4) (n := 7) rfl (by omega) (by omega) (by omega) (by omega)
  obtain ⟨Z5, c5, K5, r5, f5⟩ := k1s K4 (p' := 39) (a := 5) (n := 7) rfl (by omega) (by omega) (by omega) (by omega)
  obtain ⟨Z6, c6, K6, r6, f6⟩ := k1s K5 (p' := 46) (a := 6) (n := 7) rfl (by omega) (by omega) (by omega) (by omega)
  have K6b : Kp1 X (wI Z6 43 0 (Z6.1 0 44)) (950 * k) 46 := ⟨by rw [wI_ne (by omega)]; exact K6.1, by rw [wI_ne (by omega)]; exact K6.2.1, fun i => by rw [wI_ne (by omega)]; exact K6.2.2 i⟩
  obtain ⟨Z7, c7, K7, r7, f7⟩ := k1s K6b (p' := 47) (a := 43) (n := 1) rfl (by omega) (by omega) (by omega) (by omega)
  have K7b : Kp1 X (wI Z7 0 44 (Z7.1 43 0)) (950 * k) 47 := ⟨by rw [wI_nj (by omega)]; exact K7.1, by rw [wI_nj (by omega)]; exact K7.2.1, fun i => by rw [wI_ne (by omega)]; exact K7.2.2 i⟩
  obtain ⟨Z8, c8, K8, r8, f8⟩ := k1s K7b (p' := 53) (a := 7) (n := 6) rfl (by omega) (by omega) (by omega) (by omega)
  obtain ⟨Z9, c9, K9, r9, f9⟩ := k1s K8 (p' := 63) (a := 8) (n := 10) rfl (by omega) (by omega) (by omega) (by omega)
  obtain ⟨Z10, c10, K10, r10, f10⟩ := k1s K9 (p' := 73) (a := 9) (n := 10) rfl (by omega) (by omega) (by omega) (by omega)
  obtain ⟨Z11, c11, K11, r11, f11⟩ := k1s K10 (p' := 83) (a := 10) (n := 10) rfl (by omega) (by omega) (by omega) (by omega)
  obtain ⟨Z12, c12, K12, r12, f12⟩ := k1s K11 (p' := 90) (a := 11) (n := 7) rfl (by omega) (by omega) (by omega) (by omega)
  obtain ⟨Z13, c13, K13, r13, f13⟩ := k1s K12 (p' := 97) (a := 12) (n := 7) rfl (by omega) (by omega) (by omega) (by omega)
  obtain ⟨Z14, c14, K14, r14, f14⟩ := k1s K13 (p' := 104) (a := 13) (n := 7) rfl (by omega) (by omega) (by omega) (by omega)
  obtain ⟨Z15, c15, K15, r15, f15⟩ := k1s K14 (p' := 904) (a := 42) (n := 800) rfl (by omega) (by omega) (by omega) (by omega)
  have G15 : ∀ b i, ¬ (b = 0 ∧ i = 55) → Z15.1 b i = Z15.1 b i := fun _ _ _ => rfl
  have G14 : ∀ b i, b ≠ 42 → ¬ (b = 0 ∧ i = 55) → Z15.1 b i = Z14.1 b i := fun b i e0 g => (G15 b i  g).trans (f15 b i e0 g)
  have G13 : ∀ b i, b ≠ 13 → b ≠ 42 → ¬ (b = 0 ∧ i = 55) → Z15.1 b i = Z13.1 b i := fun b i e0 e1 g => (G14 b i e1 g).trans (f14 b i e0 g)
  have G12 : ∀ b i, b ≠ 12 → b ≠ 13 → b ≠ 42 → ¬ (b = 0 ∧ i = 55) → Z15.1 b i = Z12.1 b i := fun b i e0 e1 e2 g => (G13 b i e1 e2 g).trans (f13 b i e0 g)
  have G11 : ∀ b i, b ≠ 11 → b ≠ 12 → b ≠ 13 → b ≠ 42 → ¬ (b = 0 ∧ i = 55) → Z15.1 b i = Z11.1 b i := fun b i e0 e1 e2 e3 g => (G12 b i e1 e2 e3 g).trans (f12 b i e0 g)
  have G10 : ∀ b i, b ≠ 10 → b ≠ 11 → b ≠ 12 → b ≠ 13 → b ≠ 42 → ¬ (b = 0 ∧ i = 55) → Z15.1 b i = Z10.1 b i := fun b i e0 e1 e2 e3 e4 g => (G11 b i e1 e2 e3 e4 g).trans (f11 b i e0 g)
  have G9 : ∀ b i, b ≠ 9 → b ≠ 10 → b ≠ 11 → b ≠ 12 → b ≠ 13 → b ≠ 42 → ¬ (b = 0 ∧ i = 55) → Z15.1 b i = Z9.1 b i := fun b i e0 e1 e2 e3 e4 e5 g => (G10 b i e1 e2 e3 e4 e5 g).trans (f10 b i e0 g)
  have G8 : ∀ b i, b ≠ 8 → b ≠ 9 → b ≠ 10 → b ≠ 11 → b ≠ 12 → b ≠ 13 → b ≠ 42 → ¬ (b = 0 ∧ i = 55) → Z15.1 b i = Z8.1 b i := fun b i e0 e1 e2 e3 e4 e5 e6 g => (G9 b i e1 e2 e3 e4 e5 e6 g).trans (f9 b i e0 g)
  have G7 : ∀ b i, b ≠ 7 → b ≠ 8 → b ≠ 9 → b ≠ 10 → b ≠ 11 → b ≠ 12 → b ≠ 13 → b ≠ 42 → ¬ (b = 0 ∧ (i = 44 ∨ i = 55)) → Z15.1 b i = Z7.1 b i := fun b i e0 e1 e2 e3 e4 e5 e6 e7 g => (G8 b i e1 e2 e3 e4 e5 e6 e7 (by omega)).trans ((f8 b i e0 (by omega)).trans (by rw [wI_g, if_neg (by omega)]))
  have G6 : ∀ b i, b ≠ 43 → b ≠ 7 → b ≠ 8 → b ≠ 9 → b ≠ 10 → b ≠ 11 → b ≠ 12 → b ≠ 13 → b ≠ 42 → ¬ (b = 0 ∧ (i = 44 ∨ i = 55)) → Z15.1 b i = Z6.1 b i := fun b i e0 e1 e2 e3 e4 e5 e6 e7 e8 g => (G7 b i e1 e2 e3 e4 e5 e6 e7 e8 g).trans ((f7 b i e0 (by omega)).trans (by rw [wI_g, if_neg (by omega)]))
  have G5 : ∀ b i, b ≠ 6 → b ≠ 43 → b ≠ 7 → b ≠ 8 → b ≠ 9 → b ≠ 10 → b ≠ 11 → b ≠ 12 → b ≠ 13 → b ≠ 42 → ¬ (b = 0 ∧ (i = 44 ∨ i = 55)) → Z15.1 b i = Z5.1 b i := fun b i e0 e1 e2 e3 e4 e5 e6 e7 e8 e9 g => (G6 b i e1 e2 e3 e4 e5 e6 e7 e8 e9 g).trans (f6 b i e0 (by omega))
  have G4 : ∀ b i, b ≠ 5 → b ≠ 6 → b ≠ 43 → b ≠ 7 → b ≠ 8 → b ≠ 9 → b ≠ 10 → b ≠ 11 → b ≠ 12 → b ≠ 13 → b ≠ 42 → ¬ (b = 0 ∧ (i = 44 ∨ i = 55)) → Z15.1 b i = Z4.1 b i := fun b i e0 e1 e2 e3 e4 e5 e6 e7 e8 e9 e10 g => (G5 b i e1 e2 e3 e4 e5 e6 e7 e8 e9 e10 g).trans (f5 b i e0 (by omega))
  have G3 : ∀ b i, b ≠ 4 → b ≠ 5 → b ≠ 6 → b ≠ 43 → b ≠ 7 → b ≠ 8 → b ≠ 9 → b ≠ 10 → b ≠ 11 → b ≠ 12 → b ≠ 13 → b ≠ 42 → ¬ (b = 0 ∧ (i = 44 ∨ i = 55)) → Z15.1 b i = Z3.1 b i := fun b i e0 e1 e2 e3 e4 e5 e6 e7 e8 e9 e10 e11 g => (G4 b i e1 e2 e3 e4 e5 e6 e7 e8 e9 e10 e11 g).trans (f4 b i e0 (by omega))
  have G2 : ∀ b i, b ≠ 3 → b ≠ 4 → b ≠ 5 → b ≠ 6 → b ≠ 43 → b ≠ 7 → b ≠ 8 → b ≠ 9 → b ≠ 10 → b ≠ 11 → b ≠ 12 → b ≠ 13 → b ≠ 42 → ¬ (b = 0 ∧ (i = 44 ∨ i = 55)) → Z15.1 b i = Z2.1 b i := fun b i e0 e1 e2 e3 e4 e5 e6 e7 e8 e9 e10 e11 e12 g => (G3 b i e1 e2 e3 e4 e5 e6 e7 e8 e9 e10 e11 e12 g).trans (f3 b i e0 (by omega))
  have G1 : ∀ b i, b ≠ 2 → b ≠ 3 → b ≠ 4 → b ≠ 5 → b ≠ 6 → b ≠ 43 → b ≠ 7 → b ≠ 8 → b ≠ 9 → b ≠ 10 → b ≠ 11 → b ≠ 12 → b ≠ 13 → b ≠ 42 → ¬ (b = 0 ∧ (i = 44 ∨ i = 55)) → Z15.1 b i = Z1.1 b i := fun b i e0 e1 e2 e3 e4 e5 e6 e7 e8 e9 e10 e11 e12 e13 g => (G2 b i e1 e2 e3 e4 e5 e6 e7 e8 e9 e10 e11 e12 e13 g).trans (f2 b i e0 (by omega))
  have e : ∀ (Z : jS) a i, a ≠ 43 → VC Z a i = Z.1 a i := fun Z a i h => if_neg h
  refine ⟨Z15, ?_, vIm_cs (fun i hi => ?_) (fun i hi => ?_) (fun i hi => ?_) (fun i hi => ?_) (fun i hi => ?_) (fun i hi => ?_) (fun i hi => ?_) (fun i hi => ?_) (fun i hi => ?_) (fun i hi => ?_) (fun i hi => ?_) (fun i hi => ?_) (fun i hi => ?_) (fun i hi => ?_) (fun i hi => ?_), fun b i g1 g2 => ?_⟩
  · unfold f11_carriesAll
    rw [if_pos (Or.inr rfl), nI_950]
    simp only [c1, c2, c3, c4, c5, c6, c7, c8, c9, c10, c11, c12, c13, c14, c15, nk4 hk, ↓reduceIte, Option.bind_some, not_true_eq_false, not_false_eq_true, and_true, true_and, and_false, false_and, or_false, false_or, or_true, true_or, Bool.false_eq_true, reduceCtorEq]
  · show Z15.1 1 i = X.1 53 (950 * k + (0 + i))
    rw [G1 1 i (by omega) (by omega) (by omega) (by omega) (by omega) (by omega) (by omega) (by omega) (by omega) (by omega) (by omega) (by omega) (by omega) (by omega) (by omega), r1 i hi, Nat.add_assoc]
  · show Z15.1 2 i = X.1 53 (950 * k + (11 + i))
    rw [G2 2 i (by omega) (by omega) (by omega) (by omega) (by omega) (by omega) (by omega) (by omega) (by omega) (by omega) (by omega) (by omega) (by omega) (by omega), r2 i hi, Nat.add_assoc]
  · show Z15.1 3 i = X.1 53 (950 * k + (18 + i))
    rw [G3 3 i (by omega) (by omega) (by omega) (by omega) (by omega) (by omega) (by omega) (by omega) (by omega) (by omega) (by omega) (by omega) (by omega), r3 i hi, Nat.add_assoc]
  · show Z15.1 4 i = X.1 53 (950 * k + (25 + i))
    rw [G4 4 i (by omega) (by omega) (by omega) (by omega) (by omega) (by omega) (by omega) (by omega) (by omega) (by omega) (by omega) (by omega), r4 i hi, Nat.add_assoc]
  · show Z15.1 5 i = X.1 53 (950 * k + (32 + i))
    rw [G5 5 i (by omega) (by omega) (by omega) (by omega) (by omega) (by omega) (by omega) (by omega) (by omega) (by omega) (by omega), r5 i hi, Nat.add_assoc]
  · show Z15.1 6 i = X.1 53 (950 * k + (39 + i))
    rw [G6 6 i (by omega) (by omega) (by omega) (by omega) (by omega) (by omega) (by omega) (by omega) (by omega) (by omega), r6 i hi, Nat.add_assoc]
  · have ei : i = 0 := by omega
    subst ei
    show Z15.1 0 44 = X.1 53 (950 * k + (46 + 0))
    rw [G8 0 44 (by omega) (by omega) (by omega) (by omega) (by omega) (by omega) (by omega) (by omega), f8 0 44 (by omega) (by omega), wI_self, r7 0 (by omega), Nat.add_assoc]
  · show Z15.1 7 i = X.1 53 (950 * k + (47 + i))
    rw [G8 7 i (by omega) (by omega) (by omega) (by omega) (by omega) (by omega) (by omega) (by omega), r8 i hi, Nat.add_assoc]
  · show Z15.1 8 i = X.1 53 (950 * k + (53 + i))
    rw [G9 8 i (by omega) (by omega) (by omega) (by omega) (by omega) (by omega) (by omega), r9 i hi, Nat.add_assoc]
  · show Z15.1 9 i = X.1 53 (950 * k + (63 + i))
    rw [G10 9 i (by omega) (by omega) (by omega) (by omega) (by omega) (by omega), r10 i hi, Nat.add_assoc]
  · show Z15.1 10 i = X.1 53 (950 * k + (73 + i))
    rw [G11 10 i (by omega) (by omega) (by omega) (by omega) (by omega), r11 i hi, Nat.add_assoc]
  · show Z15.1 11 i = X.1 53 (950 * k + (83 + i))
    rw [G12 11 i (by omega) (by omega) (by omega) (by omega), r12 i hi, Nat.add_assoc]
  · show Z15.1 12 i = X.1 53 (950 * k + (90 + i))
    rw [G13 12 i (by omega) (by omega) (by omega), r13 i hi, Nat.add_assoc]
  · show Z15.1 13 i = X.1 53 (950 * k + (97 + i))
    rw [G14 13 i (by omega) (by omega), r14 i hi, Nat.add_assoc]
  · show Z15.1 42 i = X.1 53 (950 * k + (104 + i))
    rw [G15 42 i  (by omega), r15 i hi, Nat.add_assoc]
  · rw [G1 b i (by omega) (by omega) (by omega) (by omega) (by omega) (by omega) (by omega) (by omega) (by omega) (by omega) (by omega) (by omega) (by omega) (by omega) (by omega), f1 b i (by omega) (by omega), wI_g, if_neg (by omega), wI_g, if_neg (by omega)]
