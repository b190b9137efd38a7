/-! the layout after an image is made, and after all is as in an image -/
theorem GL.back {S S1 : jS} {T T1 : jT} (h : GL T) (r : ∀ b, ¬ (100 ≤ b ∧ b < 259) → Same (S, T) (S1, T1) b) (hb : BkL T1 100 ∧ BkE T1 100) : GL T1 := by
  obtain ⟨h1, h2, ⟨h3, h3'⟩, h4, h5, h6, h7, h8, h9⟩ := h
  have s : ∀ b, (b < 100 ∨ 300 ≤ b) → Same (S, T) (S1, T1) b := fun b g => r b (by omega)
  have r15 : ∀ i, T1.1 15 i = T.1 15 i := (s 15 (by omega)).2.2.2.1
  have r16 : ∀ i, T1.1 16 i = T.1 16 i := (s 16 (by omega)).2.2.2.1
  have r28 : ∀ i, T1.1 28 i = T.1 28 i := (s 28 (by omega)).2.2.2.1
  have r81 : ∀ i, T1.1 81 i = T.1 81 i := (s 81 (by omega)).2.2.2.1
  have hI : ∀ k, k < 4 → (T1.1 16 k = none ∧ ∀ a, 300 + 200 * k ≤ a → a < 300 + 200 * k + 159 → T1.2.1 a = 0) ∨ (T1.1 16 k = some (300 + 200 * k) ∧ BkL T1 (300 + 200 * k) ∧ BkE T1 (300 + 200 * k)) := by
    intro k hk
    rw [r16]
    rcases h4 k hk with ⟨g1, g2⟩ | ⟨g1, g2, g3⟩
    · exact Or.inl ⟨g1, fun a u v => (s a (by omega)).1.trans (g2 a u v)⟩
    · exact Or.inr ⟨g1, BkL.sm (P := (S, T)) (P1 := (S1, T1)) g2 g3 (fun a u v => s a (by omega))⟩
  have hR : ∀ k, k < 6 → (T1.1 15 k = none ∧ ∀ j, j < 3 → T1.2.1 (1200 + 10 * k + j) = 0) ∨ (T1.1 15 k = some (1200 + 10 * k) ∧ LayRule T1 (1200 + 10 * k)) := by
    intro k hk
    rw [r15]
    rcases h6 k hk with ⟨g1, g2⟩ | ⟨g1, g2⟩
    · exact Or.inl ⟨g1, fun j hj => (s _ (by omega)).1.trans (g2 j hj)⟩
    · exact Or.inr ⟨g1, LayRule.sm (P := (S, T)) (P1 := (S1, T1)) g2 (fun a u v => s a (by omega))⟩
  have i5 : ∀ i, 4 ≤ i → T1.1 16 i = none := fun i hi => (r16 i).trans (h5 i hi)
  have i7 : ∀ i, 6 ≤ i → T1.1 15 i = none := fun i hi => (r15 i).trans (h7 i hi)
  refine ⟨LayC.sm (P := (S, T)) (P1 := (S1, T1)) h1 (fun a u _ _ => s a (by omega)) ⟨(s 15 (by omega)).1, (s 15 (by omega)).2.1⟩ ⟨(s 16 (by omega)).1, (s 16 (by omega)).2.1⟩ h8 h9 hb.1.1 (fun i q hq => ?_) (fun i q hq => ?_), fun i hi => (r81 i).trans (h2 i hi), hb, hI, i5, hR, i7, fun i q hq => h8 i q ((r28 i).symm.trans hq), fun i q hq => h9 i q ((r81 i).symm.trans hq)⟩
  · have hq' : T1.1 15 i = some q := hq
    by_cases c : i < 6
    · rcases hR i c with ⟨g1, g2⟩ | ⟨g1, g2⟩
      · rw [g1] at hq'; cases hq'
      · rw [g1] at hq'; cases hq'; exact g2
    · rw [i7 i (by omega)] at hq'; cases hq'
  · have hq' : T1.1 16 i = some q := hq
    by_cases c : i < 4
    · rcases hI i c with ⟨g1, g2⟩ | ⟨g1, g2, g3⟩
      · rw [g1] at hq'; cases hq'
      · rw [g1] at hq'; cases hq'; exact g2.1
    · rw [i5 i (by omega)] at hq'; cases hq'
theorem GL.img {S S1 : jS} {T T1 : jT} {k0 : Nat} (h : GL T) (hk0 : k0 < 4) (r : ∀ b, ¬ (300 + 200 * k0 ≤ b ∧ b < 300 + 200 * k0 + 159) → b ≠ 16 → Same (S, T) (S1, T1) b) (r16t : T1.2.1 16 = T.2.1 16 ∧ T1.2.2.1 16 = T.2.2.1 16) (r16k : T1.1 16 k0 = some (300 + 200 * k0)) (r16 : ∀ i, i ≠ k0 → T1.1 16 i = T.1 16 i) (hb0 : BkL T1 (300 + 200 * k0) ∧ BkE T1 (300 + 200 * k0)) : GL T1 := by
  obtain ⟨h1, h2, ⟨h3, h3'⟩, h4, h5, h6, h7, h8, h9⟩ := h
  have s : ∀ b, (b < 300 ∨ 1100 ≤ b) → b ≠ 16 → Same (S, T) (S1, T1) b := fun b g g2 => r b (by omega) g2
  have hb : BkL T1 100 ∧ BkE T1 100 := BkL.sm (P := (S, T)) (P1 := (S1, T1)) h3 h3' (fun a u v => s a (by omega) (by omega))
  have r15 : ∀ i, T1.1 15 i = T.1 15 i := (s 15 (by omega) (by omega)).2.2.2.1
  have r28 : ∀ i, T1.1 28 i = T.1 28 i := (s 28 (by omega) (by omega)).2.2.2.1
  have r81 : ∀ i, T1.1 81 i = T.1 81 i := (s 81 (by omega) (by omega)).2.2.2.1
  have hI : ∀ k, k < 4 → (T1.1 16 k = none ∧ ∀ a, 300 + 200 * k ≤ a → a < 300 + 200 * k + 159 → T1.2.1 a = 0) ∨ (T1.1 16 k = some (300 + 200 * k) ∧ BkL T1 (300 + 200 * k) ∧ BkE T1 (300 + 200 * k)) := by
    intro k hk
    by_cases e : k = k0
    · subst e; exact Or.inr ⟨r16k, hb0⟩
    · rw [r16 k e]
      rcases h4 k hk with ⟨g1, g2⟩ | ⟨g1, g2, g3⟩
      · exact Or.inl ⟨g1, fun a u v => (r a (by omega) (by omega)).1.trans (g2 a u v)⟩
      · exact Or.inr ⟨g1, BkL.sm (P := (S, T)) (P1 := (S1, T1)) g2 g3 (fun a u v => r a (by omega) (by omega))⟩
  have hR : ∀ k, k < 6 → (T1.1 15 k = none ∧ ∀ j, j < 3 → T1.2.1 (1200 + 10 * k + j) = 0) ∨ (T1.1 15 k = some (1200 + 10 * k) ∧ LayRule T1 (1200 + 10 * k)) := by
    intro k hk
    rw [r15]
    rcases h6 k hk with ⟨g1, g2⟩ | ⟨g1, g2⟩
    · exact Or.inl ⟨g1, fun j hj => (s _ (by omega) (by omega)).1.trans (g2 j hj)⟩
    · exact Or.inr ⟨g1, LayRule.sm (P := (S, T)) (P1 := (S1, T1)) g2 (fun a u v => s a (by omega) (by omega))⟩
  have i5 : ∀ i, 4 ≤ i → T1.1 16 i = none := fun i hi => (r16 i (by omega)).trans (h5 i hi)
  have i7 : ∀ i, 6 ≤ i → T1.1 15 i = none := fun i hi => (r15 i).trans (h7 i hi)
  refine ⟨LayC.sm (P := (S, T)) (P1 := (S1, T1)) h1 (fun a u _ w => s a (by omega) w) ⟨(s 15 (by omega) (by omega)).1, (s 15 (by omega) (by omega)).2.1⟩ r16t h8 h9 hb.1.1 (fun i q hq => ?_) (fun i q hq => ?_), fun i hi => (r81 i).trans (h2 i hi), hb, hI, i5, hR, i7, fun i q hq => h8 i q ((r28 i).symm.trans hq), fun i q hq => h9 i q ((r81 i).symm.trans hq)⟩
  · have hq' : T1.1 15 i = some q := hq
    by_cases c : i < 6
    · rcases hR i c with ⟨g1, g2⟩ | ⟨g1, g2⟩
      · rw [g1] at hq'; cases hq'
      · rw [g1] at hq'; cases hq'; exact g2
    · rw [i7 i (by omega)] at hq'; cases hq'
  · have hq' : T1.1 16 i = some q := hq
    by_cases c : i < 4
    · rcases hI i c with ⟨g1, g2⟩ | ⟨g1, g2, g3⟩
      · rw [g1] at hq'; cases hq'
      · rw [g1] at hq'; cases hq'; exact g2.1
    · rw [i5 i (by omega)] at hq'; cases hq'
