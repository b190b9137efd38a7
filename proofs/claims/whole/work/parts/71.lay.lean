/-! the whole layout of the class's side, and that remember keeps it -/
theorem LayBook.sm {P P1 : jP} {b : Nat} (h : LayBook P.2 b) (s : ∀ a, b ≤ a → a < b + 19 → a ≠ b + 15 → a ≠ b → Same P P1 a) (s0 : P1.2.2.1 b = P.2.2.1 b ∧ ∀ i, P1.2.1 b i = P.2.1 b i) (s15 : P1.2.2.1 (b + 15) = P.2.2.1 (b + 15) ∧ P1.2.2.2.1 (b + 15) = P.2.2.2.1 (b + 15)) (hp : ∀ i q, P1.2.1 (b + 15) i = some q → LayHall P1.2 q) : LayBook P1.2 b := by
  obtain ⟨a0, ⟨a1, b1⟩, ⟨a2, b2⟩, ⟨a3, b3, c3⟩, ⟨a4, b4, c4⟩, ⟨a5, b5, c5⟩, ⟨a6, b6, c6⟩, -⟩ := h
  have t : ∀ a, b ≤ a → a < b + 19 → a ≠ b + 15 → a ≠ b → P1.2.2.1 a = P.2.2.1 a := fun a u v w x => (s a u v w x).1
  have n : ∀ a, b ≤ a → a < b + 19 → a ≠ b + 15 → a ≠ b → P1.2.2.2.1 a = P.2.2.2.1 a := fun a u v w x => (s a u v w x).2.1
  exact ⟨s0.1.trans a0, ⟨(s0.2 _).trans a1, b1.sm (fun a u v => s a (by omega) (by omega) (by omega) (by omega))⟩, ⟨(s0.2 _).trans a2, b2.sm (fun a u v => s a (by omega) (by omega) (by omega) (by omega))⟩, ⟨(s0.2 _).trans a3, s15.1.trans b3, s15.2.trans c3⟩, ⟨(s0.2 _).trans a4, (t _ (by omega) (by omega) (by omega) (by omega)).trans b4, (n _ (by omega) (by omega) (by omega) (by omega)).trans c4⟩, ⟨(s0.2 _).trans a5, (t _ (by omega) (by omega) (by omega) (by omega)).trans b5, (n _ (by omega) (by omega) (by omega) (by omega)).trans c5⟩, ⟨(s0.2 _).trans a6, (t _ (by omega) (by omega) (by omega) (by omega)).trans b6, (n _ (by omega) (by omega) (by omega) (by omega)).trans c6⟩, hp⟩
/-- a whole book untouched -/
theorem BkL.sm {P P1 : jP} {b : Nat} (h : BkL P.2 b) (he : BkE P.2 b) (s : ∀ a, b ≤ a → a < b + 159 → Same P P1 a) : BkL P1.2 b ∧ BkE P1.2 b := by
  obtain ⟨h1, h2⟩ := h
  have r15 : ∀ i, P1.2.1 (b + 15) i = P.2.1 (b + 15) i := (s (b + 15) (by omega) (by omega)).2.2.2.1
  have hall : ∀ k, k < 20 → LayHall P.2 (b + 19 + 7 * k) → LayHall P1.2 (b + 19 + 7 * k) := fun k hk g => g.sm (fun a u v => s a (by omega) (by omega))
  have hk : ∀ k, k < 20 → (P1.2.1 (b + 15) k = none ∧ ∀ j, j < 7 → P1.2.2.1 (b + 19 + 7 * k + j) = 0) ∨ (P1.2.1 (b + 15) k = some (b + 19 + 7 * k) ∧ LayHall P1.2 (b + 19 + 7 * k)) := by
    intro k hk
    rw [r15]
    rcases h2 k hk with ⟨g1, g2⟩ | ⟨g1, g2⟩
    · exact Or.inl ⟨g1, fun j hj => (s _ (by omega) (by omega)).1.trans (g2 j hj)⟩
    · exact Or.inr ⟨g1, hall k hk g2⟩
  have he1 : BkE P1.2 b := fun k g => (r15 k).trans (he k g)
  refine ⟨⟨h1.sm (fun a u v _ _ => s a u (by omega)) ⟨(s b (by omega) (by omega)).1, (s b (by omega) (by omega)).2.2.2.1⟩ ⟨(s (b + 15) (by omega) (by omega)).1, (s (b + 15) (by omega) (by omega)).2.1⟩ (fun i q hq => ?_), hk⟩, he1⟩
  by_cases c : i < 20
  · rcases hk i c with ⟨g1, g2⟩ | ⟨g1, g2⟩
    · rw [g1] at hq; cases hq
    · rw [g1] at hq; cases hq; exact g2
  · rw [he1 i (by omega)] at hq; cases hq
theorem BkL.rem {S S1 : jS} {T T1 : jT} {np : Nat} (h : BkL T 100) (he : BkE T 100) (hnp : np < 20) (r : RemL (S, T) (S1, T1) np) : BkL T1 100 ∧ BkE T1 100 := by
  obtain ⟨h1, h2⟩ := h
  obtain ⟨r1, ⟨r2, r3, r4, r5⟩, ⟨r6, r7, r8, r9⟩, r10, r11⟩ := r
  have r5' : ∀ i, i ≠ np → T1.1 115 i = T.1 115 i := r5
  have he1 : BkE T1 100 := fun k g => (r5' k (by omega)).trans (he k g)
  have hk : ∀ k, k < 20 → (T1.1 (100 + 15) k = none ∧ ∀ j, j < 7 → T1.2.1 (100 + 19 + 7 * k + j) = 0) ∨ (T1.1 (100 + 15) k = some (100 + 19 + 7 * k) ∧ LayHall T1 (100 + 19 + 7 * k)) := by
    intro k hk
    by_cases e : k = np
    · subst e; exact Or.inr ⟨r10, r11⟩
    · have e1 : T1.1 (100 + 15) k = T.1 (100 + 15) k := r5' k e
      rw [e1]
      rcases h2 k hk with ⟨g1, g2⟩ | ⟨g1, g2⟩
      · exact Or.inl ⟨g1, fun j hj => (r1 _ (by omega) (by omega) (by omega)).1.trans (g2 j hj)⟩
      · exact Or.inr ⟨g1, LayHall.sm (P := (S, T)) (P1 := (S1, T1)) g2 (fun a u v => r1 a (by omega) (by omega) (by omega))⟩
  refine ⟨⟨LayBook.sm (P := (S, T)) (P1 := (S1, T1)) h1 (fun a u v w x => r1 a (by omega) (by omega) (by omega)) ⟨r6, r9⟩ ⟨r2, r3⟩ (fun i q hq => ?_), hk⟩, he1⟩
  have hq' : T1.1 (100 + 15) i = some q := hq
  by_cases c : i < 20
  · rcases hk i c with ⟨g1, g2⟩ | ⟨g1, g2⟩
    · rw [g1] at hq'; cases hq'
    · rw [g1] at hq'; cases hq'; exact g2
  · rw [he1 i (by omega)] at hq'; cases hq'
def GL (T : jT) : Prop := LayC T ∧ LayT81 T ∧ (BkL T 100 ∧ BkE T 100) ∧ (∀ k, k < 4 → (T.1 16 k = none ∧ ∀ a, 300 + 200 * k ≤ a → a < 300 + 200 * k + 159 → T.2.1 a = 0) ∨ (T.1 16 k = some (300 + 200 * k) ∧ BkL T (300 + 200 * k) ∧ BkE T (300 + 200 * k))) ∧ (∀ i, 4 ≤ i → T.1 16 i = none) ∧ (∀ r, r < 6 → (T.1 15 r = none ∧ ∀ j, j < 3 → T.2.1 (1200 + 10 * r + j) = 0) ∨ (T.1 15 r = some (1200 + 10 * r) ∧ LayRule T (1200 + 10 * r))) ∧ (∀ i, 6 ≤ i → T.1 15 i = none) ∧ (∀ i q, T.1 28 i = some q → 30 ≤ q ∧ q < 60) ∧ (∀ i q, T.1 81 i = some q → q < 100)
theorem lcT_b : ∀ q ∈ lcT, q.1 < 100 := by decide
theorem lcN_b : ∀ q ∈ lcN, q.1 < 100 := by decide
theorem lcR_b : ∀ q ∈ lcR, q.1 < 100 ∧ q.1 ≠ 15 ∧ q.1 ≠ 16 := by decide
theorem LayC.sm {P P1 : jP} (h : LayC P.2) (s : ∀ a, a < 100 → a ≠ 15 → a ≠ 16 → Same P P1 a) (s15 : P1.2.2.1 15 = P.2.2.1 15 ∧ P1.2.2.2.1 15 = P.2.2.2.1 15) (s16 : P1.2.2.1 16 = P.2.2.1 16 ∧ P1.2.2.2.1 16 = P.2.2.2.1 16) (q28 : ∀ i q, P.2.1 28 i = some q → 30 ≤ q ∧ q < 60) (q81 : ∀ i q, P.2.1 81 i = some q → q < 100) (hb : LayBook P1.2 100) (hr : ∀ i q, P1.2.1 15 i = some q → LayRule P1.2 q) (hi : ∀ i q, P1.2.1 16 i = some q → LayBook P1.2 q) : LayC P1.2 := by
  obtain ⟨h1, h2, h3, a1, a2, a3, a4, a5, a6, a7, a8, -, -, -, a12, a13⟩ := h
  have t : ∀ a, a < 100 → P1.2.2.1 a = P.2.2.1 a := fun a ha => by
    by_cases e : a = 15
    · rw [e]; exact s15.1
    · by_cases e2 : a = 16
      · rw [e2]; exact s16.1
      · exact (s a ha e e2).1
  have n : ∀ a, a < 100 → P1.2.2.2.1 a = P.2.2.2.1 a := fun a ha => by
    by_cases e : a = 15
    · rw [e]; exact s15.2
    · by_cases e2 : a = 16
      · rw [e2]; exact s16.2
      · exact (s a ha e e2).2.1
  have hh : ∀ h, LayHall P.2 h → (h < 9 ∨ 17 ≤ h) → h + 7 ≤ 100 → LayHall P1.2 h := fun h g g1 g2 => g.sm (fun a u v => s a (by omega) (by omega) (by omega))
  refine ⟨fun q hq => (t _ (lcT_b q hq)).trans (h1 q hq), fun q hq => (n _ (lcN_b q hq)).trans (h2 q hq), fun q hq => ?_, hh 4 a1 (by omega) (by omega), hh 21 a2 (by omega) (by omega), hh 30 a3 (by omega) (by omega), hh 37 a4 (by omega) (by omega), hh 44 a5 (by omega) (by omega), hh 51 a6 (by omega) (by omega), hh 58 a7 (by omega) (by omega), hh 71 a8 (by omega) (by omega), hb, hr, hi, fun i q hq => ?_, fun i q hq => ?_⟩
  · obtain ⟨b1, b2, b3⟩ := lcR_b q hq
    exact ((s _ b1 b2 b3).2.2.2.1 _).trans (h3 q hq)
  · have e : P1.2.1 28 i = P.2.1 28 i := (s 28 (by omega) (by omega) (by omega)).2.2.2.1 i
    rw [e] at hq
    have g := a12 i q hq
    have b := q28 i q hq
    exact hh q g (by omega) (by omega)
  · have e : P1.2.1 81 i = P.2.1 81 i := (s 81 (by omega) (by omega) (by omega)).2.2.2.1 i
    rw [e] at hq
    have b := q81 i q hq
    exact ⟨(t _ b).trans (a13 i q hq).1, (n _ b).trans (a13 i q hq).2⟩
