/-! the reference's layout at the start -/
theorem lmT_m : ∀ q ∈ lmT, q.1 = 0 ∧ q.2 = 12 ∨ (q.1 < 57 ∧ mTag q.1 ≠ 0 ∧ mTag q.1 = q.2) := by decide
theorem lmN_m : ∀ q ∈ lmN, q.1 < 57 ∧ mTag q.1 ≠ 0 ∧ mLen q.1 = q.2 := by decide
theorem LayM.start {P : jP} (m : ModNew P) : LayM P.2 := by
  obtain ⟨m0, mg⟩ := m
  have r : ∀ i, P.2.1 0 i = _ := m0.2.2.1
  refine ⟨fun q hq => ?_, fun q hq => ⟨?_, ?_⟩⟩
  · rcases lmT_m q hq with ⟨h1, h2⟩ | ⟨h1, h2, h3⟩
    · rw [h1, h2]; exact m0.1
    · exact (mg q.1 h1 h2).1.trans h3
  · obtain ⟨h1, h2, h3⟩ := lmN_m q hq
    exact (mg q.1 h1 h2).2.1.trans h3
  · rw [r]
    clear r mg m0
    revert q
    decide
