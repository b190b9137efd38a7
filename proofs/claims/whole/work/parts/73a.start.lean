/-! the layout at the start: written by gen73.py -/
theorem BookNew.bkl {P : jP} {o : Nat} (g : BookNew P o) (hf : ∀ a, o + 19 ≤ a → a < o + 159 → cT P a = 0) : BkL P.2 o ∧ BkE P.2 o := by
  obtain ⟨c, h1, -, h8, -, c15, c16, c17, c18⟩ := g
  have r : ∀ i, P.2.1 o i = _ := c.2.2.1
  have r15 : ∀ i, P.2.1 (o + 15) i = none := c15.2.2.1
  refine ⟨⟨⟨c.1, ⟨?_, h1.lay⟩, ⟨?_, h8.lay⟩, ⟨?_, c15.1, c15.2.1⟩, ⟨?_, c16.1, c16.2.1⟩, ⟨?_, c17.1, c17.2.1⟩, ⟨?_, c18.1, c18.2.1⟩, fun i q hq => ?_⟩, fun k hk => Or.inl ⟨r15 k, fun j hj => hf _ (by omega) (by omega)⟩⟩, fun k _ => r15 k⟩
  · rw [r]; rfl
  · rw [r]; rfl
  · rw [r]; rfl
  · rw [r]; rfl
  · rw [r]; rfl
  · rw [r]; rfl
  · rw [r15] at hq; cases hq
theorem GL.start {P : jP} (g : MainNew P) (hf : ∀ a, 119 ≤ a → cT P a = 0) : GL P.2 := by
  obtain ⟨c0, ⟨c1, c2⟩, -, ⟨c3, h4, -, c11⟩, -, ⟨c12, c13, c14⟩, -, c15, b100, -, c16, ⟨c17, c18, c19⟩, -, ⟨c20, h21, -, c28, c65, c66, c67, c68, h30, -, h37, -, h44, -, h51, -, h58, -⟩, -, ⟨c70, h71, -, c78, c79⟩, -, ⟨c80, c81, c8⟩, -⟩ := g
  have r15 : ∀ i, P.2.1 15 i = none := c15.2.2.1
  have r16 : ∀ i, P.2.1 16 i = none := c16.2.2.1
  have hb := b100.bkl (fun a h1 h2 => hf a (by omega))
  have e28 : ∀ i q, P.2.1 28 i = some q → q = 30 ∨ q = 37 ∨ q = 44 ∨ q = 51 ∨ q = 58 := by
    intro i q hq
    have e : P.2.1 28 i = _ := c28.2.2.1 i
    rw [e] at hq
    simp only [va_up] at hq
    grind
  have e81 : ∀ i q, P.2.1 81 i = some q → i < 8 ∧ q = 82 + i := by
    intro i q hq
    have e : P.2.1 81 i = (if i < 8 then some (82 + i) else none) := c81.2.2.1 i
    rw [e] at hq
    by_cases z : i < 8
    · rw [if_pos z] at hq; cases hq; exact ⟨z, rfl⟩
    · rw [if_neg z] at hq; cases hq
  have hT : ∀ q ∈ lcT, P.2.2.1 q.1 = q.2 := by
    unfold lcT
    simp only [List.forall_mem_cons]
    exact ⟨c0.1, c1.1, c2.1, c3.1, c11.1, c12.1, c13.1, c14.1, c15.1, c16.1, c17.1, c18.1, c19.1, c20.1, c28.1, c65.1, c66.1, c67.1, c68.1, c70.1, c78.1, c79.1, c80.1, c81.1, (c8 0 (by omega)).1, (c8 1 (by omega)).1, (c8 2 (by omega)).1, (c8 3 (by omega)).1, (c8 4 (by omega)).1, (c8 5 (by omega)).1, (c8 6 (by omega)).1, (c8 7 (by omega)).1, fun _ h => absurd h (List.not_mem_nil)⟩
  have hN : ∀ q ∈ lcN, P.2.2.2.1 q.1 = q.2 := by
    unfold lcN
    simp only [List.forall_mem_cons]
    exact ⟨c2.2.1, c11.2.1, c13.2.1, c14.2.1, c15.2.1, c16.2.1, c18.2.1, c19.2.1, c28.2.1, c65.2.1, c66.2.1, c67.2.1, c68.2.1, c78.2.1, c79.2.1, c81.2.1, (c8 0 (by omega)).2.1, (c8 1 (by omega)).2.1, (c8 2 (by omega)).2.1, (c8 3 (by omega)).2.1, (c8 4 (by omega)).2.1, (c8 5 (by omega)).2.1, (c8 6 (by omega)).2.1, (c8 7 (by omega)).2.1, fun _ h => absurd h (List.not_mem_nil)⟩
  have hR : ∀ q ∈ lcR, P.2.1 q.1 q.2.1 = some q.2.2 := by
    unfold lcR
    simp only [List.forall_mem_cons]
    exact ⟨(c1.2.2.1 0).trans rfl, (c3.2.2.1 0).trans rfl, (c3.2.2.1 1).trans rfl, (c3.2.2.1 2).trans rfl, (c12.2.2.1 0).trans rfl, (c12.2.2.1 1).trans rfl, (c12.2.2.1 3).trans rfl, (c0.2.2.1 0).trans rfl, (c0.2.2.1 1).trans rfl, (c0.2.2.1 2).trans rfl, (c0.2.2.1 3).trans rfl, (c0.2.2.1 5).trans rfl, (c0.2.2.1 6).trans rfl, (c0.2.2.1 7).trans rfl, (c0.2.2.1 8).trans rfl, (c0.2.2.1 9).trans rfl, (c0.2.2.1 10).trans rfl, (c17.2.2.1 0).trans rfl, (c17.2.2.1 1).trans rfl, (c20.2.2.1 0).trans rfl, (c20.2.2.1 1).trans rfl, (c20.2.2.1 2).trans rfl, (c20.2.2.1 3).trans rfl, (c20.2.2.1 4).trans rfl, (c20.2.2.1 6).trans rfl, (c20.2.2.1 7).trans rfl, (c70.2.2.1 0).trans rfl, (c70.2.2.1 1).trans rfl, (c70.2.2.1 2).trans rfl, (c70.2.2.1 3).trans rfl, (c80.2.2.1 0).trans rfl, (c81.2.2.1 0).trans rfl, (c81.2.2.1 1).trans rfl, (c81.2.2.1 2).trans rfl, (c81.2.2.1 3).trans rfl, (c81.2.2.1 4).trans rfl, (c81.2.2.1 5).trans rfl, (c81.2.2.1 6).trans rfl, (c81.2.2.1 7).trans rfl, (c28.2.2.1 0).trans rfl, (c28.2.2.1 1).trans rfl, (c28.2.2.1 2).trans rfl, (c28.2.2.1 3).trans rfl, (c28.2.2.1 4).trans rfl, fun _ h => absurd h (List.not_mem_nil)⟩
  refine ⟨⟨hT, hN, hR, h4.lay, h21.lay, h30.lay, h37.lay, h44.lay, h51.lay, h58.lay, h71.lay, hb.1.1, fun i q hq => ?_, fun i q hq => ?_, fun i q hq => ?_, fun i q hq => ?_⟩, fun i hi => (c81.2.2.1 i).trans (if_pos hi), hb, fun k hk => Or.inl ⟨r16 k, fun a u v => hf a (by omega)⟩, fun i _ => r16 i, fun r hr => Or.inl ⟨r15 r, fun j hj => hf _ (by omega)⟩, fun i _ => r15 i, fun i q hq => ?_, fun i q hq => ?_⟩
  · rw [r15] at hq; cases hq
  · rw [r16] at hq; cases hq
  · rcases e28 i q hq with rfl | rfl | rfl | rfl | rfl
    · exact h30.lay
    · exact h37.lay
    · exact h44.lay
    · exact h51.lay
    · exact h58.lay
  · obtain ⟨z, rfl⟩ := e81 i q hq
    exact ⟨(c8 i z).1, (c8 i z).2.1⟩
  · have := e28 i q hq; omega
  · have := e81 i q hq; omega
