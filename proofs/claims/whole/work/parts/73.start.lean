/-! the start: both new objects agree -/
def zN : mN := fun _ _ => 0
def zB : mB := ((zN, zN), (fun _ => zN, 0), (0, fun _ => 0, fun _ => 0, fun _ => 0), (0, 0))
theorem zN_ok : NOk zN := ⟨by decide, by decide, by decide, by decide, by decide, by decide, by decide, Or.inr ⟨rfl, rfl⟩, fun c hc => absurd hc (Nat.not_lt_zero c), fun g hg => absurd hg (Nat.not_lt_zero g)⟩
theorem zB_ok : BOk zB 0 := ⟨zN_ok, by decide, zN_ok, ⟨rfl, rfl, rfl, fun _ _ => rfl⟩, ⟨rfl, rfl, rfl, rfl, rfl, fun g hg => absurd hg (Nat.not_lt_zero g)⟩, by decide, fun j hj => absurd hj (Nat.not_lt_zero j), by decide, fun j hj => absurd hj (Nat.not_lt_zero j), by decide, by decide⟩
theorem HallNew.his {S : jS} {T : jT} {h : Nat} (g : HallNew (S, T) h) : HIs (hC S h) zN := by
  have c : ∀ i, S.1 (h + 0) i = _ := g.1.2.2.2.1
  refine ⟨fun i h1 h2 => ?_, ?_, fun c hc => absurd hc (Nat.not_lt_zero c), fun a g _ _ hg => absurd hg (Nat.not_lt_zero g)⟩
  · show S.1 (h + 0) i = nI 0
    rw [c]
    have : i = 0 ∨ i = 1 ∨ i = 2 ∨ i = 3 ∨ i = 4 ∨ i = 5 ∨ i = 7 := by omega
    rcases this with rfl | rfl | rfl | rfl | rfl | rfl | rfl <;> rfl
  · show S.1 (h + 0) 6 = nI 0 - 1
    rw [c]; rfl
theorem BookNew.cbk {S : jS} {T : jT} {o : Nat} (g : BookNew (S, T) o) : CBk S T o zB := by
  obtain ⟨c, h1, -, h8, -, -⟩ := g
  have ci : ∀ i, S.1 o i = _ := c.2.2.2.1
  refine ⟨h8.his, h1.his, ?_, ⟨0, by omega, ?_, fun j hj => absurd hj (Nat.not_lt_zero j)⟩, ⟨?_, fun k hk => absurd hk (Nat.not_lt_zero k)⟩, ?_, ?_⟩
  · rw [ci]; rfl
  · rw [ci]; rfl
  · rw [ci]; rfl
  · rw [ci]; rfl
  · rw [ci]; rfl
theorem INV.start {S : jS} {T : jT} {X : jS} {TX : jT} (g : MainNew (S, T)) (m : ModNew (X, TX)) : INV S T X := by
  obtain ⟨c0, ⟨c1, c2⟩, -, -, -, -, -, c15, b100, -, c16, -⟩ := g
  obtain ⟨m0, mg⟩ := m
  have x0 : ∀ i, X.1 0 i = _ := m0.2.2.2.1
  have x1 : ∀ i, X.1 1 i = mInt 1 i := (mg 1 (by omega) (by decide)).2.2.2.1
  have x54 : ∀ i, X.1 54 i = mInt 54 i := (mg 54 (by omega) (by decide)).2.2.2.1
  have s0 : ∀ i, S.1 0 i = _ := c0.2.2.2.1
  have s1 : ∀ i, S.1 1 i = _ := c1.2.2.2.1
  have t16 : ∀ i, T.1 16 i = none := c16.2.2.1
  have t15 : ∀ i, T.1 15 i = none := c15.2.2.1
  refine ⟨0, fun _ => 0, 0, fun _ => [], zB, fun _ => zB, fun _ => false, ⟨⟨?_, fun i hi => absurd hi (Nat.not_lt_zero i)⟩, ⟨?_, fun i hi => absurd hi (Nat.not_lt_zero i), fun r _ => t15 r⟩, b100.cbk, fun k hk => ⟨(fun e => by cases e), fun _ => t16 k⟩⟩, ⟨⟨?_, fun i hi => absurd hi (Nat.not_lt_zero i)⟩, ⟨?_, fun i hi => absurd hi (Nat.not_lt_zero i)⟩, ⟨HIs_V ?_ ?_ ?_ ?_ ?_ ?_ ?_ ?_ (fun c hc => absurd hc (Nat.not_lt_zero c)) (fun a g _ _ hg => absurd hg (Nat.not_lt_zero g)), fun g hg => absurd hg (Nat.not_lt_zero g), ?_, fun j hj => absurd hj (Nat.not_lt_zero j), ⟨?_, fun k hk => absurd hk (Nat.not_lt_zero k)⟩, ?_, ?_⟩, fun k hk => ⟨?_, (fun e => by cases e)⟩, ?_, ?_⟩, ⟨by omega, fun i hi => absurd hi (Nat.not_lt_zero i)⟩, ⟨by omega, fun i hi => absurd hi (Nat.not_lt_zero i)⟩, zB_ok, fun k hk e => by cases e⟩
  · rw [s1]; rfl
  · rw [s0]; rfl
  · rw [x0]; rfl
  · rw [x0]; rfl
  · exact (x1 0).trans (by decide)
  · exact (x1 1).trans (by decide)
  · exact (x1 2).trans (by decide)
  · exact (x1 7).trans (by decide)
  · exact (x1 6).trans (by decide)
  · exact (x1 3).trans (by decide)
  · exact (x1 5).trans (by decide)
  · exact (x1 4).trans (by decide)
  · exact (x0 44).trans rfl
  · exact (x1 8).trans (by decide)
  · exact (x1 10).trans (by decide)
  · exact (x1 9).trans (by decide)
  · rw [x54]; unfold mInt; rw [if_neg (by omega)]; rfl
  · rw [x0]; rfl
  · rw [x0]; rfl
