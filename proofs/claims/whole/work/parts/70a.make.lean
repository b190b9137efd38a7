/-! makers: remember -/
/-- a book as it lies: its rows, and each past hall either not made yet or at its place -/
def BkL (T : jT) (b : Nat) : Prop := LayBook T b ∧ ∀ k, k < 20 → (T.1 (b + 15) k = none ∧ ∀ j, j < 7 → T.2.1 (b + 19 + 7 * k + j) = 0) ∨ (T.1 (b + 15) k = some (b + 19 + 7 * k) ∧ LayHall T (b + 19 + 7 * k))
/-- nothing lies behind the row of past halls -/
def BkE (T : jT) (b : Nat) : Prop := ∀ k, 20 ≤ k → T.1 (b + 15) k = none
theorem wI_same {S : jS} {T : jT} {a i : Nat} {x : Int32} {b : Nat} (h : b ≠ a) : Same (S, T) (wI S a i x, T) b := ⟨rfl, rfl, rfl, fun _ => rfl, fun _ => wI_ne h, fun j => by rw [cL, cL, wI_L]⟩
/-- what remember leaves as it lay -/
def RemL (P P1 : jP) (np : Nat) : Prop := (∀ b, ¬ (119 + 7 * np ≤ b ∧ b < 119 + 7 * np + 7) → b ≠ 115 → b ≠ 100 → Same P P1 b) ∧ (cT P1 115 = cT P 115 ∧ cN P1 115 = cN P 115 ∧ cA P1 115 = cA P 115 ∧ ∀ i, i ≠ np → cR P1 115 i = cR P 115 i) ∧ (cT P1 100 = cT P 100 ∧ cN P1 100 = cN P 100 ∧ cA P1 100 = cA P 100 ∧ ∀ i, cR P1 100 i = cR P 100 i) ∧ cR P1 115 np = some (119 + 7 * np) ∧ LayHall P1.2 (119 + 7 * np)
theorem ret0_remember {S : jS} {T : jT} {Y : jP} {np A : Nat} (hB : BkL T 100) (hnp : np < 20) (hA : A ≤ 20) (h3 : S.1 100 3 = nI np) (h4 : S.1 100 4 = nI A) : RetQ M0_remember 4 7 55 [rc 100] ((S, T), Y) (fun v μ1 => v = none ∧ ∃ S1 T1, μ1 = ((S1, T1), Y) ∧ Rem S T S1 T1 ∧ RemL (S, T) (S1, T1) np) := by
  obtain ⟨hh, hp⟩ := hB
  refine RetQ.of (by decide +kernel) (Nat.le_of_ble_eq_true rfl) ?_
  show Go _ _ _ _ 7 55 0 [(0, rc 100)] [] ((S, T), Y) _
  refine go_blk rfl [(.aload_n 0, 1, 0, 0, 0, .inl 0), (.aload_n 0, 1, 0, 0, 0, .inl 0), (.getfield 25, 3, 0, 3, 0, .inl 0), (.aload_n 0, 1, 0, 0, 0, .inl 0), (.getfield 18, 3, 0, 1, 1, .inl 0)] 0 9 _ _ _ (by decide +kernel) ?_
  refine And.intro hh.1 ?_
  refine And.intro hh.1 (Exists.intro _ (And.intro (gRc hh.2.2.1.1) ?_))
  show Go _ _ _ _ 7 55 9 [(0, rc 100)] [rc (100 + 8), vi (S.1 100 3), rc 100] ((S, T), Y) _
  rw [h3]
  refine go_callVQ (idx := 55) (z := 0) (M' := M0_keepPast) (n := 2) (A := [vi (nI np), rc (100 + 8)]) (d' := 3) (mc' := 7) (ms' := 55) (kc' := 0) (ks' := 0) (ci := 0) (x := .inl 100) (by decide +kernel) ml_0_55 rfl wv0_keepPast rfl (by decide) rfl hh.1 (ret0_keepPast hh hh.2.2.1.2 hnp (by omega) (by omega) (hp np hnp)) (by decide) (by decide) (by decide) (Nat.le_of_ble_eq_true rfl) rfl (fun v2 μ2 g => by obtain ⟨rfl, P9, rfl, g1, g2, g3, g4, g5⟩ := g; intro adK; refine ⟨rfl, ?_⟩; simp [jlv, jcvc, jcvm, jcvi, (g4 100 (by omega) (by omega)).2.2.1]) (fun v2 μ2 g => ?_)
  obtain ⟨rfl, ⟨S1, T1⟩, rfl, g1, g2, g3, g4, g5⟩ := g
  have s100 := g4 100 (by omega) (by omega)
  have t100 : T1.2.1 100 = 1 := s100.1.trans hh.1
  have i3 : S1.1 100 3 = nI np := (s100.2.2.2.2.1 3).trans h3
  have i4 : S1.1 100 4 = nI A := (s100.2.2.2.2.1 4).trans h4
  show Go _ _ _ _ 0 0 12 [(0, rc 100)] [] ((S1, T1), Y) _
  refine go_blk rfl [(.aload_n 0, 1, 0, 0, 0, .inl 0), (.aload_n 0, 1, 0, 0, 0, .inl 0), (.getfield 25, 3, 0, 3, 0, .inl 0), (.iconst 1, 1, 0, 0, 0, .inl 1), (.iadd, 1, 0, 0, 0, .inl 0), (.bipush 20, 2, 0, 0, 0, .inl 20), (.irem, 1, 0, 0, 0, .inl 0), (.putfield 25, 3, 0, 3, 0, .inl 0)] 12 25 _ _ _ (by decide +kernel) ?_
  refine And.intro t100 ?_
  refine And.intro (by decide) ?_
  refine And.intro t100 (And.intro trivial ?_)
  show Go _ _ _ _ 0 0 25 [(0, rc 100)] [] ((wI S1 100 3 (irm (S1.1 100 3 + 1) 20), T1), Y) _
  have e3 : irm (S1.1 100 3 + 1) 20 = nI ((np + 1) % 20) := by
    have e : nI np + 1 = nI (np + 1) := nI_add np 1
    rw [i3, e, irm_20 (by omega)]
  rw [e3]
  have j4 : (wI S1 100 3 (nI ((np + 1) % 20))).1 100 4 = nI A := by rw [wI_nj (by omega)]; exact i4
  have key : ∀ x : Int32, x = nI (min A 19 + 1) → ∀ S2 : jS, (∀ a i, ¬ (a = 100 ∧ i = 4) → S2.1 a i = (wI S1 100 3 (nI ((np + 1) % 20))).1 a i) → (∀ a i, S2.2 a i = S1.2 a i) → S2.1 100 4 = x → Rem S T S2 T1 ∧ RemL (S, T) (S2, T1) np := by
    intro x hx S2 f f2 f4
    have hI : ∀ a i, ¬ (a = 100 ∧ (i = 3 ∨ i = 4)) → S2.1 a i = S1.1 a i := fun a i u => by rw [f a i (by omega), wI_g, if_neg (by omega)]
    have s115 : ∀ i, S1.1 115 i = S.1 115 i := g5.2.2.2.2.1
    have fr : ∀ a i, ¬ (100 + 19 + 7 * np ≤ a ∧ a ≤ 100 + 19 + 7 * np + 6) → ¬ (a = 100 ∧ (i = 3 ∨ i = 4)) → S2.1 a i = S.1 a i := fun a i u1 u2 => by
      rw [hI a i u2]
      by_cases e : a = 115
      · rw [e]; exact s115 i
      · exact (g4 a (by omega) (by omega)).2.2.2.2.1 i
    refine ⟨⟨np, A, hnp, hA, h3, h4, ?_, ?_, fun N hN hH => ?_, fr, g1, fun a i u1 u2 => ?_, fun a u1 => ?_⟩, fun b u1 u2 u3 => ?_, ⟨g5.1, g5.2.1, g5.2.2.1, g5.2.2.2.1⟩, ⟨s100.1, s100.2.1, s100.2.2.1, s100.2.2.2.1⟩, g1, g2⟩
    · rw [f _ _ (by omega), wI_self]
    · rw [f4, hx]
    · exact (g3 N hN hH).mono (fun a i u1 u2 => hI a i (by omega))
    · by_cases e : a = 115
      · subst e; exact g5.2.2.2.1 i (fun z => u2 ⟨rfl, z⟩)
      · exact (g4 a (by omega) (by omega)).2.2.2.1 i
    · by_cases e : a = 115
      · subst e; exact g5.2.1
      · exact (g4 a (by omega) (by omega)).2.1
    · have s := g4 b (by omega) (by omega)
      exact ⟨s.1, s.2.1, s.2.2.1, s.2.2.2.1, fun i => (hI b i (by omega)).trans (s.2.2.2.2.1 i), fun i => (f2 b i).trans (s.2.2.2.2.2 i)⟩
  refine go_blk rfl [(.aload_n 0, 1, 0, 0, 0, .inl 0), (.getfield 29, 3, 0, 4, 0, .inl 0), (.bipush 20, 2, 0, 0, 0, .inl 20)] 25 31 _ _ _ (by decide +kernel) ?_
  refine And.intro t100 ?_
  show Go _ _ _ _ 0 0 31 [(0, rc 100)] [vi 20, vi ((wI S1 100 3 (nI ((np + 1) % 20))).1 100 4)] ((wI S1 100 3 (nI ((np + 1) % 20)), T1), Y) _
  rw [j4]
  by_cases c : A = 20
  · have c' : (20 : Int32) ≤ nI A := by rw [qge_20 (by omega)]; omega
    refine go_icmp_ge (off := 13) (tgt := 44) (by decide +kernel) (by decide) (fun _ => ?_) (fun z => absurd c' z)
    refine go_return (by decide +kernel) rfl ⟨rfl, _, _, rfl, key (nI A) (by rw [show min A 19 + 1 = A by omega]) _ (fun _ _ _ => rfl) (fun a i => by rw [wI_L]) j4⟩
  · have c' : ¬ (20 : Int32) ≤ nI A := by rw [qge_20 (by omega)]; omega
    refine go_icmp_ge (off := 13) (tgt := 44) (by decide +kernel) (by decide) (fun z => absurd z c') (fun _ => ?_)
    show Go _ _ _ _ 0 0 34 [(0, rc 100)] [] ((wI S1 100 3 (nI ((np + 1) % 20)), T1), Y) _
    refine go_blk rfl [(.aload_n 0, 1, 0, 0, 0, .inl 0), (.dup, 1, 0, 0, 0, .inl 0), (.getfield 29, 3, 0, 4, 0, .inl 0), (.iconst 1, 1, 0, 0, 0, .inl 1), (.iadd, 1, 0, 0, 0, .inl 0), (.putfield 29, 3, 0, 4, 0, .inl 0)] 34 44 _ _ _ (by decide +kernel) ?_
    refine And.intro t100 ?_
    refine And.intro t100 (And.intro trivial ?_)
    show Go _ _ _ _ 0 0 44 [(0, rc 100)] [] ((wI (wI S1 100 3 (nI ((np + 1) % 20))) 100 4 ((wI S1 100 3 (nI ((np + 1) % 20))).1 100 4 + 1), T1), Y) _
    rw [j4]
    have e4 : nI A + 1 = nI (A + 1) := nI_add A 1
    refine go_return (by decide +kernel) rfl ⟨rfl, _, _, rfl, key (nI A + 1) (by rw [e4, show min A 19 + 1 = A + 1 by omega]) _ (fun a i u => by rw [wI_g, if_neg u]) (fun a i => by rw [wI_L, wI_L]) (wI_self _ _ _ _)⟩
