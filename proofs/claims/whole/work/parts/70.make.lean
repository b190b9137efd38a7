/-! makers: a past hall is kept -/
theorem HallNew.lay {P : jP} {h : Nat} (g : HallNew P h) : LayHall P.2 h := by
  obtain ⟨g0, g1, g2, g3, g4, g5, g6⟩ := g
  have r : ∀ i, P.2.1 h i = _ := g0.2.2.1
  refine ⟨g0.1, ⟨?_, g1.1, g1.2.1⟩, ⟨?_, g2.1, g2.2.1⟩, ⟨?_, g3.1, g3.2.1⟩, ⟨?_, g4.1, g4.2.1⟩, ⟨?_, g5.1, g5.2.1⟩, ⟨?_, g6.1, g6.2.1⟩⟩
  · rw [r]; rfl
  · rw [r]; rfl
  · rw [r]; rfl
  · rw [r]; rfl
  · rw [r]; rfl
  · rw [r]; rfl
theorem LayHall.sm {P P1 : jP} {h : Nat} (g : LayHall P.2 h) (s : ∀ a, h ≤ a → a < h + 7 → Same P P1 a) : LayHall P1.2 h := by
  obtain ⟨g0, ⟨a1, b1, c1⟩, ⟨a2, b2, c2⟩, ⟨a3, b3, c3⟩, ⟨a4, b4, c4⟩, ⟨a5, b5, c5⟩, ⟨a6, b6, c6⟩⟩ := g
  have r : ∀ i, P1.2.1 h i = P.2.1 h i := (s h (by omega) (by omega)).2.2.2.1
  have t : ∀ a, h ≤ a → a < h + 7 → P1.2.2.1 a = P.2.2.1 a := fun a u v => (s a u v).1
  have n : ∀ a, h ≤ a → a < h + 7 → P1.2.2.2.1 a = P.2.2.2.1 a := fun a u v => (s a u v).2.1
  exact ⟨(t _ (by omega) (by omega)).trans g0, ⟨(r _).trans a1, (t _ (by omega) (by omega)).trans b1, (n _ (by omega) (by omega)).trans c1⟩, ⟨(r _).trans a2, (t _ (by omega) (by omega)).trans b2, (n _ (by omega) (by omega)).trans c2⟩, ⟨(r _).trans a3, (t _ (by omega) (by omega)).trans b3, (n _ (by omega) (by omega)).trans c3⟩, ⟨(r _).trans a4, (t _ (by omega) (by omega)).trans b4, (n _ (by omega) (by omega)).trans c4⟩, ⟨(r _).trans a5, (t _ (by omega) (by omega)).trans b5, (n _ (by omega) (by omega)).trans c5⟩, ⟨(r _).trans a6, (t _ (by omega) (by omega)).trans b6, (n _ (by omega) (by omega)).trans c6⟩⟩
theorem kp_tail {S : jS} {T : jT} {Y : jS × jT} {o np a0 h mc ms kc ks : Nat} {Q : Option jV → jMem → Prop} (h0 : T.2.1 o = 1) (h1 : T.1 o 2 = some (o + 15)) (h2 : T.2.1 (o + 15) = 24) (h3 : T.2.2.1 (o + 15) = 20) (hnp : np < 20) (hs : T.1 (o + 15) np = some h) (hh : LayHall T h) (ha : LayHall T a0) (k : Q none ((cpF S h a0, T), Y)) : Go M0_keepPast 3 mc ms kc ks 22 [(0, rc o), (1, vi (nI np)), (2, rc a0)] [] ((S, T), Y) Q := by
  have hcl : (nI np).toNatClampNeg = np := nI_clamp (by omega)
  have hin : inb (nI np) 20 = true := by rw [inb_n (by omega)]; simpa using hnp
  have hs' : T.1 (o + 15) (nI np).toNatClampNeg = some h := by rw [hcl]; exact hs
  refine go_blk rfl [(.aload_n 0, 1, 0, 0, 0, .inl 0), (.getfield 21, 3, 0, 2, 1, .inl 0), (.iload_n 1, 1, 1, 0, 0, .inl 0), (.aaload, 1, 24, 0, 0, .inl 0), (.aload_n 2, 1, 2, 0, 0, .inl 0)] 22 29 _ _ _ (by decide +kernel) ?_
  refine And.intro h0 (Exists.intro _ (And.intro (gRc h1) ?_))
  refine And.intro h2 (Exists.intro _ (And.intro h3 (And.intro (inb_in hin) (Exists.intro _ (And.intro (gRc hs') ?_)))))
  show Go _ _ _ _ _ _ 29 [(0, rc o), (1, vi (nI np)), (2, rc a0)] [rc a0, rc h] ((S, T), Y) _
  refine go_callV (idx := 51) (z := 1) (M' := M4_copyFrom) (n := 1) (A := [rc a0]) (v' := none) (μ' := ((cpF S h a0, T), Y)) (d' := 2) (mc' := 0) (ms' := 0) (kc' := kc) (ks' := ks) (ci := 4) (x := .inl h) (by decide +kernel) ml_0_51 rfl wv4_copyFrom rfl (by decide) rfl hh.1 (ret4_copyFrom hh ha (cp_eq S h a0)) (by decide) (Nat.zero_add _) (Nat.zero_add _) (Nat.le_of_ble_eq_true rfl) rfl (jag rfl rfl) ?_
  show Go _ _ _ _ _ _ 32 [(0, rc o), (1, vi (nI np)), (2, rc a0)] [] ((cpF S h a0, T), Y) _
  exact go_return (by decide +kernel) rfl k
/-- what keepPast does: the hall h is then as the hall a0, and it stands in the row of past halls -/
def PK (P P1 : jP) (o np a0 : Nat) : Prop := P1.2.1 (o + 15) np = some (o + 19 + 7 * np) ∧ LayHall P1.2 (o + 19 + 7 * np) ∧ (∀ N, NOk N → HIs (hC P.1 a0) N → HIs (hC P1.1 (o + 19 + 7 * np)) N) ∧ (∀ b, ¬ (o + 19 + 7 * np ≤ b ∧ b < o + 19 + 7 * np + 7) → b ≠ o + 15 → Same P P1 b) ∧ (cT P1 (o + 15) = cT P (o + 15) ∧ cN P1 (o + 15) = cN P (o + 15) ∧ cA P1 (o + 15) = cA P (o + 15) ∧ (∀ i, i ≠ np → cR P1 (o + 15) i = cR P (o + 15) i) ∧ (∀ i, cI P1 (o + 15) i = cI P (o + 15) i) ∧ (∀ i, cL P1 (o + 15) i = cL P (o + 15) i))
theorem cp_same {S : jS} {T : jT} {h a0 : Nat} (hd : a0 + 6 < h ∨ h + 6 < a0) {b : Nat} (hb : b < h ∨ h + 7 ≤ b) : Same (S, T) (cpF S h a0, T) b :=
  ⟨rfl, rfl, rfl, fun _ => rfl, fun i => cp_fr hd (by omega), fun _ => rfl⟩
theorem ret0_keepPast {S : jS} {T : jT} {Y : jP} {o np a0 : Nat} (hh : LayBook T o) (ha : LayHall T a0) (hnp : np < 20) (hd : a0 + 6 < o + 19 + 7 * np ∨ o + 19 + 7 * np + 6 < a0) (hd2 : a0 + 6 < o + 15 ∨ o + 15 < a0) (hn : (T.1 (o + 15) np = none ∧ ∀ j, j < 7 → T.2.1 (o + 19 + 7 * np + j) = 0) ∨ (T.1 (o + 15) np = some (o + 19 + 7 * np) ∧ LayHall T (o + 19 + 7 * np))) : RetQ M0_keepPast 3 7 55 [rc o, vi (nI np), rc a0] ((S, T), Y) (fun v μ1 => v = none ∧ ∃ P1 : jP, μ1 = (P1, Y) ∧ PK (S, T) P1 o np a0) := by
  refine RetQ.of (by decide +kernel) (Nat.le_of_ble_eq_true rfl) ?_
  have hcl : (nI np).toNatClampNeg = np := nI_clamp (by omega)
  have hin : inb (nI np) 20 = true := by rw [inb_n (by omega)]; simpa using hnp
  show Go _ _ _ _ 7 55 0 [(0, rc o), (1, vi (nI np)), (2, rc a0)] [] ((S, T), Y) _
  refine go_blk rfl [(.aload_n 0, 1, 0, 0, 0, .inl 0), (.getfield 21, 3, 0, 2, 1, .inl 0), (.iload_n 1, 1, 1, 0, 0, .inl 0), (.aaload, 1, 24, 0, 0, .inl 0)] 0 6 _ _ _ (by decide +kernel) ?_
  refine And.intro hh.1 (Exists.intro _ (And.intro (gRc hh.2.2.2.1.1) ?_))
  refine And.intro hh.2.2.2.1.2.1 (Exists.intro _ (And.intro hh.2.2.2.1.2.2 (And.intro (inb_in hin) (Exists.intro _ (And.intro gRo ?_)))))
  show Go _ _ _ _ 7 55 6 [(0, rc o), (1, vi (nI np)), (2, rc a0)] [vo (T.1 (o + 15) (nI np).toNatClampNeg)] ((S, T), Y) _
  rw [hcl]
  generalize eh : o + 19 + 7 * np = h at *
  rcases hn with ⟨hn, hu⟩ | ⟨hn, hl⟩
  · rw [hn]
    refine go_ifnonnull (off := 16) (tgt := 22) (by decide +kernel) (by decide) (fun z => absurd rfl z) (fun _ => ?_)
    show Go _ _ _ _ 7 55 9 [(0, rc o), (1, vi (nI np)), (2, rc a0)] [] ((S, T), Y) _
    refine go_blk rfl [(.aload_n 0, 1, 0, 0, 0, .inl 0), (.getfield 21, 3, 0, 2, 1, .inl 0), (.iload_n 1, 1, 1, 0, 0, .inl 0)] 9 14 _ _ _ (by decide +kernel) ?_
    refine And.intro hh.1 (Exists.intro _ (And.intro (gRc hh.2.2.2.1.1) ?_))
    show Go _ _ _ _ 7 55 14 [(0, rc o), (1, vi (nI np)), (2, rc a0)] [vi (nI np), rc (o + 15)] ((S, T), Y) _
    refine go_new (idx := 9) (ci := 4) (x := .inl h) (kc' := 6) (ks' := 41) (by decide +kernel) (jin_1 (List.mem_of_getElem? (i := 234) rfl)) rfl (by decide) (jin_1 (List.mem_of_getElem? (i := 72) rfl)) (jin_1 (List.mem_of_getElem? (i := 4) rfl)) trivial (hu 0 (by omega)) (by simp [jnr]; omega) (by simp [jnr]; omega) (by decide) (by decide) (fun q1 => ?_)
    show Go _ _ _ _ 6 41 17 [(0, rc o), (1, vi (nI np)), (2, rc a0)] [rc h, vi (nI np), rc (o + 15)] (pN (S, T) h 5 0 q1, Y) _
    generalize e1 : pN (S, T) h 5 0 q1 = P1
    have s1 : ∀ b, b ≠ h → Same (S, T) P1 b := fun b hb => sN e1 hb
    have c1 := cell_N e1
    refine go_blk rfl [(.dup, 1, 0, 0, 0, .inl 0)] 17 18 _ _ _ (by decide +kernel) ?_
    show Go _ _ _ _ 6 41 18 [(0, rc o), (1, vi (nI np)), (2, rc a0)] [rc h, rc h, vi (nI np), rc (o + 15)] (P1, Y) _
    have u : ∀ j, 1 ≤ j → j < 7 → cT P1 (h + j) = 0 := fun j j1 j2 => (s1 (h + j) (by omega)).1.trans (hu j j2)
    refine go_callIQ (idx := 11) (z := 1) (M' := M4_init) (n := 0) (A := []) (x := .inl h) (d' := 2) (mc' := 6) (ms' := 41) (kc' := 0) (ks' := 0) (by decide +kernel) ml_0_11 rfl wi4_init rfl (ret4_init c1 ⟨u 1 (by omega) (by omega), u 2 (by omega) (by omega), u 3 (by omega) (by omega), u 4 (by omega) (by omega), u 5 (by omega) (by omega), u 6 (by omega) (by omega)⟩) (by decide) (by decide) (by decide) (Nat.le_of_ble_eq_true rfl) rfl (fun v2 μ2 g => by obtain ⟨rfl, P9, rfl, g1, g2, g3⟩ := g; intro adK; refine ⟨?_, ?_⟩ <;> simp [jlv, jcvc, jcvm, jcvi, (g2 o (by simp; omega)).2.2.1, (g2 (o + 15) (by simp; omega)).2.2.1, (g2 a0 (by simp; omega)).2.2.1, g3]) (fun v2 μ2 g => ?_)
    obtain ⟨rfl, P2, rfl, g1, g2, g3⟩ := g
    have s2 : ∀ b, ¬ (h ≤ b ∧ b < h + 7) → Same (S, T) P2 b := fun b hb => (s1 b (by omega)).tr (g2 b (by simp; omega))
    show Go _ _ _ _ 0 0 21 [(0, rc o), (1, vi (nI np)), (2, rc a0)] [rc h, vi (nI np), rc (o + 15)] (P2, Y) _
    have t15 := s2 (o + 15) (by omega)
    refine go_aast24 (w := some h) (n := 20) (by decide +kernel) (t15.1.trans hh.2.2.2.1.2.1) (HallNew_t g1) (t15.2.1.trans hh.2.2.2.1.2.2) (inb_in hin) ⟨rfl, by intro e; cases e⟩ ?_
    show Go _ _ _ _ 0 0 22 [(0, rc o), (1, vi (nI np)), (2, rc a0)] [] (pR P2 (o + 15) (nI np).toNatClampNeg h, Y) _
    rw [hcl]
    generalize e3 : pR P2 (o + 15) np h = P3
    have s3 : ∀ b, ¬ (h ≤ b ∧ b < h + 7) → b ≠ o + 15 → Same (S, T) P3 b := fun b hb hb2 => (s2 b hb).tr (sR e3 hb2)
    have g4 : HallNew P3 h := HallNew_sm g1 (fun a u1 u2 => sR e3 (by omega))
    have r15 : ∀ i, cR P3 (o + 15) i = if i = np then some h else cR P2 (o + 15) i := fun i => by
      subst e3; rw [pR_R]; simp
    have hl3 : LayHall P3.2 h := g4.lay
    have ha3 : LayHall P3.2 a0 := LayHall.sm (P := (S, T)) ha (fun a u1 u2 => s3 a (by omega) (by omega))
    have o3 := s3 o (by omega) (by omega)
    have t3 : cT P3 (o + 15) = 24 := by subst e3; exact t15.1.trans hh.2.2.2.1.2.1
    have n3 : cN P3 (o + 15) = 20 := by subst e3; exact t15.2.1.trans hh.2.2.2.1.2.2
    have a3 : cA P3 (o + 15) = cA (S, T) (o + 15) := by subst e3; exact t15.2.2.1
    have i3 : ∀ i, cI P3 (o + 15) i = cI (S, T) (o + 15) i := by subst e3; exact t15.2.2.2.2.1
    have l3 : ∀ i, cL P3 (o + 15) i = cL (S, T) (o + 15) i := by subst e3; exact t15.2.2.2.2.2
    obtain ⟨S3, T3⟩ := P3
    have hI : ∀ b, ¬ (h ≤ b ∧ b < h + 7) → b ≠ o + 15 → ∀ i, S3.1 b i = S.1 b i := fun b u1 u2 i => (s3 b u1 u2).2.2.2.2.1 i
    refine kp_tail (h := h) (o3.1.trans hh.1) ((o3.2.2.2.1 2).trans hh.2.2.2.1.1) t3 n3 hnp ((r15 np).trans (if_pos rfl)) hl3 ha3 ⟨rfl, (cpF S3 h a0, T3), rfl, ?_, ?_, fun N hN hH => ?_, fun b u1 u2 => ?_, ?_⟩
    · rw [eh]; exact (r15 np).trans (if_pos rfl)
    · rw [eh]; exact hl3
    · rw [eh]; exact cp_H hd hN (HIs.mono hH (fun a i u1 u2 => hI a (by omega) (by omega) i))
    · rw [eh] at u1; exact (s3 b u1 u2).tr (cp_same hd (by omega))
    · refine ⟨t3.trans hh.2.2.2.1.2.1.symm, n3.trans hh.2.2.2.1.2.2.symm, a3, fun i hi => ?_, fun i => (cp_fr hd (by omega)).trans (i3 i), l3⟩
      exact ((r15 i).trans (if_neg hi)).trans (t15.2.2.2.1 i)
  · rw [hn]
    refine go_ifnonnull (off := 16) (tgt := 22) (by decide +kernel) (by decide) (fun _ => ?_) (fun z => by cases z)
    refine kp_tail (h := h) hh.1 hh.2.2.2.1.1 hh.2.2.2.1.2.1 hh.2.2.2.1.2.2 hnp hn hl ha ⟨rfl, (cpF S h a0, T), rfl, ?_, ?_, fun N hN hH => ?_, fun b u1 u2 => ?_, ?_⟩
    · rw [eh]; exact hn
    · rw [eh]; exact hl
    · rw [eh]; exact cp_H hd hN hH
    · rw [eh] at u1; exact cp_same hd (by omega)
    · exact ⟨rfl, rfl, rfl, fun _ _ => rfl, fun i => cp_fr hd (by omega), fun _ => rfl⟩
