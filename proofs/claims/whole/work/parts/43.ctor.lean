def Same (P P1 : jP) (a : Nat) : Prop := cT P1 a = cT P a ∧ cN P1 a = cN P a ∧ cA P1 a = cA P a ∧ (∀ i, cR P1 a i = cR P a i) ∧ (∀ i, cI P1 a i = cI P a i) ∧ (∀ i, cL P1 a i = cL P a i)
theorem Same.rf (P : jP) (a : Nat) : Same P P a := ⟨rfl, rfl, rfl, fun _ => rfl, fun _ => rfl, fun _ => rfl⟩
theorem Same.tr {P P1 P2 : jP} {a : Nat} (h : Same P P1 a) (g : Same P1 P2 a) : Same P P2 a := ⟨g.1.trans h.1, g.2.1.trans h.2.1, g.2.2.1.trans h.2.2.1, fun i => (g.2.2.2.1 i).trans (h.2.2.2.1 i), fun i => (g.2.2.2.2.1 i).trans (h.2.2.2.2.1 i), fun i => (g.2.2.2.2.2 i).trans (h.2.2.2.2.2 i)⟩
def Cell (P : jP) (a t n : Nat) (R : Nat → Option Nat) (I : Nat → Int32) : Prop := cT P a = t ∧ cN P a = n ∧ (∀ i, cR P a i = R i) ∧ (∀ i, cI P a i = I i) ∧ (∀ i, cL P a i = 0)
theorem Cell.sm {P P1 : jP} {a t n : Nat} {R : Nat → Option Nat} {I : Nat → Int32} (h : Cell P a t n R I) (g : Same P P1 a) : Cell P1 a t n R I := ⟨g.1.trans h.1, g.2.1.trans h.2.1, fun i => (g.2.2.2.1 i).trans (h.2.2.1 i), fun i => (g.2.2.2.2.1 i).trans (h.2.2.2.1 i), fun i => (g.2.2.2.2.2 i).trans (h.2.2.2.2 i)⟩
theorem sN {P P1 : jP} {a t n q b : Nat} (e : pN P a t n q = P1) (h : b ≠ a) : Same P P1 b := by
  subst e; exact ⟨by rw [pN_T, if_neg h], by rw [pN_N, if_neg h], by rw [pN_A, if_neg h], fun i => by rw [pN_R, if_neg h], fun i => by rw [pN_I, if_neg h], fun i => by rw [pN_L, if_neg h]⟩
theorem sI {P P1 : jP} {a j : Nat} {x : Int32} {b : Nat} (e : pI P a j x = P1) (h : b ≠ a) : Same P P1 b := by
  subst e; exact ⟨rfl, rfl, rfl, fun i => rfl, fun i => by rw [pI_I, if_neg (fun z => h z.1)], fun i => rfl⟩
theorem sR {P P1 : jP} {a j c b : Nat} (e : pR P a j c = P1) (h : b ≠ a) : Same P P1 b := by
  subst e; exact ⟨rfl, rfl, rfl, fun i => by rw [pR_R, if_neg (fun z => h z.1)], fun i => rfl, fun i => rfl⟩
theorem cell_N {P P1 : jP} {a t n q : Nat} (e : pN P a t n q = P1) : Cell P1 a t n (fun _ => none) (fun _ => 0) := by
  subst e; exact ⟨by rw [pN_T, if_pos rfl], by rw [pN_N, if_pos rfl], fun i => by rw [pN_R, if_pos rfl], fun i => by rw [pN_I, if_pos rfl], fun i => by rw [pN_L, if_pos rfl]⟩
theorem cell_I {P P1 : jP} {a t n j : Nat} {x : Int32} {R : Nat → Option Nat} {I : Nat → Int32} (h : Cell P a t n R I) (e : pI P a j x = P1) : Cell P1 a t n R (upd I j x) := by
  subst e; refine ⟨h.1, h.2.1, h.2.2.1, fun i => ?_, h.2.2.2.2⟩
  rw [pI_I]; unfold upd
  by_cases z : i = j
  · rw [if_pos ⟨rfl, z⟩, if_pos z]
  · rw [if_neg (fun y => z y.2), if_neg z]; exact h.2.2.2.1 i
theorem cell_R {P P1 : jP} {a t n j c : Nat} {R : Nat → Option Nat} {I : Nat → Int32} (h : Cell P a t n R I) (e : pR P a j c = P1) : Cell P1 a t n (va_up R j (some c)) I := by
  subst e; refine ⟨h.1, h.2.1, fun i => ?_, h.2.2.2.1, h.2.2.2.2⟩
  rw [pR_R]; unfold va_up
  by_cases z : i = j
  · rw [if_pos ⟨rfl, z⟩, if_pos z]
  · rw [if_neg (fun y => z y.2), if_neg z]; exact h.2.2.1 i
theorem aI {P P1 : jP} {a j : Nat} {x : Int32} (e : pI P a j x = P1) (b : Nat) : cA P1 b = cA P b := by subst e; rfl
theorem aR {P P1 : jP} {a j c : Nat} (e : pR P a j c = P1) (b : Nat) : cA P1 b = cA P b := by subst e; rfl
theorem aN {P P1 : jP} {a t n q : Nat} (e : pN P a t n q = P1) {b : Nat} (h : b ≠ a) : cA P1 b = cA P b := (sN e h).2.2.1
theorem frN {P Pk P1 : jP} {l : List Nat} {a t n q : Nat} (h : ∀ b, b ∉ l → Same P Pk b) (e : pN Pk a t n q = P1) : ∀ b, b ∉ a :: l → Same P P1 b := fun b hb => (h b (List.ne_and_not_mem_of_not_mem_cons hb).2).tr (sN e (List.ne_and_not_mem_of_not_mem_cons hb).1)
theorem frI {P Pk P1 : jP} {l : List Nat} {a j : Nat} {x : Int32} (h : ∀ b, b ∉ l → Same P Pk b) (ha : a ∈ l) (e : pI Pk a j x = P1) : ∀ b, b ∉ l → Same P P1 b := fun b hb => (h b hb).tr (sI e (fun z => hb (by rw [z]; exact ha)))
theorem frR {P Pk P1 : jP} {l : List Nat} {a j c : Nat} (h : ∀ b, b ∉ l → Same P Pk b) (ha : a ∈ l) (e : pR Pk a j c = P1) : ∀ b, b ∉ l → Same P P1 b := fun b hb => (h b hb).tr (sR e (fun z => hb (by rw [z]; exact ha)))
theorem frC {P Pk P1 : jP} {l m : List Nat} (h : ∀ b, b ∉ l → Same P Pk b) (g : ∀ b, b ∉ m → Same Pk P1 b) : ∀ b, b ∉ m ++ l → Same P P1 b := fun b hb => (h b (fun z => hb (List.mem_append_right _ z))).tr (g b (fun z => hb (List.mem_append_left _ z)))
theorem jcvc (adK : Nat → Nat) (P Y : jP) (a : Nat) : jcv adK (P, Y) (rc a) = .ref (cA P a) := rfl
theorem jcvm (adK : Nat → Nat) (P Y : jP) (a : Nat) : jcv adK (Y, P) (rm a) = .ref (cA P a) := rfl
theorem jcvi (adK : Nat → Nat) (μ : jMem) (x : Int32) : jcv adK μ (vi x) = .int x := rfl
def HallNew (P : jP) (o : Nat) : Prop := (Cell P o 5 0 (va_up (va_up (va_up (va_up (va_up (va_up (fun _ => none) 8 (some (o + 1))) 9 (some (o + 2))) 10 (some (o + 3))) 11 (some (o + 4))) 12 (some (o + 5))) 13 (some (o + 6))) (upd (upd (upd (upd (upd (upd (upd (upd (fun _ => 0) 0 0) 1 0) 2 0) 3 0) 4 0) 5 0) 6 (-1)) 7 0)) ∧ (Cell P (o + 1) 20 6 (fun _ => none) (fun _ => 0)) ∧ (Cell P (o + 2) 20 7 (fun _ => none) (fun _ => 0)) ∧ (Cell P (o + 3) 20 7 (fun _ => none) (fun _ => 0)) ∧ (Cell P (o + 4) 20 7 (fun _ => none) (fun _ => 0)) ∧ (Cell P (o + 5) 20 7 (fun _ => none) (fun _ => 0)) ∧ (Cell P (o + 6) 20 7 (fun _ => none) (fun _ => 0))
theorem HallNew_sm {P P1 : jP} {o : Nat} (h : HallNew P o) (s : ∀ a, o ≤ a → a < o + 7 → Same P P1 a) : HallNew P1 o := ⟨h.1.sm (s o (by omega) (by omega)), h.2.1.sm (s (o + 1) (by omega) (by omega)), h.2.2.1.sm (s (o + 2) (by omega) (by omega)), h.2.2.2.1.sm (s (o + 3) (by omega) (by omega)), h.2.2.2.2.1.sm (s (o + 4) (by omega) (by omega)), h.2.2.2.2.2.1.sm (s (o + 5) (by omega) (by omega)), h.2.2.2.2.2.2.sm (s (o + 6) (by omega) (by omega))⟩
theorem HallNew_t {P : jP} {o : Nat} (h : HallNew P o) : cT P o = 5 := h.1.1
theorem ret4_init {P Y : jP} {o : Nat} (c0 : Cell P o 5 0 (fun _ => none) (fun _ => 0)) (hu : cT P (o + 1) = 0 ∧ cT P (o + 2) = 0 ∧ cT P (o + 3) = 0 ∧ cT P (o + 4) = 0 ∧ cT P (o + 5) = 0 ∧ cT P (o + 6) = 0) : RetQ M4_init 2 6 41 [rc o] (P, Y) (fun v μ1 => v = none ∧ ∃ P1 : jP, μ1 = (P1, Y) ∧ HallNew P1 o ∧ (∀ b, b ∉ ([o, o + 1, o + 2, o + 3, o + 4, o + 5, o + 6] : List Nat) → Same P P1 b) ∧ cA P1 o = cA P o) := by
  refine RetQ.of (by decide +kernel) (Nat.le_of_ble_eq_true rfl) ?_
  have f0 : ∀ b, b ∉ ([o] : List Nat) → Same P P b := fun b _ => Same.rf P b
  have a0 : cA P o = cA P o := rfl
  show Go _ _ _ _ 6 41 0 [(0, rc o)] [] (P, Y) _
  refine go_blk rfl [(.aload_n 0, 1, 0, 0, 0, .inl 0)] 0 1 _ _ _ (by decide +kernel) ?_
  show Go _ _ _ _ 6 41 1 [(0, rc o)] [rc o] (P, Y) _
  refine go_obj (idx := 3) (by decide +kernel) (jin_1 (List.mem_of_getElem? (i := 76) rfl)) rfl (by decide) (Nat.le_of_ble_eq_true rfl) ?_
  show Go _ _ _ _ 6 41 4 [(0, rc o)] [] (P, Y) _
  refine go_blk rfl [(.aload_n 0, 1, 0, 0, 0, .inl 0), (.iconst 0, 1, 0, 0, 0, .inl 0), (.putfield 9, 3, 4, 0, 0, .inl 0)] 4 9 _ _ _ (by decide +kernel) ?_
  refine And.intro c0.1 (And.intro trivial ?_)
  show Go _ _ _ _ 6 41 9 [(0, rc o)] [] (pI P o 0 0, Y) _
  generalize e1 : pI P o 0 0 = P1
  have a1 := (aI e1 o).trans a0
  have f1 := frI f0 (by simp) e1
  have c1_0 := cell_I c0 e1
  refine go_blk rfl [(.aload_n 0, 1, 0, 0, 0, .inl 0), (.iconst 0, 1, 0, 0, 0, .inl 0), (.putfield 15, 3, 4, 1, 0, .inl 0)] 9 14 _ _ _ (by decide +kernel) ?_
  refine And.intro c1_0.1 (And.intro trivial ?_)
  show Go _ _ _ _ 6 41 14 [(0, rc o)] [] (pI P1 o 1 0, Y) _
  generalize e2 : pI P1 o 1 0 = P2
  have a2 := (aI e2 o).trans a1
  have f2 := frI f1 (by simp) e2
  have c2_0 := cell_I c1_0 e2
  refine go_blk rfl [(.aload_n 0, 1, 0, 0, 0, .inl 0), (.iconst 0, 1, 0, 0, 0, .inl 0), (.putfield 18, 3, 4, 2, 0, .inl 0)] 14 19 _ _ _ (by decide +kernel) ?_
  refine And.intro c2_0.1 (And.intro trivial ?_)
  show Go _ _ _ _ 6 41 19 [(0, rc o)] [] (pI P2 o 2 0, Y) _
  generalize e3 : pI P2 o 2 0 = P3
  have a3 := (aI e3 o).trans a2
  have f3 := frI f2 (by simp) e3
  have c3_0 := cell_I c2_0 e3
  refine go_blk rfl [(.aload_n 0, 1, 0, 0, 0, .inl 0), (.iconst 0, 1, 0, 0, 0, .inl 0), (.putfield 21, 3, 4, 3, 0, .inl 0)] 19 24 _ _ _ (by decide +kernel) ?_
  refine And.intro c3_0.1 (And.intro trivial ?_)
  show Go _ _ _ _ 6 41 24 [(0, rc o)] [] (pI P3 o 3 0, Y) _
  generalize e4 : pI P3 o 3 0 = P4
  have a4 := (aI e4 o).trans a3
  have f4 := frI f3 (by simp) e4
  have c4_0 := cell_I c3_0 e4
  refine go_blk rfl [(.aload_n 0, 1, 0, 0, 0, .inl 0), (.iconst 0, 1, 0, 0, 0, .inl 0), (.putfield 24, 3, 4, 4, 0, .inl 0)] 24 29 _ _ _ (by decide +kernel) ?_
  refine And.intro c4_0.1 (And.intro trivial ?_)
  show Go _ _ _ _ 6 41 29 [(0, rc o)] [] (pI P4 o 4 0, Y) _
  generalize e5 : pI P4 o 4 0 = P5
  have a5 := (aI e5 o).trans a4
  have f5 := frI f4 (by simp) e5
  have c5_0 := cell_I c4_0 e5
  refine go_blk rfl [(.aload_n 0, 1, 0, 0, 0, .inl 0), (.iconst 0, 1, 0, 0, 0, .inl 0), (.putfield 27, 3, 4, 5, 0, .inl 0)] 29 34 _ _ _ (by decide +kernel) ?_
  refine And.intro c5_0.1 (And.intro trivial ?_)
  show Go _ _ _ _ 6 41 34 [(0, rc o)] [] (pI P5 o 5 0, Y) _
  generalize e6 : pI P5 o 5 0 = P6
  have a6 := (aI e6 o).trans a5
  have f6 := frI f5 (by simp) e6
  have c6_0 := cell_I c5_0 e6
  refine go_blk rfl [(.aload_n 0, 1, 0, 0, 0, .inl 0), (.iconst (-1), 1, 0, 0, 0, .inl (-1)), (.putfield 30, 3, 4, 6, 0, .inl 0)] 34 39 _ _ _ (by decide +kernel) ?_
  refine And.intro c6_0.1 (And.intro trivial ?_)
  show Go _ _ _ _ 6 41 39 [(0, rc o)] [] (pI P6 o 6 (-1), Y) _
  generalize e7 : pI P6 o 6 (-1) = P7
  have a7 := (aI e7 o).trans a6
  have f7 := frI f6 (by simp) e7
  have c7_0 := cell_I c6_0 e7
  refine go_blk rfl [(.aload_n 0, 1, 0, 0, 0, .inl 0), (.iconst 0, 1, 0, 0, 0, .inl 0), (.putfield 33, 3, 4, 7, 0, .inl 0)] 39 44 _ _ _ (by decide +kernel) ?_
  refine And.intro c7_0.1 (And.intro trivial ?_)
  show Go _ _ _ _ 6 41 44 [(0, rc o)] [] (pI P7 o 7 0, Y) _
  generalize e8 : pI P7 o 7 0 = P8
  have a8 := (aI e8 o).trans a7
  have f8 := frI f7 (by simp) e8
  have c8_0 := cell_I c7_0 e8
  refine go_blk rfl [(.aload_n 0, 1, 0, 0, 0, .inl 0), (.bipush 6, 2, 0, 0, 0, .inl 6)] 44 47 _ _ _ (by decide +kernel) ?_
  show Go _ _ _ _ 6 41 47 [(0, rc o)] [vi 6, rc o] (P8, Y) _
  refine go_newa20 (n := 6) (N' := 6) (x := .inl (o + 1)) (kc' := 5) (ks' := 35) (by decide +kernel) (by decide) (by decide) (by decide) trivial ((f8 (o + 1) (by simp <;> omega)).1.trans hu.1) (by simp [jnr]) (by simp [jnr]) (by decide) (by decide) (fun q1 => ?_)
  show Go _ _ _ _ 5 35 49 [(0, rc o)] [rc (o + 1), rc o] (pN P8 (o + 1) 20 6 q1, Y) _
  generalize e9 : pN P8 (o + 1) 20 6 q1 = P9
  have a9 := (aN e9 (b := o) (by omega)).trans a8
  have f9 := frN f8 e9
  have c9_0 := c8_0.sm (sN e9 (by omega))
  have c9_1 := cell_N e9
  refine go_putR (idx := 36) (a := 4) (b := 8) (z := 0) (w := some (o + 1)) (by decide +kernel) (by decide) rfl (by decide) (by decide) c9_0.1 rfl rfl rfl rfl ⟨rfl, by intro e; cases e⟩ (fun y hy => by cases hy; show cT P9 (o + 1) ≠ 0; rw [c9_1.1]; decide) ?_
  show Go _ _ _ _ 5 35 52 [(0, rc o)] [] (pR P9 o 8 (o + 1), Y) _
  generalize e10 : pR P9 o 8 (o + 1) = P10
  have a10 := (aR e10 o).trans a9
  have f10 := frR f9 (by simp) e10
  have c10_1 := c9_1.sm (sR e10 (by omega))
  have c10_0 := cell_R c9_0 e10
  refine go_blk rfl [(.aload_n 0, 1, 0, 0, 0, .inl 0), (.bipush 7, 2, 0, 0, 0, .inl 7)] 52 55 _ _ _ (by decide +kernel) ?_
  show Go _ _ _ _ 5 35 55 [(0, rc o)] [vi 7, rc o] (P10, Y) _
  refine go_newa20 (n := 7) (N' := 7) (x := .inl (o + 2)) (kc' := 4) (ks' := 28) (by decide +kernel) (by decide) (by decide) (by decide) trivial ((f10 (o + 2) (by simp <;> omega)).1.trans hu.2.1) (by simp [jnr]) (by simp [jnr]) (by decide) (by decide) (fun q2 => ?_)
  show Go _ _ _ _ 4 28 57 [(0, rc o)] [rc (o + 2), rc o] (pN P10 (o + 2) 20 7 q2, Y) _
  generalize e11 : pN P10 (o + 2) 20 7 q2 = P11
  have a11 := (aN e11 (b := o) (by omega)).trans a10
  have f11 := frN f10 e11
  have c11_0 := c10_0.sm (sN e11 (by omega))
  have c11_1 := c10_1.sm (sN e11 (by omega))
  have c11_2 := cell_N e11
  refine go_putR (idx := 40) (a := 4) (b := 9) (z := 0) (w := some (o + 2)) (by decide +kernel) (by decide) rfl (by decide) (by decide) c11_0.1 rfl rfl rfl rfl ⟨rfl, by intro e; cases e⟩ (fun y hy => by cases hy; show cT P11 (o + 2) ≠ 0; rw [c11_2.1]; decide) ?_
  show Go _ _ _ _ 4 28 60 [(0, rc o)] [] (pR P11 o 9 (o + 2), Y) _
  generalize e12 : pR P11 o 9 (o + 2) = P12
  have a12 := (aR e12 o).trans a11
  have f12 := frR f11 (by simp) e12
  have c12_1 := c11_1.sm (sR e12 (by omega))
  have c12_2 := c11_2.sm (sR e12 (by omega))
  have c12_0 := cell_R c11_0 e12
  refine go_blk rfl [(.aload_n 0, 1, 0, 0, 0, .inl 0), (.bipush 7, 2, 0, 0, 0, .inl 7)] 60 63 _ _ _ (by decide +kernel) ?_
  show Go _ _ _ _ 4 28 63 [(0, rc o)] [vi 7, rc o] (P12, Y) _
  refine go_newa20 (n := 7) (N' := 7) (x := .inl (o + 3)) (kc' := 3) (ks' := 21) (by decide +kernel) (by decide) (by decide) (by decide) trivial ((f12 (o + 3) (by simp <;> omega)).1.trans hu.2.2.1) (by simp [jnr]) (by simp [jnr]) (by decide) (by decide) (fun q3 => ?_)
  show Go _ _ _ _ 3 21 65 [(0, rc o)] [rc (o + 3), rc o] (pN P12 (o + 3) 20 7 q3, Y) _
  generalize e13 : pN P12 (o + 3) 20 7 q3 = P13
  have a13 := (aN e13 (b := o) (by omega)).trans a12
  have f13 := frN f12 e13
  have c13_0 := c12_0.sm (sN e13 (by omega))
  have c13_1 := c12_1.sm (sN e13 (by omega))
  have c13_2 := c12_2.sm (sN e13 (by omega))
  have c13_3 := cell_N e13
  refine go_putR (idx := 43) (a := 4) (b := 10) (z := 0) (w := some (o + 3)) (by decide +kernel) (by decide) rfl (by decide) (by decide) c13_0.1 rfl rfl rfl rfl ⟨rfl, by intro e; cases e⟩ (fun y hy => by cases hy; show cT P13 (o + 3) ≠ 0; rw [c13_3.1]; decide) ?_
  show Go _ _ _ _ 3 21 68 [(0, rc o)] [] (pR P13 o 10 (o + 3), Y) _
  generalize e14 : pR P13 o 10 (o + 3) = P14
  have a14 := (aR e14 o).trans a13
  have f14 := frR f13 (by simp) e14
  have c14_1 := c13_1.sm (sR e14 (by omega))
  have c14_2 := c13_2.sm (sR e14 (by omega))
  have c14_3 := c13_3.sm (sR e14 (by omega))
  have c14_0 := cell_R c13_0 e14
  refine go_blk rfl [(.aload_n 0, 1, 0, 0, 0, .inl 0), (.bipush 7, 2, 0, 0, 0, .inl 7)] 68 71 _ _ _ (by decide +kernel) ?_
  show Go _ _ _ _ 3 21 71 [(0, rc o)] [vi 7, rc o] (P14, Y) _
  refine go_newa20 (n := 7) (N' := 7) (x := .inl (o + 4)) (kc' := 2) (ks' := 14) (by decide +kernel) (by decide) (by decide) (by decide) trivial ((f14 (o + 4) (by simp <;> omega)).1.trans hu.2.2.2.1) (by simp [jnr]) (by simp [jnr]) (by decide) (by decide) (fun q4 => ?_)
  show Go _ _ _ _ 2 14 73 [(0, rc o)] [rc (o + 4), rc o] (pN P14 (o + 4) 20 7 q4, Y) _
  generalize e15 : pN P14 (o + 4) 20 7 q4 = P15
  have a15 := (aN e15 (b := o) (by omega)).trans a14
  have f15 := frN f14 e15
  have c15_0 := c14_0.sm (sN e15 (by omega))
  have c15_1 := c14_1.sm (sN e15 (by omega))
  have c15_2 := c14_2.sm (sN e15 (by omega))
  have c15_3 := c14_3.sm (sN e15 (by omega))
  have c15_4 := cell_N e15
  refine go_putR (idx := 46) (a := 4) (b := 11) (z := 0) (w := some (o + 4)) (by decide +kernel) (by decide) rfl (by decide) (by decide) c15_0.1 rfl rfl rfl rfl ⟨rfl, by intro e; cases e⟩ (fun y hy => by cases hy; show cT P15 (o + 4) ≠ 0; rw [c15_4.1]; decide) ?_
  show Go _ _ _ _ 2 14 76 [(0, rc o)] [] (pR P15 o 11 (o + 4), Y) _
  generalize e16 : pR P15 o 11 (o + 4) = P16
  have a16 := (aR e16 o).trans a15
  have f16 := frR f15 (by simp) e16
  have c16_1 := c15_1.sm (sR e16 (by omega))
  have c16_2 := c15_2.sm (sR e16 (by omega))
  have c16_3 := c15_3.sm (sR e16 (by omega))
  have c16_4 := c15_4.sm (sR e16 (by omega))
  have c16_0 := cell_R c15_0 e16
  refine go_blk rfl [(.aload_n 0, 1, 0, 0, 0, .inl 0), (.bipush 7, 2, 0, 0, 0, .inl 7)] 76 79 _ _ _ (by decide +kernel) ?_
  show Go _ _ _ _ 2 14 79 [(0, rc o)] [vi 7, rc o] (P16, Y) _
  refine go_newa20 (n := 7) (N' := 7) (x := .inl (o + 5)) (kc' := 1) (ks' := 7) (by decide +kernel) (by decide) (by decide) (by decide) trivial ((f16 (o + 5) (by simp <;> omega)).1.trans hu.2.2.2.2.1) (by simp [jnr]) (by simp [jnr]) (by decide) (by decide) (fun q5 => ?_)
  show Go _ _ _ _ 1 7 81 [(0, rc o)] [rc (o + 5), rc o] (pN P16 (o + 5) 20 7 q5, Y) _
  generalize e17 : pN P16 (o + 5) 20 7 q5 = P17
  have a17 := (aN e17 (b := o) (by omega)).trans a16
  have f17 := frN f16 e17
  have c17_0 := c16_0.sm (sN e17 (by omega))
  have c17_1 := c16_1.sm (sN e17 (by omega))
  have c17_2 := c16_2.sm (sN e17 (by omega))
  have c17_3 := c16_3.sm (sN e17 (by omega))
  have c17_4 := c16_4.sm (sN e17 (by omega))
  have c17_5 := cell_N e17
  refine go_putR (idx := 49) (a := 4) (b := 12) (z := 0) (w := some (o + 5)) (by decide +kernel) (by decide) rfl (by decide) (by decide) c17_0.1 rfl rfl rfl rfl ⟨rfl, by intro e; cases e⟩ (fun y hy => by cases hy; show cT P17 (o + 5) ≠ 0; rw [c17_5.1]; decide) ?_
  show Go _ _ _ _ 1 7 84 [(0, rc o)] [] (pR P17 o 12 (o + 5), Y) _
  generalize e18 : pR P17 o 12 (o + 5) = P18
  have a18 := (aR e18 o).trans a17
  have f18 := frR f17 (by simp) e18
  have c18_1 := c17_1.sm (sR e18 (by omega))
  have c18_2 := c17_2.sm (sR e18 (by omega))
  have c18_3 := c17_3.sm (sR e18 (by omega))
  have c18_4 := c17_4.sm (sR e18 (by omega))
  have c18_5 := c17_5.sm (sR e18 (by omega))
  have c18_0 := cell_R c17_0 e18
  refine go_blk rfl [(.aload_n 0, 1, 0, 0, 0, .inl 0), (.bipush 7, 2, 0, 0, 0, .inl 7)] 84 87 _ _ _ (by decide +kernel) ?_
  show Go _ _ _ _ 1 7 87 [(0, rc o)] [vi 7, rc o] (P18, Y) _
  refine go_newa20 (n := 7) (N' := 7) (x := .inl (o + 6)) (kc' := 0) (ks' := 0) (by decide +kernel) (by decide) (by decide) (by decide) trivial ((f18 (o + 6) (by simp <;> omega)).1.trans hu.2.2.2.2.2) (by simp [jnr]) (by simp [jnr]) (by decide) (by decide) (fun q6 => ?_)
  show Go _ _ _ _ 0 0 89 [(0, rc o)] [rc (o + 6), rc o] (pN P18 (o + 6) 20 7 q6, Y) _
  generalize e19 : pN P18 (o + 6) 20 7 q6 = P19
  have a19 := (aN e19 (b := o) (by omega)).trans a18
  have f19 := frN f18 e19
  have c19_0 := c18_0.sm (sN e19 (by omega))
  have c19_1 := c18_1.sm (sN e19 (by omega))
  have c19_2 := c18_2.sm (sN e19 (by omega))
  have c19_3 := c18_3.sm (sN e19 (by omega))
  have c19_4 := c18_4.sm (sN e19 (by omega))
  have c19_5 := c18_5.sm (sN e19 (by omega))
  have c19_6 := cell_N e19
  refine go_putR (idx := 52) (a := 4) (b := 13) (z := 0) (w := some (o + 6)) (by decide +kernel) (by decide) rfl (by decide) (by decide) c19_0.1 rfl rfl rfl rfl ⟨rfl, by intro e; cases e⟩ (fun y hy => by cases hy; show cT P19 (o + 6) ≠ 0; rw [c19_6.1]; decide) ?_
  show Go _ _ _ _ 0 0 92 [(0, rc o)] [] (pR P19 o 13 (o + 6), Y) _
  generalize e20 : pR P19 o 13 (o + 6) = P20
  have a20 := (aR e20 o).trans a19
  have f20 := frR f19 (by simp) e20
  have c20_1 := c19_1.sm (sR e20 (by omega))
  have c20_2 := c19_2.sm (sR e20 (by omega))
  have c20_3 := c19_3.sm (sR e20 (by omega))
  have c20_4 := c19_4.sm (sR e20 (by omega))
  have c20_5 := c19_5.sm (sR e20 (by omega))
  have c20_6 := c19_6.sm (sR e20 (by omega))
  have c20_0 := cell_R c19_0 e20
  refine go_return (by decide +kernel) rfl ⟨rfl, P20, rfl, ⟨c20_0, c20_1, c20_2, c20_3, c20_4, c20_5, c20_6⟩, fun b hb => f20 b (by intro z; apply hb; simp at z ⊢; omega), ?_⟩
  exact a20
def TapeNew (P : jP) : Prop := (Cell P 1 10 0 (va_up (fun _ => none) 0 (some 2)) (upd (upd (upd (upd (upd (upd (fun _ => 0) 1 0) 2 0) 3 0) 4 1) 5 0) 6 0)) ∧ (Cell P 2 20 400 (fun _ => none) (fun _ => 0))
theorem TapeNew_sm {P P1 : jP} (h : TapeNew P) (s : ∀ a, 1 ≤ a → a < 3 → Same P P1 a) : TapeNew P1 := ⟨h.1.sm (s 1 (by omega) (by omega)), h.2.sm (s 2 (by omega) (by omega))⟩
theorem TapeNew_t {P : jP} (h : TapeNew P) : cT P 1 = 10 := h.1.1
theorem ret9_init {P Y : jP} (c0 : Cell P 1 10 0 (fun _ => none) (fun _ => 0)) (hu : cT P 2 = 0) : RetQ M9_init 2 1 400 [rc 1] (P, Y) (fun v μ1 => v = none ∧ ∃ P1 : jP, μ1 = (P1, Y) ∧ TapeNew P1 ∧ (∀ b, b ∉ ([1, 2] : List Nat) → Same P P1 b) ∧ cA P1 1 = cA P 1) := by
  refine RetQ.of (by decide +kernel) (Nat.le_of_ble_eq_true rfl) ?_
  have f0 : ∀ b, b ∉ ([1] : List Nat) → Same P P b := fun b _ => Same.rf P b
  have a0 : cA P 1 = cA P 1 := rfl
  show Go _ _ _ _ 1 400 0 [(0, rc 1)] [] (P, Y) _
  refine go_blk rfl [(.aload_n 0, 1, 0, 0, 0, .inl 0)] 0 1 _ _ _ (by decide +kernel) ?_
  show Go _ _ _ _ 1 400 1 [(0, rc 1)] [rc 1] (P, Y) _
  refine go_obj (idx := 3) (by decide +kernel) (jin_1 (List.mem_of_getElem? (i := 34) rfl)) rfl (by decide) (Nat.le_of_ble_eq_true rfl) ?_
  show Go _ _ _ _ 1 400 4 [(0, rc 1)] [] (P, Y) _
  refine go_blk rfl [(.aload_n 0, 1, 0, 0, 0, .inl 0), (.sipush 400, 3, 0, 0, 0, .inl 400)] 4 8 _ _ _ (by decide +kernel) ?_
  show Go _ _ _ _ 1 400 8 [(0, rc 1)] [vi 400, rc 1] (P, Y) _
  refine go_newa20 (n := 400) (N' := 400) (x := .inl 2) (kc' := 0) (ks' := 0) (by decide +kernel) (by decide) (by decide) (by decide) trivial ((f0 2 (by simp <;> omega)).1.trans hu) (by simp [jnr]) (by simp [jnr]) (by decide) (by decide) (fun q1 => ?_)
  show Go _ _ _ _ 0 0 10 [(0, rc 1)] [rc 2, rc 1] (pN P 2 20 400 q1, Y) _
  generalize e1 : pN P 2 20 400 q1 = P1
  have a1 := (aN e1 (b := 1) (by omega)).trans a0
  have f1 := frN f0 e1
  have c1_0 := c0.sm (sN e1 (by decide))
  have c1_1 := cell_N e1
  refine go_putR (idx := 9) (a := 9) (b := 0) (z := 0) (w := some 2) (by decide +kernel) (by decide) rfl (by decide) (by decide) c1_0.1 rfl rfl rfl rfl ⟨rfl, by intro e; cases e⟩ (fun y hy => by cases hy; show cT P1 2 ≠ 0; rw [c1_1.1]; decide) ?_
  show Go _ _ _ _ 0 0 13 [(0, rc 1)] [] (pR P1 1 0 2, Y) _
  generalize e2 : pR P1 1 0 2 = P2
  have a2 := (aR e2 1).trans a1
  have f2 := frR f1 (by simp) e2
  have c2_1 := c1_1.sm (sR e2 (by decide))
  have c2_0 := cell_R c1_0 e2
  refine go_blk rfl [(.aload_n 0, 1, 0, 0, 0, .inl 0), (.iconst 0, 1, 0, 0, 0, .inl 0), (.putfield 15, 3, 9, 1, 0, .inl 0)] 13 18 _ _ _ (by decide +kernel) ?_
  refine And.intro c2_0.1 (And.intro trivial ?_)
  show Go _ _ _ _ 0 0 18 [(0, rc 1)] [] (pI P2 1 1 0, Y) _
  generalize e3 : pI P2 1 1 0 = P3
  have a3 := (aI e3 1).trans a2
  have f3 := frI f2 (by simp) e3
  have c3_1 := c2_1.sm (sI e3 (by decide))
  have c3_0 := cell_I c2_0 e3
  refine go_blk rfl [(.aload_n 0, 1, 0, 0, 0, .inl 0), (.iconst 0, 1, 0, 0, 0, .inl 0), (.putfield 19, 3, 9, 2, 0, .inl 0)] 18 23 _ _ _ (by decide +kernel) ?_
  refine And.intro c3_0.1 (And.intro trivial ?_)
  show Go _ _ _ _ 0 0 23 [(0, rc 1)] [] (pI P3 1 2 0, Y) _
  generalize e4 : pI P3 1 2 0 = P4
  have a4 := (aI e4 1).trans a3
  have f4 := frI f3 (by simp) e4
  have c4_1 := c3_1.sm (sI e4 (by decide))
  have c4_0 := cell_I c3_0 e4
  refine go_blk rfl [(.aload_n 0, 1, 0, 0, 0, .inl 0), (.iconst 0, 1, 0, 0, 0, .inl 0), (.putfield 22, 3, 9, 3, 0, .inl 0)] 23 28 _ _ _ (by decide +kernel) ?_
  refine And.intro c4_0.1 (And.intro trivial ?_)
  show Go _ _ _ _ 0 0 28 [(0, rc 1)] [] (pI P4 1 3 0, Y) _
  generalize e5 : pI P4 1 3 0 = P5
  have a5 := (aI e5 1).trans a4
  have f5 := frI f4 (by simp) e5
  have c5_1 := c4_1.sm (sI e5 (by decide))
  have c5_0 := cell_I c4_0 e5
  refine go_blk rfl [(.aload_n 0, 1, 0, 0, 0, .inl 0), (.iconst 1, 1, 0, 0, 0, .inl 1), (.putfield 25, 3, 9, 4, 0, .inl 0)] 28 33 _ _ _ (by decide +kernel) ?_
  refine And.intro c5_0.1 (And.intro trivial ?_)
  show Go _ _ _ _ 0 0 33 [(0, rc 1)] [] (pI P5 1 4 1, Y) _
  generalize e6 : pI P5 1 4 1 = P6
  have a6 := (aI e6 1).trans a5
  have f6 := frI f5 (by simp) e6
  have c6_1 := c5_1.sm (sI e6 (by decide))
  have c6_0 := cell_I c5_0 e6
  refine go_blk rfl [(.aload_n 0, 1, 0, 0, 0, .inl 0), (.iconst 0, 1, 0, 0, 0, .inl 0), (.putfield 28, 3, 9, 5, 0, .inl 0)] 33 38 _ _ _ (by decide +kernel) ?_
  refine And.intro c6_0.1 (And.intro trivial ?_)
  show Go _ _ _ _ 0 0 38 [(0, rc 1)] [] (pI P6 1 5 0, Y) _
  generalize e7 : pI P6 1 5 0 = P7
  have a7 := (aI e7 1).trans a6
  have f7 := frI f6 (by simp) e7
  have c7_1 := c6_1.sm (sI e7 (by decide))
  have c7_0 := cell_I c6_0 e7
  refine go_blk rfl [(.aload_n 0, 1, 0, 0, 0, .inl 0), (.iconst 0, 1, 0, 0, 0, .inl 0), (.putfield 31, 3, 9, 6, 0, .inl 0)] 38 43 _ _ _ (by decide +kernel) ?_
  refine And.intro c7_0.1 (And.intro trivial ?_)
  show Go _ _ _ _ 0 0 43 [(0, rc 1)] [] (pI P7 1 6 0, Y) _
  generalize e8 : pI P7 1 6 0 = P8
  have a8 := (aI e8 1).trans a7
  have f8 := frI f7 (by simp) e8
  have c8_1 := c7_1.sm (sI e8 (by decide))
  have c8_0 := cell_I c7_0 e8
  refine go_return (by decide +kernel) rfl ⟨rfl, P8, rfl, ⟨c8_0, c8_1⟩, fun b hb => f8 b (by intro z; apply hb; simp at z ⊢; omega), ?_⟩
  exact a8
def PartyNew (P : jP) : Prop := (Cell P 3 6 0 (va_up (va_up (va_up (fun _ => none) 1 (some 4)) 2 (some 11)) 0 (some 1)) (upd (upd (upd (upd (fun _ => 0) 3 0) 4 0) 5 0) 6 0)) ∧ (HallNew P 4) ∧ (HallNew P 4) ∧ (Cell P 11 20 3 (fun _ => none) (fun _ => 0))
theorem PartyNew_sm {P P1 : jP} (h : PartyNew P) (s : ∀ a, 3 ≤ a → a < 12 → Same P P1 a) : PartyNew P1 := ⟨h.1.sm (s 3 (by omega) (by omega)), HallNew_sm h.2.1 (fun a h1 h2 => s a (by omega) (by omega)), HallNew_sm h.2.2.1 (fun a h1 h2 => s a (by omega) (by omega)), h.2.2.2.sm (s 11 (by omega) (by omega))⟩
theorem PartyNew_t {P : jP} (h : PartyNew P) : cT P 3 = 6 := h.1.1
theorem ret5_init {P Y : jP} (c0 : Cell P 3 6 0 (fun _ => none) (fun _ => 0)) (hu : cT P 4 = 0 ∧ cT P 5 = 0 ∧ cT P 6 = 0 ∧ cT P 7 = 0 ∧ cT P 8 = 0 ∧ cT P 9 = 0 ∧ cT P 10 = 0 ∧ cT P 11 = 0) (hp : cT P 1 ≠ 0) : RetQ M5_init 3 8 58 [rc 3, rc 1] (P, Y) (fun v μ1 => v = none ∧ ∃ P1 : jP, μ1 = (P1, Y) ∧ PartyNew P1 ∧ (∀ b, b ∉ ([3, 4, 5, 6, 7, 8, 9, 10, 11] : List Nat) → Same P P1 b) ∧ cA P1 3 = cA P 3) := by
  refine RetQ.of (by decide +kernel) (Nat.le_of_ble_eq_true rfl) ?_
  have f0 : ∀ b, b ∉ ([3] : List Nat) → Same P P b := fun b _ => Same.rf P b
  have a0 : cA P 3 = cA P 3 := rfl
  show Go _ _ _ _ 8 58 0 [(0, rc 3), (1, rc 1)] [] (P, Y) _
  refine go_blk rfl [(.aload_n 0, 1, 0, 0, 0, .inl 0)] 0 1 _ _ _ (by decide +kernel) ?_
  show Go _ _ _ _ 8 58 1 [(0, rc 3), (1, rc 1)] [rc 3] (P, Y) _
  refine go_obj (idx := 3) (by decide +kernel) (jin_1 (List.mem_of_getElem? (i := 70) rfl)) rfl (by decide) (Nat.le_of_ble_eq_true rfl) ?_
  show Go _ _ _ _ 8 58 4 [(0, rc 3), (1, rc 1)] [] (P, Y) _
  refine go_blk rfl [(.aload_n 0, 1, 0, 0, 0, .inl 0)] 4 5 _ _ _ (by decide +kernel) ?_
  show Go _ _ _ _ 8 58 5 [(0, rc 3), (1, rc 1)] [rc 3] (P, Y) _
  refine go_new (idx := 9) (ci := 4) (x := .inl 4) (kc' := 7) (ks' := 44) (by decide +kernel) (jin_1 (List.mem_of_getElem? (i := 71) rfl)) rfl (by decide) (jin_1 (List.mem_of_getElem? (i := 72) rfl)) (jin_1 (List.mem_of_getElem? (i := 4) rfl)) trivial ((f0 4 (by simp <;> omega)).1.trans hu.1) (by simp [jnr]) (by simp [jnr]) (by decide) (by decide) (fun q1 => ?_)
  show Go _ _ _ _ 7 44 8 [(0, rc 3), (1, rc 1)] [rc 4, rc 3] (pN P 4 5 0 q1, Y) _
  generalize e1 : pN P 4 5 0 q1 = P1
  have a1 := (aN e1 (b := 3) (by omega)).trans a0
  have f1 := frN f0 e1
  have c1_0 := c0.sm (sN e1 (by decide))
  have c1_1 := cell_N e1
  refine go_blk rfl [(.dup, 1, 0, 0, 0, .inl 0)] 8 9 _ _ _ (by decide +kernel) ?_
  show Go _ _ _ _ 7 44 9 [(0, rc 3), (1, rc 1)] [rc 4, rc 4, rc 3] (P1, Y) _
  refine go_callIQ (idx := 11) (z := 1) (M' := M4_init) (n := 0) (A := []) (x := .inl 4) (d' := 2) (mc' := 6) (ms' := 41) (kc' := 1) (ks' := 3) (by decide +kernel) ml_5_11 rfl wi4_init rfl (ret4_init c1_1 ⟨((f1 5 (by simp <;> omega)).1.trans hu.2.1), ((f1 6 (by simp <;> omega)).1.trans hu.2.2.1), ((f1 7 (by simp <;> omega)).1.trans hu.2.2.2.1), ((f1 8 (by simp <;> omega)).1.trans hu.2.2.2.2.1), ((f1 9 (by simp <;> omega)).1.trans hu.2.2.2.2.2.1), ((f1 10 (by simp <;> omega)).1.trans hu.2.2.2.2.2.2.1)⟩) (by decide) (by decide) (by decide) (Nat.le_of_ble_eq_true rfl) rfl (fun v2 μ2 h => by obtain ⟨rfl, P9, rfl, h1, h2, h3⟩ := h; intro adK; refine ⟨?_, ?_⟩ <;> simp [jlv, jcvc, jcvm, jcvi, (h2 1 (by simp <;> omega)).2.2.1, (h2 3 (by simp <;> omega)).2.2.1, h3]) (fun v2 μ2 h => ?_)
  obtain ⟨rfl, P2, rfl, h1, h2, h3⟩ := h
  have a2 := (h2 3 (by simp <;> omega)).2.2.1.trans a1
  show Go _ _ _ _ 1 3 12 [(0, rc 3), (1, rc 1)] [rc 4, rc 3] (P2, Y) _
  have f2 := frC f1 h2
  have c2_0 := c1_0.sm (h2 3 (by simp <;> omega))
  have g2_0 := h1
  refine go_putR (idx := 12) (a := 5) (b := 1) (z := 0) (w := some 4) (by decide +kernel) (by decide) rfl (by decide) (by decide) c2_0.1 rfl rfl rfl rfl ⟨rfl, by intro e; cases e⟩ (fun y hy => by cases hy; show cT P2 4 ≠ 0; rw [(HallNew_t g2_0)]; decide) ?_
  show Go _ _ _ _ 1 3 15 [(0, rc 3), (1, rc 1)] [] (pR P2 3 1 4, Y) _
  generalize e3 : pR P2 3 1 4 = P3
  have a3 := (aR e3 3).trans a2
  have f3 := frR f2 (by simp) e3
  have g3_0 := HallNew_sm g2_0 (fun a h1 h2 => sR e3 (by omega))
  have c3_0 := cell_R c2_0 e3
  refine go_blk rfl [(.aload_n 0, 1, 0, 0, 0, .inl 0), (.iconst 3, 1, 0, 0, 0, .inl 3)] 15 17 _ _ _ (by decide +kernel) ?_
  show Go _ _ _ _ 1 3 17 [(0, rc 3), (1, rc 1)] [vi 3, rc 3] (P3, Y) _
  refine go_newa20 (n := 3) (N' := 3) (x := .inl 11) (kc' := 0) (ks' := 0) (by decide +kernel) (by decide) (by decide) (by decide) trivial ((f3 11 (by simp <;> omega)).1.trans hu.2.2.2.2.2.2.2) (by simp [jnr]) (by simp [jnr]) (by decide) (by decide) (fun q2 => ?_)
  show Go _ _ _ _ 0 0 19 [(0, rc 3), (1, rc 1)] [rc 11, rc 3] (pN P3 11 20 3 q2, Y) _
  generalize e4 : pN P3 11 20 3 q2 = P4
  have a4 := (aN e4 (b := 3) (by omega)).trans a3
  have f4 := frN f3 e4
  have c4_0 := c3_0.sm (sN e4 (by decide))
  have g4_0 := HallNew_sm g3_0 (fun a h1 h2 => sN e4 (by omega))
  have c4_2 := cell_N e4
  refine go_putR (idx := 18) (a := 5) (b := 2) (z := 0) (w := some 11) (by decide +kernel) (by decide) rfl (by decide) (by decide) c4_0.1 rfl rfl rfl rfl ⟨rfl, by intro e; cases e⟩ (fun y hy => by cases hy; show cT P4 11 ≠ 0; rw [c4_2.1]; decide) ?_
  show Go _ _ _ _ 0 0 22 [(0, rc 3), (1, rc 1)] [] (pR P4 3 2 11, Y) _
  generalize e5 : pR P4 3 2 11 = P5
  have a5 := (aR e5 3).trans a4
  have f5 := frR f4 (by simp) e5
  have c5_2 := c4_2.sm (sR e5 (by decide))
  have g5_0 := HallNew_sm g4_0 (fun a h1 h2 => sR e5 (by omega))
  have c5_0 := cell_R c4_0 e5
  refine go_blk rfl [(.aload_n 0, 1, 0, 0, 0, .inl 0), (.iconst 0, 1, 0, 0, 0, .inl 0), (.putfield 22, 3, 5, 3, 0, .inl 0)] 22 27 _ _ _ (by decide +kernel) ?_
  refine And.intro c5_0.1 (And.intro trivial ?_)
  show Go _ _ _ _ 0 0 27 [(0, rc 3), (1, rc 1)] [] (pI P5 3 3 0, Y) _
  generalize e6 : pI P5 3 3 0 = P6
  have a6 := (aI e6 3).trans a5
  have f6 := frI f5 (by simp) e6
  have c6_2 := c5_2.sm (sI e6 (by decide))
  have g6_0 := HallNew_sm g5_0 (fun a h1 h2 => sI e6 (by omega))
  have c6_0 := cell_I c5_0 e6
  refine go_blk rfl [(.aload_n 0, 1, 0, 0, 0, .inl 0), (.iconst 0, 1, 0, 0, 0, .inl 0), (.putfield 26, 3, 5, 4, 0, .inl 0)] 27 32 _ _ _ (by decide +kernel) ?_
  refine And.intro c6_0.1 (And.intro trivial ?_)
  show Go _ _ _ _ 0 0 32 [(0, rc 3), (1, rc 1)] [] (pI P6 3 4 0, Y) _
  generalize e7 : pI P6 3 4 0 = P7
  have a7 := (aI e7 3).trans a6
  have f7 := frI f6 (by simp) e7
  have c7_2 := c6_2.sm (sI e7 (by decide))
  have g7_0 := HallNew_sm g6_0 (fun a h1 h2 => sI e7 (by omega))
  have c7_0 := cell_I c6_0 e7
  refine go_blk rfl [(.aload_n 0, 1, 0, 0, 0, .inl 0), (.iconst 0, 1, 0, 0, 0, .inl 0), (.putfield 29, 3, 5, 5, 0, .inl 0)] 32 37 _ _ _ (by decide +kernel) ?_
  refine And.intro c7_0.1 (And.intro trivial ?_)
  show Go _ _ _ _ 0 0 37 [(0, rc 3), (1, rc 1)] [] (pI P7 3 5 0, Y) _
  generalize e8 : pI P7 3 5 0 = P8
  have a8 := (aI e8 3).trans a7
  have f8 := frI f7 (by simp) e8
  have c8_2 := c7_2.sm (sI e8 (by decide))
  have g8_0 := HallNew_sm g7_0 (fun a h1 h2 => sI e8 (by omega))
  have c8_0 := cell_I c7_0 e8
  refine go_blk rfl [(.aload_n 0, 1, 0, 0, 0, .inl 0), (.iconst 0, 1, 0, 0, 0, .inl 0), (.putfield 32, 3, 5, 6, 0, .inl 0)] 37 42 _ _ _ (by decide +kernel) ?_
  refine And.intro c8_0.1 (And.intro trivial ?_)
  show Go _ _ _ _ 0 0 42 [(0, rc 3), (1, rc 1)] [] (pI P8 3 6 0, Y) _
  generalize e9 : pI P8 3 6 0 = P9
  have a9 := (aI e9 3).trans a8
  have f9 := frI f8 (by simp) e9
  have c9_2 := c8_2.sm (sI e9 (by decide))
  have g9_0 := HallNew_sm g8_0 (fun a h1 h2 => sI e9 (by omega))
  have c9_0 := cell_I c8_0 e9
  refine go_blk rfl [(.aload_n 0, 1, 0, 0, 0, .inl 0), (.aload_n 1, 1, 1, 0, 0, .inl 0)] 42 44 _ _ _ (by decide +kernel) ?_
  show Go _ _ _ _ 0 0 44 [(0, rc 3), (1, rc 1)] [rc 1, rc 3] (P9, Y) _
  refine go_putR (idx := 35) (a := 5) (b := 0) (z := 0) (w := some 1) (by decide +kernel) (by decide) rfl (by decide) (by decide) c9_0.1 rfl rfl rfl rfl ⟨rfl, by intro e; cases e⟩ (fun y hy => by cases hy; show cT P9 1 ≠ 0; rw [(f9 1 (by simp <;> omega)).1]; exact hp) ?_
  show Go _ _ _ _ 0 0 47 [(0, rc 3), (1, rc 1)] [] (pR P9 3 0 1, Y) _
  generalize e10 : pR P9 3 0 1 = P10
  have a10 := (aR e10 3).trans a9
  have f10 := frR f9 (by simp) e10
  have c10_2 := c9_2.sm (sR e10 (by decide))
  have g10_0 := HallNew_sm g9_0 (fun a h1 h2 => sR e10 (by omega))
  have c10_0 := cell_R c9_0 e10
  refine go_return (by decide +kernel) rfl ⟨rfl, P10, rfl, ⟨c10_0, g10_0, g10_0, c10_2⟩, fun b hb => f10 b (by intro z; apply hb; simp at z ⊢; omega), ?_⟩
  exact a10
def RulerNew (P : jP) : Prop := (Cell P 12 8 0 (va_up (va_up (va_up (fun _ => none) 1 (some 13)) 3 (some 14)) 0 (some 1)) (upd (upd (upd (upd (upd (upd (upd (upd (fun _ => 0) 2 0) 4 0) 5 0) 6 0) 7 0) 8 0) 9 0) 10 0)) ∧ (Cell P 13 20 400 (fun _ => none) (fun _ => 0)) ∧ (Cell P 14 20 64 (fun _ => none) (fun _ => 0))
theorem RulerNew_sm {P P1 : jP} (h : RulerNew P) (s : ∀ a, 12 ≤ a → a < 15 → Same P P1 a) : RulerNew P1 := ⟨h.1.sm (s 12 (by omega) (by omega)), h.2.1.sm (s 13 (by omega) (by omega)), h.2.2.sm (s 14 (by omega) (by omega))⟩
theorem RulerNew_t {P : jP} (h : RulerNew P) : cT P 12 = 8 := h.1.1
theorem ret7_init {P Y : jP} (c0 : Cell P 12 8 0 (fun _ => none) (fun _ => 0)) (hu : cT P 13 = 0 ∧ cT P 14 = 0) (hp : cT P 1 ≠ 0) : RetQ M7_init 2 2 464 [rc 12, rc 1] (P, Y) (fun v μ1 => v = none ∧ ∃ P1 : jP, μ1 = (P1, Y) ∧ RulerNew P1 ∧ (∀ b, b ∉ ([12, 13, 14] : List Nat) → Same P P1 b) ∧ cA P1 12 = cA P 12) := by
  refine RetQ.of (by decide +kernel) (Nat.le_of_ble_eq_true rfl) ?_
  have f0 : ∀ b, b ∉ ([12] : List Nat) → Same P P b := fun b _ => Same.rf P b
  have a0 : cA P 12 = cA P 12 := rfl
  show Go _ _ _ _ 2 464 0 [(0, rc 12), (1, rc 1)] [] (P, Y) _
  refine go_blk rfl [(.aload_n 0, 1, 0, 0, 0, .inl 0)] 0 1 _ _ _ (by decide +kernel) ?_
  show Go _ _ _ _ 2 464 1 [(0, rc 12), (1, rc 1)] [rc 12] (P, Y) _
  refine go_obj (idx := 3) (by decide +kernel) (jin_1 (List.mem_of_getElem? (i := 191) rfl)) rfl (by decide) (Nat.le_of_ble_eq_true rfl) ?_
  show Go _ _ _ _ 2 464 4 [(0, rc 12), (1, rc 1)] [] (P, Y) _
  refine go_blk rfl [(.aload_n 0, 1, 0, 0, 0, .inl 0), (.sipush 400, 3, 0, 0, 0, .inl 400)] 4 8 _ _ _ (by decide +kernel) ?_
  show Go _ _ _ _ 2 464 8 [(0, rc 12), (1, rc 1)] [vi 400, rc 12] (P, Y) _
  refine go_newa20 (n := 400) (N' := 400) (x := .inl 13) (kc' := 1) (ks' := 64) (by decide +kernel) (by decide) (by decide) (by decide) trivial ((f0 13 (by simp <;> omega)).1.trans hu.1) (by simp [jnr]) (by simp [jnr]) (by decide) (by decide) (fun q1 => ?_)
  show Go _ _ _ _ 1 64 10 [(0, rc 12), (1, rc 1)] [rc 13, rc 12] (pN P 13 20 400 q1, Y) _
  generalize e1 : pN P 13 20 400 q1 = P1
  have a1 := (aN e1 (b := 12) (by omega)).trans a0
  have f1 := frN f0 e1
  have c1_0 := c0.sm (sN e1 (by decide))
  have c1_1 := cell_N e1
  refine go_putR (idx := 9) (a := 7) (b := 1) (z := 0) (w := some 13) (by decide +kernel) (by decide) rfl (by decide) (by decide) c1_0.1 rfl rfl rfl rfl ⟨rfl, by intro e; cases e⟩ (fun y hy => by cases hy; show cT P1 13 ≠ 0; rw [c1_1.1]; decide) ?_
  show Go _ _ _ _ 1 64 13 [(0, rc 12), (1, rc 1)] [] (pR P1 12 1 13, Y) _
  generalize e2 : pR P1 12 1 13 = P2
  have a2 := (aR e2 12).trans a1
  have f2 := frR f1 (by simp) e2
  have c2_1 := c1_1.sm (sR e2 (by decide))
  have c2_0 := cell_R c1_0 e2
  refine go_blk rfl [(.aload_n 0, 1, 0, 0, 0, .inl 0), (.iconst 0, 1, 0, 0, 0, .inl 0), (.putfield 15, 3, 7, 2, 0, .inl 0)] 13 18 _ _ _ (by decide +kernel) ?_
  refine And.intro c2_0.1 (And.intro trivial ?_)
  show Go _ _ _ _ 1 64 18 [(0, rc 12), (1, rc 1)] [] (pI P2 12 2 0, Y) _
  generalize e3 : pI P2 12 2 0 = P3
  have a3 := (aI e3 12).trans a2
  have f3 := frI f2 (by simp) e3
  have c3_1 := c2_1.sm (sI e3 (by decide))
  have c3_0 := cell_I c2_0 e3
  refine go_blk rfl [(.aload_n 0, 1, 0, 0, 0, .inl 0), (.bipush 64, 2, 0, 0, 0, .inl 64)] 18 21 _ _ _ (by decide +kernel) ?_
  show Go _ _ _ _ 1 64 21 [(0, rc 12), (1, rc 1)] [vi 64, rc 12] (P3, Y) _
  refine go_newa20 (n := 64) (N' := 64) (x := .inl 14) (kc' := 0) (ks' := 0) (by decide +kernel) (by decide) (by decide) (by decide) trivial ((f3 14 (by simp <;> omega)).1.trans hu.2) (by simp [jnr]) (by simp [jnr]) (by decide) (by decide) (fun q2 => ?_)
  show Go _ _ _ _ 0 0 23 [(0, rc 12), (1, rc 1)] [rc 14, rc 12] (pN P3 14 20 64 q2, Y) _
  generalize e4 : pN P3 14 20 64 q2 = P4
  have a4 := (aN e4 (b := 12) (by omega)).trans a3
  have f4 := frN f3 e4
  have c4_0 := c3_0.sm (sN e4 (by decide))
  have c4_1 := c3_1.sm (sN e4 (by decide))
  have c4_2 := cell_N e4
  refine go_putR (idx := 19) (a := 7) (b := 3) (z := 0) (w := some 14) (by decide +kernel) (by decide) rfl (by decide) (by decide) c4_0.1 rfl rfl rfl rfl ⟨rfl, by intro e; cases e⟩ (fun y hy => by cases hy; show cT P4 14 ≠ 0; rw [c4_2.1]; decide) ?_
  show Go _ _ _ _ 0 0 26 [(0, rc 12), (1, rc 1)] [] (pR P4 12 3 14, Y) _
  generalize e5 : pR P4 12 3 14 = P5
  have a5 := (aR e5 12).trans a4
  have f5 := frR f4 (by simp) e5
  have c5_1 := c4_1.sm (sR e5 (by decide))
  have c5_2 := c4_2.sm (sR e5 (by decide))
  have c5_0 := cell_R c4_0 e5
  refine go_blk rfl [(.aload_n 0, 1, 0, 0, 0, .inl 0), (.iconst 0, 1, 0, 0, 0, .inl 0), (.putfield 22, 3, 7, 4, 0, .inl 0)] 26 31 _ _ _ (by decide +kernel) ?_
  refine And.intro c5_0.1 (And.intro trivial ?_)
  show Go _ _ _ _ 0 0 31 [(0, rc 12), (1, rc 1)] [] (pI P5 12 4 0, Y) _
  generalize e6 : pI P5 12 4 0 = P6
  have a6 := (aI e6 12).trans a5
  have f6 := frI f5 (by simp) e6
  have c6_1 := c5_1.sm (sI e6 (by decide))
  have c6_2 := c5_2.sm (sI e6 (by decide))
  have c6_0 := cell_I c5_0 e6
  refine go_blk rfl [(.aload_n 0, 1, 0, 0, 0, .inl 0), (.iconst 0, 1, 0, 0, 0, .inl 0), (.putfield 25, 3, 7, 5, 0, .inl 0)] 31 36 _ _ _ (by decide +kernel) ?_
  refine And.intro c6_0.1 (And.intro trivial ?_)
  show Go _ _ _ _ 0 0 36 [(0, rc 12), (1, rc 1)] [] (pI P6 12 5 0, Y) _
  generalize e7 : pI P6 12 5 0 = P7
  have a7 := (aI e7 12).trans a6
  have f7 := frI f6 (by simp) e7
  have c7_1 := c6_1.sm (sI e7 (by decide))
  have c7_2 := c6_2.sm (sI e7 (by decide))
  have c7_0 := cell_I c6_0 e7
  refine go_blk rfl [(.aload_n 0, 1, 0, 0, 0, .inl 0), (.iconst 0, 1, 0, 0, 0, .inl 0), (.putfield 28, 3, 7, 6, 0, .inl 0)] 36 41 _ _ _ (by decide +kernel) ?_
  refine And.intro c7_0.1 (And.intro trivial ?_)
  show Go _ _ _ _ 0 0 41 [(0, rc 12), (1, rc 1)] [] (pI P7 12 6 0, Y) _
  generalize e8 : pI P7 12 6 0 = P8
  have a8 := (aI e8 12).trans a7
  have f8 := frI f7 (by simp) e8
  have c8_1 := c7_1.sm (sI e8 (by decide))
  have c8_2 := c7_2.sm (sI e8 (by decide))
  have c8_0 := cell_I c7_0 e8
  refine go_blk rfl [(.aload_n 0, 1, 0, 0, 0, .inl 0), (.iconst 0, 1, 0, 0, 0, .inl 0), (.putfield 31, 3, 7, 7, 0, .inl 0)] 41 46 _ _ _ (by decide +kernel) ?_
  refine And.intro c8_0.1 (And.intro trivial ?_)
  show Go _ _ _ _ 0 0 46 [(0, rc 12), (1, rc 1)] [] (pI P8 12 7 0, Y) _
  generalize e9 : pI P8 12 7 0 = P9
  have a9 := (aI e9 12).trans a8
  have f9 := frI f8 (by simp) e9
  have c9_1 := c8_1.sm (sI e9 (by decide))
  have c9_2 := c8_2.sm (sI e9 (by decide))
  have c9_0 := cell_I c8_0 e9
  refine go_blk rfl [(.aload_n 0, 1, 0, 0, 0, .inl 0), (.iconst 0, 1, 0, 0, 0, .inl 0), (.putfield 34, 3, 7, 8, 0, .inl 0)] 46 51 _ _ _ (by decide +kernel) ?_
  refine And.intro c9_0.1 (And.intro trivial ?_)
  show Go _ _ _ _ 0 0 51 [(0, rc 12), (1, rc 1)] [] (pI P9 12 8 0, Y) _
  generalize e10 : pI P9 12 8 0 = P10
  have a10 := (aI e10 12).trans a9
  have f10 := frI f9 (by simp) e10
  have c10_1 := c9_1.sm (sI e10 (by decide))
  have c10_2 := c9_2.sm (sI e10 (by decide))
  have c10_0 := cell_I c9_0 e10
  refine go_blk rfl [(.aload_n 0, 1, 0, 0, 0, .inl 0), (.iconst 0, 1, 0, 0, 0, .inl 0), (.putfield 37, 3, 7, 9, 2, .inl 0)] 51 56 _ _ _ (by decide +kernel) ?_
  refine And.intro c10_0.1 (And.intro ⟨rfl, Or.inl rfl⟩ ?_)
  show Go _ _ _ _ 0 0 56 [(0, rc 12), (1, rc 1)] [] (pI P10 12 9 0, Y) _
  generalize e11 : pI P10 12 9 0 = P11
  have a11 := (aI e11 12).trans a10
  have f11 := frI f10 (by simp) e11
  have c11_1 := c10_1.sm (sI e11 (by decide))
  have c11_2 := c10_2.sm (sI e11 (by decide))
  have c11_0 := cell_I c10_0 e11
  refine go_blk rfl [(.aload_n 0, 1, 0, 0, 0, .inl 0), (.iconst 0, 1, 0, 0, 0, .inl 0), (.putfield 41, 3, 7, 10, 2, .inl 0)] 56 61 _ _ _ (by decide +kernel) ?_
  refine And.intro c11_0.1 (And.intro ⟨rfl, Or.inl rfl⟩ ?_)
  show Go _ _ _ _ 0 0 61 [(0, rc 12), (1, rc 1)] [] (pI P11 12 10 0, Y) _
  generalize e12 : pI P11 12 10 0 = P12
  have a12 := (aI e12 12).trans a11
  have f12 := frI f11 (by simp) e12
  have c12_1 := c11_1.sm (sI e12 (by decide))
  have c12_2 := c11_2.sm (sI e12 (by decide))
  have c12_0 := cell_I c11_0 e12
  refine go_blk rfl [(.aload_n 0, 1, 0, 0, 0, .inl 0), (.aload_n 1, 1, 1, 0, 0, .inl 0)] 61 63 _ _ _ (by decide +kernel) ?_
  show Go _ _ _ _ 0 0 63 [(0, rc 12), (1, rc 1)] [rc 1, rc 12] (P12, Y) _
  refine go_putR (idx := 44) (a := 7) (b := 0) (z := 0) (w := some 1) (by decide +kernel) (by decide) rfl (by decide) (by decide) c12_0.1 rfl rfl rfl rfl ⟨rfl, by intro e; cases e⟩ (fun y hy => by cases hy; show cT P12 1 ≠ 0; rw [(f12 1 (by simp <;> omega)).1]; exact hp) ?_
  show Go _ _ _ _ 0 0 66 [(0, rc 12), (1, rc 1)] [] (pR P12 12 0 1, Y) _
  generalize e13 : pR P12 12 0 1 = P13
  have a13 := (aR e13 12).trans a12
  have f13 := frR f12 (by simp) e13
  have c13_1 := c12_1.sm (sR e13 (by decide))
  have c13_2 := c12_2.sm (sR e13 (by decide))
  have c13_0 := cell_R c12_0 e13
  refine go_return (by decide +kernel) rfl ⟨rfl, P13, rfl, ⟨c13_0, c13_1, c13_2⟩, fun b hb => f13 b (by intro z; apply hb; simp at z ⊢; omega), ?_⟩
  exact a13
def GameNew (P : jP) : Prop := (Cell P 17 4 0 (va_up (va_up (fun _ => none) 0 (some 18)) 1 (some 19)) (upd (fun _ => 0) 2 (-1))) ∧ (Cell P 18 20 42 (fun _ => none) (fun _ => 0)) ∧ (Cell P 19 20 7 (fun _ => none) (fun _ => 0))
theorem GameNew_sm {P P1 : jP} (h : GameNew P) (s : ∀ a, 17 ≤ a → a < 20 → Same P P1 a) : GameNew P1 := ⟨h.1.sm (s 17 (by omega) (by omega)), h.2.1.sm (s 18 (by omega) (by omega)), h.2.2.sm (s 19 (by omega) (by omega))⟩
theorem GameNew_t {P : jP} (h : GameNew P) : cT P 17 = 4 := h.1.1
theorem ret3_init {P Y : jP} (c0 : Cell P 17 4 0 (fun _ => none) (fun _ => 0)) (hu : cT P 18 = 0 ∧ cT P 19 = 0) : RetQ M3_init 2 2 49 [rc 17] (P, Y) (fun v μ1 => v = none ∧ ∃ P1 : jP, μ1 = (P1, Y) ∧ GameNew P1 ∧ (∀ b, b ∉ ([17, 18, 19] : List Nat) → Same P P1 b) ∧ cA P1 17 = cA P 17) := by
  refine RetQ.of (by decide +kernel) (Nat.le_of_ble_eq_true rfl) ?_
  have f0 : ∀ b, b ∉ ([17] : List Nat) → Same P P b := fun b _ => Same.rf P b
  have a0 : cA P 17 = cA P 17 := rfl
  show Go _ _ _ _ 2 49 0 [(0, rc 17)] [] (P, Y) _
  refine go_blk rfl [(.aload_n 0, 1, 0, 0, 0, .inl 0)] 0 1 _ _ _ (by decide +kernel) ?_
  show Go _ _ _ _ 2 49 1 [(0, rc 17)] [rc 17] (P, Y) _
  refine go_obj (idx := 3) (by decide +kernel) (jin_2 (List.mem_of_getElem? (i := 48) rfl)) rfl (by decide) (Nat.le_of_ble_eq_true rfl) ?_
  show Go _ _ _ _ 2 49 4 [(0, rc 17)] [] (P, Y) _
  refine go_blk rfl [(.aload_n 0, 1, 0, 0, 0, .inl 0), (.bipush 42, 2, 0, 0, 0, .inl 42)] 4 7 _ _ _ (by decide +kernel) ?_
  show Go _ _ _ _ 2 49 7 [(0, rc 17)] [vi 42, rc 17] (P, Y) _
  refine go_newa20 (n := 42) (N' := 42) (x := .inl 18) (kc' := 1) (ks' := 7) (by decide +kernel) (by decide) (by decide) (by decide) trivial ((f0 18 (by simp <;> omega)).1.trans hu.1) (by simp [jnr]) (by simp [jnr]) (by decide) (by decide) (fun q1 => ?_)
  show Go _ _ _ _ 1 7 9 [(0, rc 17)] [rc 18, rc 17] (pN P 18 20 42 q1, Y) _
  generalize e1 : pN P 18 20 42 q1 = P1
  have a1 := (aN e1 (b := 17) (by omega)).trans a0
  have f1 := frN f0 e1
  have c1_0 := c0.sm (sN e1 (by decide))
  have c1_1 := cell_N e1
  refine go_putR (idx := 11) (a := 3) (b := 0) (z := 0) (w := some 18) (by decide +kernel) (by decide) rfl (by decide) (by decide) c1_0.1 rfl rfl rfl rfl ⟨rfl, by intro e; cases e⟩ (fun y hy => by cases hy; show cT P1 18 ≠ 0; rw [c1_1.1]; decide) ?_
  show Go _ _ _ _ 1 7 12 [(0, rc 17)] [] (pR P1 17 0 18, Y) _
  generalize e2 : pR P1 17 0 18 = P2
  have a2 := (aR e2 17).trans a1
  have f2 := frR f1 (by simp) e2
  have c2_1 := c1_1.sm (sR e2 (by decide))
  have c2_0 := cell_R c1_0 e2
  refine go_blk rfl [(.aload_n 0, 1, 0, 0, 0, .inl 0), (.bipush 7, 2, 0, 0, 0, .inl 7)] 12 15 _ _ _ (by decide +kernel) ?_
  show Go _ _ _ _ 1 7 15 [(0, rc 17)] [vi 7, rc 17] (P2, Y) _
  refine go_newa20 (n := 7) (N' := 7) (x := .inl 19) (kc' := 0) (ks' := 0) (by decide +kernel) (by decide) (by decide) (by decide) trivial ((f2 19 (by simp <;> omega)).1.trans hu.2) (by simp [jnr]) (by simp [jnr]) (by decide) (by decide) (fun q2 => ?_)
  show Go _ _ _ _ 0 0 17 [(0, rc 17)] [rc 19, rc 17] (pN P2 19 20 7 q2, Y) _
  generalize e3 : pN P2 19 20 7 q2 = P3
  have a3 := (aN e3 (b := 17) (by omega)).trans a2
  have f3 := frN f2 e3
  have c3_0 := c2_0.sm (sN e3 (by decide))
  have c3_1 := c2_1.sm (sN e3 (by decide))
  have c3_2 := cell_N e3
  refine go_putR (idx := 15) (a := 3) (b := 1) (z := 0) (w := some 19) (by decide +kernel) (by decide) rfl (by decide) (by decide) c3_0.1 rfl rfl rfl rfl ⟨rfl, by intro e; cases e⟩ (fun y hy => by cases hy; show cT P3 19 ≠ 0; rw [c3_2.1]; decide) ?_
  show Go _ _ _ _ 0 0 20 [(0, rc 17)] [] (pR P3 17 1 19, Y) _
  generalize e4 : pR P3 17 1 19 = P4
  have a4 := (aR e4 17).trans a3
  have f4 := frR f3 (by simp) e4
  have c4_1 := c3_1.sm (sR e4 (by decide))
  have c4_2 := c3_2.sm (sR e4 (by decide))
  have c4_0 := cell_R c3_0 e4
  refine go_blk rfl [(.aload_n 0, 1, 0, 0, 0, .inl 0), (.iconst (-1), 1, 0, 0, 0, .inl (-1)), (.putfield 18, 3, 3, 2, 0, .inl 0)] 20 25 _ _ _ (by decide +kernel) ?_
  refine And.intro c4_0.1 (And.intro trivial ?_)
  show Go _ _ _ _ 0 0 25 [(0, rc 17)] [] (pI P4 17 2 (-1), Y) _
  generalize e5 : pI P4 17 2 (-1) = P5
  have a5 := (aI e5 17).trans a4
  have f5 := frI f4 (by simp) e5
  have c5_1 := c4_1.sm (sI e5 (by decide))
  have c5_2 := c4_2.sm (sI e5 (by decide))
  have c5_0 := cell_I c4_0 e5
  refine go_return (by decide +kernel) rfl ⟨rfl, P5, rfl, ⟨c5_0, c5_1, c5_2⟩, fun b hb => f5 b (by intro z; apply hb; simp at z ⊢; omega), ?_⟩
  exact a5
def EvidNew (P : jP) : Prop := (Cell P 70 2 0 (va_up (va_up (va_up (va_up (fun _ => none) 1 (some 71)) 2 (some 78)) 3 (some 79)) 0 (some 17)) (upd (fun _ => 0) 4 0)) ∧ (HallNew P 71) ∧ (HallNew P 71) ∧ (Cell P 78 20 21 (fun _ => none) (fun _ => 0)) ∧ (Cell P 79 20 7 (fun _ => none) (fun _ => 0))
theorem EvidNew_sm {P P1 : jP} (h : EvidNew P) (s : ∀ a, 70 ≤ a → a < 80 → Same P P1 a) : EvidNew P1 := ⟨h.1.sm (s 70 (by omega) (by omega)), HallNew_sm h.2.1 (fun a h1 h2 => s a (by omega) (by omega)), HallNew_sm h.2.2.1 (fun a h1 h2 => s a (by omega) (by omega)), h.2.2.2.1.sm (s 78 (by omega) (by omega)), h.2.2.2.2.sm (s 79 (by omega) (by omega))⟩
theorem EvidNew_t {P : jP} (h : EvidNew P) : cT P 70 = 2 := h.1.1
theorem ret1_init {P Y : jP} (c0 : Cell P 70 2 0 (fun _ => none) (fun _ => 0)) (hu : cT P 71 = 0 ∧ cT P 72 = 0 ∧ cT P 73 = 0 ∧ cT P 74 = 0 ∧ cT P 75 = 0 ∧ cT P 76 = 0 ∧ cT P 77 = 0 ∧ cT P 78 = 0 ∧ cT P 79 = 0) (hp : cT P 17 ≠ 0) : RetQ M1_init 3 9 83 [rc 70, rc 17] (P, Y) (fun v μ1 => v = none ∧ ∃ P1 : jP, μ1 = (P1, Y) ∧ EvidNew P1 ∧ (∀ b, b ∉ ([70, 71, 72, 73, 74, 75, 76, 77, 78, 79] : List Nat) → Same P P1 b) ∧ cA P1 70 = cA P 70) := by
  refine RetQ.of (by decide +kernel) (Nat.le_of_ble_eq_true rfl) ?_
  have f0 : ∀ b, b ∉ ([70] : List Nat) → Same P P b := fun b _ => Same.rf P b
  have a0 : cA P 70 = cA P 70 := rfl
  show Go _ _ _ _ 9 83 0 [(0, rc 70), (1, rc 17)] [] (P, Y) _
  refine go_blk rfl [(.aload_n 0, 1, 0, 0, 0, .inl 0)] 0 1 _ _ _ (by decide +kernel) ?_
  show Go _ _ _ _ 9 83 1 [(0, rc 70), (1, rc 17)] [rc 70] (P, Y) _
  refine go_obj (idx := 3) (by decide +kernel) (jin_2 (List.mem_of_getElem? (i := 106) rfl)) rfl (by decide) (Nat.le_of_ble_eq_true rfl) ?_
  show Go _ _ _ _ 9 83 4 [(0, rc 70), (1, rc 17)] [] (P, Y) _
  refine go_blk rfl [(.aload_n 0, 1, 0, 0, 0, .inl 0)] 4 5 _ _ _ (by decide +kernel) ?_
  show Go _ _ _ _ 9 83 5 [(0, rc 70), (1, rc 17)] [rc 70] (P, Y) _
  refine go_new (idx := 9) (ci := 4) (x := .inl 71) (kc' := 8) (ks' := 69) (by decide +kernel) (jin_2 (List.mem_of_getElem? (i := 107) rfl)) rfl (by decide) (jin_1 (List.mem_of_getElem? (i := 72) rfl)) (jin_1 (List.mem_of_getElem? (i := 4) rfl)) trivial ((f0 71 (by simp <;> omega)).1.trans hu.1) (by simp [jnr]) (by simp [jnr]) (by decide) (by decide) (fun q1 => ?_)
  show Go _ _ _ _ 8 69 8 [(0, rc 70), (1, rc 17)] [rc 71, rc 70] (pN P 71 5 0 q1, Y) _
  generalize e1 : pN P 71 5 0 q1 = P1
  have a1 := (aN e1 (b := 70) (by omega)).trans a0
  have f1 := frN f0 e1
  have c1_0 := c0.sm (sN e1 (by decide))
  have c1_1 := cell_N e1
  refine go_blk rfl [(.dup, 1, 0, 0, 0, .inl 0)] 8 9 _ _ _ (by decide +kernel) ?_
  show Go _ _ _ _ 8 69 9 [(0, rc 70), (1, rc 17)] [rc 71, rc 71, rc 70] (P1, Y) _
  refine go_callIQ (idx := 11) (z := 1) (M' := M4_init) (n := 0) (A := []) (x := .inl 71) (d' := 2) (mc' := 6) (ms' := 41) (kc' := 2) (ks' := 28) (by decide +kernel) ml_1_11 rfl wi4_init rfl (ret4_init c1_1 ⟨((f1 72 (by simp <;> omega)).1.trans hu.2.1), ((f1 73 (by simp <;> omega)).1.trans hu.2.2.1), ((f1 74 (by simp <;> omega)).1.trans hu.2.2.2.1), ((f1 75 (by simp <;> omega)).1.trans hu.2.2.2.2.1), ((f1 76 (by simp <;> omega)).1.trans hu.2.2.2.2.2.1), ((f1 77 (by simp <;> omega)).1.trans hu.2.2.2.2.2.2.1)⟩) (by decide) (by decide) (by decide) (Nat.le_of_ble_eq_true rfl) rfl (fun v2 μ2 h => by obtain ⟨rfl, P9, rfl, h1, h2, h3⟩ := h; intro adK; refine ⟨?_, ?_⟩ <;> simp [jlv, jcvc, jcvm, jcvi, (h2 17 (by simp <;> omega)).2.2.1, (h2 70 (by simp <;> omega)).2.2.1, h3]) (fun v2 μ2 h => ?_)
  obtain ⟨rfl, P2, rfl, h1, h2, h3⟩ := h
  have a2 := (h2 70 (by simp <;> omega)).2.2.1.trans a1
  show Go _ _ _ _ 2 28 12 [(0, rc 70), (1, rc 17)] [rc 71, rc 70] (P2, Y) _
  have f2 := frC f1 h2
  have c2_0 := c1_0.sm (h2 70 (by simp <;> omega))
  have g2_0 := h1
  refine go_putR (idx := 12) (a := 1) (b := 1) (z := 0) (w := some 71) (by decide +kernel) (by decide) rfl (by decide) (by decide) c2_0.1 rfl rfl rfl rfl ⟨rfl, by intro e; cases e⟩ (fun y hy => by cases hy; show cT P2 71 ≠ 0; rw [(HallNew_t g2_0)]; decide) ?_
  show Go _ _ _ _ 2 28 15 [(0, rc 70), (1, rc 17)] [] (pR P2 70 1 71, Y) _
  generalize e3 : pR P2 70 1 71 = P3
  have a3 := (aR e3 70).trans a2
  have f3 := frR f2 (by simp) e3
  have g3_0 := HallNew_sm g2_0 (fun a h1 h2 => sR e3 (by omega))
  have c3_0 := cell_R c2_0 e3
  refine go_blk rfl [(.aload_n 0, 1, 0, 0, 0, .inl 0), (.bipush 21, 2, 0, 0, 0, .inl 21)] 15 18 _ _ _ (by decide +kernel) ?_
  show Go _ _ _ _ 2 28 18 [(0, rc 70), (1, rc 17)] [vi 21, rc 70] (P3, Y) _
  refine go_newa20 (n := 21) (N' := 21) (x := .inl 78) (kc' := 1) (ks' := 7) (by decide +kernel) (by decide) (by decide) (by decide) trivial ((f3 78 (by simp <;> omega)).1.trans hu.2.2.2.2.2.2.2.1) (by simp [jnr]) (by simp [jnr]) (by decide) (by decide) (fun q2 => ?_)
  show Go _ _ _ _ 1 7 20 [(0, rc 70), (1, rc 17)] [rc 78, rc 70] (pN P3 78 20 21 q2, Y) _
  generalize e4 : pN P3 78 20 21 q2 = P4
  have a4 := (aN e4 (b := 70) (by omega)).trans a3
  have f4 := frN f3 e4
  have c4_0 := c3_0.sm (sN e4 (by decide))
  have g4_0 := HallNew_sm g3_0 (fun a h1 h2 => sN e4 (by omega))
  have c4_2 := cell_N e4
  refine go_putR (idx := 18) (a := 1) (b := 2) (z := 0) (w := some 78) (by decide +kernel) (by decide) rfl (by decide) (by decide) c4_0.1 rfl rfl rfl rfl ⟨rfl, by intro e; cases e⟩ (fun y hy => by cases hy; show cT P4 78 ≠ 0; rw [c4_2.1]; decide) ?_
  show Go _ _ _ _ 1 7 23 [(0, rc 70), (1, rc 17)] [] (pR P4 70 2 78, Y) _
  generalize e5 : pR P4 70 2 78 = P5
  have a5 := (aR e5 70).trans a4
  have f5 := frR f4 (by simp) e5
  have c5_2 := c4_2.sm (sR e5 (by decide))
  have g5_0 := HallNew_sm g4_0 (fun a h1 h2 => sR e5 (by omega))
  have c5_0 := cell_R c4_0 e5
  refine go_blk rfl [(.aload_n 0, 1, 0, 0, 0, .inl 0), (.bipush 7, 2, 0, 0, 0, .inl 7)] 23 26 _ _ _ (by decide +kernel) ?_
  show Go _ _ _ _ 1 7 26 [(0, rc 70), (1, rc 17)] [vi 7, rc 70] (P5, Y) _
  refine go_newa20 (n := 7) (N' := 7) (x := .inl 79) (kc' := 0) (ks' := 0) (by decide +kernel) (by decide) (by decide) (by decide) trivial ((f5 79 (by simp <;> omega)).1.trans hu.2.2.2.2.2.2.2.2) (by simp [jnr]) (by simp [jnr]) (by decide) (by decide) (fun q3 => ?_)
  show Go _ _ _ _ 0 0 28 [(0, rc 70), (1, rc 17)] [rc 79, rc 70] (pN P5 79 20 7 q3, Y) _
  generalize e6 : pN P5 79 20 7 q3 = P6
  have a6 := (aN e6 (b := 70) (by omega)).trans a5
  have f6 := frN f5 e6
  have c6_0 := c5_0.sm (sN e6 (by decide))
  have c6_2 := c5_2.sm (sN e6 (by decide))
  have g6_0 := HallNew_sm g5_0 (fun a h1 h2 => sN e6 (by omega))
  have c6_3 := cell_N e6
  refine go_putR (idx := 22) (a := 1) (b := 3) (z := 0) (w := some 79) (by decide +kernel) (by decide) rfl (by decide) (by decide) c6_0.1 rfl rfl rfl rfl ⟨rfl, by intro e; cases e⟩ (fun y hy => by cases hy; show cT P6 79 ≠ 0; rw [c6_3.1]; decide) ?_
  show Go _ _ _ _ 0 0 31 [(0, rc 70), (1, rc 17)] [] (pR P6 70 3 79, Y) _
  generalize e7 : pR P6 70 3 79 = P7
  have a7 := (aR e7 70).trans a6
  have f7 := frR f6 (by simp) e7
  have c7_2 := c6_2.sm (sR e7 (by decide))
  have c7_3 := c6_3.sm (sR e7 (by decide))
  have g7_0 := HallNew_sm g6_0 (fun a h1 h2 => sR e7 (by omega))
  have c7_0 := cell_R c6_0 e7
  refine go_blk rfl [(.aload_n 0, 1, 0, 0, 0, .inl 0), (.iconst 0, 1, 0, 0, 0, .inl 0), (.putfield 25, 3, 1, 4, 0, .inl 0)] 31 36 _ _ _ (by decide +kernel) ?_
  refine And.intro c7_0.1 (And.intro trivial ?_)
  show Go _ _ _ _ 0 0 36 [(0, rc 70), (1, rc 17)] [] (pI P7 70 4 0, Y) _
  generalize e8 : pI P7 70 4 0 = P8
  have a8 := (aI e8 70).trans a7
  have f8 := frI f7 (by simp) e8
  have c8_2 := c7_2.sm (sI e8 (by decide))
  have c8_3 := c7_3.sm (sI e8 (by decide))
  have g8_0 := HallNew_sm g7_0 (fun a h1 h2 => sI e8 (by omega))
  have c8_0 := cell_I c7_0 e8
  refine go_blk rfl [(.aload_n 0, 1, 0, 0, 0, .inl 0), (.aload_n 1, 1, 1, 0, 0, .inl 0)] 36 38 _ _ _ (by decide +kernel) ?_
  show Go _ _ _ _ 0 0 38 [(0, rc 70), (1, rc 17)] [rc 17, rc 70] (P8, Y) _
  refine go_putR (idx := 29) (a := 1) (b := 0) (z := 0) (w := some 17) (by decide +kernel) (by decide) rfl (by decide) (by decide) c8_0.1 rfl rfl rfl rfl ⟨rfl, by intro e; cases e⟩ (fun y hy => by cases hy; show cT P8 17 ≠ 0; rw [(f8 17 (by simp <;> omega)).1]; exact hp) ?_
  show Go _ _ _ _ 0 0 41 [(0, rc 70), (1, rc 17)] [] (pR P8 70 0 17, Y) _
  generalize e9 : pR P8 70 0 17 = P9
  have a9 := (aR e9 70).trans a8
  have f9 := frR f8 (by simp) e9
  have c9_2 := c8_2.sm (sR e9 (by decide))
  have c9_3 := c8_3.sm (sR e9 (by decide))
  have g9_0 := HallNew_sm g8_0 (fun a h1 h2 => sR e9 (by omega))
  have c9_0 := cell_R c8_0 e9
  refine go_return (by decide +kernel) rfl ⟨rfl, P9, rfl, ⟨c9_0, g9_0, g9_0, c9_2, c9_3⟩, fun b hb => f9 b (by intro z; apply hb; simp at z ⊢; omega), ?_⟩
  exact a9
def ForeNew (P : jP) : Prop := (Cell P 20 3 0 (va_up (va_up (va_up (va_up (va_up (va_up (va_up (fun _ => none) 1 (some 21)) 2 (some 28)) 3 (some 65)) 4 (some 66)) 6 (some 67)) 7 (some 68)) 0 (some 17)) (upd (upd (upd (fun _ => 0) 5 0) 8 (-1)) 9 0)) ∧ (HallNew P 21) ∧ (HallNew P 21) ∧ (Cell P 28 24 5 (va_up (va_up (va_up (va_up (va_up (fun _ => none) 0 (some 30)) 1 (some 37)) 2 (some 44)) 3 (some 51)) 4 (some 58)) (fun _ => 0)) ∧ (Cell P 65 20 4 (fun _ => none) (fun _ => 0)) ∧ (Cell P 66 20 4 (fun _ => none) (fun _ => 0)) ∧ (Cell P 67 20 36 (fun _ => none) (fun _ => 0)) ∧ (Cell P 68 20 36 (fun _ => none) (fun _ => 0)) ∧ (HallNew P 30) ∧ (HallNew P 30) ∧ (HallNew P 37) ∧ (HallNew P 37) ∧ (HallNew P 44) ∧ (HallNew P 44) ∧ (HallNew P 51) ∧ (HallNew P 51) ∧ (HallNew P 58) ∧ (HallNew P 58)
theorem ForeNew_sm {P P1 : jP} (h : ForeNew P) (s : ∀ a, 20 ≤ a → a < 69 → Same P P1 a) : ForeNew P1 := ⟨h.1.sm (s 20 (by omega) (by omega)), HallNew_sm h.2.1 (fun a h1 h2 => s a (by omega) (by omega)), HallNew_sm h.2.2.1 (fun a h1 h2 => s a (by omega) (by omega)), h.2.2.2.1.sm (s 28 (by omega) (by omega)), h.2.2.2.2.1.sm (s 65 (by omega) (by omega)), h.2.2.2.2.2.1.sm (s 66 (by omega) (by omega)), h.2.2.2.2.2.2.1.sm (s 67 (by omega) (by omega)), h.2.2.2.2.2.2.2.1.sm (s 68 (by omega) (by omega)), HallNew_sm h.2.2.2.2.2.2.2.2.1 (fun a h1 h2 => s a (by omega) (by omega)), HallNew_sm h.2.2.2.2.2.2.2.2.2.1 (fun a h1 h2 => s a (by omega) (by omega)), HallNew_sm h.2.2.2.2.2.2.2.2.2.2.1 (fun a h1 h2 => s a (by omega) (by omega)), HallNew_sm h.2.2.2.2.2.2.2.2.2.2.2.1 (fun a h1 h2 => s a (by omega) (by omega)), HallNew_sm h.2.2.2.2.2.2.2.2.2.2.2.2.1 (fun a h1 h2 => s a (by omega) (by omega)), HallNew_sm h.2.2.2.2.2.2.2.2.2.2.2.2.2.1 (fun a h1 h2 => s a (by omega) (by omega)), HallNew_sm h.2.2.2.2.2.2.2.2.2.2.2.2.2.2.1 (fun a h1 h2 => s a (by omega) (by omega)), HallNew_sm h.2.2.2.2.2.2.2.2.2.2.2.2.2.2.2.1 (fun a h1 h2 => s a (by omega) (by omega)), HallNew_sm h.2.2.2.2.2.2.2.2.2.2.2.2.2.2.2.2.1 (fun a h1 h2 => s a (by omega) (by omega)), HallNew_sm h.2.2.2.2.2.2.2.2.2.2.2.2.2.2.2.2.2 (fun a h1 h2 => s a (by omega) (by omega))⟩
theorem ForeNew_t {P : jP} (h : ForeNew P) : cT P 20 = 3 := h.1.1
theorem ret2_init {P Y : jP} (c0 : Cell P 20 3 0 (fun _ => none) (fun _ => 0)) (hu : cT P 21 = 0 ∧ cT P 22 = 0 ∧ cT P 23 = 0 ∧ cT P 24 = 0 ∧ cT P 25 = 0 ∧ cT P 26 = 0 ∧ cT P 27 = 0 ∧ cT P 28 = 0 ∧ cT P 30 = 0 ∧ cT P 31 = 0 ∧ cT P 32 = 0 ∧ cT P 33 = 0 ∧ cT P 34 = 0 ∧ cT P 35 = 0 ∧ cT P 36 = 0 ∧ cT P 37 = 0 ∧ cT P 38 = 0 ∧ cT P 39 = 0 ∧ cT P 40 = 0 ∧ cT P 41 = 0 ∧ cT P 42 = 0 ∧ cT P 43 = 0 ∧ cT P 44 = 0 ∧ cT P 45 = 0 ∧ cT P 46 = 0 ∧ cT P 47 = 0 ∧ cT P 48 = 0 ∧ cT P 49 = 0 ∧ cT P 50 = 0 ∧ cT P 51 = 0 ∧ cT P 52 = 0 ∧ cT P 53 = 0 ∧ cT P 54 = 0 ∧ cT P 55 = 0 ∧ cT P 56 = 0 ∧ cT P 57 = 0 ∧ cT P 58 = 0 ∧ cT P 59 = 0 ∧ cT P 60 = 0 ∧ cT P 61 = 0 ∧ cT P 62 = 0 ∧ cT P 63 = 0 ∧ cT P 64 = 0 ∧ cT P 65 = 0 ∧ cT P 66 = 0 ∧ cT P 67 = 0 ∧ cT P 68 = 0) (hp : cT P 17 ≠ 0) : RetQ M2_init 3 47 415 [rc 20, rc 17] (P, Y) (fun v μ1 => v = none ∧ ∃ P1 : jP, μ1 = (P1, Y) ∧ ForeNew P1 ∧ (∀ b, b ∉ ([20, 21, 22, 23, 24, 25, 26, 27, 28, 30, 31, 32, 33, 34, 35, 36, 37, 38, 39, 40, 41, 42, 43, 44, 45, 46, 47, 48, 49, 50, 51, 52, 53, 54, 55, 56, 57, 58, 59, 60, 61, 62, 63, 64, 65, 66, 67, 68] : List Nat) → Same P P1 b) ∧ cA P1 20 = cA P 20) := by
  refine RetQ.of (by decide +kernel) (Nat.le_of_ble_eq_true rfl) ?_
  have f0 : ∀ b, b ∉ ([20] : List Nat) → Same P P b := fun b _ => Same.rf P b
  have a0 : cA P 20 = cA P 20 := rfl
  show Go _ _ _ _ 47 415 0 [(0, rc 20), (1, rc 17)] [] (P, Y) _
  refine go_blk rfl [(.aload_n 0, 1, 0, 0, 0, .inl 0)] 0 1 _ _ _ (by decide +kernel) ?_
  show Go _ _ _ _ 47 415 1 [(0, rc 20), (1, rc 17)] [rc 20] (P, Y) _
  refine go_obj (idx := 3) (by decide +kernel) (jin_2 (List.mem_of_getElem? (i := 64) rfl)) rfl (by decide) (Nat.le_of_ble_eq_true rfl) ?_
  show Go _ _ _ _ 47 415 4 [(0, rc 20), (1, rc 17)] [] (P, Y) _
  refine go_blk rfl [(.aload_n 0, 1, 0, 0, 0, .inl 0)] 4 5 _ _ _ (by decide +kernel) ?_
  show Go _ _ _ _ 47 415 5 [(0, rc 20), (1, rc 17)] [rc 20] (P, Y) _
  refine go_new (idx := 9) (ci := 4) (x := .inl 21) (kc' := 46) (ks' := 401) (by decide +kernel) (jin_2 (List.mem_of_getElem? (i := 65) rfl)) rfl (by decide) (jin_1 (List.mem_of_getElem? (i := 72) rfl)) (jin_1 (List.mem_of_getElem? (i := 4) rfl)) trivial ((f0 21 (by simp <;> omega)).1.trans hu.1) (by simp [jnr]) (by simp [jnr]) (by decide) (by decide) (fun q1 => ?_)
  show Go _ _ _ _ 46 401 8 [(0, rc 20), (1, rc 17)] [rc 21, rc 20] (pN P 21 5 0 q1, Y) _
  generalize e1 : pN P 21 5 0 q1 = P1
  have a1 := (aN e1 (b := 20) (by omega)).trans a0
  have f1 := frN f0 e1
  have c1_0 := c0.sm (sN e1 (by decide))
  have c1_1 := cell_N e1
  refine go_blk rfl [(.dup, 1, 0, 0, 0, .inl 0)] 8 9 _ _ _ (by decide +kernel) ?_
  show Go _ _ _ _ 46 401 9 [(0, rc 20), (1, rc 17)] [rc 21, rc 21, rc 20] (P1, Y) _
  refine go_callIQ (idx := 11) (z := 1) (M' := M4_init) (n := 0) (A := []) (x := .inl 21) (d' := 2) (mc' := 6) (ms' := 41) (kc' := 40) (ks' := 360) (by decide +kernel) ml_2_11 rfl wi4_init rfl (ret4_init c1_1 ⟨((f1 22 (by simp <;> omega)).1.trans hu.2.1), ((f1 23 (by simp <;> omega)).1.trans hu.2.2.1), ((f1 24 (by simp <;> omega)).1.trans hu.2.2.2.1), ((f1 25 (by simp <;> omega)).1.trans hu.2.2.2.2.1), ((f1 26 (by simp <;> omega)).1.trans hu.2.2.2.2.2.1), ((f1 27 (by simp <;> omega)).1.trans hu.2.2.2.2.2.2.1)⟩) (by decide) (by decide) (by decide) (Nat.le_of_ble_eq_true rfl) rfl (fun v2 μ2 h => by obtain ⟨rfl, P9, rfl, h1, h2, h3⟩ := h; intro adK; refine ⟨?_, ?_⟩ <;> simp [jlv, jcvc, jcvm, jcvi, (h2 17 (by simp <;> omega)).2.2.1, (h2 20 (by simp <;> omega)).2.2.1, h3]) (fun v2 μ2 h => ?_)
  obtain ⟨rfl, P2, rfl, h1, h2, h3⟩ := h
  have a2 := (h2 20 (by simp <;> omega)).2.2.1.trans a1
  show Go _ _ _ _ 40 360 12 [(0, rc 20), (1, rc 17)] [rc 21, rc 20] (P2, Y) _
  have f2 := frC f1 h2
  have c2_0 := c1_0.sm (h2 20 (by simp <;> omega))
  have g2_0 := h1
  refine go_putR (idx := 12) (a := 2) (b := 1) (z := 0) (w := some 21) (by decide +kernel) (by decide) rfl (by decide) (by decide) c2_0.1 rfl rfl rfl rfl ⟨rfl, by intro e; cases e⟩ (fun y hy => by cases hy; show cT P2 21 ≠ 0; rw [(HallNew_t g2_0)]; decide) ?_
  show Go _ _ _ _ 40 360 15 [(0, rc 20), (1, rc 17)] [] (pR P2 20 1 21, Y) _
  generalize e3 : pR P2 20 1 21 = P3
  have a3 := (aR e3 20).trans a2
  have f3 := frR f2 (by simp) e3
  have g3_0 := HallNew_sm g2_0 (fun a h1 h2 => sR e3 (by omega))
  have c3_0 := cell_R c2_0 e3
  refine go_blk rfl [(.aload_n 0, 1, 0, 0, 0, .inl 0), (.iconst 5, 1, 0, 0, 0, .inl 5)] 15 17 _ _ _ (by decide +kernel) ?_
  show Go _ _ _ _ 40 360 17 [(0, rc 20), (1, rc 17)] [vi 5, rc 20] (P3, Y) _
  refine go_newq24 (idx := 9) (n := 5) (N' := 5) (x := .inl 28) (kc' := 39) (ks' := 355) (by decide +kernel) (jin_2 (List.mem_of_getElem? (i := 65) rfl)) rfl (by decide) (by decide) (by decide) trivial ((f3 28 (by simp <;> omega)).1.trans hu.2.2.2.2.2.2.2.1) (by simp [jnr]) (by simp [jnr]) (by decide) (by decide) (fun q2 => ?_)
  show Go _ _ _ _ 39 355 20 [(0, rc 20), (1, rc 17)] [rc 28, rc 20] (pN P3 28 24 5 q2, Y) _
  generalize e4 : pN P3 28 24 5 q2 = P4
  have a4 := (aN e4 (b := 20) (by omega)).trans a3
  have f4 := frN f3 e4
  have c4_0 := c3_0.sm (sN e4 (by decide))
  have g4_0 := HallNew_sm g3_0 (fun a h1 h2 => sN e4 (by omega))
  have c4_2 := cell_N e4
  refine go_putR (idx := 18) (a := 2) (b := 2) (z := 0) (w := some 28) (by decide +kernel) (by decide) rfl (by decide) (by decide) c4_0.1 rfl rfl rfl rfl ⟨rfl, by intro e; cases e⟩ (fun y hy => by cases hy; show cT P4 28 ≠ 0; rw [c4_2.1]; decide) ?_
  show Go _ _ _ _ 39 355 23 [(0, rc 20), (1, rc 17)] [] (pR P4 20 2 28, Y) _
  generalize e5 : pR P4 20 2 28 = P5
  have a5 := (aR e5 20).trans a4
  have f5 := frR f4 (by simp) e5
  have c5_2 := c4_2.sm (sR e5 (by decide))
  have g5_0 := HallNew_sm g4_0 (fun a h1 h2 => sR e5 (by omega))
  have c5_0 := cell_R c4_0 e5
  refine go_blk rfl [(.aload_n 0, 1, 0, 0, 0, .inl 0), (.iconst 4, 1, 0, 0, 0, .inl 4)] 23 25 _ _ _ (by decide +kernel) ?_
  show Go _ _ _ _ 39 355 25 [(0, rc 20), (1, rc 17)] [vi 4, rc 20] (P5, Y) _
  refine go_newa20 (n := 4) (N' := 4) (x := .inl 65) (kc' := 38) (ks' := 351) (by decide +kernel) (by decide) (by decide) (by decide) trivial ((f5 65 (by simp <;> omega)).1.trans hu.2.2.2.2.2.2.2.2.2.2.2.2.2.2.2.2.2.2.2.2.2.2.2.2.2.2.2.2.2.2.2.2.2.2.2.2.2.2.2.2.2.2.2.1) (by simp [jnr]) (by simp [jnr]) (by decide) (by decide) (fun q3 => ?_)
  show Go _ _ _ _ 38 351 27 [(0, rc 20), (1, rc 17)] [rc 65, rc 20] (pN P5 65 20 4 q3, Y) _
  generalize e6 : pN P5 65 20 4 q3 = P6
  have a6 := (aN e6 (b := 20) (by omega)).trans a5
  have f6 := frN f5 e6
  have c6_0 := c5_0.sm (sN e6 (by decide))
  have c6_2 := c5_2.sm (sN e6 (by decide))
  have g6_0 := HallNew_sm g5_0 (fun a h1 h2 => sN e6 (by omega))
  have c6_3 := cell_N e6
  refine go_putR (idx := 22) (a := 2) (b := 3) (z := 0) (w := some 65) (by decide +kernel) (by decide) rfl (by decide) (by decide) c6_0.1 rfl rfl rfl rfl ⟨rfl, by intro e; cases e⟩ (fun y hy => by cases hy; show cT P6 65 ≠ 0; rw [c6_3.1]; decide) ?_
  show Go _ _ _ _ 38 351 30 [(0, rc 20), (1, rc 17)] [] (pR P6 20 3 65, Y) _
  generalize e7 : pR P6 20 3 65 = P7
  have a7 := (aR e7 20).trans a6
  have f7 := frR f6 (by simp) e7
  have c7_2 := c6_2.sm (sR e7 (by decide))
  have c7_3 := c6_3.sm (sR e7 (by decide))
  have g7_0 := HallNew_sm g6_0 (fun a h1 h2 => sR e7 (by omega))
  have c7_0 := cell_R c6_0 e7
  refine go_blk rfl [(.aload_n 0, 1, 0, 0, 0, .inl 0), (.iconst 4, 1, 0, 0, 0, .inl 4)] 30 32 _ _ _ (by decide +kernel) ?_
  show Go _ _ _ _ 38 351 32 [(0, rc 20), (1, rc 17)] [vi 4, rc 20] (P7, Y) _
  refine go_newa20 (n := 4) (N' := 4) (x := .inl 66) (kc' := 37) (ks' := 347) (by decide +kernel) (by decide) (by decide) (by decide) trivial ((f7 66 (by simp <;> omega)).1.trans hu.2.2.2.2.2.2.2.2.2.2.2.2.2.2.2.2.2.2.2.2.2.2.2.2.2.2.2.2.2.2.2.2.2.2.2.2.2.2.2.2.2.2.2.2.1) (by simp [jnr]) (by simp [jnr]) (by decide) (by decide) (fun q4 => ?_)
  show Go _ _ _ _ 37 347 34 [(0, rc 20), (1, rc 17)] [rc 66, rc 20] (pN P7 66 20 4 q4, Y) _
  generalize e8 : pN P7 66 20 4 q4 = P8
  have a8 := (aN e8 (b := 20) (by omega)).trans a7
  have f8 := frN f7 e8
  have c8_0 := c7_0.sm (sN e8 (by decide))
  have c8_2 := c7_2.sm (sN e8 (by decide))
  have c8_3 := c7_3.sm (sN e8 (by decide))
  have g8_0 := HallNew_sm g7_0 (fun a h1 h2 => sN e8 (by omega))
  have c8_4 := cell_N e8
  refine go_putR (idx := 26) (a := 2) (b := 4) (z := 0) (w := some 66) (by decide +kernel) (by decide) rfl (by decide) (by decide) c8_0.1 rfl rfl rfl rfl ⟨rfl, by intro e; cases e⟩ (fun y hy => by cases hy; show cT P8 66 ≠ 0; rw [c8_4.1]; decide) ?_
  show Go _ _ _ _ 37 347 37 [(0, rc 20), (1, rc 17)] [] (pR P8 20 4 66, Y) _
  generalize e9 : pR P8 20 4 66 = P9
  have a9 := (aR e9 20).trans a8
  have f9 := frR f8 (by simp) e9
  have c9_2 := c8_2.sm (sR e9 (by decide))
  have c9_3 := c8_3.sm (sR e9 (by decide))
  have c9_4 := c8_4.sm (sR e9 (by decide))
  have g9_0 := HallNew_sm g8_0 (fun a h1 h2 => sR e9 (by omega))
  have c9_0 := cell_R c8_0 e9
  refine go_blk rfl [(.aload_n 0, 1, 0, 0, 0, .inl 0), (.iconst 0, 1, 0, 0, 0, .inl 0), (.putfield 29, 3, 2, 5, 2, .inl 0)] 37 42 _ _ _ (by decide +kernel) ?_
  refine And.intro c9_0.1 (And.intro ⟨rfl, Or.inl rfl⟩ ?_)
  show Go _ _ _ _ 37 347 42 [(0, rc 20), (1, rc 17)] [] (pI P9 20 5 0, Y) _
  generalize e10 : pI P9 20 5 0 = P10
  have a10 := (aI e10 20).trans a9
  have f10 := frI f9 (by simp) e10
  have c10_2 := c9_2.sm (sI e10 (by decide))
  have c10_3 := c9_3.sm (sI e10 (by decide))
  have c10_4 := c9_4.sm (sI e10 (by decide))
  have g10_0 := HallNew_sm g9_0 (fun a h1 h2 => sI e10 (by omega))
  have c10_0 := cell_I c9_0 e10
  refine go_blk rfl [(.aload_n 0, 1, 0, 0, 0, .inl 0), (.bipush 36, 2, 0, 0, 0, .inl 36)] 42 45 _ _ _ (by decide +kernel) ?_
  show Go _ _ _ _ 37 347 45 [(0, rc 20), (1, rc 17)] [vi 36, rc 20] (P10, Y) _
  refine go_newa20 (n := 36) (N' := 36) (x := .inl 67) (kc' := 36) (ks' := 311) (by decide +kernel) (by decide) (by decide) (by decide) trivial ((f10 67 (by simp <;> omega)).1.trans hu.2.2.2.2.2.2.2.2.2.2.2.2.2.2.2.2.2.2.2.2.2.2.2.2.2.2.2.2.2.2.2.2.2.2.2.2.2.2.2.2.2.2.2.2.2.1) (by simp [jnr]) (by simp [jnr]) (by decide) (by decide) (fun q5 => ?_)
  show Go _ _ _ _ 36 311 47 [(0, rc 20), (1, rc 17)] [rc 67, rc 20] (pN P10 67 20 36 q5, Y) _
  generalize e11 : pN P10 67 20 36 q5 = P11
  have a11 := (aN e11 (b := 20) (by omega)).trans a10
  have f11 := frN f10 e11
  have c11_0 := c10_0.sm (sN e11 (by decide))
  have c11_2 := c10_2.sm (sN e11 (by decide))
  have c11_3 := c10_3.sm (sN e11 (by decide))
  have c11_4 := c10_4.sm (sN e11 (by decide))
  have g11_0 := HallNew_sm g10_0 (fun a h1 h2 => sN e11 (by omega))
  have c11_5 := cell_N e11
  refine go_putR (idx := 33) (a := 2) (b := 6) (z := 0) (w := some 67) (by decide +kernel) (by decide) rfl (by decide) (by decide) c11_0.1 rfl rfl rfl rfl ⟨rfl, by intro e; cases e⟩ (fun y hy => by cases hy; show cT P11 67 ≠ 0; rw [c11_5.1]; decide) ?_
  show Go _ _ _ _ 36 311 50 [(0, rc 20), (1, rc 17)] [] (pR P11 20 6 67, Y) _
  generalize e12 : pR P11 20 6 67 = P12
  have a12 := (aR e12 20).trans a11
  have f12 := frR f11 (by simp) e12
  have c12_2 := c11_2.sm (sR e12 (by decide))
  have c12_3 := c11_3.sm (sR e12 (by decide))
  have c12_4 := c11_4.sm (sR e12 (by decide))
  have c12_5 := c11_5.sm (sR e12 (by decide))
  have g12_0 := HallNew_sm g11_0 (fun a h1 h2 => sR e12 (by omega))
  have c12_0 := cell_R c11_0 e12
  refine go_blk rfl [(.aload_n 0, 1, 0, 0, 0, .inl 0), (.bipush 36, 2, 0, 0, 0, .inl 36)] 50 53 _ _ _ (by decide +kernel) ?_
  show Go _ _ _ _ 36 311 53 [(0, rc 20), (1, rc 17)] [vi 36, rc 20] (P12, Y) _
  refine go_newa20 (n := 36) (N' := 36) (x := .inl 68) (kc' := 35) (ks' := 275) (by decide +kernel) (by decide) (by decide) (by decide) trivial ((f12 68 (by simp <;> omega)).1.trans hu.2.2.2.2.2.2.2.2.2.2.2.2.2.2.2.2.2.2.2.2.2.2.2.2.2.2.2.2.2.2.2.2.2.2.2.2.2.2.2.2.2.2.2.2.2.2) (by simp [jnr]) (by simp [jnr]) (by decide) (by decide) (fun q6 => ?_)
  show Go _ _ _ _ 35 275 55 [(0, rc 20), (1, rc 17)] [rc 68, rc 20] (pN P12 68 20 36 q6, Y) _
  generalize e13 : pN P12 68 20 36 q6 = P13
  have a13 := (aN e13 (b := 20) (by omega)).trans a12
  have f13 := frN f12 e13
  have c13_0 := c12_0.sm (sN e13 (by decide))
  have c13_2 := c12_2.sm (sN e13 (by decide))
  have c13_3 := c12_3.sm (sN e13 (by decide))
  have c13_4 := c12_4.sm (sN e13 (by decide))
  have c13_5 := c12_5.sm (sN e13 (by decide))
  have g13_0 := HallNew_sm g12_0 (fun a h1 h2 => sN e13 (by omega))
  have c13_6 := cell_N e13
  refine go_putR (idx := 36) (a := 2) (b := 7) (z := 0) (w := some 68) (by decide +kernel) (by decide) rfl (by decide) (by decide) c13_0.1 rfl rfl rfl rfl ⟨rfl, by intro e; cases e⟩ (fun y hy => by cases hy; show cT P13 68 ≠ 0; rw [c13_6.1]; decide) ?_
  show Go _ _ _ _ 35 275 58 [(0, rc 20), (1, rc 17)] [] (pR P13 20 7 68, Y) _
  generalize e14 : pR P13 20 7 68 = P14
  have a14 := (aR e14 20).trans a13
  have f14 := frR f13 (by simp) e14
  have c14_2 := c13_2.sm (sR e14 (by decide))
  have c14_3 := c13_3.sm (sR e14 (by decide))
  have c14_4 := c13_4.sm (sR e14 (by decide))
  have c14_5 := c13_5.sm (sR e14 (by decide))
  have c14_6 := c13_6.sm (sR e14 (by decide))
  have g14_0 := HallNew_sm g13_0 (fun a h1 h2 => sR e14 (by omega))
  have c14_0 := cell_R c13_0 e14
  refine go_blk rfl [(.aload_n 0, 1, 0, 0, 0, .inl 0), (.iconst (-1), 1, 0, 0, 0, .inl (-1)), (.putfield 39, 3, 2, 8, 0, .inl 0)] 58 63 _ _ _ (by decide +kernel) ?_
  refine And.intro c14_0.1 (And.intro trivial ?_)
  show Go _ _ _ _ 35 275 63 [(0, rc 20), (1, rc 17)] [] (pI P14 20 8 (-1), Y) _
  generalize e15 : pI P14 20 8 (-1) = P15
  have a15 := (aI e15 20).trans a14
  have f15 := frI f14 (by simp) e15
  have c15_2 := c14_2.sm (sI e15 (by decide))
  have c15_3 := c14_3.sm (sI e15 (by decide))
  have c15_4 := c14_4.sm (sI e15 (by decide))
  have c15_5 := c14_5.sm (sI e15 (by decide))
  have c15_6 := c14_6.sm (sI e15 (by decide))
  have g15_0 := HallNew_sm g14_0 (fun a h1 h2 => sI e15 (by omega))
  have c15_0 := cell_I c14_0 e15
  refine go_blk rfl [(.aload_n 0, 1, 0, 0, 0, .inl 0), (.iconst 0, 1, 0, 0, 0, .inl 0), (.putfield 43, 3, 2, 9, 0, .inl 0)] 63 68 _ _ _ (by decide +kernel) ?_
  refine And.intro c15_0.1 (And.intro trivial ?_)
  show Go _ _ _ _ 35 275 68 [(0, rc 20), (1, rc 17)] [] (pI P15 20 9 0, Y) _
  generalize e16 : pI P15 20 9 0 = P16
  have a16 := (aI e16 20).trans a15
  have f16 := frI f15 (by simp) e16
  have c16_2 := c15_2.sm (sI e16 (by decide))
  have c16_3 := c15_3.sm (sI e16 (by decide))
  have c16_4 := c15_4.sm (sI e16 (by decide))
  have c16_5 := c15_5.sm (sI e16 (by decide))
  have c16_6 := c15_6.sm (sI e16 (by decide))
  have g16_0 := HallNew_sm g15_0 (fun a h1 h2 => sI e16 (by omega))
  have c16_0 := cell_I c15_0 e16
  refine go_blk rfl [(.aload_n 0, 1, 0, 0, 0, .inl 0), (.aload_n 1, 1, 1, 0, 0, .inl 0)] 68 70 _ _ _ (by decide +kernel) ?_
  show Go _ _ _ _ 35 275 70 [(0, rc 20), (1, rc 17)] [rc 17, rc 20] (P16, Y) _
  refine go_putR (idx := 46) (a := 2) (b := 0) (z := 0) (w := some 17) (by decide +kernel) (by decide) rfl (by decide) (by decide) c16_0.1 rfl rfl rfl rfl ⟨rfl, by intro e; cases e⟩ (fun y hy => by cases hy; show cT P16 17 ≠ 0; rw [(f16 17 (by simp <;> omega)).1]; exact hp) ?_
  show Go _ _ _ _ 35 275 73 [(0, rc 20), (1, rc 17)] [] (pR P16 20 0 17, Y) _
  generalize e17 : pR P16 20 0 17 = P17
  have a17 := (aR e17 20).trans a16
  have f17 := frR f16 (by simp) e17
  have c17_2 := c16_2.sm (sR e17 (by decide))
  have c17_3 := c16_3.sm (sR e17 (by decide))
  have c17_4 := c16_4.sm (sR e17 (by decide))
  have c17_5 := c16_5.sm (sR e17 (by decide))
  have c17_6 := c16_6.sm (sR e17 (by decide))
  have g17_0 := HallNew_sm g16_0 (fun a h1 h2 => sR e17 (by omega))
  have c17_0 := cell_R c16_0 e17
  refine go_blk rfl [(.iconst 0, 1, 0, 0, 0, .inl 0), (.istore_n 2, 1, 2, 0, 0, .inl 0), (.iload_n 2, 1, 2, 0, 0, .inl 0), (.aload_n 0, 1, 0, 0, 0, .inl 0), (.getfield 18, 3, 2, 2, 1, .inl 0), (.arraylength, 1, 24, 0, 0, .inl 0)] 73 81 _ _ _ (by decide +kernel) ?_
  refine And.intro c17_0.1 (Exists.intro _ (And.intro (gRc (show cR P17 20 2 = some 28 from (c17_0.2.2.1 2).trans (by simp [va_up]))) ?_))
  refine And.intro c17_2.1 (Exists.intro 5 (And.intro c17_2.2.1 ?_))
  show Go _ _ _ _ 35 275 81 [(2, vi 0), (0, rc 20), (1, rc 17)] [vi (nI 5), vi 0] (P17, Y) _
  refine go_icmp_ge (off := 22) (tgt := 103) (by decide +kernel) (by decide) (fun z => absurd z (by decide)) (fun _ => ?_)
  show Go _ _ _ _ 35 275 84 [(2, vi 0), (0, rc 20), (1, rc 17)] [] (P17, Y) _
  refine go_blk rfl [(.aload_n 0, 1, 0, 0, 0, .inl 0), (.getfield 18, 3, 2, 2, 1, .inl 0), (.iload_n 2, 1, 2, 0, 0, .inl 0)] 84 89 _ _ _ (by decide +kernel) ?_
  refine And.intro c17_0.1 (Exists.intro _ (And.intro (gRc (show cR P17 20 2 = some 28 from (c17_0.2.2.1 2).trans (by simp [va_up]))) ?_))
  show Go _ _ _ _ 35 275 89 [(2, vi 0), (0, rc 20), (1, rc 17)] [vi 0, rc 28] (P17, Y) _
  refine go_new (idx := 9) (ci := 4) (x := .inl 30) (kc' := 34) (ks' := 261) (by decide +kernel) (jin_2 (List.mem_of_getElem? (i := 65) rfl)) rfl (by decide) (jin_1 (List.mem_of_getElem? (i := 72) rfl)) (jin_1 (List.mem_of_getElem? (i := 4) rfl)) trivial ((f17 30 (by simp <;> omega)).1.trans hu.2.2.2.2.2.2.2.2.1) (by simp [jnr]) (by simp [jnr]) (by decide) (by decide) (fun q7 => ?_)
  show Go _ _ _ _ 34 261 92 [(2, vi 0), (0, rc 20), (1, rc 17)] [rc 30, vi 0, rc 28] (pN P17 30 5 0 q7, Y) _
  generalize e18 : pN P17 30 5 0 q7 = P18
  have a18 := (aN e18 (b := 20) (by omega)).trans a17
  have f18 := frN f17 e18
  have c18_0 := c17_0.sm (sN e18 (by decide))
  have c18_2 := c17_2.sm (sN e18 (by decide))
  have c18_3 := c17_3.sm (sN e18 (by decide))
  have c18_4 := c17_4.sm (sN e18 (by decide))
  have c18_5 := c17_5.sm (sN e18 (by decide))
  have c18_6 := c17_6.sm (sN e18 (by decide))
  have g18_0 := HallNew_sm g17_0 (fun a h1 h2 => sN e18 (by omega))
  have c18_7 := cell_N e18
  refine go_blk rfl [(.dup, 1, 0, 0, 0, .inl 0)] 92 93 _ _ _ (by decide +kernel) ?_
  show Go _ _ _ _ 34 261 93 [(2, vi 0), (0, rc 20), (1, rc 17)] [rc 30, rc 30, vi 0, rc 28] (P18, Y) _
  refine go_callIQ (idx := 11) (z := 1) (M' := M4_init) (n := 0) (A := []) (x := .inl 30) (d' := 2) (mc' := 6) (ms' := 41) (kc' := 28) (ks' := 220) (by decide +kernel) ml_2_11 rfl wi4_init rfl (ret4_init c18_7 ⟨((f18 31 (by simp <;> omega)).1.trans hu.2.2.2.2.2.2.2.2.2.1), ((f18 32 (by simp <;> omega)).1.trans hu.2.2.2.2.2.2.2.2.2.2.1), ((f18 33 (by simp <;> omega)).1.trans hu.2.2.2.2.2.2.2.2.2.2.2.1), ((f18 34 (by simp <;> omega)).1.trans hu.2.2.2.2.2.2.2.2.2.2.2.2.1), ((f18 35 (by simp <;> omega)).1.trans hu.2.2.2.2.2.2.2.2.2.2.2.2.2.1), ((f18 36 (by simp <;> omega)).1.trans hu.2.2.2.2.2.2.2.2.2.2.2.2.2.2.1)⟩) (by decide) (by decide) (by decide) (Nat.le_of_ble_eq_true rfl) rfl (fun v2 μ2 h => by obtain ⟨rfl, P9, rfl, h1, h2, h3⟩ := h; intro adK; refine ⟨?_, ?_⟩ <;> simp [jlv, jcvc, jcvm, jcvi, (h2 17 (by simp <;> omega)).2.2.1, (h2 20 (by simp <;> omega)).2.2.1, (h2 28 (by simp <;> omega)).2.2.1, h3]) (fun v2 μ2 h => ?_)
  obtain ⟨rfl, P19, rfl, h1, h2, h3⟩ := h
  have a19 := (h2 20 (by simp <;> omega)).2.2.1.trans a18
  show Go _ _ _ _ 28 220 96 [(2, vi 0), (0, rc 20), (1, rc 17)] [rc 30, vi 0, rc 28] (P19, Y) _
  have f19 := frC f18 h2
  have c19_0 := c18_0.sm (h2 20 (by simp <;> omega))
  have c19_2 := c18_2.sm (h2 28 (by simp <;> omega))
  have c19_3 := c18_3.sm (h2 65 (by simp <;> omega))
  have c19_4 := c18_4.sm (h2 66 (by simp <;> omega))
  have c19_5 := c18_5.sm (h2 67 (by simp <;> omega))
  have c19_6 := c18_6.sm (h2 68 (by simp <;> omega))
  have g19_0 := HallNew_sm g18_0 (fun a h4 h5 => h2 a (by simp; omega))
  have g19_1 := h1
  refine go_aast24 (w := some 30) (n := 5) (by decide +kernel) c19_2.1 (HallNew_t g19_1) c19_2.2.1 (inb_in (by decide)) ⟨rfl, by intro e; cases e⟩ ?_
  show Go _ _ _ _ 28 220 97 [(2, vi 0), (0, rc 20), (1, rc 17)] [] (pR P19 28 0 30, Y) _
  generalize e20 : pR P19 28 0 30 = P20
  have a20 := (aR e20 20).trans a19
  have f20 := frR f19 (by simp) e20
  have c20_0 := c19_0.sm (sR e20 (by decide))
  have c20_3 := c19_3.sm (sR e20 (by decide))
  have c20_4 := c19_4.sm (sR e20 (by decide))
  have c20_5 := c19_5.sm (sR e20 (by decide))
  have c20_6 := c19_6.sm (sR e20 (by decide))
  have g20_0 := HallNew_sm g19_0 (fun a h1 h2 => sR e20 (by omega))
  have g20_1 := HallNew_sm g19_1 (fun a h1 h2 => sR e20 (by omega))
  have c20_2 := cell_R c19_2 e20
  refine go_blk rfl [(.iinc 2 1, 3, 2, 0, 0, .inl 1)] 97 100 _ _ _ (by decide +kernel) ?_
  show Go _ _ _ _ 28 220 100 [(2, vi (0 + 1)), (0, rc 20), (1, rc 17)] [] (P20, Y) _
  refine go_goto (off := (-25)) (tgt := 75) (by decide +kernel) (by decide) ?_
  show Go _ _ _ _ 28 220 75 [(2, vi (0 + 1)), (0, rc 20), (1, rc 17)] [] (P20, Y) _
  refine go_blk rfl [(.iload_n 2, 1, 2, 0, 0, .inl 0), (.aload_n 0, 1, 0, 0, 0, .inl 0), (.getfield 18, 3, 2, 2, 1, .inl 0), (.arraylength, 1, 24, 0, 0, .inl 0)] 75 81 _ _ _ (by decide +kernel) ?_
  refine And.intro c20_0.1 (Exists.intro _ (And.intro (gRc (show cR P20 20 2 = some 28 from (c20_0.2.2.1 2).trans (by simp [va_up]))) ?_))
  refine And.intro c20_2.1 (Exists.intro 5 (And.intro c20_2.2.1 ?_))
  show Go _ _ _ _ 28 220 81 [(2, vi (0 + 1)), (0, rc 20), (1, rc 17)] [vi (nI 5), vi (0 + 1)] (P20, Y) _
  refine go_icmp_ge (off := 22) (tgt := 103) (by decide +kernel) (by decide) (fun z => absurd z (by decide)) (fun _ => ?_)
  show Go _ _ _ _ 28 220 84 [(2, vi (0 + 1)), (0, rc 20), (1, rc 17)] [] (P20, Y) _
  refine go_blk rfl [(.aload_n 0, 1, 0, 0, 0, .inl 0), (.getfield 18, 3, 2, 2, 1, .inl 0), (.iload_n 2, 1, 2, 0, 0, .inl 0)] 84 89 _ _ _ (by decide +kernel) ?_
  refine And.intro c20_0.1 (Exists.intro _ (And.intro (gRc (show cR P20 20 2 = some 28 from (c20_0.2.2.1 2).trans (by simp [va_up]))) ?_))
  show Go _ _ _ _ 28 220 89 [(2, vi (0 + 1)), (0, rc 20), (1, rc 17)] [vi (0 + 1), rc 28] (P20, Y) _
  refine go_new (idx := 9) (ci := 4) (x := .inl 37) (kc' := 27) (ks' := 206) (by decide +kernel) (jin_2 (List.mem_of_getElem? (i := 65) rfl)) rfl (by decide) (jin_1 (List.mem_of_getElem? (i := 72) rfl)) (jin_1 (List.mem_of_getElem? (i := 4) rfl)) trivial ((f20 37 (by simp <;> omega)).1.trans hu.2.2.2.2.2.2.2.2.2.2.2.2.2.2.2.1) (by simp [jnr]) (by simp [jnr]) (by decide) (by decide) (fun q8 => ?_)
  show Go _ _ _ _ 27 206 92 [(2, vi (0 + 1)), (0, rc 20), (1, rc 17)] [rc 37, vi (0 + 1), rc 28] (pN P20 37 5 0 q8, Y) _
  generalize e21 : pN P20 37 5 0 q8 = P21
  have a21 := (aN e21 (b := 20) (by omega)).trans a20
  have f21 := frN f20 e21
  have c21_0 := c20_0.sm (sN e21 (by decide))
  have c21_2 := c20_2.sm (sN e21 (by decide))
  have c21_3 := c20_3.sm (sN e21 (by decide))
  have c21_4 := c20_4.sm (sN e21 (by decide))
  have c21_5 := c20_5.sm (sN e21 (by decide))
  have c21_6 := c20_6.sm (sN e21 (by decide))
  have g21_0 := HallNew_sm g20_0 (fun a h1 h2 => sN e21 (by omega))
  have g21_1 := HallNew_sm g20_1 (fun a h1 h2 => sN e21 (by omega))
  have c21_8 := cell_N e21
  refine go_blk rfl [(.dup, 1, 0, 0, 0, .inl 0)] 92 93 _ _ _ (by decide +kernel) ?_
  show Go _ _ _ _ 27 206 93 [(2, vi (0 + 1)), (0, rc 20), (1, rc 17)] [rc 37, rc 37, vi (0 + 1), rc 28] (P21, Y) _
  refine go_callIQ (idx := 11) (z := 1) (M' := M4_init) (n := 0) (A := []) (x := .inl 37) (d' := 2) (mc' := 6) (ms' := 41) (kc' := 21) (ks' := 165) (by decide +kernel) ml_2_11 rfl wi4_init rfl (ret4_init c21_8 ⟨((f21 38 (by simp <;> omega)).1.trans hu.2.2.2.2.2.2.2.2.2.2.2.2.2.2.2.2.1), ((f21 39 (by simp <;> omega)).1.trans hu.2.2.2.2.2.2.2.2.2.2.2.2.2.2.2.2.2.1), ((f21 40 (by simp <;> omega)).1.trans hu.2.2.2.2.2.2.2.2.2.2.2.2.2.2.2.2.2.2.1), ((f21 41 (by simp <;> omega)).1.trans hu.2.2.2.2.2.2.2.2.2.2.2.2.2.2.2.2.2.2.2.1), ((f21 42 (by simp <;> omega)).1.trans hu.2.2.2.2.2.2.2.2.2.2.2.2.2.2.2.2.2.2.2.2.1), ((f21 43 (by simp <;> omega)).1.trans hu.2.2.2.2.2.2.2.2.2.2.2.2.2.2.2.2.2.2.2.2.2.1)⟩) (by decide) (by decide) (by decide) (Nat.le_of_ble_eq_true rfl) rfl (fun v2 μ2 h => by obtain ⟨rfl, P9, rfl, h1, h2, h3⟩ := h; intro adK; refine ⟨?_, ?_⟩ <;> simp [jlv, jcvc, jcvm, jcvi, (h2 17 (by simp <;> omega)).2.2.1, (h2 20 (by simp <;> omega)).2.2.1, (h2 28 (by simp <;> omega)).2.2.1, h3]) (fun v2 μ2 h => ?_)
  obtain ⟨rfl, P22, rfl, h1, h2, h3⟩ := h
  have a22 := (h2 20 (by simp <;> omega)).2.2.1.trans a21
  show Go _ _ _ _ 21 165 96 [(2, vi (0 + 1)), (0, rc 20), (1, rc 17)] [rc 37, vi (0 + 1), rc 28] (P22, Y) _
  have f22 := frC f21 h2
  have c22_0 := c21_0.sm (h2 20 (by simp <;> omega))
  have c22_2 := c21_2.sm (h2 28 (by simp <;> omega))
  have c22_3 := c21_3.sm (h2 65 (by simp <;> omega))
  have c22_4 := c21_4.sm (h2 66 (by simp <;> omega))
  have c22_5 := c21_5.sm (h2 67 (by simp <;> omega))
  have c22_6 := c21_6.sm (h2 68 (by simp <;> omega))
  have g22_0 := HallNew_sm g21_0 (fun a h4 h5 => h2 a (by simp; omega))
  have g22_1 := HallNew_sm g21_1 (fun a h4 h5 => h2 a (by simp; omega))
  have g22_2 := h1
  refine go_aast24 (w := some 37) (n := 5) (by decide +kernel) c22_2.1 (HallNew_t g22_2) c22_2.2.1 (inb_in (by decide)) ⟨rfl, by intro e; cases e⟩ ?_
  show Go _ _ _ _ 21 165 97 [(2, vi (0 + 1)), (0, rc 20), (1, rc 17)] [] (pR P22 28 1 37, Y) _
  generalize e23 : pR P22 28 1 37 = P23
  have a23 := (aR e23 20).trans a22
  have f23 := frR f22 (by simp) e23
  have c23_0 := c22_0.sm (sR e23 (by decide))
  have c23_3 := c22_3.sm (sR e23 (by decide))
  have c23_4 := c22_4.sm (sR e23 (by decide))
  have c23_5 := c22_5.sm (sR e23 (by decide))
  have c23_6 := c22_6.sm (sR e23 (by decide))
  have g23_0 := HallNew_sm g22_0 (fun a h1 h2 => sR e23 (by omega))
  have g23_1 := HallNew_sm g22_1 (fun a h1 h2 => sR e23 (by omega))
  have g23_2 := HallNew_sm g22_2 (fun a h1 h2 => sR e23 (by omega))
  have c23_2 := cell_R c22_2 e23
  refine go_blk rfl [(.iinc 2 1, 3, 2, 0, 0, .inl 1)] 97 100 _ _ _ (by decide +kernel) ?_
  show Go _ _ _ _ 21 165 100 [(2, vi ((0 + 1) + 1)), (0, rc 20), (1, rc 17)] [] (P23, Y) _
  refine go_goto (off := (-25)) (tgt := 75) (by decide +kernel) (by decide) ?_
  show Go _ _ _ _ 21 165 75 [(2, vi ((0 + 1) + 1)), (0, rc 20), (1, rc 17)] [] (P23, Y) _
  refine go_blk rfl [(.iload_n 2, 1, 2, 0, 0, .inl 0), (.aload_n 0, 1, 0, 0, 0, .inl 0), (.getfield 18, 3, 2, 2, 1, .inl 0), (.arraylength, 1, 24, 0, 0, .inl 0)] 75 81 _ _ _ (by decide +kernel) ?_
  refine And.intro c23_0.1 (Exists.intro _ (And.intro (gRc (show cR P23 20 2 = some 28 from (c23_0.2.2.1 2).trans (by simp [va_up]))) ?_))
  refine And.intro c23_2.1 (Exists.intro 5 (And.intro c23_2.2.1 ?_))
  show Go _ _ _ _ 21 165 81 [(2, vi ((0 + 1) + 1)), (0, rc 20), (1, rc 17)] [vi (nI 5), vi ((0 + 1) + 1)] (P23, Y) _
  refine go_icmp_ge (off := 22) (tgt := 103) (by decide +kernel) (by decide) (fun z => absurd z (by decide)) (fun _ => ?_)
  show Go _ _ _ _ 21 165 84 [(2, vi ((0 + 1) + 1)), (0, rc 20), (1, rc 17)] [] (P23, Y) _
  refine go_blk rfl [(.aload_n 0, 1, 0, 0, 0, .inl 0), (.getfield 18, 3, 2, 2, 1, .inl 0), (.iload_n 2, 1, 2, 0, 0, .inl 0)] 84 89 _ _ _ (by decide +kernel) ?_
  refine And.intro c23_0.1 (Exists.intro _ (And.intro (gRc (show cR P23 20 2 = some 28 from (c23_0.2.2.1 2).trans (by simp [va_up]))) ?_))
  show Go _ _ _ _ 21 165 89 [(2, vi ((0 + 1) + 1)), (0, rc 20), (1, rc 17)] [vi ((0 + 1) + 1), rc 28] (P23, Y) _
  refine go_new (idx := 9) (ci := 4) (x := .inl 44) (kc' := 20) (ks' := 151) (by decide +kernel) (jin_2 (List.mem_of_getElem? (i := 65) rfl)) rfl (by decide) (jin_1 (List.mem_of_getElem? (i := 72) rfl)) (jin_1 (List.mem_of_getElem? (i := 4) rfl)) trivial ((f23 44 (by simp <;> omega)).1.trans hu.2.2.2.2.2.2.2.2.2.2.2.2.2.2.2.2.2.2.2.2.2.2.1) (by simp [jnr]) (by simp [jnr]) (by decide) (by decide) (fun q9 => ?_)
  show Go _ _ _ _ 20 151 92 [(2, vi ((0 + 1) + 1)), (0, rc 20), (1, rc 17)] [rc 44, vi ((0 + 1) + 1), rc 28] (pN P23 44 5 0 q9, Y) _
  generalize e24 : pN P23 44 5 0 q9 = P24
  have a24 := (aN e24 (b := 20) (by omega)).trans a23
  have f24 := frN f23 e24
  have c24_0 := c23_0.sm (sN e24 (by decide))
  have c24_2 := c23_2.sm (sN e24 (by decide))
  have c24_3 := c23_3.sm (sN e24 (by decide))
  have c24_4 := c23_4.sm (sN e24 (by decide))
  have c24_5 := c23_5.sm (sN e24 (by decide))
  have c24_6 := c23_6.sm (sN e24 (by decide))
  have g24_0 := HallNew_sm g23_0 (fun a h1 h2 => sN e24 (by omega))
  have g24_1 := HallNew_sm g23_1 (fun a h1 h2 => sN e24 (by omega))
  have g24_2 := HallNew_sm g23_2 (fun a h1 h2 => sN e24 (by omega))
  have c24_9 := cell_N e24
  refine go_blk rfl [(.dup, 1, 0, 0, 0, .inl 0)] 92 93 _ _ _ (by decide +kernel) ?_
  show Go _ _ _ _ 20 151 93 [(2, vi ((0 + 1) + 1)), (0, rc 20), (1, rc 17)] [rc 44, rc 44, vi ((0 + 1) + 1), rc 28] (P24, Y) _
  refine go_callIQ (idx := 11) (z := 1) (M' := M4_init) (n := 0) (A := []) (x := .inl 44) (d' := 2) (mc' := 6) (ms' := 41) (kc' := 14) (ks' := 110) (by decide +kernel) ml_2_11 rfl wi4_init rfl (ret4_init c24_9 ⟨((f24 45 (by simp <;> omega)).1.trans hu.2.2.2.2.2.2.2.2.2.2.2.2.2.2.2.2.2.2.2.2.2.2.2.1), ((f24 46 (by simp <;> omega)).1.trans hu.2.2.2.2.2.2.2.2.2.2.2.2.2.2.2.2.2.2.2.2.2.2.2.2.1), ((f24 47 (by simp <;> omega)).1.trans hu.2.2.2.2.2.2.2.2.2.2.2.2.2.2.2.2.2.2.2.2.2.2.2.2.2.1), ((f24 48 (by simp <;> omega)).1.trans hu.2.2.2.2.2.2.2.2.2.2.2.2.2.2.2.2.2.2.2.2.2.2.2.2.2.2.1), ((f24 49 (by simp <;> omega)).1.trans hu.2.2.2.2.2.2.2.2.2.2.2.2.2.2.2.2.2.2.2.2.2.2.2.2.2.2.2.1), ((f24 50 (by simp <;> omega)).1.trans hu.2.2.2.2.2.2.2.2.2.2.2.2.2.2.2.2.2.2.2.2.2.2.2.2.2.2.2.2.1)⟩) (by decide) (by decide) (by decide) (Nat.le_of_ble_eq_true rfl) rfl (fun v2 μ2 h => by obtain ⟨rfl, P9, rfl, h1, h2, h3⟩ := h; intro adK; refine ⟨?_, ?_⟩ <;> simp [jlv, jcvc, jcvm, jcvi, (h2 17 (by simp <;> omega)).2.2.1, (h2 20 (by simp <;> omega)).2.2.1, (h2 28 (by simp <;> omega)).2.2.1, h3]) (fun v2 μ2 h => ?_)
  obtain ⟨rfl, P25, rfl, h1, h2, h3⟩ := h
  have a25 := (h2 20 (by simp <;> omega)).2.2.1.trans a24
  show Go _ _ _ _ 14 110 96 [(2, vi ((0 + 1) + 1)), (0, rc 20), (1, rc 17)] [rc 44, vi ((0 + 1) + 1), rc 28] (P25, Y) _
  have f25 := frC f24 h2
  have c25_0 := c24_0.sm (h2 20 (by simp <;> omega))
  have c25_2 := c24_2.sm (h2 28 (by simp <;> omega))
  have c25_3 := c24_3.sm (h2 65 (by simp <;> omega))
  have c25_4 := c24_4.sm (h2 66 (by simp <;> omega))
  have c25_5 := c24_5.sm (h2 67 (by simp <;> omega))
  have c25_6 := c24_6.sm (h2 68 (by simp <;> omega))
  have g25_0 := HallNew_sm g24_0 (fun a h4 h5 => h2 a (by simp; omega))
  have g25_1 := HallNew_sm g24_1 (fun a h4 h5 => h2 a (by simp; omega))
  have g25_2 := HallNew_sm g24_2 (fun a h4 h5 => h2 a (by simp; omega))
  have g25_3 := h1
  refine go_aast24 (w := some 44) (n := 5) (by decide +kernel) c25_2.1 (HallNew_t g25_3) c25_2.2.1 (inb_in (by decide)) ⟨rfl, by intro e; cases e⟩ ?_
  show Go _ _ _ _ 14 110 97 [(2, vi ((0 + 1) + 1)), (0, rc 20), (1, rc 17)] [] (pR P25 28 2 44, Y) _
  generalize e26 : pR P25 28 2 44 = P26
  have a26 := (aR e26 20).trans a25
  have f26 := frR f25 (by simp) e26
  have c26_0 := c25_0.sm (sR e26 (by decide))
  have c26_3 := c25_3.sm (sR e26 (by decide))
  have c26_4 := c25_4.sm (sR e26 (by decide))
  have c26_5 := c25_5.sm (sR e26 (by decide))
  have c26_6 := c25_6.sm (sR e26 (by decide))
  have g26_0 := HallNew_sm g25_0 (fun a h1 h2 => sR e26 (by omega))
  have g26_1 := HallNew_sm g25_1 (fun a h1 h2 => sR e26 (by omega))
  have g26_2 := HallNew_sm g25_2 (fun a h1 h2 => sR e26 (by omega))
  have g26_3 := HallNew_sm g25_3 (fun a h1 h2 => sR e26 (by omega))
  have c26_2 := cell_R c25_2 e26
  refine go_blk rfl [(.iinc 2 1, 3, 2, 0, 0, .inl 1)] 97 100 _ _ _ (by decide +kernel) ?_
  show Go _ _ _ _ 14 110 100 [(2, vi (((0 + 1) + 1) + 1)), (0, rc 20), (1, rc 17)] [] (P26, Y) _
  refine go_goto (off := (-25)) (tgt := 75) (by decide +kernel) (by decide) ?_
  show Go _ _ _ _ 14 110 75 [(2, vi (((0 + 1) + 1) + 1)), (0, rc 20), (1, rc 17)] [] (P26, Y) _
  refine go_blk rfl [(.iload_n 2, 1, 2, 0, 0, .inl 0), (.aload_n 0, 1, 0, 0, 0, .inl 0), (.getfield 18, 3, 2, 2, 1, .inl 0), (.arraylength, 1, 24, 0, 0, .inl 0)] 75 81 _ _ _ (by decide +kernel) ?_
  refine And.intro c26_0.1 (Exists.intro _ (And.intro (gRc (show cR P26 20 2 = some 28 from (c26_0.2.2.1 2).trans (by simp [va_up]))) ?_))
  refine And.intro c26_2.1 (Exists.intro 5 (And.intro c26_2.2.1 ?_))
  show Go _ _ _ _ 14 110 81 [(2, vi (((0 + 1) + 1) + 1)), (0, rc 20), (1, rc 17)] [vi (nI 5), vi (((0 + 1) + 1) + 1)] (P26, Y) _
  refine go_icmp_ge (off := 22) (tgt := 103) (by decide +kernel) (by decide) (fun z => absurd z (by decide)) (fun _ => ?_)
  show Go _ _ _ _ 14 110 84 [(2, vi (((0 + 1) + 1) + 1)), (0, rc 20), (1, rc 17)] [] (P26, Y) _
  refine go_blk rfl [(.aload_n 0, 1, 0, 0, 0, .inl 0), (.getfield 18, 3, 2, 2, 1, .inl 0), (.iload_n 2, 1, 2, 0, 0, .inl 0)] 84 89 _ _ _ (by decide +kernel) ?_
  refine And.intro c26_0.1 (Exists.intro _ (And.intro (gRc (show cR P26 20 2 = some 28 from (c26_0.2.2.1 2).trans (by simp [va_up]))) ?_))
  show Go _ _ _ _ 14 110 89 [(2, vi (((0 + 1) + 1) + 1)), (0, rc 20), (1, rc 17)] [vi (((0 + 1) + 1) + 1), rc 28] (P26, Y) _
  refine go_new (idx := 9) (ci := 4) (x := .inl 51) (kc' := 13) (ks' := 96) (by decide +kernel) (jin_2 (List.mem_of_getElem? (i := 65) rfl)) rfl (by decide) (jin_1 (List.mem_of_getElem? (i := 72) rfl)) (jin_1 (List.mem_of_getElem? (i := 4) rfl)) trivial ((f26 51 (by simp <;> omega)).1.trans hu.2.2.2.2.2.2.2.2.2.2.2.2.2.2.2.2.2.2.2.2.2.2.2.2.2.2.2.2.2.1) (by simp [jnr]) (by simp [jnr]) (by decide) (by decide) (fun q10 => ?_)
  show Go _ _ _ _ 13 96 92 [(2, vi (((0 + 1) + 1) + 1)), (0, rc 20), (1, rc 17)] [rc 51, vi (((0 + 1) + 1) + 1), rc 28] (pN P26 51 5 0 q10, Y) _
  generalize e27 : pN P26 51 5 0 q10 = P27
  have a27 := (aN e27 (b := 20) (by omega)).trans a26
  have f27 := frN f26 e27
  have c27_0 := c26_0.sm (sN e27 (by decide))
  have c27_2 := c26_2.sm (sN e27 (by decide))
  have c27_3 := c26_3.sm (sN e27 (by decide))
  have c27_4 := c26_4.sm (sN e27 (by decide))
  have c27_5 := c26_5.sm (sN e27 (by decide))
  have c27_6 := c26_6.sm (sN e27 (by decide))
  have g27_0 := HallNew_sm g26_0 (fun a h1 h2 => sN e27 (by omega))
  have g27_1 := HallNew_sm g26_1 (fun a h1 h2 => sN e27 (by omega))
  have g27_2 := HallNew_sm g26_2 (fun a h1 h2 => sN e27 (by omega))
  have g27_3 := HallNew_sm g26_3 (fun a h1 h2 => sN e27 (by omega))
  have c27_10 := cell_N e27
  refine go_blk rfl [(.dup, 1, 0, 0, 0, .inl 0)] 92 93 _ _ _ (by decide +kernel) ?_
  show Go _ _ _ _ 13 96 93 [(2, vi (((0 + 1) + 1) + 1)), (0, rc 20), (1, rc 17)] [rc 51, rc 51, vi (((0 + 1) + 1) + 1), rc 28] (P27, Y) _
  refine go_callIQ (idx := 11) (z := 1) (M' := M4_init) (n := 0) (A := []) (x := .inl 51) (d' := 2) (mc' := 6) (ms' := 41) (kc' := 7) (ks' := 55) (by decide +kernel) ml_2_11 rfl wi4_init rfl (ret4_init c27_10 ⟨((f27 52 (by simp <;> omega)).1.trans hu.2.2.2.2.2.2.2.2.2.2.2.2.2.2.2.2.2.2.2.2.2.2.2.2.2.2.2.2.2.2.1), ((f27 53 (by simp <;> omega)).1.trans hu.2.2.2.2.2.2.2.2.2.2.2.2.2.2.2.2.2.2.2.2.2.2.2.2.2.2.2.2.2.2.2.1), ((f27 54 (by simp <;> omega)).1.trans hu.2.2.2.2.2.2.2.2.2.2.2.2.2.2.2.2.2.2.2.2.2.2.2.2.2.2.2.2.2.2.2.2.1), ((f27 55 (by simp <;> omega)).1.trans hu.2.2.2.2.2.2.2.2.2.2.2.2.2.2.2.2.2.2.2.2.2.2.2.2.2.2.2.2.2.2.2.2.2.1), ((f27 56 (by simp <;> omega)).1.trans hu.2.2.2.2.2.2.2.2.2.2.2.2.2.2.2.2.2.2.2.2.2.2.2.2.2.2.2.2.2.2.2.2.2.2.1), ((f27 57 (by simp <;> omega)).1.trans hu.2.2.2.2.2.2.2.2.2.2.2.2.2.2.2.2.2.2.2.2.2.2.2.2.2.2.2.2.2.2.2.2.2.2.2.1)⟩) (by decide) (by decide) (by decide) (Nat.le_of_ble_eq_true rfl) rfl (fun v2 μ2 h => by obtain ⟨rfl, P9, rfl, h1, h2, h3⟩ := h; intro adK; refine ⟨?_, ?_⟩ <;> simp [jlv, jcvc, jcvm, jcvi, (h2 17 (by simp <;> omega)).2.2.1, (h2 20 (by simp <;> omega)).2.2.1, (h2 28 (by simp <;> omega)).2.2.1, h3]) (fun v2 μ2 h => ?_)
  obtain ⟨rfl, P28, rfl, h1, h2, h3⟩ := h
  have a28 := (h2 20 (by simp <;> omega)).2.2.1.trans a27
  show Go _ _ _ _ 7 55 96 [(2, vi (((0 + 1) + 1) + 1)), (0, rc 20), (1, rc 17)] [rc 51, vi (((0 + 1) + 1) + 1), rc 28] (P28, Y) _
  have f28 := frC f27 h2
  have c28_0 := c27_0.sm (h2 20 (by simp <;> omega))
  have c28_2 := c27_2.sm (h2 28 (by simp <;> omega))
  have c28_3 := c27_3.sm (h2 65 (by simp <;> omega))
  have c28_4 := c27_4.sm (h2 66 (by simp <;> omega))
  have c28_5 := c27_5.sm (h2 67 (by simp <;> omega))
  have c28_6 := c27_6.sm (h2 68 (by simp <;> omega))
  have g28_0 := HallNew_sm g27_0 (fun a h4 h5 => h2 a (by simp; omega))
  have g28_1 := HallNew_sm g27_1 (fun a h4 h5 => h2 a (by simp; omega))
  have g28_2 := HallNew_sm g27_2 (fun a h4 h5 => h2 a (by simp; omega))
  have g28_3 := HallNew_sm g27_3 (fun a h4 h5 => h2 a (by simp; omega))
  have g28_4 := h1
  refine go_aast24 (w := some 51) (n := 5) (by decide +kernel) c28_2.1 (HallNew_t g28_4) c28_2.2.1 (inb_in (by decide)) ⟨rfl, by intro e; cases e⟩ ?_
  show Go _ _ _ _ 7 55 97 [(2, vi (((0 + 1) + 1) + 1)), (0, rc 20), (1, rc 17)] [] (pR P28 28 3 51, Y) _
  generalize e29 : pR P28 28 3 51 = P29
  have a29 := (aR e29 20).trans a28
  have f29 := frR f28 (by simp) e29
  have c29_0 := c28_0.sm (sR e29 (by decide))
  have c29_3 := c28_3.sm (sR e29 (by decide))
  have c29_4 := c28_4.sm (sR e29 (by decide))
  have c29_5 := c28_5.sm (sR e29 (by decide))
  have c29_6 := c28_6.sm (sR e29 (by decide))
  have g29_0 := HallNew_sm g28_0 (fun a h1 h2 => sR e29 (by omega))
  have g29_1 := HallNew_sm g28_1 (fun a h1 h2 => sR e29 (by omega))
  have g29_2 := HallNew_sm g28_2 (fun a h1 h2 => sR e29 (by omega))
  have g29_3 := HallNew_sm g28_3 (fun a h1 h2 => sR e29 (by omega))
  have g29_4 := HallNew_sm g28_4 (fun a h1 h2 => sR e29 (by omega))
  have c29_2 := cell_R c28_2 e29
  refine go_blk rfl [(.iinc 2 1, 3, 2, 0, 0, .inl 1)] 97 100 _ _ _ (by decide +kernel) ?_
  show Go _ _ _ _ 7 55 100 [(2, vi ((((0 + 1) + 1) + 1) + 1)), (0, rc 20), (1, rc 17)] [] (P29, Y) _
  refine go_goto (off := (-25)) (tgt := 75) (by decide +kernel) (by decide) ?_
  show Go _ _ _ _ 7 55 75 [(2, vi ((((0 + 1) + 1) + 1) + 1)), (0, rc 20), (1, rc 17)] [] (P29, Y) _
  refine go_blk rfl [(.iload_n 2, 1, 2, 0, 0, .inl 0), (.aload_n 0, 1, 0, 0, 0, .inl 0), (.getfield 18, 3, 2, 2, 1, .inl 0), (.arraylength, 1, 24, 0, 0, .inl 0)] 75 81 _ _ _ (by decide +kernel) ?_
  refine And.intro c29_0.1 (Exists.intro _ (And.intro (gRc (show cR P29 20 2 = some 28 from (c29_0.2.2.1 2).trans (by simp [va_up]))) ?_))
  refine And.intro c29_2.1 (Exists.intro 5 (And.intro c29_2.2.1 ?_))
  show Go _ _ _ _ 7 55 81 [(2, vi ((((0 + 1) + 1) + 1) + 1)), (0, rc 20), (1, rc 17)] [vi (nI 5), vi ((((0 + 1) + 1) + 1) + 1)] (P29, Y) _
  refine go_icmp_ge (off := 22) (tgt := 103) (by decide +kernel) (by decide) (fun z => absurd z (by decide)) (fun _ => ?_)
  show Go _ _ _ _ 7 55 84 [(2, vi ((((0 + 1) + 1) + 1) + 1)), (0, rc 20), (1, rc 17)] [] (P29, Y) _
  refine go_blk rfl [(.aload_n 0, 1, 0, 0, 0, .inl 0), (.getfield 18, 3, 2, 2, 1, .inl 0), (.iload_n 2, 1, 2, 0, 0, .inl 0)] 84 89 _ _ _ (by decide +kernel) ?_
  refine And.intro c29_0.1 (Exists.intro _ (And.intro (gRc (show cR P29 20 2 = some 28 from (c29_0.2.2.1 2).trans (by simp [va_up]))) ?_))
  show Go _ _ _ _ 7 55 89 [(2, vi ((((0 + 1) + 1) + 1) + 1)), (0, rc 20), (1, rc 17)] [vi ((((0 + 1) + 1) + 1) + 1), rc 28] (P29, Y) _
  refine go_new (idx := 9) (ci := 4) (x := .inl 58) (kc' := 6) (ks' := 41) (by decide +kernel) (jin_2 (List.mem_of_getElem? (i := 65) rfl)) rfl (by decide) (jin_1 (List.mem_of_getElem? (i := 72) rfl)) (jin_1 (List.mem_of_getElem? (i := 4) rfl)) trivial ((f29 58 (by simp <;> omega)).1.trans hu.2.2.2.2.2.2.2.2.2.2.2.2.2.2.2.2.2.2.2.2.2.2.2.2.2.2.2.2.2.2.2.2.2.2.2.2.1) (by simp [jnr]) (by simp [jnr]) (by decide) (by decide) (fun q11 => ?_)
  show Go _ _ _ _ 6 41 92 [(2, vi ((((0 + 1) + 1) + 1) + 1)), (0, rc 20), (1, rc 17)] [rc 58, vi ((((0 + 1) + 1) + 1) + 1), rc 28] (pN P29 58 5 0 q11, Y) _
  generalize e30 : pN P29 58 5 0 q11 = P30
  have a30 := (aN e30 (b := 20) (by omega)).trans a29
  have f30 := frN f29 e30
  have c30_0 := c29_0.sm (sN e30 (by decide))
  have c30_2 := c29_2.sm (sN e30 (by decide))
  have c30_3 := c29_3.sm (sN e30 (by decide))
  have c30_4 := c29_4.sm (sN e30 (by decide))
  have c30_5 := c29_5.sm (sN e30 (by decide))
  have c30_6 := c29_6.sm (sN e30 (by decide))
  have g30_0 := HallNew_sm g29_0 (fun a h1 h2 => sN e30 (by omega))
  have g30_1 := HallNew_sm g29_1 (fun a h1 h2 => sN e30 (by omega))
  have g30_2 := HallNew_sm g29_2 (fun a h1 h2 => sN e30 (by omega))
  have g30_3 := HallNew_sm g29_3 (fun a h1 h2 => sN e30 (by omega))
  have g30_4 := HallNew_sm g29_4 (fun a h1 h2 => sN e30 (by omega))
  have c30_11 := cell_N e30
  refine go_blk rfl [(.dup, 1, 0, 0, 0, .inl 0)] 92 93 _ _ _ (by decide +kernel) ?_
  show Go _ _ _ _ 6 41 93 [(2, vi ((((0 + 1) + 1) + 1) + 1)), (0, rc 20), (1, rc 17)] [rc 58, rc 58, vi ((((0 + 1) + 1) + 1) + 1), rc 28] (P30, Y) _
  refine go_callIQ (idx := 11) (z := 1) (M' := M4_init) (n := 0) (A := []) (x := .inl 58) (d' := 2) (mc' := 6) (ms' := 41) (kc' := 0) (ks' := 0) (by decide +kernel) ml_2_11 rfl wi4_init rfl (ret4_init c30_11 ⟨((f30 59 (by simp <;> omega)).1.trans hu.2.2.2.2.2.2.2.2.2.2.2.2.2.2.2.2.2.2.2.2.2.2.2.2.2.2.2.2.2.2.2.2.2.2.2.2.2.1), ((f30 60 (by simp <;> omega)).1.trans hu.2.2.2.2.2.2.2.2.2.2.2.2.2.2.2.2.2.2.2.2.2.2.2.2.2.2.2.2.2.2.2.2.2.2.2.2.2.2.1), ((f30 61 (by simp <;> omega)).1.trans hu.2.2.2.2.2.2.2.2.2.2.2.2.2.2.2.2.2.2.2.2.2.2.2.2.2.2.2.2.2.2.2.2.2.2.2.2.2.2.2.1), ((f30 62 (by simp <;> omega)).1.trans hu.2.2.2.2.2.2.2.2.2.2.2.2.2.2.2.2.2.2.2.2.2.2.2.2.2.2.2.2.2.2.2.2.2.2.2.2.2.2.2.2.1), ((f30 63 (by simp <;> omega)).1.trans hu.2.2.2.2.2.2.2.2.2.2.2.2.2.2.2.2.2.2.2.2.2.2.2.2.2.2.2.2.2.2.2.2.2.2.2.2.2.2.2.2.2.1), ((f30 64 (by simp <;> omega)).1.trans hu.2.2.2.2.2.2.2.2.2.2.2.2.2.2.2.2.2.2.2.2.2.2.2.2.2.2.2.2.2.2.2.2.2.2.2.2.2.2.2.2.2.2.1)⟩) (by decide) (by decide) (by decide) (Nat.le_of_ble_eq_true rfl) rfl (fun v2 μ2 h => by obtain ⟨rfl, P9, rfl, h1, h2, h3⟩ := h; intro adK; refine ⟨?_, ?_⟩ <;> simp [jlv, jcvc, jcvm, jcvi, (h2 17 (by simp <;> omega)).2.2.1, (h2 20 (by simp <;> omega)).2.2.1, (h2 28 (by simp <;> omega)).2.2.1, h3]) (fun v2 μ2 h => ?_)
  obtain ⟨rfl, P31, rfl, h1, h2, h3⟩ := h
  have a31 := (h2 20 (by simp <;> omega)).2.2.1.trans a30
  show Go _ _ _ _ 0 0 96 [(2, vi ((((0 + 1) + 1) + 1) + 1)), (0, rc 20), (1, rc 17)] [rc 58, vi ((((0 + 1) + 1) + 1) + 1), rc 28] (P31, Y) _
  have f31 := frC f30 h2
  have c31_0 := c30_0.sm (h2 20 (by simp <;> omega))
  have c31_2 := c30_2.sm (h2 28 (by simp <;> omega))
  have c31_3 := c30_3.sm (h2 65 (by simp <;> omega))
  have c31_4 := c30_4.sm (h2 66 (by simp <;> omega))
  have c31_5 := c30_5.sm (h2 67 (by simp <;> omega))
  have c31_6 := c30_6.sm (h2 68 (by simp <;> omega))
  have g31_0 := HallNew_sm g30_0 (fun a h4 h5 => h2 a (by simp; omega))
  have g31_1 := HallNew_sm g30_1 (fun a h4 h5 => h2 a (by simp; omega))
  have g31_2 := HallNew_sm g30_2 (fun a h4 h5 => h2 a (by simp; omega))
  have g31_3 := HallNew_sm g30_3 (fun a h4 h5 => h2 a (by simp; omega))
  have g31_4 := HallNew_sm g30_4 (fun a h4 h5 => h2 a (by simp; omega))
  have g31_5 := h1
  refine go_aast24 (w := some 58) (n := 5) (by decide +kernel) c31_2.1 (HallNew_t g31_5) c31_2.2.1 (inb_in (by decide)) ⟨rfl, by intro e; cases e⟩ ?_
  show Go _ _ _ _ 0 0 97 [(2, vi ((((0 + 1) + 1) + 1) + 1)), (0, rc 20), (1, rc 17)] [] (pR P31 28 4 58, Y) _
  generalize e32 : pR P31 28 4 58 = P32
  have a32 := (aR e32 20).trans a31
  have f32 := frR f31 (by simp) e32
  have c32_0 := c31_0.sm (sR e32 (by decide))
  have c32_3 := c31_3.sm (sR e32 (by decide))
  have c32_4 := c31_4.sm (sR e32 (by decide))
  have c32_5 := c31_5.sm (sR e32 (by decide))
  have c32_6 := c31_6.sm (sR e32 (by decide))
  have g32_0 := HallNew_sm g31_0 (fun a h1 h2 => sR e32 (by omega))
  have g32_1 := HallNew_sm g31_1 (fun a h1 h2 => sR e32 (by omega))
  have g32_2 := HallNew_sm g31_2 (fun a h1 h2 => sR e32 (by omega))
  have g32_3 := HallNew_sm g31_3 (fun a h1 h2 => sR e32 (by omega))
  have g32_4 := HallNew_sm g31_4 (fun a h1 h2 => sR e32 (by omega))
  have g32_5 := HallNew_sm g31_5 (fun a h1 h2 => sR e32 (by omega))
  have c32_2 := cell_R c31_2 e32
  refine go_blk rfl [(.iinc 2 1, 3, 2, 0, 0, .inl 1)] 97 100 _ _ _ (by decide +kernel) ?_
  show Go _ _ _ _ 0 0 100 [(2, vi (((((0 + 1) + 1) + 1) + 1) + 1)), (0, rc 20), (1, rc 17)] [] (P32, Y) _
  refine go_goto (off := (-25)) (tgt := 75) (by decide +kernel) (by decide) ?_
  show Go _ _ _ _ 0 0 75 [(2, vi (((((0 + 1) + 1) + 1) + 1) + 1)), (0, rc 20), (1, rc 17)] [] (P32, Y) _
  refine go_blk rfl [(.iload_n 2, 1, 2, 0, 0, .inl 0), (.aload_n 0, 1, 0, 0, 0, .inl 0), (.getfield 18, 3, 2, 2, 1, .inl 0), (.arraylength, 1, 24, 0, 0, .inl 0)] 75 81 _ _ _ (by decide +kernel) ?_
  refine And.intro c32_0.1 (Exists.intro _ (And.intro (gRc (show cR P32 20 2 = some 28 from (c32_0.2.2.1 2).trans (by simp [va_up]))) ?_))
  refine And.intro c32_2.1 (Exists.intro 5 (And.intro c32_2.2.1 ?_))
  show Go _ _ _ _ 0 0 81 [(2, vi (((((0 + 1) + 1) + 1) + 1) + 1)), (0, rc 20), (1, rc 17)] [vi (nI 5), vi (((((0 + 1) + 1) + 1) + 1) + 1)] (P32, Y) _
  refine go_icmp_ge (off := 22) (tgt := 103) (by decide +kernel) (by decide) (fun _ => ?_) (fun z => absurd (by decide) z)
  show Go _ _ _ _ 0 0 103 [(2, vi (((((0 + 1) + 1) + 1) + 1) + 1)), (0, rc 20), (1, rc 17)] [] (P32, Y) _
  refine go_return (by decide +kernel) rfl ⟨rfl, P32, rfl, ⟨c32_0, g32_0, g32_0, c32_2, c32_3, c32_4, c32_5, c32_6, g32_1, g32_1, g32_2, g32_2, g32_3, g32_3, g32_4, g32_4, g32_5, g32_5⟩, fun b hb => f32 b (by intro z; apply hb; simp at z ⊢; omega), ?_⟩
  exact a32
def BookNew (P : jP) (o : Nat) : Prop := (Cell P o 1 0 (va_up (va_up (va_up (va_up (va_up (va_up (fun _ => none) 0 (some (o + 1))) 1 (some (o + 8))) 2 (some (o + 15))) 5 (some (o + 16))) 6 (some (o + 17))) 7 (some (o + 18))) (upd (upd (upd (upd (upd (fun _ => 0) 3 0) 4 0) 8 0) 9 (-1)) 10 0)) ∧ (HallNew P (o + 1)) ∧ (HallNew P (o + 1)) ∧ (HallNew P (o + 8)) ∧ (HallNew P (o + 8)) ∧ (Cell P (o + 15) 24 20 (fun _ => none) (fun _ => 0)) ∧ (Cell P (o + 16) 20 10 (fun _ => none) (fun _ => 0)) ∧ (Cell P (o + 17) 20 10 (fun _ => none) (fun _ => 0)) ∧ (Cell P (o + 18) 20 10 (fun _ => none) (fun _ => 0))
theorem BookNew_sm {P P1 : jP} {o : Nat} (h : BookNew P o) (s : ∀ a, o ≤ a → a < o + 19 → Same P P1 a) : BookNew P1 o := ⟨h.1.sm (s o (by omega) (by omega)), HallNew_sm h.2.1 (fun a h1 h2 => s a (by omega) (by omega)), HallNew_sm h.2.2.1 (fun a h1 h2 => s a (by omega) (by omega)), HallNew_sm h.2.2.2.1 (fun a h1 h2 => s a (by omega) (by omega)), HallNew_sm h.2.2.2.2.1 (fun a h1 h2 => s a (by omega) (by omega)), h.2.2.2.2.2.1.sm (s (o + 15) (by omega) (by omega)), h.2.2.2.2.2.2.1.sm (s (o + 16) (by omega) (by omega)), h.2.2.2.2.2.2.2.1.sm (s (o + 17) (by omega) (by omega)), h.2.2.2.2.2.2.2.2.sm (s (o + 18) (by omega) (by omega))⟩
theorem BookNew_t {P : jP} {o : Nat} (h : BookNew P o) : cT P o = 1 := h.1.1
theorem ret0_init {P Y : jP} {o : Nat} (c0 : Cell P o 1 0 (fun _ => none) (fun _ => 0)) (hu : cT P (o + 1) = 0 ∧ cT P (o + 2) = 0 ∧ cT P (o + 3) = 0 ∧ cT P (o + 4) = 0 ∧ cT P (o + 5) = 0 ∧ cT P (o + 6) = 0 ∧ cT P (o + 7) = 0 ∧ cT P (o + 8) = 0 ∧ cT P (o + 9) = 0 ∧ cT P (o + 10) = 0 ∧ cT P (o + 11) = 0 ∧ cT P (o + 12) = 0 ∧ cT P (o + 13) = 0 ∧ cT P (o + 14) = 0 ∧ cT P (o + 15) = 0 ∧ cT P (o + 16) = 0 ∧ cT P (o + 17) = 0 ∧ cT P (o + 18) = 0) : RetQ M0_init 3 18 160 [rc o] (P, Y) (fun v μ1 => v = none ∧ ∃ P1 : jP, μ1 = (P1, Y) ∧ BookNew P1 o ∧ (∀ b, b ∉ ([o, o + 1, o + 2, o + 3, o + 4, o + 5, o + 6, o + 7, o + 8, o + 9, o + 10, o + 11, o + 12, o + 13, o + 14, o + 15, o + 16, o + 17, o + 18] : List Nat) → Same P P1 b) ∧ cA P1 o = cA P o) := by
  refine RetQ.of (by decide +kernel) (Nat.le_of_ble_eq_true rfl) ?_
  have f0 : ∀ b, b ∉ ([o] : List Nat) → Same P P b := fun b _ => Same.rf P b
  have a0 : cA P o = cA P o := rfl
  show Go _ _ _ _ 18 160 0 [(0, rc o)] [] (P, Y) _
  refine go_blk rfl [(.aload_n 0, 1, 0, 0, 0, .inl 0)] 0 1 _ _ _ (by decide +kernel) ?_
  show Go _ _ _ _ 18 160 1 [(0, rc o)] [rc o] (P, Y) _
  refine go_obj (idx := 3) (by decide +kernel) (jin_1 (List.mem_of_getElem? (i := 233) rfl)) rfl (by decide) (Nat.le_of_ble_eq_true rfl) ?_
  show Go _ _ _ _ 18 160 4 [(0, rc o)] [] (P, Y) _
  refine go_blk rfl [(.aload_n 0, 1, 0, 0, 0, .inl 0)] 4 5 _ _ _ (by decide +kernel) ?_
  show Go _ _ _ _ 18 160 5 [(0, rc o)] [rc o] (P, Y) _
  refine go_new (idx := 9) (ci := 4) (x := .inl (o + 1)) (kc' := 17) (ks' := 146) (by decide +kernel) (jin_1 (List.mem_of_getElem? (i := 234) rfl)) rfl (by decide) (jin_1 (List.mem_of_getElem? (i := 72) rfl)) (jin_1 (List.mem_of_getElem? (i := 4) rfl)) trivial ((f0 (o + 1) (by simp <;> omega)).1.trans hu.1) (by simp [jnr]) (by simp [jnr]) (by decide) (by decide) (fun q1 => ?_)
  show Go _ _ _ _ 17 146 8 [(0, rc o)] [rc (o + 1), rc o] (pN P (o + 1) 5 0 q1, Y) _
  generalize e1 : pN P (o + 1) 5 0 q1 = P1
  have a1 := (aN e1 (b := o) (by omega)).trans a0
  have f1 := frN f0 e1
  have c1_0 := c0.sm (sN e1 (by omega))
  have c1_1 := cell_N e1
  refine go_blk rfl [(.dup, 1, 0, 0, 0, .inl 0)] 8 9 _ _ _ (by decide +kernel) ?_
  show Go _ _ _ _ 17 146 9 [(0, rc o)] [rc (o + 1), rc (o + 1), rc o] (P1, Y) _
  refine go_callIQ (idx := 11) (z := 1) (M' := M4_init) (n := 0) (A := []) (x := .inl (o + 1)) (d' := 2) (mc' := 6) (ms' := 41) (kc' := 11) (ks' := 105) (by decide +kernel) ml_0_11 rfl wi4_init rfl (ret4_init c1_1 ⟨((f1 (o + 2) (by simp <;> omega)).1.trans hu.2.1), ((f1 (o + 3) (by simp <;> omega)).1.trans hu.2.2.1), ((f1 (o + 4) (by simp <;> omega)).1.trans hu.2.2.2.1), ((f1 (o + 5) (by simp <;> omega)).1.trans hu.2.2.2.2.1), ((f1 (o + 6) (by simp <;> omega)).1.trans hu.2.2.2.2.2.1), ((f1 (o + 7) (by simp <;> omega)).1.trans hu.2.2.2.2.2.2.1)⟩) (by decide) (by decide) (by decide) (Nat.le_of_ble_eq_true rfl) rfl (fun v2 μ2 h => by obtain ⟨rfl, P9, rfl, h1, h2, h3⟩ := h; intro adK; refine ⟨?_, ?_⟩ <;> simp [jlv, jcvc, jcvm, jcvi, (h2 o (by simp <;> omega)).2.2.1, h3]) (fun v2 μ2 h => ?_)
  obtain ⟨rfl, P2, rfl, h1, h2, h3⟩ := h
  have a2 := (h2 o (by simp <;> omega)).2.2.1.trans a1
  show Go _ _ _ _ 11 105 12 [(0, rc o)] [rc (o + 1), rc o] (P2, Y) _
  have f2 := frC f1 h2
  have c2_0 := c1_0.sm (h2 o (by simp <;> omega))
  have g2_0 := h1
  refine go_putR (idx := 12) (a := 0) (b := 0) (z := 0) (w := some (o + 1)) (by decide +kernel) (by decide) rfl (by decide) (by decide) c2_0.1 rfl rfl rfl rfl ⟨rfl, by intro e; cases e⟩ (fun y hy => by cases hy; show cT P2 (o + 1) ≠ 0; rw [(HallNew_t g2_0)]; decide) ?_
  show Go _ _ _ _ 11 105 15 [(0, rc o)] [] (pR P2 o 0 (o + 1), Y) _
  generalize e3 : pR P2 o 0 (o + 1) = P3
  have a3 := (aR e3 o).trans a2
  have f3 := frR f2 (by simp) e3
  have g3_0 := HallNew_sm g2_0 (fun a h1 h2 => sR e3 (by omega))
  have c3_0 := cell_R c2_0 e3
  refine go_blk rfl [(.aload_n 0, 1, 0, 0, 0, .inl 0)] 15 16 _ _ _ (by decide +kernel) ?_
  show Go _ _ _ _ 11 105 16 [(0, rc o)] [rc o] (P3, Y) _
  refine go_new (idx := 9) (ci := 4) (x := .inl (o + 8)) (kc' := 10) (ks' := 91) (by decide +kernel) (jin_1 (List.mem_of_getElem? (i := 234) rfl)) rfl (by decide) (jin_1 (List.mem_of_getElem? (i := 72) rfl)) (jin_1 (List.mem_of_getElem? (i := 4) rfl)) trivial ((f3 (o + 8) (by simp <;> omega)).1.trans hu.2.2.2.2.2.2.2.1) (by simp [jnr]) (by simp [jnr]) (by decide) (by decide) (fun q2 => ?_)
  show Go _ _ _ _ 10 91 19 [(0, rc o)] [rc (o + 8), rc o] (pN P3 (o + 8) 5 0 q2, Y) _
  generalize e4 : pN P3 (o + 8) 5 0 q2 = P4
  have a4 := (aN e4 (b := o) (by omega)).trans a3
  have f4 := frN f3 e4
  have c4_0 := c3_0.sm (sN e4 (by omega))
  have g4_0 := HallNew_sm g3_0 (fun a h1 h2 => sN e4 (by omega))
  have c4_2 := cell_N e4
  refine go_blk rfl [(.dup, 1, 0, 0, 0, .inl 0)] 19 20 _ _ _ (by decide +kernel) ?_
  show Go _ _ _ _ 10 91 20 [(0, rc o)] [rc (o + 8), rc (o + 8), rc o] (P4, Y) _
  refine go_callIQ (idx := 11) (z := 1) (M' := M4_init) (n := 0) (A := []) (x := .inl (o + 8)) (d' := 2) (mc' := 6) (ms' := 41) (kc' := 4) (ks' := 50) (by decide +kernel) ml_0_11 rfl wi4_init rfl (ret4_init c4_2 ⟨((f4 (o + 9) (by simp <;> omega)).1.trans hu.2.2.2.2.2.2.2.2.1), ((f4 (o + 10) (by simp <;> omega)).1.trans hu.2.2.2.2.2.2.2.2.2.1), ((f4 (o + 11) (by simp <;> omega)).1.trans hu.2.2.2.2.2.2.2.2.2.2.1), ((f4 (o + 12) (by simp <;> omega)).1.trans hu.2.2.2.2.2.2.2.2.2.2.2.1), ((f4 (o + 13) (by simp <;> omega)).1.trans hu.2.2.2.2.2.2.2.2.2.2.2.2.1), ((f4 (o + 14) (by simp <;> omega)).1.trans hu.2.2.2.2.2.2.2.2.2.2.2.2.2.1)⟩) (by decide) (by decide) (by decide) (Nat.le_of_ble_eq_true rfl) rfl (fun v2 μ2 h => by obtain ⟨rfl, P9, rfl, h1, h2, h3⟩ := h; intro adK; refine ⟨?_, ?_⟩ <;> simp [jlv, jcvc, jcvm, jcvi, (h2 o (by simp <;> omega)).2.2.1, h3]) (fun v2 μ2 h => ?_)
  obtain ⟨rfl, P5, rfl, h1, h2, h3⟩ := h
  have a5 := (h2 o (by simp <;> omega)).2.2.1.trans a4
  show Go _ _ _ _ 4 50 23 [(0, rc o)] [rc (o + 8), rc o] (P5, Y) _
  have f5 := frC f4 h2
  have c5_0 := c4_0.sm (h2 o (by simp <;> omega))
  have g5_0 := HallNew_sm g4_0 (fun a h4 h5 => h2 a (by simp; omega))
  have g5_1 := h1
  refine go_putR (idx := 18) (a := 0) (b := 1) (z := 0) (w := some (o + 8)) (by decide +kernel) (by decide) rfl (by decide) (by decide) c5_0.1 rfl rfl rfl rfl ⟨rfl, by intro e; cases e⟩ (fun y hy => by cases hy; show cT P5 (o + 8) ≠ 0; rw [(HallNew_t g5_1)]; decide) ?_
  show Go _ _ _ _ 4 50 26 [(0, rc o)] [] (pR P5 o 1 (o + 8), Y) _
  generalize e6 : pR P5 o 1 (o + 8) = P6
  have a6 := (aR e6 o).trans a5
  have f6 := frR f5 (by simp) e6
  have g6_0 := HallNew_sm g5_0 (fun a h1 h2 => sR e6 (by omega))
  have g6_1 := HallNew_sm g5_1 (fun a h1 h2 => sR e6 (by omega))
  have c6_0 := cell_R c5_0 e6
  refine go_blk rfl [(.aload_n 0, 1, 0, 0, 0, .inl 0), (.bipush 20, 2, 0, 0, 0, .inl 20)] 26 29 _ _ _ (by decide +kernel) ?_
  show Go _ _ _ _ 4 50 29 [(0, rc o)] [vi 20, rc o] (P6, Y) _
  refine go_newq24 (idx := 9) (n := 20) (N' := 20) (x := .inl (o + 15)) (kc' := 3) (ks' := 30) (by decide +kernel) (jin_1 (List.mem_of_getElem? (i := 234) rfl)) rfl (by decide) (by decide) (by decide) trivial ((f6 (o + 15) (by simp <;> omega)).1.trans hu.2.2.2.2.2.2.2.2.2.2.2.2.2.2.1) (by simp [jnr]) (by simp [jnr]) (by decide) (by decide) (fun q3 => ?_)
  show Go _ _ _ _ 3 30 32 [(0, rc o)] [rc (o + 15), rc o] (pN P6 (o + 15) 24 20 q3, Y) _
  generalize e7 : pN P6 (o + 15) 24 20 q3 = P7
  have a7 := (aN e7 (b := o) (by omega)).trans a6
  have f7 := frN f6 e7
  have c7_0 := c6_0.sm (sN e7 (by omega))
  have g7_0 := HallNew_sm g6_0 (fun a h1 h2 => sN e7 (by omega))
  have g7_1 := HallNew_sm g6_1 (fun a h1 h2 => sN e7 (by omega))
  have c7_3 := cell_N e7
  refine go_putR (idx := 21) (a := 0) (b := 2) (z := 0) (w := some (o + 15)) (by decide +kernel) (by decide) rfl (by decide) (by decide) c7_0.1 rfl rfl rfl rfl ⟨rfl, by intro e; cases e⟩ (fun y hy => by cases hy; show cT P7 (o + 15) ≠ 0; rw [c7_3.1]; decide) ?_
  show Go _ _ _ _ 3 30 35 [(0, rc o)] [] (pR P7 o 2 (o + 15), Y) _
  generalize e8 : pR P7 o 2 (o + 15) = P8
  have a8 := (aR e8 o).trans a7
  have f8 := frR f7 (by simp) e8
  have c8_3 := c7_3.sm (sR e8 (by omega))
  have g8_0 := HallNew_sm g7_0 (fun a h1 h2 => sR e8 (by omega))
  have g8_1 := HallNew_sm g7_1 (fun a h1 h2 => sR e8 (by omega))
  have c8_0 := cell_R c7_0 e8
  refine go_blk rfl [(.aload_n 0, 1, 0, 0, 0, .inl 0), (.iconst 0, 1, 0, 0, 0, .inl 0), (.putfield 25, 3, 0, 3, 0, .inl 0)] 35 40 _ _ _ (by decide +kernel) ?_
  refine And.intro c8_0.1 (And.intro trivial ?_)
  show Go _ _ _ _ 3 30 40 [(0, rc o)] [] (pI P8 o 3 0, Y) _
  generalize e9 : pI P8 o 3 0 = P9
  have a9 := (aI e9 o).trans a8
  have f9 := frI f8 (by simp) e9
  have c9_3 := c8_3.sm (sI e9 (by omega))
  have g9_0 := HallNew_sm g8_0 (fun a h1 h2 => sI e9 (by omega))
  have g9_1 := HallNew_sm g8_1 (fun a h1 h2 => sI e9 (by omega))
  have c9_0 := cell_I c8_0 e9
  refine go_blk rfl [(.aload_n 0, 1, 0, 0, 0, .inl 0), (.iconst 0, 1, 0, 0, 0, .inl 0), (.putfield 29, 3, 0, 4, 0, .inl 0)] 40 45 _ _ _ (by decide +kernel) ?_
  refine And.intro c9_0.1 (And.intro trivial ?_)
  show Go _ _ _ _ 3 30 45 [(0, rc o)] [] (pI P9 o 4 0, Y) _
  generalize e10 : pI P9 o 4 0 = P10
  have a10 := (aI e10 o).trans a9
  have f10 := frI f9 (by simp) e10
  have c10_3 := c9_3.sm (sI e10 (by omega))
  have g10_0 := HallNew_sm g9_0 (fun a h1 h2 => sI e10 (by omega))
  have g10_1 := HallNew_sm g9_1 (fun a h1 h2 => sI e10 (by omega))
  have c10_0 := cell_I c9_0 e10
  refine go_blk rfl [(.aload_n 0, 1, 0, 0, 0, .inl 0), (.bipush 10, 2, 0, 0, 0, .inl 10)] 45 48 _ _ _ (by decide +kernel) ?_
  show Go _ _ _ _ 3 30 48 [(0, rc o)] [vi 10, rc o] (P10, Y) _
  refine go_newa20 (n := 10) (N' := 10) (x := .inl (o + 16)) (kc' := 2) (ks' := 20) (by decide +kernel) (by decide) (by decide) (by decide) trivial ((f10 (o + 16) (by simp <;> omega)).1.trans hu.2.2.2.2.2.2.2.2.2.2.2.2.2.2.2.1) (by simp [jnr]) (by simp [jnr]) (by decide) (by decide) (fun q4 => ?_)
  show Go _ _ _ _ 2 20 50 [(0, rc o)] [rc (o + 16), rc o] (pN P10 (o + 16) 20 10 q4, Y) _
  generalize e11 : pN P10 (o + 16) 20 10 q4 = P11
  have a11 := (aN e11 (b := o) (by omega)).trans a10
  have f11 := frN f10 e11
  have c11_0 := c10_0.sm (sN e11 (by omega))
  have c11_3 := c10_3.sm (sN e11 (by omega))
  have g11_0 := HallNew_sm g10_0 (fun a h1 h2 => sN e11 (by omega))
  have g11_1 := HallNew_sm g10_1 (fun a h1 h2 => sN e11 (by omega))
  have c11_4 := cell_N e11
  refine go_putR (idx := 32) (a := 0) (b := 5) (z := 0) (w := some (o + 16)) (by decide +kernel) (by decide) rfl (by decide) (by decide) c11_0.1 rfl rfl rfl rfl ⟨rfl, by intro e; cases e⟩ (fun y hy => by cases hy; show cT P11 (o + 16) ≠ 0; rw [c11_4.1]; decide) ?_
  show Go _ _ _ _ 2 20 53 [(0, rc o)] [] (pR P11 o 5 (o + 16), Y) _
  generalize e12 : pR P11 o 5 (o + 16) = P12
  have a12 := (aR e12 o).trans a11
  have f12 := frR f11 (by simp) e12
  have c12_3 := c11_3.sm (sR e12 (by omega))
  have c12_4 := c11_4.sm (sR e12 (by omega))
  have g12_0 := HallNew_sm g11_0 (fun a h1 h2 => sR e12 (by omega))
  have g12_1 := HallNew_sm g11_1 (fun a h1 h2 => sR e12 (by omega))
  have c12_0 := cell_R c11_0 e12
  refine go_blk rfl [(.aload_n 0, 1, 0, 0, 0, .inl 0), (.bipush 10, 2, 0, 0, 0, .inl 10)] 53 56 _ _ _ (by decide +kernel) ?_
  show Go _ _ _ _ 2 20 56 [(0, rc o)] [vi 10, rc o] (P12, Y) _
  refine go_newa20 (n := 10) (N' := 10) (x := .inl (o + 17)) (kc' := 1) (ks' := 10) (by decide +kernel) (by decide) (by decide) (by decide) trivial ((f12 (o + 17) (by simp <;> omega)).1.trans hu.2.2.2.2.2.2.2.2.2.2.2.2.2.2.2.2.1) (by simp [jnr]) (by simp [jnr]) (by decide) (by decide) (fun q5 => ?_)
  show Go _ _ _ _ 1 10 58 [(0, rc o)] [rc (o + 17), rc o] (pN P12 (o + 17) 20 10 q5, Y) _
  generalize e13 : pN P12 (o + 17) 20 10 q5 = P13
  have a13 := (aN e13 (b := o) (by omega)).trans a12
  have f13 := frN f12 e13
  have c13_0 := c12_0.sm (sN e13 (by omega))
  have c13_3 := c12_3.sm (sN e13 (by omega))
  have c13_4 := c12_4.sm (sN e13 (by omega))
  have g13_0 := HallNew_sm g12_0 (fun a h1 h2 => sN e13 (by omega))
  have g13_1 := HallNew_sm g12_1 (fun a h1 h2 => sN e13 (by omega))
  have c13_5 := cell_N e13
  refine go_putR (idx := 36) (a := 0) (b := 6) (z := 0) (w := some (o + 17)) (by decide +kernel) (by decide) rfl (by decide) (by decide) c13_0.1 rfl rfl rfl rfl ⟨rfl, by intro e; cases e⟩ (fun y hy => by cases hy; show cT P13 (o + 17) ≠ 0; rw [c13_5.1]; decide) ?_
  show Go _ _ _ _ 1 10 61 [(0, rc o)] [] (pR P13 o 6 (o + 17), Y) _
  generalize e14 : pR P13 o 6 (o + 17) = P14
  have a14 := (aR e14 o).trans a13
  have f14 := frR f13 (by simp) e14
  have c14_3 := c13_3.sm (sR e14 (by omega))
  have c14_4 := c13_4.sm (sR e14 (by omega))
  have c14_5 := c13_5.sm (sR e14 (by omega))
  have g14_0 := HallNew_sm g13_0 (fun a h1 h2 => sR e14 (by omega))
  have g14_1 := HallNew_sm g13_1 (fun a h1 h2 => sR e14 (by omega))
  have c14_0 := cell_R c13_0 e14
  refine go_blk rfl [(.aload_n 0, 1, 0, 0, 0, .inl 0), (.bipush 10, 2, 0, 0, 0, .inl 10)] 61 64 _ _ _ (by decide +kernel) ?_
  show Go _ _ _ _ 1 10 64 [(0, rc o)] [vi 10, rc o] (P14, Y) _
  refine go_newa20 (n := 10) (N' := 10) (x := .inl (o + 18)) (kc' := 0) (ks' := 0) (by decide +kernel) (by decide) (by decide) (by decide) trivial ((f14 (o + 18) (by simp <;> omega)).1.trans hu.2.2.2.2.2.2.2.2.2.2.2.2.2.2.2.2.2) (by simp [jnr]) (by simp [jnr]) (by decide) (by decide) (fun q6 => ?_)
  show Go _ _ _ _ 0 0 66 [(0, rc o)] [rc (o + 18), rc o] (pN P14 (o + 18) 20 10 q6, Y) _
  generalize e15 : pN P14 (o + 18) 20 10 q6 = P15
  have a15 := (aN e15 (b := o) (by omega)).trans a14
  have f15 := frN f14 e15
  have c15_0 := c14_0.sm (sN e15 (by omega))
  have c15_3 := c14_3.sm (sN e15 (by omega))
  have c15_4 := c14_4.sm (sN e15 (by omega))
  have c15_5 := c14_5.sm (sN e15 (by omega))
  have g15_0 := HallNew_sm g14_0 (fun a h1 h2 => sN e15 (by omega))
  have g15_1 := HallNew_sm g14_1 (fun a h1 h2 => sN e15 (by omega))
  have c15_6 := cell_N e15
  refine go_putR (idx := 39) (a := 0) (b := 7) (z := 0) (w := some (o + 18)) (by decide +kernel) (by decide) rfl (by decide) (by decide) c15_0.1 rfl rfl rfl rfl ⟨rfl, by intro e; cases e⟩ (fun y hy => by cases hy; show cT P15 (o + 18) ≠ 0; rw [c15_6.1]; decide) ?_
  show Go _ _ _ _ 0 0 69 [(0, rc o)] [] (pR P15 o 7 (o + 18), Y) _
  generalize e16 : pR P15 o 7 (o + 18) = P16
  have a16 := (aR e16 o).trans a15
  have f16 := frR f15 (by simp) e16
  have c16_3 := c15_3.sm (sR e16 (by omega))
  have c16_4 := c15_4.sm (sR e16 (by omega))
  have c16_5 := c15_5.sm (sR e16 (by omega))
  have c16_6 := c15_6.sm (sR e16 (by omega))
  have g16_0 := HallNew_sm g15_0 (fun a h1 h2 => sR e16 (by omega))
  have g16_1 := HallNew_sm g15_1 (fun a h1 h2 => sR e16 (by omega))
  have c16_0 := cell_R c15_0 e16
  refine go_blk rfl [(.aload_n 0, 1, 0, 0, 0, .inl 0), (.iconst 0, 1, 0, 0, 0, .inl 0), (.putfield 42, 3, 0, 8, 0, .inl 0)] 69 74 _ _ _ (by decide +kernel) ?_
  refine And.intro c16_0.1 (And.intro trivial ?_)
  show Go _ _ _ _ 0 0 74 [(0, rc o)] [] (pI P16 o 8 0, Y) _
  generalize e17 : pI P16 o 8 0 = P17
  have a17 := (aI e17 o).trans a16
  have f17 := frI f16 (by simp) e17
  have c17_3 := c16_3.sm (sI e17 (by omega))
  have c17_4 := c16_4.sm (sI e17 (by omega))
  have c17_5 := c16_5.sm (sI e17 (by omega))
  have c17_6 := c16_6.sm (sI e17 (by omega))
  have g17_0 := HallNew_sm g16_0 (fun a h1 h2 => sI e17 (by omega))
  have g17_1 := HallNew_sm g16_1 (fun a h1 h2 => sI e17 (by omega))
  have c17_0 := cell_I c16_0 e17
  refine go_blk rfl [(.aload_n 0, 1, 0, 0, 0, .inl 0), (.iconst (-1), 1, 0, 0, 0, .inl (-1)), (.putfield 45, 3, 0, 9, 0, .inl 0)] 74 79 _ _ _ (by decide +kernel) ?_
  refine And.intro c17_0.1 (And.intro trivial ?_)
  show Go _ _ _ _ 0 0 79 [(0, rc o)] [] (pI P17 o 9 (-1), Y) _
  generalize e18 : pI P17 o 9 (-1) = P18
  have a18 := (aI e18 o).trans a17
  have f18 := frI f17 (by simp) e18
  have c18_3 := c17_3.sm (sI e18 (by omega))
  have c18_4 := c17_4.sm (sI e18 (by omega))
  have c18_5 := c17_5.sm (sI e18 (by omega))
  have c18_6 := c17_6.sm (sI e18 (by omega))
  have g18_0 := HallNew_sm g17_0 (fun a h1 h2 => sI e18 (by omega))
  have g18_1 := HallNew_sm g17_1 (fun a h1 h2 => sI e18 (by omega))
  have c18_0 := cell_I c17_0 e18
  refine go_blk rfl [(.aload_n 0, 1, 0, 0, 0, .inl 0), (.iconst 0, 1, 0, 0, 0, .inl 0), (.putfield 48, 3, 0, 10, 0, .inl 0)] 79 84 _ _ _ (by decide +kernel) ?_
  refine And.intro c18_0.1 (And.intro trivial ?_)
  show Go _ _ _ _ 0 0 84 [(0, rc o)] [] (pI P18 o 10 0, Y) _
  generalize e19 : pI P18 o 10 0 = P19
  have a19 := (aI e19 o).trans a18
  have f19 := frI f18 (by simp) e19
  have c19_3 := c18_3.sm (sI e19 (by omega))
  have c19_4 := c18_4.sm (sI e19 (by omega))
  have c19_5 := c18_5.sm (sI e19 (by omega))
  have c19_6 := c18_6.sm (sI e19 (by omega))
  have g19_0 := HallNew_sm g18_0 (fun a h1 h2 => sI e19 (by omega))
  have g19_1 := HallNew_sm g18_1 (fun a h1 h2 => sI e19 (by omega))
  have c19_0 := cell_I c18_0 e19
  refine go_return (by decide +kernel) rfl ⟨rfl, P19, rfl, ⟨c19_0, g19_0, g19_0, g19_1, g19_1, c19_3, c19_4, c19_5, c19_6⟩, fun b hb => f19 b (by intro z; apply hb; simp at z ⊢; omega), ?_⟩
  exact a19
