def mTag (i : Nat) : Nat := ([0, 20, 20, 20, 20, 20, 20, 20, 20, 20, 20, 20, 20, 20, 20, 20, 20, 20, 20, 0, 0, 0, 0, 0, 0, 0, 0, 0, 0, 21, 20, 20, 20, 20, 20, 20, 20, 23, 23, 20, 0, 0, 20, 20, 0, 0, 0, 20, 20, 20, 20, 20, 20, 20, 22, 0, 0] : List Nat).getD i 0
def mLen (i : Nat) : Nat := ([0, 11, 7, 7, 7, 7, 7, 6, 10, 10, 10, 7, 7, 7, 3, 6, 7, 7, 7, 0, 0, 0, 0, 0, 0, 0, 0, 0, 0, 400, 1800, 1800, 6, 72, 72, 72, 402, 10, 300, 7, 0, 0, 800, 1, 0, 0, 0, 512, 64, 36, 36, 21, 7, 4750, 4, 0, 0] : List Nat).getD i 0
def mInt (i j : Nat) : Int32 := if i = 1 ∧ (j = 5 ∨ j = 10) then -1 else 0
def MG (P : jP) (k : Nat) : Prop := ∀ i, i < k → mTag i ≠ 0 → Cell P i (mTag i) (mLen i) (fun _ => none) (mInt i)
theorem MG_sm {P P1 : jP} {k : Nat} (h : MG P k) (s : ∀ a, 1 ≤ a → a < k → Same P P1 a) : MG P1 k := fun i hi ht => (h i hi ht).sm (s i (by cases i with | zero => exact absurd rfl ht | succ n => omega) hi)
theorem mTagz : ∀ j, j < 57 → ((19 ≤ j ∧ j < 29) ∨ j = 40 ∨ j = 41 ∨ (44 ≤ j ∧ j ≤ 46) ∨ 55 ≤ j) → mTag j = 0 := by decide
theorem MG_add {P : jP} {k i : Nat} (h : MG P k) (c : Cell P i (mTag i) (mLen i) (fun _ => none) (mInt i)) (z : ∀ j, k ≤ j → j < i → mTag j = 0) : MG P (i + 1) := fun j hj ht => if e : j = i then by rw [e]; exact c else if l : j < k then h j l ht else absurd (z j (by omega) (by omega)) ht
theorem Cell.cI {P : jP} {a t n : Nat} {R : Nat → Option Nat} {I I2 : Nat → Int32} (h : Cell P a t n R I) (e : ∀ i, I i = I2 i) : Cell P a t n R I2 := ⟨h.1, h.2.1, h.2.2.1, fun i => (h.2.2.2.1 i).trans (e i), h.2.2.2.2⟩
def ModNew (P : jP) : Prop := Cell P 0 12 0 (va_up (va_up (va_up (va_up (va_up (va_up (va_up (va_up (va_up (va_up (va_up (va_up (va_up (va_up (va_up (va_up (va_up (va_up (va_up (va_up (va_up (va_up (va_up (va_up (va_up (va_up (va_up (va_up (va_up (va_up (va_up (va_up (va_up (va_up (va_up (va_up (va_up (va_up (va_up (fun _ => none) 1 (some 1)) 2 (some 2)) 3 (some 3)) 4 (some 4)) 5 (some 5)) 6 (some 6)) 7 (some 7)) 8 (some 8)) 9 (some 9)) 10 (some 10)) 11 (some 11)) 12 (some 12)) 13 (some 13)) 14 (some 14)) 15 (some 15)) 16 (some 16)) 17 (some 17)) 18 (some 18)) 29 (some 29)) 30 (some 30)) 31 (some 31)) 32 (some 32)) 33 (some 33)) 34 (some 34)) 35 (some 35)) 36 (some 36)) 37 (some 37)) 38 (some 38)) 39 (some 39)) 42 (some 42)) 43 (some 43)) 47 (some 47)) 48 (some 48)) 49 (some 49)) 50 (some 50)) 51 (some 51)) 52 (some 52)) 53 (some 53)) 54 (some 54)) (upd (upd (fun _ => 0) 28 10) 40 (-1)) ∧ MG P 57
theorem ret11_init {P Y : jP} (c0 : Cell P 0 12 0 (fun _ => none) (fun _ => 0)) (hu : ∀ a, 1 ≤ a → a < 57 → cT P a = 0) : RetQ M11_init 2 39 11305 [rm 0] (Y, P) (fun v μ1 => v = none ∧ ∃ P1 : jP, μ1 = (Y, P1) ∧ ModNew P1 ∧ cA P1 0 = cA P 0) := by
  refine RetQ.of (by decide +kernel) (Nat.le_of_ble_eq_true rfl) ?_
  have f0 : ∀ b, (b < 0 ∨ 0 < b) → Same P P b := fun b _ => Same.rf P b
  have a0 : cA P 0 = cA P 0 := rfl
  have g0 : MG P 1 := fun i hi ht => absurd (by rw [show i = 0 by omega]; rfl) ht
  show Go _ _ _ _ 39 11305 0 [(0, rm 0)] [] (Y, P) _
  refine go_blk rfl [(.aload_n 0, 1, 0, 0, 0, .inl 0)] 0 1 _ _ _ (by decide +kernel) ?_
  show Go _ _ _ _ 39 11305 1 [(0, rm 0)] [rm 0] (Y, P) _
  refine go_obj (idx := 3) (by decide +kernel) (jin_5 (List.mem_of_getElem? (i := 208) rfl)) rfl (by decide) (Nat.le_of_ble_eq_true rfl) ?_
  show Go _ _ _ _ 39 11305 4 [(0, rm 0)] [] (Y, P) _
  refine go_blk rfl [(.aload_n 0, 1, 0, 0, 0, .inl 0), (.bipush 11, 2, 0, 0, 0, .inl 11)] 4 7 _ _ _ (by decide +kernel) ?_
  show Go _ _ _ _ 39 11305 7 [(0, rm 0)] [vi 11, rm 0] (Y, P) _
  refine go_newa20 (n := 11) (N' := 11) (x := .inr (.inl 1)) (kc' := 38) (ks' := 11294) (by decide +kernel) (by decide) (by decide) (by decide) trivial ((f0 1 (by omega)).1.trans (hu 1 (by omega) (by omega))) (by simp [jnr]) (by simp [jnr]) (by decide) (by decide) (fun q1 => ?_)
  show Go _ _ _ _ 38 11294 9 [(0, rm 0)] [rm 1, rm 0] (Y, pN P 1 20 11 q1) _
  generalize e1 : pN P 1 20 11 q1 = P1
  have a1 := (aN e1 (by decide)).trans a0
  have f1 : ∀ b, (b < 0 ∨ 1 < b) → Same P P1 b := fun b hb => (f0 b (by omega)).tr (sN e1 (by omega))
  have c1_0 := c0.sm (sN e1 (by decide))
  have g1 := MG_sm g0 (fun a h1 h2 => sN e1 (by omega))
  have c1_1 := cell_N e1
  refine go_blk rfl [(.dup, 1, 0, 0, 0, .inl 0), (.iconst 0, 1, 0, 0, 0, .inl 0), (.iconst 0, 1, 0, 0, 0, .inl 0), (.iastore, 1, 20, 0, 0, .inl 0)] 9 13 _ _ _ (by decide +kernel) ?_
  refine And.intro c1_1.1 (Exists.intro 11 (And.intro c1_1.2.1 (And.intro (inb_in (by decide)) ?_)))
  show Go _ _ _ _ 38 11294 13 [(0, rm 0)] [rm 1, rm 0] (Y, pI P1 1 0 0) _
  generalize e2 : pI P1 1 0 0 = P2
  have a2 := (aI e2 0).trans a1
  have f2 : ∀ b, (b < 0 ∨ 1 < b) → Same P P2 b := fun b hb => (f1 b (by omega)).tr (sI e2 (by omega))
  have c2_0 := c1_0.sm (sI e2 (by decide))
  have g2 := MG_sm g1 (fun a h1 h2 => sI e2 (by omega))
  have c2_1 := cell_I c1_1 e2
  refine go_blk rfl [(.dup, 1, 0, 0, 0, .inl 0), (.iconst 1, 1, 0, 0, 0, .inl 1), (.iconst 0, 1, 0, 0, 0, .inl 0), (.iastore, 1, 20, 0, 0, .inl 0)] 13 17 _ _ _ (by decide +kernel) ?_
  refine And.intro c2_1.1 (Exists.intro 11 (And.intro c2_1.2.1 (And.intro (inb_in (by decide)) ?_)))
  show Go _ _ _ _ 38 11294 17 [(0, rm 0)] [rm 1, rm 0] (Y, pI P2 1 1 0) _
  generalize e3 : pI P2 1 1 0 = P3
  have a3 := (aI e3 0).trans a2
  have f3 : ∀ b, (b < 0 ∨ 1 < b) → Same P P3 b := fun b hb => (f2 b (by omega)).tr (sI e3 (by omega))
  have c3_0 := c2_0.sm (sI e3 (by decide))
  have g3 := MG_sm g2 (fun a h1 h2 => sI e3 (by omega))
  have c3_1 := cell_I c2_1 e3
  refine go_blk rfl [(.dup, 1, 0, 0, 0, .inl 0), (.iconst 2, 1, 0, 0, 0, .inl 2), (.iconst 0, 1, 0, 0, 0, .inl 0), (.iastore, 1, 20, 0, 0, .inl 0)] 17 21 _ _ _ (by decide +kernel) ?_
  refine And.intro c3_1.1 (Exists.intro 11 (And.intro c3_1.2.1 (And.intro (inb_in (by decide)) ?_)))
  show Go _ _ _ _ 38 11294 21 [(0, rm 0)] [rm 1, rm 0] (Y, pI P3 1 2 0) _
  generalize e4 : pI P3 1 2 0 = P4
  have a4 := (aI e4 0).trans a3
  have f4 : ∀ b, (b < 0 ∨ 1 < b) → Same P P4 b := fun b hb => (f3 b (by omega)).tr (sI e4 (by omega))
  have c4_0 := c3_0.sm (sI e4 (by decide))
  have g4 := MG_sm g3 (fun a h1 h2 => sI e4 (by omega))
  have c4_1 := cell_I c3_1 e4
  refine go_blk rfl [(.dup, 1, 0, 0, 0, .inl 0), (.iconst 3, 1, 0, 0, 0, .inl 3), (.iconst 0, 1, 0, 0, 0, .inl 0), (.iastore, 1, 20, 0, 0, .inl 0)] 21 25 _ _ _ (by decide +kernel) ?_
  refine And.intro c4_1.1 (Exists.intro 11 (And.intro c4_1.2.1 (And.intro (inb_in (by decide)) ?_)))
  show Go _ _ _ _ 38 11294 25 [(0, rm 0)] [rm 1, rm 0] (Y, pI P4 1 3 0) _
  generalize e5 : pI P4 1 3 0 = P5
  have a5 := (aI e5 0).trans a4
  have f5 : ∀ b, (b < 0 ∨ 1 < b) → Same P P5 b := fun b hb => (f4 b (by omega)).tr (sI e5 (by omega))
  have c5_0 := c4_0.sm (sI e5 (by decide))
  have g5 := MG_sm g4 (fun a h1 h2 => sI e5 (by omega))
  have c5_1 := cell_I c4_1 e5
  refine go_blk rfl [(.dup, 1, 0, 0, 0, .inl 0), (.iconst 4, 1, 0, 0, 0, .inl 4), (.iconst 0, 1, 0, 0, 0, .inl 0), (.iastore, 1, 20, 0, 0, .inl 0)] 25 29 _ _ _ (by decide +kernel) ?_
  refine And.intro c5_1.1 (Exists.intro 11 (And.intro c5_1.2.1 (And.intro (inb_in (by decide)) ?_)))
  show Go _ _ _ _ 38 11294 29 [(0, rm 0)] [rm 1, rm 0] (Y, pI P5 1 4 0) _
  generalize e6 : pI P5 1 4 0 = P6
  have a6 := (aI e6 0).trans a5
  have f6 : ∀ b, (b < 0 ∨ 1 < b) → Same P P6 b := fun b hb => (f5 b (by omega)).tr (sI e6 (by omega))
  have c6_0 := c5_0.sm (sI e6 (by decide))
  have g6 := MG_sm g5 (fun a h1 h2 => sI e6 (by omega))
  have c6_1 := cell_I c5_1 e6
  refine go_blk rfl [(.dup, 1, 0, 0, 0, .inl 0), (.iconst 5, 1, 0, 0, 0, .inl 5), (.iconst (-1), 1, 0, 0, 0, .inl (-1)), (.iastore, 1, 20, 0, 0, .inl 0)] 29 33 _ _ _ (by decide +kernel) ?_
  refine And.intro c6_1.1 (Exists.intro 11 (And.intro c6_1.2.1 (And.intro (inb_in (by decide)) ?_)))
  show Go _ _ _ _ 38 11294 33 [(0, rm 0)] [rm 1, rm 0] (Y, pI P6 1 5 (-1)) _
  generalize e7 : pI P6 1 5 (-1) = P7
  have a7 := (aI e7 0).trans a6
  have f7 : ∀ b, (b < 0 ∨ 1 < b) → Same P P7 b := fun b hb => (f6 b (by omega)).tr (sI e7 (by omega))
  have c7_0 := c6_0.sm (sI e7 (by decide))
  have g7 := MG_sm g6 (fun a h1 h2 => sI e7 (by omega))
  have c7_1 := cell_I c6_1 e7
  refine go_blk rfl [(.dup, 1, 0, 0, 0, .inl 0), (.bipush 6, 2, 0, 0, 0, .inl 6), (.iconst 0, 1, 0, 0, 0, .inl 0), (.iastore, 1, 20, 0, 0, .inl 0)] 33 38 _ _ _ (by decide +kernel) ?_
  refine And.intro c7_1.1 (Exists.intro 11 (And.intro c7_1.2.1 (And.intro (inb_in (by decide)) ?_)))
  show Go _ _ _ _ 38 11294 38 [(0, rm 0)] [rm 1, rm 0] (Y, pI P7 1 6 0) _
  generalize e8 : pI P7 1 6 0 = P8
  have a8 := (aI e8 0).trans a7
  have f8 : ∀ b, (b < 0 ∨ 1 < b) → Same P P8 b := fun b hb => (f7 b (by omega)).tr (sI e8 (by omega))
  have c8_0 := c7_0.sm (sI e8 (by decide))
  have g8 := MG_sm g7 (fun a h1 h2 => sI e8 (by omega))
  have c8_1 := cell_I c7_1 e8
  refine go_blk rfl [(.dup, 1, 0, 0, 0, .inl 0), (.bipush 7, 2, 0, 0, 0, .inl 7), (.iconst 0, 1, 0, 0, 0, .inl 0), (.iastore, 1, 20, 0, 0, .inl 0)] 38 43 _ _ _ (by decide +kernel) ?_
  refine And.intro c8_1.1 (Exists.intro 11 (And.intro c8_1.2.1 (And.intro (inb_in (by decide)) ?_)))
  show Go _ _ _ _ 38 11294 43 [(0, rm 0)] [rm 1, rm 0] (Y, pI P8 1 7 0) _
  generalize e9 : pI P8 1 7 0 = P9
  have a9 := (aI e9 0).trans a8
  have f9 : ∀ b, (b < 0 ∨ 1 < b) → Same P P9 b := fun b hb => (f8 b (by omega)).tr (sI e9 (by omega))
  have c9_0 := c8_0.sm (sI e9 (by decide))
  have g9 := MG_sm g8 (fun a h1 h2 => sI e9 (by omega))
  have c9_1 := cell_I c8_1 e9
  refine go_blk rfl [(.dup, 1, 0, 0, 0, .inl 0), (.bipush 8, 2, 0, 0, 0, .inl 8), (.iconst 0, 1, 0, 0, 0, .inl 0), (.iastore, 1, 20, 0, 0, .inl 0)] 43 48 _ _ _ (by decide +kernel) ?_
  refine And.intro c9_1.1 (Exists.intro 11 (And.intro c9_1.2.1 (And.intro (inb_in (by decide)) ?_)))
  show Go _ _ _ _ 38 11294 48 [(0, rm 0)] [rm 1, rm 0] (Y, pI P9 1 8 0) _
  generalize e10 : pI P9 1 8 0 = P10
  have a10 := (aI e10 0).trans a9
  have f10 : ∀ b, (b < 0 ∨ 1 < b) → Same P P10 b := fun b hb => (f9 b (by omega)).tr (sI e10 (by omega))
  have c10_0 := c9_0.sm (sI e10 (by decide))
  have g10 := MG_sm g9 (fun a h1 h2 => sI e10 (by omega))
  have c10_1 := cell_I c9_1 e10
  refine go_blk rfl [(.dup, 1, 0, 0, 0, .inl 0), (.bipush 9, 2, 0, 0, 0, .inl 9), (.iconst 0, 1, 0, 0, 0, .inl 0), (.iastore, 1, 20, 0, 0, .inl 0)] 48 53 _ _ _ (by decide +kernel) ?_
  refine And.intro c10_1.1 (Exists.intro 11 (And.intro c10_1.2.1 (And.intro (inb_in (by decide)) ?_)))
  show Go _ _ _ _ 38 11294 53 [(0, rm 0)] [rm 1, rm 0] (Y, pI P10 1 9 0) _
  generalize e11 : pI P10 1 9 0 = P11
  have a11 := (aI e11 0).trans a10
  have f11 : ∀ b, (b < 0 ∨ 1 < b) → Same P P11 b := fun b hb => (f10 b (by omega)).tr (sI e11 (by omega))
  have c11_0 := c10_0.sm (sI e11 (by decide))
  have g11 := MG_sm g10 (fun a h1 h2 => sI e11 (by omega))
  have c11_1 := cell_I c10_1 e11
  refine go_blk rfl [(.dup, 1, 0, 0, 0, .inl 0), (.bipush 10, 2, 0, 0, 0, .inl 10), (.iconst (-1), 1, 0, 0, 0, .inl (-1)), (.iastore, 1, 20, 0, 0, .inl 0)] 53 58 _ _ _ (by decide +kernel) ?_
  refine And.intro c11_1.1 (Exists.intro 11 (And.intro c11_1.2.1 (And.intro (inb_in (by decide)) ?_)))
  show Go _ _ _ _ 38 11294 58 [(0, rm 0)] [rm 1, rm 0] (Y, pI P11 1 10 (-1)) _
  generalize e12 : pI P11 1 10 (-1) = P12
  have a12 := (aI e12 0).trans a11
  have f12 : ∀ b, (b < 0 ∨ 1 < b) → Same P P12 b := fun b hb => (f11 b (by omega)).tr (sI e12 (by omega))
  have c12_0 := c11_0.sm (sI e12 (by decide))
  have g12 := MG_sm g11 (fun a h1 h2 => sI e12 (by omega))
  have c12_1 := cell_I c11_1 e12
  refine go_putR (idx := 9) (a := 11) (b := 1) (z := 0) (w := some 1) (by decide +kernel) (by decide) rfl (by decide) (by decide) c12_0.1 rfl rfl rfl rfl ⟨rfl, by intro e; cases e⟩ (fun y hy => by cases hy; show cT P12 1 ≠ 0; rw [c12_1.1]; decide) ?_
  show Go _ _ _ _ 38 11294 61 [(0, rm 0)] [] (Y, pR P12 0 1 1) _
  generalize e13 : pR P12 0 1 1 = P13
  have a13 := (aR e13 0).trans a12
  have f13 : ∀ b, (b < 0 ∨ 1 < b) → Same P P13 b := fun b hb => (f12 b (by omega)).tr (sR e13 (by omega))
  have c13_1 := c12_1.sm (sR e13 (by decide))
  have g13 := MG_sm g12 (fun a h1 h2 => sR e13 (by omega))
  have gI := Cell.cI (I2 := mInt 1) c13_1 (by intro j; unfold upd mInt; by_cases h0 : j = 10 <;> by_cases h1 : j = 5 <;> simp [h0, h1])
  have G13 := MG_add (i := 1) g13 gI (by intro j h1 h2; exact mTagz j (by omega) (by omega))
  have c13_0 := cell_R c12_0 e13
  refine go_blk rfl [(.aload_n 0, 1, 0, 0, 0, .inl 0), (.bipush 7, 2, 0, 0, 0, .inl 7)] 61 64 _ _ _ (by decide +kernel) ?_
  show Go _ _ _ _ 38 11294 64 [(0, rm 0)] [vi 7, rm 0] (Y, P13) _
  refine go_newa20 (n := 7) (N' := 7) (x := .inr (.inl 2)) (kc' := 37) (ks' := 11287) (by decide +kernel) (by decide) (by decide) (by decide) trivial ((f13 2 (by omega)).1.trans (hu 2 (by omega) (by omega))) (by simp [jnr]) (by simp [jnr]) (by decide) (by decide) (fun q2 => ?_)
  show Go _ _ _ _ 37 11287 66 [(0, rm 0)] [rm 2, rm 0] (Y, pN P13 2 20 7 q2) _
  generalize e14 : pN P13 2 20 7 q2 = P14
  have a14 := (aN e14 (by decide)).trans a13
  have f14 : ∀ b, (b < 0 ∨ 2 < b) → Same P P14 b := fun b hb => (f13 b (by omega)).tr (sN e14 (by omega))
  have c14_0 := c13_0.sm (sN e14 (by decide))
  have g14 := MG_sm G13 (fun a h1 h2 => sN e14 (by omega))
  have c14_2 := cell_N e14
  refine go_putR (idx := 13) (a := 11) (b := 2) (z := 0) (w := some 2) (by decide +kernel) (by decide) rfl (by decide) (by decide) c14_0.1 rfl rfl rfl rfl ⟨rfl, by intro e; cases e⟩ (fun y hy => by cases hy; show cT P14 2 ≠ 0; rw [c14_2.1]; decide) ?_
  show Go _ _ _ _ 37 11287 69 [(0, rm 0)] [] (Y, pR P14 0 2 2) _
  generalize e15 : pR P14 0 2 2 = P15
  have a15 := (aR e15 0).trans a14
  have f15 : ∀ b, (b < 0 ∨ 2 < b) → Same P P15 b := fun b hb => (f14 b (by omega)).tr (sR e15 (by omega))
  have c15_2 := c14_2.sm (sR e15 (by decide))
  have g15 := MG_sm g14 (fun a h1 h2 => sR e15 (by omega))
  have gI := Cell.cI (I2 := mInt 2) c15_2 (by intro j; unfold mInt; rw [if_neg (by omega)])
  have G15 := MG_add (i := 2) g15 gI (by intro j h1 h2; exact mTagz j (by omega) (by omega))
  have c15_0 := cell_R c14_0 e15
  refine go_blk rfl [(.aload_n 0, 1, 0, 0, 0, .inl 0), (.bipush 7, 2, 0, 0, 0, .inl 7)] 69 72 _ _ _ (by decide +kernel) ?_
  show Go _ _ _ _ 37 11287 72 [(0, rm 0)] [vi 7, rm 0] (Y, P15) _
  refine go_newa20 (n := 7) (N' := 7) (x := .inr (.inl 3)) (kc' := 36) (ks' := 11280) (by decide +kernel) (by decide) (by decide) (by decide) trivial ((f15 3 (by omega)).1.trans (hu 3 (by omega) (by omega))) (by simp [jnr]) (by simp [jnr]) (by decide) (by decide) (fun q3 => ?_)
  show Go _ _ _ _ 36 11280 74 [(0, rm 0)] [rm 3, rm 0] (Y, pN P15 3 20 7 q3) _
  generalize e16 : pN P15 3 20 7 q3 = P16
  have a16 := (aN e16 (by decide)).trans a15
  have f16 : ∀ b, (b < 0 ∨ 3 < b) → Same P P16 b := fun b hb => (f15 b (by omega)).tr (sN e16 (by omega))
  have c16_0 := c15_0.sm (sN e16 (by decide))
  have g16 := MG_sm G15 (fun a h1 h2 => sN e16 (by omega))
  have c16_3 := cell_N e16
  refine go_putR (idx := 16) (a := 11) (b := 3) (z := 0) (w := some 3) (by decide +kernel) (by decide) rfl (by decide) (by decide) c16_0.1 rfl rfl rfl rfl ⟨rfl, by intro e; cases e⟩ (fun y hy => by cases hy; show cT P16 3 ≠ 0; rw [c16_3.1]; decide) ?_
  show Go _ _ _ _ 36 11280 77 [(0, rm 0)] [] (Y, pR P16 0 3 3) _
  generalize e17 : pR P16 0 3 3 = P17
  have a17 := (aR e17 0).trans a16
  have f17 : ∀ b, (b < 0 ∨ 3 < b) → Same P P17 b := fun b hb => (f16 b (by omega)).tr (sR e17 (by omega))
  have c17_3 := c16_3.sm (sR e17 (by decide))
  have g17 := MG_sm g16 (fun a h1 h2 => sR e17 (by omega))
  have gI := Cell.cI (I2 := mInt 3) c17_3 (by intro j; unfold mInt; rw [if_neg (by omega)])
  have G17 := MG_add (i := 3) g17 gI (by intro j h1 h2; exact mTagz j (by omega) (by omega))
  have c17_0 := cell_R c16_0 e17
  refine go_blk rfl [(.aload_n 0, 1, 0, 0, 0, .inl 0), (.bipush 7, 2, 0, 0, 0, .inl 7)] 77 80 _ _ _ (by decide +kernel) ?_
  show Go _ _ _ _ 36 11280 80 [(0, rm 0)] [vi 7, rm 0] (Y, P17) _
  refine go_newa20 (n := 7) (N' := 7) (x := .inr (.inl 4)) (kc' := 35) (ks' := 11273) (by decide +kernel) (by decide) (by decide) (by decide) trivial ((f17 4 (by omega)).1.trans (hu 4 (by omega) (by omega))) (by simp [jnr]) (by simp [jnr]) (by decide) (by decide) (fun q4 => ?_)
  show Go _ _ _ _ 35 11273 82 [(0, rm 0)] [rm 4, rm 0] (Y, pN P17 4 20 7 q4) _
  generalize e18 : pN P17 4 20 7 q4 = P18
  have a18 := (aN e18 (by decide)).trans a17
  have f18 : ∀ b, (b < 0 ∨ 4 < b) → Same P P18 b := fun b hb => (f17 b (by omega)).tr (sN e18 (by omega))
  have c18_0 := c17_0.sm (sN e18 (by decide))
  have g18 := MG_sm G17 (fun a h1 h2 => sN e18 (by omega))
  have c18_4 := cell_N e18
  refine go_putR (idx := 19) (a := 11) (b := 4) (z := 0) (w := some 4) (by decide +kernel) (by decide) rfl (by decide) (by decide) c18_0.1 rfl rfl rfl rfl ⟨rfl, by intro e; cases e⟩ (fun y hy => by cases hy; show cT P18 4 ≠ 0; rw [c18_4.1]; decide) ?_
  show Go _ _ _ _ 35 11273 85 [(0, rm 0)] [] (Y, pR P18 0 4 4) _
  generalize e19 : pR P18 0 4 4 = P19
  have a19 := (aR e19 0).trans a18
  have f19 : ∀ b, (b < 0 ∨ 4 < b) → Same P P19 b := fun b hb => (f18 b (by omega)).tr (sR e19 (by omega))
  have c19_4 := c18_4.sm (sR e19 (by decide))
  have g19 := MG_sm g18 (fun a h1 h2 => sR e19 (by omega))
  have gI := Cell.cI (I2 := mInt 4) c19_4 (by intro j; unfold mInt; rw [if_neg (by omega)])
  have G19 := MG_add (i := 4) g19 gI (by intro j h1 h2; exact mTagz j (by omega) (by omega))
  have c19_0 := cell_R c18_0 e19
  refine go_blk rfl [(.aload_n 0, 1, 0, 0, 0, .inl 0), (.bipush 7, 2, 0, 0, 0, .inl 7)] 85 88 _ _ _ (by decide +kernel) ?_
  show Go _ _ _ _ 35 11273 88 [(0, rm 0)] [vi 7, rm 0] (Y, P19) _
  refine go_newa20 (n := 7) (N' := 7) (x := .inr (.inl 5)) (kc' := 34) (ks' := 11266) (by decide +kernel) (by decide) (by decide) (by decide) trivial ((f19 5 (by omega)).1.trans (hu 5 (by omega) (by omega))) (by simp [jnr]) (by simp [jnr]) (by decide) (by decide) (fun q5 => ?_)
  show Go _ _ _ _ 34 11266 90 [(0, rm 0)] [rm 5, rm 0] (Y, pN P19 5 20 7 q5) _
  generalize e20 : pN P19 5 20 7 q5 = P20
  have a20 := (aN e20 (by decide)).trans a19
  have f20 : ∀ b, (b < 0 ∨ 5 < b) → Same P P20 b := fun b hb => (f19 b (by omega)).tr (sN e20 (by omega))
  have c20_0 := c19_0.sm (sN e20 (by decide))
  have g20 := MG_sm G19 (fun a h1 h2 => sN e20 (by omega))
  have c20_5 := cell_N e20
  refine go_putR (idx := 22) (a := 11) (b := 5) (z := 0) (w := some 5) (by decide +kernel) (by decide) rfl (by decide) (by decide) c20_0.1 rfl rfl rfl rfl ⟨rfl, by intro e; cases e⟩ (fun y hy => by cases hy; show cT P20 5 ≠ 0; rw [c20_5.1]; decide) ?_
  show Go _ _ _ _ 34 11266 93 [(0, rm 0)] [] (Y, pR P20 0 5 5) _
  generalize e21 : pR P20 0 5 5 = P21
  have a21 := (aR e21 0).trans a20
  have f21 : ∀ b, (b < 0 ∨ 5 < b) → Same P P21 b := fun b hb => (f20 b (by omega)).tr (sR e21 (by omega))
  have c21_5 := c20_5.sm (sR e21 (by decide))
  have g21 := MG_sm g20 (fun a h1 h2 => sR e21 (by omega))
  have gI := Cell.cI (I2 := mInt 5) c21_5 (by intro j; unfold mInt; rw [if_neg (by omega)])
  have G21 := MG_add (i := 5) g21 gI (by intro j h1 h2; exact mTagz j (by omega) (by omega))
  have c21_0 := cell_R c20_0 e21
  refine go_blk rfl [(.aload_n 0, 1, 0, 0, 0, .inl 0), (.bipush 7, 2, 0, 0, 0, .inl 7)] 93 96 _ _ _ (by decide +kernel) ?_
  show Go _ _ _ _ 34 11266 96 [(0, rm 0)] [vi 7, rm 0] (Y, P21) _
  refine go_newa20 (n := 7) (N' := 7) (x := .inr (.inl 6)) (kc' := 33) (ks' := 11259) (by decide +kernel) (by decide) (by decide) (by decide) trivial ((f21 6 (by omega)).1.trans (hu 6 (by omega) (by omega))) (by simp [jnr]) (by simp [jnr]) (by decide) (by decide) (fun q6 => ?_)
  show Go _ _ _ _ 33 11259 98 [(0, rm 0)] [rm 6, rm 0] (Y, pN P21 6 20 7 q6) _
  generalize e22 : pN P21 6 20 7 q6 = P22
  have a22 := (aN e22 (by decide)).trans a21
  have f22 : ∀ b, (b < 0 ∨ 6 < b) → Same P P22 b := fun b hb => (f21 b (by omega)).tr (sN e22 (by omega))
  have c22_0 := c21_0.sm (sN e22 (by decide))
  have g22 := MG_sm G21 (fun a h1 h2 => sN e22 (by omega))
  have c22_6 := cell_N e22
  refine go_putR (idx := 25) (a := 11) (b := 6) (z := 0) (w := some 6) (by decide +kernel) (by decide) rfl (by decide) (by decide) c22_0.1 rfl rfl rfl rfl ⟨rfl, by intro e; cases e⟩ (fun y hy => by cases hy; show cT P22 6 ≠ 0; rw [c22_6.1]; decide) ?_
  show Go _ _ _ _ 33 11259 101 [(0, rm 0)] [] (Y, pR P22 0 6 6) _
  generalize e23 : pR P22 0 6 6 = P23
  have a23 := (aR e23 0).trans a22
  have f23 : ∀ b, (b < 0 ∨ 6 < b) → Same P P23 b := fun b hb => (f22 b (by omega)).tr (sR e23 (by omega))
  have c23_6 := c22_6.sm (sR e23 (by decide))
  have g23 := MG_sm g22 (fun a h1 h2 => sR e23 (by omega))
  have gI := Cell.cI (I2 := mInt 6) c23_6 (by intro j; unfold mInt; rw [if_neg (by omega)])
  have G23 := MG_add (i := 6) g23 gI (by intro j h1 h2; exact mTagz j (by omega) (by omega))
  have c23_0 := cell_R c22_0 e23
  refine go_blk rfl [(.aload_n 0, 1, 0, 0, 0, .inl 0), (.bipush 6, 2, 0, 0, 0, .inl 6)] 101 104 _ _ _ (by decide +kernel) ?_
  show Go _ _ _ _ 33 11259 104 [(0, rm 0)] [vi 6, rm 0] (Y, P23) _
  refine go_newa20 (n := 6) (N' := 6) (x := .inr (.inl 7)) (kc' := 32) (ks' := 11253) (by decide +kernel) (by decide) (by decide) (by decide) trivial ((f23 7 (by omega)).1.trans (hu 7 (by omega) (by omega))) (by simp [jnr]) (by simp [jnr]) (by decide) (by decide) (fun q7 => ?_)
  show Go _ _ _ _ 32 11253 106 [(0, rm 0)] [rm 7, rm 0] (Y, pN P23 7 20 6 q7) _
  generalize e24 : pN P23 7 20 6 q7 = P24
  have a24 := (aN e24 (by decide)).trans a23
  have f24 : ∀ b, (b < 0 ∨ 7 < b) → Same P P24 b := fun b hb => (f23 b (by omega)).tr (sN e24 (by omega))
  have c24_0 := c23_0.sm (sN e24 (by decide))
  have g24 := MG_sm G23 (fun a h1 h2 => sN e24 (by omega))
  have c24_7 := cell_N e24
  refine go_putR (idx := 28) (a := 11) (b := 7) (z := 0) (w := some 7) (by decide +kernel) (by decide) rfl (by decide) (by decide) c24_0.1 rfl rfl rfl rfl ⟨rfl, by intro e; cases e⟩ (fun y hy => by cases hy; show cT P24 7 ≠ 0; rw [c24_7.1]; decide) ?_
  show Go _ _ _ _ 32 11253 109 [(0, rm 0)] [] (Y, pR P24 0 7 7) _
  generalize e25 : pR P24 0 7 7 = P25
  have a25 := (aR e25 0).trans a24
  have f25 : ∀ b, (b < 0 ∨ 7 < b) → Same P P25 b := fun b hb => (f24 b (by omega)).tr (sR e25 (by omega))
  have c25_7 := c24_7.sm (sR e25 (by decide))
  have g25 := MG_sm g24 (fun a h1 h2 => sR e25 (by omega))
  have gI := Cell.cI (I2 := mInt 7) c25_7 (by intro j; unfold mInt; rw [if_neg (by omega)])
  have G25 := MG_add (i := 7) g25 gI (by intro j h1 h2; exact mTagz j (by omega) (by omega))
  have c25_0 := cell_R c24_0 e25
  refine go_blk rfl [(.aload_n 0, 1, 0, 0, 0, .inl 0), (.bipush 10, 2, 0, 0, 0, .inl 10)] 109 112 _ _ _ (by decide +kernel) ?_
  show Go _ _ _ _ 32 11253 112 [(0, rm 0)] [vi 10, rm 0] (Y, P25) _
  refine go_newa20 (n := 10) (N' := 10) (x := .inr (.inl 8)) (kc' := 31) (ks' := 11243) (by decide +kernel) (by decide) (by decide) (by decide) trivial ((f25 8 (by omega)).1.trans (hu 8 (by omega) (by omega))) (by simp [jnr]) (by simp [jnr]) (by decide) (by decide) (fun q8 => ?_)
  show Go _ _ _ _ 31 11243 114 [(0, rm 0)] [rm 8, rm 0] (Y, pN P25 8 20 10 q8) _
  generalize e26 : pN P25 8 20 10 q8 = P26
  have a26 := (aN e26 (by decide)).trans a25
  have f26 : ∀ b, (b < 0 ∨ 8 < b) → Same P P26 b := fun b hb => (f25 b (by omega)).tr (sN e26 (by omega))
  have c26_0 := c25_0.sm (sN e26 (by decide))
  have g26 := MG_sm G25 (fun a h1 h2 => sN e26 (by omega))
  have c26_8 := cell_N e26
  refine go_putR (idx := 31) (a := 11) (b := 8) (z := 0) (w := some 8) (by decide +kernel) (by decide) rfl (by decide) (by decide) c26_0.1 rfl rfl rfl rfl ⟨rfl, by intro e; cases e⟩ (fun y hy => by cases hy; show cT P26 8 ≠ 0; rw [c26_8.1]; decide) ?_
  show Go _ _ _ _ 31 11243 117 [(0, rm 0)] [] (Y, pR P26 0 8 8) _
  generalize e27 : pR P26 0 8 8 = P27
  have a27 := (aR e27 0).trans a26
  have f27 : ∀ b, (b < 0 ∨ 8 < b) → Same P P27 b := fun b hb => (f26 b (by omega)).tr (sR e27 (by omega))
  have c27_8 := c26_8.sm (sR e27 (by decide))
  have g27 := MG_sm g26 (fun a h1 h2 => sR e27 (by omega))
  have gI := Cell.cI (I2 := mInt 8) c27_8 (by intro j; unfold mInt; rw [if_neg (by omega)])
  have G27 := MG_add (i := 8) g27 gI (by intro j h1 h2; exact mTagz j (by omega) (by omega))
  have c27_0 := cell_R c26_0 e27
  refine go_blk rfl [(.aload_n 0, 1, 0, 0, 0, .inl 0), (.bipush 10, 2, 0, 0, 0, .inl 10)] 117 120 _ _ _ (by decide +kernel) ?_
  show Go _ _ _ _ 31 11243 120 [(0, rm 0)] [vi 10, rm 0] (Y, P27) _
  refine go_newa20 (n := 10) (N' := 10) (x := .inr (.inl 9)) (kc' := 30) (ks' := 11233) (by decide +kernel) (by decide) (by decide) (by decide) trivial ((f27 9 (by omega)).1.trans (hu 9 (by omega) (by omega))) (by simp [jnr]) (by simp [jnr]) (by decide) (by decide) (fun q9 => ?_)
  show Go _ _ _ _ 30 11233 122 [(0, rm 0)] [rm 9, rm 0] (Y, pN P27 9 20 10 q9) _
  generalize e28 : pN P27 9 20 10 q9 = P28
  have a28 := (aN e28 (by decide)).trans a27
  have f28 : ∀ b, (b < 0 ∨ 9 < b) → Same P P28 b := fun b hb => (f27 b (by omega)).tr (sN e28 (by omega))
  have c28_0 := c27_0.sm (sN e28 (by decide))
  have g28 := MG_sm G27 (fun a h1 h2 => sN e28 (by omega))
  have c28_9 := cell_N e28
  refine go_putR (idx := 34) (a := 11) (b := 9) (z := 0) (w := some 9) (by decide +kernel) (by decide) rfl (by decide) (by decide) c28_0.1 rfl rfl rfl rfl ⟨rfl, by intro e; cases e⟩ (fun y hy => by cases hy; show cT P28 9 ≠ 0; rw [c28_9.1]; decide) ?_
  show Go _ _ _ _ 30 11233 125 [(0, rm 0)] [] (Y, pR P28 0 9 9) _
  generalize e29 : pR P28 0 9 9 = P29
  have a29 := (aR e29 0).trans a28
  have f29 : ∀ b, (b < 0 ∨ 9 < b) → Same P P29 b := fun b hb => (f28 b (by omega)).tr (sR e29 (by omega))
  have c29_9 := c28_9.sm (sR e29 (by decide))
  have g29 := MG_sm g28 (fun a h1 h2 => sR e29 (by omega))
  have gI := Cell.cI (I2 := mInt 9) c29_9 (by intro j; unfold mInt; rw [if_neg (by omega)])
  have G29 := MG_add (i := 9) g29 gI (by intro j h1 h2; exact mTagz j (by omega) (by omega))
  have c29_0 := cell_R c28_0 e29
  refine go_blk rfl [(.aload_n 0, 1, 0, 0, 0, .inl 0), (.bipush 10, 2, 0, 0, 0, .inl 10)] 125 128 _ _ _ (by decide +kernel) ?_
  show Go _ _ _ _ 30 11233 128 [(0, rm 0)] [vi 10, rm 0] (Y, P29) _
  refine go_newa20 (n := 10) (N' := 10) (x := .inr (.inl 10)) (kc' := 29) (ks' := 11223) (by decide +kernel) (by decide) (by decide) (by decide) trivial ((f29 10 (by omega)).1.trans (hu 10 (by omega) (by omega))) (by simp [jnr]) (by simp [jnr]) (by decide) (by decide) (fun q10 => ?_)
  show Go _ _ _ _ 29 11223 130 [(0, rm 0)] [rm 10, rm 0] (Y, pN P29 10 20 10 q10) _
  generalize e30 : pN P29 10 20 10 q10 = P30
  have a30 := (aN e30 (by decide)).trans a29
  have f30 : ∀ b, (b < 0 ∨ 10 < b) → Same P P30 b := fun b hb => (f29 b (by omega)).tr (sN e30 (by omega))
  have c30_0 := c29_0.sm (sN e30 (by decide))
  have g30 := MG_sm G29 (fun a h1 h2 => sN e30 (by omega))
  have c30_10 := cell_N e30
  refine go_putR (idx := 37) (a := 11) (b := 10) (z := 0) (w := some 10) (by decide +kernel) (by decide) rfl (by decide) (by decide) c30_0.1 rfl rfl rfl rfl ⟨rfl, by intro e; cases e⟩ (fun y hy => by cases hy; show cT P30 10 ≠ 0; rw [c30_10.1]; decide) ?_
  show Go _ _ _ _ 29 11223 133 [(0, rm 0)] [] (Y, pR P30 0 10 10) _
  generalize e31 : pR P30 0 10 10 = P31
  have a31 := (aR e31 0).trans a30
  have f31 : ∀ b, (b < 0 ∨ 10 < b) → Same P P31 b := fun b hb => (f30 b (by omega)).tr (sR e31 (by omega))
  have c31_10 := c30_10.sm (sR e31 (by decide))
  have g31 := MG_sm g30 (fun a h1 h2 => sR e31 (by omega))
  have gI := Cell.cI (I2 := mInt 10) c31_10 (by intro j; unfold mInt; rw [if_neg (by omega)])
  have G31 := MG_add (i := 10) g31 gI (by intro j h1 h2; exact mTagz j (by omega) (by omega))
  have c31_0 := cell_R c30_0 e31
  refine go_blk rfl [(.aload_n 0, 1, 0, 0, 0, .inl 0), (.bipush 7, 2, 0, 0, 0, .inl 7)] 133 136 _ _ _ (by decide +kernel) ?_
  show Go _ _ _ _ 29 11223 136 [(0, rm 0)] [vi 7, rm 0] (Y, P31) _
  refine go_newa20 (n := 7) (N' := 7) (x := .inr (.inl 11)) (kc' := 28) (ks' := 11216) (by decide +kernel) (by decide) (by decide) (by decide) trivial ((f31 11 (by omega)).1.trans (hu 11 (by omega) (by omega))) (by simp [jnr]) (by simp [jnr]) (by decide) (by decide) (fun q11 => ?_)
  show Go _ _ _ _ 28 11216 138 [(0, rm 0)] [rm 11, rm 0] (Y, pN P31 11 20 7 q11) _
  generalize e32 : pN P31 11 20 7 q11 = P32
  have a32 := (aN e32 (by decide)).trans a31
  have f32 : ∀ b, (b < 0 ∨ 11 < b) → Same P P32 b := fun b hb => (f31 b (by omega)).tr (sN e32 (by omega))
  have c32_0 := c31_0.sm (sN e32 (by decide))
  have g32 := MG_sm G31 (fun a h1 h2 => sN e32 (by omega))
  have c32_11 := cell_N e32
  refine go_putR (idx := 40) (a := 11) (b := 11) (z := 0) (w := some 11) (by decide +kernel) (by decide) rfl (by decide) (by decide) c32_0.1 rfl rfl rfl rfl ⟨rfl, by intro e; cases e⟩ (fun y hy => by cases hy; show cT P32 11 ≠ 0; rw [c32_11.1]; decide) ?_
  show Go _ _ _ _ 28 11216 141 [(0, rm 0)] [] (Y, pR P32 0 11 11) _
  generalize e33 : pR P32 0 11 11 = P33
  have a33 := (aR e33 0).trans a32
  have f33 : ∀ b, (b < 0 ∨ 11 < b) → Same P P33 b := fun b hb => (f32 b (by omega)).tr (sR e33 (by omega))
  have c33_11 := c32_11.sm (sR e33 (by decide))
  have g33 := MG_sm g32 (fun a h1 h2 => sR e33 (by omega))
  have gI := Cell.cI (I2 := mInt 11) c33_11 (by intro j; unfold mInt; rw [if_neg (by omega)])
  have G33 := MG_add (i := 11) g33 gI (by intro j h1 h2; exact mTagz j (by omega) (by omega))
  have c33_0 := cell_R c32_0 e33
  refine go_blk rfl [(.aload_n 0, 1, 0, 0, 0, .inl 0), (.bipush 7, 2, 0, 0, 0, .inl 7)] 141 144 _ _ _ (by decide +kernel) ?_
  show Go _ _ _ _ 28 11216 144 [(0, rm 0)] [vi 7, rm 0] (Y, P33) _
  refine go_newa20 (n := 7) (N' := 7) (x := .inr (.inl 12)) (kc' := 27) (ks' := 11209) (by decide +kernel) (by decide) (by decide) (by decide) trivial ((f33 12 (by omega)).1.trans (hu 12 (by omega) (by omega))) (by simp [jnr]) (by simp [jnr]) (by decide) (by decide) (fun q12 => ?_)
  show Go _ _ _ _ 27 11209 146 [(0, rm 0)] [rm 12, rm 0] (Y, pN P33 12 20 7 q12) _
  generalize e34 : pN P33 12 20 7 q12 = P34
  have a34 := (aN e34 (by decide)).trans a33
  have f34 : ∀ b, (b < 0 ∨ 12 < b) → Same P P34 b := fun b hb => (f33 b (by omega)).tr (sN e34 (by omega))
  have c34_0 := c33_0.sm (sN e34 (by decide))
  have g34 := MG_sm G33 (fun a h1 h2 => sN e34 (by omega))
  have c34_12 := cell_N e34
  refine go_putR (idx := 43) (a := 11) (b := 12) (z := 0) (w := some 12) (by decide +kernel) (by decide) rfl (by decide) (by decide) c34_0.1 rfl rfl rfl rfl ⟨rfl, by intro e; cases e⟩ (fun y hy => by cases hy; show cT P34 12 ≠ 0; rw [c34_12.1]; decide) ?_
  show Go _ _ _ _ 27 11209 149 [(0, rm 0)] [] (Y, pR P34 0 12 12) _
  generalize e35 : pR P34 0 12 12 = P35
  have a35 := (aR e35 0).trans a34
  have f35 : ∀ b, (b < 0 ∨ 12 < b) → Same P P35 b := fun b hb => (f34 b (by omega)).tr (sR e35 (by omega))
  have c35_12 := c34_12.sm (sR e35 (by decide))
  have g35 := MG_sm g34 (fun a h1 h2 => sR e35 (by omega))
  have gI := Cell.cI (I2 := mInt 12) c35_12 (by intro j; unfold mInt; rw [if_neg (by omega)])
  have G35 := MG_add (i := 12) g35 gI (by intro j h1 h2; exact mTagz j (by omega) (by omega))
  have c35_0 := cell_R c34_0 e35
  refine go_blk rfl [(.aload_n 0, 1, 0, 0, 0, .inl 0), (.bipush 7, 2, 0, 0, 0, .inl 7)] 149 152 _ _ _ (by decide +kernel) ?_
  show Go _ _ _ _ 27 11209 152 [(0, rm 0)] [vi 7, rm 0] (Y, P35) _
  refine go_newa20 (n := 7) (N' := 7) (x := .inr (.inl 13)) (kc' := 26) (ks' := 11202) (by decide +kernel) (by decide) (by decide) (by decide) trivial ((f35 13 (by omega)).1.trans (hu 13 (by omega) (by omega))) (by simp [jnr]) (by simp [jnr]) (by decide) (by decide) (fun q13 => ?_)
  show Go _ _ _ _ 26 11202 154 [(0, rm 0)] [rm 13, rm 0] (Y, pN P35 13 20 7 q13) _
  generalize e36 : pN P35 13 20 7 q13 = P36
  have a36 := (aN e36 (by decide)).trans a35
  have f36 : ∀ b, (b < 0 ∨ 13 < b) → Same P P36 b := fun b hb => (f35 b (by omega)).tr (sN e36 (by omega))
  have c36_0 := c35_0.sm (sN e36 (by decide))
  have g36 := MG_sm G35 (fun a h1 h2 => sN e36 (by omega))
  have c36_13 := cell_N e36
  refine go_putR (idx := 46) (a := 11) (b := 13) (z := 0) (w := some 13) (by decide +kernel) (by decide) rfl (by decide) (by decide) c36_0.1 rfl rfl rfl rfl ⟨rfl, by intro e; cases e⟩ (fun y hy => by cases hy; show cT P36 13 ≠ 0; rw [c36_13.1]; decide) ?_
  show Go _ _ _ _ 26 11202 157 [(0, rm 0)] [] (Y, pR P36 0 13 13) _
  generalize e37 : pR P36 0 13 13 = P37
  have a37 := (aR e37 0).trans a36
  have f37 : ∀ b, (b < 0 ∨ 13 < b) → Same P P37 b := fun b hb => (f36 b (by omega)).tr (sR e37 (by omega))
  have c37_13 := c36_13.sm (sR e37 (by decide))
  have g37 := MG_sm g36 (fun a h1 h2 => sR e37 (by omega))
  have gI := Cell.cI (I2 := mInt 13) c37_13 (by intro j; unfold mInt; rw [if_neg (by omega)])
  have G37 := MG_add (i := 13) g37 gI (by intro j h1 h2; exact mTagz j (by omega) (by omega))
  have c37_0 := cell_R c36_0 e37
  refine go_blk rfl [(.aload_n 0, 1, 0, 0, 0, .inl 0), (.iconst 3, 1, 0, 0, 0, .inl 3)] 157 159 _ _ _ (by decide +kernel) ?_
  show Go _ _ _ _ 26 11202 159 [(0, rm 0)] [vi 3, rm 0] (Y, P37) _
  refine go_newa20 (n := 3) (N' := 3) (x := .inr (.inl 14)) (kc' := 25) (ks' := 11199) (by decide +kernel) (by decide) (by decide) (by decide) trivial ((f37 14 (by omega)).1.trans (hu 14 (by omega) (by omega))) (by simp [jnr]) (by simp [jnr]) (by decide) (by decide) (fun q14 => ?_)
  show Go _ _ _ _ 25 11199 161 [(0, rm 0)] [rm 14, rm 0] (Y, pN P37 14 20 3 q14) _
  generalize e38 : pN P37 14 20 3 q14 = P38
  have a38 := (aN e38 (by decide)).trans a37
  have f38 : ∀ b, (b < 0 ∨ 14 < b) → Same P P38 b := fun b hb => (f37 b (by omega)).tr (sN e38 (by omega))
  have c38_0 := c37_0.sm (sN e38 (by decide))
  have g38 := MG_sm G37 (fun a h1 h2 => sN e38 (by omega))
  have c38_14 := cell_N e38
  refine go_putR (idx := 49) (a := 11) (b := 14) (z := 0) (w := some 14) (by decide +kernel) (by decide) rfl (by decide) (by decide) c38_0.1 rfl rfl rfl rfl ⟨rfl, by intro e; cases e⟩ (fun y hy => by cases hy; show cT P38 14 ≠ 0; rw [c38_14.1]; decide) ?_
  show Go _ _ _ _ 25 11199 164 [(0, rm 0)] [] (Y, pR P38 0 14 14) _
  generalize e39 : pR P38 0 14 14 = P39
  have a39 := (aR e39 0).trans a38
  have f39 : ∀ b, (b < 0 ∨ 14 < b) → Same P P39 b := fun b hb => (f38 b (by omega)).tr (sR e39 (by omega))
  have c39_14 := c38_14.sm (sR e39 (by decide))
  have g39 := MG_sm g38 (fun a h1 h2 => sR e39 (by omega))
  have gI := Cell.cI (I2 := mInt 14) c39_14 (by intro j; unfold mInt; rw [if_neg (by omega)])
  have G39 := MG_add (i := 14) g39 gI (by intro j h1 h2; exact mTagz j (by omega) (by omega))
  have c39_0 := cell_R c38_0 e39
  refine go_blk rfl [(.aload_n 0, 1, 0, 0, 0, .inl 0), (.bipush 6, 2, 0, 0, 0, .inl 6)] 164 167 _ _ _ (by decide +kernel) ?_
  show Go _ _ _ _ 25 11199 167 [(0, rm 0)] [vi 6, rm 0] (Y, P39) _
  refine go_newa20 (n := 6) (N' := 6) (x := .inr (.inl 15)) (kc' := 24) (ks' := 11193) (by decide +kernel) (by decide) (by decide) (by decide) trivial ((f39 15 (by omega)).1.trans (hu 15 (by omega) (by omega))) (by simp [jnr]) (by simp [jnr]) (by decide) (by decide) (fun q15 => ?_)
  show Go _ _ _ _ 24 11193 169 [(0, rm 0)] [rm 15, rm 0] (Y, pN P39 15 20 6 q15) _
  generalize e40 : pN P39 15 20 6 q15 = P40
  have a40 := (aN e40 (by decide)).trans a39
  have f40 : ∀ b, (b < 0 ∨ 15 < b) → Same P P40 b := fun b hb => (f39 b (by omega)).tr (sN e40 (by omega))
  have c40_0 := c39_0.sm (sN e40 (by decide))
  have g40 := MG_sm G39 (fun a h1 h2 => sN e40 (by omega))
  have c40_15 := cell_N e40
  refine go_putR (idx := 52) (a := 11) (b := 15) (z := 0) (w := some 15) (by decide +kernel) (by decide) rfl (by decide) (by decide) c40_0.1 rfl rfl rfl rfl ⟨rfl, by intro e; cases e⟩ (fun y hy => by cases hy; show cT P40 15 ≠ 0; rw [c40_15.1]; decide) ?_
  show Go _ _ _ _ 24 11193 172 [(0, rm 0)] [] (Y, pR P40 0 15 15) _
  generalize e41 : pR P40 0 15 15 = P41
  have a41 := (aR e41 0).trans a40
  have f41 : ∀ b, (b < 0 ∨ 15 < b) → Same P P41 b := fun b hb => (f40 b (by omega)).tr (sR e41 (by omega))
  have c41_15 := c40_15.sm (sR e41 (by decide))
  have g41 := MG_sm g40 (fun a h1 h2 => sR e41 (by omega))
  have gI := Cell.cI (I2 := mInt 15) c41_15 (by intro j; unfold mInt; rw [if_neg (by omega)])
  have G41 := MG_add (i := 15) g41 gI (by intro j h1 h2; exact mTagz j (by omega) (by omega))
  have c41_0 := cell_R c40_0 e41
  refine go_blk rfl [(.aload_n 0, 1, 0, 0, 0, .inl 0), (.bipush 7, 2, 0, 0, 0, .inl 7)] 172 175 _ _ _ (by decide +kernel) ?_
  show Go _ _ _ _ 24 11193 175 [(0, rm 0)] [vi 7, rm 0] (Y, P41) _
  refine go_newa20 (n := 7) (N' := 7) (x := .inr (.inl 16)) (kc' := 23) (ks' := 11186) (by decide +kernel) (by decide) (by decide) (by decide) trivial ((f41 16 (by omega)).1.trans (hu 16 (by omega) (by omega))) (by simp [jnr]) (by simp [jnr]) (by decide) (by decide) (fun q16 => ?_)
  show Go _ _ _ _ 23 11186 177 [(0, rm 0)] [rm 16, rm 0] (Y, pN P41 16 20 7 q16) _
  generalize e42 : pN P41 16 20 7 q16 = P42
  have a42 := (aN e42 (by decide)).trans a41
  have f42 : ∀ b, (b < 0 ∨ 16 < b) → Same P P42 b := fun b hb => (f41 b (by omega)).tr (sN e42 (by omega))
  have c42_0 := c41_0.sm (sN e42 (by decide))
  have g42 := MG_sm G41 (fun a h1 h2 => sN e42 (by omega))
  have c42_16 := cell_N e42
  refine go_putR (idx := 55) (a := 11) (b := 16) (z := 0) (w := some 16) (by decide +kernel) (by decide) rfl (by decide) (by decide) c42_0.1 rfl rfl rfl rfl ⟨rfl, by intro e; cases e⟩ (fun y hy => by cases hy; show cT P42 16 ≠ 0; rw [c42_16.1]; decide) ?_
  show Go _ _ _ _ 23 11186 180 [(0, rm 0)] [] (Y, pR P42 0 16 16) _
  generalize e43 : pR P42 0 16 16 = P43
  have a43 := (aR e43 0).trans a42
  have f43 : ∀ b, (b < 0 ∨ 16 < b) → Same P P43 b := fun b hb => (f42 b (by omega)).tr (sR e43 (by omega))
  have c43_16 := c42_16.sm (sR e43 (by decide))
  have g43 := MG_sm g42 (fun a h1 h2 => sR e43 (by omega))
  have gI := Cell.cI (I2 := mInt 16) c43_16 (by intro j; unfold mInt; rw [if_neg (by omega)])
  have G43 := MG_add (i := 16) g43 gI (by intro j h1 h2; exact mTagz j (by omega) (by omega))
  have c43_0 := cell_R c42_0 e43
  refine go_blk rfl [(.aload_n 0, 1, 0, 0, 0, .inl 0), (.bipush 7, 2, 0, 0, 0, .inl 7)] 180 183 _ _ _ (by decide +kernel) ?_
  show Go _ _ _ _ 23 11186 183 [(0, rm 0)] [vi 7, rm 0] (Y, P43) _
  refine go_newa20 (n := 7) (N' := 7) (x := .inr (.inl 17)) (kc' := 22) (ks' := 11179) (by decide +kernel) (by decide) (by decide) (by decide) trivial ((f43 17 (by omega)).1.trans (hu 17 (by omega) (by omega))) (by simp [jnr]) (by simp [jnr]) (by decide) (by decide) (fun q17 => ?_)
  show Go _ _ _ _ 22 11179 185 [(0, rm 0)] [rm 17, rm 0] (Y, pN P43 17 20 7 q17) _
  generalize e44 : pN P43 17 20 7 q17 = P44
  have a44 := (aN e44 (by decide)).trans a43
  have f44 : ∀ b, (b < 0 ∨ 17 < b) → Same P P44 b := fun b hb => (f43 b (by omega)).tr (sN e44 (by omega))
  have c44_0 := c43_0.sm (sN e44 (by decide))
  have g44 := MG_sm G43 (fun a h1 h2 => sN e44 (by omega))
  have c44_17 := cell_N e44
  refine go_putR (idx := 58) (a := 11) (b := 17) (z := 0) (w := some 17) (by decide +kernel) (by decide) rfl (by decide) (by decide) c44_0.1 rfl rfl rfl rfl ⟨rfl, by intro e; cases e⟩ (fun y hy => by cases hy; show cT P44 17 ≠ 0; rw [c44_17.1]; decide) ?_
  show Go _ _ _ _ 22 11179 188 [(0, rm 0)] [] (Y, pR P44 0 17 17) _
  generalize e45 : pR P44 0 17 17 = P45
  have a45 := (aR e45 0).trans a44
  have f45 : ∀ b, (b < 0 ∨ 17 < b) → Same P P45 b := fun b hb => (f44 b (by omega)).tr (sR e45 (by omega))
  have c45_17 := c44_17.sm (sR e45 (by decide))
  have g45 := MG_sm g44 (fun a h1 h2 => sR e45 (by omega))
  have gI := Cell.cI (I2 := mInt 17) c45_17 (by intro j; unfold mInt; rw [if_neg (by omega)])
  have G45 := MG_add (i := 17) g45 gI (by intro j h1 h2; exact mTagz j (by omega) (by omega))
  have c45_0 := cell_R c44_0 e45
  refine go_blk rfl [(.aload_n 0, 1, 0, 0, 0, .inl 0), (.bipush 7, 2, 0, 0, 0, .inl 7)] 188 191 _ _ _ (by decide +kernel) ?_
  show Go _ _ _ _ 22 11179 191 [(0, rm 0)] [vi 7, rm 0] (Y, P45) _
  refine go_newa20 (n := 7) (N' := 7) (x := .inr (.inl 18)) (kc' := 21) (ks' := 11172) (by decide +kernel) (by decide) (by decide) (by decide) trivial ((f45 18 (by omega)).1.trans (hu 18 (by omega) (by omega))) (by simp [jnr]) (by simp [jnr]) (by decide) (by decide) (fun q18 => ?_)
  show Go _ _ _ _ 21 11172 193 [(0, rm 0)] [rm 18, rm 0] (Y, pN P45 18 20 7 q18) _
  generalize e46 : pN P45 18 20 7 q18 = P46
  have a46 := (aN e46 (by decide)).trans a45
  have f46 : ∀ b, (b < 0 ∨ 18 < b) → Same P P46 b := fun b hb => (f45 b (by omega)).tr (sN e46 (by omega))
  have c46_0 := c45_0.sm (sN e46 (by decide))
  have g46 := MG_sm G45 (fun a h1 h2 => sN e46 (by omega))
  have c46_18 := cell_N e46
  refine go_putR (idx := 61) (a := 11) (b := 18) (z := 0) (w := some 18) (by decide +kernel) (by decide) rfl (by decide) (by decide) c46_0.1 rfl rfl rfl rfl ⟨rfl, by intro e; cases e⟩ (fun y hy => by cases hy; show cT P46 18 ≠ 0; rw [c46_18.1]; decide) ?_
  show Go _ _ _ _ 21 11172 196 [(0, rm 0)] [] (Y, pR P46 0 18 18) _
  generalize e47 : pR P46 0 18 18 = P47
  have a47 := (aR e47 0).trans a46
  have f47 : ∀ b, (b < 0 ∨ 18 < b) → Same P P47 b := fun b hb => (f46 b (by omega)).tr (sR e47 (by omega))
  have c47_18 := c46_18.sm (sR e47 (by decide))
  have g47 := MG_sm g46 (fun a h1 h2 => sR e47 (by omega))
  have gI := Cell.cI (I2 := mInt 18) c47_18 (by intro j; unfold mInt; rw [if_neg (by omega)])
  have G47 := MG_add (i := 18) g47 gI (by intro j h1 h2; exact mTagz j (by omega) (by omega))
  have c47_0 := cell_R c46_0 e47
  refine go_blk rfl [(.aload_n 0, 1, 0, 0, 0, .inl 0), (.bipush 10, 2, 0, 0, 0, .inl 10), (.putfield 64, 3, 11, 28, 0, .inl 0)] 196 202 _ _ _ (by decide +kernel) ?_
  refine And.intro c47_0.1 (And.intro trivial ?_)
  show Go _ _ _ _ 21 11172 202 [(0, rm 0)] [] (Y, pI P47 0 28 10) _
  generalize e48 : pI P47 0 28 10 = P48
  have a48 := (aI e48 0).trans a47
  have f48 : ∀ b, (b < 0 ∨ 18 < b) → Same P P48 b := fun b hb => (f47 b (by omega)).tr (sI e48 (by omega))
  have g48 := MG_sm G47 (fun a h1 h2 => sI e48 (by omega))
  have c48_0 := cell_I c47_0 e48
  refine go_blk rfl [(.aload_n 0, 1, 0, 0, 0, .inl 0), (.sipush 400, 3, 0, 0, 0, .inl 400)] 202 206 _ _ _ (by decide +kernel) ?_
  show Go _ _ _ _ 21 11172 206 [(0, rm 0)] [vi 400, rm 0] (Y, P48) _
  refine go_newa21 (n := 400) (N' := 400) (x := .inr (.inl 29)) (kc' := 20) (ks' := 10772) (by decide +kernel) (by decide) (by decide) (by decide) trivial ((f48 29 (by omega)).1.trans (hu 29 (by omega) (by omega))) (by simp [jnr]) (by simp [jnr]) (by decide) (by decide) (fun q19 => ?_)
  show Go _ _ _ _ 20 10772 208 [(0, rm 0)] [rm 29, rm 0] (Y, pN P48 29 21 400 q19) _
  generalize e49 : pN P48 29 21 400 q19 = P49
  have a49 := (aN e49 (by decide)).trans a48
  have f49 : ∀ b, (b < 0 ∨ 18 < b) ∧ (b < 29 ∨ 29 < b) → Same P P49 b := fun b hb => (f48 b (by omega)).tr (sN e49 (by omega))
  have c49_0 := c48_0.sm (sN e49 (by decide))
  have g49 := MG_sm g48 (fun a h1 h2 => sN e49 (by omega))
  have c49_19 := cell_N e49
  refine go_putR (idx := 68) (a := 11) (b := 29) (z := 0) (w := some 29) (by decide +kernel) (by decide) rfl (by decide) (by decide) c49_0.1 rfl rfl rfl rfl ⟨rfl, by intro e; cases e⟩ (fun y hy => by cases hy; show cT P49 29 ≠ 0; rw [c49_19.1]; decide) ?_
  show Go _ _ _ _ 20 10772 211 [(0, rm 0)] [] (Y, pR P49 0 29 29) _
  generalize e50 : pR P49 0 29 29 = P50
  have a50 := (aR e50 0).trans a49
  have f50 : ∀ b, (b < 0 ∨ 18 < b) ∧ (b < 29 ∨ 29 < b) → Same P P50 b := fun b hb => (f49 b (by omega)).tr (sR e50 (by omega))
  have c50_19 := c49_19.sm (sR e50 (by decide))
  have g50 := MG_sm g49 (fun a h1 h2 => sR e50 (by omega))
  have gI := Cell.cI (I2 := mInt 29) c50_19 (by intro j; unfold mInt; rw [if_neg (by omega)])
  have G50 := MG_add (i := 29) g50 gI (by intro j h1 h2; exact mTagz j (by omega) (by omega))
  have c50_0 := cell_R c49_0 e50
  refine go_blk rfl [(.aload_n 0, 1, 0, 0, 0, .inl 0), (.sipush 1800, 3, 0, 0, 0, .inl 1800)] 211 215 _ _ _ (by decide +kernel) ?_
  show Go _ _ _ _ 20 10772 215 [(0, rm 0)] [vi 1800, rm 0] (Y, P50) _
  refine go_newa20 (n := 1800) (N' := 1800) (x := .inr (.inl 30)) (kc' := 19) (ks' := 8972) (by decide +kernel) (by decide) (by decide) (by decide) trivial ((f50 30 (by omega)).1.trans (hu 30 (by omega) (by omega))) (by simp [jnr]) (by simp [jnr]) (by decide) (by decide) (fun q20 => ?_)
  show Go _ _ _ _ 19 8972 217 [(0, rm 0)] [rm 30, rm 0] (Y, pN P50 30 20 1800 q20) _
  generalize e51 : pN P50 30 20 1800 q20 = P51
  have a51 := (aN e51 (by decide)).trans a50
  have f51 : ∀ b, (b < 0 ∨ 18 < b) ∧ (b < 29 ∨ 30 < b) → Same P P51 b := fun b hb => (f50 b (by omega)).tr (sN e51 (by omega))
  have c51_0 := c50_0.sm (sN e51 (by decide))
  have g51 := MG_sm G50 (fun a h1 h2 => sN e51 (by omega))
  have c51_20 := cell_N e51
  refine go_putR (idx := 72) (a := 11) (b := 30) (z := 0) (w := some 30) (by decide +kernel) (by decide) rfl (by decide) (by decide) c51_0.1 rfl rfl rfl rfl ⟨rfl, by intro e; cases e⟩ (fun y hy => by cases hy; show cT P51 30 ≠ 0; rw [c51_20.1]; decide) ?_
  show Go _ _ _ _ 19 8972 220 [(0, rm 0)] [] (Y, pR P51 0 30 30) _
  generalize e52 : pR P51 0 30 30 = P52
  have a52 := (aR e52 0).trans a51
  have f52 : ∀ b, (b < 0 ∨ 18 < b) ∧ (b < 29 ∨ 30 < b) → Same P P52 b := fun b hb => (f51 b (by omega)).tr (sR e52 (by omega))
  have c52_20 := c51_20.sm (sR e52 (by decide))
  have g52 := MG_sm g51 (fun a h1 h2 => sR e52 (by omega))
  have gI := Cell.cI (I2 := mInt 30) c52_20 (by intro j; unfold mInt; rw [if_neg (by omega)])
  have G52 := MG_add (i := 30) g52 gI (by intro j h1 h2; exact mTagz j (by omega) (by omega))
  have c52_0 := cell_R c51_0 e52
  refine go_blk rfl [(.aload_n 0, 1, 0, 0, 0, .inl 0), (.sipush 1800, 3, 0, 0, 0, .inl 1800)] 220 224 _ _ _ (by decide +kernel) ?_
  show Go _ _ _ _ 19 8972 224 [(0, rm 0)] [vi 1800, rm 0] (Y, P52) _
  refine go_newa20 (n := 1800) (N' := 1800) (x := .inr (.inl 31)) (kc' := 18) (ks' := 7172) (by decide +kernel) (by decide) (by decide) (by decide) trivial ((f52 31 (by omega)).1.trans (hu 31 (by omega) (by omega))) (by simp [jnr]) (by simp [jnr]) (by decide) (by decide) (fun q21 => ?_)
  show Go _ _ _ _ 18 7172 226 [(0, rm 0)] [rm 31, rm 0] (Y, pN P52 31 20 1800 q21) _
  generalize e53 : pN P52 31 20 1800 q21 = P53
  have a53 := (aN e53 (by decide)).trans a52
  have f53 : ∀ b, (b < 0 ∨ 18 < b) ∧ (b < 29 ∨ 31 < b) → Same P P53 b := fun b hb => (f52 b (by omega)).tr (sN e53 (by omega))
  have c53_0 := c52_0.sm (sN e53 (by decide))
  have g53 := MG_sm G52 (fun a h1 h2 => sN e53 (by omega))
  have c53_21 := cell_N e53
  refine go_putR (idx := 75) (a := 11) (b := 31) (z := 0) (w := some 31) (by decide +kernel) (by decide) rfl (by decide) (by decide) c53_0.1 rfl rfl rfl rfl ⟨rfl, by intro e; cases e⟩ (fun y hy => by cases hy; show cT P53 31 ≠ 0; rw [c53_21.1]; decide) ?_
  show Go _ _ _ _ 18 7172 229 [(0, rm 0)] [] (Y, pR P53 0 31 31) _
  generalize e54 : pR P53 0 31 31 = P54
  have a54 := (aR e54 0).trans a53
  have f54 : ∀ b, (b < 0 ∨ 18 < b) ∧ (b < 29 ∨ 31 < b) → Same P P54 b := fun b hb => (f53 b (by omega)).tr (sR e54 (by omega))
  have c54_21 := c53_21.sm (sR e54 (by decide))
  have g54 := MG_sm g53 (fun a h1 h2 => sR e54 (by omega))
  have gI := Cell.cI (I2 := mInt 31) c54_21 (by intro j; unfold mInt; rw [if_neg (by omega)])
  have G54 := MG_add (i := 31) g54 gI (by intro j h1 h2; exact mTagz j (by omega) (by omega))
  have c54_0 := cell_R c53_0 e54
  refine go_blk rfl [(.aload_n 0, 1, 0, 0, 0, .inl 0), (.bipush 6, 2, 0, 0, 0, .inl 6)] 229 232 _ _ _ (by decide +kernel) ?_
  show Go _ _ _ _ 18 7172 232 [(0, rm 0)] [vi 6, rm 0] (Y, P54) _
  refine go_newa20 (n := 6) (N' := 6) (x := .inr (.inl 32)) (kc' := 17) (ks' := 7166) (by decide +kernel) (by decide) (by decide) (by decide) trivial ((f54 32 (by omega)).1.trans (hu 32 (by omega) (by omega))) (by simp [jnr]) (by simp [jnr]) (by decide) (by decide) (fun q22 => ?_)
  show Go _ _ _ _ 17 7166 234 [(0, rm 0)] [rm 32, rm 0] (Y, pN P54 32 20 6 q22) _
  generalize e55 : pN P54 32 20 6 q22 = P55
  have a55 := (aN e55 (by decide)).trans a54
  have f55 : ∀ b, (b < 0 ∨ 18 < b) ∧ (b < 29 ∨ 32 < b) → Same P P55 b := fun b hb => (f54 b (by omega)).tr (sN e55 (by omega))
  have c55_0 := c54_0.sm (sN e55 (by decide))
  have g55 := MG_sm G54 (fun a h1 h2 => sN e55 (by omega))
  have c55_22 := cell_N e55
  refine go_putR (idx := 78) (a := 11) (b := 32) (z := 0) (w := some 32) (by decide +kernel) (by decide) rfl (by decide) (by decide) c55_0.1 rfl rfl rfl rfl ⟨rfl, by intro e; cases e⟩ (fun y hy => by cases hy; show cT P55 32 ≠ 0; rw [c55_22.1]; decide) ?_
  show Go _ _ _ _ 17 7166 237 [(0, rm 0)] [] (Y, pR P55 0 32 32) _
  generalize e56 : pR P55 0 32 32 = P56
  have a56 := (aR e56 0).trans a55
  have f56 : ∀ b, (b < 0 ∨ 18 < b) ∧ (b < 29 ∨ 32 < b) → Same P P56 b := fun b hb => (f55 b (by omega)).tr (sR e56 (by omega))
  have c56_22 := c55_22.sm (sR e56 (by decide))
  have g56 := MG_sm g55 (fun a h1 h2 => sR e56 (by omega))
  have gI := Cell.cI (I2 := mInt 32) c56_22 (by intro j; unfold mInt; rw [if_neg (by omega)])
  have G56 := MG_add (i := 32) g56 gI (by intro j h1 h2; exact mTagz j (by omega) (by omega))
  have c56_0 := cell_R c55_0 e56
  refine go_blk rfl [(.aload_n 0, 1, 0, 0, 0, .inl 0), (.bipush 72, 2, 0, 0, 0, .inl 72)] 237 240 _ _ _ (by decide +kernel) ?_
  show Go _ _ _ _ 17 7166 240 [(0, rm 0)] [vi 72, rm 0] (Y, P56) _
  refine go_newa20 (n := 72) (N' := 72) (x := .inr (.inl 33)) (kc' := 16) (ks' := 7094) (by decide +kernel) (by decide) (by decide) (by decide) trivial ((f56 33 (by omega)).1.trans (hu 33 (by omega) (by omega))) (by simp [jnr]) (by simp [jnr]) (by decide) (by decide) (fun q23 => ?_)
  show Go _ _ _ _ 16 7094 242 [(0, rm 0)] [rm 33, rm 0] (Y, pN P56 33 20 72 q23) _
  generalize e57 : pN P56 33 20 72 q23 = P57
  have a57 := (aN e57 (by decide)).trans a56
  have f57 : ∀ b, (b < 0 ∨ 18 < b) ∧ (b < 29 ∨ 33 < b) → Same P P57 b := fun b hb => (f56 b (by omega)).tr (sN e57 (by omega))
  have c57_0 := c56_0.sm (sN e57 (by decide))
  have g57 := MG_sm G56 (fun a h1 h2 => sN e57 (by omega))
  have c57_23 := cell_N e57
  refine go_putR (idx := 81) (a := 11) (b := 33) (z := 0) (w := some 33) (by decide +kernel) (by decide) rfl (by decide) (by decide) c57_0.1 rfl rfl rfl rfl ⟨rfl, by intro e; cases e⟩ (fun y hy => by cases hy; show cT P57 33 ≠ 0; rw [c57_23.1]; decide) ?_
  show Go _ _ _ _ 16 7094 245 [(0, rm 0)] [] (Y, pR P57 0 33 33) _
  generalize e58 : pR P57 0 33 33 = P58
  have a58 := (aR e58 0).trans a57
  have f58 : ∀ b, (b < 0 ∨ 18 < b) ∧ (b < 29 ∨ 33 < b) → Same P P58 b := fun b hb => (f57 b (by omega)).tr (sR e58 (by omega))
  have c58_23 := c57_23.sm (sR e58 (by decide))
  have g58 := MG_sm g57 (fun a h1 h2 => sR e58 (by omega))
  have gI := Cell.cI (I2 := mInt 33) c58_23 (by intro j; unfold mInt; rw [if_neg (by omega)])
  have G58 := MG_add (i := 33) g58 gI (by intro j h1 h2; exact mTagz j (by omega) (by omega))
  have c58_0 := cell_R c57_0 e58
  refine go_blk rfl [(.aload_n 0, 1, 0, 0, 0, .inl 0), (.bipush 72, 2, 0, 0, 0, .inl 72)] 245 248 _ _ _ (by decide +kernel) ?_
  show Go _ _ _ _ 16 7094 248 [(0, rm 0)] [vi 72, rm 0] (Y, P58) _
  refine go_newa20 (n := 72) (N' := 72) (x := .inr (.inl 34)) (kc' := 15) (ks' := 7022) (by decide +kernel) (by decide) (by decide) (by decide) trivial ((f58 34 (by omega)).1.trans (hu 34 (by omega) (by omega))) (by simp [jnr]) (by simp [jnr]) (by decide) (by decide) (fun q24 => ?_)
  show Go _ _ _ _ 15 7022 250 [(0, rm 0)] [rm 34, rm 0] (Y, pN P58 34 20 72 q24) _
  generalize e59 : pN P58 34 20 72 q24 = P59
  have a59 := (aN e59 (by decide)).trans a58
  have f59 : ∀ b, (b < 0 ∨ 18 < b) ∧ (b < 29 ∨ 34 < b) → Same P P59 b := fun b hb => (f58 b (by omega)).tr (sN e59 (by omega))
  have c59_0 := c58_0.sm (sN e59 (by decide))
  have g59 := MG_sm G58 (fun a h1 h2 => sN e59 (by omega))
  have c59_24 := cell_N e59
  refine go_putR (idx := 84) (a := 11) (b := 34) (z := 0) (w := some 34) (by decide +kernel) (by decide) rfl (by decide) (by decide) c59_0.1 rfl rfl rfl rfl ⟨rfl, by intro e; cases e⟩ (fun y hy => by cases hy; show cT P59 34 ≠ 0; rw [c59_24.1]; decide) ?_
  show Go _ _ _ _ 15 7022 253 [(0, rm 0)] [] (Y, pR P59 0 34 34) _
  generalize e60 : pR P59 0 34 34 = P60
  have a60 := (aR e60 0).trans a59
  have f60 : ∀ b, (b < 0 ∨ 18 < b) ∧ (b < 29 ∨ 34 < b) → Same P P60 b := fun b hb => (f59 b (by omega)).tr (sR e60 (by omega))
  have c60_24 := c59_24.sm (sR e60 (by decide))
  have g60 := MG_sm g59 (fun a h1 h2 => sR e60 (by omega))
  have gI := Cell.cI (I2 := mInt 34) c60_24 (by intro j; unfold mInt; rw [if_neg (by omega)])
  have G60 := MG_add (i := 34) g60 gI (by intro j h1 h2; exact mTagz j (by omega) (by omega))
  have c60_0 := cell_R c59_0 e60
  refine go_blk rfl [(.aload_n 0, 1, 0, 0, 0, .inl 0), (.bipush 72, 2, 0, 0, 0, .inl 72)] 253 256 _ _ _ (by decide +kernel) ?_
  show Go _ _ _ _ 15 7022 256 [(0, rm 0)] [vi 72, rm 0] (Y, P60) _
  refine go_newa20 (n := 72) (N' := 72) (x := .inr (.inl 35)) (kc' := 14) (ks' := 6950) (by decide +kernel) (by decide) (by decide) (by decide) trivial ((f60 35 (by omega)).1.trans (hu 35 (by omega) (by omega))) (by simp [jnr]) (by simp [jnr]) (by decide) (by decide) (fun q25 => ?_)
  show Go _ _ _ _ 14 6950 258 [(0, rm 0)] [rm 35, rm 0] (Y, pN P60 35 20 72 q25) _
  generalize e61 : pN P60 35 20 72 q25 = P61
  have a61 := (aN e61 (by decide)).trans a60
  have f61 : ∀ b, (b < 0 ∨ 18 < b) ∧ (b < 29 ∨ 35 < b) → Same P P61 b := fun b hb => (f60 b (by omega)).tr (sN e61 (by omega))
  have c61_0 := c60_0.sm (sN e61 (by decide))
  have g61 := MG_sm G60 (fun a h1 h2 => sN e61 (by omega))
  have c61_25 := cell_N e61
  refine go_putR (idx := 87) (a := 11) (b := 35) (z := 0) (w := some 35) (by decide +kernel) (by decide) rfl (by decide) (by decide) c61_0.1 rfl rfl rfl rfl ⟨rfl, by intro e; cases e⟩ (fun y hy => by cases hy; show cT P61 35 ≠ 0; rw [c61_25.1]; decide) ?_
  show Go _ _ _ _ 14 6950 261 [(0, rm 0)] [] (Y, pR P61 0 35 35) _
  generalize e62 : pR P61 0 35 35 = P62
  have a62 := (aR e62 0).trans a61
  have f62 : ∀ b, (b < 0 ∨ 18 < b) ∧ (b < 29 ∨ 35 < b) → Same P P62 b := fun b hb => (f61 b (by omega)).tr (sR e62 (by omega))
  have c62_25 := c61_25.sm (sR e62 (by decide))
  have g62 := MG_sm g61 (fun a h1 h2 => sR e62 (by omega))
  have gI := Cell.cI (I2 := mInt 35) c62_25 (by intro j; unfold mInt; rw [if_neg (by omega)])
  have G62 := MG_add (i := 35) g62 gI (by intro j h1 h2; exact mTagz j (by omega) (by omega))
  have c62_0 := cell_R c61_0 e62
  refine go_blk rfl [(.aload_n 0, 1, 0, 0, 0, .inl 0), (.sipush 402, 3, 0, 0, 0, .inl 402)] 261 265 _ _ _ (by decide +kernel) ?_
  show Go _ _ _ _ 14 6950 265 [(0, rm 0)] [vi 402, rm 0] (Y, P62) _
  refine go_newa20 (n := 402) (N' := 402) (x := .inr (.inl 36)) (kc' := 13) (ks' := 6548) (by decide +kernel) (by decide) (by decide) (by decide) trivial ((f62 36 (by omega)).1.trans (hu 36 (by omega) (by omega))) (by simp [jnr]) (by simp [jnr]) (by decide) (by decide) (fun q26 => ?_)
  show Go _ _ _ _ 13 6548 267 [(0, rm 0)] [rm 36, rm 0] (Y, pN P62 36 20 402 q26) _
  generalize e63 : pN P62 36 20 402 q26 = P63
  have a63 := (aN e63 (by decide)).trans a62
  have f63 : ∀ b, (b < 0 ∨ 18 < b) ∧ (b < 29 ∨ 36 < b) → Same P P63 b := fun b hb => (f62 b (by omega)).tr (sN e63 (by omega))
  have c63_0 := c62_0.sm (sN e63 (by decide))
  have g63 := MG_sm G62 (fun a h1 h2 => sN e63 (by omega))
  have c63_26 := cell_N e63
  refine go_putR (idx := 90) (a := 11) (b := 36) (z := 0) (w := some 36) (by decide +kernel) (by decide) rfl (by decide) (by decide) c63_0.1 rfl rfl rfl rfl ⟨rfl, by intro e; cases e⟩ (fun y hy => by cases hy; show cT P63 36 ≠ 0; rw [c63_26.1]; decide) ?_
  show Go _ _ _ _ 13 6548 270 [(0, rm 0)] [] (Y, pR P63 0 36 36) _
  generalize e64 : pR P63 0 36 36 = P64
  have a64 := (aR e64 0).trans a63
  have f64 : ∀ b, (b < 0 ∨ 18 < b) ∧ (b < 29 ∨ 36 < b) → Same P P64 b := fun b hb => (f63 b (by omega)).tr (sR e64 (by omega))
  have c64_26 := c63_26.sm (sR e64 (by decide))
  have g64 := MG_sm g63 (fun a h1 h2 => sR e64 (by omega))
  have gI := Cell.cI (I2 := mInt 36) c64_26 (by intro j; unfold mInt; rw [if_neg (by omega)])
  have G64 := MG_add (i := 36) g64 gI (by intro j h1 h2; exact mTagz j (by omega) (by omega))
  have c64_0 := cell_R c63_0 e64
  refine go_blk rfl [(.aload_n 0, 1, 0, 0, 0, .inl 0), (.bipush 10, 2, 0, 0, 0, .inl 10)] 270 273 _ _ _ (by decide +kernel) ?_
  show Go _ _ _ _ 13 6548 273 [(0, rm 0)] [vi 10, rm 0] (Y, P64) _
  refine go_newa23 (n := 10) (N' := 10) (x := .inr (.inl 37)) (kc' := 12) (ks' := 6538) (by decide +kernel) (by decide) (by decide) (by decide) trivial ((f64 37 (by omega)).1.trans (hu 37 (by omega) (by omega))) (by simp [jnr]) (by simp [jnr]) (by decide) (by decide) (fun q27 => ?_)
  show Go _ _ _ _ 12 6538 275 [(0, rm 0)] [rm 37, rm 0] (Y, pN P64 37 23 10 q27) _
  generalize e65 : pN P64 37 23 10 q27 = P65
  have a65 := (aN e65 (by decide)).trans a64
  have f65 : ∀ b, (b < 0 ∨ 18 < b) ∧ (b < 29 ∨ 37 < b) → Same P P65 b := fun b hb => (f64 b (by omega)).tr (sN e65 (by omega))
  have c65_0 := c64_0.sm (sN e65 (by decide))
  have g65 := MG_sm G64 (fun a h1 h2 => sN e65 (by omega))
  have c65_27 := cell_N e65
  refine go_putR (idx := 93) (a := 11) (b := 37) (z := 0) (w := some 37) (by decide +kernel) (by decide) rfl (by decide) (by decide) c65_0.1 rfl rfl rfl rfl ⟨rfl, by intro e; cases e⟩ (fun y hy => by cases hy; show cT P65 37 ≠ 0; rw [c65_27.1]; decide) ?_
  show Go _ _ _ _ 12 6538 278 [(0, rm 0)] [] (Y, pR P65 0 37 37) _
  generalize e66 : pR P65 0 37 37 = P66
  have a66 := (aR e66 0).trans a65
  have f66 : ∀ b, (b < 0 ∨ 18 < b) ∧ (b < 29 ∨ 37 < b) → Same P P66 b := fun b hb => (f65 b (by omega)).tr (sR e66 (by omega))
  have c66_27 := c65_27.sm (sR e66 (by decide))
  have g66 := MG_sm g65 (fun a h1 h2 => sR e66 (by omega))
  have gI := Cell.cI (I2 := mInt 37) c66_27 (by intro j; unfold mInt; rw [if_neg (by omega)])
  have G66 := MG_add (i := 37) g66 gI (by intro j h1 h2; exact mTagz j (by omega) (by omega))
  have c66_0 := cell_R c65_0 e66
  refine go_blk rfl [(.aload_n 0, 1, 0, 0, 0, .inl 0), (.sipush 300, 3, 0, 0, 0, .inl 300)] 278 282 _ _ _ (by decide +kernel) ?_
  show Go _ _ _ _ 12 6538 282 [(0, rm 0)] [vi 300, rm 0] (Y, P66) _
  refine go_newa23 (n := 300) (N' := 300) (x := .inr (.inl 38)) (kc' := 11) (ks' := 6238) (by decide +kernel) (by decide) (by decide) (by decide) trivial ((f66 38 (by omega)).1.trans (hu 38 (by omega) (by omega))) (by simp [jnr]) (by simp [jnr]) (by decide) (by decide) (fun q28 => ?_)
  show Go _ _ _ _ 11 6238 284 [(0, rm 0)] [rm 38, rm 0] (Y, pN P66 38 23 300 q28) _
  generalize e67 : pN P66 38 23 300 q28 = P67
  have a67 := (aN e67 (by decide)).trans a66
  have f67 : ∀ b, (b < 0 ∨ 18 < b) ∧ (b < 29 ∨ 38 < b) → Same P P67 b := fun b hb => (f66 b (by omega)).tr (sN e67 (by omega))
  have c67_0 := c66_0.sm (sN e67 (by decide))
  have g67 := MG_sm G66 (fun a h1 h2 => sN e67 (by omega))
  have c67_28 := cell_N e67
  refine go_putR (idx := 97) (a := 11) (b := 38) (z := 0) (w := some 38) (by decide +kernel) (by decide) rfl (by decide) (by decide) c67_0.1 rfl rfl rfl rfl ⟨rfl, by intro e; cases e⟩ (fun y hy => by cases hy; show cT P67 38 ≠ 0; rw [c67_28.1]; decide) ?_
  show Go _ _ _ _ 11 6238 287 [(0, rm 0)] [] (Y, pR P67 0 38 38) _
  generalize e68 : pR P67 0 38 38 = P68
  have a68 := (aR e68 0).trans a67
  have f68 : ∀ b, (b < 0 ∨ 18 < b) ∧ (b < 29 ∨ 38 < b) → Same P P68 b := fun b hb => (f67 b (by omega)).tr (sR e68 (by omega))
  have c68_28 := c67_28.sm (sR e68 (by decide))
  have g68 := MG_sm g67 (fun a h1 h2 => sR e68 (by omega))
  have gI := Cell.cI (I2 := mInt 38) c68_28 (by intro j; unfold mInt; rw [if_neg (by omega)])
  have G68 := MG_add (i := 38) g68 gI (by intro j h1 h2; exact mTagz j (by omega) (by omega))
  have c68_0 := cell_R c67_0 e68
  refine go_blk rfl [(.aload_n 0, 1, 0, 0, 0, .inl 0), (.bipush 7, 2, 0, 0, 0, .inl 7)] 287 290 _ _ _ (by decide +kernel) ?_
  show Go _ _ _ _ 11 6238 290 [(0, rm 0)] [vi 7, rm 0] (Y, P68) _
  refine go_newa20 (n := 7) (N' := 7) (x := .inr (.inl 39)) (kc' := 10) (ks' := 6231) (by decide +kernel) (by decide) (by decide) (by decide) trivial ((f68 39 (by omega)).1.trans (hu 39 (by omega) (by omega))) (by simp [jnr]) (by simp [jnr]) (by decide) (by decide) (fun q29 => ?_)
  show Go _ _ _ _ 10 6231 292 [(0, rm 0)] [rm 39, rm 0] (Y, pN P68 39 20 7 q29) _
  generalize e69 : pN P68 39 20 7 q29 = P69
  have a69 := (aN e69 (by decide)).trans a68
  have f69 : ∀ b, (b < 0 ∨ 18 < b) ∧ (b < 29 ∨ 39 < b) → Same P P69 b := fun b hb => (f68 b (by omega)).tr (sN e69 (by omega))
  have c69_0 := c68_0.sm (sN e69 (by decide))
  have g69 := MG_sm G68 (fun a h1 h2 => sN e69 (by omega))
  have c69_29 := cell_N e69
  refine go_putR (idx := 100) (a := 11) (b := 39) (z := 0) (w := some 39) (by decide +kernel) (by decide) rfl (by decide) (by decide) c69_0.1 rfl rfl rfl rfl ⟨rfl, by intro e; cases e⟩ (fun y hy => by cases hy; show cT P69 39 ≠ 0; rw [c69_29.1]; decide) ?_
  show Go _ _ _ _ 10 6231 295 [(0, rm 0)] [] (Y, pR P69 0 39 39) _
  generalize e70 : pR P69 0 39 39 = P70
  have a70 := (aR e70 0).trans a69
  have f70 : ∀ b, (b < 0 ∨ 18 < b) ∧ (b < 29 ∨ 39 < b) → Same P P70 b := fun b hb => (f69 b (by omega)).tr (sR e70 (by omega))
  have c70_29 := c69_29.sm (sR e70 (by decide))
  have g70 := MG_sm g69 (fun a h1 h2 => sR e70 (by omega))
  have gI := Cell.cI (I2 := mInt 39) c70_29 (by intro j; unfold mInt; rw [if_neg (by omega)])
  have G70 := MG_add (i := 39) g70 gI (by intro j h1 h2; exact mTagz j (by omega) (by omega))
  have c70_0 := cell_R c69_0 e70
  refine go_blk rfl [(.aload_n 0, 1, 0, 0, 0, .inl 0), (.iconst (-1), 1, 0, 0, 0, .inl (-1)), (.putfield 103, 3, 11, 40, 0, .inl 0)] 295 300 _ _ _ (by decide +kernel) ?_
  refine And.intro c70_0.1 (And.intro trivial ?_)
  show Go _ _ _ _ 10 6231 300 [(0, rm 0)] [] (Y, pI P70 0 40 (-1)) _
  generalize e71 : pI P70 0 40 (-1) = P71
  have a71 := (aI e71 0).trans a70
  have f71 : ∀ b, (b < 0 ∨ 18 < b) ∧ (b < 29 ∨ 39 < b) → Same P P71 b := fun b hb => (f70 b (by omega)).tr (sI e71 (by omega))
  have g71 := MG_sm G70 (fun a h1 h2 => sI e71 (by omega))
  have c71_0 := cell_I c70_0 e71
  refine go_blk rfl [(.aload_n 0, 1, 0, 0, 0, .inl 0), (.sipush 800, 3, 0, 0, 0, .inl 800)] 300 304 _ _ _ (by decide +kernel) ?_
  show Go _ _ _ _ 10 6231 304 [(0, rm 0)] [vi 800, rm 0] (Y, P71) _
  refine go_newa20 (n := 800) (N' := 800) (x := .inr (.inl 42)) (kc' := 9) (ks' := 5431) (by decide +kernel) (by decide) (by decide) (by decide) trivial ((f71 42 (by omega)).1.trans (hu 42 (by omega) (by omega))) (by simp [jnr]) (by simp [jnr]) (by decide) (by decide) (fun q30 => ?_)
  show Go _ _ _ _ 9 5431 306 [(0, rm 0)] [rm 42, rm 0] (Y, pN P71 42 20 800 q30) _
  generalize e72 : pN P71 42 20 800 q30 = P72
  have a72 := (aN e72 (by decide)).trans a71
  have f72 : ∀ b, (b < 0 ∨ 18 < b) ∧ (b < 29 ∨ 39 < b) ∧ (b < 42 ∨ 42 < b) → Same P P72 b := fun b hb => (f71 b (by omega)).tr (sN e72 (by omega))
  have c72_0 := c71_0.sm (sN e72 (by decide))
  have g72 := MG_sm g71 (fun a h1 h2 => sN e72 (by omega))
  have c72_30 := cell_N e72
  refine go_putR (idx := 106) (a := 11) (b := 42) (z := 0) (w := some 42) (by decide +kernel) (by decide) rfl (by decide) (by decide) c72_0.1 rfl rfl rfl rfl ⟨rfl, by intro e; cases e⟩ (fun y hy => by cases hy; show cT P72 42 ≠ 0; rw [c72_30.1]; decide) ?_
  show Go _ _ _ _ 9 5431 309 [(0, rm 0)] [] (Y, pR P72 0 42 42) _
  generalize e73 : pR P72 0 42 42 = P73
  have a73 := (aR e73 0).trans a72
  have f73 : ∀ b, (b < 0 ∨ 18 < b) ∧ (b < 29 ∨ 39 < b) ∧ (b < 42 ∨ 42 < b) → Same P P73 b := fun b hb => (f72 b (by omega)).tr (sR e73 (by omega))
  have c73_30 := c72_30.sm (sR e73 (by decide))
  have g73 := MG_sm g72 (fun a h1 h2 => sR e73 (by omega))
  have gI := Cell.cI (I2 := mInt 42) c73_30 (by intro j; unfold mInt; rw [if_neg (by omega)])
  have G73 := MG_add (i := 42) g73 gI (by intro j h1 h2; exact mTagz j (by omega) (by omega))
  have c73_0 := cell_R c72_0 e73
  refine go_blk rfl [(.aload_n 0, 1, 0, 0, 0, .inl 0), (.iconst 1, 1, 0, 0, 0, .inl 1)] 309 311 _ _ _ (by decide +kernel) ?_
  show Go _ _ _ _ 9 5431 311 [(0, rm 0)] [vi 1, rm 0] (Y, P73) _
  refine go_newa20 (n := 1) (N' := 1) (x := .inr (.inl 43)) (kc' := 8) (ks' := 5430) (by decide +kernel) (by decide) (by decide) (by decide) trivial ((f73 43 (by omega)).1.trans (hu 43 (by omega) (by omega))) (by simp [jnr]) (by simp [jnr]) (by decide) (by decide) (fun q31 => ?_)
  show Go _ _ _ _ 8 5430 313 [(0, rm 0)] [rm 43, rm 0] (Y, pN P73 43 20 1 q31) _
  generalize e74 : pN P73 43 20 1 q31 = P74
  have a74 := (aN e74 (by decide)).trans a73
  have f74 : ∀ b, (b < 0 ∨ 18 < b) ∧ (b < 29 ∨ 39 < b) ∧ (b < 42 ∨ 43 < b) → Same P P74 b := fun b hb => (f73 b (by omega)).tr (sN e74 (by omega))
  have c74_0 := c73_0.sm (sN e74 (by decide))
  have g74 := MG_sm G73 (fun a h1 h2 => sN e74 (by omega))
  have c74_31 := cell_N e74
  refine go_putR (idx := 109) (a := 11) (b := 43) (z := 0) (w := some 43) (by decide +kernel) (by decide) rfl (by decide) (by decide) c74_0.1 rfl rfl rfl rfl ⟨rfl, by intro e; cases e⟩ (fun y hy => by cases hy; show cT P74 43 ≠ 0; rw [c74_31.1]; decide) ?_
  show Go _ _ _ _ 8 5430 316 [(0, rm 0)] [] (Y, pR P74 0 43 43) _
  generalize e75 : pR P74 0 43 43 = P75
  have a75 := (aR e75 0).trans a74
  have f75 : ∀ b, (b < 0 ∨ 18 < b) ∧ (b < 29 ∨ 39 < b) ∧ (b < 42 ∨ 43 < b) → Same P P75 b := fun b hb => (f74 b (by omega)).tr (sR e75 (by omega))
  have c75_31 := c74_31.sm (sR e75 (by decide))
  have g75 := MG_sm g74 (fun a h1 h2 => sR e75 (by omega))
  have gI := Cell.cI (I2 := mInt 43) c75_31 (by intro j; unfold mInt; rw [if_neg (by omega)])
  have G75 := MG_add (i := 43) g75 gI (by intro j h1 h2; exact mTagz j (by omega) (by omega))
  have c75_0 := cell_R c74_0 e75
  refine go_blk rfl [(.aload_n 0, 1, 0, 0, 0, .inl 0), (.sipush 512, 3, 0, 0, 0, .inl 512)] 316 320 _ _ _ (by decide +kernel) ?_
  show Go _ _ _ _ 8 5430 320 [(0, rm 0)] [vi 512, rm 0] (Y, P75) _
  refine go_newa20 (n := 512) (N' := 512) (x := .inr (.inl 47)) (kc' := 7) (ks' := 4918) (by decide +kernel) (by decide) (by decide) (by decide) trivial ((f75 47 (by omega)).1.trans (hu 47 (by omega) (by omega))) (by simp [jnr]) (by simp [jnr]) (by decide) (by decide) (fun q32 => ?_)
  show Go _ _ _ _ 7 4918 322 [(0, rm 0)] [rm 47, rm 0] (Y, pN P75 47 20 512 q32) _
  generalize e76 : pN P75 47 20 512 q32 = P76
  have a76 := (aN e76 (by decide)).trans a75
  have f76 : ∀ b, (b < 0 ∨ 18 < b) ∧ (b < 29 ∨ 39 < b) ∧ (b < 42 ∨ 43 < b) ∧ (b < 47 ∨ 47 < b) → Same P P76 b := fun b hb => (f75 b (by omega)).tr (sN e76 (by omega))
  have c76_0 := c75_0.sm (sN e76 (by decide))
  have g76 := MG_sm G75 (fun a h1 h2 => sN e76 (by omega))
  have c76_32 := cell_N e76
  refine go_putR (idx := 112) (a := 11) (b := 47) (z := 0) (w := some 47) (by decide +kernel) (by decide) rfl (by decide) (by decide) c76_0.1 rfl rfl rfl rfl ⟨rfl, by intro e; cases e⟩ (fun y hy => by cases hy; show cT P76 47 ≠ 0; rw [c76_32.1]; decide) ?_
  show Go _ _ _ _ 7 4918 325 [(0, rm 0)] [] (Y, pR P76 0 47 47) _
  generalize e77 : pR P76 0 47 47 = P77
  have a77 := (aR e77 0).trans a76
  have f77 : ∀ b, (b < 0 ∨ 18 < b) ∧ (b < 29 ∨ 39 < b) ∧ (b < 42 ∨ 43 < b) ∧ (b < 47 ∨ 47 < b) → Same P P77 b := fun b hb => (f76 b (by omega)).tr (sR e77 (by omega))
  have c77_32 := c76_32.sm (sR e77 (by decide))
  have g77 := MG_sm g76 (fun a h1 h2 => sR e77 (by omega))
  have gI := Cell.cI (I2 := mInt 47) c77_32 (by intro j; unfold mInt; rw [if_neg (by omega)])
  have G77 := MG_add (i := 47) g77 gI (by intro j h1 h2; exact mTagz j (by omega) (by omega))
  have c77_0 := cell_R c76_0 e77
  refine go_blk rfl [(.aload_n 0, 1, 0, 0, 0, .inl 0), (.bipush 64, 2, 0, 0, 0, .inl 64)] 325 328 _ _ _ (by decide +kernel) ?_
  show Go _ _ _ _ 7 4918 328 [(0, rm 0)] [vi 64, rm 0] (Y, P77) _
  refine go_newa20 (n := 64) (N' := 64) (x := .inr (.inl 48)) (kc' := 6) (ks' := 4854) (by decide +kernel) (by decide) (by decide) (by decide) trivial ((f77 48 (by omega)).1.trans (hu 48 (by omega) (by omega))) (by simp [jnr]) (by simp [jnr]) (by decide) (by decide) (fun q33 => ?_)
  show Go _ _ _ _ 6 4854 330 [(0, rm 0)] [rm 48, rm 0] (Y, pN P77 48 20 64 q33) _
  generalize e78 : pN P77 48 20 64 q33 = P78
  have a78 := (aN e78 (by decide)).trans a77
  have f78 : ∀ b, (b < 0 ∨ 18 < b) ∧ (b < 29 ∨ 39 < b) ∧ (b < 42 ∨ 43 < b) ∧ (b < 47 ∨ 48 < b) → Same P P78 b := fun b hb => (f77 b (by omega)).tr (sN e78 (by omega))
  have c78_0 := c77_0.sm (sN e78 (by decide))
  have g78 := MG_sm G77 (fun a h1 h2 => sN e78 (by omega))
  have c78_33 := cell_N e78
  refine go_putR (idx := 115) (a := 11) (b := 48) (z := 0) (w := some 48) (by decide +kernel) (by decide) rfl (by decide) (by decide) c78_0.1 rfl rfl rfl rfl ⟨rfl, by intro e; cases e⟩ (fun y hy => by cases hy; show cT P78 48 ≠ 0; rw [c78_33.1]; decide) ?_
  show Go _ _ _ _ 6 4854 333 [(0, rm 0)] [] (Y, pR P78 0 48 48) _
  generalize e79 : pR P78 0 48 48 = P79
  have a79 := (aR e79 0).trans a78
  have f79 : ∀ b, (b < 0 ∨ 18 < b) ∧ (b < 29 ∨ 39 < b) ∧ (b < 42 ∨ 43 < b) ∧ (b < 47 ∨ 48 < b) → Same P P79 b := fun b hb => (f78 b (by omega)).tr (sR e79 (by omega))
  have c79_33 := c78_33.sm (sR e79 (by decide))
  have g79 := MG_sm g78 (fun a h1 h2 => sR e79 (by omega))
  have gI := Cell.cI (I2 := mInt 48) c79_33 (by intro j; unfold mInt; rw [if_neg (by omega)])
  have G79 := MG_add (i := 48) g79 gI (by intro j h1 h2; exact mTagz j (by omega) (by omega))
  have c79_0 := cell_R c78_0 e79
  refine go_blk rfl [(.aload_n 0, 1, 0, 0, 0, .inl 0), (.bipush 36, 2, 0, 0, 0, .inl 36)] 333 336 _ _ _ (by decide +kernel) ?_
  show Go _ _ _ _ 6 4854 336 [(0, rm 0)] [vi 36, rm 0] (Y, P79) _
  refine go_newa20 (n := 36) (N' := 36) (x := .inr (.inl 49)) (kc' := 5) (ks' := 4818) (by decide +kernel) (by decide) (by decide) (by decide) trivial ((f79 49 (by omega)).1.trans (hu 49 (by omega) (by omega))) (by simp [jnr]) (by simp [jnr]) (by decide) (by decide) (fun q34 => ?_)
  show Go _ _ _ _ 5 4818 338 [(0, rm 0)] [rm 49, rm 0] (Y, pN P79 49 20 36 q34) _
  generalize e80 : pN P79 49 20 36 q34 = P80
  have a80 := (aN e80 (by decide)).trans a79
  have f80 : ∀ b, (b < 0 ∨ 18 < b) ∧ (b < 29 ∨ 39 < b) ∧ (b < 42 ∨ 43 < b) ∧ (b < 47 ∨ 49 < b) → Same P P80 b := fun b hb => (f79 b (by omega)).tr (sN e80 (by omega))
  have c80_0 := c79_0.sm (sN e80 (by decide))
  have g80 := MG_sm G79 (fun a h1 h2 => sN e80 (by omega))
  have c80_34 := cell_N e80
  refine go_putR (idx := 118) (a := 11) (b := 49) (z := 0) (w := some 49) (by decide +kernel) (by decide) rfl (by decide) (by decide) c80_0.1 rfl rfl rfl rfl ⟨rfl, by intro e; cases e⟩ (fun y hy => by cases hy; show cT P80 49 ≠ 0; rw [c80_34.1]; decide) ?_
  show Go _ _ _ _ 5 4818 341 [(0, rm 0)] [] (Y, pR P80 0 49 49) _
  generalize e81 : pR P80 0 49 49 = P81
  have a81 := (aR e81 0).trans a80
  have f81 : ∀ b, (b < 0 ∨ 18 < b) ∧ (b < 29 ∨ 39 < b) ∧ (b < 42 ∨ 43 < b) ∧ (b < 47 ∨ 49 < b) → Same P P81 b := fun b hb => (f80 b (by omega)).tr (sR e81 (by omega))
  have c81_34 := c80_34.sm (sR e81 (by decide))
  have g81 := MG_sm g80 (fun a h1 h2 => sR e81 (by omega))
  have gI := Cell.cI (I2 := mInt 49) c81_34 (by intro j; unfold mInt; rw [if_neg (by omega)])
  have G81 := MG_add (i := 49) g81 gI (by intro j h1 h2; exact mTagz j (by omega) (by omega))
  have c81_0 := cell_R c80_0 e81
  refine go_blk rfl [(.aload_n 0, 1, 0, 0, 0, .inl 0), (.bipush 36, 2, 0, 0, 0, .inl 36)] 341 344 _ _ _ (by decide +kernel) ?_
  show Go _ _ _ _ 5 4818 344 [(0, rm 0)] [vi 36, rm 0] (Y, P81) _
  refine go_newa20 (n := 36) (N' := 36) (x := .inr (.inl 50)) (kc' := 4) (ks' := 4782) (by decide +kernel) (by decide) (by decide) (by decide) trivial ((f81 50 (by omega)).1.trans (hu 50 (by omega) (by omega))) (by simp [jnr]) (by simp [jnr]) (by decide) (by decide) (fun q35 => ?_)
  show Go _ _ _ _ 4 4782 346 [(0, rm 0)] [rm 50, rm 0] (Y, pN P81 50 20 36 q35) _
  generalize e82 : pN P81 50 20 36 q35 = P82
  have a82 := (aN e82 (by decide)).trans a81
  have f82 : ∀ b, (b < 0 ∨ 18 < b) ∧ (b < 29 ∨ 39 < b) ∧ (b < 42 ∨ 43 < b) ∧ (b < 47 ∨ 50 < b) → Same P P82 b := fun b hb => (f81 b (by omega)).tr (sN e82 (by omega))
  have c82_0 := c81_0.sm (sN e82 (by decide))
  have g82 := MG_sm G81 (fun a h1 h2 => sN e82 (by omega))
  have c82_35 := cell_N e82
  refine go_putR (idx := 121) (a := 11) (b := 50) (z := 0) (w := some 50) (by decide +kernel) (by decide) rfl (by decide) (by decide) c82_0.1 rfl rfl rfl rfl ⟨rfl, by intro e; cases e⟩ (fun y hy => by cases hy; show cT P82 50 ≠ 0; rw [c82_35.1]; decide) ?_
  show Go _ _ _ _ 4 4782 349 [(0, rm 0)] [] (Y, pR P82 0 50 50) _
  generalize e83 : pR P82 0 50 50 = P83
  have a83 := (aR e83 0).trans a82
  have f83 : ∀ b, (b < 0 ∨ 18 < b) ∧ (b < 29 ∨ 39 < b) ∧ (b < 42 ∨ 43 < b) ∧ (b < 47 ∨ 50 < b) → Same P P83 b := fun b hb => (f82 b (by omega)).tr (sR e83 (by omega))
  have c83_35 := c82_35.sm (sR e83 (by decide))
  have g83 := MG_sm g82 (fun a h1 h2 => sR e83 (by omega))
  have gI := Cell.cI (I2 := mInt 50) c83_35 (by intro j; unfold mInt; rw [if_neg (by omega)])
  have G83 := MG_add (i := 50) g83 gI (by intro j h1 h2; exact mTagz j (by omega) (by omega))
  have c83_0 := cell_R c82_0 e83
  refine go_blk rfl [(.aload_n 0, 1, 0, 0, 0, .inl 0), (.bipush 21, 2, 0, 0, 0, .inl 21)] 349 352 _ _ _ (by decide +kernel) ?_
  show Go _ _ _ _ 4 4782 352 [(0, rm 0)] [vi 21, rm 0] (Y, P83) _
  refine go_newa20 (n := 21) (N' := 21) (x := .inr (.inl 51)) (kc' := 3) (ks' := 4761) (by decide +kernel) (by decide) (by decide) (by decide) trivial ((f83 51 (by omega)).1.trans (hu 51 (by omega) (by omega))) (by simp [jnr]) (by simp [jnr]) (by decide) (by decide) (fun q36 => ?_)
  show Go _ _ _ _ 3 4761 354 [(0, rm 0)] [rm 51, rm 0] (Y, pN P83 51 20 21 q36) _
  generalize e84 : pN P83 51 20 21 q36 = P84
  have a84 := (aN e84 (by decide)).trans a83
  have f84 : ∀ b, (b < 0 ∨ 18 < b) ∧ (b < 29 ∨ 39 < b) ∧ (b < 42 ∨ 43 < b) ∧ (b < 47 ∨ 51 < b) → Same P P84 b := fun b hb => (f83 b (by omega)).tr (sN e84 (by omega))
  have c84_0 := c83_0.sm (sN e84 (by decide))
  have g84 := MG_sm G83 (fun a h1 h2 => sN e84 (by omega))
  have c84_36 := cell_N e84
  refine go_putR (idx := 124) (a := 11) (b := 51) (z := 0) (w := some 51) (by decide +kernel) (by decide) rfl (by decide) (by decide) c84_0.1 rfl rfl rfl rfl ⟨rfl, by intro e; cases e⟩ (fun y hy => by cases hy; show cT P84 51 ≠ 0; rw [c84_36.1]; decide) ?_
  show Go _ _ _ _ 3 4761 357 [(0, rm 0)] [] (Y, pR P84 0 51 51) _
  generalize e85 : pR P84 0 51 51 = P85
  have a85 := (aR e85 0).trans a84
  have f85 : ∀ b, (b < 0 ∨ 18 < b) ∧ (b < 29 ∨ 39 < b) ∧ (b < 42 ∨ 43 < b) ∧ (b < 47 ∨ 51 < b) → Same P P85 b := fun b hb => (f84 b (by omega)).tr (sR e85 (by omega))
  have c85_36 := c84_36.sm (sR e85 (by decide))
  have g85 := MG_sm g84 (fun a h1 h2 => sR e85 (by omega))
  have gI := Cell.cI (I2 := mInt 51) c85_36 (by intro j; unfold mInt; rw [if_neg (by omega)])
  have G85 := MG_add (i := 51) g85 gI (by intro j h1 h2; exact mTagz j (by omega) (by omega))
  have c85_0 := cell_R c84_0 e85
  refine go_blk rfl [(.aload_n 0, 1, 0, 0, 0, .inl 0), (.bipush 7, 2, 0, 0, 0, .inl 7)] 357 360 _ _ _ (by decide +kernel) ?_
  show Go _ _ _ _ 3 4761 360 [(0, rm 0)] [vi 7, rm 0] (Y, P85) _
  refine go_newa20 (n := 7) (N' := 7) (x := .inr (.inl 52)) (kc' := 2) (ks' := 4754) (by decide +kernel) (by decide) (by decide) (by decide) trivial ((f85 52 (by omega)).1.trans (hu 52 (by omega) (by omega))) (by simp [jnr]) (by simp [jnr]) (by decide) (by decide) (fun q37 => ?_)
  show Go _ _ _ _ 2 4754 362 [(0, rm 0)] [rm 52, rm 0] (Y, pN P85 52 20 7 q37) _
  generalize e86 : pN P85 52 20 7 q37 = P86
  have a86 := (aN e86 (by decide)).trans a85
  have f86 : ∀ b, (b < 0 ∨ 18 < b) ∧ (b < 29 ∨ 39 < b) ∧ (b < 42 ∨ 43 < b) ∧ (b < 47 ∨ 52 < b) → Same P P86 b := fun b hb => (f85 b (by omega)).tr (sN e86 (by omega))
  have c86_0 := c85_0.sm (sN e86 (by decide))
  have g86 := MG_sm G85 (fun a h1 h2 => sN e86 (by omega))
  have c86_37 := cell_N e86
  refine go_putR (idx := 127) (a := 11) (b := 52) (z := 0) (w := some 52) (by decide +kernel) (by decide) rfl (by decide) (by decide) c86_0.1 rfl rfl rfl rfl ⟨rfl, by intro e; cases e⟩ (fun y hy => by cases hy; show cT P86 52 ≠ 0; rw [c86_37.1]; decide) ?_
  show Go _ _ _ _ 2 4754 365 [(0, rm 0)] [] (Y, pR P86 0 52 52) _
  generalize e87 : pR P86 0 52 52 = P87
  have a87 := (aR e87 0).trans a86
  have f87 : ∀ b, (b < 0 ∨ 18 < b) ∧ (b < 29 ∨ 39 < b) ∧ (b < 42 ∨ 43 < b) ∧ (b < 47 ∨ 52 < b) → Same P P87 b := fun b hb => (f86 b (by omega)).tr (sR e87 (by omega))
  have c87_37 := c86_37.sm (sR e87 (by decide))
  have g87 := MG_sm g86 (fun a h1 h2 => sR e87 (by omega))
  have gI := Cell.cI (I2 := mInt 52) c87_37 (by intro j; unfold mInt; rw [if_neg (by omega)])
  have G87 := MG_add (i := 52) g87 gI (by intro j h1 h2; exact mTagz j (by omega) (by omega))
  have c87_0 := cell_R c86_0 e87
  refine go_blk rfl [(.aload_n 0, 1, 0, 0, 0, .inl 0), (.sipush 4750, 3, 0, 0, 0, .inl 4750)] 365 369 _ _ _ (by decide +kernel) ?_
  show Go _ _ _ _ 2 4754 369 [(0, rm 0)] [vi 4750, rm 0] (Y, P87) _
  refine go_newa20 (n := 4750) (N' := 4750) (x := .inr (.inl 53)) (kc' := 1) (ks' := 4) (by decide +kernel) (by decide) (by decide) (by decide) trivial ((f87 53 (by omega)).1.trans (hu 53 (by omega) (by omega))) (by simp [jnr]) (by simp [jnr]) (by decide) (by decide) (fun q38 => ?_)
  show Go _ _ _ _ 1 4 371 [(0, rm 0)] [rm 53, rm 0] (Y, pN P87 53 20 4750 q38) _
  generalize e88 : pN P87 53 20 4750 q38 = P88
  have a88 := (aN e88 (by decide)).trans a87
  have f88 : ∀ b, (b < 0 ∨ 18 < b) ∧ (b < 29 ∨ 39 < b) ∧ (b < 42 ∨ 43 < b) ∧ (b < 47 ∨ 53 < b) → Same P P88 b := fun b hb => (f87 b (by omega)).tr (sN e88 (by omega))
  have c88_0 := c87_0.sm (sN e88 (by decide))
  have g88 := MG_sm G87 (fun a h1 h2 => sN e88 (by omega))
  have c88_38 := cell_N e88
  refine go_putR (idx := 130) (a := 11) (b := 53) (z := 0) (w := some 53) (by decide +kernel) (by decide) rfl (by decide) (by decide) c88_0.1 rfl rfl rfl rfl ⟨rfl, by intro e; cases e⟩ (fun y hy => by cases hy; show cT P88 53 ≠ 0; rw [c88_38.1]; decide) ?_
  show Go _ _ _ _ 1 4 374 [(0, rm 0)] [] (Y, pR P88 0 53 53) _
  generalize e89 : pR P88 0 53 53 = P89
  have a89 := (aR e89 0).trans a88
  have f89 : ∀ b, (b < 0 ∨ 18 < b) ∧ (b < 29 ∨ 39 < b) ∧ (b < 42 ∨ 43 < b) ∧ (b < 47 ∨ 53 < b) → Same P P89 b := fun b hb => (f88 b (by omega)).tr (sR e89 (by omega))
  have c89_38 := c88_38.sm (sR e89 (by decide))
  have g89 := MG_sm g88 (fun a h1 h2 => sR e89 (by omega))
  have gI := Cell.cI (I2 := mInt 53) c89_38 (by intro j; unfold mInt; rw [if_neg (by omega)])
  have G89 := MG_add (i := 53) g89 gI (by intro j h1 h2; exact mTagz j (by omega) (by omega))
  have c89_0 := cell_R c88_0 e89
  refine go_blk rfl [(.aload_n 0, 1, 0, 0, 0, .inl 0), (.iconst 4, 1, 0, 0, 0, .inl 4)] 374 376 _ _ _ (by decide +kernel) ?_
  show Go _ _ _ _ 1 4 376 [(0, rm 0)] [vi 4, rm 0] (Y, P89) _
  refine go_newa22 (n := 4) (N' := 4) (x := .inr (.inl 54)) (kc' := 0) (ks' := 0) (by decide +kernel) (by decide) (by decide) (by decide) trivial ((f89 54 (by omega)).1.trans (hu 54 (by omega) (by omega))) (by simp [jnr]) (by simp [jnr]) (by decide) (by decide) (fun q39 => ?_)
  show Go _ _ _ _ 0 0 378 [(0, rm 0)] [rm 54, rm 0] (Y, pN P89 54 22 4 q39) _
  generalize e90 : pN P89 54 22 4 q39 = P90
  have a90 := (aN e90 (by decide)).trans a89
  have f90 : ∀ b, (b < 0 ∨ 18 < b) ∧ (b < 29 ∨ 39 < b) ∧ (b < 42 ∨ 43 < b) ∧ (b < 47 ∨ 54 < b) → Same P P90 b := fun b hb => (f89 b (by omega)).tr (sN e90 (by omega))
  have c90_0 := c89_0.sm (sN e90 (by decide))
  have g90 := MG_sm G89 (fun a h1 h2 => sN e90 (by omega))
  have c90_39 := cell_N e90
  refine go_putR (idx := 133) (a := 11) (b := 54) (z := 0) (w := some 54) (by decide +kernel) (by decide) rfl (by decide) (by decide) c90_0.1 rfl rfl rfl rfl ⟨rfl, by intro e; cases e⟩ (fun y hy => by cases hy; show cT P90 54 ≠ 0; rw [c90_39.1]; decide) ?_
  show Go _ _ _ _ 0 0 381 [(0, rm 0)] [] (Y, pR P90 0 54 54) _
  generalize e91 : pR P90 0 54 54 = P91
  have a91 := (aR e91 0).trans a90
  have f91 : ∀ b, (b < 0 ∨ 18 < b) ∧ (b < 29 ∨ 39 < b) ∧ (b < 42 ∨ 43 < b) ∧ (b < 47 ∨ 54 < b) → Same P P91 b := fun b hb => (f90 b (by omega)).tr (sR e91 (by omega))
  have c91_39 := c90_39.sm (sR e91 (by decide))
  have g91 := MG_sm g90 (fun a h1 h2 => sR e91 (by omega))
  have gI := Cell.cI (I2 := mInt 54) c91_39 (by intro j; unfold mInt; rw [if_neg (by omega)])
  have G91 := MG_add (i := 54) g91 gI (by intro j h1 h2; exact mTagz j (by omega) (by omega))
  have c91_0 := cell_R c90_0 e91
  have gE := MG_sm G91 (fun a h1 h2 => Same.rf _ a)
  refine go_return (by decide +kernel) rfl ⟨rfl, P91, rfl, ⟨c91_0, fun i hi ht => ?_⟩, a91⟩
  by_cases l : i < 55
  · exact gE i l ht
  · exact absurd (by rcases (by omega : i = 55 ∨ i = 56) with rfl | rfl <;> rfl) ht
