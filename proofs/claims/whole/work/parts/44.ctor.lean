theorem pM_same {P : jP} {q : Nat} {r : Nat → Nat} {b : Nat} (h : b < 81 ∨ 89 < b) : Same P (pM P q r) b := by
  refine ⟨?_, ?_, ?_, fun i => ?_, fun i => ?_, fun i => ?_⟩
  · show (if b = 81 then 27 else if 82 ≤ b ∧ b ≤ 89 then 20 else P.2.2.1 b) = P.2.2.1 b
    rw [if_neg (by omega), if_neg (by omega)]
  · show (if b = 81 then 8 else if 82 ≤ b ∧ b ≤ 89 then 64 else P.2.2.2.1 b) = P.2.2.2.1 b
    rw [if_neg (by omega), if_neg (by omega)]
  · show (if b = 81 then q else if 82 ≤ b ∧ b ≤ 89 then r (b - 82) else P.2.2.2.2.1 b) = P.2.2.2.2.1 b
    rw [if_neg (by omega), if_neg (by omega)]
  · show (if b = 81 then (fun i => if i < 8 then some (82 + i) else none) else if 82 ≤ b ∧ b ≤ 89 then (fun _ => none) else P.2.1 b) i = P.2.1 b i
    rw [if_neg (by omega), if_neg (by omega)]
  · show (if 81 ≤ b ∧ b ≤ 89 then (fun _ => 0) else P.1.1 b) i = P.1.1 b i
    rw [if_neg (by omega)]
  · show (if 81 ≤ b ∧ b ≤ 89 then (fun _ => 0) else P.1.2 b) i = P.1.2 b i
    rw [if_neg (by omega)]
def SeatsNew (P : jP) : Prop := Cell P 80 9 0 (va_up (fun _ => none) 0 (some 81)) (fun _ => 0) ∧ Cell P 81 27 8 (fun i => if i < 8 then some (82 + i) else none) (fun _ => 0) ∧ ∀ k, k < 8 → Cell P (82 + k) 20 64 (fun _ => none) (fun _ => 0)
theorem SeatsNew_sm {P P1 : jP} (h : SeatsNew P) (s : ∀ a, 80 ≤ a → a < 90 → Same P P1 a) : SeatsNew P1 := ⟨h.1.sm (s 80 (by omega) (by omega)), h.2.1.sm (s 81 (by omega) (by omega)), fun k hk => (h.2.2 k hk).sm (s _ (by omega) (by omega))⟩
theorem SeatsNew_t {P : jP} (h : SeatsNew P) : cT P 80 = 9 := h.1.1
theorem ret8_init {P Y : jP} (c0 : Cell P 80 9 0 (fun _ => none) (fun _ => 0)) (hu : cT P 81 = 0 ∧ cT P 82 = 0 ∧ cT P 83 = 0 ∧ cT P 84 = 0 ∧ cT P 85 = 0 ∧ cT P 86 = 0 ∧ cT P 87 = 0 ∧ cT P 88 = 0 ∧ cT P 89 = 0) : RetQ M8_init 2 9 520 [rc 80] (P, Y) (fun v μ1 => v = none ∧ ∃ P1 : jP, μ1 = (P1, Y) ∧ SeatsNew P1 ∧ (∀ b, b ∉ ([80, 81, 82, 83, 84, 85, 86, 87, 88, 89] : List Nat) → Same P P1 b) ∧ cA P1 80 = cA P 80) := by
  obtain ⟨u1, u2, u3, u4, u5, u6, u7, u8, u9⟩ := hu
  have hu : ∀ a, 81 ≤ a → a ≤ 89 → P.2.2.1 a = 0 := by
    intro a h1 h2
    rcases (by omega : a = 81 ∨ a = 82 ∨ a = 83 ∨ a = 84 ∨ a = 85 ∨ a = 86 ∨ a = 87 ∨ a = 88 ∨ a = 89) with rfl | rfl | rfl | rfl | rfl | rfl | rfl | rfl | rfl <;> assumption
  refine RetQ.of (by decide +kernel) (Nat.le_of_ble_eq_true rfl) ?_
  show Go _ _ _ _ 9 520 0 [(0, rc 80)] [] (P, Y) _
  refine go_blk rfl [(.aload_n 0, 1, 0, 0, 0, .inl 0)] 0 1 _ _ _ (by decide +kernel) ?_
  show Go _ _ _ _ 9 520 1 [(0, rc 80)] [rc 80] (P, Y) _
  refine go_obj (idx := 3) (by decide +kernel) (jin_2 (List.mem_of_getElem? (i := 130) rfl)) rfl (by decide) (Nat.le_of_ble_eq_true rfl) ?_
  show Go _ _ _ _ 9 520 4 [(0, rc 80)] [] (P, Y) _
  refine go_blk rfl [(.aload_n 0, 1, 0, 0, 0, .inl 0), (.bipush 8, 2, 0, 0, 0, .inl 8), (.bipush 64, 2, 0, 0, 0, .inl 64)] 4 9 _ _ _ (by decide +kernel) ?_
  show Go _ _ _ _ 9 520 9 [(0, rc 80)] [vi 64, vi 8, rc 80] (P, Y) _
  refine go_mna (idx := 11) (kc' := 0) (ks' := 0) (by decide +kernel) (jin_2 (List.mem_of_getElem? (i := 131) rfl)) (jin_1 (List.mem_of_getElem? (i := 64) rfl)) rfl hu (by decide) (by decide) rfl rfl (fun q r => ?_)
  have fM : ∀ b, (b < 81 ∨ 89 < b) → Same P (pM P q r) b := fun b hb => pM_same hb
  have c1 : Cell (pM P q r) 81 27 8 (fun i => if i < 8 then some (82 + i) else none) (fun _ => 0) := ⟨rfl, rfl, fun i => rfl, fun i => rfl, fun i => rfl⟩
  have c2 : ∀ k, k < 8 → Cell (pM P q r) (82 + k) 20 64 (fun _ => none) (fun _ => 0) := by
    intro k hk
    refine ⟨?_, ?_, fun i => ?_, fun i => ?_, fun i => ?_⟩
    · show (if 82 + k = 81 then 27 else if 82 ≤ 82 + k ∧ 82 + k ≤ 89 then 20 else P.2.2.1 (82 + k)) = 20
      rw [if_neg (by omega), if_pos (by omega)]
    · show (if 82 + k = 81 then 8 else if 82 ≤ 82 + k ∧ 82 + k ≤ 89 then 64 else P.2.2.2.1 (82 + k)) = 64
      rw [if_neg (by omega), if_pos (by omega)]
    · show (if 82 + k = 81 then (fun i => if i < 8 then some (82 + i) else none) else if 82 ≤ 82 + k ∧ 82 + k ≤ 89 then (fun _ => none) else P.2.1 (82 + k)) i = none
      rw [if_neg (by omega), if_pos (by omega)]
    · show (if 81 ≤ 82 + k ∧ 82 + k ≤ 89 then (fun _ => 0) else P.1.1 (82 + k)) i = 0
      rw [if_pos (by omega)]
    · show (if 81 ≤ 82 + k ∧ 82 + k ≤ 89 then (fun _ => 0) else P.1.2 (82 + k)) i = 0
      rw [if_pos (by omega)]
  have c0' := c0.sm (fM 80 (by omega))
  have a0 : cA (pM P q r) 80 = cA P 80 := (fM 80 (by omega)).2.2.1
  generalize pM P q r = P1 at *
  show Go _ _ _ _ 0 0 13 [(0, rc 80)] [rc 81, rc 80] (P1, Y) _
  refine go_putR (idx := 13) (a := 8) (b := 0) (z := 0) (w := some 81) (by decide +kernel) (by decide) rfl (by decide) (by decide) c0'.1 rfl rfl rfl rfl ⟨rfl, by intro e; cases e⟩ (fun y hy => by cases hy; show cT P1 81 ≠ 0; rw [c1.1]; decide) ?_
  show Go _ _ _ _ 0 0 16 [(0, rc 80)] [] (pR P1 80 0 81, Y) _
  generalize e2 : pR P1 80 0 81 = P2
  refine go_return (by decide +kernel) rfl ⟨rfl, P2, rfl, ⟨cell_R c0' e2, c1.sm (sR e2 (by omega)), fun k hk => (c2 k hk).sm (sR e2 (by omega))⟩, fun b hb => ?_, ?_⟩
  · simp at hb
    exact (fM b (by omega)).tr (sR e2 (by omega))
  · exact (aR e2 80).trans a0
def RuleNew (P : jP) (o : Nat) : Prop := (Cell P o 7 0 (va_up (va_up (fun _ => none) 1 (some (o + 2))) 0 (some (o + 1))) (upd (fun _ => 0) 2 0)) ∧ (Cell P (o + 2) 23 64 (fun _ => none) (fun _ => 0))
theorem RuleNew_sm {P P1 : jP} {o : Nat} (h : RuleNew P o) (s : ∀ a, o ≤ a → a < o + 3 → Same P P1 a) : RuleNew P1 o := ⟨h.1.sm (s o (by omega) (by omega)), h.2.sm (s (o + 2) (by omega) (by omega))⟩
theorem RuleNew_t {P : jP} {o : Nat} (h : RuleNew P o) : cT P o = 7 := h.1.1
theorem ret6_init {P Y : jP} {o : Nat} (c0 : Cell P o 7 0 (fun _ => none) (fun _ => 0)) (hu : cT P (o + 2) = 0) (hp : cT P (o + 1) ≠ 0) : RetQ M6_init 2 1 64 [rc o, rc (o + 1)] (P, Y) (fun v μ1 => v = none ∧ ∃ P1 : jP, μ1 = (P1, Y) ∧ RuleNew P1 o ∧ (∀ b, b ∉ ([o, o + 2] : List Nat) → Same P P1 b) ∧ cA P1 o = cA P o) := by
  refine RetQ.of (by decide +kernel) (Nat.le_of_ble_eq_true rfl) ?_
  have f0 : ∀ b, b ∉ ([o] : List Nat) → Same P P b := fun b _ => Same.rf P b
  have a0 : cA P o = cA P o := rfl
  show Go _ _ _ _ 1 64 0 [(0, rc o), (1, rc (o + 1))] [] (P, Y) _
  refine go_blk rfl [(.aload_n 0, 1, 0, 0, 0, .inl 0)] 0 1 _ _ _ (by decide +kernel) ?_
  show Go _ _ _ _ 1 64 1 [(0, rc o), (1, rc (o + 1))] [rc o] (P, Y) _
  refine go_obj (idx := 1) (by decide +kernel) (jin_3 (List.mem_of_getElem? (i := 197) rfl)) rfl (by decide) (Nat.le_of_ble_eq_true rfl) ?_
  show Go _ _ _ _ 1 64 4 [(0, rc o), (1, rc (o + 1))] [] (P, Y) _
  refine go_blk rfl [(.aload_n 0, 1, 0, 0, 0, .inl 0), (.bipush 64, 2, 0, 0, 0, .inl 64)] 4 7 _ _ _ (by decide +kernel) ?_
  show Go _ _ _ _ 1 64 7 [(0, rc o), (1, rc (o + 1))] [vi 64, rc o] (P, Y) _
  refine go_newa23 (n := 64) (N' := 64) (x := .inl (o + 2)) (kc' := 0) (ks' := 0) (by decide +kernel) (by decide) (by decide) (by decide) trivial ((f0 (o + 2) (by simp <;> omega)).1.trans hu) (by simp [jnr]) (by simp [jnr]) (by decide) (by decide) (fun q1 => ?_)
  show Go _ _ _ _ 0 0 9 [(0, rc o), (1, rc (o + 1))] [rc (o + 2), rc o] (pN P (o + 2) 23 64 q1, Y) _
  generalize e1 : pN P (o + 2) 23 64 q1 = P1
  have a1 := (aN e1 (b := o) (by omega)).trans a0
  have f1 := frN f0 e1
  have c1_0 := c0.sm (sN e1 (by omega))
  have c1_1 := cell_N e1
  refine go_putR (idx := 9) (a := 6) (b := 1) (z := 0) (w := some (o + 2)) (by decide +kernel) (by decide) rfl (by decide) (by decide) c1_0.1 rfl rfl rfl rfl ⟨rfl, by intro e; cases e⟩ (fun y hy => by cases hy; show cT P1 (o + 2) ≠ 0; rw [c1_1.1]; decide) ?_
  show Go _ _ _ _ 0 0 12 [(0, rc o), (1, rc (o + 1))] [] (pR P1 o 1 (o + 2), Y) _
  generalize e2 : pR P1 o 1 (o + 2) = P2
  have a2 := (aR e2 o).trans a1
  have f2 := frR f1 (by simp) e2
  have c2_1 := c1_1.sm (sR e2 (by omega))
  have c2_0 := cell_R c1_0 e2
  refine go_blk rfl [(.aload_n 0, 1, 0, 0, 0, .inl 0), (.iconst 0, 1, 0, 0, 0, .inl 0), (.putfield 13, 3, 6, 2, 0, .inl 0)] 12 17 _ _ _ (by decide +kernel) ?_
  refine And.intro c2_0.1 (And.intro trivial ?_)
  show Go _ _ _ _ 0 0 17 [(0, rc o), (1, rc (o + 1))] [] (pI P2 o 2 0, Y) _
  generalize e3 : pI P2 o 2 0 = P3
  have a3 := (aI e3 o).trans a2
  have f3 := frI f2 (by simp) e3
  have c3_1 := c2_1.sm (sI e3 (by omega))
  have c3_0 := cell_I c2_0 e3
  refine go_blk rfl [(.aload_n 0, 1, 0, 0, 0, .inl 0), (.aload_n 1, 1, 1, 0, 0, .inl 0)] 17 19 _ _ _ (by decide +kernel) ?_
  show Go _ _ _ _ 0 0 19 [(0, rc o), (1, rc (o + 1))] [rc (o + 1), rc o] (P3, Y) _
  refine go_putR (idx := 17) (a := 6) (b := 0) (z := 0) (w := some (o + 1)) (by decide +kernel) (by decide) rfl (by decide) (by decide) c3_0.1 rfl rfl rfl rfl ⟨rfl, by intro e; cases e⟩ (fun y hy => by cases hy; show cT P3 (o + 1) ≠ 0; rw [(f3 (o + 1) (by simp <;> omega)).1]; exact hp) ?_
  show Go _ _ _ _ 0 0 22 [(0, rc o), (1, rc (o + 1))] [] (pR P3 o 0 (o + 1), Y) _
  generalize e4 : pR P3 o 0 (o + 1) = P4
  have a4 := (aR e4 o).trans a3
  have f4 := frR f3 (by simp) e4
  have c4_1 := c3_1.sm (sR e4 (by omega))
  have c4_0 := cell_R c3_0 e4
  refine go_return (by decide +kernel) rfl ⟨rfl, P4, rfl, ⟨c4_0, c4_1⟩, fun b hb => f4 b (by intro z; apply hb; simp at z ⊢; omega), ?_⟩
  exact a4
def MainNew (P : jP) : Prop := (Cell P 0 11 0 (va_up (va_up (va_up (va_up (va_up (va_up (va_up (va_up (va_up (va_up (fun _ => none) 0 (some 1)) 1 (some 3)) 2 (some 12)) 3 (some 15)) 5 (some 100)) 6 (some 16)) 7 (some 17)) 8 (some 20)) 9 (some 70)) 10 (some 80)) (upd (fun _ => 0) 4 0)) ∧ (TapeNew P) ∧ (TapeNew P) ∧ (PartyNew P) ∧ (PartyNew P) ∧ (RulerNew P) ∧ (RulerNew P) ∧ (Cell P 15 25 6 (fun _ => none) (fun _ => 0)) ∧ (BookNew P 100) ∧ (BookNew P 100) ∧ (Cell P 16 26 4 (fun _ => none) (fun _ => 0)) ∧ (GameNew P) ∧ (GameNew P) ∧ (ForeNew P) ∧ (ForeNew P) ∧ (EvidNew P) ∧ (EvidNew P) ∧ (SeatsNew P) ∧ (SeatsNew P)
theorem ret10_init {P Y : jP} (c0 : Cell P 0 11 0 (fun _ => none) (fun _ => 0)) (hu : ∀ a, 1 ≤ a → a < 119 → cT P a = 0) : RetQ M10_init 4 106 2214 [rc 0] (P, Y) (fun v μ1 => v = none ∧ ∃ P1 : jP, μ1 = (P1, Y) ∧ MainNew P1 ∧ (∀ b, 119 ≤ b → Same P P1 b) ∧ cA P1 0 = cA P 0) := by
  refine RetQ.of (by decide +kernel) (Nat.le_of_ble_eq_true rfl) ?_
  have f0 : ∀ b, (b < 0 ∨ 0 < b) → Same P P b := fun b _ => Same.rf P b
  have a0 : cA P 0 = cA P 0 := rfl
  show Go _ _ _ _ 106 2214 0 [(0, rc 0)] [] (P, Y) _
  refine go_blk rfl [(.aload_n 0, 1, 0, 0, 0, .inl 0)] 0 1 _ _ _ (by decide +kernel) ?_
  show Go _ _ _ _ 106 2214 1 [(0, rc 0)] [rc 0] (P, Y) _
  refine go_obj (idx := 1) (by decide +kernel) (jin_1 (List.mem_of_getElem? (i := 26) rfl)) rfl (by decide) (Nat.le_of_ble_eq_true rfl) ?_
  show Go _ _ _ _ 106 2214 4 [(0, rc 0)] [] (P, Y) _
  refine go_blk rfl [(.aload_n 0, 1, 0, 0, 0, .inl 0)] 4 5 _ _ _ (by decide +kernel) ?_
  show Go _ _ _ _ 106 2214 5 [(0, rc 0)] [rc 0] (P, Y) _
  refine go_new (idx := 7) (ci := 9) (x := .inl 1) (kc' := 105) (ks' := 2207) (by decide +kernel) (jin_1 (List.mem_of_getElem? (i := 29) rfl)) rfl (by decide) (jin_1 (List.mem_of_getElem? (i := 30) rfl)) (jin_1 (List.mem_of_getElem? (i := 2) rfl)) trivial ((f0 1 (by omega)).1.trans (hu 1 (by omega) (by omega))) (by simp [jnr]) (by simp [jnr]) (by decide) (by decide) (fun q1 => ?_)
  show Go _ _ _ _ 105 2207 8 [(0, rc 0)] [rc 1, rc 0] (pN P 1 10 0 q1, Y) _
  generalize e1 : pN P 1 10 0 q1 = P1
  have a1 := (aN e1 (b := 0) (by omega)).trans a0
  have f1 : ∀ b, (b < 0 ∨ 1 < b) → Same P P1 b := fun b hb => (f0 b (by omega)).tr (sN e1 (by omega))
  have c1_0 := c0.sm (sN e1 (by decide))
  have c1_1 := cell_N e1
  refine go_blk rfl [(.dup, 1, 0, 0, 0, .inl 0)] 8 9 _ _ _ (by decide +kernel) ?_
  show Go _ _ _ _ 105 2207 9 [(0, rc 0)] [rc 1, rc 1, rc 0] (P1, Y) _
  refine go_callIQ (idx := 9) (z := 1) (M' := M9_init) (n := 0) (A := []) (x := .inl 1) (d' := 2) (mc' := 1) (ms' := 400) (kc' := 104) (ks' := 1807) (by decide +kernel) ml_10_9 rfl wi9_init rfl (ret9_init c1_1 ((f1 2 (by omega)).1.trans (hu 2 (by omega) (by omega)))) (by decide) (by decide) (by decide) (Nat.le_of_ble_eq_true rfl) rfl (fun v2 μ2 h => by obtain ⟨rfl, P9, rfl, h1, h2, h3⟩ := h; intro adK; refine ⟨?_, ?_⟩ <;> simp [jlv, jcvc, jcvm, jcvi, (h2 0 (by simp <;> omega)).2.2.1, h3]) (fun v2 μ2 h => ?_)
  obtain ⟨rfl, P2, rfl, h1, h2, h3⟩ := h
  have a2 := (h2 0 (by simp)).2.2.1.trans a1
  show Go _ _ _ _ 104 1807 12 [(0, rc 0)] [rc 1, rc 0] (P2, Y) _
  have f2 : ∀ b, (b < 0 ∨ 2 < b) → Same P P2 b := fun b hb => (f1 b (by omega)).tr (h2 b (by simp <;> omega))
  have c2_0 := c1_0.sm (h2 0 (by simp <;> omega))
  have g2_0 := h1
  refine go_putR (idx := 10) (a := 10) (b := 0) (z := 0) (w := some 1) (by decide +kernel) (by decide) rfl (by decide) (by decide) c2_0.1 rfl rfl rfl rfl ⟨rfl, by intro e; cases e⟩ (fun y hy => by cases hy; show cT P2 1 ≠ 0; rw [(TapeNew_t g2_0)]; decide) ?_
  show Go _ _ _ _ 104 1807 15 [(0, rc 0)] [] (pR P2 0 0 1, Y) _
  generalize e3 : pR P2 0 0 1 = P3
  have a3 := (aR e3 0).trans a2
  have f3 : ∀ b, (b < 0 ∨ 2 < b) → Same P P3 b := fun b hb => (f2 b (by omega)).tr (sR e3 (by omega))
  have g3_0 := TapeNew_sm g2_0 (fun a h1 h2 => sR e3 (by omega))
  have c3_0 := cell_R c2_0 e3
  refine go_blk rfl [(.aload_n 0, 1, 0, 0, 0, .inl 0)] 15 16 _ _ _ (by decide +kernel) ?_
  show Go _ _ _ _ 104 1807 16 [(0, rc 0)] [rc 0] (P3, Y) _
  refine go_new (idx := 16) (ci := 5) (x := .inl 3) (kc' := 103) (ks' := 1800) (by decide +kernel) (jin_1 (List.mem_of_getElem? (i := 65) rfl)) rfl (by decide) (jin_1 (List.mem_of_getElem? (i := 66) rfl)) (jin_1 (List.mem_of_getElem? (i := 3) rfl)) trivial ((f3 3 (by omega)).1.trans (hu 3 (by omega) (by omega))) (by simp [jnr]) (by simp [jnr]) (by decide) (by decide) (fun q2 => ?_)
  show Go _ _ _ _ 103 1800 19 [(0, rc 0)] [rc 3, rc 0] (pN P3 3 6 0 q2, Y) _
  generalize e4 : pN P3 3 6 0 q2 = P4
  have a4 := (aN e4 (b := 0) (by omega)).trans a3
  have f4 : ∀ b, (b < 0 ∨ 3 < b) → Same P P4 b := fun b hb => (f3 b (by omega)).tr (sN e4 (by omega))
  have c4_0 := c3_0.sm (sN e4 (by decide))
  have g4_0 := TapeNew_sm g3_0 (fun a h1 h2 => sN e4 (by omega))
  have c4_2 := cell_N e4
  refine go_blk rfl [(.dup, 1, 0, 0, 0, .inl 0), (.aload_n 0, 1, 0, 0, 0, .inl 0), (.getfield 10, 3, 10, 0, 1, .inl 0)] 19 24 _ _ _ (by decide +kernel) ?_
  refine And.intro c4_0.1 (Exists.intro _ (And.intro (gRc (show cR P4 0 0 = some 1 from (c4_0.2.2.1 0).trans (by simp [va_up]))) ?_))
  show Go _ _ _ _ 103 1800 24 [(0, rc 0)] [rc 1, rc 3, rc 3, rc 0] (P4, Y) _
  refine go_callIQ (idx := 18) (z := 1) (M' := M5_init) (n := 1) (A := [rc 1]) (x := .inl 3) (d' := 3) (mc' := 8) (ms' := 58) (kc' := 95) (ks' := 1742) (by decide +kernel) ml_10_18 rfl wi5_init rfl (ret5_init c4_2 ⟨((f4 4 (by omega)).1.trans (hu 4 (by omega) (by omega))), ((f4 5 (by omega)).1.trans (hu 5 (by omega) (by omega))), ((f4 6 (by omega)).1.trans (hu 6 (by omega) (by omega))), ((f4 7 (by omega)).1.trans (hu 7 (by omega) (by omega))), ((f4 8 (by omega)).1.trans (hu 8 (by omega) (by omega))), ((f4 9 (by omega)).1.trans (hu 9 (by omega) (by omega))), ((f4 10 (by omega)).1.trans (hu 10 (by omega) (by omega))), ((f4 11 (by omega)).1.trans (hu 11 (by omega) (by omega)))⟩ (by rw [TapeNew_t g4_0]; decide)) (by decide) (by decide) (by decide) (Nat.le_of_ble_eq_true rfl) rfl (fun v2 μ2 h => by obtain ⟨rfl, P9, rfl, h1, h2, h3⟩ := h; intro adK; refine ⟨?_, ?_⟩ <;> simp [jlv, jcvc, jcvm, jcvi, (h2 0 (by simp <;> omega)).2.2.1, h3]) (fun v2 μ2 h => ?_)
  obtain ⟨rfl, P5, rfl, h1, h2, h3⟩ := h
  have a5 := (h2 0 (by simp)).2.2.1.trans a4
  show Go _ _ _ _ 95 1742 27 [(0, rc 0)] [rc 3, rc 0] (P5, Y) _
  have f5 : ∀ b, (b < 0 ∨ 11 < b) → Same P P5 b := fun b hb => (f4 b (by omega)).tr (h2 b (by simp <;> omega))
  have c5_0 := c4_0.sm (h2 0 (by simp <;> omega))
  have g5_0 := TapeNew_sm g4_0 (fun a h4 h5 => h2 a (by simp; omega))
  have g5_1 := h1
  refine go_putR (idx := 21) (a := 10) (b := 1) (z := 0) (w := some 3) (by decide +kernel) (by decide) rfl (by decide) (by decide) c5_0.1 rfl rfl rfl rfl ⟨rfl, by intro e; cases e⟩ (fun y hy => by cases hy; show cT P5 3 ≠ 0; rw [(PartyNew_t g5_1)]; decide) ?_
  show Go _ _ _ _ 95 1742 30 [(0, rc 0)] [] (pR P5 0 1 3, Y) _
  generalize e6 : pR P5 0 1 3 = P6
  have a6 := (aR e6 0).trans a5
  have f6 : ∀ b, (b < 0 ∨ 11 < b) → Same P P6 b := fun b hb => (f5 b (by omega)).tr (sR e6 (by omega))
  have g6_0 := TapeNew_sm g5_0 (fun a h1 h2 => sR e6 (by omega))
  have g6_1 := PartyNew_sm g5_1 (fun a h1 h2 => sR e6 (by omega))
  have c6_0 := cell_R c5_0 e6
  refine go_blk rfl [(.aload_n 0, 1, 0, 0, 0, .inl 0)] 30 31 _ _ _ (by decide +kernel) ?_
  show Go _ _ _ _ 95 1742 31 [(0, rc 0)] [rc 0] (P6, Y) _
  refine go_new (idx := 25) (ci := 7) (x := .inl 12) (kc' := 94) (ks' := 1731) (by decide +kernel) (jin_1 (List.mem_of_getElem? (i := 186) rfl)) rfl (by decide) (jin_1 (List.mem_of_getElem? (i := 187) rfl)) (jin_1 (List.mem_of_getElem? (i := 5) rfl)) trivial ((f6 12 (by omega)).1.trans (hu 12 (by omega) (by omega))) (by simp [jnr]) (by simp [jnr]) (by decide) (by decide) (fun q3 => ?_)
  show Go _ _ _ _ 94 1731 34 [(0, rc 0)] [rc 12, rc 0] (pN P6 12 8 0 q3, Y) _
  generalize e7 : pN P6 12 8 0 q3 = P7
  have a7 := (aN e7 (b := 0) (by omega)).trans a6
  have f7 : ∀ b, (b < 0 ∨ 12 < b) → Same P P7 b := fun b hb => (f6 b (by omega)).tr (sN e7 (by omega))
  have c7_0 := c6_0.sm (sN e7 (by decide))
  have g7_0 := TapeNew_sm g6_0 (fun a h1 h2 => sN e7 (by omega))
  have g7_1 := PartyNew_sm g6_1 (fun a h1 h2 => sN e7 (by omega))
  have c7_3 := cell_N e7
  refine go_blk rfl [(.dup, 1, 0, 0, 0, .inl 0), (.aload_n 0, 1, 0, 0, 0, .inl 0), (.getfield 10, 3, 10, 0, 1, .inl 0)] 34 39 _ _ _ (by decide +kernel) ?_
  refine And.intro c7_0.1 (Exists.intro _ (And.intro (gRc (show cR P7 0 0 = some 1 from (c7_0.2.2.1 0).trans (by simp [va_up]))) ?_))
  show Go _ _ _ _ 94 1731 39 [(0, rc 0)] [rc 1, rc 12, rc 12, rc 0] (P7, Y) _
  refine go_callIQ (idx := 27) (z := 1) (M' := M7_init) (n := 1) (A := [rc 1]) (x := .inl 12) (d' := 2) (mc' := 2) (ms' := 464) (kc' := 92) (ks' := 1267) (by decide +kernel) ml_10_27 rfl wi7_init rfl (ret7_init c7_3 ⟨((f7 13 (by omega)).1.trans (hu 13 (by omega) (by omega))), ((f7 14 (by omega)).1.trans (hu 14 (by omega) (by omega)))⟩ (by rw [TapeNew_t g7_0]; decide)) (by decide) (by decide) (by decide) (Nat.le_of_ble_eq_true rfl) rfl (fun v2 μ2 h => by obtain ⟨rfl, P9, rfl, h1, h2, h3⟩ := h; intro adK; refine ⟨?_, ?_⟩ <;> simp [jlv, jcvc, jcvm, jcvi, (h2 0 (by simp <;> omega)).2.2.1, h3]) (fun v2 μ2 h => ?_)
  obtain ⟨rfl, P8, rfl, h1, h2, h3⟩ := h
  have a8 := (h2 0 (by simp)).2.2.1.trans a7
  show Go _ _ _ _ 92 1267 42 [(0, rc 0)] [rc 12, rc 0] (P8, Y) _
  have f8 : ∀ b, (b < 0 ∨ 14 < b) → Same P P8 b := fun b hb => (f7 b (by omega)).tr (h2 b (by simp <;> omega))
  have c8_0 := c7_0.sm (h2 0 (by simp <;> omega))
  have g8_0 := TapeNew_sm g7_0 (fun a h4 h5 => h2 a (by simp; omega))
  have g8_1 := PartyNew_sm g7_1 (fun a h4 h5 => h2 a (by simp; omega))
  have g8_2 := h1
  refine go_putR (idx := 28) (a := 10) (b := 2) (z := 0) (w := some 12) (by decide +kernel) (by decide) rfl (by decide) (by decide) c8_0.1 rfl rfl rfl rfl ⟨rfl, by intro e; cases e⟩ (fun y hy => by cases hy; show cT P8 12 ≠ 0; rw [(RulerNew_t g8_2)]; decide) ?_
  show Go _ _ _ _ 92 1267 45 [(0, rc 0)] [] (pR P8 0 2 12, Y) _
  generalize e9 : pR P8 0 2 12 = P9
  have a9 := (aR e9 0).trans a8
  have f9 : ∀ b, (b < 0 ∨ 14 < b) → Same P P9 b := fun b hb => (f8 b (by omega)).tr (sR e9 (by omega))
  have g9_0 := TapeNew_sm g8_0 (fun a h1 h2 => sR e9 (by omega))
  have g9_1 := PartyNew_sm g8_1 (fun a h1 h2 => sR e9 (by omega))
  have g9_2 := RulerNew_sm g8_2 (fun a h1 h2 => sR e9 (by omega))
  have c9_0 := cell_R c8_0 e9
  refine go_blk rfl [(.aload_n 0, 1, 0, 0, 0, .inl 0), (.bipush 6, 2, 0, 0, 0, .inl 6)] 45 48 _ _ _ (by decide +kernel) ?_
  show Go _ _ _ _ 92 1267 48 [(0, rc 0)] [vi 6, rc 0] (P9, Y) _
  refine go_newq25 (idx := 32) (n := 6) (N' := 6) (x := .inl 15) (kc' := 91) (ks' := 1261) (by decide +kernel) (jin_1 (List.mem_of_getElem? (i := 226) rfl)) rfl (by decide) (by decide) (by decide) trivial ((f9 15 (by omega)).1.trans (hu 15 (by omega) (by omega))) (by simp [jnr]) (by simp [jnr]) (by decide) (by decide) (fun q4 => ?_)
  show Go _ _ _ _ 91 1261 51 [(0, rc 0)] [rc 15, rc 0] (pN P9 15 25 6 q4, Y) _
  generalize e10 : pN P9 15 25 6 q4 = P10
  have a10 := (aN e10 (b := 0) (by omega)).trans a9
  have f10 : ∀ b, (b < 0 ∨ 15 < b) → Same P P10 b := fun b hb => (f9 b (by omega)).tr (sN e10 (by omega))
  have c10_0 := c9_0.sm (sN e10 (by decide))
  have g10_0 := TapeNew_sm g9_0 (fun a h1 h2 => sN e10 (by omega))
  have g10_1 := PartyNew_sm g9_1 (fun a h1 h2 => sN e10 (by omega))
  have g10_2 := RulerNew_sm g9_2 (fun a h1 h2 => sN e10 (by omega))
  have c10_4 := cell_N e10
  refine go_putR (idx := 34) (a := 10) (b := 3) (z := 0) (w := some 15) (by decide +kernel) (by decide) rfl (by decide) (by decide) c10_0.1 rfl rfl rfl rfl ⟨rfl, by intro e; cases e⟩ (fun y hy => by cases hy; show cT P10 15 ≠ 0; rw [c10_4.1]; decide) ?_
  show Go _ _ _ _ 91 1261 54 [(0, rc 0)] [] (pR P10 0 3 15, Y) _
  generalize e11 : pR P10 0 3 15 = P11
  have a11 := (aR e11 0).trans a10
  have f11 : ∀ b, (b < 0 ∨ 15 < b) → Same P P11 b := fun b hb => (f10 b (by omega)).tr (sR e11 (by omega))
  have c11_4 := c10_4.sm (sR e11 (by decide))
  have g11_0 := TapeNew_sm g10_0 (fun a h1 h2 => sR e11 (by omega))
  have g11_1 := PartyNew_sm g10_1 (fun a h1 h2 => sR e11 (by omega))
  have g11_2 := RulerNew_sm g10_2 (fun a h1 h2 => sR e11 (by omega))
  have c11_0 := cell_R c10_0 e11
  refine go_blk rfl [(.aload_n 0, 1, 0, 0, 0, .inl 0), (.iconst 0, 1, 0, 0, 0, .inl 0), (.putfield 38, 3, 10, 4, 0, .inl 0)] 54 59 _ _ _ (by decide +kernel) ?_
  refine And.intro c11_0.1 (And.intro trivial ?_)
  show Go _ _ _ _ 91 1261 59 [(0, rc 0)] [] (pI P11 0 4 0, Y) _
  generalize e12 : pI P11 0 4 0 = P12
  have a12 := (aI e12 0).trans a11
  have f12 : ∀ b, (b < 0 ∨ 15 < b) → Same P P12 b := fun b hb => (f11 b (by omega)).tr (sI e12 (by omega))
  have c12_4 := c11_4.sm (sI e12 (by decide))
  have g12_0 := TapeNew_sm g11_0 (fun a h1 h2 => sI e12 (by omega))
  have g12_1 := PartyNew_sm g11_1 (fun a h1 h2 => sI e12 (by omega))
  have g12_2 := RulerNew_sm g11_2 (fun a h1 h2 => sI e12 (by omega))
  have c12_0 := cell_I c11_0 e12
  refine go_blk rfl [(.aload_n 0, 1, 0, 0, 0, .inl 0)] 59 60 _ _ _ (by decide +kernel) ?_
  show Go _ _ _ _ 91 1261 60 [(0, rc 0)] [rc 0] (P12, Y) _
  refine go_new (idx := 42) (ci := 0) (x := .inl 100) (kc' := 90) (ks' := 1250) (by decide +kernel) (jin_1 (List.mem_of_getElem? (i := 228) rfl)) rfl (by decide) (jin_1 (List.mem_of_getElem? (i := 229) rfl)) (jin_1 (List.mem_of_getElem? (i := 6) rfl)) trivial ((f12 100 (by omega)).1.trans (hu 100 (by omega) (by omega))) (by simp [jnr]) (by simp [jnr]) (by decide) (by decide) (fun q5 => ?_)
  show Go _ _ _ _ 90 1250 63 [(0, rc 0)] [rc 100, rc 0] (pN P12 100 1 0 q5, Y) _
  generalize e13 : pN P12 100 1 0 q5 = P13
  have a13 := (aN e13 (b := 0) (by omega)).trans a12
  have f13 : ∀ b, (b < 0 ∨ 15 < b) ∧ (b < 100 ∨ 100 < b) → Same P P13 b := fun b hb => (f12 b (by omega)).tr (sN e13 (by omega))
  have c13_0 := c12_0.sm (sN e13 (by decide))
  have c13_4 := c12_4.sm (sN e13 (by decide))
  have g13_0 := TapeNew_sm g12_0 (fun a h1 h2 => sN e13 (by omega))
  have g13_1 := PartyNew_sm g12_1 (fun a h1 h2 => sN e13 (by omega))
  have g13_2 := RulerNew_sm g12_2 (fun a h1 h2 => sN e13 (by omega))
  have c13_5 := cell_N e13
  refine go_blk rfl [(.dup, 1, 0, 0, 0, .inl 0)] 63 64 _ _ _ (by decide +kernel) ?_
  show Go _ _ _ _ 90 1250 64 [(0, rc 0)] [rc 100, rc 100, rc 0] (P13, Y) _
  refine go_callIQ (idx := 44) (z := 1) (M' := M0_init) (n := 0) (A := []) (x := .inl 100) (d' := 3) (mc' := 18) (ms' := 160) (kc' := 72) (ks' := 1090) (by decide +kernel) ml_10_44 rfl wi0_init rfl (ret0_init c13_5 ⟨((f13 101 (by omega)).1.trans (hu 101 (by omega) (by omega))), ((f13 102 (by omega)).1.trans (hu 102 (by omega) (by omega))), ((f13 103 (by omega)).1.trans (hu 103 (by omega) (by omega))), ((f13 104 (by omega)).1.trans (hu 104 (by omega) (by omega))), ((f13 105 (by omega)).1.trans (hu 105 (by omega) (by omega))), ((f13 106 (by omega)).1.trans (hu 106 (by omega) (by omega))), ((f13 107 (by omega)).1.trans (hu 107 (by omega) (by omega))), ((f13 108 (by omega)).1.trans (hu 108 (by omega) (by omega))), ((f13 109 (by omega)).1.trans (hu 109 (by omega) (by omega))), ((f13 110 (by omega)).1.trans (hu 110 (by omega) (by omega))), ((f13 111 (by omega)).1.trans (hu 111 (by omega) (by omega))), ((f13 112 (by omega)).1.trans (hu 112 (by omega) (by omega))), ((f13 113 (by omega)).1.trans (hu 113 (by omega) (by omega))), ((f13 114 (by omega)).1.trans (hu 114 (by omega) (by omega))), ((f13 115 (by omega)).1.trans (hu 115 (by omega) (by omega))), ((f13 116 (by omega)).1.trans (hu 116 (by omega) (by omega))), ((f13 117 (by omega)).1.trans (hu 117 (by omega) (by omega))), ((f13 118 (by omega)).1.trans (hu 118 (by omega) (by omega)))⟩) (by decide) (by decide) (by decide) (Nat.le_of_ble_eq_true rfl) rfl (fun v2 μ2 h => by obtain ⟨rfl, P9, rfl, h1, h2, h3⟩ := h; intro adK; refine ⟨?_, ?_⟩ <;> simp [jlv, jcvc, jcvm, jcvi, (h2 0 (by simp <;> omega)).2.2.1, h3]) (fun v2 μ2 h => ?_)
  obtain ⟨rfl, P14, rfl, h1, h2, h3⟩ := h
  have a14 := (h2 0 (by simp)).2.2.1.trans a13
  show Go _ _ _ _ 72 1090 67 [(0, rc 0)] [rc 100, rc 0] (P14, Y) _
  have f14 : ∀ b, (b < 0 ∨ 15 < b) ∧ (b < 100 ∨ 118 < b) → Same P P14 b := fun b hb => (f13 b (by omega)).tr (h2 b (by simp <;> omega))
  have c14_0 := c13_0.sm (h2 0 (by simp <;> omega))
  have c14_4 := c13_4.sm (h2 15 (by simp <;> omega))
  have g14_0 := TapeNew_sm g13_0 (fun a h4 h5 => h2 a (by simp; omega))
  have g14_1 := PartyNew_sm g13_1 (fun a h4 h5 => h2 a (by simp; omega))
  have g14_2 := RulerNew_sm g13_2 (fun a h4 h5 => h2 a (by simp; omega))
  have g14_3 := h1
  refine go_putR (idx := 45) (a := 10) (b := 5) (z := 0) (w := some 100) (by decide +kernel) (by decide) rfl (by decide) (by decide) c14_0.1 rfl rfl rfl rfl ⟨rfl, by intro e; cases e⟩ (fun y hy => by cases hy; show cT P14 100 ≠ 0; rw [(BookNew_t g14_3)]; decide) ?_
  show Go _ _ _ _ 72 1090 70 [(0, rc 0)] [] (pR P14 0 5 100, Y) _
  generalize e15 : pR P14 0 5 100 = P15
  have a15 := (aR e15 0).trans a14
  have f15 : ∀ b, (b < 0 ∨ 15 < b) ∧ (b < 100 ∨ 118 < b) → Same P P15 b := fun b hb => (f14 b (by omega)).tr (sR e15 (by omega))
  have c15_4 := c14_4.sm (sR e15 (by decide))
  have g15_0 := TapeNew_sm g14_0 (fun a h1 h2 => sR e15 (by omega))
  have g15_1 := PartyNew_sm g14_1 (fun a h1 h2 => sR e15 (by omega))
  have g15_2 := RulerNew_sm g14_2 (fun a h1 h2 => sR e15 (by omega))
  have g15_3 := BookNew_sm g14_3 (fun a h1 h2 => sR e15 (by omega))
  have c15_0 := cell_R c14_0 e15
  refine go_blk rfl [(.aload_n 0, 1, 0, 0, 0, .inl 0), (.iconst 4, 1, 0, 0, 0, .inl 4)] 70 72 _ _ _ (by decide +kernel) ?_
  show Go _ _ _ _ 72 1090 72 [(0, rc 0)] [vi 4, rc 0] (P15, Y) _
  refine go_newq26 (idx := 42) (n := 4) (N' := 4) (x := .inl 16) (kc' := 71) (ks' := 1086) (by decide +kernel) (jin_1 (List.mem_of_getElem? (i := 228) rfl)) rfl (by decide) (by decide) (by decide) trivial ((f15 16 (by omega)).1.trans (hu 16 (by omega) (by omega))) (by simp [jnr]) (by simp [jnr]) (by decide) (by decide) (fun q6 => ?_)
  show Go _ _ _ _ 71 1086 75 [(0, rc 0)] [rc 16, rc 0] (pN P15 16 26 4 q6, Y) _
  generalize e16 : pN P15 16 26 4 q6 = P16
  have a16 := (aN e16 (b := 0) (by omega)).trans a15
  have f16 : ∀ b, (b < 0 ∨ 16 < b) ∧ (b < 100 ∨ 118 < b) → Same P P16 b := fun b hb => (f15 b (by omega)).tr (sN e16 (by omega))
  have c16_0 := c15_0.sm (sN e16 (by decide))
  have c16_4 := c15_4.sm (sN e16 (by decide))
  have g16_0 := TapeNew_sm g15_0 (fun a h1 h2 => sN e16 (by omega))
  have g16_1 := PartyNew_sm g15_1 (fun a h1 h2 => sN e16 (by omega))
  have g16_2 := RulerNew_sm g15_2 (fun a h1 h2 => sN e16 (by omega))
  have g16_3 := BookNew_sm g15_3 (fun a h1 h2 => sN e16 (by omega))
  have c16_6 := cell_N e16
  refine go_putR (idx := 49) (a := 10) (b := 6) (z := 0) (w := some 16) (by decide +kernel) (by decide) rfl (by decide) (by decide) c16_0.1 rfl rfl rfl rfl ⟨rfl, by intro e; cases e⟩ (fun y hy => by cases hy; show cT P16 16 ≠ 0; rw [c16_6.1]; decide) ?_
  show Go _ _ _ _ 71 1086 78 [(0, rc 0)] [] (pR P16 0 6 16, Y) _
  generalize e17 : pR P16 0 6 16 = P17
  have a17 := (aR e17 0).trans a16
  have f17 : ∀ b, (b < 0 ∨ 16 < b) ∧ (b < 100 ∨ 118 < b) → Same P P17 b := fun b hb => (f16 b (by omega)).tr (sR e17 (by omega))
  have c17_4 := c16_4.sm (sR e17 (by decide))
  have c17_6 := c16_6.sm (sR e17 (by decide))
  have g17_0 := TapeNew_sm g16_0 (fun a h1 h2 => sR e17 (by omega))
  have g17_1 := PartyNew_sm g16_1 (fun a h1 h2 => sR e17 (by omega))
  have g17_2 := RulerNew_sm g16_2 (fun a h1 h2 => sR e17 (by omega))
  have g17_3 := BookNew_sm g16_3 (fun a h1 h2 => sR e17 (by omega))
  have c17_0 := cell_R c16_0 e17
  refine go_blk rfl [(.aload_n 0, 1, 0, 0, 0, .inl 0)] 78 79 _ _ _ (by decide +kernel) ?_
  show Go _ _ _ _ 71 1086 79 [(0, rc 0)] [rc 0] (P17, Y) _
  refine go_new (idx := 53) (ci := 3) (x := .inl 17) (kc' := 70) (ks' := 1083) (by decide +kernel) (jin_2 (List.mem_of_getElem? (i := 43) rfl)) rfl (by decide) (jin_2 (List.mem_of_getElem? (i := 44) rfl)) (jin_1 (List.mem_of_getElem? (i := 7) rfl)) trivial ((f17 17 (by omega)).1.trans (hu 17 (by omega) (by omega))) (by simp [jnr]) (by simp [jnr]) (by decide) (by decide) (fun q7 => ?_)
  show Go _ _ _ _ 70 1083 82 [(0, rc 0)] [rc 17, rc 0] (pN P17 17 4 0 q7, Y) _
  generalize e18 : pN P17 17 4 0 q7 = P18
  have a18 := (aN e18 (b := 0) (by omega)).trans a17
  have f18 : ∀ b, (b < 0 ∨ 17 < b) ∧ (b < 100 ∨ 118 < b) → Same P P18 b := fun b hb => (f17 b (by omega)).tr (sN e18 (by omega))
  have c18_0 := c17_0.sm (sN e18 (by decide))
  have c18_4 := c17_4.sm (sN e18 (by decide))
  have c18_6 := c17_6.sm (sN e18 (by decide))
  have g18_0 := TapeNew_sm g17_0 (fun a h1 h2 => sN e18 (by omega))
  have g18_1 := PartyNew_sm g17_1 (fun a h1 h2 => sN e18 (by omega))
  have g18_2 := RulerNew_sm g17_2 (fun a h1 h2 => sN e18 (by omega))
  have g18_3 := BookNew_sm g17_3 (fun a h1 h2 => sN e18 (by omega))
  have c18_7 := cell_N e18
  refine go_blk rfl [(.dup, 1, 0, 0, 0, .inl 0)] 82 83 _ _ _ (by decide +kernel) ?_
  show Go _ _ _ _ 70 1083 83 [(0, rc 0)] [rc 17, rc 17, rc 0] (P18, Y) _
  refine go_callIQ (idx := 55) (z := 1) (M' := M3_init) (n := 0) (A := []) (x := .inl 17) (d' := 2) (mc' := 2) (ms' := 49) (kc' := 68) (ks' := 1034) (by decide +kernel) ml_10_55 rfl wi3_init rfl (ret3_init c18_7 ⟨((f18 18 (by omega)).1.trans (hu 18 (by omega) (by omega))), ((f18 19 (by omega)).1.trans (hu 19 (by omega) (by omega)))⟩) (by decide) (by decide) (by decide) (Nat.le_of_ble_eq_true rfl) rfl (fun v2 μ2 h => by obtain ⟨rfl, P9, rfl, h1, h2, h3⟩ := h; intro adK; refine ⟨?_, ?_⟩ <;> simp [jlv, jcvc, jcvm, jcvi, (h2 0 (by simp <;> omega)).2.2.1, h3]) (fun v2 μ2 h => ?_)
  obtain ⟨rfl, P19, rfl, h1, h2, h3⟩ := h
  have a19 := (h2 0 (by simp)).2.2.1.trans a18
  show Go _ _ _ _ 68 1034 86 [(0, rc 0)] [rc 17, rc 0] (P19, Y) _
  have f19 : ∀ b, (b < 0 ∨ 19 < b) ∧ (b < 100 ∨ 118 < b) → Same P P19 b := fun b hb => (f18 b (by omega)).tr (h2 b (by simp <;> omega))
  have c19_0 := c18_0.sm (h2 0 (by simp <;> omega))
  have c19_4 := c18_4.sm (h2 15 (by simp <;> omega))
  have c19_6 := c18_6.sm (h2 16 (by simp <;> omega))
  have g19_0 := TapeNew_sm g18_0 (fun a h4 h5 => h2 a (by simp; omega))
  have g19_1 := PartyNew_sm g18_1 (fun a h4 h5 => h2 a (by simp; omega))
  have g19_2 := RulerNew_sm g18_2 (fun a h4 h5 => h2 a (by simp; omega))
  have g19_3 := BookNew_sm g18_3 (fun a h4 h5 => h2 a (by simp; omega))
  have g19_4 := h1
  refine go_putR (idx := 56) (a := 10) (b := 7) (z := 0) (w := some 17) (by decide +kernel) (by decide) rfl (by decide) (by decide) c19_0.1 rfl rfl rfl rfl ⟨rfl, by intro e; cases e⟩ (fun y hy => by cases hy; show cT P19 17 ≠ 0; rw [(GameNew_t g19_4)]; decide) ?_
  show Go _ _ _ _ 68 1034 89 [(0, rc 0)] [] (pR P19 0 7 17, Y) _
  generalize e20 : pR P19 0 7 17 = P20
  have a20 := (aR e20 0).trans a19
  have f20 : ∀ b, (b < 0 ∨ 19 < b) ∧ (b < 100 ∨ 118 < b) → Same P P20 b := fun b hb => (f19 b (by omega)).tr (sR e20 (by omega))
  have c20_4 := c19_4.sm (sR e20 (by decide))
  have c20_6 := c19_6.sm (sR e20 (by decide))
  have g20_0 := TapeNew_sm g19_0 (fun a h1 h2 => sR e20 (by omega))
  have g20_1 := PartyNew_sm g19_1 (fun a h1 h2 => sR e20 (by omega))
  have g20_2 := RulerNew_sm g19_2 (fun a h1 h2 => sR e20 (by omega))
  have g20_3 := BookNew_sm g19_3 (fun a h1 h2 => sR e20 (by omega))
  have g20_4 := GameNew_sm g19_4 (fun a h1 h2 => sR e20 (by omega))
  have c20_0 := cell_R c19_0 e20
  refine go_blk rfl [(.aload_n 0, 1, 0, 0, 0, .inl 0)] 89 90 _ _ _ (by decide +kernel) ?_
  show Go _ _ _ _ 68 1034 90 [(0, rc 0)] [rc 0] (P20, Y) _
  refine go_new (idx := 60) (ci := 2) (x := .inl 20) (kc' := 67) (ks' := 1024) (by decide +kernel) (jin_2 (List.mem_of_getElem? (i := 59) rfl)) rfl (by decide) (jin_2 (List.mem_of_getElem? (i := 60) rfl)) (jin_1 (List.mem_of_getElem? (i := 8) rfl)) trivial ((f20 20 (by omega)).1.trans (hu 20 (by omega) (by omega))) (by simp [jnr]) (by simp [jnr]) (by decide) (by decide) (fun q8 => ?_)
  show Go _ _ _ _ 67 1024 93 [(0, rc 0)] [rc 20, rc 0] (pN P20 20 3 0 q8, Y) _
  generalize e21 : pN P20 20 3 0 q8 = P21
  have a21 := (aN e21 (b := 0) (by omega)).trans a20
  have f21 : ∀ b, (b < 0 ∨ 20 < b) ∧ (b < 100 ∨ 118 < b) → Same P P21 b := fun b hb => (f20 b (by omega)).tr (sN e21 (by omega))
  have c21_0 := c20_0.sm (sN e21 (by decide))
  have c21_4 := c20_4.sm (sN e21 (by decide))
  have c21_6 := c20_6.sm (sN e21 (by decide))
  have g21_0 := TapeNew_sm g20_0 (fun a h1 h2 => sN e21 (by omega))
  have g21_1 := PartyNew_sm g20_1 (fun a h1 h2 => sN e21 (by omega))
  have g21_2 := RulerNew_sm g20_2 (fun a h1 h2 => sN e21 (by omega))
  have g21_3 := BookNew_sm g20_3 (fun a h1 h2 => sN e21 (by omega))
  have g21_4 := GameNew_sm g20_4 (fun a h1 h2 => sN e21 (by omega))
  have c21_8 := cell_N e21
  refine go_blk rfl [(.dup, 1, 0, 0, 0, .inl 0), (.aload_n 0, 1, 0, 0, 0, .inl 0), (.getfield 56, 3, 10, 7, 1, .inl 0)] 93 98 _ _ _ (by decide +kernel) ?_
  refine And.intro c21_0.1 (Exists.intro _ (And.intro (gRc (show cR P21 0 7 = some 17 from (c21_0.2.2.1 7).trans (by simp [va_up]))) ?_))
  show Go _ _ _ _ 67 1024 98 [(0, rc 0)] [rc 17, rc 20, rc 20, rc 0] (P21, Y) _
  refine go_callIQ (idx := 62) (z := 1) (M' := M2_init) (n := 1) (A := [rc 17]) (x := .inl 20) (d' := 3) (mc' := 47) (ms' := 415) (kc' := 20) (ks' := 609) (by decide +kernel) ml_10_62 rfl wi2_init rfl (ret2_init c21_8 ⟨((f21 21 (by omega)).1.trans (hu 21 (by omega) (by omega))), ((f21 22 (by omega)).1.trans (hu 22 (by omega) (by omega))), ((f21 23 (by omega)).1.trans (hu 23 (by omega) (by omega))), ((f21 24 (by omega)).1.trans (hu 24 (by omega) (by omega))), ((f21 25 (by omega)).1.trans (hu 25 (by omega) (by omega))), ((f21 26 (by omega)).1.trans (hu 26 (by omega) (by omega))), ((f21 27 (by omega)).1.trans (hu 27 (by omega) (by omega))), ((f21 28 (by omega)).1.trans (hu 28 (by omega) (by omega))), ((f21 30 (by omega)).1.trans (hu 30 (by omega) (by omega))), ((f21 31 (by omega)).1.trans (hu 31 (by omega) (by omega))), ((f21 32 (by omega)).1.trans (hu 32 (by omega) (by omega))), ((f21 33 (by omega)).1.trans (hu 33 (by omega) (by omega))), ((f21 34 (by omega)).1.trans (hu 34 (by omega) (by omega))), ((f21 35 (by omega)).1.trans (hu 35 (by omega) (by omega))), ((f21 36 (by omega)).1.trans (hu 36 (by omega) (by omega))), ((f21 37 (by omega)).1.trans (hu 37 (by omega) (by omega))), ((f21 38 (by omega)).1.trans (hu 38 (by omega) (by omega))), ((f21 39 (by omega)).1.trans (hu 39 (by omega) (by omega))), ((f21 40 (by omega)).1.trans (hu 40 (by omega) (by omega))), ((f21 41 (by omega)).1.trans (hu 41 (by omega) (by omega))), ((f21 42 (by omega)).1.trans (hu 42 (by omega) (by omega))), ((f21 43 (by omega)).1.trans (hu 43 (by omega) (by omega))), ((f21 44 (by omega)).1.trans (hu 44 (by omega) (by omega))), ((f21 45 (by omega)).1.trans (hu 45 (by omega) (by omega))), ((f21 46 (by omega)).1.trans (hu 46 (by omega) (by omega))), ((f21 47 (by omega)).1.trans (hu 47 (by omega) (by omega))), ((f21 48 (by omega)).1.trans (hu 48 (by omega) (by omega))), ((f21 49 (by omega)).1.trans (hu 49 (by omega) (by omega))), ((f21 50 (by omega)).1.trans (hu 50 (by omega) (by omega))), ((f21 51 (by omega)).1.trans (hu 51 (by omega) (by omega))), ((f21 52 (by omega)).1.trans (hu 52 (by omega) (by omega))), ((f21 53 (by omega)).1.trans (hu 53 (by omega) (by omega))), ((f21 54 (by omega)).1.trans (hu 54 (by omega) (by omega))), ((f21 55 (by omega)).1.trans (hu 55 (by omega) (by omega))), ((f21 56 (by omega)).1.trans (hu 56 (by omega) (by omega))), ((f21 57 (by omega)).1.trans (hu 57 (by omega) (by omega))), ((f21 58 (by omega)).1.trans (hu 58 (by omega) (by omega))), ((f21 59 (by omega)).1.trans (hu 59 (by omega) (by omega))), ((f21 60 (by omega)).1.trans (hu 60 (by omega) (by omega))), ((f21 61 (by omega)).1.trans (hu 61 (by omega) (by omega))), ((f21 62 (by omega)).1.trans (hu 62 (by omega) (by omega))), ((f21 63 (by omega)).1.trans (hu 63 (by omega) (by omega))), ((f21 64 (by omega)).1.trans (hu 64 (by omega) (by omega))), ((f21 65 (by omega)).1.trans (hu 65 (by omega) (by omega))), ((f21 66 (by omega)).1.trans (hu 66 (by omega) (by omega))), ((f21 67 (by omega)).1.trans (hu 67 (by omega) (by omega))), ((f21 68 (by omega)).1.trans (hu 68 (by omega) (by omega)))⟩ (by rw [GameNew_t g21_4]; decide)) (by decide) (by decide) (by decide) (Nat.le_of_ble_eq_true rfl) rfl (fun v2 μ2 h => by obtain ⟨rfl, P9, rfl, h1, h2, h3⟩ := h; intro adK; refine ⟨?_, ?_⟩ <;> simp [jlv, jcvc, jcvm, jcvi, (h2 0 (by simp <;> omega)).2.2.1, h3]) (fun v2 μ2 h => ?_)
  obtain ⟨rfl, P22, rfl, h1, h2, h3⟩ := h
  have a22 := (h2 0 (by simp)).2.2.1.trans a21
  show Go _ _ _ _ 20 609 101 [(0, rc 0)] [rc 20, rc 0] (P22, Y) _
  have f22 : ∀ b, (b < 0 ∨ 28 < b) ∧ (b < 30 ∨ 68 < b) ∧ (b < 100 ∨ 118 < b) → Same P P22 b := fun b hb => (f21 b (by omega)).tr (h2 b (by simp <;> omega))
  have c22_0 := c21_0.sm (h2 0 (by simp <;> omega))
  have c22_4 := c21_4.sm (h2 15 (by simp <;> omega))
  have c22_6 := c21_6.sm (h2 16 (by simp <;> omega))
  have g22_0 := TapeNew_sm g21_0 (fun a h4 h5 => h2 a (by simp; omega))
  have g22_1 := PartyNew_sm g21_1 (fun a h4 h5 => h2 a (by simp; omega))
  have g22_2 := RulerNew_sm g21_2 (fun a h4 h5 => h2 a (by simp; omega))
  have g22_3 := BookNew_sm g21_3 (fun a h4 h5 => h2 a (by simp; omega))
  have g22_4 := GameNew_sm g21_4 (fun a h4 h5 => h2 a (by simp; omega))
  have g22_5 := h1
  refine go_putR (idx := 65) (a := 10) (b := 8) (z := 0) (w := some 20) (by decide +kernel) (by decide) rfl (by decide) (by decide) c22_0.1 rfl rfl rfl rfl ⟨rfl, by intro e; cases e⟩ (fun y hy => by cases hy; show cT P22 20 ≠ 0; rw [(ForeNew_t g22_5)]; decide) ?_
  show Go _ _ _ _ 20 609 104 [(0, rc 0)] [] (pR P22 0 8 20, Y) _
  generalize e23 : pR P22 0 8 20 = P23
  have a23 := (aR e23 0).trans a22
  have f23 : ∀ b, (b < 0 ∨ 28 < b) ∧ (b < 30 ∨ 68 < b) ∧ (b < 100 ∨ 118 < b) → Same P P23 b := fun b hb => (f22 b (by omega)).tr (sR e23 (by omega))
  have c23_4 := c22_4.sm (sR e23 (by decide))
  have c23_6 := c22_6.sm (sR e23 (by decide))
  have g23_0 := TapeNew_sm g22_0 (fun a h1 h2 => sR e23 (by omega))
  have g23_1 := PartyNew_sm g22_1 (fun a h1 h2 => sR e23 (by omega))
  have g23_2 := RulerNew_sm g22_2 (fun a h1 h2 => sR e23 (by omega))
  have g23_3 := BookNew_sm g22_3 (fun a h1 h2 => sR e23 (by omega))
  have g23_4 := GameNew_sm g22_4 (fun a h1 h2 => sR e23 (by omega))
  have g23_5 := ForeNew_sm g22_5 (fun a h1 h2 => sR e23 (by omega))
  have c23_0 := cell_R c22_0 e23
  refine go_blk rfl [(.aload_n 0, 1, 0, 0, 0, .inl 0)] 104 105 _ _ _ (by decide +kernel) ?_
  show Go _ _ _ _ 20 609 105 [(0, rc 0)] [rc 0] (P23, Y) _
  refine go_new (idx := 69) (ci := 1) (x := .inl 70) (kc' := 19) (ks' := 604) (by decide +kernel) (jin_2 (List.mem_of_getElem? (i := 101) rfl)) rfl (by decide) (jin_2 (List.mem_of_getElem? (i := 102) rfl)) (jin_1 (List.mem_of_getElem? (i := 9) rfl)) trivial ((f23 70 (by omega)).1.trans (hu 70 (by omega) (by omega))) (by simp [jnr]) (by simp [jnr]) (by decide) (by decide) (fun q9 => ?_)
  show Go _ _ _ _ 19 604 108 [(0, rc 0)] [rc 70, rc 0] (pN P23 70 2 0 q9, Y) _
  generalize e24 : pN P23 70 2 0 q9 = P24
  have a24 := (aN e24 (b := 0) (by omega)).trans a23
  have f24 : ∀ b, (b < 0 ∨ 28 < b) ∧ (b < 30 ∨ 68 < b) ∧ (b < 70 ∨ 70 < b) ∧ (b < 100 ∨ 118 < b) → Same P P24 b := fun b hb => (f23 b (by omega)).tr (sN e24 (by omega))
  have c24_0 := c23_0.sm (sN e24 (by decide))
  have c24_4 := c23_4.sm (sN e24 (by decide))
  have c24_6 := c23_6.sm (sN e24 (by decide))
  have g24_0 := TapeNew_sm g23_0 (fun a h1 h2 => sN e24 (by omega))
  have g24_1 := PartyNew_sm g23_1 (fun a h1 h2 => sN e24 (by omega))
  have g24_2 := RulerNew_sm g23_2 (fun a h1 h2 => sN e24 (by omega))
  have g24_3 := BookNew_sm g23_3 (fun a h1 h2 => sN e24 (by omega))
  have g24_4 := GameNew_sm g23_4 (fun a h1 h2 => sN e24 (by omega))
  have g24_5 := ForeNew_sm g23_5 (fun a h1 h2 => sN e24 (by omega))
  have c24_9 := cell_N e24
  refine go_blk rfl [(.dup, 1, 0, 0, 0, .inl 0), (.aload_n 0, 1, 0, 0, 0, .inl 0), (.getfield 56, 3, 10, 7, 1, .inl 0)] 108 113 _ _ _ (by decide +kernel) ?_
  refine And.intro c24_0.1 (Exists.intro _ (And.intro (gRc (show cR P24 0 7 = some 17 from (c24_0.2.2.1 7).trans (by simp [va_up]))) ?_))
  show Go _ _ _ _ 19 604 113 [(0, rc 0)] [rc 17, rc 70, rc 70, rc 0] (P24, Y) _
  refine go_callIQ (idx := 71) (z := 1) (M' := M1_init) (n := 1) (A := [rc 17]) (x := .inl 70) (d' := 3) (mc' := 9) (ms' := 83) (kc' := 10) (ks' := 521) (by decide +kernel) ml_10_71 rfl wi1_init rfl (ret1_init c24_9 ⟨((f24 71 (by omega)).1.trans (hu 71 (by omega) (by omega))), ((f24 72 (by omega)).1.trans (hu 72 (by omega) (by omega))), ((f24 73 (by omega)).1.trans (hu 73 (by omega) (by omega))), ((f24 74 (by omega)).1.trans (hu 74 (by omega) (by omega))), ((f24 75 (by omega)).1.trans (hu 75 (by omega) (by omega))), ((f24 76 (by omega)).1.trans (hu 76 (by omega) (by omega))), ((f24 77 (by omega)).1.trans (hu 77 (by omega) (by omega))), ((f24 78 (by omega)).1.trans (hu 78 (by omega) (by omega))), ((f24 79 (by omega)).1.trans (hu 79 (by omega) (by omega)))⟩ (by rw [GameNew_t g24_4]; decide)) (by decide) (by decide) (by decide) (Nat.le_of_ble_eq_true rfl) rfl (fun v2 μ2 h => by obtain ⟨rfl, P9, rfl, h1, h2, h3⟩ := h; intro adK; refine ⟨?_, ?_⟩ <;> simp [jlv, jcvc, jcvm, jcvi, (h2 0 (by simp <;> omega)).2.2.1, h3]) (fun v2 μ2 h => ?_)
  obtain ⟨rfl, P25, rfl, h1, h2, h3⟩ := h
  have a25 := (h2 0 (by simp)).2.2.1.trans a24
  show Go _ _ _ _ 10 521 116 [(0, rc 0)] [rc 70, rc 0] (P25, Y) _
  have f25 : ∀ b, (b < 0 ∨ 28 < b) ∧ (b < 30 ∨ 68 < b) ∧ (b < 70 ∨ 79 < b) ∧ (b < 100 ∨ 118 < b) → Same P P25 b := fun b hb => (f24 b (by omega)).tr (h2 b (by simp <;> omega))
  have c25_0 := c24_0.sm (h2 0 (by simp <;> omega))
  have c25_4 := c24_4.sm (h2 15 (by simp <;> omega))
  have c25_6 := c24_6.sm (h2 16 (by simp <;> omega))
  have g25_0 := TapeNew_sm g24_0 (fun a h4 h5 => h2 a (by simp; omega))
  have g25_1 := PartyNew_sm g24_1 (fun a h4 h5 => h2 a (by simp; omega))
  have g25_2 := RulerNew_sm g24_2 (fun a h4 h5 => h2 a (by simp; omega))
  have g25_3 := BookNew_sm g24_3 (fun a h4 h5 => h2 a (by simp; omega))
  have g25_4 := GameNew_sm g24_4 (fun a h4 h5 => h2 a (by simp; omega))
  have g25_5 := ForeNew_sm g24_5 (fun a h4 h5 => h2 a (by simp; omega))
  have g25_6 := h1
  refine go_putR (idx := 72) (a := 10) (b := 9) (z := 0) (w := some 70) (by decide +kernel) (by decide) rfl (by decide) (by decide) c25_0.1 rfl rfl rfl rfl ⟨rfl, by intro e; cases e⟩ (fun y hy => by cases hy; show cT P25 70 ≠ 0; rw [(EvidNew_t g25_6)]; decide) ?_
  show Go _ _ _ _ 10 521 119 [(0, rc 0)] [] (pR P25 0 9 70, Y) _
  generalize e26 : pR P25 0 9 70 = P26
  have a26 := (aR e26 0).trans a25
  have f26 : ∀ b, (b < 0 ∨ 28 < b) ∧ (b < 30 ∨ 68 < b) ∧ (b < 70 ∨ 79 < b) ∧ (b < 100 ∨ 118 < b) → Same P P26 b := fun b hb => (f25 b (by omega)).tr (sR e26 (by omega))
  have c26_4 := c25_4.sm (sR e26 (by decide))
  have c26_6 := c25_6.sm (sR e26 (by decide))
  have g26_0 := TapeNew_sm g25_0 (fun a h1 h2 => sR e26 (by omega))
  have g26_1 := PartyNew_sm g25_1 (fun a h1 h2 => sR e26 (by omega))
  have g26_2 := RulerNew_sm g25_2 (fun a h1 h2 => sR e26 (by omega))
  have g26_3 := BookNew_sm g25_3 (fun a h1 h2 => sR e26 (by omega))
  have g26_4 := GameNew_sm g25_4 (fun a h1 h2 => sR e26 (by omega))
  have g26_5 := ForeNew_sm g25_5 (fun a h1 h2 => sR e26 (by omega))
  have g26_6 := EvidNew_sm g25_6 (fun a h1 h2 => sR e26 (by omega))
  have c26_0 := cell_R c25_0 e26
  refine go_blk rfl [(.aload_n 0, 1, 0, 0, 0, .inl 0)] 119 120 _ _ _ (by decide +kernel) ?_
  show Go _ _ _ _ 10 521 120 [(0, rc 0)] [rc 0] (P26, Y) _
  refine go_new (idx := 76) (ci := 8) (x := .inl 80) (kc' := 9) (ks' := 520) (by decide +kernel) (jin_2 (List.mem_of_getElem? (i := 125) rfl)) rfl (by decide) (jin_2 (List.mem_of_getElem? (i := 126) rfl)) (jin_1 (List.mem_of_getElem? (i := 10) rfl)) trivial ((f26 80 (by omega)).1.trans (hu 80 (by omega) (by omega))) (by simp [jnr]) (by simp [jnr]) (by decide) (by decide) (fun q10 => ?_)
  show Go _ _ _ _ 9 520 123 [(0, rc 0)] [rc 80, rc 0] (pN P26 80 9 0 q10, Y) _
  generalize e27 : pN P26 80 9 0 q10 = P27
  have a27 := (aN e27 (b := 0) (by omega)).trans a26
  have f27 : ∀ b, (b < 0 ∨ 28 < b) ∧ (b < 30 ∨ 68 < b) ∧ (b < 70 ∨ 80 < b) ∧ (b < 100 ∨ 118 < b) → Same P P27 b := fun b hb => (f26 b (by omega)).tr (sN e27 (by omega))
  have c27_0 := c26_0.sm (sN e27 (by decide))
  have c27_4 := c26_4.sm (sN e27 (by decide))
  have c27_6 := c26_6.sm (sN e27 (by decide))
  have g27_0 := TapeNew_sm g26_0 (fun a h1 h2 => sN e27 (by omega))
  have g27_1 := PartyNew_sm g26_1 (fun a h1 h2 => sN e27 (by omega))
  have g27_2 := RulerNew_sm g26_2 (fun a h1 h2 => sN e27 (by omega))
  have g27_3 := BookNew_sm g26_3 (fun a h1 h2 => sN e27 (by omega))
  have g27_4 := GameNew_sm g26_4 (fun a h1 h2 => sN e27 (by omega))
  have g27_5 := ForeNew_sm g26_5 (fun a h1 h2 => sN e27 (by omega))
  have g27_6 := EvidNew_sm g26_6 (fun a h1 h2 => sN e27 (by omega))
  have c27_10 := cell_N e27
  refine go_blk rfl [(.dup, 1, 0, 0, 0, .inl 0)] 123 124 _ _ _ (by decide +kernel) ?_
  show Go _ _ _ _ 9 520 124 [(0, rc 0)] [rc 80, rc 80, rc 0] (P27, Y) _
  refine go_callIQ (idx := 78) (z := 1) (M' := M8_init) (n := 0) (A := []) (x := .inl 80) (d' := 2) (mc' := 9) (ms' := 520) (kc' := 0) (ks' := 0) (by decide +kernel) ml_10_78 rfl wi8_init rfl (ret8_init c27_10 ⟨((f27 81 (by omega)).1.trans (hu 81 (by omega) (by omega))), ((f27 82 (by omega)).1.trans (hu 82 (by omega) (by omega))), ((f27 83 (by omega)).1.trans (hu 83 (by omega) (by omega))), ((f27 84 (by omega)).1.trans (hu 84 (by omega) (by omega))), ((f27 85 (by omega)).1.trans (hu 85 (by omega) (by omega))), ((f27 86 (by omega)).1.trans (hu 86 (by omega) (by omega))), ((f27 87 (by omega)).1.trans (hu 87 (by omega) (by omega))), ((f27 88 (by omega)).1.trans (hu 88 (by omega) (by omega))), ((f27 89 (by omega)).1.trans (hu 89 (by omega) (by omega)))⟩) (by decide) (by decide) (by decide) (Nat.le_of_ble_eq_true rfl) rfl (fun v2 μ2 h => by obtain ⟨rfl, P9, rfl, h1, h2, h3⟩ := h; intro adK; refine ⟨?_, ?_⟩ <;> simp [jlv, jcvc, jcvm, jcvi, (h2 0 (by simp <;> omega)).2.2.1, h3]) (fun v2 μ2 h => ?_)
  obtain ⟨rfl, P28, rfl, h1, h2, h3⟩ := h
  have a28 := (h2 0 (by simp)).2.2.1.trans a27
  show Go _ _ _ _ 0 0 127 [(0, rc 0)] [rc 80, rc 0] (P28, Y) _
  have f28 : ∀ b, (b < 0 ∨ 28 < b) ∧ (b < 30 ∨ 68 < b) ∧ (b < 70 ∨ 89 < b) ∧ (b < 100 ∨ 118 < b) → Same P P28 b := fun b hb => (f27 b (by omega)).tr (h2 b (by simp <;> omega))
  have c28_0 := c27_0.sm (h2 0 (by simp <;> omega))
  have c28_4 := c27_4.sm (h2 15 (by simp <;> omega))
  have c28_6 := c27_6.sm (h2 16 (by simp <;> omega))
  have g28_0 := TapeNew_sm g27_0 (fun a h4 h5 => h2 a (by simp; omega))
  have g28_1 := PartyNew_sm g27_1 (fun a h4 h5 => h2 a (by simp; omega))
  have g28_2 := RulerNew_sm g27_2 (fun a h4 h5 => h2 a (by simp; omega))
  have g28_3 := BookNew_sm g27_3 (fun a h4 h5 => h2 a (by simp; omega))
  have g28_4 := GameNew_sm g27_4 (fun a h4 h5 => h2 a (by simp; omega))
  have g28_5 := ForeNew_sm g27_5 (fun a h4 h5 => h2 a (by simp; omega))
  have g28_6 := EvidNew_sm g27_6 (fun a h4 h5 => h2 a (by simp; omega))
  have g28_7 := h1
  refine go_putR (idx := 79) (a := 10) (b := 10) (z := 0) (w := some 80) (by decide +kernel) (by decide) rfl (by decide) (by decide) c28_0.1 rfl rfl rfl rfl ⟨rfl, by intro e; cases e⟩ (fun y hy => by cases hy; show cT P28 80 ≠ 0; rw [(SeatsNew_t g28_7)]; decide) ?_
  show Go _ _ _ _ 0 0 130 [(0, rc 0)] [] (pR P28 0 10 80, Y) _
  generalize e29 : pR P28 0 10 80 = P29
  have a29 := (aR e29 0).trans a28
  have f29 : ∀ b, (b < 0 ∨ 28 < b) ∧ (b < 30 ∨ 68 < b) ∧ (b < 70 ∨ 89 < b) ∧ (b < 100 ∨ 118 < b) → Same P P29 b := fun b hb => (f28 b (by omega)).tr (sR e29 (by omega))
  have c29_4 := c28_4.sm (sR e29 (by decide))
  have c29_6 := c28_6.sm (sR e29 (by decide))
  have g29_0 := TapeNew_sm g28_0 (fun a h1 h2 => sR e29 (by omega))
  have g29_1 := PartyNew_sm g28_1 (fun a h1 h2 => sR e29 (by omega))
  have g29_2 := RulerNew_sm g28_2 (fun a h1 h2 => sR e29 (by omega))
  have g29_3 := BookNew_sm g28_3 (fun a h1 h2 => sR e29 (by omega))
  have g29_4 := GameNew_sm g28_4 (fun a h1 h2 => sR e29 (by omega))
  have g29_5 := ForeNew_sm g28_5 (fun a h1 h2 => sR e29 (by omega))
  have g29_6 := EvidNew_sm g28_6 (fun a h1 h2 => sR e29 (by omega))
  have g29_7 := SeatsNew_sm g28_7 (fun a h1 h2 => sR e29 (by omega))
  have c29_0 := cell_R c28_0 e29
  refine go_return (by decide +kernel) rfl ⟨rfl, P29, rfl, ⟨c29_0, g29_0, g29_0, g29_1, g29_1, g29_2, g29_2, c29_4, g29_3, g29_3, c29_6, g29_4, g29_4, g29_5, g29_5, g29_6, g29_6, g29_7, g29_7⟩, fun b hb => f29 b (by omega), a29⟩
