abbrev vi (x : Int32) : jV := .inl x
abbrev vl (x : Int64) : jV := .inr (.inl x)
abbrev vn : jV := .inr (.inr none)
abbrev rc (a : Nat) : jV := .inr (.inr (some (.inl a)))
abbrev rm (a : Nat) : jV := .inr (.inr (some (.inr (.inl a))))
abbrev rs (t : Nat) : jV := .inr (.inr (some (.inr (.inr t))))
abbrev vo (r : Option Nat) : jV := .inr (.inr (r.map Sum.inl))
def jF : Nat := 5000
def wI (S : jS) (a i : Nat) (x : Int32) : jS := (jst S.1 a (upd (S.1 a) i x), S.2)
def wL (S : jS) (a i : Nat) (x : Int64) : jS := (S.1, jst S.2 a (vp_updL (S.2 a) i x))
def wC (S : jS) (s d sp dp n : Nat) : jS := (jst S.1 d (va_cpy (S.1 s) (S.1 d) sp dp n), S.2)
def inb (i : Int32) (n : Nat) : Bool := decide (¬ (i < 0 ∨ n ≤ i.toNatClampNeg))
theorem inb_in {i : Int32} {n : Nat} (h : inb i n = true) : vp_in i n := (of_decide_eq_true h : ¬ (i < 0 ∨ n ≤ i.toNatClampNeg))
def jopt {β : Type} (e : Option Nat) (A : β) (B : Nat → β) : β := match e with
  | none => A
  | some q => B q
theorem gd_el {α : Type} {c : Prop} [Decidable c] {A : Option α} {r : α} {P : Prop} (h : (if c then A else none) = some r) (k : c → A = some r → P) : P := by
  by_cases q : c
  · rw [if_pos q] at h; exact k q h
  · rw [if_neg q] at h; cases h
theorem ite_el {α : Type} {c : Prop} [Decidable c] {A B : Option α} {r : α} {P : Prop} (h : (if c then A else B) = some r) (k1 : c → A = some r → P) (k2 : ¬ c → B = some r → P) : P := by
  by_cases q : c
  · rw [if_pos q] at h; exact k1 q h
  · rw [if_neg q] at h; exact k2 q h
theorem bind_el {α β : Type} {x : Option α} {f : α → Option β} {y : β} (h : Option.bind x f = some y) : ∃ r, x = some r ∧ f r = some y := by
  cases x with
  | none => cases h
  | some r => exact ⟨r, rfl, h⟩
theorem opt_cs {β : Type} {e : Option Nat} {A : Option β} {B : Nat → Option β} {r : β} (h : jopt e A B = some r) : (e = none ∧ A = some r) ∨ ∃ q, e = some q ∧ B q = some r := by
  cases e with
  | none => exact Or.inl ⟨rfl, h⟩
  | some q => exact Or.inr ⟨q, rfl, h⟩
theorem tb_ne {x k : Int32} {z : Int} (h : ¬ x = k) (hz : k.toInt = z) : x.toInt ≠ z := fun e => h (Int32.toInt_inj.mp (e.trans hz.symm))
theorem gRc {S : jS} {T : jT} {Y : jS × jT} {a i b : Nat} (h : T.1 a i = some b) : gR ((S, T), Y) (.inl a) i = some (.inl b) := by
  show (T.1 a i).map Sum.inl = _; rw [h]; rfl
theorem gRm {S : jS} {T : jT} {Y : jS × jT} {a i b : Nat} (h : T.1 a i = some b) : gR (Y, (S, T)) (.inr (.inl a)) i = some (.inr (.inl b)) := by
  show (T.1 a i).map (fun b => (Sum.inr (Sum.inl b) : jId)) = _; rw [h]; rfl
theorem gRo {S : jS} {T : jT} {Y : jS × jT} {a i : Nat} : gR ((S, T), Y) (.inl a) i = (T.1 a i).map Sum.inl := rfl
theorem go_pick {M : jM} {d mc ms kc ks pc : Nat} {L L' : List (Nat × jV)} {st : List jV} {μ : jMem} {Q : Option jV → jMem → Prop} (is : List Nat) (hl : is.filterMap (fun k => L[k]?) = L') (k : Go M d mc ms kc ks pc L' st μ Q) : Go M d mc ms kc ks pc L st μ Q := by
  intro p l e s m args below meth c H locs cells slots ls D cid adK adV base hC hW hS hl2 h1 h2
  refine k p l e s m args below meth c H locs cells slots ls D cid adK adV base hC hW hS ⟨hl2.1, hl2.2.1, fun q hq => ?_⟩ h1 h2
  obtain ⟨y, hy, rfl⟩ := List.mem_map.mp hq
  rw [← hl] at hy
  obtain ⟨i, -, hi⟩ := List.mem_filterMap.mp hy
  exact hl2.2.2 _ (List.mem_map.mpr ⟨y, List.mem_of_getElem? hi, rfl⟩)
theorem lk_out : ∀ (ps : List (Int × Int)) (d : Int) (x : Int), (∀ q ∈ ps, q.1 ≠ x) → Op.lookupswitch.offset ps d x = d
  | [], _, _, _ => rfl
  | q :: r, d, x, h => by
    have h1 := h q List.mem_cons_self
    have h2 := lk_out r d x (fun y hy => h y (List.mem_cons_of_mem _ hy))
    unfold Op.lookupswitch.offset
    simp only [h2]
    split
    · rename_i e; exfalso; apply h1; first | simpa using e | simpa using e.symm
    · first | rfl | (split <;> rfl)
def LayHall (T : jT) (h : Nat) : Prop := T.2.1 h = 5 ∧ (T.1 h 8 = some (h + 1) ∧ T.2.1 (h + 1) = 20 ∧ T.2.2.1 (h + 1) = 6) ∧ (T.1 h 9 = some (h + 2) ∧ T.2.1 (h + 2) = 20 ∧ T.2.2.1 (h + 2) = 7) ∧ (T.1 h 10 = some (h + 3) ∧ T.2.1 (h + 3) = 20 ∧ T.2.2.1 (h + 3) = 7) ∧ (T.1 h 11 = some (h + 4) ∧ T.2.1 (h + 4) = 20 ∧ T.2.2.1 (h + 4) = 7) ∧ (T.1 h 12 = some (h + 5) ∧ T.2.1 (h + 5) = 20 ∧ T.2.2.1 (h + 5) = 7) ∧ (T.1 h 13 = some (h + 6) ∧ T.2.1 (h + 6) = 20 ∧ T.2.2.1 (h + 6) = 7)
def LayRule (T : jT) (r : Nat) : Prop := T.2.1 r = 7 ∧ (T.1 r 0 = some (r + 1) ∧ T.2.1 (r + 1) = 20) ∧ (T.1 r 1 = some (r + 2) ∧ T.2.1 (r + 2) = 23 ∧ T.2.2.1 (r + 2) = 64)
def LayBook (T : jT) (b : Nat) : Prop := T.2.1 b = 1 ∧ (T.1 b 0 = some (b + 1) ∧ LayHall T (b + 1)) ∧ (T.1 b 1 = some (b + 8) ∧ LayHall T (b + 8)) ∧ (T.1 b 2 = some (b + 15) ∧ T.2.1 (b + 15) = 24 ∧ T.2.2.1 (b + 15) = 20) ∧ (T.1 b 5 = some (b + 16) ∧ T.2.1 (b + 16) = 20 ∧ T.2.2.1 (b + 16) = 10) ∧ (T.1 b 6 = some (b + 17) ∧ T.2.1 (b + 17) = 20 ∧ T.2.2.1 (b + 17) = 10) ∧ (T.1 b 7 = some (b + 18) ∧ T.2.1 (b + 18) = 20 ∧ T.2.2.1 (b + 18) = 10) ∧ (∀ i q, T.1 (b + 15) i = some q → LayHall T q)
def lmT : List (Nat × Nat) := [(0, 12), (1, 20), (2, 20), (3, 20), (4, 20), (5, 20), (6, 20), (7, 20), (8, 20), (9, 20), (10, 20), (11, 20), (12, 20), (13, 20), (14, 20), (15, 20), (16, 20), (17, 20), (18, 20), (29, 21), (30, 20), (31, 20), (32, 20), (33, 20), (34, 20), (35, 20), (36, 20), (37, 23), (38, 23), (39, 20), (42, 20), (43, 20), (47, 20), (48, 20), (49, 20), (50, 20), (51, 20), (52, 20), (53, 20), (54, 22)]
def lmN : List (Nat × Nat) := [(1, 11), (2, 7), (3, 7), (4, 7), (5, 7), (6, 7), (7, 6), (8, 10), (9, 10), (10, 10), (11, 7), (12, 7), (13, 7), (14, 3), (15, 6), (16, 7), (17, 7), (18, 7), (29, 400), (30, 1800), (31, 1800), (32, 6), (33, 72), (34, 72), (35, 72), (36, 402), (37, 10), (38, 300), (39, 7), (42, 800), (43, 1), (47, 512), (48, 64), (49, 36), (50, 36), (51, 21), (52, 7), (53, 4750), (54, 4)]
def LayM (T : jT) : Prop := (∀ q ∈ lmT, T.2.1 q.1 = q.2) ∧ (∀ q ∈ lmN, T.2.2.1 q.1 = q.2 ∧ T.1 0 q.1 = some q.1)
theorem lm_t0 {T : jT} (h : LayM T) : T.2.1 0 = 12 := h.1 (0, 12) (by decide)
theorem lm_t1 {T : jT} (h : LayM T) : T.2.1 1 = 20 := h.1 (1, 20) (by decide)
theorem lm_t2 {T : jT} (h : LayM T) : T.2.1 2 = 20 := h.1 (2, 20) (by decide)
theorem lm_t3 {T : jT} (h : LayM T) : T.2.1 3 = 20 := h.1 (3, 20) (by decide)
theorem lm_t4 {T : jT} (h : LayM T) : T.2.1 4 = 20 := h.1 (4, 20) (by decide)
theorem lm_t5 {T : jT} (h : LayM T) : T.2.1 5 = 20 := h.1 (5, 20) (by decide)
theorem lm_t6 {T : jT} (h : LayM T) : T.2.1 6 = 20 := h.1 (6, 20) (by decide)
theorem lm_t7 {T : jT} (h : LayM T) : T.2.1 7 = 20 := h.1 (7, 20) (by decide)
theorem lm_t8 {T : jT} (h : LayM T) : T.2.1 8 = 20 := h.1 (8, 20) (by decide)
theorem lm_t9 {T : jT} (h : LayM T) : T.2.1 9 = 20 := h.1 (9, 20) (by decide)
theorem lm_t10 {T : jT} (h : LayM T) : T.2.1 10 = 20 := h.1 (10, 20) (by decide)
theorem lm_t11 {T : jT} (h : LayM T) : T.2.1 11 = 20 := h.1 (11, 20) (by decide)
theorem lm_t12 {T : jT} (h : LayM T) : T.2.1 12 = 20 := h.1 (12, 20) (by decide)
theorem lm_t13 {T : jT} (h : LayM T) : T.2.1 13 = 20 := h.1 (13, 20) (by decide)
theorem lm_t14 {T : jT} (h : LayM T) : T.2.1 14 = 20 := h.1 (14, 20) (by decide)
theorem lm_t15 {T : jT} (h : LayM T) : T.2.1 15 = 20 := h.1 (15, 20) (by decide)
theorem lm_t16 {T : jT} (h : LayM T) : T.2.1 16 = 20 := h.1 (16, 20) (by decide)
theorem lm_t17 {T : jT} (h : LayM T) : T.2.1 17 = 20 := h.1 (17, 20) (by decide)
theorem lm_t18 {T : jT} (h : LayM T) : T.2.1 18 = 20 := h.1 (18, 20) (by decide)
theorem lm_t29 {T : jT} (h : LayM T) : T.2.1 29 = 21 := h.1 (29, 21) (by decide)
theorem lm_t30 {T : jT} (h : LayM T) : T.2.1 30 = 20 := h.1 (30, 20) (by decide)
theorem lm_t31 {T : jT} (h : LayM T) : T.2.1 31 = 20 := h.1 (31, 20) (by decide)
theorem lm_t32 {T : jT} (h : LayM T) : T.2.1 32 = 20 := h.1 (32, 20) (by decide)
theorem lm_t33 {T : jT} (h : LayM T) : T.2.1 33 = 20 := h.1 (33, 20) (by decide)
theorem lm_t34 {T : jT} (h : LayM T) : T.2.1 34 = 20 := h.1 (34, 20) (by decide)
theorem lm_t35 {T : jT} (h : LayM T) : T.2.1 35 = 20 := h.1 (35, 20) (by decide)
theorem lm_t36 {T : jT} (h : LayM T) : T.2.1 36 = 20 := h.1 (36, 20) (by decide)
theorem lm_t37 {T : jT} (h : LayM T) : T.2.1 37 = 23 := h.1 (37, 23) (by decide)
theorem lm_t38 {T : jT} (h : LayM T) : T.2.1 38 = 23 := h.1 (38, 23) (by decide)
theorem lm_t39 {T : jT} (h : LayM T) : T.2.1 39 = 20 := h.1 (39, 20) (by decide)
theorem lm_t42 {T : jT} (h : LayM T) : T.2.1 42 = 20 := h.1 (42, 20) (by decide)
theorem lm_t43 {T : jT} (h : LayM T) : T.2.1 43 = 20 := h.1 (43, 20) (by decide)
theorem lm_t47 {T : jT} (h : LayM T) : T.2.1 47 = 20 := h.1 (47, 20) (by decide)
theorem lm_t48 {T : jT} (h : LayM T) : T.2.1 48 = 20 := h.1 (48, 20) (by decide)
theorem lm_t49 {T : jT} (h : LayM T) : T.2.1 49 = 20 := h.1 (49, 20) (by decide)
theorem lm_t50 {T : jT} (h : LayM T) : T.2.1 50 = 20 := h.1 (50, 20) (by decide)
theorem lm_t51 {T : jT} (h : LayM T) : T.2.1 51 = 20 := h.1 (51, 20) (by decide)
theorem lm_t52 {T : jT} (h : LayM T) : T.2.1 52 = 20 := h.1 (52, 20) (by decide)
theorem lm_t53 {T : jT} (h : LayM T) : T.2.1 53 = 20 := h.1 (53, 20) (by decide)
theorem lm_t54 {T : jT} (h : LayM T) : T.2.1 54 = 22 := h.1 (54, 22) (by decide)
theorem lm_n1 {T : jT} (h : LayM T) : T.2.2.1 1 = 11 := (h.2 (1, 11) (by decide)).1
theorem lm_r1 {T : jT} (h : LayM T) : T.1 0 1 = some 1 := (h.2 (1, 11) (by decide)).2
theorem lm_n2 {T : jT} (h : LayM T) : T.2.2.1 2 = 7 := (h.2 (2, 7) (by decide)).1
theorem lm_r2 {T : jT} (h : LayM T) : T.1 0 2 = some 2 := (h.2 (2, 7) (by decide)).2
theorem lm_n3 {T : jT} (h : LayM T) : T.2.2.1 3 = 7 := (h.2 (3, 7) (by decide)).1
theorem lm_r3 {T : jT} (h : LayM T) : T.1 0 3 = some 3 := (h.2 (3, 7) (by decide)).2
theorem lm_n4 {T : jT} (h : LayM T) : T.2.2.1 4 = 7 := (h.2 (4, 7) (by decide)).1
theorem lm_r4 {T : jT} (h : LayM T) : T.1 0 4 = some 4 := (h.2 (4, 7) (by decide)).2
theorem lm_n5 {T : jT} (h : LayM T) : T.2.2.1 5 = 7 := (h.2 (5, 7) (by decide)).1
theorem lm_r5 {T : jT} (h : LayM T) : T.1 0 5 = some 5 := (h.2 (5, 7) (by decide)).2
theorem lm_n6 {T : jT} (h : LayM T) : T.2.2.1 6 = 7 := (h.2 (6, 7) (by decide)).1
theorem lm_r6 {T : jT} (h : LayM T) : T.1 0 6 = some 6 := (h.2 (6, 7) (by decide)).2
theorem lm_n7 {T : jT} (h : LayM T) : T.2.2.1 7 = 6 := (h.2 (7, 6) (by decide)).1
theorem lm_r7 {T : jT} (h : LayM T) : T.1 0 7 = some 7 := (h.2 (7, 6) (by decide)).2
theorem lm_n8 {T : jT} (h : LayM T) : T.2.2.1 8 = 10 := (h.2 (8, 10) (by decide)).1
theorem lm_r8 {T : jT} (h : LayM T) : T.1 0 8 = some 8 := (h.2 (8, 10) (by decide)).2
theorem lm_n9 {T : jT} (h : LayM T) : T.2.2.1 9 = 10 := (h.2 (9, 10) (by decide)).1
theorem lm_r9 {T : jT} (h : LayM T) : T.1 0 9 = some 9 := (h.2 (9, 10) (by decide)).2
theorem lm_n10 {T : jT} (h : LayM T) : T.2.2.1 10 = 10 := (h.2 (10, 10) (by decide)).1
theorem lm_r10 {T : jT} (h : LayM T) : T.1 0 10 = some 10 := (h.2 (10, 10) (by decide)).2
theorem lm_n11 {T : jT} (h : LayM T) : T.2.2.1 11 = 7 := (h.2 (11, 7) (by decide)).1
theorem lm_r11 {T : jT} (h : LayM T) : T.1 0 11 = some 11 := (h.2 (11, 7) (by decide)).2
theorem lm_n12 {T : jT} (h : LayM T) : T.2.2.1 12 = 7 := (h.2 (12, 7) (by decide)).1
theorem lm_r12 {T : jT} (h : LayM T) : T.1 0 12 = some 12 := (h.2 (12, 7) (by decide)).2
theorem lm_n13 {T : jT} (h : LayM T) : T.2.2.1 13 = 7 := (h.2 (13, 7) (by decide)).1
theorem lm_r13 {T : jT} (h : LayM T) : T.1 0 13 = some 13 := (h.2 (13, 7) (by decide)).2
theorem lm_n14 {T : jT} (h : LayM T) : T.2.2.1 14 = 3 := (h.2 (14, 3) (by decide)).1
theorem lm_r14 {T : jT} (h : LayM T) : T.1 0 14 = some 14 := (h.2 (14, 3) (by decide)).2
theorem lm_n15 {T : jT} (h : LayM T) : T.2.2.1 15 = 6 := (h.2 (15, 6) (by decide)).1
theorem lm_r15 {T : jT} (h : LayM T) : T.1 0 15 = some 15 := (h.2 (15, 6) (by decide)).2
theorem lm_n16 {T : jT} (h : LayM T) : T.2.2.1 16 = 7 := (h.2 (16, 7) (by decide)).1
theorem lm_r16 {T : jT} (h : LayM T) : T.1 0 16 = some 16 := (h.2 (16, 7) (by decide)).2
theorem lm_n17 {T : jT} (h : LayM T) : T.2.2.1 17 = 7 := (h.2 (17, 7) (by decide)).1
theorem lm_r17 {T : jT} (h : LayM T) : T.1 0 17 = some 17 := (h.2 (17, 7) (by decide)).2
theorem lm_n18 {T : jT} (h : LayM T) : T.2.2.1 18 = 7 := (h.2 (18, 7) (by decide)).1
theorem lm_r18 {T : jT} (h : LayM T) : T.1 0 18 = some 18 := (h.2 (18, 7) (by decide)).2
theorem lm_n29 {T : jT} (h : LayM T) : T.2.2.1 29 = 400 := (h.2 (29, 400) (by decide)).1
theorem lm_r29 {T : jT} (h : LayM T) : T.1 0 29 = some 29 := (h.2 (29, 400) (by decide)).2
theorem lm_n30 {T : jT} (h : LayM T) : T.2.2.1 30 = 1800 := (h.2 (30, 1800) (by decide)).1
theorem lm_r30 {T : jT} (h : LayM T) : T.1 0 30 = some 30 := (h.2 (30, 1800) (by decide)).2
theorem lm_n31 {T : jT} (h : LayM T) : T.2.2.1 31 = 1800 := (h.2 (31, 1800) (by decide)).1
theorem lm_r31 {T : jT} (h : LayM T) : T.1 0 31 = some 31 := (h.2 (31, 1800) (by decide)).2
theorem lm_n32 {T : jT} (h : LayM T) : T.2.2.1 32 = 6 := (h.2 (32, 6) (by decide)).1
theorem lm_r32 {T : jT} (h : LayM T) : T.1 0 32 = some 32 := (h.2 (32, 6) (by decide)).2
theorem lm_n33 {T : jT} (h : LayM T) : T.2.2.1 33 = 72 := (h.2 (33, 72) (by decide)).1
theorem lm_r33 {T : jT} (h : LayM T) : T.1 0 33 = some 33 := (h.2 (33, 72) (by decide)).2
theorem lm_n34 {T : jT} (h : LayM T) : T.2.2.1 34 = 72 := (h.2 (34, 72) (by decide)).1
theorem lm_r34 {T : jT} (h : LayM T) : T.1 0 34 = some 34 := (h.2 (34, 72) (by decide)).2
theorem lm_n35 {T : jT} (h : LayM T) : T.2.2.1 35 = 72 := (h.2 (35, 72) (by decide)).1
theorem lm_r35 {T : jT} (h : LayM T) : T.1 0 35 = some 35 := (h.2 (35, 72) (by decide)).2
theorem lm_n36 {T : jT} (h : LayM T) : T.2.2.1 36 = 402 := (h.2 (36, 402) (by decide)).1
theorem lm_r36 {T : jT} (h : LayM T) : T.1 0 36 = some 36 := (h.2 (36, 402) (by decide)).2
theorem lm_n37 {T : jT} (h : LayM T) : T.2.2.1 37 = 10 := (h.2 (37, 10) (by decide)).1
theorem lm_r37 {T : jT} (h : LayM T) : T.1 0 37 = some 37 := (h.2 (37, 10) (by decide)).2
theorem lm_n38 {T : jT} (h : LayM T) : T.2.2.1 38 = 300 := (h.2 (38, 300) (by decide)).1
theorem lm_r38 {T : jT} (h : LayM T) : T.1 0 38 = some 38 := (h.2 (38, 300) (by decide)).2
theorem lm_n39 {T : jT} (h : LayM T) : T.2.2.1 39 = 7 := (h.2 (39, 7) (by decide)).1
theorem lm_r39 {T : jT} (h : LayM T) : T.1 0 39 = some 39 := (h.2 (39, 7) (by decide)).2
theorem lm_n42 {T : jT} (h : LayM T) : T.2.2.1 42 = 800 := (h.2 (42, 800) (by decide)).1
theorem lm_r42 {T : jT} (h : LayM T) : T.1 0 42 = some 42 := (h.2 (42, 800) (by decide)).2
theorem lm_n43 {T : jT} (h : LayM T) : T.2.2.1 43 = 1 := (h.2 (43, 1) (by decide)).1
theorem lm_r43 {T : jT} (h : LayM T) : T.1 0 43 = some 43 := (h.2 (43, 1) (by decide)).2
theorem lm_n47 {T : jT} (h : LayM T) : T.2.2.1 47 = 512 := (h.2 (47, 512) (by decide)).1
theorem lm_r47 {T : jT} (h : LayM T) : T.1 0 47 = some 47 := (h.2 (47, 512) (by decide)).2
theorem lm_n48 {T : jT} (h : LayM T) : T.2.2.1 48 = 64 := (h.2 (48, 64) (by decide)).1
theorem lm_r48 {T : jT} (h : LayM T) : T.1 0 48 = some 48 := (h.2 (48, 64) (by decide)).2
theorem lm_n49 {T : jT} (h : LayM T) : T.2.2.1 49 = 36 := (h.2 (49, 36) (by decide)).1
theorem lm_r49 {T : jT} (h : LayM T) : T.1 0 49 = some 49 := (h.2 (49, 36) (by decide)).2
theorem lm_n50 {T : jT} (h : LayM T) : T.2.2.1 50 = 36 := (h.2 (50, 36) (by decide)).1
theorem lm_r50 {T : jT} (h : LayM T) : T.1 0 50 = some 50 := (h.2 (50, 36) (by decide)).2
theorem lm_n51 {T : jT} (h : LayM T) : T.2.2.1 51 = 21 := (h.2 (51, 21) (by decide)).1
theorem lm_r51 {T : jT} (h : LayM T) : T.1 0 51 = some 51 := (h.2 (51, 21) (by decide)).2
theorem lm_n52 {T : jT} (h : LayM T) : T.2.2.1 52 = 7 := (h.2 (52, 7) (by decide)).1
theorem lm_r52 {T : jT} (h : LayM T) : T.1 0 52 = some 52 := (h.2 (52, 7) (by decide)).2
theorem lm_n53 {T : jT} (h : LayM T) : T.2.2.1 53 = 4750 := (h.2 (53, 4750) (by decide)).1
theorem lm_r53 {T : jT} (h : LayM T) : T.1 0 53 = some 53 := (h.2 (53, 4750) (by decide)).2
theorem lm_n54 {T : jT} (h : LayM T) : T.2.2.1 54 = 4 := (h.2 (54, 4) (by decide)).1
theorem lm_r54 {T : jT} (h : LayM T) : T.1 0 54 = some 54 := (h.2 (54, 4) (by decide)).2
def lcT : List (Nat × Nat) := [(0, 11), (1, 10), (2, 20), (3, 6), (11, 20), (12, 8), (13, 20), (14, 20), (15, 25), (16, 26), (17, 4), (18, 20), (19, 20), (20, 3), (28, 24), (65, 20), (66, 20), (67, 20), (68, 20), (70, 2), (78, 20), (79, 20), (80, 9), (81, 27), (82, 20), (83, 20), (84, 20), (85, 20), (86, 20), (87, 20), (88, 20), (89, 20)]
def lcN : List (Nat × Nat) := [(2, 400), (11, 3), (13, 400), (14, 64), (15, 6), (16, 4), (18, 42), (19, 7), (28, 5), (65, 4), (66, 4), (67, 36), (68, 36), (78, 21), (79, 7), (81, 8), (82, 64), (83, 64), (84, 64), (85, 64), (86, 64), (87, 64), (88, 64), (89, 64)]
def lcR : List (Nat × Nat × Nat) := [(1, 0, 2), (3, 0, 1), (3, 1, 4), (3, 2, 11), (12, 0, 1), (12, 1, 13), (12, 3, 14), (0, 0, 1), (0, 1, 3), (0, 2, 12), (0, 3, 15), (0, 5, 100), (0, 6, 16), (0, 7, 17), (0, 8, 20), (0, 9, 70), (0, 10, 80), (17, 0, 18), (17, 1, 19), (20, 0, 17), (20, 1, 21), (20, 2, 28), (20, 3, 65), (20, 4, 66), (20, 6, 67), (20, 7, 68), (70, 0, 17), (70, 1, 71), (70, 2, 78), (70, 3, 79), (80, 0, 81), (81, 0, 82), (81, 1, 83), (81, 2, 84), (81, 3, 85), (81, 4, 86), (81, 5, 87), (81, 6, 88), (81, 7, 89), (28, 0, 30), (28, 1, 37), (28, 2, 44), (28, 3, 51), (28, 4, 58)]
def LayC (T : jT) : Prop := (∀ q ∈ lcT, T.2.1 q.1 = q.2) ∧ (∀ q ∈ lcN, T.2.2.1 q.1 = q.2) ∧ (∀ q ∈ lcR, T.1 q.1 q.2.1 = some q.2.2) ∧ LayHall T 4 ∧ LayHall T 21 ∧ LayHall T 30 ∧ LayHall T 37 ∧ LayHall T 44 ∧ LayHall T 51 ∧ LayHall T 58 ∧ LayHall T 71 ∧ LayBook T 100 ∧ (∀ i q, T.1 15 i = some q → LayRule T q) ∧ (∀ i q, T.1 16 i = some q → LayBook T q) ∧ (∀ i q, T.1 28 i = some q → LayHall T q) ∧ (∀ i q, T.1 81 i = some q → T.2.1 q = 20 ∧ T.2.2.1 q = 64)
theorem lc_t0 {T : jT} (h : LayC T) : T.2.1 0 = 11 := h.1 (0, 11) (by decide)
theorem lc_t1 {T : jT} (h : LayC T) : T.2.1 1 = 10 := h.1 (1, 10) (by decide)
theorem lc_t2 {T : jT} (h : LayC T) : T.2.1 2 = 20 := h.1 (2, 20) (by decide)
theorem lc_t3 {T : jT} (h : LayC T) : T.2.1 3 = 6 := h.1 (3, 6) (by decide)
theorem lc_t11 {T : jT} (h : LayC T) : T.2.1 11 = 20 := h.1 (11, 20) (by decide)
theorem lc_t12 {T : jT} (h : LayC T) : T.2.1 12 = 8 := h.1 (12, 8) (by decide)
theorem lc_t13 {T : jT} (h : LayC T) : T.2.1 13 = 20 := h.1 (13, 20) (by decide)
theorem lc_t14 {T : jT} (h : LayC T) : T.2.1 14 = 20 := h.1 (14, 20) (by decide)
theorem lc_t15 {T : jT} (h : LayC T) : T.2.1 15 = 25 := h.1 (15, 25) (by decide)
theorem lc_t16 {T : jT} (h : LayC T) : T.2.1 16 = 26 := h.1 (16, 26) (by decide)
theorem lc_t17 {T : jT} (h : LayC T) : T.2.1 17 = 4 := h.1 (17, 4) (by decide)
theorem lc_t18 {T : jT} (h : LayC T) : T.2.1 18 = 20 := h.1 (18, 20) (by decide)
theorem lc_t19 {T : jT} (h : LayC T) : T.2.1 19 = 20 := h.1 (19, 20) (by decide)
theorem lc_t20 {T : jT} (h : LayC T) : T.2.1 20 = 3 := h.1 (20, 3) (by decide)
theorem lc_t28 {T : jT} (h : LayC T) : T.2.1 28 = 24 := h.1 (28, 24) (by decide)
theorem lc_t65 {T : jT} (h : LayC T) : T.2.1 65 = 20 := h.1 (65, 20) (by decide)
theorem lc_t66 {T : jT} (h : LayC T) : T.2.1 66 = 20 := h.1 (66, 20) (by decide)
theorem lc_t67 {T : jT} (h : LayC T) : T.2.1 67 = 20 := h.1 (67, 20) (by decide)
theorem lc_t68 {T : jT} (h : LayC T) : T.2.1 68 = 20 := h.1 (68, 20) (by decide)
theorem lc_t70 {T : jT} (h : LayC T) : T.2.1 70 = 2 := h.1 (70, 2) (by decide)
theorem lc_t78 {T : jT} (h : LayC T) : T.2.1 78 = 20 := h.1 (78, 20) (by decide)
theorem lc_t79 {T : jT} (h : LayC T) : T.2.1 79 = 20 := h.1 (79, 20) (by decide)
theorem lc_t80 {T : jT} (h : LayC T) : T.2.1 80 = 9 := h.1 (80, 9) (by decide)
theorem lc_t81 {T : jT} (h : LayC T) : T.2.1 81 = 27 := h.1 (81, 27) (by decide)
theorem lc_t82 {T : jT} (h : LayC T) : T.2.1 82 = 20 := h.1 (82, 20) (by decide)
theorem lc_t83 {T : jT} (h : LayC T) : T.2.1 83 = 20 := h.1 (83, 20) (by decide)
theorem lc_t84 {T : jT} (h : LayC T) : T.2.1 84 = 20 := h.1 (84, 20) (by decide)
theorem lc_t85 {T : jT} (h : LayC T) : T.2.1 85 = 20 := h.1 (85, 20) (by decide)
theorem lc_t86 {T : jT} (h : LayC T) : T.2.1 86 = 20 := h.1 (86, 20) (by decide)
theorem lc_t87 {T : jT} (h : LayC T) : T.2.1 87 = 20 := h.1 (87, 20) (by decide)
theorem lc_t88 {T : jT} (h : LayC T) : T.2.1 88 = 20 := h.1 (88, 20) (by decide)
theorem lc_t89 {T : jT} (h : LayC T) : T.2.1 89 = 20 := h.1 (89, 20) (by decide)
theorem lc_n2 {T : jT} (h : LayC T) : T.2.2.1 2 = 400 := h.2.1 (2, 400) (by decide)
theorem lc_n11 {T : jT} (h : LayC T) : T.2.2.1 11 = 3 := h.2.1 (11, 3) (by decide)
theorem lc_n13 {T : jT} (h : LayC T) : T.2.2.1 13 = 400 := h.2.1 (13, 400) (by decide)
theorem lc_n14 {T : jT} (h : LayC T) : T.2.2.1 14 = 64 := h.2.1 (14, 64) (by decide)
theorem lc_n15 {T : jT} (h : LayC T) : T.2.2.1 15 = 6 := h.2.1 (15, 6) (by decide)
theorem lc_n16 {T : jT} (h : LayC T) : T.2.2.1 16 = 4 := h.2.1 (16, 4) (by decide)
theorem lc_n18 {T : jT} (h : LayC T) : T.2.2.1 18 = 42 := h.2.1 (18, 42) (by decide)
theorem lc_n19 {T : jT} (h : LayC T) : T.2.2.1 19 = 7 := h.2.1 (19, 7) (by decide)
theorem lc_n28 {T : jT} (h : LayC T) : T.2.2.1 28 = 5 := h.2.1 (28, 5) (by decide)
theorem lc_n65 {T : jT} (h : LayC T) : T.2.2.1 65 = 4 := h.2.1 (65, 4) (by decide)
theorem lc_n66 {T : jT} (h : LayC T) : T.2.2.1 66 = 4 := h.2.1 (66, 4) (by decide)
theorem lc_n67 {T : jT} (h : LayC T) : T.2.2.1 67 = 36 := h.2.1 (67, 36) (by decide)
theorem lc_n68 {T : jT} (h : LayC T) : T.2.2.1 68 = 36 := h.2.1 (68, 36) (by decide)
theorem lc_n78 {T : jT} (h : LayC T) : T.2.2.1 78 = 21 := h.2.1 (78, 21) (by decide)
theorem lc_n79 {T : jT} (h : LayC T) : T.2.2.1 79 = 7 := h.2.1 (79, 7) (by decide)
theorem lc_n81 {T : jT} (h : LayC T) : T.2.2.1 81 = 8 := h.2.1 (81, 8) (by decide)
theorem lc_n82 {T : jT} (h : LayC T) : T.2.2.1 82 = 64 := h.2.1 (82, 64) (by decide)
theorem lc_n83 {T : jT} (h : LayC T) : T.2.2.1 83 = 64 := h.2.1 (83, 64) (by decide)
theorem lc_n84 {T : jT} (h : LayC T) : T.2.2.1 84 = 64 := h.2.1 (84, 64) (by decide)
theorem lc_n85 {T : jT} (h : LayC T) : T.2.2.1 85 = 64 := h.2.1 (85, 64) (by decide)
theorem lc_n86 {T : jT} (h : LayC T) : T.2.2.1 86 = 64 := h.2.1 (86, 64) (by decide)
theorem lc_n87 {T : jT} (h : LayC T) : T.2.2.1 87 = 64 := h.2.1 (87, 64) (by decide)
theorem lc_n88 {T : jT} (h : LayC T) : T.2.2.1 88 = 64 := h.2.1 (88, 64) (by decide)
theorem lc_n89 {T : jT} (h : LayC T) : T.2.2.1 89 = 64 := h.2.1 (89, 64) (by decide)
theorem lc_r9_0 {T : jT} (h : LayC T) : T.1 1 0 = some 2 := h.2.2.1 (1, 0, 2) (by decide)
theorem lc_r5_0 {T : jT} (h : LayC T) : T.1 3 0 = some 1 := h.2.2.1 (3, 0, 1) (by decide)
theorem lc_r5_1 {T : jT} (h : LayC T) : T.1 3 1 = some 4 := h.2.2.1 (3, 1, 4) (by decide)
theorem lc_r5_2 {T : jT} (h : LayC T) : T.1 3 2 = some 11 := h.2.2.1 (3, 2, 11) (by decide)
theorem lc_r7_0 {T : jT} (h : LayC T) : T.1 12 0 = some 1 := h.2.2.1 (12, 0, 1) (by decide)
theorem lc_r7_1 {T : jT} (h : LayC T) : T.1 12 1 = some 13 := h.2.2.1 (12, 1, 13) (by decide)
theorem lc_r7_3 {T : jT} (h : LayC T) : T.1 12 3 = some 14 := h.2.2.1 (12, 3, 14) (by decide)
theorem lc_r10_0 {T : jT} (h : LayC T) : T.1 0 0 = some 1 := h.2.2.1 (0, 0, 1) (by decide)
theorem lc_r10_1 {T : jT} (h : LayC T) : T.1 0 1 = some 3 := h.2.2.1 (0, 1, 3) (by decide)
theorem lc_r10_2 {T : jT} (h : LayC T) : T.1 0 2 = some 12 := h.2.2.1 (0, 2, 12) (by decide)
theorem lc_r10_3 {T : jT} (h : LayC T) : T.1 0 3 = some 15 := h.2.2.1 (0, 3, 15) (by decide)
theorem lc_r10_5 {T : jT} (h : LayC T) : T.1 0 5 = some 100 := h.2.2.1 (0, 5, 100) (by decide)
theorem lc_r10_6 {T : jT} (h : LayC T) : T.1 0 6 = some 16 := h.2.2.1 (0, 6, 16) (by decide)
theorem lc_r10_7 {T : jT} (h : LayC T) : T.1 0 7 = some 17 := h.2.2.1 (0, 7, 17) (by decide)
theorem lc_r10_8 {T : jT} (h : LayC T) : T.1 0 8 = some 20 := h.2.2.1 (0, 8, 20) (by decide)
theorem lc_r10_9 {T : jT} (h : LayC T) : T.1 0 9 = some 70 := h.2.2.1 (0, 9, 70) (by decide)
theorem lc_r10_10 {T : jT} (h : LayC T) : T.1 0 10 = some 80 := h.2.2.1 (0, 10, 80) (by decide)
theorem lc_r3_0 {T : jT} (h : LayC T) : T.1 17 0 = some 18 := h.2.2.1 (17, 0, 18) (by decide)
theorem lc_r3_1 {T : jT} (h : LayC T) : T.1 17 1 = some 19 := h.2.2.1 (17, 1, 19) (by decide)
theorem lc_r2_0 {T : jT} (h : LayC T) : T.1 20 0 = some 17 := h.2.2.1 (20, 0, 17) (by decide)
theorem lc_r2_1 {T : jT} (h : LayC T) : T.1 20 1 = some 21 := h.2.2.1 (20, 1, 21) (by decide)
theorem lc_r2_2 {T : jT} (h : LayC T) : T.1 20 2 = some 28 := h.2.2.1 (20, 2, 28) (by decide)
theorem lc_r2_3 {T : jT} (h : LayC T) : T.1 20 3 = some 65 := h.2.2.1 (20, 3, 65) (by decide)
theorem lc_r2_4 {T : jT} (h : LayC T) : T.1 20 4 = some 66 := h.2.2.1 (20, 4, 66) (by decide)
theorem lc_r2_6 {T : jT} (h : LayC T) : T.1 20 6 = some 67 := h.2.2.1 (20, 6, 67) (by decide)
theorem lc_r2_7 {T : jT} (h : LayC T) : T.1 20 7 = some 68 := h.2.2.1 (20, 7, 68) (by decide)
theorem lc_r1_0 {T : jT} (h : LayC T) : T.1 70 0 = some 17 := h.2.2.1 (70, 0, 17) (by decide)
theorem lc_r1_1 {T : jT} (h : LayC T) : T.1 70 1 = some 71 := h.2.2.1 (70, 1, 71) (by decide)
theorem lc_r1_2 {T : jT} (h : LayC T) : T.1 70 2 = some 78 := h.2.2.1 (70, 2, 78) (by decide)
theorem lc_r1_3 {T : jT} (h : LayC T) : T.1 70 3 = some 79 := h.2.2.1 (70, 3, 79) (by decide)
theorem lc_r8_0 {T : jT} (h : LayC T) : T.1 80 0 = some 81 := h.2.2.1 (80, 0, 81) (by decide)
theorem lc_r100_0 {T : jT} (h : LayC T) : T.1 81 0 = some 82 := h.2.2.1 (81, 0, 82) (by decide)
theorem lc_r100_1 {T : jT} (h : LayC T) : T.1 81 1 = some 83 := h.2.2.1 (81, 1, 83) (by decide)
theorem lc_r100_2 {T : jT} (h : LayC T) : T.1 81 2 = some 84 := h.2.2.1 (81, 2, 84) (by decide)
theorem lc_r100_3 {T : jT} (h : LayC T) : T.1 81 3 = some 85 := h.2.2.1 (81, 3, 85) (by decide)
theorem lc_r100_4 {T : jT} (h : LayC T) : T.1 81 4 = some 86 := h.2.2.1 (81, 4, 86) (by decide)
theorem lc_r100_5 {T : jT} (h : LayC T) : T.1 81 5 = some 87 := h.2.2.1 (81, 5, 87) (by decide)
theorem lc_r100_6 {T : jT} (h : LayC T) : T.1 81 6 = some 88 := h.2.2.1 (81, 6, 88) (by decide)
theorem lc_r100_7 {T : jT} (h : LayC T) : T.1 81 7 = some 89 := h.2.2.1 (81, 7, 89) (by decide)
theorem lc_r101_0 {T : jT} (h : LayC T) : T.1 28 0 = some 30 := h.2.2.1 (28, 0, 30) (by decide)
theorem lc_r101_1 {T : jT} (h : LayC T) : T.1 28 1 = some 37 := h.2.2.1 (28, 1, 37) (by decide)
theorem lc_r101_2 {T : jT} (h : LayC T) : T.1 28 2 = some 44 := h.2.2.1 (28, 2, 44) (by decide)
theorem lc_r101_3 {T : jT} (h : LayC T) : T.1 28 3 = some 51 := h.2.2.1 (28, 3, 51) (by decide)
theorem lc_r101_4 {T : jT} (h : LayC T) : T.1 28 4 = some 58 := h.2.2.1 (28, 4, 58) (by decide)
theorem lc_h4 {T : jT} (h : LayC T) : LayHall T 4 := h.2.2.2.1
theorem lc_h21 {T : jT} (h : LayC T) : LayHall T 21 := h.2.2.2.2.1
theorem lc_h30 {T : jT} (h : LayC T) : LayHall T 30 := h.2.2.2.2.2.1
theorem lc_h37 {T : jT} (h : LayC T) : LayHall T 37 := h.2.2.2.2.2.2.1
theorem lc_h44 {T : jT} (h : LayC T) : LayHall T 44 := h.2.2.2.2.2.2.2.1
theorem lc_h51 {T : jT} (h : LayC T) : LayHall T 51 := h.2.2.2.2.2.2.2.2.1
theorem lc_h58 {T : jT} (h : LayC T) : LayHall T 58 := h.2.2.2.2.2.2.2.2.2.1
theorem lc_h71 {T : jT} (h : LayC T) : LayHall T 71 := h.2.2.2.2.2.2.2.2.2.2.1
theorem lc_b100 {T : jT} (h : LayC T) : LayBook T 100 := h.2.2.2.2.2.2.2.2.2.2.2.1
theorem lc_e15 {T : jT} (h : LayC T) : ∀ i q, T.1 15 i = some q → LayRule T q := h.2.2.2.2.2.2.2.2.2.2.2.2.1
theorem lc_e16 {T : jT} (h : LayC T) : ∀ i q, T.1 16 i = some q → LayBook T q := h.2.2.2.2.2.2.2.2.2.2.2.2.2.1
theorem lc_e28 {T : jT} (h : LayC T) : ∀ i q, T.1 28 i = some q → LayHall T q := h.2.2.2.2.2.2.2.2.2.2.2.2.2.2.1
theorem lc_e81 {T : jT} (h : LayC T) : ∀ i q, T.1 81 i = some q → T.2.1 q = 20 ∧ T.2.2.1 q = 64 := h.2.2.2.2.2.2.2.2.2.2.2.2.2.2.2
theorem ml_12_9 : (12, 9, M10_init, 0) ∈ jml := List.mem_of_getElem? (i := 0) rfl
theorem ml_10_1 : (10, 1, M21_init, 0) ∈ jml := List.mem_of_getElem? (i := 1) rfl
theorem ml_10_9 : (10, 9, M9_init, 1) ∈ jml := List.mem_of_getElem? (i := 2) rfl
theorem ml_9_3 : (9, 3, M21_init, 0) ∈ jml := List.mem_of_getElem? (i := 3) rfl
theorem ml_10_18 : (10, 18, M5_init, 1) ∈ jml := List.mem_of_getElem? (i := 4) rfl
theorem ml_5_3 : (5, 3, M21_init, 0) ∈ jml := List.mem_of_getElem? (i := 5) rfl
theorem ml_5_11 : (5, 11, M4_init, 1) ∈ jml := List.mem_of_getElem? (i := 6) rfl
theorem ml_4_3 : (4, 3, M21_init, 0) ∈ jml := List.mem_of_getElem? (i := 7) rfl
theorem ml_10_27 : (10, 27, M7_init, 1) ∈ jml := List.mem_of_getElem? (i := 8) rfl
theorem ml_7_3 : (7, 3, M21_init, 0) ∈ jml := List.mem_of_getElem? (i := 9) rfl
theorem ml_10_44 : (10, 44, M0_init, 1) ∈ jml := List.mem_of_getElem? (i := 10) rfl
theorem ml_0_3 : (0, 3, M21_init, 0) ∈ jml := List.mem_of_getElem? (i := 11) rfl
theorem ml_0_11 : (0, 11, M4_init, 1) ∈ jml := List.mem_of_getElem? (i := 12) rfl
theorem ml_10_55 : (10, 55, M3_init, 1) ∈ jml := List.mem_of_getElem? (i := 13) rfl
theorem ml_3_3 : (3, 3, M21_init, 0) ∈ jml := List.mem_of_getElem? (i := 14) rfl
theorem ml_10_62 : (10, 62, M2_init, 1) ∈ jml := List.mem_of_getElem? (i := 15) rfl
theorem ml_2_3 : (2, 3, M21_init, 0) ∈ jml := List.mem_of_getElem? (i := 16) rfl
theorem ml_2_11 : (2, 11, M4_init, 1) ∈ jml := List.mem_of_getElem? (i := 17) rfl
theorem ml_10_71 : (10, 71, M1_init, 1) ∈ jml := List.mem_of_getElem? (i := 18) rfl
theorem ml_1_3 : (1, 3, M21_init, 0) ∈ jml := List.mem_of_getElem? (i := 19) rfl
theorem ml_1_11 : (1, 11, M4_init, 1) ∈ jml := List.mem_of_getElem? (i := 20) rfl
theorem ml_10_78 : (10, 78, M8_init, 1) ∈ jml := List.mem_of_getElem? (i := 21) rfl
theorem ml_8_3 : (8, 3, M21_init, 0) ∈ jml := List.mem_of_getElem? (i := 22) rfl
theorem ml_12_13 : (12, 13, M10_feed, 0) ∈ jml := List.mem_of_getElem? (i := 23) rfl
theorem ml_10_86 : (10, 86, M9_append, 1) ∈ jml := List.mem_of_getElem? (i := 24) rfl
theorem ml_12_18 : (12, 18, M10_end, 0) ∈ jml := List.mem_of_getElem? (i := 25) rfl
theorem ml_12_23 : (12, 23, M10_party, 0) ∈ jml := List.mem_of_getElem? (i := 26) rfl
theorem ml_10_90 : (10, 90, M5_read, 1) ∈ jml := List.mem_of_getElem? (i := 27) rfl
theorem ml_5_39 : (5, 39, M9_rewind, 1) ∈ jml := List.mem_of_getElem? (i := 28) rfl
theorem ml_5_44 : (5, 44, M4_clear, 1) ∈ jml := List.mem_of_getElem? (i := 29) rfl
theorem ml_5_47 : (5, 47, M9_readSign, 1) ∈ jml := List.mem_of_getElem? (i := 30) rfl
theorem ml_9_34 : (9, 34, M9_isLetter, 0) ∈ jml := List.mem_of_getElem? (i := 31) rfl
theorem ml_9_38 : (9, 38, M9_readWord, 0) ∈ jml := List.mem_of_getElem? (i := 32) rfl
theorem ml_9_50 : (9, 50, M9_wordOf, 0) ∈ jml := List.mem_of_getElem? (i := 33) rfl
theorem ml_9_54 : (9, 54, M9_spells, 0) ∈ jml := List.mem_of_getElem? (i := 34) rfl
theorem ml_9_62 : (9, 62, M15_length, 0) ∈ jml := List.mem_of_getElem? (i := 35) rfl
theorem ml_15_335 : (15, 335, M15_coder, 0) ∈ jml := List.mem_of_getElem? (i := 36) rfl
theorem ml_9_68 : (9, 68, M15_charAt, 0) ∈ jml := List.mem_of_getElem? (i := 37) rfl
theorem ml_15_492 : (15, 492, M15_isLatin1, 0) ∈ jml := List.mem_of_getElem? (i := 38) rfl
theorem ml_15_495 : (15, 495, M16_charAt, 0) ∈ jml := List.mem_of_getElem? (i := 39) rfl
theorem ml_16_9 : (16, 9, M15_checkIndex, 0) ∈ jml := List.mem_of_getElem? (i := 40) rfl
theorem ml_15_1059 : (15, 1059, M19_checkIndex, 0) ∈ jml := List.mem_of_getElem? (i := 41) rfl
theorem ml_15_498 : (15, 498, M17_charAt, 0) ∈ jml := List.mem_of_getElem? (i := 42) rfl
theorem ml_17_67 : (17, 67, M17_checkIndex, 0) ∈ jml := List.mem_of_getElem? (i := 43) rfl
theorem ml_17_48 : (17, 48, M17_length, 0) ∈ jml := List.mem_of_getElem? (i := 44) rfl
theorem ml_17_414 : (17, 414, M15_checkIndex, 0) ∈ jml := List.mem_of_getElem? (i := 45) rfl
theorem ml_17_71 : (17, 71, M17_getChar, 0) ∈ jml := List.mem_of_getElem? (i := 46) rfl
theorem ml_9_58 : (9, 58, M9_signOf, 0) ∈ jml := List.mem_of_getElem? (i := 47) rfl
theorem ml_9_41 : (9, 41, M9_isDigit, 0) ∈ jml := List.mem_of_getElem? (i := 48) rfl
theorem ml_9_44 : (9, 44, M9_readNumber, 0) ∈ jml := List.mem_of_getElem? (i := 49) rfl
theorem ml_9_47 : (9, 47, M9_readMark, 0) ∈ jml := List.mem_of_getElem? (i := 50) rfl
theorem ml_9_110 : (9, 110, M9_markOf, 0) ∈ jml := List.mem_of_getElem? (i := 51) rfl
theorem ml_5_50 : (5, 50, M5_takeSign, 0) ∈ jml := List.mem_of_getElem? (i := 52) rfl
theorem ml_5_57 : (5, 57, M5_takeWord, 0) ∈ jml := List.mem_of_getElem? (i := 53) rfl
theorem ml_5_69 : (5, 69, M9_fail, 1) ∈ jml := List.mem_of_getElem? (i := 54) rfl
theorem ml_5_60 : (5, 60, M5_takeNumber, 0) ∈ jml := List.mem_of_getElem? (i := 55) rfl
theorem ml_5_82 : (5, 82, M5_lowest, 0) ∈ jml := List.mem_of_getElem? (i := 56) rfl
theorem ml_5_86 : (5, 86, M5_highest, 0) ∈ jml := List.mem_of_getElem? (i := 57) rfl
theorem ml_5_89 : (5, 89, M4_hasChairAt, 1) ∈ jml := List.mem_of_getElem? (i := 58) rfl
theorem ml_5_92 : (5, 92, M5_endClause, 0) ∈ jml := List.mem_of_getElem? (i := 59) rfl
theorem ml_5_98 : (5, 98, M4_addChair, 1) ∈ jml := List.mem_of_getElem? (i := 60) rfl
theorem ml_5_102 : (5, 102, M4_addGuest, 1) ∈ jml := List.mem_of_getElem? (i := 61) rfl
theorem ml_5_63 : (5, 63, M5_takeBehindClause, 0) ∈ jml := List.mem_of_getElem? (i := 62) rfl
theorem ml_10_98 : (10, 98, M0_startParty, 1) ∈ jml := List.mem_of_getElem? (i := 63) rfl
theorem ml_0_51 : (0, 51, M4_copyFrom, 1) ∈ jml := List.mem_of_getElem? (i := 64) rfl
theorem ml_12_28 : (12, 28, M10_rule, 0) ∈ jml := List.mem_of_getElem? (i := 65) rfl
theorem ml_10_110 : (10, 110, M7_read, 1) ∈ jml := List.mem_of_getElem? (i := 66) rfl
theorem ml_7_48 : (7, 48, M9_rewind, 1) ∈ jml := List.mem_of_getElem? (i := 67) rfl
theorem ml_7_53 : (7, 53, M9_readSign, 1) ∈ jml := List.mem_of_getElem? (i := 68) rfl
theorem ml_7_56 : (7, 56, M7_takeSign, 0) ∈ jml := List.mem_of_getElem? (i := 69) rfl
theorem ml_7_74 : (7, 74, M7_takePlay, 0) ∈ jml := List.mem_of_getElem? (i := 70) rfl
theorem ml_7_92 : (7, 92, M9_fail, 1) ∈ jml := List.mem_of_getElem? (i := 71) rfl
theorem ml_7_77 : (7, 77, M7_takeFact, 0) ∈ jml := List.mem_of_getElem? (i := 72) rfl
theorem ml_7_80 : (7, 80, M7_takeValue, 0) ∈ jml := List.mem_of_getElem? (i := 73) rfl
theorem ml_7_103 : (7, 103, M7_emit, 0) ∈ jml := List.mem_of_getElem? (i := 74) rfl
theorem ml_7_96 : (7, 96, M7_push, 0) ∈ jml := List.mem_of_getElem? (i := 75) rfl
theorem ml_7_83 : (7, 83, M7_takeBehindValue, 0) ∈ jml := List.mem_of_getElem? (i := 76) rfl
theorem ml_7_106 : (7, 106, M7_rankOf, 0) ∈ jml := List.mem_of_getElem? (i := 77) rfl
theorem ml_7_110 : (7, 110, M7_release, 0) ∈ jml := List.mem_of_getElem? (i := 78) rfl
theorem ml_7_86 : (7, 86, M7_takeBehindFact, 0) ∈ jml := List.mem_of_getElem? (i := 79) rfl
theorem ml_7_116 : (7, 116, M7_takeEnd, 0) ∈ jml := List.mem_of_getElem? (i := 80) rfl
theorem ml_7_113 : (7, 113, M7_takeComparing, 0) ∈ jml := List.mem_of_getElem? (i := 81) rfl
theorem ml_10_111 : (10, 111, M7_made, 1) ∈ jml := List.mem_of_getElem? (i := 82) rfl
theorem ml_7_65 : (7, 65, M18_copyOf, 0) ∈ jml := List.mem_of_getElem? (i := 83) rfl
theorem ml_18_304 : (18, 304, M14_min_0, 0) ∈ jml := List.mem_of_getElem? (i := 84) rfl
theorem ml_7_71 : (7, 71, M6_init, 1) ∈ jml := List.mem_of_getElem? (i := 85) rfl
theorem ml_6_1 : (6, 1, M21_init, 0) ∈ jml := List.mem_of_getElem? (i := 86) rfl
theorem ml_12_32 : (12, 32, M10_force, 0) ∈ jml := List.mem_of_getElem? (i := 87) rfl
theorem ml_12_36 : (12, 36, M10_chair, 0) ∈ jml := List.mem_of_getElem? (i := 88) rfl
theorem ml_10_118 : (10, 118, M4_hasChair, 1) ∈ jml := List.mem_of_getElem? (i := 89) rfl
theorem ml_12_41 : (12, 41, M10_guest, 0) ∈ jml := List.mem_of_getElem? (i := 90) rfl
theorem ml_10_129 : (10, 129, M4_hasGuest, 1) ∈ jml := List.mem_of_getElem? (i := 91) rfl
theorem ml_12_45 : (12, 45, M10_time, 0) ∈ jml := List.mem_of_getElem? (i := 92) rfl
theorem ml_10_150 : (10, 150, M4_timeFor, 1) ∈ jml := List.mem_of_getElem? (i := 93) rfl
theorem ml_4_80 : (4, 80, M14_abs, 0) ∈ jml := List.mem_of_getElem? (i := 94) rfl
theorem ml_4_85 : (4, 85, M14_min_0, 0) ∈ jml := List.mem_of_getElem? (i := 95) rfl
theorem ml_12_49 : (12, 49, M10_round, 0) ∈ jml := List.mem_of_getElem? (i := 96) rfl
theorem ml_10_154 : (10, 154, M4_isTold, 1) ∈ jml := List.mem_of_getElem? (i := 97) rfl
theorem ml_10_161 : (10, 161, M0_remember, 1) ∈ jml := List.mem_of_getElem? (i := 98) rfl
theorem ml_0_55 : (0, 55, M0_keepPast, 0) ∈ jml := List.mem_of_getElem? (i := 99) rfl
theorem ml_10_164 : (10, 164, M10_ruleInForce, 0) ∈ jml := List.mem_of_getElem? (i := 100) rfl
theorem ml_10_293 : (10, 293, M10_ruleOf, 0) ∈ jml := List.mem_of_getElem? (i := 101) rfl
theorem ml_10_167 : (10, 167, M3_roundBy, 1) ∈ jml := List.mem_of_getElem? (i := 102) rfl
theorem ml_3_22 : (3, 22, M4_isOver, 1) ∈ jml := List.mem_of_getElem? (i := 103) rfl
theorem ml_4_61 : (4, 61, M13_bitCount, 0) ∈ jml := List.mem_of_getElem? (i := 104) rfl
theorem ml_3_36 : (3, 36, M6_sumFor, 1) ∈ jml := List.mem_of_getElem? (i := 105) rfl
theorem ml_6_21 : (6, 21, M6_pop, 0) ∈ jml := List.mem_of_getElem? (i := 106) rfl
theorem ml_6_25 : (6, 25, M6_push, 0) ∈ jml := List.mem_of_getElem? (i := 107) rfl
theorem ml_6_29 : (6, 29, M4_valueOf, 1) ∈ jml := List.mem_of_getElem? (i := 108) rfl
theorem ml_4_89 : (4, 89, M4_greatestStep, 0) ∈ jml := List.mem_of_getElem? (i := 109) rfl
theorem ml_4_93 : (4, 93, M4_leastStep, 0) ∈ jml := List.mem_of_getElem? (i := 110) rfl
theorem ml_4_96 : (4, 96, M4_countNear, 0) ∈ jml := List.mem_of_getElem? (i := 111) rfl
theorem ml_4_99 : (4, 99, M4_tiredTogether, 0) ∈ jml := List.mem_of_getElem? (i := 112) rfl
theorem ml_6_35 : (6, 35, M6_join, 0) ∈ jml := List.mem_of_getElem? (i := 113) rfl
theorem ml_3_44 : (3, 44, M14_min_1, 0) ∈ jml := List.mem_of_getElem? (i := 114) rfl
theorem ml_3_50 : (3, 50, M14_max_0, 0) ∈ jml := List.mem_of_getElem? (i := 115) rfl
theorem ml_3_53 : (3, 53, M3_roundOf, 0) ∈ jml := List.mem_of_getElem? (i := 116) rfl
theorem ml_3_57 : (3, 57, M3_walk, 0) ∈ jml := List.mem_of_getElem? (i := 117) rfl
theorem ml_3_61 : (3, 61, M3_measure, 0) ∈ jml := List.mem_of_getElem? (i := 118) rfl
theorem ml_3_97 : (3, 97, M4_timeFor, 1) ∈ jml := List.mem_of_getElem? (i := 119) rfl
theorem ml_3_65 : (3, 65, M3_seatAll, 0) ∈ jml := List.mem_of_getElem? (i := 120) rfl
theorem ml_3_90 : (3, 90, M3_nearestPair, 0) ∈ jml := List.mem_of_getElem? (i := 121) rfl
theorem ml_3_69 : (3, 69, M3_settle, 0) ∈ jml := List.mem_of_getElem? (i := 122) rfl
theorem ml_3_100 : (3, 100, M3_sit, 0) ∈ jml := List.mem_of_getElem? (i := 123) rfl
theorem ml_12_53 : (12, 53, M10_play, 0) ∈ jml := List.mem_of_getElem? (i := 124) rfl
theorem ml_10_174 : (10, 174, M4_isOver, 1) ∈ jml := List.mem_of_getElem? (i := 125) rfl
theorem ml_10_177 : (10, 177, M3_roundOf, 1) ∈ jml := List.mem_of_getElem? (i := 126) rfl
theorem ml_12_57 : (12, 57, M10_swap, 0) ∈ jml := List.mem_of_getElem? (i := 127) rfl
theorem ml_10_181 : (10, 181, M4_areTwoIn, 1) ∈ jml := List.mem_of_getElem? (i := 128) rfl
theorem ml_4_74 : (4, 74, M4_isIn, 0) ∈ jml := List.mem_of_getElem? (i := 129) rfl
theorem ml_4_71 : (4, 71, M4_hasGuest, 0) ∈ jml := List.mem_of_getElem? (i := 130) rfl
theorem ml_12_61 : (12, 61, M10_pace, 0) ∈ jml := List.mem_of_getElem? (i := 131) rfl
theorem ml_12_65 : (12, 65, M10_bring, 0) ∈ jml := List.mem_of_getElem? (i := 132) rfl
theorem ml_10_185 : (10, 185, M4_isThere, 1) ∈ jml := List.mem_of_getElem? (i := 133) rfl
theorem ml_4_67 : (4, 67, M4_hasChair, 0) ∈ jml := List.mem_of_getElem? (i := 134) rfl
theorem ml_10_188 : (10, 188, M13_bitCount, 0) ∈ jml := List.mem_of_getElem? (i := 135) rfl
theorem ml_12_69 : (12, 69, M10_undo, 0) ∈ jml := List.mem_of_getElem? (i := 136) rfl
theorem ml_10_194 : (10, 194, M0_takeBack, 1) ∈ jml := List.mem_of_getElem? (i := 137) rfl
theorem ml_12_73 : (12, 73, M10_ahead, 0) ∈ jml := List.mem_of_getElem? (i := 138) rfl
theorem ml_10_200 : (10, 200, M2_after, 1) ∈ jml := List.mem_of_getElem? (i := 139) rfl
theorem ml_2_50 : (2, 50, M4_copyFrom, 1) ∈ jml := List.mem_of_getElem? (i := 140) rfl
theorem ml_2_54 : (2, 54, M3_roundBy, 1) ∈ jml := List.mem_of_getElem? (i := 141) rfl
theorem ml_12_78 : (12, 78, M10_winner, 0) ∈ jml := List.mem_of_getElem? (i := 142) rfl
theorem ml_10_204 : (10, 204, M2_whenOver, 1) ∈ jml := List.mem_of_getElem? (i := 143) rfl
theorem ml_2_60 : (2, 60, M4_isOver, 1) ∈ jml := List.mem_of_getElem? (i := 144) rfl
theorem ml_10_208 : (10, 208, M4_alone, 1) ∈ jml := List.mem_of_getElem? (i := 145) rfl
theorem ml_4_77 : (4, 77, M13_numberOfTrailingZeros, 0) ∈ jml := List.mem_of_getElem? (i := 146) rfl
theorem ml_12_82 : (12, 82, M10_gone, 0) ∈ jml := List.mem_of_getElem? (i := 147) rfl
theorem ml_10_211 : (10, 211, M4_isIn, 1) ∈ jml := List.mem_of_getElem? (i := 148) rfl
theorem ml_10_214 : (10, 214, M2_roundOut, 1) ∈ jml := List.mem_of_getElem? (i := 149) rfl
theorem ml_2_64 : (2, 64, M4_isIn, 1) ∈ jml := List.mem_of_getElem? (i := 150) rfl
theorem ml_12_86 : (12, 86, M10_safe, 0) ∈ jml := List.mem_of_getElem? (i := 151) rfl
theorem ml_10_218 : (10, 218, M2_countSafe, 1) ∈ jml := List.mem_of_getElem? (i := 152) rfl
theorem ml_2_75 : (2, 75, M2_sitsBy, 0) ∈ jml := List.mem_of_getElem? (i := 153) rfl
theorem ml_2_71 : (2, 71, M3_roundOf, 1) ∈ jml := List.mem_of_getElem? (i := 154) rfl
theorem ml_10_221 : (10, 221, M2_leastSafe, 1) ∈ jml := List.mem_of_getElem? (i := 155) rfl
theorem ml_12_90 : (12, 90, M10_row, 0) ∈ jml := List.mem_of_getElem? (i := 156) rfl
theorem ml_10_224 : (10, 224, M2_countRows, 1) ∈ jml := List.mem_of_getElem? (i := 157) rfl
theorem ml_2_79 : (2, 79, M2_rowsFrom, 0) ∈ jml := List.mem_of_getElem? (i := 158) rfl
theorem ml_2_83 : (2, 83, M2_rowsOfRest, 0) ∈ jml := List.mem_of_getElem? (i := 159) rfl
theorem ml_12_94 : (12, 94, M10_within, 0) ∈ jml := List.mem_of_getElem? (i := 160) rfl
theorem ml_10_231 : (10, 231, M8_mostWithin, 1) ∈ jml := List.mem_of_getElem? (i := 161) rfl
theorem ml_8_66 : (8, 66, M18_fill, 0) ∈ jml := List.mem_of_getElem? (i := 162) rfl
theorem ml_8_48 : (8, 48, M4_isIn, 1) ∈ jml := List.mem_of_getElem? (i := 163) rfl
theorem ml_8_72 : (8, 72, M8_reachOn, 0) ∈ jml := List.mem_of_getElem? (i := 164) rfl
theorem ml_8_22 : (8, 22, M13_bitCount, 0) ∈ jml := List.mem_of_getElem? (i := 165) rfl
theorem ml_8_52 : (8, 52, M8_isFree, 0) ∈ jml := List.mem_of_getElem? (i := 166) rfl
theorem ml_8_56 : (8, 56, M4_timeFor, 1) ∈ jml := List.mem_of_getElem? (i := 167) rfl
theorem ml_8_59 : (8, 59, M14_max_1, 0) ∈ jml := List.mem_of_getElem? (i := 168) rfl
theorem ml_12_98 : (12, 98, M10_kind, 0) ∈ jml := List.mem_of_getElem? (i := 169) rfl
theorem ml_10_234 : (10, 234, M8_leastTime, 1) ∈ jml := List.mem_of_getElem? (i := 170) rfl
theorem ml_8_31 : (8, 31, M14_min_0, 0) ∈ jml := List.mem_of_getElem? (i := 171) rfl
theorem ml_8_41 : (8, 41, M8_leastFrom, 0) ∈ jml := List.mem_of_getElem? (i := 172) rfl
theorem ml_10_238 : (10, 238, M8_chairOf, 1) ∈ jml := List.mem_of_getElem? (i := 173) rfl
theorem ml_8_62 : (8, 62, M8_firstChair, 0) ∈ jml := List.mem_of_getElem? (i := 174) rfl
theorem ml_12_102 : (12, 102, M10_longest, 0) ∈ jml := List.mem_of_getElem? (i := 175) rfl
theorem ml_12_106 : (12, 106, M10_meet, 0) ∈ jml := List.mem_of_getElem? (i := 176) rfl
theorem ml_10_241 : (10, 241, M4_beatsTillMeeting, 1) ∈ jml := List.mem_of_getElem? (i := 177) rfl
theorem ml_12_110 : (12, 110, M10_tour, 0) ∈ jml := List.mem_of_getElem? (i := 178) rfl
theorem ml_10_244 : (10, 244, M4_beatsTillBack, 1) ∈ jml := List.mem_of_getElem? (i := 179) rfl
theorem ml_4_102 : (4, 102, M4_isBackAfter, 0) ∈ jml := List.mem_of_getElem? (i := 180) rfl
theorem ml_12_114 : (12, 114, M10_away, 0) ∈ jml := List.mem_of_getElem? (i := 181) rfl
theorem ml_10_247 : (10, 247, M10_isAsked, 0) ∈ jml := List.mem_of_getElem? (i := 182) rfl
theorem ml_10_250 : (10, 250, M2_chooseChair, 1) ∈ jml := List.mem_of_getElem? (i := 183) rfl
theorem ml_2_93 : (2, 93, M2_sitsFromTrial, 0) ∈ jml := List.mem_of_getElem? (i := 184) rfl
theorem ml_2_100 : (2, 100, M4_isThere, 1) ∈ jml := List.mem_of_getElem? (i := 185) rfl
theorem ml_2_106 : (2, 106, M2_offer, 0) ∈ jml := List.mem_of_getElem? (i := 186) rfl
theorem ml_12_118 : (12, 118, M10_begin, 0) ∈ jml := List.mem_of_getElem? (i := 187) rfl
theorem ml_10_260 : (10, 260, M2_choosePlace, 1) ∈ jml := List.mem_of_getElem? (i := 188) rfl
theorem ml_12_122 : (12, 122, M10_steps, 0) ∈ jml := List.mem_of_getElem? (i := 189) rfl
theorem ml_10_266 : (10, 266, M1_fittingSteps, 1) ∈ jml := List.mem_of_getElem? (i := 190) rfl
theorem ml_1_59 : (1, 59, M4_copyFrom, 1) ∈ jml := List.mem_of_getElem? (i := 191) rfl
theorem ml_1_63 : (1, 63, M1_trialFits, 0) ∈ jml := List.mem_of_getElem? (i := 192) rfl
theorem ml_1_33 : (1, 33, M3_roundBy, 1) ∈ jml := List.mem_of_getElem? (i := 193) rfl
theorem ml_12_126 : (12, 126, M10_quicks, 0) ∈ jml := List.mem_of_getElem? (i := 194) rfl
theorem ml_10_270 : (10, 270, M1_fittingQuicks, 1) ∈ jml := List.mem_of_getElem? (i := 195) rfl
theorem ml_12_130 : (12, 130, M10_rests, 0) ∈ jml := List.mem_of_getElem? (i := 196) rfl
theorem ml_10_273 : (10, 273, M2_playPaces, 1) ∈ jml := List.mem_of_getElem? (i := 197) rfl
theorem ml_10_277 : (10, 277, M2_countRests, 1) ∈ jml := List.mem_of_getElem? (i := 198) rfl
theorem ml_2_119 : (2, 119, M2_isRest, 0) ∈ jml := List.mem_of_getElem? (i := 199) rfl
theorem ml_10_280 : (10, 280, M2_firstRest, 1) ∈ jml := List.mem_of_getElem? (i := 200) rfl
theorem ml_12_135 : (12, 135, M10_pence, 0) ∈ jml := List.mem_of_getElem? (i := 201) rfl
theorem ml_10_283 : (10, 283, M4_shareOf, 1) ∈ jml := List.mem_of_getElem? (i := 202) rfl
theorem ml_12_139 : (12, 139, M10_note, 0) ∈ jml := List.mem_of_getElem? (i := 203) rfl
theorem ml_10_289 : (10, 289, M0_addNote, 1) ∈ jml := List.mem_of_getElem? (i := 204) rfl
theorem ml_12_143 : (12, 143, M10_ruled, 0) ∈ jml := List.mem_of_getElem? (i := 205) rfl
theorem ml_10_297 : (10, 297, M1_ruleFits, 1) ∈ jml := List.mem_of_getElem? (i := 206) rfl
theorem ml_12_147 : (12, 147, M10_look, 0) ∈ jml := List.mem_of_getElem? (i := 207) rfl
theorem ml_10_301 : (10, 301, M1_startLook, 1) ∈ jml := List.mem_of_getElem? (i := 208) rfl
theorem ml_1_73 : (1, 73, M18_fill, 0) ∈ jml := List.mem_of_getElem? (i := 209) rfl
theorem ml_10_304 : (10, 304, M1_countLook, 1) ∈ jml := List.mem_of_getElem? (i := 210) rfl
theorem ml_10_307 : (10, 307, M1_bestLook, 1) ∈ jml := List.mem_of_getElem? (i := 211) rfl
theorem ml_1_85 : (1, 85, M1_mostAlike, 0) ∈ jml := List.mem_of_getElem? (i := 212) rfl
theorem ml_1_79 : (1, 79, M14_max_1, 0) ∈ jml := List.mem_of_getElem? (i := 213) rfl
theorem ml_10_310 : (10, 310, M1_mostAlike, 1) ∈ jml := List.mem_of_getElem? (i := 214) rfl
theorem ml_12_151 : (12, 151, M10_seed, 0) ∈ jml := List.mem_of_getElem? (i := 215) rfl
theorem ml_12_155 : (12, 155, M10_tunes, 0) ∈ jml := List.mem_of_getElem? (i := 216) rfl
theorem ml_10_316 : (10, 316, M2_countTunes, 1) ∈ jml := List.mem_of_getElem? (i := 217) rfl
theorem ml_2_130 : (2, 130, M4_alone, 1) ∈ jml := List.mem_of_getElem? (i := 218) rfl
theorem ml_12_159 : (12, 159, M10_count, 0) ∈ jml := List.mem_of_getElem? (i := 219) rfl
theorem ml_12_163 : (12, 163, M10_image, 0) ∈ jml := List.mem_of_getElem? (i := 220) rfl
theorem ml_10_329 : (10, 329, M0_copyFrom, 1) ∈ jml := List.mem_of_getElem? (i := 221) rfl
theorem ml_12_167 : (12, 167, M10_back, 0) ∈ jml := List.mem_of_getElem? (i := 222) rfl
theorem ml_12_12 : (12, 12, M11_init, 0) ∈ jml := List.mem_of_getElem? (i := 223) rfl
theorem ml_11_3 : (11, 3, M21_init, 0) ∈ jml := List.mem_of_getElem? (i := 224) rfl
theorem ml_12_17 : (12, 17, M11_feed, 0) ∈ jml := List.mem_of_getElem? (i := 225) rfl
theorem ml_11_155 : (11, 155, M11_put, 0) ∈ jml := List.mem_of_getElem? (i := 226) rfl
theorem ml_12_22 : (12, 22, M11_end, 0) ∈ jml := List.mem_of_getElem? (i := 227) rfl
theorem ml_12_27 : (12, 27, M11_party, 0) ∈ jml := List.mem_of_getElem? (i := 228) rfl
theorem ml_11_314 : (11, 314, M11_readsAll, 0) ∈ jml := List.mem_of_getElem? (i := 229) rfl
theorem ml_11_301 : (11, 301, M11_starts, 0) ∈ jml := List.mem_of_getElem? (i := 230) rfl
theorem ml_11_304 : (11, 304, M11_partyClause, 0) ∈ jml := List.mem_of_getElem? (i := 231) rfl
theorem ml_11_201 : (11, 201, M11_blanks, 0) ∈ jml := List.mem_of_getElem? (i := 232) rfl
theorem ml_11_184 : (11, 184, M11_sign, 0) ∈ jml := List.mem_of_getElem? (i := 233) rfl
theorem ml_11_292 : (11, 292, M11_partyWord, 0) ∈ jml := List.mem_of_getElem? (i := 234) rfl
theorem ml_11_204 : (11, 204, M11_stood, 0) ∈ jml := List.mem_of_getElem? (i := 235) rfl
theorem ml_11_192 : (11, 192, M15_length, 0) ∈ jml := List.mem_of_getElem? (i := 236) rfl
theorem ml_11_197 : (11, 197, M15_charAt, 0) ∈ jml := List.mem_of_getElem? (i := 237) rfl
theorem ml_11_217 : (11, 217, M11_fails, 0) ∈ jml := List.mem_of_getElem? (i := 238) rfl
theorem ml_11_295 : (11, 295, M11_isOver, 0) ∈ jml := List.mem_of_getElem? (i := 239) rfl
theorem ml_11_298 : (11, 298, M11_partyPart, 0) ∈ jml := List.mem_of_getElem? (i := 240) rfl
theorem ml_11_282 : (11, 282, M11_amount, 0) ∈ jml := List.mem_of_getElem? (i := 241) rfl
theorem ml_11_226 : (11, 226, M11_digits, 0) ∈ jml := List.mem_of_getElem? (i := 242) rfl
theorem ml_11_221 : (11, 221, M11_isDigit, 0) ∈ jml := List.mem_of_getElem? (i := 243) rfl
theorem ml_11_140 : (11, 140, M11_in, 0) ∈ jml := List.mem_of_getElem? (i := 244) rfl
theorem ml_11_286 : (11, 286, M11_chairPart, 0) ∈ jml := List.mem_of_getElem? (i := 245) rfl
theorem ml_11_289 : (11, 289, M11_guestPart, 0) ∈ jml := List.mem_of_getElem? (i := 246) rfl
theorem ml_11_307 : (11, 307, M11_goesOn, 0) ∈ jml := List.mem_of_getElem? (i := 247) rfl
theorem ml_11_310 : (11, 310, M11_copies, 0) ∈ jml := List.mem_of_getElem? (i := 248) rfl
theorem ml_11_317 : (11, 317, M11_begins, 0) ∈ jml := List.mem_of_getElem? (i := 249) rfl
theorem ml_12_31 : (12, 31, M11_rule, 0) ∈ jml := List.mem_of_getElem? (i := 250) rfl
theorem ml_11_336 : (11, 336, M11_ruleClause, 0) ∈ jml := List.mem_of_getElem? (i := 251) rfl
theorem ml_11_246 : (11, 246, M11_sum, 0) ∈ jml := List.mem_of_getElem? (i := 252) rfl
theorem ml_11_243 : (11, 243, M11_term, 0) ∈ jml := List.mem_of_getElem? (i := 253) rfl
theorem ml_11_240 : (11, 240, M11_value, 0) ∈ jml := List.mem_of_getElem? (i := 254) rfl
theorem ml_11_230 : (11, 230, M11_isCounted, 0) ∈ jml := List.mem_of_getElem? (i := 255) rfl
theorem ml_11_233 : (11, 233, M11_entry, 0) ∈ jml := List.mem_of_getElem? (i := 256) rfl
theorem ml_11_236 : (11, 236, M11_wordOf, 0) ∈ jml := List.mem_of_getElem? (i := 257) rfl
theorem ml_11_327 : (11, 327, M11_takes, 0) ∈ jml := List.mem_of_getElem? (i := 258) rfl
theorem ml_11_330 : (11, 330, M11_test, 0) ∈ jml := List.mem_of_getElem? (i := 259) rfl
theorem ml_11_266 : (11, 266, M11_fact, 0) ∈ jml := List.mem_of_getElem? (i := 260) rfl
theorem ml_11_260 : (11, 260, M11_opens, 0) ∈ jml := List.mem_of_getElem? (i := 261) rfl
theorem ml_11_263 : (11, 263, M11_compared, 0) ∈ jml := List.mem_of_getElem? (i := 262) rfl
theorem ml_11_269 : (11, 269, M11_answers, 0) ∈ jml := List.mem_of_getElem? (i := 263) rfl
theorem ml_11_255 : (11, 255, M11_top, 0) ∈ jml := List.mem_of_getElem? (i := 264) rfl
theorem ml_12_35 : (12, 35, M11_force, 0) ∈ jml := List.mem_of_getElem? (i := 265) rfl
theorem ml_12_40 : (12, 40, M11_chair, 0) ∈ jml := List.mem_of_getElem? (i := 266) rfl
theorem ml_11_353 : (11, 353, M11_isChair, 0) ∈ jml := List.mem_of_getElem? (i := 267) rfl
theorem ml_12_44 : (12, 44, M11_guest, 0) ∈ jml := List.mem_of_getElem? (i := 268) rfl
theorem ml_11_144 : (11, 144, M11_isGuest, 0) ∈ jml := List.mem_of_getElem? (i := 269) rfl
theorem ml_12_48 : (12, 48, M11_time, 0) ∈ jml := List.mem_of_getElem? (i := 270) rfl
theorem ml_11_356 : (11, 356, M11_timeOf, 0) ∈ jml := List.mem_of_getElem? (i := 271) rfl
theorem ml_12_72 : (12, 72, M11_undo, 0) ∈ jml := List.mem_of_getElem? (i := 272) rfl
theorem ml_11_416 : (11, 416, M11_movesAll, 0) ∈ jml := List.mem_of_getElem? (i := 273) rfl
theorem ml_11_409 : (11, 409, M11_moves, 0) ∈ jml := List.mem_of_getElem? (i := 274) rfl
theorem ml_11_412 : (11, 412, M11_movesRow, 0) ∈ jml := List.mem_of_getElem? (i := 275) rfl
theorem ml_12_52 : (12, 52, M11_round, 0) ∈ jml := List.mem_of_getElem? (i := 276) rfl
theorem ml_11_420 : (11, 420, M11_isParty, 0) ∈ jml := List.mem_of_getElem? (i := 277) rfl
theorem ml_11_423 : (11, 423, M11_keepsAct, 0) ∈ jml := List.mem_of_getElem? (i := 278) rfl
theorem ml_11_399 : (11, 399, M11_goes, 0) ∈ jml := List.mem_of_getElem? (i := 279) rfl
theorem ml_11_384 : (11, 384, M11_isDone, 0) ∈ jml := List.mem_of_getElem? (i := 280) rfl
theorem ml_11_359 : (11, 359, M11_bits, 0) ∈ jml := List.mem_of_getElem? (i := 281) rfl
theorem ml_11_387 : (11, 387, M11_beatsWanted, 0) ∈ jml := List.mem_of_getElem? (i := 282) rfl
theorem ml_11_362 : (11, 362, M11_stepsIn, 0) ∈ jml := List.mem_of_getElem? (i := 283) rfl
theorem ml_11_148 : (11, 148, M11_has, 0) ∈ jml := List.mem_of_getElem? (i := 284) rfl
theorem ml_11_366 : (11, 366, M11_nearNow, 0) ∈ jml := List.mem_of_getElem? (i := 285) rfl
theorem ml_11_369 : (11, 369, M11_tiredNow, 0) ∈ jml := List.mem_of_getElem? (i := 286) rfl
theorem ml_11_372 : (11, 372, M11_wanted, 0) ∈ jml := List.mem_of_getElem? (i := 287) rfl
theorem ml_11_341 : (11, 341, M11_answer, 0) ∈ jml := List.mem_of_getElem? (i := 288) rfl
theorem ml_11_349 : (11, 349, M11_both, 0) ∈ jml := List.mem_of_getElem? (i := 289) rfl
theorem ml_11_345 : (11, 345, M11_truth, 0) ∈ jml := List.mem_of_getElem? (i := 290) rfl
theorem ml_11_390 : (11, 390, M11_placeIn, 0) ∈ jml := List.mem_of_getElem? (i := 291) rfl
theorem ml_11_393 : (11, 393, M11_sits, 0) ∈ jml := List.mem_of_getElem? (i := 292) rfl
theorem ml_11_381 : (11, 381, M11_sitsOne, 0) ∈ jml := List.mem_of_getElem? (i := 293) rfl
theorem ml_11_396 : (11, 396, M11_leaves, 0) ∈ jml := List.mem_of_getElem? (i := 294) rfl
theorem ml_12_56 : (12, 56, M11_play, 0) ∈ jml := List.mem_of_getElem? (i := 295) rfl
theorem ml_12_60 : (12, 60, M11_swap, 0) ∈ jml := List.mem_of_getElem? (i := 296) rfl
theorem ml_11_426 : (11, 426, M11_isStill, 0) ∈ jml := List.mem_of_getElem? (i := 297) rfl
theorem ml_12_64 : (12, 64, M11_pace, 0) ∈ jml := List.mem_of_getElem? (i := 298) rfl
theorem ml_12_68 : (12, 68, M11_bring, 0) ∈ jml := List.mem_of_getElem? (i := 299) rfl
theorem ml_12_77 : (12, 77, M11_ahead, 0) ∈ jml := List.mem_of_getElem? (i := 300) rfl
theorem ml_11_438 : (11, 438, M11_keepsAll, 0) ∈ jml := List.mem_of_getElem? (i := 301) rfl
theorem ml_11_431 : (11, 431, M11_carriesAll, 0) ∈ jml := List.mem_of_getElem? (i := 302) rfl
theorem ml_11_517 : (11, 517, M11_carryRow, 0) ∈ jml := List.mem_of_getElem? (i := 303) rfl
theorem ml_11_441 : (11, 441, M11_goFor, 0) ∈ jml := List.mem_of_getElem? (i := 304) rfl
theorem ml_11_444 : (11, 444, M11_laysBack, 0) ∈ jml := List.mem_of_getElem? (i := 305) rfl
theorem ml_12_81 : (12, 81, M11_winner, 0) ∈ jml := List.mem_of_getElem? (i := 306) rfl
theorem ml_11_447 : (11, 447, M11_alone, 0) ∈ jml := List.mem_of_getElem? (i := 307) rfl
theorem ml_12_85 : (12, 85, M11_gone, 0) ∈ jml := List.mem_of_getElem? (i := 308) rfl
theorem ml_12_89 : (12, 89, M11_safe, 0) ∈ jml := List.mem_of_getElem? (i := 309) rfl
theorem ml_12_93 : (12, 93, M11_row, 0) ∈ jml := List.mem_of_getElem? (i := 310) rfl
theorem ml_11_450 : (11, 450, M11_power, 0) ∈ jml := List.mem_of_getElem? (i := 311) rfl
theorem ml_11_455 : (11, 455, M11_staysBy, 0) ∈ jml := List.mem_of_getElem? (i := 312) rfl
theorem ml_12_101 : (12, 101, M11_kind, 0) ∈ jml := List.mem_of_getElem? (i := 313) rfl
theorem ml_11_466 : (11, 466, M11_laysLeast, 0) ∈ jml := List.mem_of_getElem? (i := 314) rfl
theorem ml_11_459 : (11, 459, M11_leastFrom, 0) ∈ jml := List.mem_of_getElem? (i := 315) rfl
theorem ml_11_463 : (11, 463, M11_joins, 0) ∈ jml := List.mem_of_getElem? (i := 316) rfl
theorem ml_11_470 : (11, 470, M11_chairBy, 0) ∈ jml := List.mem_of_getElem? (i := 317) rfl
theorem ml_12_105 : (12, 105, M11_longest, 0) ∈ jml := List.mem_of_getElem? (i := 318) rfl
theorem ml_12_97 : (12, 97, M11_within, 0) ∈ jml := List.mem_of_getElem? (i := 319) rfl
theorem ml_12_109 : (12, 109, M11_meet, 0) ∈ jml := List.mem_of_getElem? (i := 320) rfl
theorem ml_12_113 : (12, 113, M11_tour, 0) ∈ jml := List.mem_of_getElem? (i := 321) rfl
theorem ml_11_475 : (11, 475, M11_areAllBack, 0) ∈ jml := List.mem_of_getElem? (i := 322) rfl
theorem ml_12_117 : (12, 117, M11_away, 0) ∈ jml := List.mem_of_getElem? (i := 323) rfl
theorem ml_11_480 : (11, 480, M11_satIn, 0) ∈ jml := List.mem_of_getElem? (i := 324) rfl
theorem ml_12_121 : (12, 121, M11_begin, 0) ∈ jml := List.mem_of_getElem? (i := 325) rfl
theorem ml_12_134 : (12, 134, M11_rests, 0) ∈ jml := List.mem_of_getElem? (i := 326) rfl
theorem ml_11_483 : (11, 483, M11_laysPaces, 0) ∈ jml := List.mem_of_getElem? (i := 327) rfl
theorem ml_11_487 : (11, 487, M11_isRest, 0) ∈ jml := List.mem_of_getElem? (i := 328) rfl
theorem ml_12_138 : (12, 138, M11_pence, 0) ∈ jml := List.mem_of_getElem? (i := 329) rfl
theorem ml_12_142 : (12, 142, M11_note, 0) ∈ jml := List.mem_of_getElem? (i := 330) rfl
theorem ml_12_146 : (12, 146, M11_ruled, 0) ∈ jml := List.mem_of_getElem? (i := 331) rfl
theorem ml_11_495 : (11, 495, M11_couldRule, 0) ∈ jml := List.mem_of_getElem? (i := 332) rfl
theorem ml_11_492 : (11, 492, M11_doNotesFit, 0) ∈ jml := List.mem_of_getElem? (i := 333) rfl
theorem ml_12_125 : (12, 125, M11_steps, 0) ∈ jml := List.mem_of_getElem? (i := 334) rfl
theorem ml_12_129 : (12, 129, M11_quicks, 0) ∈ jml := List.mem_of_getElem? (i := 335) rfl
theorem ml_12_150 : (12, 150, M11_look, 0) ∈ jml := List.mem_of_getElem? (i := 336) rfl
theorem ml_11_498 : (11, 498, M11_mostAlike, 0) ∈ jml := List.mem_of_getElem? (i := 337) rfl
theorem ml_12_154 : (12, 154, M11_seed, 0) ∈ jml := List.mem_of_getElem? (i := 338) rfl
theorem ml_12_158 : (12, 158, M11_tunes, 0) ∈ jml := List.mem_of_getElem? (i := 339) rfl
theorem ml_11_508 : (11, 508, M11_draws, 0) ∈ jml := List.mem_of_getElem? (i := 340) rfl
theorem ml_12_162 : (12, 162, M11_count, 0) ∈ jml := List.mem_of_getElem? (i := 341) rfl
theorem ml_12_166 : (12, 166, M11_image, 0) ∈ jml := List.mem_of_getElem? (i := 342) rfl
theorem ml_12_170 : (12, 170, M11_back, 0) ∈ jml := List.mem_of_getElem? (i := 343) rfl
theorem al_4_55 : Cond.methodLink (jcn 4) 55 arraycopyName ∈ lw_tbl := jin_3 (List.mem_of_getElem? (i := 112) rfl)
theorem al_18_150 : Cond.methodLink (jcn 18) 150 arraycopyName ∈ lw_tbl := jin_3 (List.mem_of_getElem? (i := 193) rfl)
theorem al_2_87 : Cond.methodLink (jcn 2) 87 arraycopyName ∈ lw_tbl := jin_4 (List.mem_of_getElem? (i := 221) rfl)
theorem al_0_59 : Cond.methodLink (jcn 0) 59 arraycopyName ∈ lw_tbl := jin_5 (List.mem_of_getElem? (i := 198) rfl)
theorem wi10_init : jwI M10_init 0 := ⟨jin_1 (List.mem_of_getElem? (i := 24) rfl), jin_1 (List.mem_of_getElem? (i := 1) rfl), in_M10_init, by decide +kernel, by decide +kernel, by decide +kernel, by decide, rfl, rfl⟩
theorem wi9_init : jwI M9_init 0 := ⟨jin_1 (List.mem_of_getElem? (i := 32) rfl), jin_1 (List.mem_of_getElem? (i := 2) rfl), in_M9_init, by decide +kernel, by decide +kernel, by decide +kernel, by decide, rfl, rfl⟩
theorem wi5_init : jwI M5_init 1 := ⟨jin_1 (List.mem_of_getElem? (i := 68) rfl), jin_1 (List.mem_of_getElem? (i := 3) rfl), in_M5_init, by decide +kernel, by decide +kernel, by decide +kernel, by decide, rfl, rfl⟩
theorem wi4_init : jwI M4_init 0 := ⟨jin_1 (List.mem_of_getElem? (i := 74) rfl), jin_1 (List.mem_of_getElem? (i := 4) rfl), in_M4_init, by decide +kernel, by decide +kernel, by decide +kernel, by decide, rfl, rfl⟩
theorem wi7_init : jwI M7_init 1 := ⟨jin_1 (List.mem_of_getElem? (i := 189) rfl), jin_1 (List.mem_of_getElem? (i := 5) rfl), in_M7_init, by decide +kernel, by decide +kernel, by decide +kernel, by decide, rfl, rfl⟩
theorem wi0_init : jwI M0_init 0 := ⟨jin_1 (List.mem_of_getElem? (i := 231) rfl), jin_1 (List.mem_of_getElem? (i := 6) rfl), in_M0_init, by decide +kernel, by decide +kernel, by decide +kernel, by decide, rfl, rfl⟩
theorem wi3_init : jwI M3_init 0 := ⟨jin_2 (List.mem_of_getElem? (i := 46) rfl), jin_1 (List.mem_of_getElem? (i := 7) rfl), in_M3_init, by decide +kernel, by decide +kernel, by decide +kernel, by decide, rfl, rfl⟩
theorem wi2_init : jwI M2_init 1 := ⟨jin_2 (List.mem_of_getElem? (i := 62) rfl), jin_1 (List.mem_of_getElem? (i := 8) rfl), in_M2_init, by decide +kernel, by decide +kernel, by decide +kernel, by decide, rfl, rfl⟩
theorem wi1_init : jwI M1_init 1 := ⟨jin_2 (List.mem_of_getElem? (i := 104) rfl), jin_1 (List.mem_of_getElem? (i := 9) rfl), in_M1_init, by decide +kernel, by decide +kernel, by decide +kernel, by decide, rfl, rfl⟩
theorem wi8_init : jwI M8_init 0 := ⟨jin_2 (List.mem_of_getElem? (i := 128) rfl), jin_1 (List.mem_of_getElem? (i := 10) rfl), in_M8_init, by decide +kernel, by decide +kernel, by decide +kernel, by decide, rfl, rfl⟩
theorem wv10_feed : jwV M10_feed 5 := ⟨jin_2 (List.mem_of_getElem? (i := 172) rfl), jin_2 (List.mem_of_getElem? (i := 173) rfl), jin_1 (List.mem_of_getElem? (i := 1) rfl), in_M10_feed, by decide +kernel, by decide +kernel, by decide +kernel, by decide⟩
theorem wv9_append : jwV M9_append 1 := ⟨jin_2 (List.mem_of_getElem? (i := 177) rfl), List.mem_append_left _ (List.mem_of_getElem? (i := 0) rfl), jin_1 (List.mem_of_getElem? (i := 2) rfl), in_M9_append, by decide +kernel, by decide +kernel, by decide +kernel, by decide⟩
theorem wv10_end : jwV M10_end 1 := ⟨jin_2 (List.mem_of_getElem? (i := 180) rfl), jin_2 (List.mem_of_getElem? (i := 181) rfl), jin_1 (List.mem_of_getElem? (i := 1) rfl), in_M10_end, by decide +kernel, by decide +kernel, by decide +kernel, by decide⟩
theorem wv10_party : jwV M10_party 0 := ⟨jin_2 (List.mem_of_getElem? (i := 184) rfl), jin_2 (List.mem_of_getElem? (i := 185) rfl), jin_1 (List.mem_of_getElem? (i := 1) rfl), in_M10_party, by decide +kernel, by decide +kernel, by decide +kernel, by decide⟩
theorem wv5_read : jwV M5_read 0 := ⟨jin_2 (List.mem_of_getElem? (i := 189) rfl), List.mem_append_left _ (List.mem_of_getElem? (i := 1) rfl), jin_1 (List.mem_of_getElem? (i := 3) rfl), in_M5_read, by decide +kernel, by decide +kernel, by decide +kernel, by decide⟩
theorem wv9_rewind : jwV M9_rewind 0 := ⟨jin_2 (List.mem_of_getElem? (i := 193) rfl), List.mem_append_left _ (List.mem_of_getElem? (i := 2) rfl), jin_1 (List.mem_of_getElem? (i := 2) rfl), in_M9_rewind, by decide +kernel, by decide +kernel, by decide +kernel, by decide⟩
theorem wv4_clear : jwV M4_clear 0 := ⟨jin_2 (List.mem_of_getElem? (i := 197) rfl), List.mem_append_left _ (List.mem_of_getElem? (i := 3) rfl), jin_1 (List.mem_of_getElem? (i := 4) rfl), in_M4_clear, by decide +kernel, by decide +kernel, by decide +kernel, by decide⟩
theorem wv9_readSign : jwV M9_readSign 0 := ⟨jin_2 (List.mem_of_getElem? (i := 201) rfl), List.mem_append_left _ (List.mem_of_getElem? (i := 4) rfl), jin_1 (List.mem_of_getElem? (i := 2) rfl), in_M9_readSign, by decide +kernel, by decide +kernel, by decide +kernel, by decide⟩
theorem ws9_isLetter : jwS M9_isLetter 1 := ⟨jin_2 (List.mem_of_getElem? (i := 204) rfl), jin_1 (List.mem_of_getElem? (i := 2) rfl), in_M9_isLetter, by decide +kernel, by decide +kernel, by decide +kernel, by decide⟩
theorem wv9_readWord : jwV M9_readWord 0 := ⟨jin_2 (List.mem_of_getElem? (i := 208) rfl), List.mem_append_left _ (List.mem_of_getElem? (i := 5) rfl), jin_1 (List.mem_of_getElem? (i := 2) rfl), in_M9_readWord, by decide +kernel, by decide +kernel, by decide +kernel, by decide⟩
theorem ws9_wordOf : jwS M9_wordOf 1 := ⟨jin_2 (List.mem_of_getElem? (i := 211) rfl), jin_1 (List.mem_of_getElem? (i := 2) rfl), in_M9_wordOf, by decide +kernel, by decide +kernel, by decide +kernel, by decide⟩
theorem wv9_spells : jwV M9_spells 1 := ⟨jin_2 (List.mem_of_getElem? (i := 233) rfl), List.mem_append_left _ (List.mem_of_getElem? (i := 6) rfl), jin_1 (List.mem_of_getElem? (i := 2) rfl), in_M9_spells, by decide +kernel, by decide +kernel, by decide +kernel, by decide⟩
theorem wv15_length : jwV M15_length 0 := ⟨jin_2 (List.mem_of_getElem? (i := 236) rfl), jin_2 (List.mem_of_getElem? (i := 237) rfl), jin_1 (List.mem_of_getElem? (i := 12) rfl), in_M15_length, by decide +kernel, by decide +kernel, by decide +kernel, by decide⟩
theorem wv15_coder : jwV M15_coder 0 := ⟨jin_3 (List.mem_of_getElem? (i := 0) rfl), jin_3 (List.mem_of_getElem? (i := 1) rfl), jin_1 (List.mem_of_getElem? (i := 12) rfl), in_M15_coder, by decide +kernel, by decide +kernel, by decide +kernel, by decide⟩
theorem wv15_charAt : jwV M15_charAt 1 := ⟨jin_3 (List.mem_of_getElem? (i := 6) rfl), jin_3 (List.mem_of_getElem? (i := 7) rfl), jin_1 (List.mem_of_getElem? (i := 12) rfl), in_M15_charAt, by decide +kernel, by decide +kernel, by decide +kernel, by decide⟩
theorem wv15_isLatin1 : jwV M15_isLatin1 0 := ⟨jin_3 (List.mem_of_getElem? (i := 10) rfl), jin_3 (List.mem_of_getElem? (i := 11) rfl), jin_1 (List.mem_of_getElem? (i := 12) rfl), in_M15_isLatin1, by decide +kernel, by decide +kernel, by decide +kernel, by decide⟩
theorem ws16_charAt : jwS M16_charAt 2 := ⟨jin_3 (List.mem_of_getElem? (i := 14) rfl), jin_1 (List.mem_of_getElem? (i := 13) rfl), in_M16_charAt, by decide +kernel, by decide +kernel, by decide +kernel, by decide⟩
theorem ws15_checkIndex : jwS M15_checkIndex 2 := ⟨jin_3 (List.mem_of_getElem? (i := 17) rfl), jin_1 (List.mem_of_getElem? (i := 12) rfl), in_M15_checkIndex, by decide +kernel, by decide +kernel, by decide +kernel, by decide⟩
theorem ws19_checkIndex : jwS M19_checkIndex 3 := ⟨jin_3 (List.mem_of_getElem? (i := 22) rfl), jin_1 (List.mem_of_getElem? (i := 14) rfl), in_M19_checkIndex, by decide +kernel, by decide +kernel, by decide +kernel, by decide⟩
theorem ws17_charAt : jwS M17_charAt 2 := ⟨jin_3 (List.mem_of_getElem? (i := 25) rfl), jin_1 (List.mem_of_getElem? (i := 15) rfl), in_M17_charAt, by decide +kernel, by decide +kernel, by decide +kernel, by decide⟩
theorem ws17_checkIndex : jwS M17_checkIndex 2 := ⟨jin_3 (List.mem_of_getElem? (i := 28) rfl), jin_1 (List.mem_of_getElem? (i := 15) rfl), in_M17_checkIndex, by decide +kernel, by decide +kernel, by decide +kernel, by decide⟩
theorem ws17_length : jwS M17_length 1 := ⟨jin_3 (List.mem_of_getElem? (i := 31) rfl), jin_1 (List.mem_of_getElem? (i := 15) rfl), in_M17_length, by decide +kernel, by decide +kernel, by decide +kernel, by decide⟩
theorem ws17_getChar : jwS M17_getChar 2 := ⟨jin_3 (List.mem_of_getElem? (i := 35) rfl), jin_1 (List.mem_of_getElem? (i := 15) rfl), in_M17_getChar, by decide +kernel, by decide +kernel, by decide +kernel, by decide⟩
theorem ws9_signOf : jwS M9_signOf 1 := ⟨jin_3 (List.mem_of_getElem? (i := 44) rfl), jin_1 (List.mem_of_getElem? (i := 2) rfl), in_M9_signOf, by decide +kernel, by decide +kernel, by decide +kernel, by decide⟩
theorem ws9_isDigit : jwS M9_isDigit 1 := ⟨jin_3 (List.mem_of_getElem? (i := 47) rfl), jin_1 (List.mem_of_getElem? (i := 2) rfl), in_M9_isDigit, by decide +kernel, by decide +kernel, by decide +kernel, by decide⟩
theorem wv9_readNumber : jwV M9_readNumber 0 := ⟨jin_3 (List.mem_of_getElem? (i := 51) rfl), List.mem_append_left _ (List.mem_of_getElem? (i := 7) rfl), jin_1 (List.mem_of_getElem? (i := 2) rfl), in_M9_readNumber, by decide +kernel, by decide +kernel, by decide +kernel, by decide⟩
theorem wv9_readMark : jwV M9_readMark 0 := ⟨jin_3 (List.mem_of_getElem? (i := 55) rfl), List.mem_append_left _ (List.mem_of_getElem? (i := 8) rfl), jin_1 (List.mem_of_getElem? (i := 2) rfl), in_M9_readMark, by decide +kernel, by decide +kernel, by decide +kernel, by decide⟩
theorem ws9_markOf : jwS M9_markOf 1 := ⟨jin_3 (List.mem_of_getElem? (i := 58) rfl), jin_1 (List.mem_of_getElem? (i := 2) rfl), in_M9_markOf, by decide +kernel, by decide +kernel, by decide +kernel, by decide⟩
theorem wv5_takeSign : jwV M5_takeSign 0 := ⟨jin_3 (List.mem_of_getElem? (i := 62) rfl), List.mem_append_left _ (List.mem_of_getElem? (i := 9) rfl), jin_1 (List.mem_of_getElem? (i := 3) rfl), in_M5_takeSign, by decide +kernel, by decide +kernel, by decide +kernel, by decide⟩
theorem wv5_takeWord : jwV M5_takeWord 0 := ⟨jin_3 (List.mem_of_getElem? (i := 66) rfl), List.mem_append_left _ (List.mem_of_getElem? (i := 10) rfl), jin_1 (List.mem_of_getElem? (i := 3) rfl), in_M5_takeWord, by decide +kernel, by decide +kernel, by decide +kernel, by decide⟩
theorem wv9_fail : jwV M9_fail 1 := ⟨jin_3 (List.mem_of_getElem? (i := 70) rfl), List.mem_append_left _ (List.mem_of_getElem? (i := 11) rfl), jin_1 (List.mem_of_getElem? (i := 2) rfl), in_M9_fail, by decide +kernel, by decide +kernel, by decide +kernel, by decide⟩
theorem wv5_takeNumber : jwV M5_takeNumber 0 := ⟨jin_3 (List.mem_of_getElem? (i := 74) rfl), List.mem_append_left _ (List.mem_of_getElem? (i := 12) rfl), jin_1 (List.mem_of_getElem? (i := 3) rfl), in_M5_takeNumber, by decide +kernel, by decide +kernel, by decide +kernel, by decide⟩
theorem wv5_lowest : jwV M5_lowest 0 := ⟨jin_3 (List.mem_of_getElem? (i := 78) rfl), List.mem_append_left _ (List.mem_of_getElem? (i := 13) rfl), jin_1 (List.mem_of_getElem? (i := 3) rfl), in_M5_lowest, by decide +kernel, by decide +kernel, by decide +kernel, by decide⟩
theorem wv5_highest : jwV M5_highest 0 := ⟨jin_3 (List.mem_of_getElem? (i := 82) rfl), List.mem_append_left _ (List.mem_of_getElem? (i := 14) rfl), jin_1 (List.mem_of_getElem? (i := 3) rfl), in_M5_highest, by decide +kernel, by decide +kernel, by decide +kernel, by decide⟩
theorem wv4_hasChairAt : jwV M4_hasChairAt 1 := ⟨jin_3 (List.mem_of_getElem? (i := 86) rfl), List.mem_append_left _ (List.mem_of_getElem? (i := 15) rfl), jin_1 (List.mem_of_getElem? (i := 4) rfl), in_M4_hasChairAt, by decide +kernel, by decide +kernel, by decide +kernel, by decide⟩
theorem wv5_endClause : jwV M5_endClause 0 := ⟨jin_3 (List.mem_of_getElem? (i := 90) rfl), List.mem_append_left _ (List.mem_of_getElem? (i := 16) rfl), jin_1 (List.mem_of_getElem? (i := 3) rfl), in_M5_endClause, by decide +kernel, by decide +kernel, by decide +kernel, by decide⟩
theorem wv4_addChair : jwV M4_addChair 1 := ⟨jin_3 (List.mem_of_getElem? (i := 94) rfl), List.mem_append_left _ (List.mem_of_getElem? (i := 17) rfl), jin_1 (List.mem_of_getElem? (i := 4) rfl), in_M4_addChair, by decide +kernel, by decide +kernel, by decide +kernel, by decide⟩
theorem wv4_addGuest : jwV M4_addGuest 3 := ⟨jin_3 (List.mem_of_getElem? (i := 98) rfl), List.mem_append_left _ (List.mem_of_getElem? (i := 18) rfl), jin_1 (List.mem_of_getElem? (i := 4) rfl), in_M4_addGuest, by decide +kernel, by decide +kernel, by decide +kernel, by decide⟩
theorem wv5_takeBehindClause : jwV M5_takeBehindClause 0 := ⟨jin_3 (List.mem_of_getElem? (i := 102) rfl), List.mem_append_left _ (List.mem_of_getElem? (i := 19) rfl), jin_1 (List.mem_of_getElem? (i := 3) rfl), in_M5_takeBehindClause, by decide +kernel, by decide +kernel, by decide +kernel, by decide⟩
theorem wv0_startParty : jwV M0_startParty 1 := ⟨jin_3 (List.mem_of_getElem? (i := 106) rfl), List.mem_append_left _ (List.mem_of_getElem? (i := 20) rfl), jin_1 (List.mem_of_getElem? (i := 6) rfl), in_M0_startParty, by decide +kernel, by decide +kernel, by decide +kernel, by decide⟩
theorem wv4_copyFrom : jwV M4_copyFrom 1 := ⟨jin_3 (List.mem_of_getElem? (i := 110) rfl), List.mem_append_left _ (List.mem_of_getElem? (i := 21) rfl), jin_1 (List.mem_of_getElem? (i := 4) rfl), in_M4_copyFrom, by decide +kernel, by decide +kernel, by decide +kernel, by decide⟩
theorem wv10_rule : jwV M10_rule 0 := ⟨jin_3 (List.mem_of_getElem? (i := 117) rfl), jin_3 (List.mem_of_getElem? (i := 118) rfl), jin_1 (List.mem_of_getElem? (i := 1) rfl), in_M10_rule, by decide +kernel, by decide +kernel, by decide +kernel, by decide⟩
theorem wv7_read : jwV M7_read 0 := ⟨jin_3 (List.mem_of_getElem? (i := 122) rfl), List.mem_append_left _ (List.mem_of_getElem? (i := 22) rfl), jin_1 (List.mem_of_getElem? (i := 5) rfl), in_M7_read, by decide +kernel, by decide +kernel, by decide +kernel, by decide⟩
theorem wv7_takeSign : jwV M7_takeSign 0 := ⟨jin_3 (List.mem_of_getElem? (i := 128) rfl), List.mem_append_left _ (List.mem_of_getElem? (i := 23) rfl), jin_1 (List.mem_of_getElem? (i := 5) rfl), in_M7_takeSign, by decide +kernel, by decide +kernel, by decide +kernel, by decide⟩
theorem wv7_takePlay : jwV M7_takePlay 0 := ⟨jin_3 (List.mem_of_getElem? (i := 132) rfl), List.mem_append_left _ (List.mem_of_getElem? (i := 24) rfl), jin_1 (List.mem_of_getElem? (i := 5) rfl), in_M7_takePlay, by decide +kernel, by decide +kernel, by decide +kernel, by decide⟩
theorem wv7_takeFact : jwV M7_takeFact 0 := ⟨jin_3 (List.mem_of_getElem? (i := 137) rfl), List.mem_append_left _ (List.mem_of_getElem? (i := 25) rfl), jin_1 (List.mem_of_getElem? (i := 5) rfl), in_M7_takeFact, by decide +kernel, by decide +kernel, by decide +kernel, by decide⟩
theorem wv7_takeValue : jwV M7_takeValue 0 := ⟨jin_3 (List.mem_of_getElem? (i := 141) rfl), List.mem_append_left _ (List.mem_of_getElem? (i := 26) rfl), jin_1 (List.mem_of_getElem? (i := 5) rfl), in_M7_takeValue, by decide +kernel, by decide +kernel, by decide +kernel, by decide⟩
theorem wv7_emit : jwV M7_emit 1 := ⟨jin_3 (List.mem_of_getElem? (i := 145) rfl), List.mem_append_left _ (List.mem_of_getElem? (i := 27) rfl), jin_1 (List.mem_of_getElem? (i := 5) rfl), in_M7_emit, by decide +kernel, by decide +kernel, by decide +kernel, by decide⟩
theorem wv7_push : jwV M7_push 1 := ⟨jin_3 (List.mem_of_getElem? (i := 149) rfl), List.mem_append_left _ (List.mem_of_getElem? (i := 28) rfl), jin_1 (List.mem_of_getElem? (i := 5) rfl), in_M7_push, by decide +kernel, by decide +kernel, by decide +kernel, by decide⟩
theorem wv7_takeBehindValue : jwV M7_takeBehindValue 0 := ⟨jin_3 (List.mem_of_getElem? (i := 153) rfl), List.mem_append_left _ (List.mem_of_getElem? (i := 29) rfl), jin_1 (List.mem_of_getElem? (i := 5) rfl), in_M7_takeBehindValue, by decide +kernel, by decide +kernel, by decide +kernel, by decide⟩
theorem ws7_rankOf : jwS M7_rankOf 1 := ⟨jin_3 (List.mem_of_getElem? (i := 156) rfl), jin_1 (List.mem_of_getElem? (i := 5) rfl), in_M7_rankOf, by decide +kernel, by decide +kernel, by decide +kernel, by decide⟩
theorem wv7_release : jwV M7_release 1 := ⟨jin_3 (List.mem_of_getElem? (i := 160) rfl), List.mem_append_left _ (List.mem_of_getElem? (i := 30) rfl), jin_1 (List.mem_of_getElem? (i := 5) rfl), in_M7_release, by decide +kernel, by decide +kernel, by decide +kernel, by decide⟩
theorem wv7_takeBehindFact : jwV M7_takeBehindFact 0 := ⟨jin_3 (List.mem_of_getElem? (i := 164) rfl), List.mem_append_left _ (List.mem_of_getElem? (i := 31) rfl), jin_1 (List.mem_of_getElem? (i := 5) rfl), in_M7_takeBehindFact, by decide +kernel, by decide +kernel, by decide +kernel, by decide⟩
theorem wv7_takeEnd : jwV M7_takeEnd 1 := ⟨jin_3 (List.mem_of_getElem? (i := 168) rfl), List.mem_append_left _ (List.mem_of_getElem? (i := 32) rfl), jin_1 (List.mem_of_getElem? (i := 5) rfl), in_M7_takeEnd, by decide +kernel, by decide +kernel, by decide +kernel, by decide⟩
theorem wv7_takeComparing : jwV M7_takeComparing 0 := ⟨jin_3 (List.mem_of_getElem? (i := 172) rfl), List.mem_append_left _ (List.mem_of_getElem? (i := 33) rfl), jin_1 (List.mem_of_getElem? (i := 5) rfl), in_M7_takeComparing, by decide +kernel, by decide +kernel, by decide +kernel, by decide⟩
theorem wv7_made : jwV M7_made 0 := ⟨jin_3 (List.mem_of_getElem? (i := 176) rfl), List.mem_append_left _ (List.mem_of_getElem? (i := 34) rfl), jin_1 (List.mem_of_getElem? (i := 5) rfl), in_M7_made, by decide +kernel, by decide +kernel, by decide +kernel, by decide⟩
theorem ws18_copyOf : jwS M18_copyOf 2 := ⟨jin_3 (List.mem_of_getElem? (i := 181) rfl), jin_1 (List.mem_of_getElem? (i := 18) rfl), in_M18_copyOf, by decide +kernel, by decide +kernel, by decide +kernel, by decide⟩
theorem ws14_min_0 : jwS M14_min_0 2 := ⟨jin_3 (List.mem_of_getElem? (i := 191) rfl), jin_1 (List.mem_of_getElem? (i := 19) rfl), in_M14_min_0, by decide +kernel, by decide +kernel, by decide +kernel, by decide⟩
theorem wi6_init : jwI M6_init 1 := ⟨jin_3 (List.mem_of_getElem? (i := 195) rfl), jin_1 (List.mem_of_getElem? (i := 17) rfl), in_M6_init, by decide +kernel, by decide +kernel, by decide +kernel, by decide, rfl, rfl⟩
theorem wv10_force : jwV M10_force 1 := ⟨jin_3 (List.mem_of_getElem? (i := 210) rfl), jin_3 (List.mem_of_getElem? (i := 211) rfl), jin_1 (List.mem_of_getElem? (i := 1) rfl), in_M10_force, by decide +kernel, by decide +kernel, by decide +kernel, by decide⟩
theorem wv10_chair : jwV M10_chair 2 := ⟨jin_3 (List.mem_of_getElem? (i := 214) rfl), jin_3 (List.mem_of_getElem? (i := 215) rfl), jin_1 (List.mem_of_getElem? (i := 1) rfl), in_M10_chair, by decide +kernel, by decide +kernel, by decide +kernel, by decide⟩
theorem wv4_hasChair : jwV M4_hasChair 1 := ⟨jin_3 (List.mem_of_getElem? (i := 219) rfl), List.mem_append_left _ (List.mem_of_getElem? (i := 35) rfl), jin_1 (List.mem_of_getElem? (i := 4) rfl), in_M4_hasChair, by decide +kernel, by decide +kernel, by decide +kernel, by decide⟩
theorem wv10_guest : jwV M10_guest 2 := ⟨jin_3 (List.mem_of_getElem? (i := 222) rfl), jin_3 (List.mem_of_getElem? (i := 223) rfl), jin_1 (List.mem_of_getElem? (i := 1) rfl), in_M10_guest, by decide +kernel, by decide +kernel, by decide +kernel, by decide⟩
theorem wv4_hasGuest : jwV M4_hasGuest 1 := ⟨jin_3 (List.mem_of_getElem? (i := 227) rfl), List.mem_append_left _ (List.mem_of_getElem? (i := 36) rfl), jin_1 (List.mem_of_getElem? (i := 4) rfl), in_M4_hasGuest, by decide +kernel, by decide +kernel, by decide +kernel, by decide⟩
theorem wv10_time : jwV M10_time 2 := ⟨jin_3 (List.mem_of_getElem? (i := 230) rfl), jin_3 (List.mem_of_getElem? (i := 231) rfl), jin_1 (List.mem_of_getElem? (i := 1) rfl), in_M10_time, by decide +kernel, by decide +kernel, by decide +kernel, by decide⟩
theorem wv4_timeFor : jwV M4_timeFor 2 := ⟨jin_3 (List.mem_of_getElem? (i := 235) rfl), List.mem_append_left _ (List.mem_of_getElem? (i := 37) rfl), jin_1 (List.mem_of_getElem? (i := 4) rfl), in_M4_timeFor, by decide +kernel, by decide +kernel, by decide +kernel, by decide⟩
theorem ws14_abs : jwS M14_abs 1 := ⟨jin_3 (List.mem_of_getElem? (i := 238) rfl), jin_1 (List.mem_of_getElem? (i := 19) rfl), in_M14_abs, by decide +kernel, by decide +kernel, by decide +kernel, by decide⟩
theorem wv10_round : jwV M10_round 0 := ⟨jin_4 (List.mem_of_getElem? (i := 2) rfl), jin_4 (List.mem_of_getElem? (i := 3) rfl), jin_1 (List.mem_of_getElem? (i := 1) rfl), in_M10_round, by decide +kernel, by decide +kernel, by decide +kernel, by decide⟩
theorem wv4_isTold : jwV M4_isTold 0 := ⟨jin_4 (List.mem_of_getElem? (i := 7) rfl), List.mem_append_left _ (List.mem_of_getElem? (i := 38) rfl), jin_1 (List.mem_of_getElem? (i := 4) rfl), in_M4_isTold, by decide +kernel, by decide +kernel, by decide +kernel, by decide⟩
theorem wv0_remember : jwV M0_remember 0 := ⟨jin_4 (List.mem_of_getElem? (i := 11) rfl), List.mem_append_left _ (List.mem_of_getElem? (i := 39) rfl), jin_1 (List.mem_of_getElem? (i := 6) rfl), in_M0_remember, by decide +kernel, by decide +kernel, by decide +kernel, by decide⟩
theorem wv0_keepPast : jwV M0_keepPast 2 := ⟨jin_4 (List.mem_of_getElem? (i := 15) rfl), List.mem_append_left _ (List.mem_of_getElem? (i := 40) rfl), jin_1 (List.mem_of_getElem? (i := 6) rfl), in_M0_keepPast, by decide +kernel, by decide +kernel, by decide +kernel, by decide⟩
theorem wv10_ruleInForce : jwV M10_ruleInForce 0 := ⟨jin_4 (List.mem_of_getElem? (i := 19) rfl), List.mem_append_left _ (List.mem_of_getElem? (i := 41) rfl), jin_1 (List.mem_of_getElem? (i := 1) rfl), in_M10_ruleInForce, by decide +kernel, by decide +kernel, by decide +kernel, by decide⟩
theorem wv10_ruleOf : jwV M10_ruleOf 1 := ⟨jin_4 (List.mem_of_getElem? (i := 23) rfl), List.mem_append_left _ (List.mem_of_getElem? (i := 42) rfl), jin_1 (List.mem_of_getElem? (i := 1) rfl), in_M10_ruleOf, by decide +kernel, by decide +kernel, by decide +kernel, by decide⟩
theorem wv3_roundBy : jwV M3_roundBy 2 := ⟨jin_4 (List.mem_of_getElem? (i := 27) rfl), List.mem_append_left _ (List.mem_of_getElem? (i := 43) rfl), jin_1 (List.mem_of_getElem? (i := 7) rfl), in_M3_roundBy, by decide +kernel, by decide +kernel, by decide +kernel, by decide⟩
theorem wv4_isOver : jwV M4_isOver 0 := ⟨jin_4 (List.mem_of_getElem? (i := 31) rfl), List.mem_append_left _ (List.mem_of_getElem? (i := 44) rfl), jin_1 (List.mem_of_getElem? (i := 4) rfl), in_M4_isOver, by decide +kernel, by decide +kernel, by decide +kernel, by decide⟩
theorem ws13_bitCount : jwS M13_bitCount 1 := ⟨jin_4 (List.mem_of_getElem? (i := 34) rfl), jin_1 (List.mem_of_getElem? (i := 20) rfl), in_M13_bitCount, by decide +kernel, by decide +kernel, by decide +kernel, by decide⟩
theorem wv6_sumFor : jwV M6_sumFor 1 := ⟨jin_4 (List.mem_of_getElem? (i := 42) rfl), List.mem_append_left _ (List.mem_of_getElem? (i := 45) rfl), jin_1 (List.mem_of_getElem? (i := 17) rfl), in_M6_sumFor, by decide +kernel, by decide +kernel, by decide +kernel, by decide⟩
theorem wv6_pop : jwV M6_pop 0 := ⟨jin_4 (List.mem_of_getElem? (i := 46) rfl), List.mem_append_left _ (List.mem_of_getElem? (i := 46) rfl), jin_1 (List.mem_of_getElem? (i := 17) rfl), in_M6_pop, by decide +kernel, by decide +kernel, by decide +kernel, by decide⟩
theorem wv6_push : jwV M6_push 1 := ⟨jin_4 (List.mem_of_getElem? (i := 50) rfl), List.mem_append_left _ (List.mem_of_getElem? (i := 47) rfl), jin_1 (List.mem_of_getElem? (i := 17) rfl), in_M6_push, by decide +kernel, by decide +kernel, by decide +kernel, by decide⟩
theorem wv4_valueOf : jwV M4_valueOf 1 := ⟨jin_4 (List.mem_of_getElem? (i := 54) rfl), List.mem_append_left _ (List.mem_of_getElem? (i := 48) rfl), jin_1 (List.mem_of_getElem? (i := 4) rfl), in_M4_valueOf, by decide +kernel, by decide +kernel, by decide +kernel, by decide⟩
theorem wv4_greatestStep : jwV M4_greatestStep 0 := ⟨jin_4 (List.mem_of_getElem? (i := 58) rfl), List.mem_append_left _ (List.mem_of_getElem? (i := 49) rfl), jin_1 (List.mem_of_getElem? (i := 4) rfl), in_M4_greatestStep, by decide +kernel, by decide +kernel, by decide +kernel, by decide⟩
theorem wv4_leastStep : jwV M4_leastStep 0 := ⟨jin_4 (List.mem_of_getElem? (i := 62) rfl), List.mem_append_left _ (List.mem_of_getElem? (i := 50) rfl), jin_1 (List.mem_of_getElem? (i := 4) rfl), in_M4_leastStep, by decide +kernel, by decide +kernel, by decide +kernel, by decide⟩
theorem wv4_countNear : jwV M4_countNear 0 := ⟨jin_4 (List.mem_of_getElem? (i := 66) rfl), List.mem_append_left _ (List.mem_of_getElem? (i := 51) rfl), jin_1 (List.mem_of_getElem? (i := 4) rfl), in_M4_countNear, by decide +kernel, by decide +kernel, by decide +kernel, by decide⟩
theorem wv4_tiredTogether : jwV M4_tiredTogether 0 := ⟨jin_4 (List.mem_of_getElem? (i := 70) rfl), List.mem_append_left _ (List.mem_of_getElem? (i := 52) rfl), jin_1 (List.mem_of_getElem? (i := 4) rfl), in_M4_tiredTogether, by decide +kernel, by decide +kernel, by decide +kernel, by decide⟩
theorem ws6_join : jwS M6_join 3 := ⟨jin_4 (List.mem_of_getElem? (i := 73) rfl), jin_1 (List.mem_of_getElem? (i := 17) rfl), in_M6_join, by decide +kernel, by decide +kernel, by decide +kernel, by decide⟩
theorem ws14_min_1 : jwS M14_min_1 2 := ⟨jin_4 (List.mem_of_getElem? (i := 77) rfl), jin_1 (List.mem_of_getElem? (i := 19) rfl), in_M14_min_1, by decide +kernel, by decide +kernel, by decide +kernel, by decide⟩
theorem ws14_max_0 : jwS M14_max_0 2 := ⟨jin_4 (List.mem_of_getElem? (i := 80) rfl), jin_1 (List.mem_of_getElem? (i := 19) rfl), in_M14_max_0, by decide +kernel, by decide +kernel, by decide +kernel, by decide⟩
theorem wv3_roundOf : jwV M3_roundOf 2 := ⟨jin_4 (List.mem_of_getElem? (i := 84) rfl), List.mem_append_left _ (List.mem_of_getElem? (i := 53) rfl), jin_1 (List.mem_of_getElem? (i := 7) rfl), in_M3_roundOf, by decide +kernel, by decide +kernel, by decide +kernel, by decide⟩
theorem wv3_walk : jwV M3_walk 2 := ⟨jin_4 (List.mem_of_getElem? (i := 88) rfl), List.mem_append_left _ (List.mem_of_getElem? (i := 54) rfl), jin_1 (List.mem_of_getElem? (i := 7) rfl), in_M3_walk, by decide +kernel, by decide +kernel, by decide +kernel, by decide⟩
theorem wv3_measure : jwV M3_measure 1 := ⟨jin_4 (List.mem_of_getElem? (i := 92) rfl), List.mem_append_left _ (List.mem_of_getElem? (i := 55) rfl), jin_1 (List.mem_of_getElem? (i := 7) rfl), in_M3_measure, by decide +kernel, by decide +kernel, by decide +kernel, by decide⟩
theorem wv3_seatAll : jwV M3_seatAll 1 := ⟨jin_4 (List.mem_of_getElem? (i := 97) rfl), List.mem_append_left _ (List.mem_of_getElem? (i := 56) rfl), jin_1 (List.mem_of_getElem? (i := 7) rfl), in_M3_seatAll, by decide +kernel, by decide +kernel, by decide +kernel, by decide⟩
theorem wv3_nearestPair : jwV M3_nearestPair 2 := ⟨jin_4 (List.mem_of_getElem? (i := 101) rfl), List.mem_append_left _ (List.mem_of_getElem? (i := 57) rfl), jin_1 (List.mem_of_getElem? (i := 7) rfl), in_M3_nearestPair, by decide +kernel, by decide +kernel, by decide +kernel, by decide⟩
theorem wv3_settle : jwV M3_settle 2 := ⟨jin_4 (List.mem_of_getElem? (i := 105) rfl), List.mem_append_left _ (List.mem_of_getElem? (i := 58) rfl), jin_1 (List.mem_of_getElem? (i := 7) rfl), in_M3_settle, by decide +kernel, by decide +kernel, by decide +kernel, by decide⟩
theorem ws3_sit : jwS M3_sit 3 := ⟨jin_4 (List.mem_of_getElem? (i := 108) rfl), jin_1 (List.mem_of_getElem? (i := 7) rfl), in_M3_sit, by decide +kernel, by decide +kernel, by decide +kernel, by decide⟩
theorem wv10_play : jwV M10_play 1 := ⟨jin_4 (List.mem_of_getElem? (i := 111) rfl), jin_4 (List.mem_of_getElem? (i := 112) rfl), jin_1 (List.mem_of_getElem? (i := 1) rfl), in_M10_play, by decide +kernel, by decide +kernel, by decide +kernel, by decide⟩
theorem wv10_swap : jwV M10_swap 2 := ⟨jin_4 (List.mem_of_getElem? (i := 117) rfl), jin_4 (List.mem_of_getElem? (i := 118) rfl), jin_1 (List.mem_of_getElem? (i := 1) rfl), in_M10_swap, by decide +kernel, by decide +kernel, by decide +kernel, by decide⟩
theorem wv4_areTwoIn : jwV M4_areTwoIn 2 := ⟨jin_4 (List.mem_of_getElem? (i := 122) rfl), List.mem_append_left _ (List.mem_of_getElem? (i := 59) rfl), jin_1 (List.mem_of_getElem? (i := 4) rfl), in_M4_areTwoIn, by decide +kernel, by decide +kernel, by decide +kernel, by decide⟩
theorem wv4_isIn : jwV M4_isIn 1 := ⟨jin_4 (List.mem_of_getElem? (i := 126) rfl), List.mem_append_left _ (List.mem_of_getElem? (i := 60) rfl), jin_1 (List.mem_of_getElem? (i := 4) rfl), in_M4_isIn, by decide +kernel, by decide +kernel, by decide +kernel, by decide⟩
theorem wv10_pace : jwV M10_pace 2 := ⟨jin_4 (List.mem_of_getElem? (i := 130) rfl), jin_4 (List.mem_of_getElem? (i := 131) rfl), jin_1 (List.mem_of_getElem? (i := 1) rfl), in_M10_pace, by decide +kernel, by decide +kernel, by decide +kernel, by decide⟩
theorem wv10_bring : jwV M10_bring 1 := ⟨jin_4 (List.mem_of_getElem? (i := 134) rfl), jin_4 (List.mem_of_getElem? (i := 135) rfl), jin_1 (List.mem_of_getElem? (i := 1) rfl), in_M10_bring, by decide +kernel, by decide +kernel, by decide +kernel, by decide⟩
theorem wv4_isThere : jwV M4_isThere 1 := ⟨jin_4 (List.mem_of_getElem? (i := 139) rfl), List.mem_append_left _ (List.mem_of_getElem? (i := 61) rfl), jin_1 (List.mem_of_getElem? (i := 4) rfl), in_M4_isThere, by decide +kernel, by decide +kernel, by decide +kernel, by decide⟩
theorem wv10_undo : jwV M10_undo 0 := ⟨jin_4 (List.mem_of_getElem? (i := 144) rfl), jin_4 (List.mem_of_getElem? (i := 145) rfl), jin_1 (List.mem_of_getElem? (i := 1) rfl), in_M10_undo, by decide +kernel, by decide +kernel, by decide +kernel, by decide⟩
theorem wv0_takeBack : jwV M0_takeBack 0 := ⟨jin_4 (List.mem_of_getElem? (i := 149) rfl), List.mem_append_left _ (List.mem_of_getElem? (i := 62) rfl), jin_1 (List.mem_of_getElem? (i := 6) rfl), in_M0_takeBack, by decide +kernel, by decide +kernel, by decide +kernel, by decide⟩
theorem wv10_ahead : jwV M10_ahead 3 := ⟨jin_4 (List.mem_of_getElem? (i := 152) rfl), jin_4 (List.mem_of_getElem? (i := 153) rfl), jin_1 (List.mem_of_getElem? (i := 1) rfl), in_M10_ahead, by decide +kernel, by decide +kernel, by decide +kernel, by decide⟩
theorem wv2_after : jwV M2_after 3 := ⟨jin_4 (List.mem_of_getElem? (i := 157) rfl), List.mem_append_left _ (List.mem_of_getElem? (i := 63) rfl), jin_1 (List.mem_of_getElem? (i := 8) rfl), in_M2_after, by decide +kernel, by decide +kernel, by decide +kernel, by decide⟩
theorem wv10_winner : jwV M10_winner 1 := ⟨jin_4 (List.mem_of_getElem? (i := 162) rfl), jin_4 (List.mem_of_getElem? (i := 163) rfl), jin_1 (List.mem_of_getElem? (i := 1) rfl), in_M10_winner, by decide +kernel, by decide +kernel, by decide +kernel, by decide⟩
theorem wv2_whenOver : jwV M2_whenOver 2 := ⟨jin_4 (List.mem_of_getElem? (i := 167) rfl), List.mem_append_left _ (List.mem_of_getElem? (i := 64) rfl), jin_1 (List.mem_of_getElem? (i := 8) rfl), in_M2_whenOver, by decide +kernel, by decide +kernel, by decide +kernel, by decide⟩
theorem wv4_alone : jwV M4_alone 0 := ⟨jin_4 (List.mem_of_getElem? (i := 172) rfl), List.mem_append_left _ (List.mem_of_getElem? (i := 65) rfl), jin_1 (List.mem_of_getElem? (i := 4) rfl), in_M4_alone, by decide +kernel, by decide +kernel, by decide +kernel, by decide⟩
theorem ws13_numberOfTrailingZeros : jwS M13_numberOfTrailingZeros 1 := ⟨jin_4 (List.mem_of_getElem? (i := 175) rfl), jin_1 (List.mem_of_getElem? (i := 20) rfl), in_M13_numberOfTrailingZeros, by decide +kernel, by decide +kernel, by decide +kernel, by decide⟩
theorem wv10_gone : jwV M10_gone 1 := ⟨jin_4 (List.mem_of_getElem? (i := 179) rfl), jin_4 (List.mem_of_getElem? (i := 180) rfl), jin_1 (List.mem_of_getElem? (i := 1) rfl), in_M10_gone, by decide +kernel, by decide +kernel, by decide +kernel, by decide⟩
theorem wv2_roundOut : jwV M2_roundOut 3 := ⟨jin_4 (List.mem_of_getElem? (i := 185) rfl), List.mem_append_left _ (List.mem_of_getElem? (i := 66) rfl), jin_1 (List.mem_of_getElem? (i := 8) rfl), in_M2_roundOut, by decide +kernel, by decide +kernel, by decide +kernel, by decide⟩
theorem wv10_safe : jwV M10_safe 2 := ⟨jin_4 (List.mem_of_getElem? (i := 189) rfl), jin_4 (List.mem_of_getElem? (i := 190) rfl), jin_1 (List.mem_of_getElem? (i := 1) rfl), in_M10_safe, by decide +kernel, by decide +kernel, by decide +kernel, by decide⟩
theorem wv2_countSafe : jwV M2_countSafe 2 := ⟨jin_4 (List.mem_of_getElem? (i := 194) rfl), List.mem_append_left _ (List.mem_of_getElem? (i := 67) rfl), jin_1 (List.mem_of_getElem? (i := 8) rfl), in_M2_countSafe, by decide +kernel, by decide +kernel, by decide +kernel, by decide⟩
theorem wv2_sitsBy : jwV M2_sitsBy 3 := ⟨jin_4 (List.mem_of_getElem? (i := 198) rfl), List.mem_append_left _ (List.mem_of_getElem? (i := 68) rfl), jin_1 (List.mem_of_getElem? (i := 8) rfl), in_M2_sitsBy, by decide +kernel, by decide +kernel, by decide +kernel, by decide⟩
theorem wv2_leastSafe : jwV M2_leastSafe 2 := ⟨jin_4 (List.mem_of_getElem? (i := 203) rfl), List.mem_append_left _ (List.mem_of_getElem? (i := 69) rfl), jin_1 (List.mem_of_getElem? (i := 8) rfl), in_M2_leastSafe, by decide +kernel, by decide +kernel, by decide +kernel, by decide⟩
theorem wv10_row : jwV M10_row 3 := ⟨jin_4 (List.mem_of_getElem? (i := 206) rfl), jin_4 (List.mem_of_getElem? (i := 207) rfl), jin_1 (List.mem_of_getElem? (i := 1) rfl), in_M10_row, by decide +kernel, by decide +kernel, by decide +kernel, by decide⟩
theorem wv2_countRows : jwV M2_countRows 3 := ⟨jin_4 (List.mem_of_getElem? (i := 211) rfl), List.mem_append_left _ (List.mem_of_getElem? (i := 70) rfl), jin_1 (List.mem_of_getElem? (i := 8) rfl), in_M2_countRows, by decide +kernel, by decide +kernel, by decide +kernel, by decide⟩
theorem wv2_rowsFrom : jwV M2_rowsFrom 3 := ⟨jin_4 (List.mem_of_getElem? (i := 215) rfl), List.mem_append_left _ (List.mem_of_getElem? (i := 71) rfl), jin_1 (List.mem_of_getElem? (i := 8) rfl), in_M2_rowsFrom, by decide +kernel, by decide +kernel, by decide +kernel, by decide⟩
theorem wv2_rowsOfRest : jwV M2_rowsOfRest 2 := ⟨jin_4 (List.mem_of_getElem? (i := 219) rfl), List.mem_append_left _ (List.mem_of_getElem? (i := 72) rfl), jin_1 (List.mem_of_getElem? (i := 8) rfl), in_M2_rowsOfRest, by decide +kernel, by decide +kernel, by decide +kernel, by decide⟩
theorem wv10_within : jwV M10_within 1 := ⟨jin_4 (List.mem_of_getElem? (i := 223) rfl), jin_4 (List.mem_of_getElem? (i := 224) rfl), jin_1 (List.mem_of_getElem? (i := 1) rfl), in_M10_within, by decide +kernel, by decide +kernel, by decide +kernel, by decide⟩
theorem wv8_mostWithin : jwV M8_mostWithin 2 := ⟨jin_4 (List.mem_of_getElem? (i := 228) rfl), List.mem_append_left _ (List.mem_of_getElem? (i := 73) rfl), jin_1 (List.mem_of_getElem? (i := 10) rfl), in_M8_mostWithin, by decide +kernel, by decide +kernel, by decide +kernel, by decide⟩
theorem ws18_fill : jwS M18_fill 2 := ⟨jin_4 (List.mem_of_getElem? (i := 231) rfl), jin_1 (List.mem_of_getElem? (i := 18) rfl), in_M18_fill, by decide +kernel, by decide +kernel, by decide +kernel, by decide⟩
theorem wv8_reachOn : jwV M8_reachOn 4 := ⟨jin_4 (List.mem_of_getElem? (i := 236) rfl), List.mem_append_left _ (List.mem_of_getElem? (i := 74) rfl), jin_1 (List.mem_of_getElem? (i := 10) rfl), in_M8_reachOn, by decide +kernel, by decide +kernel, by decide +kernel, by decide⟩
theorem ws8_isFree : jwS M8_isFree 3 := ⟨jin_5 (List.mem_of_getElem? (i := 0) rfl), jin_1 (List.mem_of_getElem? (i := 10) rfl), in_M8_isFree, by decide +kernel, by decide +kernel, by decide +kernel, by decide⟩
theorem ws14_max_1 : jwS M14_max_1 2 := ⟨jin_5 (List.mem_of_getElem? (i := 4) rfl), jin_1 (List.mem_of_getElem? (i := 19) rfl), in_M14_max_1, by decide +kernel, by decide +kernel, by decide +kernel, by decide⟩
theorem wv10_kind : jwV M10_kind 1 := ⟨jin_5 (List.mem_of_getElem? (i := 7) rfl), jin_5 (List.mem_of_getElem? (i := 8) rfl), jin_1 (List.mem_of_getElem? (i := 1) rfl), in_M10_kind, by decide +kernel, by decide +kernel, by decide +kernel, by decide⟩
theorem wv8_leastTime : jwV M8_leastTime 2 := ⟨jin_5 (List.mem_of_getElem? (i := 12) rfl), List.mem_append_left _ (List.mem_of_getElem? (i := 75) rfl), jin_1 (List.mem_of_getElem? (i := 10) rfl), in_M8_leastTime, by decide +kernel, by decide +kernel, by decide +kernel, by decide⟩
theorem wv8_leastFrom : jwV M8_leastFrom 4 := ⟨jin_5 (List.mem_of_getElem? (i := 18) rfl), List.mem_append_left _ (List.mem_of_getElem? (i := 76) rfl), jin_1 (List.mem_of_getElem? (i := 10) rfl), in_M8_leastFrom, by decide +kernel, by decide +kernel, by decide +kernel, by decide⟩
theorem wv8_chairOf : jwV M8_chairOf 2 := ⟨jin_5 (List.mem_of_getElem? (i := 22) rfl), List.mem_append_left _ (List.mem_of_getElem? (i := 77) rfl), jin_1 (List.mem_of_getElem? (i := 10) rfl), in_M8_chairOf, by decide +kernel, by decide +kernel, by decide +kernel, by decide⟩
theorem wv8_firstChair : jwV M8_firstChair 3 := ⟨jin_5 (List.mem_of_getElem? (i := 26) rfl), List.mem_append_left _ (List.mem_of_getElem? (i := 78) rfl), jin_1 (List.mem_of_getElem? (i := 10) rfl), in_M8_firstChair, by decide +kernel, by decide +kernel, by decide +kernel, by decide⟩
theorem wv10_longest : jwV M10_longest 0 := ⟨jin_5 (List.mem_of_getElem? (i := 29) rfl), jin_5 (List.mem_of_getElem? (i := 30) rfl), jin_1 (List.mem_of_getElem? (i := 1) rfl), in_M10_longest, by decide +kernel, by decide +kernel, by decide +kernel, by decide⟩
theorem wv10_meet : jwV M10_meet 2 := ⟨jin_5 (List.mem_of_getElem? (i := 33) rfl), jin_5 (List.mem_of_getElem? (i := 34) rfl), jin_1 (List.mem_of_getElem? (i := 1) rfl), in_M10_meet, by decide +kernel, by decide +kernel, by decide +kernel, by decide⟩
theorem wv4_beatsTillMeeting : jwV M4_beatsTillMeeting 2 := ⟨jin_5 (List.mem_of_getElem? (i := 38) rfl), List.mem_append_left _ (List.mem_of_getElem? (i := 79) rfl), jin_1 (List.mem_of_getElem? (i := 4) rfl), in_M4_beatsTillMeeting, by decide +kernel, by decide +kernel, by decide +kernel, by decide⟩
theorem wv10_tour : jwV M10_tour 0 := ⟨jin_5 (List.mem_of_getElem? (i := 41) rfl), jin_5 (List.mem_of_getElem? (i := 42) rfl), jin_1 (List.mem_of_getElem? (i := 1) rfl), in_M10_tour, by decide +kernel, by decide +kernel, by decide +kernel, by decide⟩
theorem wv4_beatsTillBack : jwV M4_beatsTillBack 0 := ⟨jin_5 (List.mem_of_getElem? (i := 46) rfl), List.mem_append_left _ (List.mem_of_getElem? (i := 80) rfl), jin_1 (List.mem_of_getElem? (i := 4) rfl), in_M4_beatsTillBack, by decide +kernel, by decide +kernel, by decide +kernel, by decide⟩
theorem wv4_isBackAfter : jwV M4_isBackAfter 1 := ⟨jin_5 (List.mem_of_getElem? (i := 50) rfl), List.mem_append_left _ (List.mem_of_getElem? (i := 81) rfl), jin_1 (List.mem_of_getElem? (i := 4) rfl), in_M4_isBackAfter, by decide +kernel, by decide +kernel, by decide +kernel, by decide⟩
theorem wv10_away : jwV M10_away 3 := ⟨jin_5 (List.mem_of_getElem? (i := 53) rfl), jin_5 (List.mem_of_getElem? (i := 54) rfl), jin_1 (List.mem_of_getElem? (i := 1) rfl), in_M10_away, by decide +kernel, by decide +kernel, by decide +kernel, by decide⟩
theorem ws10_isAsked : jwS M10_isAsked 1 := ⟨jin_5 (List.mem_of_getElem? (i := 57) rfl), jin_1 (List.mem_of_getElem? (i := 1) rfl), in_M10_isAsked, by decide +kernel, by decide +kernel, by decide +kernel, by decide⟩
theorem wv2_chooseChair : jwV M2_chooseChair 4 := ⟨jin_5 (List.mem_of_getElem? (i := 61) rfl), List.mem_append_left _ (List.mem_of_getElem? (i := 82) rfl), jin_1 (List.mem_of_getElem? (i := 8) rfl), in_M2_chooseChair, by decide +kernel, by decide +kernel, by decide +kernel, by decide⟩
theorem wv2_sitsFromTrial : jwV M2_sitsFromTrial 3 := ⟨jin_5 (List.mem_of_getElem? (i := 65) rfl), List.mem_append_left _ (List.mem_of_getElem? (i := 83) rfl), jin_1 (List.mem_of_getElem? (i := 8) rfl), in_M2_sitsFromTrial, by decide +kernel, by decide +kernel, by decide +kernel, by decide⟩
theorem wv2_offer : jwV M2_offer 2 := ⟨jin_5 (List.mem_of_getElem? (i := 70) rfl), List.mem_append_left _ (List.mem_of_getElem? (i := 84) rfl), jin_1 (List.mem_of_getElem? (i := 8) rfl), in_M2_offer, by decide +kernel, by decide +kernel, by decide +kernel, by decide⟩
theorem wv10_begin : jwV M10_begin 3 := ⟨jin_5 (List.mem_of_getElem? (i := 73) rfl), jin_5 (List.mem_of_getElem? (i := 74) rfl), jin_1 (List.mem_of_getElem? (i := 1) rfl), in_M10_begin, by decide +kernel, by decide +kernel, by decide +kernel, by decide⟩
theorem wv2_choosePlace : jwV M2_choosePlace 4 := ⟨jin_5 (List.mem_of_getElem? (i := 78) rfl), List.mem_append_left _ (List.mem_of_getElem? (i := 85) rfl), jin_1 (List.mem_of_getElem? (i := 8) rfl), in_M2_choosePlace, by decide +kernel, by decide +kernel, by decide +kernel, by decide⟩
theorem wv10_steps : jwV M10_steps 1 := ⟨jin_5 (List.mem_of_getElem? (i := 81) rfl), jin_5 (List.mem_of_getElem? (i := 82) rfl), jin_1 (List.mem_of_getElem? (i := 1) rfl), in_M10_steps, by decide +kernel, by decide +kernel, by decide +kernel, by decide⟩
theorem wv1_fittingSteps : jwV M1_fittingSteps 3 := ⟨jin_5 (List.mem_of_getElem? (i := 86) rfl), List.mem_append_left _ (List.mem_of_getElem? (i := 86) rfl), jin_1 (List.mem_of_getElem? (i := 9) rfl), in_M1_fittingSteps, by decide +kernel, by decide +kernel, by decide +kernel, by decide⟩
theorem wv1_trialFits : jwV M1_trialFits 2 := ⟨jin_5 (List.mem_of_getElem? (i := 91) rfl), List.mem_append_left _ (List.mem_of_getElem? (i := 87) rfl), jin_1 (List.mem_of_getElem? (i := 9) rfl), in_M1_trialFits, by decide +kernel, by decide +kernel, by decide +kernel, by decide⟩
theorem wv10_quicks : jwV M10_quicks 1 := ⟨jin_5 (List.mem_of_getElem? (i := 95) rfl), jin_5 (List.mem_of_getElem? (i := 96) rfl), jin_1 (List.mem_of_getElem? (i := 1) rfl), in_M10_quicks, by decide +kernel, by decide +kernel, by decide +kernel, by decide⟩
theorem wv1_fittingQuicks : jwV M1_fittingQuicks 3 := ⟨jin_5 (List.mem_of_getElem? (i := 100) rfl), List.mem_append_left _ (List.mem_of_getElem? (i := 88) rfl), jin_1 (List.mem_of_getElem? (i := 9) rfl), in_M1_fittingQuicks, by decide +kernel, by decide +kernel, by decide +kernel, by decide⟩
theorem wv10_rests : jwV M10_rests 4 := ⟨jin_5 (List.mem_of_getElem? (i := 103) rfl), jin_5 (List.mem_of_getElem? (i := 104) rfl), jin_1 (List.mem_of_getElem? (i := 1) rfl), in_M10_rests, by decide +kernel, by decide +kernel, by decide +kernel, by decide⟩
theorem wv2_playPaces : jwV M2_playPaces 5 := ⟨jin_5 (List.mem_of_getElem? (i := 108) rfl), List.mem_append_left _ (List.mem_of_getElem? (i := 89) rfl), jin_1 (List.mem_of_getElem? (i := 8) rfl), in_M2_playPaces, by decide +kernel, by decide +kernel, by decide +kernel, by decide⟩
theorem wv2_countRests : jwV M2_countRests 0 := ⟨jin_5 (List.mem_of_getElem? (i := 112) rfl), List.mem_append_left _ (List.mem_of_getElem? (i := 90) rfl), jin_1 (List.mem_of_getElem? (i := 8) rfl), in_M2_countRests, by decide +kernel, by decide +kernel, by decide +kernel, by decide⟩
theorem wv2_isRest : jwV M2_isRest 1 := ⟨jin_5 (List.mem_of_getElem? (i := 116) rfl), List.mem_append_left _ (List.mem_of_getElem? (i := 91) rfl), jin_1 (List.mem_of_getElem? (i := 8) rfl), in_M2_isRest, by decide +kernel, by decide +kernel, by decide +kernel, by decide⟩
theorem wv2_firstRest : jwV M2_firstRest 0 := ⟨jin_5 (List.mem_of_getElem? (i := 120) rfl), List.mem_append_left _ (List.mem_of_getElem? (i := 92) rfl), jin_1 (List.mem_of_getElem? (i := 8) rfl), in_M2_firstRest, by decide +kernel, by decide +kernel, by decide +kernel, by decide⟩
theorem wv10_pence : jwV M10_pence 2 := ⟨jin_5 (List.mem_of_getElem? (i := 123) rfl), jin_5 (List.mem_of_getElem? (i := 124) rfl), jin_1 (List.mem_of_getElem? (i := 1) rfl), in_M10_pence, by decide +kernel, by decide +kernel, by decide +kernel, by decide⟩
theorem wv4_shareOf : jwV M4_shareOf 2 := ⟨jin_5 (List.mem_of_getElem? (i := 128) rfl), List.mem_append_left _ (List.mem_of_getElem? (i := 93) rfl), jin_1 (List.mem_of_getElem? (i := 4) rfl), in_M4_shareOf, by decide +kernel, by decide +kernel, by decide +kernel, by decide⟩
theorem wv10_note : jwV M10_note 3 := ⟨jin_5 (List.mem_of_getElem? (i := 131) rfl), jin_5 (List.mem_of_getElem? (i := 132) rfl), jin_1 (List.mem_of_getElem? (i := 1) rfl), in_M10_note, by decide +kernel, by decide +kernel, by decide +kernel, by decide⟩
theorem wv0_addNote : jwV M0_addNote 3 := ⟨jin_5 (List.mem_of_getElem? (i := 136) rfl), List.mem_append_left _ (List.mem_of_getElem? (i := 94) rfl), jin_1 (List.mem_of_getElem? (i := 6) rfl), in_M0_addNote, by decide +kernel, by decide +kernel, by decide +kernel, by decide⟩
theorem wv10_ruled : jwV M10_ruled 1 := ⟨jin_5 (List.mem_of_getElem? (i := 139) rfl), jin_5 (List.mem_of_getElem? (i := 140) rfl), jin_1 (List.mem_of_getElem? (i := 1) rfl), in_M10_ruled, by decide +kernel, by decide +kernel, by decide +kernel, by decide⟩
theorem wv1_ruleFits : jwV M1_ruleFits 2 := ⟨jin_5 (List.mem_of_getElem? (i := 144) rfl), List.mem_append_left _ (List.mem_of_getElem? (i := 95) rfl), jin_1 (List.mem_of_getElem? (i := 9) rfl), in_M1_ruleFits, by decide +kernel, by decide +kernel, by decide +kernel, by decide⟩
theorem wv10_look : jwV M10_look 2 := ⟨jin_5 (List.mem_of_getElem? (i := 147) rfl), jin_5 (List.mem_of_getElem? (i := 148) rfl), jin_1 (List.mem_of_getElem? (i := 1) rfl), in_M10_look, by decide +kernel, by decide +kernel, by decide +kernel, by decide⟩
theorem wv1_startLook : jwV M1_startLook 0 := ⟨jin_5 (List.mem_of_getElem? (i := 152) rfl), List.mem_append_left _ (List.mem_of_getElem? (i := 96) rfl), jin_1 (List.mem_of_getElem? (i := 9) rfl), in_M1_startLook, by decide +kernel, by decide +kernel, by decide +kernel, by decide⟩
theorem wv1_countLook : jwV M1_countLook 1 := ⟨jin_5 (List.mem_of_getElem? (i := 157) rfl), List.mem_append_left _ (List.mem_of_getElem? (i := 97) rfl), jin_1 (List.mem_of_getElem? (i := 9) rfl), in_M1_countLook, by decide +kernel, by decide +kernel, by decide +kernel, by decide⟩
theorem wv1_bestLook : jwV M1_bestLook 1 := ⟨jin_5 (List.mem_of_getElem? (i := 161) rfl), List.mem_append_left _ (List.mem_of_getElem? (i := 98) rfl), jin_1 (List.mem_of_getElem? (i := 9) rfl), in_M1_bestLook, by decide +kernel, by decide +kernel, by decide +kernel, by decide⟩
theorem wv1_mostAlike : jwV M1_mostAlike 1 := ⟨jin_5 (List.mem_of_getElem? (i := 165) rfl), List.mem_append_left _ (List.mem_of_getElem? (i := 99) rfl), jin_1 (List.mem_of_getElem? (i := 9) rfl), in_M1_mostAlike, by decide +kernel, by decide +kernel, by decide +kernel, by decide⟩
theorem wv10_seed : jwV M10_seed 1 := ⟨jin_5 (List.mem_of_getElem? (i := 170) rfl), jin_5 (List.mem_of_getElem? (i := 171) rfl), jin_1 (List.mem_of_getElem? (i := 1) rfl), in_M10_seed, by decide +kernel, by decide +kernel, by decide +kernel, by decide⟩
theorem wv10_tunes : jwV M10_tunes 3 := ⟨jin_5 (List.mem_of_getElem? (i := 174) rfl), jin_5 (List.mem_of_getElem? (i := 175) rfl), jin_1 (List.mem_of_getElem? (i := 1) rfl), in_M10_tunes, by decide +kernel, by decide +kernel, by decide +kernel, by decide⟩
theorem wv2_countTunes : jwV M2_countTunes 5 := ⟨jin_5 (List.mem_of_getElem? (i := 179) rfl), List.mem_append_left _ (List.mem_of_getElem? (i := 100) rfl), jin_1 (List.mem_of_getElem? (i := 8) rfl), in_M2_countTunes, by decide +kernel, by decide +kernel, by decide +kernel, by decide⟩
theorem wv10_count : jwV M10_count 1 := ⟨jin_5 (List.mem_of_getElem? (i := 187) rfl), jin_5 (List.mem_of_getElem? (i := 188) rfl), jin_1 (List.mem_of_getElem? (i := 1) rfl), in_M10_count, by decide +kernel, by decide +kernel, by decide +kernel, by decide⟩
theorem wv10_image : jwV M10_image 1 := ⟨jin_5 (List.mem_of_getElem? (i := 191) rfl), jin_5 (List.mem_of_getElem? (i := 192) rfl), jin_1 (List.mem_of_getElem? (i := 1) rfl), in_M10_image, by decide +kernel, by decide +kernel, by decide +kernel, by decide⟩
theorem wv0_copyFrom : jwV M0_copyFrom 1 := ⟨jin_5 (List.mem_of_getElem? (i := 196) rfl), List.mem_append_left _ (List.mem_of_getElem? (i := 101) rfl), jin_1 (List.mem_of_getElem? (i := 6) rfl), in_M0_copyFrom, by decide +kernel, by decide +kernel, by decide +kernel, by decide⟩
theorem wv10_back : jwV M10_back 1 := ⟨jin_5 (List.mem_of_getElem? (i := 200) rfl), jin_5 (List.mem_of_getElem? (i := 201) rfl), jin_1 (List.mem_of_getElem? (i := 1) rfl), in_M10_back, by decide +kernel, by decide +kernel, by decide +kernel, by decide⟩
theorem wi11_init : jwI M11_init 0 := ⟨jin_5 (List.mem_of_getElem? (i := 206) rfl), jin_1 (List.mem_of_getElem? (i := 11) rfl), in_M11_init, by decide +kernel, by decide +kernel, by decide +kernel, by decide, rfl, rfl⟩
theorem wv11_feed : jwV M11_feed 5 := ⟨jin_6 (List.mem_of_getElem? (i := 142) rfl), jin_6 (List.mem_of_getElem? (i := 143) rfl), jin_1 (List.mem_of_getElem? (i := 11) rfl), in_M11_feed, by decide +kernel, by decide +kernel, by decide +kernel, by decide⟩
theorem wv11_put : jwV M11_put 1 := ⟨jin_6 (List.mem_of_getElem? (i := 147) rfl), List.mem_append_left _ (List.mem_of_getElem? (i := 102) rfl), jin_1 (List.mem_of_getElem? (i := 11) rfl), in_M11_put, by decide +kernel, by decide +kernel, by decide +kernel, by decide⟩
theorem wv11_end : jwV M11_end 1 := ⟨jin_6 (List.mem_of_getElem? (i := 150) rfl), jin_6 (List.mem_of_getElem? (i := 151) rfl), jin_1 (List.mem_of_getElem? (i := 11) rfl), in_M11_end, by decide +kernel, by decide +kernel, by decide +kernel, by decide⟩
theorem wv11_party : jwV M11_party 0 := ⟨jin_6 (List.mem_of_getElem? (i := 154) rfl), jin_6 (List.mem_of_getElem? (i := 155) rfl), jin_1 (List.mem_of_getElem? (i := 11) rfl), in_M11_party, by decide +kernel, by decide +kernel, by decide +kernel, by decide⟩
theorem wv11_readsAll : jwV M11_readsAll 0 := ⟨jin_6 (List.mem_of_getElem? (i := 159) rfl), List.mem_append_left _ (List.mem_of_getElem? (i := 103) rfl), jin_1 (List.mem_of_getElem? (i := 11) rfl), in_M11_readsAll, by decide +kernel, by decide +kernel, by decide +kernel, by decide⟩
theorem wv11_starts : jwV M11_starts 0 := ⟨jin_6 (List.mem_of_getElem? (i := 163) rfl), List.mem_append_left _ (List.mem_of_getElem? (i := 104) rfl), jin_1 (List.mem_of_getElem? (i := 11) rfl), in_M11_starts, by decide +kernel, by decide +kernel, by decide +kernel, by decide⟩
theorem wv11_partyClause : jwV M11_partyClause 1 := ⟨jin_6 (List.mem_of_getElem? (i := 167) rfl), List.mem_append_left _ (List.mem_of_getElem? (i := 105) rfl), jin_1 (List.mem_of_getElem? (i := 11) rfl), in_M11_partyClause, by decide +kernel, by decide +kernel, by decide +kernel, by decide⟩
theorem wv11_blanks : jwV M11_blanks 0 := ⟨jin_6 (List.mem_of_getElem? (i := 171) rfl), List.mem_append_left _ (List.mem_of_getElem? (i := 106) rfl), jin_1 (List.mem_of_getElem? (i := 11) rfl), in_M11_blanks, by decide +kernel, by decide +kernel, by decide +kernel, by decide⟩
theorem wv11_sign : jwV M11_sign 0 := ⟨jin_6 (List.mem_of_getElem? (i := 175) rfl), List.mem_append_left _ (List.mem_of_getElem? (i := 107) rfl), jin_1 (List.mem_of_getElem? (i := 11) rfl), in_M11_sign, by decide +kernel, by decide +kernel, by decide +kernel, by decide⟩
theorem ws11_partyWord : jwS M11_partyWord 1 := ⟨jin_6 (List.mem_of_getElem? (i := 178) rfl), jin_1 (List.mem_of_getElem? (i := 11) rfl), in_M11_partyWord, by decide +kernel, by decide +kernel, by decide +kernel, by decide⟩
theorem wv11_stood : jwV M11_stood 1 := ⟨jin_6 (List.mem_of_getElem? (i := 185) rfl), List.mem_append_left _ (List.mem_of_getElem? (i := 108) rfl), jin_1 (List.mem_of_getElem? (i := 11) rfl), in_M11_stood, by decide +kernel, by decide +kernel, by decide +kernel, by decide⟩
theorem wv11_fails : jwV M11_fails 2 := ⟨jin_6 (List.mem_of_getElem? (i := 191) rfl), List.mem_append_left _ (List.mem_of_getElem? (i := 109) rfl), jin_1 (List.mem_of_getElem? (i := 11) rfl), in_M11_fails, by decide +kernel, by decide +kernel, by decide +kernel, by decide⟩
theorem wv11_isOver : jwV M11_isOver 2 := ⟨jin_6 (List.mem_of_getElem? (i := 195) rfl), List.mem_append_left _ (List.mem_of_getElem? (i := 110) rfl), jin_1 (List.mem_of_getElem? (i := 11) rfl), in_M11_isOver, by decide +kernel, by decide +kernel, by decide +kernel, by decide⟩
theorem wv11_partyPart : jwV M11_partyPart 1 := ⟨jin_6 (List.mem_of_getElem? (i := 199) rfl), List.mem_append_left _ (List.mem_of_getElem? (i := 111) rfl), jin_1 (List.mem_of_getElem? (i := 11) rfl), in_M11_partyPart, by decide +kernel, by decide +kernel, by decide +kernel, by decide⟩
theorem wv11_amount : jwV M11_amount 2 := ⟨jin_6 (List.mem_of_getElem? (i := 203) rfl), List.mem_append_left _ (List.mem_of_getElem? (i := 112) rfl), jin_1 (List.mem_of_getElem? (i := 11) rfl), in_M11_amount, by decide +kernel, by decide +kernel, by decide +kernel, by decide⟩
theorem wv11_digits : jwV M11_digits 1 := ⟨jin_6 (List.mem_of_getElem? (i := 208) rfl), List.mem_append_left _ (List.mem_of_getElem? (i := 113) rfl), jin_1 (List.mem_of_getElem? (i := 11) rfl), in_M11_digits, by decide +kernel, by decide +kernel, by decide +kernel, by decide⟩
theorem wv11_isDigit : jwV M11_isDigit 0 := ⟨jin_6 (List.mem_of_getElem? (i := 212) rfl), List.mem_append_left _ (List.mem_of_getElem? (i := 114) rfl), jin_1 (List.mem_of_getElem? (i := 11) rfl), in_M11_isDigit, by decide +kernel, by decide +kernel, by decide +kernel, by decide⟩
theorem ws11_in : jwS M11_in 3 := ⟨jin_6 (List.mem_of_getElem? (i := 217) rfl), jin_1 (List.mem_of_getElem? (i := 11) rfl), in_M11_in, by decide +kernel, by decide +kernel, by decide +kernel, by decide⟩
theorem wv11_chairPart : jwV M11_chairPart 0 := ⟨jin_6 (List.mem_of_getElem? (i := 221) rfl), List.mem_append_left _ (List.mem_of_getElem? (i := 115) rfl), jin_1 (List.mem_of_getElem? (i := 11) rfl), in_M11_chairPart, by decide +kernel, by decide +kernel, by decide +kernel, by decide⟩
theorem wv11_guestPart : jwV M11_guestPart 0 := ⟨jin_6 (List.mem_of_getElem? (i := 225) rfl), List.mem_append_left _ (List.mem_of_getElem? (i := 116) rfl), jin_1 (List.mem_of_getElem? (i := 11) rfl), in_M11_guestPart, by decide +kernel, by decide +kernel, by decide +kernel, by decide⟩
theorem wv11_goesOn : jwV M11_goesOn 0 := ⟨jin_6 (List.mem_of_getElem? (i := 229) rfl), List.mem_append_left _ (List.mem_of_getElem? (i := 117) rfl), jin_1 (List.mem_of_getElem? (i := 11) rfl), in_M11_goesOn, by decide +kernel, by decide +kernel, by decide +kernel, by decide⟩
theorem ws11_copies : jwS M11_copies 2 := ⟨jin_6 (List.mem_of_getElem? (i := 232) rfl), jin_1 (List.mem_of_getElem? (i := 11) rfl), in_M11_copies, by decide +kernel, by decide +kernel, by decide +kernel, by decide⟩
theorem wv11_begins : jwV M11_begins 0 := ⟨jin_6 (List.mem_of_getElem? (i := 236) rfl), List.mem_append_left _ (List.mem_of_getElem? (i := 118) rfl), jin_1 (List.mem_of_getElem? (i := 11) rfl), in_M11_begins, by decide +kernel, by decide +kernel, by decide +kernel, by decide⟩
theorem wv11_rule : jwV M11_rule 0 := ⟨jin_6 (List.mem_of_getElem? (i := 239) rfl), jin_7 (List.mem_of_getElem? (i := 0) rfl), jin_1 (List.mem_of_getElem? (i := 11) rfl), in_M11_rule, by decide +kernel, by decide +kernel, by decide +kernel, by decide⟩
theorem wv11_ruleClause : jwV M11_ruleClause 1 := ⟨jin_7 (List.mem_of_getElem? (i := 4) rfl), List.mem_append_left _ (List.mem_of_getElem? (i := 119) rfl), jin_1 (List.mem_of_getElem? (i := 11) rfl), in_M11_ruleClause, by decide +kernel, by decide +kernel, by decide +kernel, by decide⟩
theorem wv11_sum : jwV M11_sum 0 := ⟨jin_7 (List.mem_of_getElem? (i := 9) rfl), List.mem_append_left _ (List.mem_of_getElem? (i := 120) rfl), jin_1 (List.mem_of_getElem? (i := 11) rfl), in_M11_sum, by decide +kernel, by decide +kernel, by decide +kernel, by decide⟩
theorem wv11_term : jwV M11_term 0 := ⟨jin_7 (List.mem_of_getElem? (i := 13) rfl), List.mem_append_left _ (List.mem_of_getElem? (i := 121) rfl), jin_1 (List.mem_of_getElem? (i := 11) rfl), in_M11_term, by decide +kernel, by decide +kernel, by decide +kernel, by decide⟩
theorem wv11_value : jwV M11_value 0 := ⟨jin_7 (List.mem_of_getElem? (i := 17) rfl), List.mem_append_left _ (List.mem_of_getElem? (i := 122) rfl), jin_1 (List.mem_of_getElem? (i := 11) rfl), in_M11_value, by decide +kernel, by decide +kernel, by decide +kernel, by decide⟩
theorem wv11_isCounted : jwV M11_isCounted 1 := ⟨jin_7 (List.mem_of_getElem? (i := 21) rfl), List.mem_append_left _ (List.mem_of_getElem? (i := 123) rfl), jin_1 (List.mem_of_getElem? (i := 11) rfl), in_M11_isCounted, by decide +kernel, by decide +kernel, by decide +kernel, by decide⟩
theorem wv11_entry : jwV M11_entry 2 := ⟨jin_7 (List.mem_of_getElem? (i := 25) rfl), List.mem_append_left _ (List.mem_of_getElem? (i := 124) rfl), jin_1 (List.mem_of_getElem? (i := 11) rfl), in_M11_entry, by decide +kernel, by decide +kernel, by decide +kernel, by decide⟩
theorem ws11_wordOf : jwS M11_wordOf 1 := ⟨jin_7 (List.mem_of_getElem? (i := 28) rfl), jin_1 (List.mem_of_getElem? (i := 11) rfl), in_M11_wordOf, by decide +kernel, by decide +kernel, by decide +kernel, by decide⟩
theorem wv11_takes : jwV M11_takes 1 := ⟨jin_7 (List.mem_of_getElem? (i := 43) rfl), List.mem_append_left _ (List.mem_of_getElem? (i := 125) rfl), jin_1 (List.mem_of_getElem? (i := 11) rfl), in_M11_takes, by decide +kernel, by decide +kernel, by decide +kernel, by decide⟩
theorem wv11_test : jwV M11_test 0 := ⟨jin_7 (List.mem_of_getElem? (i := 47) rfl), List.mem_append_left _ (List.mem_of_getElem? (i := 126) rfl), jin_1 (List.mem_of_getElem? (i := 11) rfl), in_M11_test, by decide +kernel, by decide +kernel, by decide +kernel, by decide⟩
theorem wv11_fact : jwV M11_fact 0 := ⟨jin_7 (List.mem_of_getElem? (i := 51) rfl), List.mem_append_left _ (List.mem_of_getElem? (i := 127) rfl), jin_1 (List.mem_of_getElem? (i := 11) rfl), in_M11_fact, by decide +kernel, by decide +kernel, by decide +kernel, by decide⟩
theorem wv11_opens : jwV M11_opens 1 := ⟨jin_7 (List.mem_of_getElem? (i := 56) rfl), List.mem_append_left _ (List.mem_of_getElem? (i := 128) rfl), jin_1 (List.mem_of_getElem? (i := 11) rfl), in_M11_opens, by decide +kernel, by decide +kernel, by decide +kernel, by decide⟩
theorem wv11_compared : jwV M11_compared 0 := ⟨jin_7 (List.mem_of_getElem? (i := 60) rfl), List.mem_append_left _ (List.mem_of_getElem? (i := 129) rfl), jin_1 (List.mem_of_getElem? (i := 11) rfl), in_M11_compared, by decide +kernel, by decide +kernel, by decide +kernel, by decide⟩
theorem wv11_answers : jwV M11_answers 1 := ⟨jin_7 (List.mem_of_getElem? (i := 64) rfl), List.mem_append_left _ (List.mem_of_getElem? (i := 130) rfl), jin_1 (List.mem_of_getElem? (i := 11) rfl), in_M11_answers, by decide +kernel, by decide +kernel, by decide +kernel, by decide⟩
theorem wv11_top : jwV M11_top 0 := ⟨jin_7 (List.mem_of_getElem? (i := 68) rfl), List.mem_append_left _ (List.mem_of_getElem? (i := 131) rfl), jin_1 (List.mem_of_getElem? (i := 11) rfl), in_M11_top, by decide +kernel, by decide +kernel, by decide +kernel, by decide⟩
theorem wv11_force : jwV M11_force 1 := ⟨jin_7 (List.mem_of_getElem? (i := 73) rfl), jin_7 (List.mem_of_getElem? (i := 74) rfl), jin_1 (List.mem_of_getElem? (i := 11) rfl), in_M11_force, by decide +kernel, by decide +kernel, by decide +kernel, by decide⟩
theorem wv11_chair : jwV M11_chair 2 := ⟨jin_7 (List.mem_of_getElem? (i := 78) rfl), jin_7 (List.mem_of_getElem? (i := 79) rfl), jin_1 (List.mem_of_getElem? (i := 11) rfl), in_M11_chair, by decide +kernel, by decide +kernel, by decide +kernel, by decide⟩
theorem wv11_isChair : jwV M11_isChair 1 := ⟨jin_7 (List.mem_of_getElem? (i := 83) rfl), List.mem_append_left _ (List.mem_of_getElem? (i := 132) rfl), jin_1 (List.mem_of_getElem? (i := 11) rfl), in_M11_isChair, by decide +kernel, by decide +kernel, by decide +kernel, by decide⟩
theorem wv11_guest : jwV M11_guest 2 := ⟨jin_7 (List.mem_of_getElem? (i := 86) rfl), jin_7 (List.mem_of_getElem? (i := 87) rfl), jin_1 (List.mem_of_getElem? (i := 11) rfl), in_M11_guest, by decide +kernel, by decide +kernel, by decide +kernel, by decide⟩
theorem wv11_isGuest : jwV M11_isGuest 1 := ⟨jin_7 (List.mem_of_getElem? (i := 91) rfl), List.mem_append_left _ (List.mem_of_getElem? (i := 133) rfl), jin_1 (List.mem_of_getElem? (i := 11) rfl), in_M11_isGuest, by decide +kernel, by decide +kernel, by decide +kernel, by decide⟩
theorem wv11_time : jwV M11_time 2 := ⟨jin_7 (List.mem_of_getElem? (i := 94) rfl), jin_7 (List.mem_of_getElem? (i := 95) rfl), jin_1 (List.mem_of_getElem? (i := 11) rfl), in_M11_time, by decide +kernel, by decide +kernel, by decide +kernel, by decide⟩
theorem wv11_timeOf : jwV M11_timeOf 2 := ⟨jin_7 (List.mem_of_getElem? (i := 99) rfl), List.mem_append_left _ (List.mem_of_getElem? (i := 134) rfl), jin_1 (List.mem_of_getElem? (i := 11) rfl), in_M11_timeOf, by decide +kernel, by decide +kernel, by decide +kernel, by decide⟩
theorem wv11_undo : jwV M11_undo 0 := ⟨jin_7 (List.mem_of_getElem? (i := 102) rfl), jin_7 (List.mem_of_getElem? (i := 103) rfl), jin_1 (List.mem_of_getElem? (i := 11) rfl), in_M11_undo, by decide +kernel, by decide +kernel, by decide +kernel, by decide⟩
theorem wv11_movesAll : jwV M11_movesAll 2 := ⟨jin_7 (List.mem_of_getElem? (i := 107) rfl), List.mem_append_left _ (List.mem_of_getElem? (i := 135) rfl), jin_1 (List.mem_of_getElem? (i := 11) rfl), in_M11_movesAll, by decide +kernel, by decide +kernel, by decide +kernel, by decide⟩
theorem wv11_moves : jwV M11_moves 1 := ⟨jin_7 (List.mem_of_getElem? (i := 111) rfl), List.mem_append_left _ (List.mem_of_getElem? (i := 136) rfl), jin_1 (List.mem_of_getElem? (i := 11) rfl), in_M11_moves, by decide +kernel, by decide +kernel, by decide +kernel, by decide⟩
theorem wv11_movesRow : jwV M11_movesRow 1 := ⟨jin_7 (List.mem_of_getElem? (i := 115) rfl), List.mem_append_left _ (List.mem_of_getElem? (i := 137) rfl), jin_1 (List.mem_of_getElem? (i := 11) rfl), in_M11_movesRow, by decide +kernel, by decide +kernel, by decide +kernel, by decide⟩
theorem wv11_round : jwV M11_round 0 := ⟨jin_7 (List.mem_of_getElem? (i := 118) rfl), jin_7 (List.mem_of_getElem? (i := 119) rfl), jin_1 (List.mem_of_getElem? (i := 11) rfl), in_M11_round, by decide +kernel, by decide +kernel, by decide +kernel, by decide⟩
theorem wv11_isParty : jwV M11_isParty 0 := ⟨jin_7 (List.mem_of_getElem? (i := 123) rfl), List.mem_append_left _ (List.mem_of_getElem? (i := 138) rfl), jin_1 (List.mem_of_getElem? (i := 11) rfl), in_M11_isParty, by decide +kernel, by decide +kernel, by decide +kernel, by decide⟩
theorem wv11_keepsAct : jwV M11_keepsAct 0 := ⟨jin_7 (List.mem_of_getElem? (i := 127) rfl), List.mem_append_left _ (List.mem_of_getElem? (i := 139) rfl), jin_1 (List.mem_of_getElem? (i := 11) rfl), in_M11_keepsAct, by decide +kernel, by decide +kernel, by decide +kernel, by decide⟩
theorem wv11_goes : jwV M11_goes 0 := ⟨jin_7 (List.mem_of_getElem? (i := 131) rfl), List.mem_append_left _ (List.mem_of_getElem? (i := 140) rfl), jin_1 (List.mem_of_getElem? (i := 11) rfl), in_M11_goes, by decide +kernel, by decide +kernel, by decide +kernel, by decide⟩
theorem wv11_isDone : jwV M11_isDone 0 := ⟨jin_7 (List.mem_of_getElem? (i := 135) rfl), List.mem_append_left _ (List.mem_of_getElem? (i := 141) rfl), jin_1 (List.mem_of_getElem? (i := 11) rfl), in_M11_isDone, by decide +kernel, by decide +kernel, by decide +kernel, by decide⟩
theorem ws11_bits : jwS M11_bits 1 := ⟨jin_7 (List.mem_of_getElem? (i := 138) rfl), jin_1 (List.mem_of_getElem? (i := 11) rfl), in_M11_bits, by decide +kernel, by decide +kernel, by decide +kernel, by decide⟩
theorem wv11_beatsWanted : jwV M11_beatsWanted 0 := ⟨jin_7 (List.mem_of_getElem? (i := 142) rfl), List.mem_append_left _ (List.mem_of_getElem? (i := 142) rfl), jin_1 (List.mem_of_getElem? (i := 11) rfl), in_M11_beatsWanted, by decide +kernel, by decide +kernel, by decide +kernel, by decide⟩
theorem wv11_stepsIn : jwV M11_stepsIn 1 := ⟨jin_7 (List.mem_of_getElem? (i := 146) rfl), List.mem_append_left _ (List.mem_of_getElem? (i := 143) rfl), jin_1 (List.mem_of_getElem? (i := 11) rfl), in_M11_stepsIn, by decide +kernel, by decide +kernel, by decide +kernel, by decide⟩
theorem ws11_has : jwS M11_has 2 := ⟨jin_7 (List.mem_of_getElem? (i := 149) rfl), jin_1 (List.mem_of_getElem? (i := 11) rfl), in_M11_has, by decide +kernel, by decide +kernel, by decide +kernel, by decide⟩
theorem wv11_nearNow : jwV M11_nearNow 0 := ⟨jin_7 (List.mem_of_getElem? (i := 153) rfl), List.mem_append_left _ (List.mem_of_getElem? (i := 144) rfl), jin_1 (List.mem_of_getElem? (i := 11) rfl), in_M11_nearNow, by decide +kernel, by decide +kernel, by decide +kernel, by decide⟩
theorem wv11_tiredNow : jwV M11_tiredNow 0 := ⟨jin_7 (List.mem_of_getElem? (i := 157) rfl), List.mem_append_left _ (List.mem_of_getElem? (i := 145) rfl), jin_1 (List.mem_of_getElem? (i := 11) rfl), in_M11_tiredNow, by decide +kernel, by decide +kernel, by decide +kernel, by decide⟩
theorem wv11_wanted : jwV M11_wanted 0 := ⟨jin_7 (List.mem_of_getElem? (i := 161) rfl), List.mem_append_left _ (List.mem_of_getElem? (i := 146) rfl), jin_1 (List.mem_of_getElem? (i := 11) rfl), in_M11_wanted, by decide +kernel, by decide +kernel, by decide +kernel, by decide⟩
theorem wv11_answer : jwV M11_answer 3 := ⟨jin_7 (List.mem_of_getElem? (i := 165) rfl), List.mem_append_left _ (List.mem_of_getElem? (i := 147) rfl), jin_1 (List.mem_of_getElem? (i := 11) rfl), in_M11_answer, by decide +kernel, by decide +kernel, by decide +kernel, by decide⟩
theorem ws11_both : jwS M11_both 3 := ⟨jin_7 (List.mem_of_getElem? (i := 168) rfl), jin_1 (List.mem_of_getElem? (i := 11) rfl), in_M11_both, by decide +kernel, by decide +kernel, by decide +kernel, by decide⟩
theorem ws11_truth : jwS M11_truth 1 := ⟨jin_7 (List.mem_of_getElem? (i := 171) rfl), jin_1 (List.mem_of_getElem? (i := 11) rfl), in_M11_truth, by decide +kernel, by decide +kernel, by decide +kernel, by decide⟩
theorem wv11_placeIn : jwV M11_placeIn 2 := ⟨jin_7 (List.mem_of_getElem? (i := 176) rfl), List.mem_append_left _ (List.mem_of_getElem? (i := 148) rfl), jin_1 (List.mem_of_getElem? (i := 11) rfl), in_M11_placeIn, by decide +kernel, by decide +kernel, by decide +kernel, by decide⟩
theorem wv11_sits : jwV M11_sits 0 := ⟨jin_7 (List.mem_of_getElem? (i := 180) rfl), List.mem_append_left _ (List.mem_of_getElem? (i := 149) rfl), jin_1 (List.mem_of_getElem? (i := 11) rfl), in_M11_sits, by decide +kernel, by decide +kernel, by decide +kernel, by decide⟩
theorem wv11_sitsOne : jwV M11_sitsOne 1 := ⟨jin_7 (List.mem_of_getElem? (i := 184) rfl), List.mem_append_left _ (List.mem_of_getElem? (i := 150) rfl), jin_1 (List.mem_of_getElem? (i := 11) rfl), in_M11_sitsOne, by decide +kernel, by decide +kernel, by decide +kernel, by decide⟩
theorem wv11_leaves : jwV M11_leaves 0 := ⟨jin_7 (List.mem_of_getElem? (i := 188) rfl), List.mem_append_left _ (List.mem_of_getElem? (i := 151) rfl), jin_1 (List.mem_of_getElem? (i := 11) rfl), in_M11_leaves, by decide +kernel, by decide +kernel, by decide +kernel, by decide⟩
theorem wv11_play : jwV M11_play 1 := ⟨jin_7 (List.mem_of_getElem? (i := 191) rfl), jin_7 (List.mem_of_getElem? (i := 192) rfl), jin_1 (List.mem_of_getElem? (i := 11) rfl), in_M11_play, by decide +kernel, by decide +kernel, by decide +kernel, by decide⟩
theorem wv11_swap : jwV M11_swap 2 := ⟨jin_7 (List.mem_of_getElem? (i := 195) rfl), jin_7 (List.mem_of_getElem? (i := 196) rfl), jin_1 (List.mem_of_getElem? (i := 11) rfl), in_M11_swap, by decide +kernel, by decide +kernel, by decide +kernel, by decide⟩
theorem wv11_isStill : jwV M11_isStill 1 := ⟨jin_7 (List.mem_of_getElem? (i := 200) rfl), List.mem_append_left _ (List.mem_of_getElem? (i := 152) rfl), jin_1 (List.mem_of_getElem? (i := 11) rfl), in_M11_isStill, by decide +kernel, by decide +kernel, by decide +kernel, by decide⟩
theorem wv11_pace : jwV M11_pace 2 := ⟨jin_7 (List.mem_of_getElem? (i := 203) rfl), jin_7 (List.mem_of_getElem? (i := 204) rfl), jin_1 (List.mem_of_getElem? (i := 11) rfl), in_M11_pace, by decide +kernel, by decide +kernel, by decide +kernel, by decide⟩
theorem wv11_bring : jwV M11_bring 1 := ⟨jin_7 (List.mem_of_getElem? (i := 208) rfl), jin_7 (List.mem_of_getElem? (i := 209) rfl), jin_1 (List.mem_of_getElem? (i := 11) rfl), in_M11_bring, by decide +kernel, by decide +kernel, by decide +kernel, by decide⟩
theorem wv11_ahead : jwV M11_ahead 3 := ⟨jin_7 (List.mem_of_getElem? (i := 212) rfl), jin_7 (List.mem_of_getElem? (i := 213) rfl), jin_1 (List.mem_of_getElem? (i := 11) rfl), in_M11_ahead, by decide +kernel, by decide +kernel, by decide +kernel, by decide⟩
theorem wv11_keepsAll : jwV M11_keepsAll 0 := ⟨jin_7 (List.mem_of_getElem? (i := 219) rfl), List.mem_append_left _ (List.mem_of_getElem? (i := 153) rfl), jin_1 (List.mem_of_getElem? (i := 11) rfl), in_M11_keepsAll, by decide +kernel, by decide +kernel, by decide +kernel, by decide⟩
theorem wv11_carriesAll : jwV M11_carriesAll 2 := ⟨jin_7 (List.mem_of_getElem? (i := 223) rfl), List.mem_append_left _ (List.mem_of_getElem? (i := 154) rfl), jin_1 (List.mem_of_getElem? (i := 11) rfl), in_M11_carriesAll, by decide +kernel, by decide +kernel, by decide +kernel, by decide⟩
theorem wv11_carryRow : jwV M11_carryRow 1 := ⟨jin_7 (List.mem_of_getElem? (i := 227) rfl), List.mem_append_left _ (List.mem_of_getElem? (i := 155) rfl), jin_1 (List.mem_of_getElem? (i := 11) rfl), in_M11_carryRow, by decide +kernel, by decide +kernel, by decide +kernel, by decide⟩
theorem wv11_goFor : jwV M11_goFor 1 := ⟨jin_7 (List.mem_of_getElem? (i := 231) rfl), List.mem_append_left _ (List.mem_of_getElem? (i := 156) rfl), jin_1 (List.mem_of_getElem? (i := 11) rfl), in_M11_goFor, by decide +kernel, by decide +kernel, by decide +kernel, by decide⟩
theorem wv11_laysBack : jwV M11_laysBack 0 := ⟨jin_7 (List.mem_of_getElem? (i := 235) rfl), List.mem_append_left _ (List.mem_of_getElem? (i := 157) rfl), jin_1 (List.mem_of_getElem? (i := 11) rfl), in_M11_laysBack, by decide +kernel, by decide +kernel, by decide +kernel, by decide⟩
theorem wv11_winner : jwV M11_winner 1 := ⟨jin_7 (List.mem_of_getElem? (i := 238) rfl), jin_7 (List.mem_of_getElem? (i := 239) rfl), jin_1 (List.mem_of_getElem? (i := 11) rfl), in_M11_winner, by decide +kernel, by decide +kernel, by decide +kernel, by decide⟩
theorem wv11_alone : jwV M11_alone 0 := ⟨jin_8 (List.mem_of_getElem? (i := 3) rfl), List.mem_append_left _ (List.mem_of_getElem? (i := 158) rfl), jin_1 (List.mem_of_getElem? (i := 11) rfl), in_M11_alone, by decide +kernel, by decide +kernel, by decide +kernel, by decide⟩
theorem wv11_gone : jwV M11_gone 1 := ⟨jin_8 (List.mem_of_getElem? (i := 6) rfl), jin_8 (List.mem_of_getElem? (i := 7) rfl), jin_1 (List.mem_of_getElem? (i := 11) rfl), in_M11_gone, by decide +kernel, by decide +kernel, by decide +kernel, by decide⟩
theorem wv11_safe : jwV M11_safe 2 := ⟨jin_8 (List.mem_of_getElem? (i := 10) rfl), jin_8 (List.mem_of_getElem? (i := 11) rfl), jin_1 (List.mem_of_getElem? (i := 11) rfl), in_M11_safe, by decide +kernel, by decide +kernel, by decide +kernel, by decide⟩
theorem wv11_row : jwV M11_row 3 := ⟨jin_8 (List.mem_of_getElem? (i := 14) rfl), jin_8 (List.mem_of_getElem? (i := 15) rfl), jin_1 (List.mem_of_getElem? (i := 11) rfl), in_M11_row, by decide +kernel, by decide +kernel, by decide +kernel, by decide⟩
theorem ws11_power : jwS M11_power 2 := ⟨jin_8 (List.mem_of_getElem? (i := 19) rfl), jin_1 (List.mem_of_getElem? (i := 11) rfl), in_M11_power, by decide +kernel, by decide +kernel, by decide +kernel, by decide⟩
theorem wv11_staysBy : jwV M11_staysBy 3 := ⟨jin_8 (List.mem_of_getElem? (i := 23) rfl), List.mem_append_left _ (List.mem_of_getElem? (i := 159) rfl), jin_1 (List.mem_of_getElem? (i := 11) rfl), in_M11_staysBy, by decide +kernel, by decide +kernel, by decide +kernel, by decide⟩
theorem wv11_kind : jwV M11_kind 1 := ⟨jin_8 (List.mem_of_getElem? (i := 26) rfl), jin_8 (List.mem_of_getElem? (i := 27) rfl), jin_1 (List.mem_of_getElem? (i := 11) rfl), in_M11_kind, by decide +kernel, by decide +kernel, by decide +kernel, by decide⟩
theorem wv11_laysLeast : jwV M11_laysLeast 1 := ⟨jin_8 (List.mem_of_getElem? (i := 31) rfl), List.mem_append_left _ (List.mem_of_getElem? (i := 160) rfl), jin_1 (List.mem_of_getElem? (i := 11) rfl), in_M11_laysLeast, by decide +kernel, by decide +kernel, by decide +kernel, by decide⟩
theorem wv11_leastFrom : jwV M11_leastFrom 3 := ⟨jin_8 (List.mem_of_getElem? (i := 35) rfl), List.mem_append_left _ (List.mem_of_getElem? (i := 161) rfl), jin_1 (List.mem_of_getElem? (i := 11) rfl), in_M11_leastFrom, by decide +kernel, by decide +kernel, by decide +kernel, by decide⟩
theorem wv11_joins : jwV M11_joins 3 := ⟨jin_8 (List.mem_of_getElem? (i := 39) rfl), List.mem_append_left _ (List.mem_of_getElem? (i := 162) rfl), jin_1 (List.mem_of_getElem? (i := 11) rfl), in_M11_joins, by decide +kernel, by decide +kernel, by decide +kernel, by decide⟩
theorem wv11_chairBy : jwV M11_chairBy 1 := ⟨jin_8 (List.mem_of_getElem? (i := 43) rfl), List.mem_append_left _ (List.mem_of_getElem? (i := 163) rfl), jin_1 (List.mem_of_getElem? (i := 11) rfl), in_M11_chairBy, by decide +kernel, by decide +kernel, by decide +kernel, by decide⟩
theorem wv11_longest : jwV M11_longest 0 := ⟨jin_8 (List.mem_of_getElem? (i := 46) rfl), jin_8 (List.mem_of_getElem? (i := 47) rfl), jin_1 (List.mem_of_getElem? (i := 11) rfl), in_M11_longest, by decide +kernel, by decide +kernel, by decide +kernel, by decide⟩
theorem wv11_within : jwV M11_within 1 := ⟨jin_8 (List.mem_of_getElem? (i := 50) rfl), jin_8 (List.mem_of_getElem? (i := 51) rfl), jin_1 (List.mem_of_getElem? (i := 11) rfl), in_M11_within, by decide +kernel, by decide +kernel, by decide +kernel, by decide⟩
theorem wv11_meet : jwV M11_meet 2 := ⟨jin_8 (List.mem_of_getElem? (i := 55) rfl), jin_8 (List.mem_of_getElem? (i := 56) rfl), jin_1 (List.mem_of_getElem? (i := 11) rfl), in_M11_meet, by decide +kernel, by decide +kernel, by decide +kernel, by decide⟩
theorem wv11_tour : jwV M11_tour 0 := ⟨jin_8 (List.mem_of_getElem? (i := 59) rfl), jin_8 (List.mem_of_getElem? (i := 60) rfl), jin_1 (List.mem_of_getElem? (i := 11) rfl), in_M11_tour, by decide +kernel, by decide +kernel, by decide +kernel, by decide⟩
theorem wv11_areAllBack : jwV M11_areAllBack 1 := ⟨jin_8 (List.mem_of_getElem? (i := 64) rfl), List.mem_append_left _ (List.mem_of_getElem? (i := 164) rfl), jin_1 (List.mem_of_getElem? (i := 11) rfl), in_M11_areAllBack, by decide +kernel, by decide +kernel, by decide +kernel, by decide⟩
theorem wv11_away : jwV M11_away 3 := ⟨jin_8 (List.mem_of_getElem? (i := 67) rfl), jin_8 (List.mem_of_getElem? (i := 68) rfl), jin_1 (List.mem_of_getElem? (i := 11) rfl), in_M11_away, by decide +kernel, by decide +kernel, by decide +kernel, by decide⟩
theorem wv11_satIn : jwV M11_satIn 2 := ⟨jin_8 (List.mem_of_getElem? (i := 73) rfl), List.mem_append_left _ (List.mem_of_getElem? (i := 165) rfl), jin_1 (List.mem_of_getElem? (i := 11) rfl), in_M11_satIn, by decide +kernel, by decide +kernel, by decide +kernel, by decide⟩
theorem wv11_begin : jwV M11_begin 3 := ⟨jin_8 (List.mem_of_getElem? (i := 76) rfl), jin_8 (List.mem_of_getElem? (i := 77) rfl), jin_1 (List.mem_of_getElem? (i := 11) rfl), in_M11_begin, by decide +kernel, by decide +kernel, by decide +kernel, by decide⟩
theorem wv11_rests : jwV M11_rests 4 := ⟨jin_8 (List.mem_of_getElem? (i := 80) rfl), jin_8 (List.mem_of_getElem? (i := 81) rfl), jin_1 (List.mem_of_getElem? (i := 11) rfl), in_M11_rests, by decide +kernel, by decide +kernel, by decide +kernel, by decide⟩
theorem wv11_laysPaces : jwV M11_laysPaces 3 := ⟨jin_8 (List.mem_of_getElem? (i := 85) rfl), List.mem_append_left _ (List.mem_of_getElem? (i := 166) rfl), jin_1 (List.mem_of_getElem? (i := 11) rfl), in_M11_laysPaces, by decide +kernel, by decide +kernel, by decide +kernel, by decide⟩
theorem wv11_isRest : jwV M11_isRest 2 := ⟨jin_8 (List.mem_of_getElem? (i := 89) rfl), List.mem_append_left _ (List.mem_of_getElem? (i := 167) rfl), jin_1 (List.mem_of_getElem? (i := 11) rfl), in_M11_isRest, by decide +kernel, by decide +kernel, by decide +kernel, by decide⟩
theorem wv11_pence : jwV M11_pence 2 := ⟨jin_8 (List.mem_of_getElem? (i := 92) rfl), jin_8 (List.mem_of_getElem? (i := 93) rfl), jin_1 (List.mem_of_getElem? (i := 11) rfl), in_M11_pence, by decide +kernel, by decide +kernel, by decide +kernel, by decide⟩
theorem wv11_note : jwV M11_note 3 := ⟨jin_8 (List.mem_of_getElem? (i := 97) rfl), jin_8 (List.mem_of_getElem? (i := 98) rfl), jin_1 (List.mem_of_getElem? (i := 11) rfl), in_M11_note, by decide +kernel, by decide +kernel, by decide +kernel, by decide⟩
theorem wv11_ruled : jwV M11_ruled 1 := ⟨jin_8 (List.mem_of_getElem? (i := 101) rfl), jin_8 (List.mem_of_getElem? (i := 102) rfl), jin_1 (List.mem_of_getElem? (i := 11) rfl), in_M11_ruled, by decide +kernel, by decide +kernel, by decide +kernel, by decide⟩
theorem wv11_couldRule : jwV M11_couldRule 1 := ⟨jin_8 (List.mem_of_getElem? (i := 106) rfl), List.mem_append_left _ (List.mem_of_getElem? (i := 168) rfl), jin_1 (List.mem_of_getElem? (i := 11) rfl), in_M11_couldRule, by decide +kernel, by decide +kernel, by decide +kernel, by decide⟩
theorem wv11_doNotesFit : jwV M11_doNotesFit 0 := ⟨jin_8 (List.mem_of_getElem? (i := 110) rfl), List.mem_append_left _ (List.mem_of_getElem? (i := 169) rfl), jin_1 (List.mem_of_getElem? (i := 11) rfl), in_M11_doNotesFit, by decide +kernel, by decide +kernel, by decide +kernel, by decide⟩
theorem wv11_steps : jwV M11_steps 1 := ⟨jin_8 (List.mem_of_getElem? (i := 113) rfl), jin_8 (List.mem_of_getElem? (i := 114) rfl), jin_1 (List.mem_of_getElem? (i := 11) rfl), in_M11_steps, by decide +kernel, by decide +kernel, by decide +kernel, by decide⟩
theorem wv11_quicks : jwV M11_quicks 1 := ⟨jin_8 (List.mem_of_getElem? (i := 117) rfl), jin_8 (List.mem_of_getElem? (i := 118) rfl), jin_1 (List.mem_of_getElem? (i := 11) rfl), in_M11_quicks, by decide +kernel, by decide +kernel, by decide +kernel, by decide⟩
theorem wv11_look : jwV M11_look 2 := ⟨jin_8 (List.mem_of_getElem? (i := 121) rfl), jin_8 (List.mem_of_getElem? (i := 122) rfl), jin_1 (List.mem_of_getElem? (i := 11) rfl), in_M11_look, by decide +kernel, by decide +kernel, by decide +kernel, by decide⟩
theorem wv11_mostAlike : jwV M11_mostAlike 2 := ⟨jin_8 (List.mem_of_getElem? (i := 126) rfl), List.mem_append_left _ (List.mem_of_getElem? (i := 170) rfl), jin_1 (List.mem_of_getElem? (i := 11) rfl), in_M11_mostAlike, by decide +kernel, by decide +kernel, by decide +kernel, by decide⟩
theorem wv11_seed : jwV M11_seed 1 := ⟨jin_8 (List.mem_of_getElem? (i := 129) rfl), jin_8 (List.mem_of_getElem? (i := 130) rfl), jin_1 (List.mem_of_getElem? (i := 11) rfl), in_M11_seed, by decide +kernel, by decide +kernel, by decide +kernel, by decide⟩
theorem wv11_tunes : jwV M11_tunes 3 := ⟨jin_8 (List.mem_of_getElem? (i := 133) rfl), jin_8 (List.mem_of_getElem? (i := 134) rfl), jin_1 (List.mem_of_getElem? (i := 11) rfl), in_M11_tunes, by decide +kernel, by decide +kernel, by decide +kernel, by decide⟩
theorem wv11_draws : jwV M11_draws 1 := ⟨jin_8 (List.mem_of_getElem? (i := 138) rfl), List.mem_append_left _ (List.mem_of_getElem? (i := 171) rfl), jin_1 (List.mem_of_getElem? (i := 11) rfl), in_M11_draws, by decide +kernel, by decide +kernel, by decide +kernel, by decide⟩
theorem wv11_count : jwV M11_count 1 := ⟨jin_8 (List.mem_of_getElem? (i := 145) rfl), jin_8 (List.mem_of_getElem? (i := 146) rfl), jin_1 (List.mem_of_getElem? (i := 11) rfl), in_M11_count, by decide +kernel, by decide +kernel, by decide +kernel, by decide⟩
theorem wv11_image : jwV M11_image 1 := ⟨jin_8 (List.mem_of_getElem? (i := 149) rfl), jin_8 (List.mem_of_getElem? (i := 150) rfl), jin_1 (List.mem_of_getElem? (i := 11) rfl), in_M11_image, by decide +kernel, by decide +kernel, by decide +kernel, by decide⟩
theorem wv11_back : jwV M11_back 1 := ⟨jin_8 (List.mem_of_getElem? (i := 154) rfl), jin_8 (List.mem_of_getElem? (i := 155) rfl), jin_1 (List.mem_of_getElem? (i := 11) rfl), in_M11_back, by decide +kernel, by decide +kernel, by decide +kernel, by decide⟩
def mmax (x y : Int32) : Int32 := if x < y then y else x
def mmin (x y : Int32) : Int32 := if y < x then y else x
def mabs (x : Int32) : Int32 := if 0 ≤ x then x else 0 - x
def mmaxL (x y : Int64) : Int64 := if y < x then x else y
def mminL (x y : Int64) : Int64 := if y < x then y else x
def slen (t : Nat) : Int32 := nI (jlen.getD t 0)
def sch (t : Nat) (i : Int32) : Int32 := (jbyt.getD t []).getD i.toNatClampNeg 0
section LIBS
variable {M : jM} {d mc ms kc ks pc : Nat} {L : List (Nat × jV)} {st : List jV} {μ : jMem} {Q : Option jV → jMem → Prop}
theorem jcatsum {adK : Nat → Nat} (hst : jwd st ≤ 8) : ((st.map (jcv adK μ)).map fun v => v.category).sum ≤ 8 := by
  have e : (st.map (jcv adK μ)).map (fun v => v.category) = st.map (fun v => if jis2 v then 2 else 1) := by
    rw [List.map_map]; apply List.map_congr_left; intro y _; exact jcat2 adK μ y
  rw [e]; exact hst
theorem go_mmax {idx : Nat} {x y : Int32} (hd : decode M.2.2.1 pc = .ok (.invokestatic idx, 3)) (hl0 : (M.1, idx, M14_max_1, 0) ∈ jml) (hc0 : M.2.1.cls = jcn M.1) (hdd : 1 ≤ d) (hst : jwd st ≤ 8) (k : Go M d mc ms kc ks (pc + 3) L (.inl (mmax x y) :: st) μ Q) : Go M d mc ms kc ks pc L (.inl y :: .inl x :: st) μ Q := by
  intro p l e s m args below meth c H locs cells slots ls D cid adK adV base hC hW hS hl h1 h2
  obtain ⟨hx, hb, hml, hr, hts, hown, hlocks, hmn, hbs, hK, hO⟩ := id hC
  rw [hc0] at hown
  have hlk := (jmlink hl0 hts hO).1 rfl
  exact va_mmax hx hb (hml.trans hl.1.symm) hown hlk (hts _ (jw_mem (jin_5 (List.mem_of_getElem? (i := 4) rfl)) rfl)) (hts _ (jw_mem (jin_1 (List.mem_of_getElem? (i := 19) rfl)) rfl)) (hts _ (jw_mem in_M14_max_1 rfl)) (by show 1 ≤ d; omega) (by have z := jcatsum (adK := adK) (μ := μ) hst; show _ + _ ≤ 64 * d; omega) (by show cells ≤ mc; omega) (by show slots ≤ ms; omega) hd (k p l e s m args below meth c H locs cells slots ls D cid adK adV base hC hW hS hl h1 h2)
theorem go_mmin {idx : Nat} {x y : Int32} (hd : decode M.2.2.1 pc = .ok (.invokestatic idx, 3)) (hl0 : (M.1, idx, M14_min_0, 0) ∈ jml) (hc0 : M.2.1.cls = jcn M.1) (hdd : 1 ≤ d) (hst : jwd st ≤ 8) (k : Go M d mc ms kc ks (pc + 3) L (.inl (mmin x y) :: st) μ Q) : Go M d mc ms kc ks pc L (.inl y :: .inl x :: st) μ Q := by
  intro p l e s m args below meth c H locs cells slots ls D cid adK adV base hC hW hS hl h1 h2
  obtain ⟨hx, hb, hml, hr, hts, hown, hlocks, hmn, hbs, hK, hO⟩ := id hC
  rw [hc0] at hown
  have hlk := (jmlink hl0 hts hO).1 rfl
  exact va_mmin hx hb (hml.trans hl.1.symm) hown hlk (hts _ (jw_mem (jin_3 (List.mem_of_getElem? (i := 191) rfl)) rfl)) (hts _ (jw_mem (jin_1 (List.mem_of_getElem? (i := 19) rfl)) rfl)) (hts _ (jw_mem in_M14_min_0 rfl)) (by show 1 ≤ d; omega) (by have z := jcatsum (adK := adK) (μ := μ) hst; show _ + _ ≤ 64 * d; omega) (by show cells ≤ mc; omega) (by show slots ≤ ms; omega) hd (k p l e s m args below meth c H locs cells slots ls D cid adK adV base hC hW hS hl h1 h2)
theorem go_mabs {idx : Nat} {x : Int32} (hd : decode M.2.2.1 pc = .ok (.invokestatic idx, 3)) (hl0 : (M.1, idx, M14_abs, 0) ∈ jml) (hc0 : M.2.1.cls = jcn M.1) (hdd : 1 ≤ d) (hst : jwd st ≤ 8) (k : Go M d mc ms kc ks (pc + 3) L (.inl (mabs x) :: st) μ Q) : Go M d mc ms kc ks pc L (.inl x :: st) μ Q := by
  intro p l e s m args below meth c H locs cells slots ls D cid adK adV base hC hW hS hl h1 h2
  obtain ⟨hx, hb, hml, hr, hts, hown, hlocks, hmn, hbs, hK, hO⟩ := id hC
  rw [hc0] at hown
  have hlk := (jmlink hl0 hts hO).1 rfl
  exact va_mabs hx hb (hml.trans hl.1.symm) hown hlk (hts _ (jw_mem (jin_3 (List.mem_of_getElem? (i := 238) rfl)) rfl)) (hts _ (jw_mem (jin_1 (List.mem_of_getElem? (i := 19) rfl)) rfl)) (hts _ (jw_mem in_M14_abs rfl)) (by show 1 ≤ d; omega) (by have z := jcatsum (adK := adK) (μ := μ) hst; show _ + _ ≤ 64 * d; omega) (by show cells ≤ mc; omega) (by show slots ≤ ms; omega) hd (k p l e s m args below meth c H locs cells slots ls D cid adK adV base hC hW hS hl h1 h2)
theorem go_mmaxL {idx : Nat} {x y : Int64} (hd : decode M.2.2.1 pc = .ok (.invokestatic idx, 3)) (hl0 : (M.1, idx, M14_max_0, 0) ∈ jml) (hc0 : M.2.1.cls = jcn M.1) (hdd : 1 ≤ d) (hst : jwd st ≤ 8) (k : Go M d mc ms kc ks (pc + 3) L (.inr (.inl (mmaxL x y)) :: st) μ Q) : Go M d mc ms kc ks pc L (.inr (.inl y) :: .inr (.inl x) :: st) μ Q := by
  intro p l e s m args below meth c H locs cells slots ls D cid adK adV base hC hW hS hl h1 h2
  obtain ⟨hx, hb, hml, hr, hts, hown, hlocks, hmn, hbs, hK, hO⟩ := id hC
  rw [hc0] at hown
  have hlk := (jmlink hl0 hts hO).1 rfl
  exact va_mmax_long hx hb (hml.trans hl.1.symm) hown hlk (hts _ (jw_mem (jin_4 (List.mem_of_getElem? (i := 80) rfl)) rfl)) (hts _ (jw_mem (jin_1 (List.mem_of_getElem? (i := 19) rfl)) rfl)) (hts _ (jw_mem in_M14_max_0 rfl)) (by show 1 ≤ d; omega) (by have z := jcatsum (adK := adK) (μ := μ) hst; show _ + _ ≤ 64 * d; omega) (by show cells ≤ mc; omega) (by show slots ≤ ms; omega) hd (k p l e s m args below meth c H locs cells slots ls D cid adK adV base hC hW hS hl h1 h2)
theorem go_mminL {idx : Nat} {x y : Int64} (hd : decode M.2.2.1 pc = .ok (.invokestatic idx, 3)) (hl0 : (M.1, idx, M14_min_1, 0) ∈ jml) (hc0 : M.2.1.cls = jcn M.1) (hdd : 1 ≤ d) (hst : jwd st ≤ 8) (k : Go M d mc ms kc ks (pc + 3) L (.inr (.inl (mminL x y)) :: st) μ Q) : Go M d mc ms kc ks pc L (.inr (.inl y) :: .inr (.inl x) :: st) μ Q := by
  intro p l e s m args below meth c H locs cells slots ls D cid adK adV base hC hW hS hl h1 h2
  obtain ⟨hx, hb, hml, hr, hts, hown, hlocks, hmn, hbs, hK, hO⟩ := id hC
  rw [hc0] at hown
  have hlk := (jmlink hl0 hts hO).1 rfl
  exact va_mmin_long hx hb (hml.trans hl.1.symm) hown hlk (hts _ (jw_mem (jin_4 (List.mem_of_getElem? (i := 77) rfl)) rfl)) (hts _ (jw_mem (jin_1 (List.mem_of_getElem? (i := 19) rfl)) rfl)) (hts _ (jw_mem in_M14_min_1 rfl)) (by show 1 ≤ d; omega) (by have z := jcatsum (adK := adK) (μ := μ) hst; show _ + _ ≤ 64 * d; omega) (by show cells ≤ mc; omega) (by show slots ≤ ms; omega) hd (k p l e s m args below meth c H locs cells slots ls D cid adK adV base hC hW hS hl h1 h2)
theorem go_acopy {idx : Nat} {x y : jId} {sp dp n : Int32} {n0 n1 : Nat} (hd : decode M.2.2.1 pc = .ok (.invokestatic idx, 3)) (hl0 : Cond.methodLink (jcn M.1) idx arraycopyName ∈ lw_tbl) (hc0 : M.2.1.cls = jcn M.1) (hTx : gT μ x = 20) (hTy : gT μ y = 20) (hNx : gN μ x = n0) (hNy : gN μ y = n1) (g1 : ¬ sp < 0) (g2 : ¬ dp < 0) (g3 : ¬ n < 0) (g4 : sp.toNatClampNeg + n.toNatClampNeg ≤ n0) (g5 : dp.toNatClampNeg + n.toNatClampNeg ≤ n1) (hdd : 1 ≤ d) (hst : jwd st ≤ 8)
    (k : Go M d mc ms kc ks (pc + 3) L st (sF μ y (va_cpy (gI μ x) (gI μ y) sp.toNatClampNeg dp.toNatClampNeg n.toNatClampNeg)) Q) : Go M d mc ms kc ks pc L (.inl n :: .inl dp :: .inr (.inr (some y)) :: .inl sp :: .inr (.inr (some x)) :: st) μ Q := by
  intro p l e s m args below meth c H locs cells slots ls D cid adK adV base hC hW hS hl h1 h2
  obtain ⟨hx, hb, hml, hr, hts, hown, hlocks, hmn, hbs, hK, hO⟩ := id hC
  rw [hc0] at hown
  have hT0 : gT μ y ≠ 0 := by omega
  obtain ⟨q0, -, hq0⟩ := jws_at (adK := adK) (cid := cid) hW.2.2 (x := x) (by omega)
  obtain ⟨q1, hq10, hq1⟩ := jws_at (adK := adK) (cid := cid) hW.2.2 (x := y) hT0
  rw [jce_int (t := 20) hTx (by omega) (by omega)] at hq0
  rw [jce_int (t := 20) hTy (by omega) (by omega)] at hq1
  have hfr : 1 ≤ (jRm d mc ms).frames := hdd
  have hroom : ((st.map (jcv adK μ)).map fun v => v.category).sum + (nativeFrameWords "java/lang/System" "arraycopy" 5 + 11) ≤ (jRm d mc ms).locals := by
    have z := jcatsum (adK := adK) (μ := μ) hst
    have z2 : nativeFrameWords "java/lang/System" "arraycopy" 5 = 7 := by decide +kernel
    rw [z2]
    show _ + _ ≤ 64 * d
    omega
  refine va_copyi hx hb (hml.trans hl.1.symm) hown (hts _ (jw_mem hl0 rfl)) (hts _ (jw_mem (jin_3 (List.mem_of_getElem? (i := 114) rfl)) rfl)) (hts _ (jw_mem (jin_3 (List.mem_of_getElem? (i := 113) rfl)) rfl)) (hts _ (jw_mem (jin_1 (List.mem_of_getElem? (i := 16) rfl)) rfl)) hK hW.1 hW.2.1 hS q0 q1 0 0 hq0 hq1 rfl rfl rfl g1 g2 g3 (by rw [hNx]; exact g4) (by rw [hNy]; exact g5) (fun _ _ => rfl) hfr hroom hd (fun H1 locs1 hP1 hD1 hS1 => ?_)
  have e9 : jce adK cid (sF μ y (va_cpy (gI μ x) (gI μ y) sp.toNatClampNeg dp.toNatClampNeg n.toNatClampNeg)) y = .inl (cid 0, gN μ y, .inl (va_cpy (gI μ x) (gI μ y) sp.toNatClampNeg dp.toNatClampNeg n.toNatClampNeg)) := by
    rw [jce_int (t := 20) (by rw [sF_T]; exact hTy) (by omega) (by omega), (sF_I μ y _ hT0).1, sF_N]
  have hset := jws_set hW.2.2 hq10 (sF_all μ y (va_cpy (gI μ x) (gI μ y) sp.toNatClampNeg dp.toNatClampNeg n.toNatClampNeg)) (sF_A adK _ _ _) (jce_sF (cid := cid) hT0)
  rw [e9] at hset
  rw [hset] at hP1 hD1
  have := k p l e s m args below meth c H1 locs1 cells slots ls D cid adK adV base hC ⟨hP1, hD1, jWF_sF hW.2.2⟩ hS1 (by rw [jlv_sF]; exact hl) h1 h2
  rw [jcv_sF] at this
  exact this
end LIBS
