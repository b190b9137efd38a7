def f2_leastSafe_L1 (a0 : Nat) (l2 : Int32) : Nat → jS → Int32 → Option (jS × Int32)
  | 0, _, _ => none
  | n + 1, S, l3 => (if 60 < l3 then some (S, (-2)) else Option.bind (f2_sitsBy S a0 l2 l3) (fun r1 => (if r1.2 = 0 then f2_leastSafe_L1 a0 l2 n r1.1 (l3 + 1) else some (r1.1, l3))))
def f2_leastSafe (S : jS) (a0 : Nat) (a1 : Int32) : Option (jS × Int32) := f2_leastSafe_L1 a0 a1 jF S 1
theorem f2_leastSafe_L1_ok {T : jT} {Y : jS × jT} {a0 : Nat} {l2 : Int32} {S1 : jS} {x : Int32} (hT : LayC T) (h0 : LayHall T a0) : ∀ (n : Nat) (S : jS) (l3 : Int32), f2_leastSafe_L1 a0 l2 n S l3 = some (S1, x) → Go M2_leastSafe 6 0 0 0 0 2 [(0, rc 20), (1, rc a0), (2, vi l2), (3, vi l3)] [] ((S, T), Y) (eqQ (some (vi x)) ((S1, T), Y)) := by
  intro n
  induction n with
  | zero => intro S l3 h; exact absurd h (by intro z; cases z)
  | succ n ih =>
    intro S l3 h
    rw [f2_leastSafe_L1] at h
    refine go_blk rfl [(.iload_n 3, 1, 3, 0, 0, .inl 0), (.bipush 60, 2, 0, 0, 0, .inl 60)] 2 5 _ _ _ (by decide +kernel) ?_
    show Go _ _ _ _ _ _ 5 [(0, rc 20), (1, rc a0), (2, vi l2), (3, vi l3)] [vi 60, vi l3] ((S, T), Y) _
    refine ite_el h (fun q1 h => ?_) (fun q1 h => ?_)
    · refine go_icmp_gt (off := 21) (tgt := 26) (by decide +kernel) (by decide) (fun _ => ?_) (fun z => absurd q1 z)
      refine go_blk rfl [(.bipush (-2), 2, 0, 0, 0, .inl (-2))] 26 28 _ _ _ (by decide +kernel) ?_
      show Go _ _ _ _ _ _ 28 [(0, rc 20), (1, rc a0), (2, vi l2), (3, vi l3)] [vi ((-2))] ((S, T), Y) _
      obtain ⟨rfl, rfl⟩ := Prod.mk.inj (Option.some.inj h)
      exact go_ireturn (by decide +kernel) rfl rfl ⟨rfl, rfl⟩
    · refine go_icmp_gt (off := 21) (tgt := 26) (by decide +kernel) (by decide) (fun z => absurd z q1) (fun _ => ?_)
      refine go_blk rfl [(.aload_n 0, 1, 0, 0, 0, .inl 0), (.aload_n 1, 1, 1, 0, 0, .inl 0), (.iload_n 2, 1, 2, 0, 0, .inl 0), (.iload_n 3, 1, 3, 0, 0, .inl 0)] 8 12 _ _ _ (by decide +kernel) ?_
      show Go _ _ _ _ _ _ 12 [(0, rc 20), (1, rc a0), (2, vi l2), (3, vi l3)] [vi l3, vi l2, rc a0, rc 20] ((S, T), Y) _
      obtain ⟨r1, hr1, h⟩ := bind_el h
      refine go_callV (idx := 75) (z := 0) (M' := M2_sitsBy) (n := 3) (A := [rc a0, vi l2, vi l3]) (v' := some (vi r1.2)) (μ' := ((r1.1, T), Y)) (d' := 5) (mc' := 0) (ms' := 0) (kc' := 0) (ks' := 0) (ci := 2) (x := .inl 20) (by decide +kernel) ml_2_75 rfl wv2_sitsBy rfl (by decide) rfl (lc_t20 hT) (ret2_sitsBy hT h0 hr1) (by decide) rfl rfl (Nat.le_of_ble_eq_true rfl) rfl (jag rfl rfl) ?_
      show Go _ _ _ _ _ _ 15 [(0, rc 20), (1, rc a0), (2, vi l2), (3, vi l3)] [vi r1.2] ((r1.1, T), Y) _
      refine ite_el h (fun q2 h => ?_) (fun q2 h => ?_)
      · refine go_if_eq (off := 5) (tgt := 20) (by decide +kernel) (by decide) (fun _ => ?_) (fun z => absurd q2 z)
        refine go_blk rfl [(.iinc 3 1, 3, 3, 0, 0, .inl 1)] 20 23 _ _ _ (by decide +kernel) ?_
        show Go _ _ _ _ _ _ 23 [(3, vi (l3 + 1)), (0, rc 20), (1, rc a0), (2, vi l2)] [] ((r1.1, T), Y) _
        refine go_goto (off := (-21)) (tgt := 2) (by decide +kernel) (by decide) ?_
        refine go_pick [1, 2, 3, 0] rfl ?_
        exact ih _ _ h
      · refine go_if_eq (off := 5) (tgt := 20) (by decide +kernel) (by decide) (fun z => absurd z q2) (fun _ => ?_)
        refine go_blk rfl [(.iload_n 3, 1, 3, 0, 0, .inl 0)] 18 19 _ _ _ (by decide +kernel) ?_
        show Go _ _ _ _ _ _ 19 [(0, rc 20), (1, rc a0), (2, vi l2), (3, vi l3)] [vi l3] ((r1.1, T), Y) _
        obtain ⟨rfl, rfl⟩ := Prod.mk.inj (Option.some.inj h)
        exact go_ireturn (by decide +kernel) rfl rfl ⟨rfl, rfl⟩
theorem ret2_leastSafe {S : jS} {T : jT} {Y : jS × jT} {a0 : Nat} {a1 : Int32} {S1 : jS} {x : Int32} (hT : LayC T) (h0 : LayHall T a0) (h : f2_leastSafe S a0 a1 = some (S1, x)) : Ret M2_leastSafe 6 0 0 [rc 20, rc a0, vi a1] ((S, T), Y) (some (vi x)) ((S1, T), Y) := by
  refine Ret.of (by decide +kernel) (Nat.le_of_ble_eq_true rfl) ?_
  unfold f2_leastSafe at h
  show Go _ _ _ _ _ _ 0 [(0, rc 20), (1, rc a0), (2, vi a1)] [] ((S, T), Y) _
  refine go_blk rfl [(.iconst 1, 1, 0, 0, 0, .inl 1), (.istore_n 3, 1, 3, 0, 0, .inl 0)] 0 2 _ _ _ (by decide +kernel) ?_
  show Go _ _ _ _ _ _ 2 [(3, vi 1), (0, rc 20), (1, rc a0), (2, vi a1)] [] ((S, T), Y) _
  refine go_pick [1, 2, 3, 0] rfl ?_
  exact f2_leastSafe_L1_ok hT h0 _ _ _ h
def f2_rowsOfRest_L1 (l2 : Int32) : Nat → jS → Int32 → Int32 → Option (jS × Int32)
  | 0, _, _, _ => none
  | n + 1, S, l3, l4 => (if l2 ≤ l4 then some (S, l3) else (if 4 ≤ l4 then some (S, l3) else (if inb l4 4 then f2_rowsOfRest_L1 l2 n (wI S 65 l4.toNatClampNeg 1) (l3 * 6) (l4 + 1) else none)))
def f2_rowsOfRest (S : jS) (a0 : Int32) (a1 : Int32) : Option (jS × Int32) := Option.bind (f2_rowsOfRest_L1 a1 jF S 1 a0) (fun y1 => Option.bind (if (y1.1.1 20 5) = 0 then some (wI (wC y1.1 65 66 0 0 4) 20 5 1) else some y1.1) (fun (y2 : jS) => some (y2, y1.2)))
theorem f2_rowsOfRest_L1_ok {T : jT} {Y : jS × jT} {l2 : Int32} {Q : Option jV → jMem → Prop} (hT : LayC T) : ∀ (n : Nat) (S : jS) (l3 : Int32) (l4 : Int32) (r : (jS × Int32)), f2_rowsOfRest_L1 l2 n S l3 l4 = some r → Go M2_rowsOfRest 2 0 0 0 0 36 [(0, rc 20), (3, vi r.2)] [] ((r.1, T), Y) Q → Go M2_rowsOfRest 2 0 0 0 0 5 [(0, rc 20), (2, vi l2), (3, vi l3), (4, vi l4)] [] ((S, T), Y) Q := by
  intro n
  induction n with
  | zero => intro S l3 l4 r h k; exact absurd h (by intro z; cases z)
  | succ n ih =>
    intro S l3 l4 r h k
    rw [f2_rowsOfRest_L1] at h
    refine go_blk rfl [(.iload 4, 2, 4, 0, 0, .inl 0), (.iload_n 2, 1, 2, 0, 0, .inl 0)] 5 8 _ _ _ (by decide +kernel) ?_
    show Go _ _ _ _ _ _ 8 [(0, rc 20), (2, vi l2), (3, vi l3), (4, vi l4)] [vi l2, vi l4] ((S, T), Y) _
    refine ite_el h (fun q1 h => ?_) (fun q1 h => ?_)
    · refine go_icmp_ge (off := 28) (tgt := 36) (by decide +kernel) (by decide) (fun _ => ?_) (fun z => absurd q1 z)
      obtain rfl := Option.some.inj h
      refine go_pick [0, 2] rfl ?_
      exact k
    · refine go_icmp_ge (off := 28) (tgt := 36) (by decide +kernel) (by decide) (fun z => absurd z q1) (fun _ => ?_)
      refine go_blk rfl [(.iload 4, 2, 4, 0, 0, .inl 0), (.iconst 4, 1, 0, 0, 0, .inl 4)] 11 14 _ _ _ (by decide +kernel) ?_
      show Go _ _ _ _ _ _ 14 [(0, rc 20), (2, vi l2), (3, vi l3), (4, vi l4)] [vi 4, vi l4] ((S, T), Y) _
      refine ite_el h (fun q2 h => ?_) (fun q2 h => ?_)
      · refine go_icmp_ge (off := 22) (tgt := 36) (by decide +kernel) (by decide) (fun _ => ?_) (fun z => absurd q2 z)
        obtain rfl := Option.some.inj h
        refine go_pick [0, 2] rfl ?_
        exact k
      · refine go_icmp_ge (off := 22) (tgt := 36) (by decide +kernel) (by decide) (fun z => absurd z q2) (fun _ => ?_)
        refine gd_el h (fun q3 h => ?_)
        refine go_blk rfl [(.aload_n 0, 1, 0, 0, 0, .inl 0), (.getfield 22, 3, 2, 3, 1, .inl 0), (.iload 4, 2, 4, 0, 0, .inl 0), (.iconst 1, 1, 0, 0, 0, .inl 1), (.iastore, 1, 20, 0, 0, .inl 0)] 17 25 _ _ _ (by decide +kernel) ?_
        refine And.intro (lc_t20 hT) (Exists.intro _ (And.intro (gRc (lc_r2_3 hT)) ?_))
        refine And.intro (lc_t65 hT) (Exists.intro _ (And.intro (lc_n65 hT) (And.intro (inb_in q3) ?_)))
        show Go _ _ _ _ _ _ 25 [(0, rc 20), (2, vi l2), (3, vi l3), (4, vi l4)] [] ((wI S 65 l4.toNatClampNeg 1, T), Y) _
        refine go_blk rfl [(.iload_n 3, 1, 3, 0, 0, .inl 0), (.bipush 6, 2, 0, 0, 0, .inl 6), (.imul, 1, 0, 0, 0, .inl 0), (.istore_n 3, 1, 3, 0, 0, .inl 0), (.iinc 4 1, 3, 4, 0, 0, .inl 1)] 25 33 _ _ _ (by decide +kernel) ?_
        show Go _ _ _ _ _ _ 33 [(4, vi (l4 + 1)), (3, vi (l3 * 6)), (0, rc 20), (2, vi l2)] [] ((wI S 65 l4.toNatClampNeg 1, T), Y) _
        refine go_goto (off := (-28)) (tgt := 5) (by decide +kernel) (by decide) ?_
        refine go_pick [2, 3, 1, 0] rfl ?_
        exact ih _ _ _ _ h k
theorem ret2_rowsOfRest {S : jS} {T : jT} {Y : jS × jT} {a0 : Int32} {a1 : Int32} {S1 : jS} {x : Int32} (hT : LayC T) (h : f2_rowsOfRest S a0 a1 = some (S1, x)) : Ret M2_rowsOfRest 2 0 0 [rc 20, vi a0, vi a1] ((S, T), Y) (some (vi x)) ((S1, T), Y) := by
  refine Ret.of (by decide +kernel) (Nat.le_of_ble_eq_true rfl) ?_
  unfold f2_rowsOfRest at h
  show Go _ _ _ _ _ _ 0 [(0, rc 20), (1, vi a0), (2, vi a1)] [] ((S, T), Y) _
  refine go_blk rfl [(.iconst 1, 1, 0, 0, 0, .inl 1), (.istore_n 3, 1, 3, 0, 0, .inl 0), (.iload_n 1, 1, 1, 0, 0, .inl 0), (.istore 4, 2, 4, 0, 0, .inl 0)] 0 5 _ _ _ (by decide +kernel) ?_
  show Go _ _ _ _ _ _ 5 [(4, vi a0), (3, vi 1), (0, rc 20), (1, vi a0), (2, vi a1)] [] ((S, T), Y) _
  refine go_pick [2, 4, 1, 0] rfl ?_
  obtain ⟨y1, hy1, h⟩ := bind_el h
  refine f2_rowsOfRest_L1_ok hT _ _ _ _ _ hy1 ?_
  show Go _ _ _ _ _ _ 36 [(0, rc 20), (3, vi y1.2)] [] ((y1.1, T), Y) _
  refine go_blk rfl [(.aload_n 0, 1, 0, 0, 0, .inl 0), (.getfield 29, 3, 2, 5, 2, .inl 0)] 36 40 _ _ _ (by decide +kernel) ?_
  refine And.intro (lc_t20 hT) ?_
  show Go _ _ _ _ _ _ 40 [(0, rc 20), (3, vi y1.2)] [vi (y1.1.1 20 5)] ((y1.1, T), Y) _
  obtain ⟨y2, hy2, h⟩ := bind_el h
  have key : Go M2_rowsOfRest 2 0 0 0 0 62 [(3, vi y1.2)] [] ((y2, T), Y) (eqQ (some (vi x)) ((S1, T), Y)) := by
    refine go_blk rfl [(.iload_n 3, 1, 3, 0, 0, .inl 0)] 62 63 _ _ _ (by decide +kernel) ?_
    show Go _ _ _ _ _ _ 63 [(3, vi y1.2)] [vi y1.2] ((y2, T), Y) _
    obtain ⟨rfl, rfl⟩ := Prod.mk.inj (Option.some.inj h)
    exact go_ireturn (by decide +kernel) rfl rfl ⟨rfl, rfl⟩
  replace h := hy2
  refine ite_el h (fun q4 h => ?_) (fun q4 h => ?_)
  · refine go_if_ne (off := 22) (tgt := 62) (by decide +kernel) (by decide) (fun z => absurd q4 z) (fun _ => ?_)
    refine go_blk rfl [(.aload_n 0, 1, 0, 0, 0, .inl 0), (.getfield 22, 3, 2, 3, 1, .inl 0), (.iconst 0, 1, 0, 0, 0, .inl 0), (.aload_n 0, 1, 0, 0, 0, .inl 0), (.getfield 26, 3, 2, 4, 1, .inl 0), (.iconst 0, 1, 0, 0, 0, .inl 0), (.iconst 4, 1, 0, 0, 0, .inl 4)] 43 54 _ _ _ (by decide +kernel) ?_
    refine And.intro (lc_t20 hT) (Exists.intro _ (And.intro (gRc (lc_r2_3 hT)) ?_))
    refine And.intro (lc_t20 hT) (Exists.intro _ (And.intro (gRc (lc_r2_4 hT)) ?_))
    show Go _ _ _ _ _ _ 54 [(0, rc 20), (3, vi y1.2)] [vi 4, vi 0, rc 66, vi 0, rc 65] ((y1.1, T), Y) _
    refine go_acopy (idx := 87) (sp := 0) (dp := 0) (n := 4) (by decide +kernel) al_2_87 rfl (lc_t65 hT) (lc_t66 hT) (lc_n65 hT) (lc_n66 hT) (by decide) (by decide) (by decide) (by decide) (by decide) (by decide) (Nat.le_of_ble_eq_true rfl) ?_
    show Go _ _ _ _ _ _ 57 [(0, rc 20), (3, vi y1.2)] [] ((wC y1.1 65 66 0 0 4, T), Y) _
    refine go_blk rfl [(.aload_n 0, 1, 0, 0, 0, .inl 0), (.iconst 1, 1, 0, 0, 0, .inl 1), (.putfield 29, 3, 2, 5, 2, .inl 0)] 57 62 _ _ _ (by decide +kernel) ?_
    refine And.intro (lc_t20 hT) (And.intro ⟨rfl, Or.inr rfl⟩ ?_)
    show Go _ _ _ _ _ _ 62 [(0, rc 20), (3, vi y1.2)] [] ((wI (wC y1.1 65 66 0 0 4) 20 5 1, T), Y) _
    obtain rfl := Option.some.inj h
    refine go_pick [1] rfl ?_
    exact key
  · refine go_if_ne (off := 22) (tgt := 62) (by decide +kernel) (by decide) (fun _ => ?_) (fun z => absurd z q4)
    obtain rfl := Option.some.inj h
    refine go_pick [1] rfl ?_
    exact key
def f2_sitsFromTrial_L1 (T : jT) (a0 : Option Nat) (l2 : Int32) (l3 : Int32) : Nat → jS → Int32 → Int32 → Option (jS × Int32)
  | 0, _, _, _ => none
  | n + 1, S, l4, l5 => (if l3 ≤ l5 then some (S, l4) else Option.bind (f4_isOver S 21) (fun r1 => (if r1 = 0 then Option.bind (f3_roundBy T S 21 a0) (fun r2 => f2_sitsFromTrial_L1 T a0 l2 l3 n r2.1 (l4 + ((r2.2 >>> (l2 &&& 31)) &&& 1)) (l5 + 1)) else some (S, l4))))
def f2_sitsFromTrial (T : jT) (S : jS) (a0 : Option Nat) (a1 : Int32) (a2 : Int32) : Option (jS × Int32) := Option.bind (f2_sitsFromTrial_L1 T a0 a1 a2 jF S 0 0) (fun y3 => some (y3.1, y3.2))
theorem f2_sitsFromTrial_L1_ok {T : jT} {Y : jS × jT} {a0 : Option Nat} {l2 : Int32} {l3 : Int32} {Q : Option jV → jMem → Prop} (hT : LayC T) (h0 : ∀ q, a0 = some q → LayRule T q) : ∀ (n : Nat) (S : jS) (l4 : Int32) (l5 : Int32) (r : (jS × Int32)), f2_sitsFromTrial_L1 T a0 l2 l3 n S l4 l5 = some r → Go M2_sitsFromTrial 6 0 0 0 0 49 [(4, vi r.2)] [] ((r.1, T), Y) Q → Go M2_sitsFromTrial 6 0 0 0 0 6 [(0, rc 20), (1, vo a0), (2, vi l2), (3, vi l3), (4, vi l4), (5, vi l5)] [] ((S, T), Y) Q := by
  intro n
  induction n with
  | zero => intro S l4 l5 r h k; exact absurd h (by intro z; cases z)
  | succ n ih =>
    intro S l4 l5 r h k
    rw [f2_sitsFromTrial_L1] at h
    refine go_blk rfl [(.iload 5, 2, 5, 0, 0, .inl 0), (.iload_n 3, 1, 3, 0, 0, .inl 0)] 6 9 _ _ _ (by decide +kernel) ?_
    show Go _ _ _ _ _ _ 9 [(0, rc 20), (1, vo a0), (2, vi l2), (3, vi l3), (4, vi l4), (5, vi l5)] [vi l3, vi l5] ((S, T), Y) _
    refine ite_el h (fun q1 h => ?_) (fun q1 h => ?_)
    · refine go_icmp_ge (off := 40) (tgt := 49) (by decide +kernel) (by decide) (fun _ => ?_) (fun z => absurd q1 z)
      obtain rfl := Option.some.inj h
      refine go_pick [4] rfl ?_
      exact k
    · refine go_icmp_ge (off := 40) (tgt := 49) (by decide +kernel) (by decide) (fun z => absurd z q1) (fun _ => ?_)
      refine go_blk rfl [(.aload_n 0, 1, 0, 0, 0, .inl 0), (.getfield 12, 3, 2, 1, 1, .inl 0)] 12 16 _ _ _ (by decide +kernel) ?_
      refine And.intro (lc_t20 hT) (Exists.intro _ (And.intro (gRc (lc_r2_1 hT)) ?_))
      show Go _ _ _ _ _ _ 16 [(0, rc 20), (1, vo a0), (2, vi l2), (3, vi l3), (4, vi l4), (5, vi l5)] [rc 21] ((S, T), Y) _
      obtain ⟨r1, hr1, h⟩ := bind_el h
      refine go_callV (idx := 60) (z := 1) (M' := M4_isOver) (n := 0) (A := []) (v' := some (vi r1)) (μ' := ((S, T), Y)) (d' := 2) (mc' := 0) (ms' := 0) (kc' := 0) (ks' := 0) (ci := 4) (x := .inl 21) (by decide +kernel) ml_2_60 rfl wv4_isOver rfl (by decide) rfl (lc_h21 hT).1 (ret4_isOver (lc_h21 hT) hr1) (by decide) rfl rfl (Nat.le_of_ble_eq_true rfl) rfl (jag rfl rfl) ?_
      show Go _ _ _ _ _ _ 19 [(0, rc 20), (1, vo a0), (2, vi l2), (3, vi l3), (4, vi l4), (5, vi l5)] [vi r1] ((S, T), Y) _
      refine ite_el h (fun q2 h => ?_) (fun q2 h => ?_)
      · refine go_if_ne (off := 30) (tgt := 49) (by decide +kernel) (by decide) (fun z => absurd q2 z) (fun _ => ?_)
        refine go_blk rfl [(.iload 4, 2, 4, 0, 0, .inl 0), (.aload_n 0, 1, 0, 0, 0, .inl 0), (.getfield 46, 3, 2, 0, 1, .inl 0), (.aload_n 0, 1, 0, 0, 0, .inl 0), (.getfield 12, 3, 2, 1, 1, .inl 0), (.aload_n 1, 1, 1, 0, 0, .inl 0)] 22 33 _ _ _ (by decide +kernel) ?_
        refine And.intro (lc_t20 hT) (Exists.intro _ (And.intro (gRc (lc_r2_0 hT)) ?_))
        refine And.intro (lc_t20 hT) (Exists.intro _ (And.intro (gRc (lc_r2_1 hT)) ?_))
        show Go _ _ _ _ _ _ 33 [(0, rc 20), (1, vo a0), (2, vi l2), (3, vi l3), (4, vi l4), (5, vi l5)] [vo a0, rc 21, rc 17, vi l4] ((S, T), Y) _
        obtain ⟨r2, hr2, h⟩ := bind_el h
        refine go_callV (idx := 54) (z := 1) (M' := M3_roundBy) (n := 2) (A := [rc 21, vo a0]) (v' := some (vi r2.2)) (μ' := ((r2.1, T), Y)) (d' := 5) (mc' := 0) (ms' := 0) (kc' := 0) (ks' := 0) (ci := 3) (x := .inl 17) (by decide +kernel) ml_2_54 rfl wv3_roundBy rfl (by decide) rfl (lc_t17 hT) (ret3_roundBy hT (lc_h21 hT) h0 hr2) (by decide) rfl rfl (Nat.le_of_ble_eq_true rfl) rfl (jag rfl rfl) ?_
        show Go _ _ _ _ _ _ 36 [(0, rc 20), (1, vo a0), (2, vi l2), (3, vi l3), (4, vi l4), (5, vi l5)] [vi r2.2, vi l4] ((r2.1, T), Y) _
        refine go_blk rfl [(.iload_n 2, 1, 2, 0, 0, .inl 0), (.ishr, 1, 0, 0, 0, .inl 0), (.iconst 1, 1, 0, 0, 0, .inl 1), (.iand, 1, 0, 0, 0, .inl 0), (.iadd, 1, 0, 0, 0, .inl 0), (.istore 4, 2, 4, 0, 0, .inl 0), (.iinc 5 1, 3, 5, 0, 0, .inl 1)] 36 46 _ _ _ (by decide +kernel) ?_
        show Go _ _ _ _ _ _ 46 [(5, vi (l5 + 1)), (4, vi (l4 + ((r2.2 >>> (l2 &&& 31)) &&& 1))), (0, rc 20), (1, vo a0), (2, vi l2), (3, vi l3)] [] ((r2.1, T), Y) _
        refine go_goto (off := (-40)) (tgt := 6) (by decide +kernel) (by decide) ?_
        refine go_pick [2, 3, 4, 5, 1, 0] rfl ?_
        exact ih _ _ _ _ h k
      · refine go_if_ne (off := 30) (tgt := 49) (by decide +kernel) (by decide) (fun _ => ?_) (fun z => absurd z q2)
        obtain rfl := Option.some.inj h
        refine go_pick [4] rfl ?_
        exact k
theorem ret2_sitsFromTrial {S : jS} {T : jT} {Y : jS × jT} {a0 : Option Nat} {a1 : Int32} {a2 : Int32} {S1 : jS} {x : Int32} (hT : LayC T) (h0 : ∀ q, a0 = some q → LayRule T q) (h : f2_sitsFromTrial T S a0 a1 a2 = some (S1, x)) : Ret M2_sitsFromTrial 6 0 0 [rc 20, vo a0, vi a1, vi a2] ((S, T), Y) (some (vi x)) ((S1, T), Y) := by
  refine Ret.of (by decide +kernel) (Nat.le_of_ble_eq_true rfl) ?_
  unfold f2_sitsFromTrial at h
  show Go _ _ _ _ _ _ 0 [(0, rc 20), (1, vo a0), (2, vi a1), (3, vi a2)] [] ((S, T), Y) _
  refine go_blk rfl [(.iconst 0, 1, 0, 0, 0, .inl 0), (.istore 4, 2, 4, 0, 0, .inl 0), (.iconst 0, 1, 0, 0, 0, .inl 0), (.istore 5, 2, 5, 0, 0, .inl 0)] 0 6 _ _ _ (by decide +kernel) ?_
  show Go _ _ _ _ _ _ 6 [(5, vi 0), (4, vi 0), (0, rc 20), (1, vo a0), (2, vi a1), (3, vi a2)] [] ((S, T), Y) _
  refine go_pick [2, 3, 4, 5, 1, 0] rfl ?_
  obtain ⟨y3, hy3, h⟩ := bind_el h
  refine f2_sitsFromTrial_L1_ok hT h0 _ _ _ _ _ hy3 ?_
  show Go _ _ _ _ _ _ 49 [(4, vi y3.2)] [] ((y3.1, T), Y) _
  refine go_blk rfl [(.iload 4, 2, 4, 0, 0, .inl 0)] 49 51 _ _ _ (by decide +kernel) ?_
  show Go _ _ _ _ _ _ 51 [(4, vi y3.2)] [vi y3.2] ((y3.1, T), Y) _
  obtain ⟨rfl, rfl⟩ := Prod.mk.inj (Option.some.inj h)
  exact go_ireturn (by decide +kernel) rfl rfl ⟨rfl, rfl⟩
def f2_offer (S : jS) (a0 : Int32) (a1 : Int32) : Option (jS × Unit) := (if a1 ≤ (S.1 20 9) then some (S, ()) else some (wI (wI S 20 8 a0) 20 9 a1, ()))
theorem ret2_offer {S : jS} {T : jT} {Y : jS × jT} {a0 : Int32} {a1 : Int32} {S1 : jS} {x : Unit} (hT : LayC T) (h : f2_offer S a0 a1 = some (S1, x)) : Ret M2_offer 1 0 0 [rc 20, vi a0, vi a1] ((S, T), Y) (none) ((S1, T), Y) := by
  refine Ret.of (by decide +kernel) (Nat.le_of_ble_eq_true rfl) ?_
  unfold f2_offer at h
  show Go _ _ _ _ _ _ 0 [(0, rc 20), (1, vi a0), (2, vi a1)] [] ((S, T), Y) _
  refine go_blk rfl [(.iload_n 2, 1, 2, 0, 0, .inl 0), (.aload_n 0, 1, 0, 0, 0, .inl 0), (.getfield 43, 3, 2, 9, 0, .inl 0)] 0 5 _ _ _ (by decide +kernel) ?_
  refine And.intro (lc_t20 hT) ?_
  show Go _ _ _ _ _ _ 5 [(0, rc 20), (1, vi a0), (2, vi a1)] [vi (S.1 20 9), vi a1] ((S, T), Y) _
  refine ite_el h (fun q1 h => ?_) (fun q1 h => ?_)
  · refine go_icmp_le (off := 13) (tgt := 18) (by decide +kernel) (by decide) (fun _ => ?_) (fun z => absurd q1 z)
    obtain ⟨rfl, rfl⟩ := Prod.mk.inj (Option.some.inj h)
    exact go_return (by decide +kernel) rfl ⟨rfl, rfl⟩
  · refine go_icmp_le (off := 13) (tgt := 18) (by decide +kernel) (by decide) (fun z => absurd z q1) (fun _ => ?_)
    refine go_blk rfl [(.aload_n 0, 1, 0, 0, 0, .inl 0), (.iload_n 1, 1, 1, 0, 0, .inl 0), (.putfield 39, 3, 2, 8, 0, .inl 0)] 8 13 _ _ _ (by decide +kernel) ?_
    refine And.intro (lc_t20 hT) (And.intro trivial ?_)
    show Go _ _ _ _ _ _ 13 [(0, rc 20), (1, vi a0), (2, vi a1)] [] ((wI S 20 8 a0, T), Y) _
    refine go_blk rfl [(.aload_n 0, 1, 0, 0, 0, .inl 0), (.iload_n 2, 1, 2, 0, 0, .inl 0), (.putfield 43, 3, 2, 9, 0, .inl 0)] 13 18 _ _ _ (by decide +kernel) ?_
    refine And.intro (lc_t20 hT) (And.intro trivial ?_)
    show Go _ _ _ _ _ _ 18 [(0, rc 20), (1, vi a0), (2, vi a1)] [] ((wI (wI S 20 8 a0) 20 9 a1, T), Y) _
    obtain ⟨rfl, rfl⟩ := Prod.mk.inj (Option.some.inj h)
    exact go_return (by decide +kernel) rfl ⟨rfl, rfl⟩
def f4_hasChair (S : jS) (o : Nat) (a0 : Int32) : Option Int32 := (if a0 < 0 then some 0 else (if (S.1 o 1) ≤ a0 then some 0 else some 1))
theorem ret4_hasChair {S : jS} {T : jT} {Y : jS × jT} {o : Nat} {a0 : Int32} {x : Int32} (hh : LayHall T o) (h : f4_hasChair S o a0 = some x) : Ret M4_hasChair 1 0 0 [rc o, vi a0] ((S, T), Y) (some (vi x)) ((S, T), Y) := by
  refine Ret.of (by decide +kernel) (Nat.le_of_ble_eq_true rfl) ?_
  unfold f4_hasChair at h
  show Go _ _ _ _ _ _ 0 [(0, rc o), (1, vi a0)] [] ((S, T), Y) _
  refine go_blk rfl [(.iload_n 1, 1, 1, 0, 0, .inl 0)] 0 1 _ _ _ (by decide +kernel) ?_
  show Go _ _ _ _ _ _ 1 [(0, rc o), (1, vi a0)] [vi a0] ((S, T), Y) _
  refine ite_el h (fun q1 h => ?_) (fun q1 h => ?_)
  · refine go_if_lt (off := 15) (tgt := 16) (by decide +kernel) (by decide) (fun _ => ?_) (fun z => absurd q1 z)
    refine go_blk rfl [(.iconst 0, 1, 0, 0, 0, .inl 0)] 16 17 _ _ _ (by decide +kernel) ?_
    show Go _ _ _ _ _ _ 17 [(0, rc o), (1, vi a0)] [vi 0] ((S, T), Y) _
    obtain rfl := Option.some.inj h
    exact go_ireturn (by decide +kernel) rfl rfl ⟨rfl, rfl⟩
  · refine go_if_lt (off := 15) (tgt := 16) (by decide +kernel) (by decide) (fun z => absurd z q1) (fun _ => ?_)
    refine go_blk rfl [(.iload_n 1, 1, 1, 0, 0, .inl 0), (.aload_n 0, 1, 0, 0, 0, .inl 0), (.getfield 15, 3, 4, 1, 0, .inl 0)] 4 9 _ _ _ (by decide +kernel) ?_
    refine And.intro hh.1 ?_
    show Go _ _ _ _ _ _ 9 [(0, rc o), (1, vi a0)] [vi (S.1 o 1), vi a0] ((S, T), Y) _
    refine ite_el h (fun q2 h => ?_) (fun q2 h => ?_)
    · refine go_icmp_ge (off := 7) (tgt := 16) (by decide +kernel) (by decide) (fun _ => ?_) (fun z => absurd q2 z)
      refine go_blk rfl [(.iconst 0, 1, 0, 0, 0, .inl 0)] 16 17 _ _ _ (by decide +kernel) ?_
      show Go _ _ _ _ _ _ 17 [(0, rc o), (1, vi a0)] [vi 0] ((S, T), Y) _
      obtain rfl := Option.some.inj h
      exact go_ireturn (by decide +kernel) rfl rfl ⟨rfl, rfl⟩
    · refine go_icmp_ge (off := 7) (tgt := 16) (by decide +kernel) (by decide) (fun z => absurd z q2) (fun _ => ?_)
      refine go_blk rfl [(.iconst 1, 1, 0, 0, 0, .inl 1)] 12 13 _ _ _ (by decide +kernel) ?_
      show Go _ _ _ _ _ _ 13 [(0, rc o), (1, vi a0)] [vi 1] ((S, T), Y) _
      refine go_goto (off := 4) (tgt := 17) (by decide +kernel) (by decide) ?_
      obtain rfl := Option.some.inj h
      exact go_ireturn (by decide +kernel) rfl rfl ⟨rfl, rfl⟩
def f4_isThere (S : jS) (o : Nat) (a0 : Int32) : Option Int32 := Option.bind (f4_hasChair S o a0) (fun r1 => (if r1 = 0 then some 0 else (if (((S.1 o 3) >>> (a0 &&& 31)) &&& 1) = 1 then some 1 else some 0)))
theorem ret4_isThere {S : jS} {T : jT} {Y : jS × jT} {o : Nat} {a0 : Int32} {x : Int32} (hh : LayHall T o) (h : f4_isThere S o a0 = some x) : Ret M4_isThere 2 0 0 [rc o, vi a0] ((S, T), Y) (some (vi x)) ((S, T), Y) := by
  refine Ret.of (by decide +kernel) (Nat.le_of_ble_eq_true rfl) ?_
  unfold f4_isThere at h
  show Go _ _ _ _ _ _ 0 [(0, rc o), (1, vi a0)] [] ((S, T), Y) _
  refine go_blk rfl [(.aload_n 0, 1, 0, 0, 0, .inl 0), (.iload_n 1, 1, 1, 0, 0, .inl 0)] 0 2 _ _ _ (by decide +kernel) ?_
  show Go _ _ _ _ _ _ 2 [(0, rc o), (1, vi a0)] [vi a0, rc o] ((S, T), Y) _
  obtain ⟨r1, hr1, h⟩ := bind_el h
  refine go_callV (idx := 67) (z := 0) (M' := M4_hasChair) (n := 1) (A := [vi a0]) (v' := some (vi r1)) (μ' := ((S, T), Y)) (d' := 1) (mc' := 0) (ms' := 0) (kc' := 0) (ks' := 0) (ci := 4) (x := .inl o) (by decide +kernel) ml_4_67 rfl wv4_hasChair rfl (by decide) rfl hh.1 (ret4_hasChair hh hr1) (by decide) rfl rfl (Nat.le_of_ble_eq_true rfl) rfl (jag rfl rfl) ?_
  show Go _ _ _ _ _ _ 5 [(0, rc o), (1, vi a0)] [vi r1] ((S, T), Y) _
  refine ite_el h (fun q1 h => ?_) (fun q1 h => ?_)
  · refine go_if_eq (off := 19) (tgt := 24) (by decide +kernel) (by decide) (fun _ => ?_) (fun z => absurd q1 z)
    refine go_blk rfl [(.iconst 0, 1, 0, 0, 0, .inl 0)] 24 25 _ _ _ (by decide +kernel) ?_
    show Go _ _ _ _ _ _ 25 [(0, rc o), (1, vi a0)] [vi 0] ((S, T), Y) _
    obtain rfl := Option.some.inj h
    exact go_ireturn (by decide +kernel) rfl rfl ⟨rfl, rfl⟩
  · refine go_if_eq (off := 19) (tgt := 24) (by decide +kernel) (by decide) (fun z => absurd z q1) (fun _ => ?_)
    refine go_blk rfl [(.aload_n 0, 1, 0, 0, 0, .inl 0), (.getfield 21, 3, 4, 3, 0, .inl 0), (.iload_n 1, 1, 1, 0, 0, .inl 0), (.ishr, 1, 0, 0, 0, .inl 0), (.iconst 1, 1, 0, 0, 0, .inl 1), (.iand, 1, 0, 0, 0, .inl 0), (.iconst 1, 1, 0, 0, 0, .inl 1)] 8 17 _ _ _ (by decide +kernel) ?_
    refine And.intro hh.1 ?_
    show Go _ _ _ _ _ _ 17 [(0, rc o), (1, vi a0)] [vi 1, vi (((S.1 o 3) >>> (a0 &&& 31)) &&& 1)] ((S, T), Y) _
    refine ite_el h (fun q2 h => ?_) (fun q2 h => ?_)
    · refine go_icmp_ne (off := 7) (tgt := 24) (by decide +kernel) (by decide) (fun z => absurd q2 z) (fun _ => ?_)
      refine go_blk rfl [(.iconst 1, 1, 0, 0, 0, .inl 1)] 20 21 _ _ _ (by decide +kernel) ?_
      show Go _ _ _ _ _ _ 21 [(0, rc o), (1, vi a0)] [vi 1] ((S, T), Y) _
      refine go_goto (off := 4) (tgt := 25) (by decide +kernel) (by decide) ?_
      obtain rfl := Option.some.inj h
      exact go_ireturn (by decide +kernel) rfl rfl ⟨rfl, rfl⟩
    · refine go_icmp_ne (off := 7) (tgt := 24) (by decide +kernel) (by decide) (fun _ => ?_) (fun z => absurd z q2)
      refine go_blk rfl [(.iconst 0, 1, 0, 0, 0, .inl 0)] 24 25 _ _ _ (by decide +kernel) ?_
      show Go _ _ _ _ _ _ 25 [(0, rc o), (1, vi a0)] [vi 0] ((S, T), Y) _
      obtain rfl := Option.some.inj h
      exact go_ireturn (by decide +kernel) rfl rfl ⟨rfl, rfl⟩
def f2_chooseChair_L1 (T : jT) (a0 : Nat) (a1 : Option Nat) (l3 : Int32) (l4 : Int32) : Nat → jS → Int32 → Option jS
  | 0, _, _ => none
  | n + 1, S, l5 => (if (S.1 a0 1) ≤ l5 then some S else Option.bind (f4_isThere S a0 l5) (fun r3 => Option.bind (if r3 = 0 then some S else Option.bind (f4_copyFrom S 21 a0) (fun r4 => Option.bind (f2_sitsFromTrial T (wI r4.1 21 3 ((r4.1.1 21 3) &&& (((1 : Int32) <<< (l5 &&& 31)) ^^^ ((-1))))) a1 l3 l4) (fun r5 => Option.bind (f2_offer r5.1 l5 r5.2) (fun r6 => some r6.1)))) (fun (y7 : jS) => f2_chooseChair_L1 T a0 a1 l3 l4 n y7 (l5 + 1))))
def f2_chooseChair (T : jT) (S : jS) (a0 : Nat) (a1 : Option Nat) (a2 : Int32) (a3 : Int32) : Option (jS × Unit) := Option.bind (f4_copyFrom S 21 a0) (fun r1 => Option.bind (f2_sitsFromTrial T (wI r1.1 20 8 ((-1))) a1 a2 a3) (fun r2 => Option.bind (f2_chooseChair_L1 T a0 a1 a2 a3 jF (wI r2.1 20 9 r2.2) 0) (fun y8 => some (y8, ()))))
theorem f2_chooseChair_L1_ok {T : jT} {Y : jS × jT} {a0 : Nat} {a1 : Option Nat} {l3 : Int32} {l4 : Int32} {Q : Option jV → jMem → Prop} (hT : LayC T) (h0 : LayHall T a0) (h1 : ∀ q, a1 = some q → LayRule T q) : ∀ (n : Nat) (S : jS) (l5 : Int32) (r : jS), f2_chooseChair_L1 T a0 a1 l3 l4 n S l5 = some r → Go M2_chooseChair 7 0 0 0 0 92 [] [] ((r, T), Y) Q → Go M2_chooseChair 7 0 0 0 0 28 [(0, rc 20), (1, rc a0), (2, vo a1), (3, vi l3), (4, vi l4), (5, vi l5)] [] ((S, T), Y) Q := by
  intro n
  induction n with
  | zero => intro S l5 r h k; exact absurd h (by intro z; cases z)
  | succ n ih =>
    intro S l5 r h k
    rw [f2_chooseChair_L1] at h
    refine go_blk rfl [(.iload 5, 2, 5, 0, 0, .inl 0), (.aload_n 1, 1, 1, 0, 0, .inl 0), (.getfield 97, 3, 4, 1, 0, .inl 0)] 28 34 _ _ _ (by decide +kernel) ?_
    refine And.intro h0.1 ?_
    show Go _ _ _ _ _ _ 34 [(0, rc 20), (1, rc a0), (2, vo a1), (3, vi l3), (4, vi l4), (5, vi l5)] [vi (S.1 a0 1), vi l5] ((S, T), Y) _
    refine ite_el h (fun q1 h => ?_) (fun q1 h => ?_)
    · refine go_icmp_ge (off := 58) (tgt := 92) (by decide +kernel) (by decide) (fun _ => ?_) (fun z => absurd q1 z)
      obtain rfl := Option.some.inj h
      refine go_pick [] rfl ?_
      exact k
    · refine go_icmp_ge (off := 58) (tgt := 92) (by decide +kernel) (by decide) (fun z => absurd z q1) (fun _ => ?_)
      refine go_blk rfl [(.aload_n 1, 1, 1, 0, 0, .inl 0), (.iload 5, 2, 5, 0, 0, .inl 0)] 37 40 _ _ _ (by decide +kernel) ?_
      show Go _ _ _ _ _ _ 40 [(0, rc 20), (1, rc a0), (2, vo a1), (3, vi l3), (4, vi l4), (5, vi l5)] [vi l5, rc a0] ((S, T), Y) _
      obtain ⟨r3, hr3, h⟩ := bind_el h
      refine go_callV (idx := 100) (z := 1) (M' := M4_isThere) (n := 1) (A := [vi l5]) (v' := some (vi r3)) (μ' := ((S, T), Y)) (d' := 2) (mc' := 0) (ms' := 0) (kc' := 0) (ks' := 0) (ci := 4) (x := .inl a0) (by decide +kernel) ml_2_100 rfl wv4_isThere rfl (by decide) rfl h0.1 (ret4_isThere h0 hr3) (by decide) rfl rfl (Nat.le_of_ble_eq_true rfl) rfl (jag rfl rfl) ?_
      show Go _ _ _ _ _ _ 43 [(0, rc 20), (1, rc a0), (2, vo a1), (3, vi l3), (4, vi l4), (5, vi l5)] [vi r3] ((S, T), Y) _
      obtain ⟨y7, hy7, h⟩ := bind_el h
      have key : Go M2_chooseChair 7 0 0 0 0 86 [(0, rc 20), (1, rc a0), (2, vo a1), (3, vi l3), (4, vi l4), (5, vi l5)] [] ((y7, T), Y) Q := by
        refine go_blk rfl [(.iinc 5 1, 3, 5, 0, 0, .inl 1)] 86 89 _ _ _ (by decide +kernel) ?_
        show Go _ _ _ _ _ _ 89 [(5, vi (l5 + 1)), (0, rc 20), (1, rc a0), (2, vo a1), (3, vi l3), (4, vi l4)] [] ((y7, T), Y) _
        refine go_goto (off := (-61)) (tgt := 28) (by decide +kernel) (by decide) ?_
        refine go_pick [1, 2, 3, 4, 5, 0] rfl ?_
        exact ih _ _ _ h k
      replace h := hy7
      refine ite_el h (fun q2 h => ?_) (fun q2 h => ?_)
      · refine go_if_eq (off := 43) (tgt := 86) (by decide +kernel) (by decide) (fun _ => ?_) (fun z => absurd q2 z)
        obtain rfl := Option.some.inj h
        refine go_pick [0, 1, 2, 3, 4, 5] rfl ?_
        exact key
      · refine go_if_eq (off := 43) (tgt := 86) (by decide +kernel) (by decide) (fun z => absurd z q2) (fun _ => ?_)
        refine go_blk rfl [(.aload_n 0, 1, 0, 0, 0, .inl 0), (.getfield 12, 3, 2, 1, 1, .inl 0), (.aload_n 1, 1, 1, 0, 0, .inl 0)] 46 51 _ _ _ (by decide +kernel) ?_
        refine And.intro (lc_t20 hT) (Exists.intro _ (And.intro (gRc (lc_r2_1 hT)) ?_))
        show Go _ _ _ _ _ _ 51 [(0, rc 20), (1, rc a0), (2, vo a1), (3, vi l3), (4, vi l4), (5, vi l5)] [rc a0, rc 21] ((S, T), Y) _
        obtain ⟨r4, hr4, h⟩ := bind_el h
        refine go_callV (idx := 50) (z := 1) (M' := M4_copyFrom) (n := 1) (A := [rc a0]) (v' := none) (μ' := ((r4.1, T), Y)) (d' := 2) (mc' := 0) (ms' := 0) (kc' := 0) (ks' := 0) (ci := 4) (x := .inl 21) (by decide +kernel) ml_2_50 rfl wv4_copyFrom rfl (by decide) rfl (lc_h21 hT).1 (ret4_copyFrom (lc_h21 hT) h0 hr4) (by decide) rfl rfl (Nat.le_of_ble_eq_true rfl) rfl (jag rfl rfl) ?_
        show Go _ _ _ _ _ _ 54 [(0, rc 20), (1, rc a0), (2, vo a1), (3, vi l3), (4, vi l4), (5, vi l5)] [] ((r4.1, T), Y) _
        refine go_blk rfl [(.aload_n 0, 1, 0, 0, 0, .inl 0), (.getfield 12, 3, 2, 1, 1, .inl 0), (.dup, 1, 0, 0, 0, .inl 0), (.getfield 103, 3, 4, 3, 0, .inl 0), (.iconst 1, 1, 0, 0, 0, .inl 1), (.iload 5, 2, 5, 0, 0, .inl 0), (.ishl, 1, 0, 0, 0, .inl 0), (.iconst (-1), 1, 0, 0, 0, .inl (-1)), (.ixor, 1, 0, 0, 0, .inl 0), (.iand, 1, 0, 0, 0, .inl 0), (.putfield 103, 3, 4, 3, 0, .inl 0)] 54 72 _ _ _ (by decide +kernel) ?_
        refine And.intro (lc_t20 hT) (Exists.intro _ (And.intro (gRc (lc_r2_1 hT)) ?_))
        refine And.intro (lc_h21 hT).1 ?_
        refine And.intro (lc_h21 hT).1 (And.intro trivial ?_)
        show Go _ _ _ _ _ _ 72 [(0, rc 20), (1, rc a0), (2, vo a1), (3, vi l3), (4, vi l4), (5, vi l5)] [] ((wI r4.1 21 3 ((r4.1.1 21 3) &&& (((1 : Int32) <<< (l5 &&& 31)) ^^^ ((-1)))), T), Y) _
        refine go_blk rfl [(.aload_n 0, 1, 0, 0, 0, .inl 0), (.iload 5, 2, 5, 0, 0, .inl 0), (.aload_n 0, 1, 0, 0, 0, .inl 0), (.aload_n 2, 1, 2, 0, 0, .inl 0), (.iload_n 3, 1, 3, 0, 0, .inl 0), (.iload 4, 2, 4, 0, 0, .inl 0)] 72 80 _ _ _ (by decide +kernel) ?_
        show Go _ _ _ _ _ _ 80 [(0, rc 20), (1, rc a0), (2, vo a1), (3, vi l3), (4, vi l4), (5, vi l5)] [vi l4, vi l3, vo a1, rc 20, vi l5, rc 20] ((wI r4.1 21 3 ((r4.1.1 21 3) &&& (((1 : Int32) <<< (l5 &&& 31)) ^^^ ((-1)))), T), Y) _
        obtain ⟨r5, hr5, h⟩ := bind_el h
        refine go_callV (idx := 93) (z := 0) (M' := M2_sitsFromTrial) (n := 3) (A := [vo a1, vi l3, vi l4]) (v' := some (vi r5.2)) (μ' := ((r5.1, T), Y)) (d' := 6) (mc' := 0) (ms' := 0) (kc' := 0) (ks' := 0) (ci := 2) (x := .inl 20) (by decide +kernel) ml_2_93 rfl wv2_sitsFromTrial rfl (by decide) rfl (lc_t20 hT) (ret2_sitsFromTrial hT h1 hr5) (by decide) rfl rfl (Nat.le_of_ble_eq_true rfl) rfl (jag rfl rfl) ?_
        show Go _ _ _ _ _ _ 83 [(0, rc 20), (1, rc a0), (2, vo a1), (3, vi l3), (4, vi l4), (5, vi l5)] [vi r5.2, vi l5, rc 20] ((r5.1, T), Y) _
        obtain ⟨r6, hr6, h⟩ := bind_el h
        refine go_callV (idx := 106) (z := 0) (M' := M2_offer) (n := 2) (A := [vi l5, vi r5.2]) (v' := none) (μ' := ((r6.1, T), Y)) (d' := 1) (mc' := 0) (ms' := 0) (kc' := 0) (ks' := 0) (ci := 2) (x := .inl 20) (by decide +kernel) ml_2_106 rfl wv2_offer rfl (by decide) rfl (lc_t20 hT) (ret2_offer hT hr6) (by decide) rfl rfl (Nat.le_of_ble_eq_true rfl) rfl (jag rfl rfl) ?_
        show Go _ _ _ _ _ _ 86 [(0, rc 20), (1, rc a0), (2, vo a1), (3, vi l3), (4, vi l4), (5, vi l5)] [] ((r6.1, T), Y) _
        obtain rfl := Option.some.inj h
        refine go_pick [0, 1, 2, 3, 4, 5] rfl ?_
        exact key
theorem ret2_chooseChair {S : jS} {T : jT} {Y : jS × jT} {a0 : Nat} {a1 : Option Nat} {a2 : Int32} {a3 : Int32} {S1 : jS} {x : Unit} (hT : LayC T) (h0 : LayHall T a0) (h1 : ∀ q, a1 = some q → LayRule T q) (h : f2_chooseChair T S a0 a1 a2 a3 = some (S1, x)) : Ret M2_chooseChair 7 0 0 [rc 20, rc a0, vo a1, vi a2, vi a3] ((S, T), Y) (none) ((S1, T), Y) := by
  refine Ret.of (by decide +kernel) (Nat.le_of_ble_eq_true rfl) ?_
  unfold f2_chooseChair at h
  show Go _ _ _ _ _ _ 0 [(0, rc 20), (1, rc a0), (2, vo a1), (3, vi a2), (4, vi a3)] [] ((S, T), Y) _
  refine go_blk rfl [(.aload_n 0, 1, 0, 0, 0, .inl 0), (.getfield 12, 3, 2, 1, 1, .inl 0), (.aload_n 1, 1, 1, 0, 0, .inl 0)] 0 5 _ _ _ (by decide +kernel) ?_
  refine And.intro (lc_t20 hT) (Exists.intro _ (And.intro (gRc (lc_r2_1 hT)) ?_))
  show Go _ _ _ _ _ _ 5 [(0, rc 20), (1, rc a0), (2, vo a1), (3, vi a2), (4, vi a3)] [rc a0, rc 21] ((S, T), Y) _
  obtain ⟨r1, hr1, h⟩ := bind_el h
  refine go_callV (idx := 50) (z := 1) (M' := M4_copyFrom) (n := 1) (A := [rc a0]) (v' := none) (μ' := ((r1.1, T), Y)) (d' := 2) (mc' := 0) (ms' := 0) (kc' := 0) (ks' := 0) (ci := 4) (x := .inl 21) (by decide +kernel) ml_2_50 rfl wv4_copyFrom rfl (by decide) rfl (lc_h21 hT).1 (ret4_copyFrom (lc_h21 hT) h0 hr1) (by decide) rfl rfl (Nat.le_of_ble_eq_true rfl) rfl (jag rfl rfl) ?_
  show Go _ _ _ _ _ _ 8 [(0, rc 20), (1, rc a0), (2, vo a1), (3, vi a2), (4, vi a3)] [] ((r1.1, T), Y) _
  refine go_blk rfl [(.aload_n 0, 1, 0, 0, 0, .inl 0), (.iconst (-1), 1, 0, 0, 0, .inl (-1)), (.putfield 39, 3, 2, 8, 0, .inl 0)] 8 13 _ _ _ (by decide +kernel) ?_
  refine And.intro (lc_t20 hT) (And.intro trivial ?_)
  show Go _ _ _ _ _ _ 13 [(0, rc 20), (1, rc a0), (2, vo a1), (3, vi a2), (4, vi a3)] [] ((wI r1.1 20 8 ((-1)), T), Y) _
  refine go_blk rfl [(.aload_n 0, 1, 0, 0, 0, .inl 0), (.aload_n 0, 1, 0, 0, 0, .inl 0), (.aload_n 2, 1, 2, 0, 0, .inl 0), (.iload_n 3, 1, 3, 0, 0, .inl 0), (.iload 4, 2, 4, 0, 0, .inl 0)] 13 19 _ _ _ (by decide +kernel) ?_
  show Go _ _ _ _ _ _ 19 [(0, rc 20), (1, rc a0), (2, vo a1), (3, vi a2), (4, vi a3)] [vi a3, vi a2, vo a1, rc 20, rc 20] ((wI r1.1 20 8 ((-1)), T), Y) _
  obtain ⟨r2, hr2, h⟩ := bind_el h
  refine go_callV (idx := 93) (z := 0) (M' := M2_sitsFromTrial) (n := 3) (A := [vo a1, vi a2, vi a3]) (v' := some (vi r2.2)) (μ' := ((r2.1, T), Y)) (d' := 6) (mc' := 0) (ms' := 0) (kc' := 0) (ks' := 0) (ci := 2) (x := .inl 20) (by decide +kernel) ml_2_93 rfl wv2_sitsFromTrial rfl (by decide) rfl (lc_t20 hT) (ret2_sitsFromTrial hT h1 hr2) (by decide) rfl rfl (Nat.le_of_ble_eq_true rfl) rfl (jag rfl rfl) ?_
  show Go _ _ _ _ _ _ 22 [(0, rc 20), (1, rc a0), (2, vo a1), (3, vi a2), (4, vi a3)] [vi r2.2, rc 20] ((r2.1, T), Y) _
  refine go_blk rfl [(.putfield 43, 3, 2, 9, 0, .inl 0)] 22 25 _ _ _ (by decide +kernel) ?_
  refine And.intro (lc_t20 hT) (And.intro trivial ?_)
  show Go _ _ _ _ _ _ 25 [(0, rc 20), (1, rc a0), (2, vo a1), (3, vi a2), (4, vi a3)] [] ((wI r2.1 20 9 r2.2, T), Y) _
  refine go_blk rfl [(.iconst 0, 1, 0, 0, 0, .inl 0), (.istore 5, 2, 5, 0, 0, .inl 0)] 25 28 _ _ _ (by decide +kernel) ?_
  show Go _ _ _ _ _ _ 28 [(5, vi 0), (0, rc 20), (1, rc a0), (2, vo a1), (3, vi a2), (4, vi a3)] [] ((wI r2.1 20 9 r2.2, T), Y) _
  refine go_pick [1, 2, 3, 4, 5, 0] rfl ?_
  obtain ⟨y8, hy8, h⟩ := bind_el h
  refine f2_chooseChair_L1_ok hT h0 h1 _ _ _ _ hy8 ?_
  show Go _ _ _ _ _ _ 92 [] [] ((y8, T), Y) _
  obtain ⟨rfl, rfl⟩ := Prod.mk.inj (Option.some.inj h)
  exact go_return (by decide +kernel) rfl ⟨rfl, rfl⟩
def f2_choosePlace_L1 (T : jT) (a0 : Nat) (a1 : Option Nat) (l3 : Int32) (l4 : Int32) : Nat → jS → Int32 → Option jS
  | 0, _, _ => none
  | n + 1, S, l5 => (if (S.1 a0 0) ≤ l5 then some S else Option.bind (f4_copyFrom S 21 a0) (fun r3 => (if inb l3 7 then Option.bind (f2_sitsFromTrial T (wI r3.1 (21 + 2) l3.toNatClampNeg l5) a1 l3 l4) (fun r4 => Option.bind (f2_offer r4.1 l5 r4.2) (fun r5 => f2_choosePlace_L1 T a0 a1 l3 l4 n r5.1 (l5 + 1))) else none)))
def f2_choosePlace (T : jT) (S : jS) (a0 : Nat) (a1 : Option Nat) (a2 : Int32) (a3 : Int32) : Option (jS × Unit) := Option.bind (f4_copyFrom S 21 a0) (fun r1 => (if inb a2 7 then Option.bind (f2_sitsFromTrial T (wI r1.1 20 8 (r1.1.1 (a0 + 2) a2.toNatClampNeg)) a1 a2 a3) (fun r2 => Option.bind (f2_choosePlace_L1 T a0 a1 a2 a3 jF (wI r2.1 20 9 r2.2) 0) (fun y6 => some (y6, ()))) else none))
theorem f2_choosePlace_L1_ok {T : jT} {Y : jS × jT} {a0 : Nat} {a1 : Option Nat} {l3 : Int32} {l4 : Int32} {Q : Option jV → jMem → Prop} (hT : LayC T) (h0 : LayHall T a0) (h1 : ∀ q, a1 = some q → LayRule T q) : ∀ (n : Nat) (S : jS) (l5 : Int32) (r : jS), f2_choosePlace_L1 T a0 a1 l3 l4 n S l5 = some r → Go M2_choosePlace 7 0 0 0 0 81 [] [] ((r, T), Y) Q → Go M2_choosePlace 7 0 0 0 0 33 [(0, rc 20), (1, rc a0), (2, vo a1), (3, vi l3), (4, vi l4), (5, vi l5)] [] ((S, T), Y) Q := by
  intro n
  induction n with
  | zero => intro S l5 r h k; exact absurd h (by intro z; cases z)
  | succ n ih =>
    intro S l5 r h k
    rw [f2_choosePlace_L1] at h
    refine go_blk rfl [(.iload 5, 2, 5, 0, 0, .inl 0), (.aload_n 1, 1, 1, 0, 0, .inl 0), (.getfield 113, 3, 4, 0, 0, .inl 0)] 33 39 _ _ _ (by decide +kernel) ?_
    refine And.intro h0.1 ?_
    show Go _ _ _ _ _ _ 39 [(0, rc 20), (1, rc a0), (2, vo a1), (3, vi l3), (4, vi l4), (5, vi l5)] [vi (S.1 a0 0), vi l5] ((S, T), Y) _
    refine ite_el h (fun q2 h => ?_) (fun q2 h => ?_)
    · refine go_icmp_ge (off := 42) (tgt := 81) (by decide +kernel) (by decide) (fun _ => ?_) (fun z => absurd q2 z)
      obtain rfl := Option.some.inj h
      refine go_pick [] rfl ?_
      exact k
    · refine go_icmp_ge (off := 42) (tgt := 81) (by decide +kernel) (by decide) (fun z => absurd z q2) (fun _ => ?_)
      refine go_blk rfl [(.aload_n 0, 1, 0, 0, 0, .inl 0), (.getfield 12, 3, 2, 1, 1, .inl 0), (.aload_n 1, 1, 1, 0, 0, .inl 0)] 42 47 _ _ _ (by decide +kernel) ?_
      refine And.intro (lc_t20 hT) (Exists.intro _ (And.intro (gRc (lc_r2_1 hT)) ?_))
      show Go _ _ _ _ _ _ 47 [(0, rc 20), (1, rc a0), (2, vo a1), (3, vi l3), (4, vi l4), (5, vi l5)] [rc a0, rc 21] ((S, T), Y) _
      obtain ⟨r3, hr3, h⟩ := bind_el h
      refine go_callV (idx := 50) (z := 1) (M' := M4_copyFrom) (n := 1) (A := [rc a0]) (v' := none) (μ' := ((r3.1, T), Y)) (d' := 2) (mc' := 0) (ms' := 0) (kc' := 0) (ks' := 0) (ci := 4) (x := .inl 21) (by decide +kernel) ml_2_50 rfl wv4_copyFrom rfl (by decide) rfl (lc_h21 hT).1 (ret4_copyFrom (lc_h21 hT) h0 hr3) (by decide) rfl rfl (Nat.le_of_ble_eq_true rfl) rfl (jag rfl rfl) ?_
      show Go _ _ _ _ _ _ 50 [(0, rc 20), (1, rc a0), (2, vo a1), (3, vi l3), (4, vi l4), (5, vi l5)] [] ((r3.1, T), Y) _
      refine gd_el h (fun q3 h => ?_)
      refine go_blk rfl [(.aload_n 0, 1, 0, 0, 0, .inl 0), (.getfield 12, 3, 2, 1, 1, .inl 0), (.getfield 110, 3, 4, 9, 1, .inl 0), (.iload_n 3, 1, 3, 0, 0, .inl 0), (.iload 5, 2, 5, 0, 0, .inl 0), (.iastore, 1, 20, 0, 0, .inl 0)] 50 61 _ _ _ (by decide +kernel) ?_
      refine And.intro (lc_t20 hT) (Exists.intro _ (And.intro (gRc (lc_r2_1 hT)) ?_))
      refine And.intro (lc_h21 hT).1 (Exists.intro _ (And.intro (gRc (lc_h21 hT).2.2.1.1) ?_))
      refine And.intro (lc_h21 hT).2.2.1.2.1 (Exists.intro _ (And.intro (lc_h21 hT).2.2.1.2.2 (And.intro (inb_in q3) ?_)))
      show Go _ _ _ _ _ _ 61 [(0, rc 20), (1, rc a0), (2, vo a1), (3, vi l3), (4, vi l4), (5, vi l5)] [] ((wI r3.1 (21 + 2) l3.toNatClampNeg l5, T), Y) _
      refine go_blk rfl [(.aload_n 0, 1, 0, 0, 0, .inl 0), (.iload 5, 2, 5, 0, 0, .inl 0), (.aload_n 0, 1, 0, 0, 0, .inl 0), (.aload_n 2, 1, 2, 0, 0, .inl 0), (.iload_n 3, 1, 3, 0, 0, .inl 0), (.iload 4, 2, 4, 0, 0, .inl 0)] 61 69 _ _ _ (by decide +kernel) ?_
      show Go _ _ _ _ _ _ 69 [(0, rc 20), (1, rc a0), (2, vo a1), (3, vi l3), (4, vi l4), (5, vi l5)] [vi l4, vi l3, vo a1, rc 20, vi l5, rc 20] ((wI r3.1 (21 + 2) l3.toNatClampNeg l5, T), Y) _
      obtain ⟨r4, hr4, h⟩ := bind_el h
      refine go_callV (idx := 93) (z := 0) (M' := M2_sitsFromTrial) (n := 3) (A := [vo a1, vi l3, vi l4]) (v' := some (vi r4.2)) (μ' := ((r4.1, T), Y)) (d' := 6) (mc' := 0) (ms' := 0) (kc' := 0) (ks' := 0) (ci := 2) (x := .inl 20) (by decide +kernel) ml_2_93 rfl wv2_sitsFromTrial rfl (by decide) rfl (lc_t20 hT) (ret2_sitsFromTrial hT h1 hr4) (by decide) rfl rfl (Nat.le_of_ble_eq_true rfl) rfl (jag rfl rfl) ?_
      show Go _ _ _ _ _ _ 72 [(0, rc 20), (1, rc a0), (2, vo a1), (3, vi l3), (4, vi l4), (5, vi l5)] [vi r4.2, vi l5, rc 20] ((r4.1, T), Y) _
      obtain ⟨r5, hr5, h⟩ := bind_el h
      refine go_callV (idx := 106) (z := 0) (M' := M2_offer) (n := 2) (A := [vi l5, vi r4.2]) (v' := none) (μ' := ((r5.1, T), Y)) (d' := 1) (mc' := 0) (ms' := 0) (kc' := 0) (ks' := 0) (ci := 2) (x := .inl 20) (by decide +kernel) ml_2_106 rfl wv2_offer rfl (by decide) rfl (lc_t20 hT) (ret2_offer hT hr5) (by decide) rfl rfl (Nat.le_of_ble_eq_true rfl) rfl (jag rfl rfl) ?_
      show Go _ _ _ _ _ _ 75 [(0, rc 20), (1, rc a0), (2, vo a1), (3, vi l3), (4, vi l4), (5, vi l5)] [] ((r5.1, T), Y) _
      refine go_blk rfl [(.iinc 5 1, 3, 5, 0, 0, .inl 1)] 75 78 _ _ _ (by decide +kernel) ?_
      show Go _ _ _ _ _ _ 78 [(5, vi (l5 + 1)), (0, rc 20), (1, rc a0), (2, vo a1), (3, vi l3), (4, vi l4)] [] ((r5.1, T), Y) _
      refine go_goto (off := (-45)) (tgt := 33) (by decide +kernel) (by decide) ?_
      refine go_pick [1, 2, 3, 4, 5, 0] rfl ?_
      exact ih _ _ _ h k
theorem ret2_choosePlace {S : jS} {T : jT} {Y : jS × jT} {a0 : Nat} {a1 : Option Nat} {a2 : Int32} {a3 : Int32} {S1 : jS} {x : Unit} (hT : LayC T) (h0 : LayHall T a0) (h1 : ∀ q, a1 = some q → LayRule T q) (h : f2_choosePlace T S a0 a1 a2 a3 = some (S1, x)) : Ret M2_choosePlace 7 0 0 [rc 20, rc a0, vo a1, vi a2, vi a3] ((S, T), Y) (none) ((S1, T), Y) := by
  refine Ret.of (by decide +kernel) (Nat.le_of_ble_eq_true rfl) ?_
  unfold f2_choosePlace at h
  show Go _ _ _ _ _ _ 0 [(0, rc 20), (1, rc a0), (2, vo a1), (3, vi a2), (4, vi a3)] [] ((S, T), Y) _
  refine go_blk rfl [(.aload_n 0, 1, 0, 0, 0, .inl 0), (.getfield 12, 3, 2, 1, 1, .inl 0), (.aload_n 1, 1, 1, 0, 0, .inl 0)] 0 5 _ _ _ (by decide +kernel) ?_
  refine And.intro (lc_t20 hT) (Exists.intro _ (And.intro (gRc (lc_r2_1 hT)) ?_))
  show Go _ _ _ _ _ _ 5 [(0, rc 20), (1, rc a0), (2, vo a1), (3, vi a2), (4, vi a3)] [rc a0, rc 21] ((S, T), Y) _
  obtain ⟨r1, hr1, h⟩ := bind_el h
  refine go_callV (idx := 50) (z := 1) (M' := M4_copyFrom) (n := 1) (A := [rc a0]) (v' := none) (μ' := ((r1.1, T), Y)) (d' := 2) (mc' := 0) (ms' := 0) (kc' := 0) (ks' := 0) (ci := 4) (x := .inl 21) (by decide +kernel) ml_2_50 rfl wv4_copyFrom rfl (by decide) rfl (lc_h21 hT).1 (ret4_copyFrom (lc_h21 hT) h0 hr1) (by decide) rfl rfl (Nat.le_of_ble_eq_true rfl) rfl (jag rfl rfl) ?_
  show Go _ _ _ _ _ _ 8 [(0, rc 20), (1, rc a0), (2, vo a1), (3, vi a2), (4, vi a3)] [] ((r1.1, T), Y) _
  refine gd_el h (fun q1 h => ?_)
  refine go_blk rfl [(.aload_n 0, 1, 0, 0, 0, .inl 0), (.aload_n 1, 1, 1, 0, 0, .inl 0), (.getfield 110, 3, 4, 9, 1, .inl 0), (.iload_n 3, 1, 3, 0, 0, .inl 0), (.iaload, 1, 20, 0, 0, .inl 0), (.putfield 39, 3, 2, 8, 0, .inl 0)] 8 18 _ _ _ (by decide +kernel) ?_
  refine And.intro h0.1 (Exists.intro _ (And.intro (gRc h0.2.2.1.1) ?_))
  refine And.intro h0.2.2.1.2.1 (Exists.intro _ (And.intro h0.2.2.1.2.2 (And.intro (inb_in q1) ?_)))
  refine And.intro (lc_t20 hT) (And.intro trivial ?_)
  show Go _ _ _ _ _ _ 18 [(0, rc 20), (1, rc a0), (2, vo a1), (3, vi a2), (4, vi a3)] [] ((wI r1.1 20 8 (r1.1.1 (a0 + 2) a2.toNatClampNeg), T), Y) _
  refine go_blk rfl [(.aload_n 0, 1, 0, 0, 0, .inl 0), (.aload_n 0, 1, 0, 0, 0, .inl 0), (.aload_n 2, 1, 2, 0, 0, .inl 0), (.iload_n 3, 1, 3, 0, 0, .inl 0), (.iload 4, 2, 4, 0, 0, .inl 0)] 18 24 _ _ _ (by decide +kernel) ?_
  show Go _ _ _ _ _ _ 24 [(0, rc 20), (1, rc a0), (2, vo a1), (3, vi a2), (4, vi a3)] [vi a3, vi a2, vo a1, rc 20, rc 20] ((wI r1.1 20 8 (r1.1.1 (a0 + 2) a2.toNatClampNeg), T), Y) _
  obtain ⟨r2, hr2, h⟩ := bind_el h
  refine go_callV (idx := 93) (z := 0) (M' := M2_sitsFromTrial) (n := 3) (A := [vo a1, vi a2, vi a3]) (v' := some (vi r2.2)) (μ' := ((r2.1, T), Y)) (d' := 6) (mc' := 0) (ms' := 0) (kc' := 0) (ks' := 0) (ci := 2) (x := .inl 20) (by decide +kernel) ml_2_93 rfl wv2_sitsFromTrial rfl (by decide) rfl (lc_t20 hT) (ret2_sitsFromTrial hT h1 hr2) (by decide) rfl rfl (Nat.le_of_ble_eq_true rfl) rfl (jag rfl rfl) ?_
  show Go _ _ _ _ _ _ 27 [(0, rc 20), (1, rc a0), (2, vo a1), (3, vi a2), (4, vi a3)] [vi r2.2, rc 20] ((r2.1, T), Y) _
  refine go_blk rfl [(.putfield 43, 3, 2, 9, 0, .inl 0)] 27 30 _ _ _ (by decide +kernel) ?_
  refine And.intro (lc_t20 hT) (And.intro trivial ?_)
  show Go _ _ _ _ _ _ 30 [(0, rc 20), (1, rc a0), (2, vo a1), (3, vi a2), (4, vi a3)] [] ((wI r2.1 20 9 r2.2, T), Y) _
  refine go_blk rfl [(.iconst 0, 1, 0, 0, 0, .inl 0), (.istore 5, 2, 5, 0, 0, .inl 0)] 30 33 _ _ _ (by decide +kernel) ?_
  show Go _ _ _ _ _ _ 33 [(5, vi 0), (0, rc 20), (1, rc a0), (2, vo a1), (3, vi a2), (4, vi a3)] [] ((wI r2.1 20 9 r2.2, T), Y) _
  refine go_pick [1, 2, 3, 4, 5, 0] rfl ?_
  obtain ⟨y6, hy6, h⟩ := bind_el h
  refine f2_choosePlace_L1_ok hT h0 h1 _ _ _ _ hy6 ?_
  show Go _ _ _ _ _ _ 81 [] [] ((y6, T), Y) _
  obtain ⟨rfl, rfl⟩ := Prod.mk.inj (Option.some.inj h)
  exact go_return (by decide +kernel) rfl ⟨rfl, rfl⟩
def f2_playPaces_L2 (T : jT) (a0 : Nat) (a1 : Option Nat) (l3 : Int32) (l4 : Int32) (l5 : Int32) (l6 : Int32) : Nat → jS → Int32 → Option jS
  | 0, _, _ => none
  | n + 1, S, l7 => (if l5 ≤ l7 then some S else Option.bind (f4_isOver S 21) (fun r2 => (if r2 = 0 then Option.bind (f3_roundBy T S 21 a1) (fun r3 => (if inb l6 36 then f2_playPaces_L2 T a0 a1 l3 l4 l5 l6 n (wI (wI r3.1 67 l6.toNatClampNeg ((r3.1.1 67 l6.toNatClampNeg) + ((r3.2 >>> (l3 &&& 31)) &&& 1))) 68 l6.toNatClampNeg (((wI r3.1 67 l6.toNatClampNeg ((r3.1.1 67 l6.toNatClampNeg) + ((r3.2 >>> (l3 &&& 31)) &&& 1))).1 68 l6.toNatClampNeg) + ((r3.2 >>> (l4 &&& 31)) &&& 1))) (l7 + 1) else none)) else some S)))
def f2_playPaces_L1 (T : jT) (a0 : Nat) (a1 : Option Nat) (l3 : Int32) (l4 : Int32) (l5 : Int32) : Nat → jS → Int32 → Option jS
  | 0, _, _ => none
  | n + 1, S, l6 => (if 36 ≤ l6 then some S else Option.bind (f4_copyFrom S 21 a0) (fun r1 => (if inb l3 7 then (if inb l4 7 then (if inb l6 36 then Option.bind (f2_playPaces_L2 T a0 a1 l3 l4 l5 l6 jF (wI (wI (wI (wI r1.1 (21 + 3) l3.toNatClampNeg (l6 / 6)) (21 + 3) l4.toNatClampNeg (irm l6 6)) 67 l6.toNatClampNeg 0) 68 l6.toNatClampNeg 0) 0) (fun y4 => f2_playPaces_L1 T a0 a1 l3 l4 l5 n y4 (l6 + 1)) else none) else none) else none)))
def f2_playPaces (T : jT) (S : jS) (a0 : Nat) (a1 : Option Nat) (a2 : Int32) (a3 : Int32) (a4 : Int32) : Option (jS × Unit) := Option.bind (f2_playPaces_L1 T a0 a1 a2 a3 a4 jF S 0) (fun y5 => some (y5, ()))
theorem f2_playPaces_L2_ok {T : jT} {Y : jS × jT} {a0 : Nat} {a1 : Option Nat} {l3 : Int32} {l4 : Int32} {l5 : Int32} {l6 : Int32} {Q : Option jV → jMem → Prop} (hT : LayC T) (h0 : LayHall T a0) (h1 : ∀ q, a1 = some q → LayRule T q) : ∀ (n : Nat) (S : jS) (l7 : Int32) (r : jS), f2_playPaces_L2 T a0 a1 l3 l4 l5 l6 n S l7 = some r → Go M2_playPaces 6 0 0 0 0 136 [(0, rc 20), (1, rc a0), (2, vo a1), (3, vi l3), (4, vi l4), (5, vi l5), (6, vi l6)] [] ((r, T), Y) Q → Go M2_playPaces 6 0 0 0 0 66 [(0, rc 20), (1, rc a0), (2, vo a1), (3, vi l3), (4, vi l4), (5, vi l5), (6, vi l6), (7, vi l7)] [] ((S, T), Y) Q := by
  intro n
  induction n with
  | zero => intro S l7 r h k; exact absurd h (by intro z; cases z)
  | succ n ih =>
    intro S l7 r h k
    rw [f2_playPaces_L2] at h
    refine go_blk rfl [(.iload 7, 2, 7, 0, 0, .inl 0), (.iload 5, 2, 5, 0, 0, .inl 0)] 66 70 _ _ _ (by decide +kernel) ?_
    show Go _ _ _ _ _ _ 70 [(0, rc 20), (1, rc a0), (2, vo a1), (3, vi l3), (4, vi l4), (5, vi l5), (6, vi l6), (7, vi l7)] [vi l5, vi l7] ((S, T), Y) _
    refine ite_el h (fun q5 h => ?_) (fun q5 h => ?_)
    · refine go_icmp_ge (off := 66) (tgt := 136) (by decide +kernel) (by decide) (fun _ => ?_) (fun z => absurd q5 z)
      obtain rfl := Option.some.inj h
      refine go_pick [0, 1, 2, 3, 4, 5, 6] rfl ?_
      exact k
    · refine go_icmp_ge (off := 66) (tgt := 136) (by decide +kernel) (by decide) (fun z => absurd z q5) (fun _ => ?_)
      refine go_blk rfl [(.aload_n 0, 1, 0, 0, 0, .inl 0), (.getfield 12, 3, 2, 1, 1, .inl 0)] 73 77 _ _ _ (by decide +kernel) ?_
      refine And.intro (lc_t20 hT) (Exists.intro _ (And.intro (gRc (lc_r2_1 hT)) ?_))
      show Go _ _ _ _ _ _ 77 [(0, rc 20), (1, rc a0), (2, vo a1), (3, vi l3), (4, vi l4), (5, vi l5), (6, vi l6), (7, vi l7)] [rc 21] ((S, T), Y) _
      obtain ⟨r2, hr2, h⟩ := bind_el h
      refine go_callV (idx := 60) (z := 1) (M' := M4_isOver) (n := 0) (A := []) (v' := some (vi r2)) (μ' := ((S, T), Y)) (d' := 2) (mc' := 0) (ms' := 0) (kc' := 0) (ks' := 0) (ci := 4) (x := .inl 21) (by decide +kernel) ml_2_60 rfl wv4_isOver rfl (by decide) rfl (lc_h21 hT).1 (ret4_isOver (lc_h21 hT) hr2) (by decide) rfl rfl (Nat.le_of_ble_eq_true rfl) rfl (jag rfl rfl) ?_
      show Go _ _ _ _ _ _ 80 [(0, rc 20), (1, rc a0), (2, vo a1), (3, vi l3), (4, vi l4), (5, vi l5), (6, vi l6), (7, vi l7)] [vi r2] ((S, T), Y) _
      refine ite_el h (fun q6 h => ?_) (fun q6 h => ?_)
      · refine go_if_ne (off := 56) (tgt := 136) (by decide +kernel) (by decide) (fun z => absurd q6 z) (fun _ => ?_)
        refine go_blk rfl [(.aload_n 0, 1, 0, 0, 0, .inl 0), (.getfield 46, 3, 2, 0, 1, .inl 0), (.aload_n 0, 1, 0, 0, 0, .inl 0), (.getfield 12, 3, 2, 1, 1, .inl 0), (.aload_n 2, 1, 2, 0, 0, .inl 0)] 83 92 _ _ _ (by decide +kernel) ?_
        refine And.intro (lc_t20 hT) (Exists.intro _ (And.intro (gRc (lc_r2_0 hT)) ?_))
        refine And.intro (lc_t20 hT) (Exists.intro _ (And.intro (gRc (lc_r2_1 hT)) ?_))
        show Go _ _ _ _ _ _ 92 [(0, rc 20), (1, rc a0), (2, vo a1), (3, vi l3), (4, vi l4), (5, vi l5), (6, vi l6), (7, vi l7)] [vo a1, rc 21, rc 17] ((S, T), Y) _
        obtain ⟨r3, hr3, h⟩ := bind_el h
        refine go_callV (idx := 54) (z := 1) (M' := M3_roundBy) (n := 2) (A := [rc 21, vo a1]) (v' := some (vi r3.2)) (μ' := ((r3.1, T), Y)) (d' := 5) (mc' := 0) (ms' := 0) (kc' := 0) (ks' := 0) (ci := 3) (x := .inl 17) (by decide +kernel) ml_2_54 rfl wv3_roundBy rfl (by decide) rfl (lc_t17 hT) (ret3_roundBy hT (lc_h21 hT) h1 hr3) (by decide) rfl rfl (Nat.le_of_ble_eq_true rfl) rfl (jag rfl rfl) ?_
        show Go _ _ _ _ _ _ 95 [(0, rc 20), (1, rc a0), (2, vo a1), (3, vi l3), (4, vi l4), (5, vi l5), (6, vi l6), (7, vi l7)] [vi r3.2] ((r3.1, T), Y) _
        refine gd_el h (fun q7 h => ?_)
        refine go_blk rfl [(.istore 8, 2, 8, 0, 0, .inl 0), (.aload_n 0, 1, 0, 0, 0, .inl 0), (.getfield 33, 3, 2, 6, 1, .inl 0), (.iload 6, 2, 6, 0, 0, .inl 0), (.dup2, 1, 0, 0, 0, .inl 0), (.iaload, 1, 20, 0, 0, .inl 0), (.iload 8, 2, 8, 0, 0, .inl 0), (.iload_n 3, 1, 3, 0, 0, .inl 0), (.ishr, 1, 0, 0, 0, .inl 0), (.iconst 1, 1, 0, 0, 0, .inl 1), (.iand, 1, 0, 0, 0, .inl 0), (.iadd, 1, 0, 0, 0, .inl 0), (.iastore, 1, 20, 0, 0, .inl 0)] 95 113 _ _ _ (by decide +kernel) ?_
        refine And.intro (lc_t20 hT) (Exists.intro _ (And.intro (gRc (lc_r2_6 hT)) ?_))
        refine And.intro (lc_t67 hT) (Exists.intro _ (And.intro (lc_n67 hT) (And.intro (inb_in q7) ?_)))
        refine And.intro (lc_t67 hT) (Exists.intro _ (And.intro (lc_n67 hT) (And.intro (inb_in q7) ?_)))
        show Go _ _ _ _ _ _ 113 [(8, vi r3.2), (0, rc 20), (1, rc a0), (2, vo a1), (3, vi l3), (4, vi l4), (5, vi l5), (6, vi l6), (7, vi l7)] [] ((wI r3.1 67 l6.toNatClampNeg ((r3.1.1 67 l6.toNatClampNeg) + ((r3.2 >>> (l3 &&& 31)) &&& 1)), T), Y) _
        refine go_blk rfl [(.aload_n 0, 1, 0, 0, 0, .inl 0), (.getfield 36, 3, 2, 7, 1, .inl 0), (.iload 6, 2, 6, 0, 0, .inl 0), (.dup2, 1, 0, 0, 0, .inl 0), (.iaload, 1, 20, 0, 0, .inl 0), (.iload 8, 2, 8, 0, 0, .inl 0), (.iload 4, 2, 4, 0, 0, .inl 0), (.ishr, 1, 0, 0, 0, .inl 0), (.iconst 1, 1, 0, 0, 0, .inl 1), (.iand, 1, 0, 0, 0, .inl 0), (.iadd, 1, 0, 0, 0, .inl 0), (.iastore, 1, 20, 0, 0, .inl 0)] 113 130 _ _ _ (by decide +kernel) ?_
        refine And.intro (lc_t20 hT) (Exists.intro _ (And.intro (gRc (lc_r2_7 hT)) ?_))
        refine And.intro (lc_t68 hT) (Exists.intro _ (And.intro (lc_n68 hT) (And.intro (inb_in q7) ?_)))
        refine And.intro (lc_t68 hT) (Exists.intro _ (And.intro (lc_n68 hT) (And.intro (inb_in q7) ?_)))
        show Go _ _ _ _ _ _ 130 [(8, vi r3.2), (0, rc 20), (1, rc a0), (2, vo a1), (3, vi l3), (4, vi l4), (5, vi l5), (6, vi l6), (7, vi l7)] [] ((wI (wI r3.1 67 l6.toNatClampNeg ((r3.1.1 67 l6.toNatClampNeg) + ((r3.2 >>> (l3 &&& 31)) &&& 1))) 68 l6.toNatClampNeg (((wI r3.1 67 l6.toNatClampNeg ((r3.1.1 67 l6.toNatClampNeg) + ((r3.2 >>> (l3 &&& 31)) &&& 1))).1 68 l6.toNatClampNeg) + ((r3.2 >>> (l4 &&& 31)) &&& 1)), T), Y) _
        refine go_blk rfl [(.iinc 7 1, 3, 7, 0, 0, .inl 1)] 130 133 _ _ _ (by decide +kernel) ?_
        show Go _ _ _ _ _ _ 133 [(7, vi (l7 + 1)), (8, vi r3.2), (0, rc 20), (1, rc a0), (2, vo a1), (3, vi l3), (4, vi l4), (5, vi l5), (6, vi l6)] [] ((wI (wI r3.1 67 l6.toNatClampNeg ((r3.1.1 67 l6.toNatClampNeg) + ((r3.2 >>> (l3 &&& 31)) &&& 1))) 68 l6.toNatClampNeg (((wI r3.1 67 l6.toNatClampNeg ((r3.1.1 67 l6.toNatClampNeg) + ((r3.2 >>> (l3 &&& 31)) &&& 1))).1 68 l6.toNatClampNeg) + ((r3.2 >>> (l4 &&& 31)) &&& 1)), T), Y) _
        refine go_goto (off := (-67)) (tgt := 66) (by decide +kernel) (by decide) ?_
        refine go_pick [2, 3, 4, 5, 6, 7, 8, 0] rfl ?_
        exact ih _ _ _ h k
      · refine go_if_ne (off := 56) (tgt := 136) (by decide +kernel) (by decide) (fun _ => ?_) (fun z => absurd z q6)
        obtain rfl := Option.some.inj h
        refine go_pick [0, 1, 2, 3, 4, 5, 6] rfl ?_
        exact k
theorem f2_playPaces_L1_ok {T : jT} {Y : jS × jT} {a0 : Nat} {a1 : Option Nat} {l3 : Int32} {l4 : Int32} {l5 : Int32} {Q : Option jV → jMem → Prop} (hT : LayC T) (h0 : LayHall T a0) (h1 : ∀ q, a1 = some q → LayRule T q) : ∀ (n : Nat) (S : jS) (l6 : Int32) (r : jS), f2_playPaces_L1 T a0 a1 l3 l4 l5 n S l6 = some r → Go M2_playPaces 6 0 0 0 0 142 [] [] ((r, T), Y) Q → Go M2_playPaces 6 0 0 0 0 3 [(0, rc 20), (1, rc a0), (2, vo a1), (3, vi l3), (4, vi l4), (5, vi l5), (6, vi l6)] [] ((S, T), Y) Q := by
  intro n
  induction n with
  | zero => intro S l6 r h k; exact absurd h (by intro z; cases z)
  | succ n ih =>
    intro S l6 r h k
    rw [f2_playPaces_L1] at h
    refine go_blk rfl [(.iload 6, 2, 6, 0, 0, .inl 0), (.bipush 36, 2, 0, 0, 0, .inl 36)] 3 7 _ _ _ (by decide +kernel) ?_
    show Go _ _ _ _ _ _ 7 [(0, rc 20), (1, rc a0), (2, vo a1), (3, vi l3), (4, vi l4), (5, vi l5), (6, vi l6)] [vi 36, vi l6] ((S, T), Y) _
    refine ite_el h (fun q1 h => ?_) (fun q1 h => ?_)
    · refine go_icmp_ge (off := 135) (tgt := 142) (by decide +kernel) (by decide) (fun _ => ?_) (fun z => absurd q1 z)
      obtain rfl := Option.some.inj h
      refine go_pick [] rfl ?_
      exact k
    · refine go_icmp_ge (off := 135) (tgt := 142) (by decide +kernel) (by decide) (fun z => absurd z q1) (fun _ => ?_)
      refine go_blk rfl [(.aload_n 0, 1, 0, 0, 0, .inl 0), (.getfield 12, 3, 2, 1, 1, .inl 0), (.aload_n 1, 1, 1, 0, 0, .inl 0)] 10 15 _ _ _ (by decide +kernel) ?_
      refine And.intro (lc_t20 hT) (Exists.intro _ (And.intro (gRc (lc_r2_1 hT)) ?_))
      show Go _ _ _ _ _ _ 15 [(0, rc 20), (1, rc a0), (2, vo a1), (3, vi l3), (4, vi l4), (5, vi l5), (6, vi l6)] [rc a0, rc 21] ((S, T), Y) _
      obtain ⟨r1, hr1, h⟩ := bind_el h
      refine go_callV (idx := 50) (z := 1) (M' := M4_copyFrom) (n := 1) (A := [rc a0]) (v' := none) (μ' := ((r1.1, T), Y)) (d' := 2) (mc' := 0) (ms' := 0) (kc' := 0) (ks' := 0) (ci := 4) (x := .inl 21) (by decide +kernel) ml_2_50 rfl wv4_copyFrom rfl (by decide) rfl (lc_h21 hT).1 (ret4_copyFrom (lc_h21 hT) h0 hr1) (by decide) rfl rfl (Nat.le_of_ble_eq_true rfl) rfl (jag rfl rfl) ?_
      show Go _ _ _ _ _ _ 18 [(0, rc 20), (1, rc a0), (2, vo a1), (3, vi l3), (4, vi l4), (5, vi l5), (6, vi l6)] [] ((r1.1, T), Y) _
      refine gd_el h (fun q2 h => ?_)
      refine go_blk rfl [(.aload_n 0, 1, 0, 0, 0, .inl 0), (.getfield 12, 3, 2, 1, 1, .inl 0), (.getfield 116, 3, 4, 10, 1, .inl 0), (.iload_n 3, 1, 3, 0, 0, .inl 0), (.iload 6, 2, 6, 0, 0, .inl 0), (.bipush 6, 2, 0, 0, 0, .inl 6), (.idiv, 1, 0, 0, 0, .inl 0), (.iastore, 1, 20, 0, 0, .inl 0)] 18 32 _ _ _ (by decide +kernel) ?_
      refine And.intro (lc_t20 hT) (Exists.intro _ (And.intro (gRc (lc_r2_1 hT)) ?_))
      refine And.intro (lc_h21 hT).1 (Exists.intro _ (And.intro (gRc (lc_h21 hT).2.2.2.1.1) ?_))
      refine And.intro (by decide) ?_
      refine And.intro (lc_h21 hT).2.2.2.1.2.1 (Exists.intro _ (And.intro (lc_h21 hT).2.2.2.1.2.2 (And.intro (inb_in q2) ?_)))
      show Go _ _ _ _ _ _ 32 [(0, rc 20), (1, rc a0), (2, vo a1), (3, vi l3), (4, vi l4), (5, vi l5), (6, vi l6)] [] ((wI r1.1 (21 + 3) l3.toNatClampNeg (l6 / 6), T), Y) _
      refine gd_el h (fun q3 h => ?_)
      refine go_blk rfl [(.aload_n 0, 1, 0, 0, 0, .inl 0), (.getfield 12, 3, 2, 1, 1, .inl 0), (.getfield 116, 3, 4, 10, 1, .inl 0), (.iload 4, 2, 4, 0, 0, .inl 0), (.iload 6, 2, 6, 0, 0, .inl 0), (.bipush 6, 2, 0, 0, 0, .inl 6), (.irem, 1, 0, 0, 0, .inl 0), (.iastore, 1, 20, 0, 0, .inl 0)] 32 47 _ _ _ (by decide +kernel) ?_
      refine And.intro (lc_t20 hT) (Exists.intro _ (And.intro (gRc (lc_r2_1 hT)) ?_))
      refine And.intro (lc_h21 hT).1 (Exists.intro _ (And.intro (gRc (lc_h21 hT).2.2.2.1.1) ?_))
      refine And.intro (by decide) ?_
      refine And.intro (lc_h21 hT).2.2.2.1.2.1 (Exists.intro _ (And.intro (lc_h21 hT).2.2.2.1.2.2 (And.intro (inb_in q3) ?_)))
      show Go _ _ _ _ _ _ 47 [(0, rc 20), (1, rc a0), (2, vo a1), (3, vi l3), (4, vi l4), (5, vi l5), (6, vi l6)] [] ((wI (wI r1.1 (21 + 3) l3.toNatClampNeg (l6 / 6)) (21 + 3) l4.toNatClampNeg (irm l6 6), T), Y) _
      refine gd_el h (fun q4 h => ?_)
      refine go_blk rfl [(.aload_n 0, 1, 0, 0, 0, .inl 0), (.getfield 33, 3, 2, 6, 1, .inl 0), (.iload 6, 2, 6, 0, 0, .inl 0), (.iconst 0, 1, 0, 0, 0, .inl 0), (.iastore, 1, 20, 0, 0, .inl 0)] 47 55 _ _ _ (by decide +kernel) ?_
      refine And.intro (lc_t20 hT) (Exists.intro _ (And.intro (gRc (lc_r2_6 hT)) ?_))
      refine And.intro (lc_t67 hT) (Exists.intro _ (And.intro (lc_n67 hT) (And.intro (inb_in q4) ?_)))
      show Go _ _ _ _ _ _ 55 [(0, rc 20), (1, rc a0), (2, vo a1), (3, vi l3), (4, vi l4), (5, vi l5), (6, vi l6)] [] ((wI (wI (wI r1.1 (21 + 3) l3.toNatClampNeg (l6 / 6)) (21 + 3) l4.toNatClampNeg (irm l6 6)) 67 l6.toNatClampNeg 0, T), Y) _
      refine go_blk rfl [(.aload_n 0, 1, 0, 0, 0, .inl 0), (.getfield 36, 3, 2, 7, 1, .inl 0), (.iload 6, 2, 6, 0, 0, .inl 0), (.iconst 0, 1, 0, 0, 0, .inl 0), (.iastore, 1, 20, 0, 0, .inl 0)] 55 63 _ _ _ (by decide +kernel) ?_
      refine And.intro (lc_t20 hT) (Exists.intro _ (And.intro (gRc (lc_r2_7 hT)) ?_))
      refine And.intro (lc_t68 hT) (Exists.intro _ (And.intro (lc_n68 hT) (And.intro (inb_in q4) ?_)))
      show Go _ _ _ _ _ _ 63 [(0, rc 20), (1, rc a0), (2, vo a1), (3, vi l3), (4, vi l4), (5, vi l5), (6, vi l6)] [] ((wI (wI (wI (wI r1.1 (21 + 3) l3.toNatClampNeg (l6 / 6)) (21 + 3) l4.toNatClampNeg (irm l6 6)) 67 l6.toNatClampNeg 0) 68 l6.toNatClampNeg 0, T), Y) _
      refine go_blk rfl [(.iconst 0, 1, 0, 0, 0, .inl 0), (.istore 7, 2, 7, 0, 0, .inl 0)] 63 66 _ _ _ (by decide +kernel) ?_
      show Go _ _ _ _ _ _ 66 [(7, vi 0), (0, rc 20), (1, rc a0), (2, vo a1), (3, vi l3), (4, vi l4), (5, vi l5), (6, vi l6)] [] ((wI (wI (wI (wI r1.1 (21 + 3) l3.toNatClampNeg (l6 / 6)) (21 + 3) l4.toNatClampNeg (irm l6 6)) 67 l6.toNatClampNeg 0) 68 l6.toNatClampNeg 0, T), Y) _
      refine go_pick [1, 2, 3, 4, 5, 6, 7, 0] rfl ?_
      obtain ⟨y4, hy4, h⟩ := bind_el h
      refine f2_playPaces_L2_ok hT h0 h1 _ _ _ _ hy4 ?_
      show Go _ _ _ _ _ _ 136 [(0, rc 20), (1, rc a0), (2, vo a1), (3, vi l3), (4, vi l4), (5, vi l5), (6, vi l6)] [] ((y4, T), Y) _
      refine go_blk rfl [(.iinc 6 1, 3, 6, 0, 0, .inl 1)] 136 139 _ _ _ (by decide +kernel) ?_
      show Go _ _ _ _ _ _ 139 [(6, vi (l6 + 1)), (0, rc 20), (1, rc a0), (2, vo a1), (3, vi l3), (4, vi l4), (5, vi l5)] [] ((y4, T), Y) _
      refine go_goto (off := (-136)) (tgt := 3) (by decide +kernel) (by decide) ?_
      refine go_pick [1, 2, 3, 4, 5, 6, 0] rfl ?_
      exact ih _ _ _ h k
theorem ret2_playPaces {S : jS} {T : jT} {Y : jS × jT} {a0 : Nat} {a1 : Option Nat} {a2 : Int32} {a3 : Int32} {a4 : Int32} {S1 : jS} {x : Unit} (hT : LayC T) (h0 : LayHall T a0) (h1 : ∀ q, a1 = some q → LayRule T q) (h : f2_playPaces T S a0 a1 a2 a3 a4 = some (S1, x)) : Ret M2_playPaces 6 0 0 [rc 20, rc a0, vo a1, vi a2, vi a3, vi a4] ((S, T), Y) (none) ((S1, T), Y) := by
  refine Ret.of (by decide +kernel) (Nat.le_of_ble_eq_true rfl) ?_
  unfold f2_playPaces at h
  show Go _ _ _ _ _ _ 0 [(0, rc 20), (1, rc a0), (2, vo a1), (3, vi a2), (4, vi a3), (5, vi a4)] [] ((S, T), Y) _
  refine go_blk rfl [(.iconst 0, 1, 0, 0, 0, .inl 0), (.istore 6, 2, 6, 0, 0, .inl 0)] 0 3 _ _ _ (by decide +kernel) ?_
  show Go _ _ _ _ _ _ 3 [(6, vi 0), (0, rc 20), (1, rc a0), (2, vo a1), (3, vi a2), (4, vi a3), (5, vi a4)] [] ((S, T), Y) _
  refine go_pick [1, 2, 3, 4, 5, 6, 0] rfl ?_
  obtain ⟨y5, hy5, h⟩ := bind_el h
  refine f2_playPaces_L1_ok hT h0 h1 _ _ _ _ hy5 ?_
  show Go _ _ _ _ _ _ 142 [] [] ((y5, T), Y) _
  obtain ⟨rfl, rfl⟩ := Prod.mk.inj (Option.some.inj h)
  exact go_return (by decide +kernel) rfl ⟨rfl, rfl⟩
def f2_isRest_L1 (S : jS) (l1 : Int32) (l2 : Int32) (l3 : Int32) : Nat → Int32 → Option Int32
  | 0, _ => none
  | n + 1, l4 => (if 6 ≤ l4 then some 1 else (if inb ((l4 * 6) + l3) 36 then (if inb l1 36 then (if (S.1 67 l1.toNatClampNeg) < (S.1 67 ((l4 * 6) + l3).toNatClampNeg) then some 0 else (if inb ((l2 * 6) + l4) 36 then (if (S.1 68 ((l2 * 6) + l4).toNatClampNeg) ≤ (S.1 68 l1.toNatClampNeg) then f2_isRest_L1 S l1 l2 l3 n (l4 + 1) else some 0) else none)) else none) else none))
def f2_isRest (S : jS) (a0 : Int32) : Option Int32 := f2_isRest_L1 S a0 (a0 / 6) (irm a0 6) jF 0
theorem f2_isRest_L1_ok {T : jT} {Y : jS × jT} {S : jS} {l1 : Int32} {l2 : Int32} {l3 : Int32} {x : Int32} (hT : LayC T) : ∀ (n : Nat) (l4 : Int32), f2_isRest_L1 S l1 l2 l3 n l4 = some x → Go M2_isRest 1 0 0 0 0 13 [(0, rc 20), (1, vi l1), (2, vi l2), (3, vi l3), (4, vi l4)] [] ((S, T), Y) (eqQ (some (vi x)) ((S, T), Y)) := by
  intro n
  induction n with
  | zero => intro l4 h; exact absurd h (by intro z; cases z)
  | succ n ih =>
    intro l4 h
    rw [f2_isRest_L1] at h
    refine go_blk rfl [(.iload 4, 2, 4, 0, 0, .inl 0), (.bipush 6, 2, 0, 0, 0, .inl 6)] 13 17 _ _ _ (by decide +kernel) ?_
    show Go _ _ _ _ _ _ 17 [(0, rc 20), (1, vi l1), (2, vi l2), (3, vi l3), (4, vi l4)] [vi 6, vi l4] ((S, T), Y) _
    refine ite_el h (fun q1 h => ?_) (fun q1 h => ?_)
    · refine go_icmp_ge (off := 53) (tgt := 70) (by decide +kernel) (by decide) (fun _ => ?_) (fun z => absurd q1 z)
      refine go_blk rfl [(.iconst 1, 1, 0, 0, 0, .inl 1)] 70 71 _ _ _ (by decide +kernel) ?_
      show Go _ _ _ _ _ _ 71 [(0, rc 20), (1, vi l1), (2, vi l2), (3, vi l3), (4, vi l4)] [vi 1] ((S, T), Y) _
      obtain rfl := Option.some.inj h
      exact go_ireturn (by decide +kernel) rfl rfl ⟨rfl, rfl⟩
    · refine go_icmp_ge (off := 53) (tgt := 70) (by decide +kernel) (by decide) (fun z => absurd z q1) (fun _ => ?_)
      refine gd_el h (fun q2 h => ?_)
      refine gd_el h (fun q3 h => ?_)
      refine go_blk rfl [(.aload_n 0, 1, 0, 0, 0, .inl 0), (.getfield 33, 3, 2, 6, 1, .inl 0), (.iload 4, 2, 4, 0, 0, .inl 0), (.bipush 6, 2, 0, 0, 0, .inl 6), (.imul, 1, 0, 0, 0, .inl 0), (.iload_n 3, 1, 3, 0, 0, .inl 0), (.iadd, 1, 0, 0, 0, .inl 0), (.iaload, 1, 20, 0, 0, .inl 0), (.aload_n 0, 1, 0, 0, 0, .inl 0), (.getfield 33, 3, 2, 6, 1, .inl 0), (.iload_n 1, 1, 1, 0, 0, .inl 0), (.iaload, 1, 20, 0, 0, .inl 0)] 20 38 _ _ _ (by decide +kernel) ?_
      refine And.intro (lc_t20 hT) (Exists.intro _ (And.intro (gRc (lc_r2_6 hT)) ?_))
      refine And.intro (lc_t67 hT) (Exists.intro _ (And.intro (lc_n67 hT) (And.intro (inb_in q2) ?_)))
      refine And.intro (lc_t20 hT) (Exists.intro _ (And.intro (gRc (lc_r2_6 hT)) ?_))
      refine And.intro (lc_t67 hT) (Exists.intro _ (And.intro (lc_n67 hT) (And.intro (inb_in q3) ?_)))
      show Go _ _ _ _ _ _ 38 [(0, rc 20), (1, vi l1), (2, vi l2), (3, vi l3), (4, vi l4)] [vi (S.1 67 l1.toNatClampNeg), vi (S.1 67 ((l4 * 6) + l3).toNatClampNeg)] ((S, T), Y) _
      refine ite_el h (fun q4 h => ?_) (fun q4 h => ?_)
      · refine go_icmp_gt (off := 24) (tgt := 62) (by decide +kernel) (by decide) (fun _ => ?_) (fun z => absurd q4 z)
        refine go_blk rfl [(.iconst 0, 1, 0, 0, 0, .inl 0)] 62 63 _ _ _ (by decide +kernel) ?_
        show Go _ _ _ _ _ _ 63 [(0, rc 20), (1, vi l1), (2, vi l2), (3, vi l3), (4, vi l4)] [vi 0] ((S, T), Y) _
        obtain rfl := Option.some.inj h
        exact go_ireturn (by decide +kernel) rfl rfl ⟨rfl, rfl⟩
      · refine go_icmp_gt (off := 24) (tgt := 62) (by decide +kernel) (by decide) (fun z => absurd z q4) (fun _ => ?_)
        refine gd_el h (fun q5 h => ?_)
        refine go_blk rfl [(.aload_n 0, 1, 0, 0, 0, .inl 0), (.getfield 36, 3, 2, 7, 1, .inl 0), (.iload_n 2, 1, 2, 0, 0, .inl 0), (.bipush 6, 2, 0, 0, 0, .inl 6), (.imul, 1, 0, 0, 0, .inl 0), (.iload 4, 2, 4, 0, 0, .inl 0), (.iadd, 1, 0, 0, 0, .inl 0), (.iaload, 1, 20, 0, 0, .inl 0), (.aload_n 0, 1, 0, 0, 0, .inl 0), (.getfield 36, 3, 2, 7, 1, .inl 0), (.iload_n 1, 1, 1, 0, 0, .inl 0), (.iaload, 1, 20, 0, 0, .inl 0)] 41 59 _ _ _ (by decide +kernel) ?_
        refine And.intro (lc_t20 hT) (Exists.intro _ (And.intro (gRc (lc_r2_7 hT)) ?_))
        refine And.intro (lc_t68 hT) (Exists.intro _ (And.intro (lc_n68 hT) (And.intro (inb_in q5) ?_)))
        refine And.intro (lc_t20 hT) (Exists.intro _ (And.intro (gRc (lc_r2_7 hT)) ?_))
        refine And.intro (lc_t68 hT) (Exists.intro _ (And.intro (lc_n68 hT) (And.intro (inb_in q3) ?_)))
        show Go _ _ _ _ _ _ 59 [(0, rc 20), (1, vi l1), (2, vi l2), (3, vi l3), (4, vi l4)] [vi (S.1 68 l1.toNatClampNeg), vi (S.1 68 ((l2 * 6) + l4).toNatClampNeg)] ((S, T), Y) _
        refine ite_el h (fun q6 h => ?_) (fun q6 h => ?_)
        · refine go_icmp_le (off := 5) (tgt := 64) (by decide +kernel) (by decide) (fun _ => ?_) (fun z => absurd q6 z)
          refine go_blk rfl [(.iinc 4 1, 3, 4, 0, 0, .inl 1)] 64 67 _ _ _ (by decide +kernel) ?_
          show Go _ _ _ _ _ _ 67 [(4, vi (l4 + 1)), (0, rc 20), (1, vi l1), (2, vi l2), (3, vi l3)] [] ((S, T), Y) _
          refine go_goto (off := (-54)) (tgt := 13) (by decide +kernel) (by decide) ?_
          refine go_pick [1, 2, 3, 4, 0] rfl ?_
          exact ih _ h
        · refine go_icmp_le (off := 5) (tgt := 64) (by decide +kernel) (by decide) (fun z => absurd z q6) (fun _ => ?_)
          refine go_blk rfl [(.iconst 0, 1, 0, 0, 0, .inl 0)] 62 63 _ _ _ (by decide +kernel) ?_
          show Go _ _ _ _ _ _ 63 [(0, rc 20), (1, vi l1), (2, vi l2), (3, vi l3), (4, vi l4)] [vi 0] ((S, T), Y) _
          obtain rfl := Option.some.inj h
          exact go_ireturn (by decide +kernel) rfl rfl ⟨rfl, rfl⟩
theorem ret2_isRest {S : jS} {T : jT} {Y : jS × jT} {a0 : Int32} {x : Int32} (hT : LayC T) (h : f2_isRest S a0 = some x) : Ret M2_isRest 1 0 0 [rc 20, vi a0] ((S, T), Y) (some (vi x)) ((S, T), Y) := by
  refine Ret.of (by decide +kernel) (Nat.le_of_ble_eq_true rfl) ?_
  unfold f2_isRest at h
  show Go _ _ _ _ _ _ 0 [(0, rc 20), (1, vi a0)] [] ((S, T), Y) _
  refine go_blk rfl [(.iload_n 1, 1, 1, 0, 0, .inl 0), (.bipush 6, 2, 0, 0, 0, .inl 6), (.idiv, 1, 0, 0, 0, .inl 0), (.istore_n 2, 1, 2, 0, 0, .inl 0), (.iload_n 1, 1, 1, 0, 0, .inl 0), (.bipush 6, 2, 0, 0, 0, .inl 6), (.irem, 1, 0, 0, 0, .inl 0), (.istore_n 3, 1, 3, 0, 0, .inl 0), (.iconst 0, 1, 0, 0, 0, .inl 0), (.istore 4, 2, 4, 0, 0, .inl 0)] 0 13 _ _ _ (by decide +kernel) ?_
  refine And.intro (by decide) ?_
  refine And.intro (by decide) ?_
  show Go _ _ _ _ _ _ 13 [(4, vi 0), (3, vi (irm a0 6)), (2, vi (a0 / 6)), (0, rc 20), (1, vi a0)] [] ((S, T), Y) _
  refine go_pick [3, 4, 2, 1, 0] rfl ?_
  exact f2_isRest_L1_ok hT _ _ h
def f2_countRests_L1 (S : jS) : Nat → Int32 → Int32 → Option Int32
  | 0, _, _ => none
  | n + 1, l1, l2 => (if 36 ≤ l2 then some l1 else Option.bind (f2_isRest S l2) (fun r1 => f2_countRests_L1 S n (((if r1 = 0 then l1 else (l1 + 1)) : Int32)) (l2 + 1)))
def f2_countRests (S : jS) : Option Int32 := Option.bind (f2_countRests_L1 S jF 0 0) (fun y2 => some y2)
theorem f2_countRests_L1_ok {T : jT} {Y : jS × jT} {S : jS} {Q : Option jV → jMem → Prop} (hT : LayC T) : ∀ (n : Nat) (l1 : Int32) (l2 : Int32) (r : Int32), f2_countRests_L1 S n l1 l2 = some r → Go M2_countRests 2 0 0 0 0 27 [(1, vi r)] [] ((S, T), Y) Q → Go M2_countRests 2 0 0 0 0 4 [(0, rc 20), (1, vi l1), (2, vi l2)] [] ((S, T), Y) Q := by
  intro n
  induction n with
  | zero => intro l1 l2 r h k; exact absurd h (by intro z; cases z)
  | succ n ih =>
    intro l1 l2 r h k
    rw [f2_countRests_L1] at h
    refine go_blk rfl [(.iload_n 2, 1, 2, 0, 0, .inl 0), (.bipush 36, 2, 0, 0, 0, .inl 36)] 4 7 _ _ _ (by decide +kernel) ?_
    show Go _ _ _ _ _ _ 7 [(0, rc 20), (1, vi l1), (2, vi l2)] [vi 36, vi l2] ((S, T), Y) _
    refine ite_el h (fun q1 h => ?_) (fun q1 h => ?_)
    · refine go_icmp_ge (off := 20) (tgt := 27) (by decide +kernel) (by decide) (fun _ => ?_) (fun z => absurd q1 z)
      obtain rfl := Option.some.inj h
      refine go_pick [1] rfl ?_
      exact k
    · refine go_icmp_ge (off := 20) (tgt := 27) (by decide +kernel) (by decide) (fun z => absurd z q1) (fun _ => ?_)
      refine go_blk rfl [(.aload_n 0, 1, 0, 0, 0, .inl 0), (.iload_n 2, 1, 2, 0, 0, .inl 0)] 10 12 _ _ _ (by decide +kernel) ?_
      show Go _ _ _ _ _ _ 12 [(0, rc 20), (1, vi l1), (2, vi l2)] [vi l2, rc 20] ((S, T), Y) _
      obtain ⟨r1, hr1, h⟩ := bind_el h
      refine go_callV (idx := 119) (z := 0) (M' := M2_isRest) (n := 1) (A := [vi l2]) (v' := some (vi r1)) (μ' := ((S, T), Y)) (d' := 1) (mc' := 0) (ms' := 0) (kc' := 0) (ks' := 0) (ci := 2) (x := .inl 20) (by decide +kernel) ml_2_119 rfl wv2_isRest rfl (by decide) rfl (lc_t20 hT) (ret2_isRest hT hr1) (by decide) rfl rfl (Nat.le_of_ble_eq_true rfl) rfl (jag rfl rfl) ?_
      show Go _ _ _ _ _ _ 15 [(0, rc 20), (1, vi l1), (2, vi l2)] [vi r1] ((S, T), Y) _
      have key : ∀ z0 : Int32, z0 = ((if r1 = 0 then l1 else (l1 + 1)) : Int32) → Go M2_countRests 2 0 0 0 0 21 [(0, rc 20), (1, vi z0), (2, vi l2)] [] ((S, T), Y) Q := by
        intro z0 ez0
        subst ez0
        refine go_blk rfl [(.iinc 2 1, 3, 2, 0, 0, .inl 1)] 21 24 _ _ _ (by decide +kernel) ?_
        show Go _ _ _ _ _ _ 24 [(2, vi (l2 + 1)), (0, rc 20), (1, vi (((if r1 = 0 then l1 else (l1 + 1)) : Int32)))] [] ((S, T), Y) _
        refine go_goto (off := (-20)) (tgt := 4) (by decide +kernel) (by decide) ?_
        refine go_pick [1, 2, 0] rfl ?_
        exact ih _ _ _ h k
      clear h
      by_cases q2 : r1 = 0
      · refine go_if_eq (off := 6) (tgt := 21) (by decide +kernel) (by decide) (fun _ => ?_) (fun z => absurd q2 z)
        refine go_pick [0, 1, 2] rfl ?_; exact key _ (by rw [if_pos q2])
      · refine go_if_eq (off := 6) (tgt := 21) (by decide +kernel) (by decide) (fun z => absurd z q2) (fun _ => ?_)
        refine go_blk rfl [(.iinc 1 1, 3, 1, 0, 0, .inl 1)] 18 21 _ _ _ (by decide +kernel) ?_
        show Go _ _ _ _ _ _ 21 [(1, vi (l1 + 1)), (0, rc 20), (2, vi l2)] [] ((S, T), Y) _
        refine go_pick [1, 0, 2] rfl ?_; exact key _ (by rw [if_neg q2])
theorem ret2_countRests {S : jS} {T : jT} {Y : jS × jT} {x : Int32} (hT : LayC T) (h : f2_countRests S = some x) : Ret M2_countRests 2 0 0 [rc 20] ((S, T), Y) (some (vi x)) ((S, T), Y) := by
  refine Ret.of (by decide +kernel) (Nat.le_of_ble_eq_true rfl) ?_
  unfold f2_countRests at h
  show Go _ _ _ _ _ _ 0 [(0, rc 20)] [] ((S, T), Y) _
  refine go_blk rfl [(.iconst 0, 1, 0, 0, 0, .inl 0), (.istore_n 1, 1, 1, 0, 0, .inl 0), (.iconst 0, 1, 0, 0, 0, .inl 0), (.istore_n 2, 1, 2, 0, 0, .inl 0)] 0 4 _ _ _ (by decide +kernel) ?_
  show Go _ _ _ _ _ _ 4 [(2, vi 0), (1, vi 0), (0, rc 20)] [] ((S, T), Y) _
  refine go_pick [2, 1, 0] rfl ?_
  obtain ⟨y2, hy2, h⟩ := bind_el h
  refine f2_countRests_L1_ok hT _ _ _ _ hy2 ?_
  show Go _ _ _ _ _ _ 27 [(1, vi y2)] [] ((S, T), Y) _
  refine go_blk rfl [(.iload_n 1, 1, 1, 0, 0, .inl 0)] 27 28 _ _ _ (by decide +kernel) ?_
  show Go _ _ _ _ _ _ 28 [(1, vi y2)] [vi y2] ((S, T), Y) _
  obtain rfl := Option.some.inj h
  exact go_ireturn (by decide +kernel) rfl rfl ⟨rfl, rfl⟩
def f2_firstRest_L1 (S : jS) : Nat → Int32 → Option Int32
  | 0, _ => none
  | n + 1, l1 => (if 36 ≤ l1 then some ((-1)) else Option.bind (f2_isRest S l1) (fun r1 => (if r1 = 0 then f2_firstRest_L1 S n (l1 + 1) else some l1)))
def f2_firstRest (S : jS) : Option Int32 := f2_firstRest_L1 S jF 0
theorem f2_firstRest_L1_ok {T : jT} {Y : jS × jT} {S : jS} {x : Int32} (hT : LayC T) : ∀ (n : Nat) (l1 : Int32), f2_firstRest_L1 S n l1 = some x → Go M2_firstRest 2 0 0 0 0 2 [(0, rc 20), (1, vi l1)] [] ((S, T), Y) (eqQ (some (vi x)) ((S, T), Y)) := by
  intro n
  induction n with
  | zero => intro l1 h; exact absurd h (by intro z; cases z)
  | succ n ih =>
    intro l1 h
    rw [f2_firstRest_L1] at h
    refine go_blk rfl [(.iload_n 1, 1, 1, 0, 0, .inl 0), (.bipush 36, 2, 0, 0, 0, .inl 36)] 2 5 _ _ _ (by decide +kernel) ?_
    show Go _ _ _ _ _ _ 5 [(0, rc 20), (1, vi l1)] [vi 36, vi l1] ((S, T), Y) _
    refine ite_el h (fun q1 h => ?_) (fun q1 h => ?_)
    · refine go_icmp_ge (off := 19) (tgt := 24) (by decide +kernel) (by decide) (fun _ => ?_) (fun z => absurd q1 z)
      refine go_blk rfl [(.iconst (-1), 1, 0, 0, 0, .inl (-1))] 24 25 _ _ _ (by decide +kernel) ?_
      show Go _ _ _ _ _ _ 25 [(0, rc 20), (1, vi l1)] [vi ((-1))] ((S, T), Y) _
      obtain rfl := Option.some.inj h
      exact go_ireturn (by decide +kernel) rfl rfl ⟨rfl, rfl⟩
    · refine go_icmp_ge (off := 19) (tgt := 24) (by decide +kernel) (by decide) (fun z => absurd z q1) (fun _ => ?_)
      refine go_blk rfl [(.aload_n 0, 1, 0, 0, 0, .inl 0), (.iload_n 1, 1, 1, 0, 0, .inl 0)] 8 10 _ _ _ (by decide +kernel) ?_
      show Go _ _ _ _ _ _ 10 [(0, rc 20), (1, vi l1)] [vi l1, rc 20] ((S, T), Y) _
      obtain ⟨r1, hr1, h⟩ := bind_el h
      refine go_callV (idx := 119) (z := 0) (M' := M2_isRest) (n := 1) (A := [vi l1]) (v' := some (vi r1)) (μ' := ((S, T), Y)) (d' := 1) (mc' := 0) (ms' := 0) (kc' := 0) (ks' := 0) (ci := 2) (x := .inl 20) (by decide +kernel) ml_2_119 rfl wv2_isRest rfl (by decide) rfl (lc_t20 hT) (ret2_isRest hT hr1) (by decide) rfl rfl (Nat.le_of_ble_eq_true rfl) rfl (jag rfl rfl) ?_
      show Go _ _ _ _ _ _ 13 [(0, rc 20), (1, vi l1)] [vi r1] ((S, T), Y) _
      refine ite_el h (fun q2 h => ?_) (fun q2 h => ?_)
      · refine go_if_eq (off := 5) (tgt := 18) (by decide +kernel) (by decide) (fun _ => ?_) (fun z => absurd q2 z)
        refine go_blk rfl [(.iinc 1 1, 3, 1, 0, 0, .inl 1)] 18 21 _ _ _ (by decide +kernel) ?_
        show Go _ _ _ _ _ _ 21 [(1, vi (l1 + 1)), (0, rc 20)] [] ((S, T), Y) _
        refine go_goto (off := (-19)) (tgt := 2) (by decide +kernel) (by decide) ?_
        refine go_pick [1, 0] rfl ?_
        exact ih _ h
      · refine go_if_eq (off := 5) (tgt := 18) (by decide +kernel) (by decide) (fun z => absurd z q2) (fun _ => ?_)
        refine go_blk rfl [(.iload_n 1, 1, 1, 0, 0, .inl 0)] 16 17 _ _ _ (by decide +kernel) ?_
        show Go _ _ _ _ _ _ 17 [(0, rc 20), (1, vi l1)] [vi l1] ((S, T), Y) _
        obtain rfl := Option.some.inj h
        exact go_ireturn (by decide +kernel) rfl rfl ⟨rfl, rfl⟩
theorem ret2_firstRest {S : jS} {T : jT} {Y : jS × jT} {x : Int32} (hT : LayC T) (h : f2_firstRest S = some x) : Ret M2_firstRest 2 0 0 [rc 20] ((S, T), Y) (some (vi x)) ((S, T), Y) := by
  refine Ret.of (by decide +kernel) (Nat.le_of_ble_eq_true rfl) ?_
  unfold f2_firstRest at h
  show Go _ _ _ _ _ _ 0 [(0, rc 20)] [] ((S, T), Y) _
  refine go_blk rfl [(.iconst 0, 1, 0, 0, 0, .inl 0), (.istore_n 1, 1, 1, 0, 0, .inl 0)] 0 2 _ _ _ (by decide +kernel) ?_
  show Go _ _ _ _ _ _ 2 [(1, vi 0), (0, rc 20)] [] ((S, T), Y) _
  refine go_pick [1, 0] rfl ?_
  exact f2_firstRest_L1_ok hT _ _ h
