def f8_leastFrom_L1 (T : jT) (S : jS) (a0 : Nat) (l2 : Int32) (l3 : Int32) (l4 : Int32) : Nat → Int32 → Int32 → Option Int32
  | 0, _, _ => none
  | n + 1, l5, l6 => (if (S.1 a0 1) ≤ l6 then some l5 else Option.bind (f4_isIn S a0 l2) (fun r1 => (if r1 = 0 then some l5 else Option.bind (f8_isFree S a0 l6 l3) (fun r2 => Option.bind (if r2 = 0 then some l5 else (if inb (l2 + 1) 8 then Option.bind (T.1 81 (l2 + 1).toNatClampNeg) (fun b9 => (if inb (l3 ||| ((1 : Int32) <<< (l6 &&& 31))) 64 then Option.bind (f4_timeFor S a0 l2 l6) (fun r3 => Option.bind (if l4 = 0 then some (mmax r3 (S.1 b9 (l3 ||| ((1 : Int32) <<< (l6 &&& 31))).toNatClampNeg)) else some (r3 + (S.1 b9 (l3 ||| ((1 : Int32) <<< (l6 &&& 31))).toNatClampNeg))) (fun (y4 : Int32) => some (mmin l5 y4))) else none)) else none)) (fun (y5 : Int32) => f8_leastFrom_L1 T S a0 l2 l3 l4 n y5 (l6 + 1))))))
def f8_leastFrom (T : jT) (S : jS) (a0 : Nat) (a1 : Int32) (a2 : Int32) (a3 : Int32) : Option Int32 := (if inb (a1 + 1) 8 then Option.bind (T.1 81 (a1 + 1).toNatClampNeg) (fun b2 => (if inb a2 64 then Option.bind (f8_leastFrom_L1 T S a0 a1 a2 a3 jF (S.1 b2 a2.toNatClampNeg) 0) (fun y6 => some y6) else none)) else none)
theorem f8_leastFrom_L1_ok {T : jT} {Y : jS × jT} {S : jS} {a0 : Nat} {l2 : Int32} {l3 : Int32} {l4 : Int32} {Q : Option jV → jMem → Prop} (hT : LayC T) (h0 : LayHall T a0) : ∀ (n : Nat) (l5 : Int32) (l6 : Int32) (r : Int32), f8_leastFrom_L1 T S a0 l2 l3 l4 n l5 l6 = some r → Go M8_leastFrom 3 0 0 0 0 101 [(5, vi r)] [] ((S, T), Y) Q → Go M8_leastFrom 3 0 0 0 0 15 [(0, rc 80), (1, rc a0), (2, vi l2), (3, vi l3), (4, vi l4), (5, vi l5), (6, vi l6)] [] ((S, T), Y) Q := by
  intro n
  induction n with
  | zero => intro l5 l6 r h k; exact absurd h (by intro z; cases z)
  | succ n ih =>
    intro l5 l6 r h k
    rw [f8_leastFrom_L1] at h
    refine go_blk rfl [(.iload 6, 2, 6, 0, 0, .inl 0), (.aload_n 1, 1, 1, 0, 0, .inl 0), (.getfield 45, 3, 4, 1, 0, .inl 0)] 15 21 _ _ _ (by decide +kernel) ?_
    refine And.intro h0.1 ?_
    show Go _ _ _ _ _ _ 21 [(0, rc 80), (1, rc a0), (2, vi l2), (3, vi l3), (4, vi l4), (5, vi l5), (6, vi l6)] [vi (S.1 a0 1), vi l6] ((S, T), Y) _
    refine ite_el h (fun q5 h => ?_) (fun q5 h => ?_)
    · refine go_icmp_ge (off := 80) (tgt := 101) (by decide +kernel) (by decide) (fun _ => ?_) (fun z => absurd q5 z)
      obtain rfl := Option.some.inj h
      refine go_pick [5] rfl ?_
      exact k
    · refine go_icmp_ge (off := 80) (tgt := 101) (by decide +kernel) (by decide) (fun z => absurd z q5) (fun _ => ?_)
      refine go_blk rfl [(.aload_n 1, 1, 1, 0, 0, .inl 0), (.iload_n 2, 1, 2, 0, 0, .inl 0)] 24 26 _ _ _ (by decide +kernel) ?_
      show Go _ _ _ _ _ _ 26 [(0, rc 80), (1, rc a0), (2, vi l2), (3, vi l3), (4, vi l4), (5, vi l5), (6, vi l6)] [vi l2, rc a0] ((S, T), Y) _
      obtain ⟨r1, hr1, h⟩ := bind_el h
      refine go_callV (idx := 48) (z := 1) (M' := M4_isIn) (n := 1) (A := [vi l2]) (v' := some (vi r1)) (μ' := ((S, T), Y)) (d' := 2) (mc' := 0) (ms' := 0) (kc' := 0) (ks' := 0) (ci := 4) (x := .inl a0) (by decide +kernel) ml_8_48 rfl wv4_isIn rfl (by decide) rfl h0.1 (ret4_isIn h0 hr1) (by decide) rfl rfl (Nat.le_of_ble_eq_true rfl) rfl (jag rfl rfl) ?_
      show Go _ _ _ _ _ _ 29 [(0, rc 80), (1, rc a0), (2, vi l2), (3, vi l3), (4, vi l4), (5, vi l5), (6, vi l6)] [vi r1] ((S, T), Y) _
      refine ite_el h (fun q6 h => ?_) (fun q6 h => ?_)
      · refine go_if_eq (off := 72) (tgt := 101) (by decide +kernel) (by decide) (fun _ => ?_) (fun z => absurd q6 z)
        obtain rfl := Option.some.inj h
        refine go_pick [5] rfl ?_
        exact k
      · refine go_if_eq (off := 72) (tgt := 101) (by decide +kernel) (by decide) (fun z => absurd z q6) (fun _ => ?_)
        refine go_blk rfl [(.aload_n 1, 1, 1, 0, 0, .inl 0), (.iload 6, 2, 6, 0, 0, .inl 0), (.iload_n 3, 1, 3, 0, 0, .inl 0)] 32 36 _ _ _ (by decide +kernel) ?_
        show Go _ _ _ _ _ _ 36 [(0, rc 80), (1, rc a0), (2, vi l2), (3, vi l3), (4, vi l4), (5, vi l5), (6, vi l6)] [vi l3, vi l6, rc a0] ((S, T), Y) _
        obtain ⟨r2, hr2, h⟩ := bind_el h
        refine go_callS (idx := 52) (z := 0) (M' := M8_isFree) (n := 3) (A := [rc a0, vi l6, vi l3]) (v' := some (vi r2)) (μ' := ((S, T), Y)) (d' := 1) (mc' := 0) (ms' := 0) (kc' := 0) (ks' := 0) (by decide +kernel) ml_8_52 rfl ws8_isFree rfl (ret8_isFree hT h0 hr2) (by decide) rfl rfl (Nat.le_of_ble_eq_true rfl) rfl (jag rfl rfl) ?_
        show Go _ _ _ _ _ _ 39 [(0, rc 80), (1, rc a0), (2, vi l2), (3, vi l3), (4, vi l4), (5, vi l5), (6, vi l6)] [vi r2] ((S, T), Y) _
        obtain ⟨y5, hy5, h⟩ := bind_el h
        have key : Go M8_leastFrom 3 0 0 0 0 95 [(0, rc 80), (1, rc a0), (2, vi l2), (3, vi l3), (4, vi l4), (5, vi y5), (6, vi l6)] [] ((S, T), Y) Q := by
          refine go_blk rfl [(.iinc 6 1, 3, 6, 0, 0, .inl 1)] 95 98 _ _ _ (by decide +kernel) ?_
          show Go _ _ _ _ _ _ 98 [(6, vi (l6 + 1)), (0, rc 80), (1, rc a0), (2, vi l2), (3, vi l3), (4, vi l4), (5, vi y5)] [] ((S, T), Y) _
          refine go_goto (off := (-83)) (tgt := 15) (by decide +kernel) (by decide) ?_
          refine go_pick [1, 2, 3, 4, 5, 6, 0] rfl ?_
          exact ih _ _ _ h k
        replace h := hy5
        refine ite_el h (fun q7 h => ?_) (fun q7 h => ?_)
        · refine go_if_eq (off := 56) (tgt := 95) (by decide +kernel) (by decide) (fun _ => ?_) (fun z => absurd q7 z)
          obtain rfl := Option.some.inj h
          refine go_pick [0, 1, 2, 3, 4, 5, 6] rfl ?_
          exact key
        · refine go_if_eq (off := 56) (tgt := 95) (by decide +kernel) (by decide) (fun z => absurd z q7) (fun _ => ?_)
          refine gd_el h (fun q8 h => ?_)
          refine go_blk rfl [(.aload_n 0, 1, 0, 0, 0, .inl 0), (.getfield 13, 3, 8, 0, 1, .inl 0), (.iload_n 2, 1, 2, 0, 0, .inl 0), (.iconst 1, 1, 0, 0, 0, .inl 1), (.iadd, 1, 0, 0, 0, .inl 0), (.aaload, 1, 27, 0, 0, .inl 0), (.iload_n 3, 1, 3, 0, 0, .inl 0), (.iconst 1, 1, 0, 0, 0, .inl 1), (.iload 6, 2, 6, 0, 0, .inl 0), (.ishl, 1, 0, 0, 0, .inl 0), (.ior, 1, 0, 0, 0, .inl 0)] 42 56 _ _ _ (by decide +kernel) ?_
          refine And.intro (lc_t80 hT) (Exists.intro _ (And.intro (gRc (lc_r8_0 hT)) ?_))
          refine And.intro (lc_t81 hT) (Exists.intro _ (And.intro (lc_n81 hT) (And.intro (inb_in q8) (Exists.intro _ (And.intro gRo ?_)))))
          show Go _ _ _ _ _ _ 56 [(0, rc 80), (1, rc a0), (2, vi l2), (3, vi l3), (4, vi l4), (5, vi l5), (6, vi l6)] [vi (l3 ||| ((1 : Int32) <<< (l6 &&& 31))), vo (T.1 81 (l2 + 1).toNatClampNeg)] ((S, T), Y) _
          obtain ⟨b9, o10, h⟩ := bind_el h
          rw [o10]
          refine gd_el h (fun q11 h => ?_)
          refine go_blk rfl [(.iaload, 1, 20, 0, 0, .inl 0), (.istore 7, 2, 7, 0, 0, .inl 0), (.aload_n 1, 1, 1, 0, 0, .inl 0), (.iload_n 2, 1, 2, 0, 0, .inl 0), (.iload 6, 2, 6, 0, 0, .inl 0)] 56 63 _ _ _ (by decide +kernel) ?_
          refine And.intro (((lc_e81 hT) (l2 + 1).toNatClampNeg) b9 o10).1 (Exists.intro _ (And.intro (((lc_e81 hT) (l2 + 1).toNatClampNeg) b9 o10).2 (And.intro (inb_in q11) ?_)))
          show Go _ _ _ _ _ _ 63 [(7, vi (S.1 b9 (l3 ||| ((1 : Int32) <<< (l6 &&& 31))).toNatClampNeg)), (0, rc 80), (1, rc a0), (2, vi l2), (3, vi l3), (4, vi l4), (5, vi l5), (6, vi l6)] [vi l6, vi l2, rc a0] ((S, T), Y) _
          obtain ⟨r3, hr3, h⟩ := bind_el h
          refine go_callV (idx := 56) (z := 1) (M' := M4_timeFor) (n := 2) (A := [vi l2, vi l6]) (v' := some (vi r3)) (μ' := ((S, T), Y)) (d' := 2) (mc' := 0) (ms' := 0) (kc' := 0) (ks' := 0) (ci := 4) (x := .inl a0) (by decide +kernel) ml_8_56 rfl wv4_timeFor rfl (by decide) rfl h0.1 (ret4_timeFor h0 hr3) (by decide) rfl rfl (Nat.le_of_ble_eq_true rfl) rfl (jag rfl rfl) ?_
          show Go _ _ _ _ _ _ 66 [(7, vi (S.1 b9 (l3 ||| ((1 : Int32) <<< (l6 &&& 31))).toNatClampNeg)), (0, rc 80), (1, rc a0), (2, vi l2), (3, vi l3), (4, vi l4), (5, vi l5), (6, vi l6)] [vi r3] ((S, T), Y) _
          refine go_blk rfl [(.istore 8, 2, 8, 0, 0, .inl 0), (.iload 5, 2, 5, 0, 0, .inl 0), (.iload 4, 2, 4, 0, 0, .inl 0)] 66 72 _ _ _ (by decide +kernel) ?_
          show Go _ _ _ _ _ _ 72 [(8, vi r3), (7, vi (S.1 b9 (l3 ||| ((1 : Int32) <<< (l6 &&& 31))).toNatClampNeg)), (0, rc 80), (1, rc a0), (2, vi l2), (3, vi l3), (4, vi l4), (5, vi l5), (6, vi l6)] [vi l4, vi l5] ((S, T), Y) _
          obtain ⟨y4, hy4, h⟩ := bind_el h
          have key : Go M8_leastFrom 3 0 0 0 0 90 [(0, rc 80), (1, rc a0), (2, vi l2), (3, vi l3), (4, vi l4), (6, vi l6)] [vi y4, vi l5] ((S, T), Y) Q := by
            refine go_mmin (idx := 31) (by decide +kernel) ml_8_31 rfl (by decide) (Nat.le_of_ble_eq_true rfl) ?_
            show Go _ _ _ _ _ _ 93 [(0, rc 80), (1, rc a0), (2, vi l2), (3, vi l3), (4, vi l4), (6, vi l6)] [vi (mmin l5 y4)] ((S, T), Y) _
            refine go_blk rfl [(.istore 5, 2, 5, 0, 0, .inl 0)] 93 95 _ _ _ (by decide +kernel) ?_
            show Go _ _ _ _ _ _ 95 [(5, vi (mmin l5 y4)), (0, rc 80), (1, rc a0), (2, vi l2), (3, vi l3), (4, vi l4), (6, vi l6)] [] ((S, T), Y) _
            obtain rfl := Option.some.inj h
            refine go_pick [1, 2, 3, 4, 5, 0, 6] rfl ?_
            exact key
          replace h := hy4
          refine ite_el h (fun q12 h => ?_) (fun q12 h => ?_)
          · refine go_if_eq (off := 11) (tgt := 83) (by decide +kernel) (by decide) (fun _ => ?_) (fun z => absurd q12 z)
            refine go_blk rfl [(.iload 8, 2, 8, 0, 0, .inl 0), (.iload 7, 2, 7, 0, 0, .inl 0)] 83 87 _ _ _ (by decide +kernel) ?_
            show Go _ _ _ _ _ _ 87 [(8, vi r3), (7, vi (S.1 b9 (l3 ||| ((1 : Int32) <<< (l6 &&& 31))).toNatClampNeg)), (0, rc 80), (1, rc a0), (2, vi l2), (3, vi l3), (4, vi l4), (5, vi l5), (6, vi l6)] [vi (S.1 b9 (l3 ||| ((1 : Int32) <<< (l6 &&& 31))).toNatClampNeg), vi r3, vi l5] ((S, T), Y) _
            refine go_mmax (idx := 59) (by decide +kernel) ml_8_59 rfl (by decide) (Nat.le_of_ble_eq_true rfl) ?_
            show Go _ _ _ _ _ _ 90 [(8, vi r3), (7, vi (S.1 b9 (l3 ||| ((1 : Int32) <<< (l6 &&& 31))).toNatClampNeg)), (0, rc 80), (1, rc a0), (2, vi l2), (3, vi l3), (4, vi l4), (5, vi l5), (6, vi l6)] [vi (mmax r3 (S.1 b9 (l3 ||| ((1 : Int32) <<< (l6 &&& 31))).toNatClampNeg)), vi l5] ((S, T), Y) _
            obtain rfl := Option.some.inj h
            refine go_pick [2, 3, 4, 5, 6, 8] rfl ?_
            exact key
          · refine go_if_eq (off := 11) (tgt := 83) (by decide +kernel) (by decide) (fun z => absurd z q12) (fun _ => ?_)
            refine go_blk rfl [(.iload 8, 2, 8, 0, 0, .inl 0), (.iload 7, 2, 7, 0, 0, .inl 0), (.iadd, 1, 0, 0, 0, .inl 0)] 75 80 _ _ _ (by decide +kernel) ?_
            show Go _ _ _ _ _ _ 80 [(8, vi r3), (7, vi (S.1 b9 (l3 ||| ((1 : Int32) <<< (l6 &&& 31))).toNatClampNeg)), (0, rc 80), (1, rc a0), (2, vi l2), (3, vi l3), (4, vi l4), (5, vi l5), (6, vi l6)] [vi (r3 + (S.1 b9 (l3 ||| ((1 : Int32) <<< (l6 &&& 31))).toNatClampNeg)), vi l5] ((S, T), Y) _
            refine go_goto (off := 10) (tgt := 90) (by decide +kernel) (by decide) ?_
            obtain rfl := Option.some.inj h
            refine go_pick [2, 3, 4, 5, 6, 8] rfl ?_
            exact key
theorem ret8_leastFrom {S : jS} {T : jT} {Y : jS × jT} {a0 : Nat} {a1 : Int32} {a2 : Int32} {a3 : Int32} {x : Int32} (hT : LayC T) (h0 : LayHall T a0) (h : f8_leastFrom T S a0 a1 a2 a3 = some x) : Ret M8_leastFrom 3 0 0 [rc 80, rc a0, vi a1, vi a2, vi a3] ((S, T), Y) (some (vi x)) ((S, T), Y) := by
  refine Ret.of (by decide +kernel) (Nat.le_of_ble_eq_true rfl) ?_
  unfold f8_leastFrom at h
  show Go _ _ _ _ _ _ 0 [(0, rc 80), (1, rc a0), (2, vi a1), (3, vi a2), (4, vi a3)] [] ((S, T), Y) _
  refine gd_el h (fun q1 h => ?_)
  refine go_blk rfl [(.aload_n 0, 1, 0, 0, 0, .inl 0), (.getfield 13, 3, 8, 0, 1, .inl 0), (.iload_n 2, 1, 2, 0, 0, .inl 0), (.iconst 1, 1, 0, 0, 0, .inl 1), (.iadd, 1, 0, 0, 0, .inl 0), (.aaload, 1, 27, 0, 0, .inl 0), (.iload_n 3, 1, 3, 0, 0, .inl 0)] 0 9 _ _ _ (by decide +kernel) ?_
  refine And.intro (lc_t80 hT) (Exists.intro _ (And.intro (gRc (lc_r8_0 hT)) ?_))
  refine And.intro (lc_t81 hT) (Exists.intro _ (And.intro (lc_n81 hT) (And.intro (inb_in q1) (Exists.intro _ (And.intro gRo ?_)))))
  show Go _ _ _ _ _ _ 9 [(0, rc 80), (1, rc a0), (2, vi a1), (3, vi a2), (4, vi a3)] [vi a2, vo (T.1 81 (a1 + 1).toNatClampNeg)] ((S, T), Y) _
  obtain ⟨b2, o3, h⟩ := bind_el h
  rw [o3]
  refine gd_el h (fun q4 h => ?_)
  refine go_blk rfl [(.iaload, 1, 20, 0, 0, .inl 0), (.istore 5, 2, 5, 0, 0, .inl 0), (.iconst 0, 1, 0, 0, 0, .inl 0), (.istore 6, 2, 6, 0, 0, .inl 0)] 9 15 _ _ _ (by decide +kernel) ?_
  refine And.intro (((lc_e81 hT) (a1 + 1).toNatClampNeg) b2 o3).1 (Exists.intro _ (And.intro (((lc_e81 hT) (a1 + 1).toNatClampNeg) b2 o3).2 (And.intro (inb_in q4) ?_)))
  show Go _ _ _ _ _ _ 15 [(6, vi 0), (5, vi (S.1 b2 a2.toNatClampNeg)), (0, rc 80), (1, rc a0), (2, vi a1), (3, vi a2), (4, vi a3)] [] ((S, T), Y) _
  refine go_pick [2, 3, 4, 5, 6, 1, 0] rfl ?_
  obtain ⟨y6, hy6, h⟩ := bind_el h
  refine f8_leastFrom_L1_ok hT h0 _ _ _ _ hy6 ?_
  show Go _ _ _ _ _ _ 101 [(5, vi y6)] [] ((S, T), Y) _
  refine go_blk rfl [(.iload 5, 2, 5, 0, 0, .inl 0)] 101 103 _ _ _ (by decide +kernel) ?_
  show Go _ _ _ _ _ _ 103 [(5, vi y6)] [vi y6] ((S, T), Y) _
  obtain rfl := Option.some.inj h
  exact go_ireturn (by decide +kernel) rfl rfl ⟨rfl, rfl⟩
def f8_leastTime_L1 (T : jT) (a0 : Nat) (l2 : Int32) (l3 : Int32) : Nat → jS → Int32 → Option jS
  | 0, _, _ => none
  | n + 1, S, l4 => (if 64 ≤ l4 then some S else (if inb (S.1 a0 2) 8 then Option.bind (f13_bitCount l4) (fun r3 => Option.bind (T.1 81 (S.1 a0 2).toNatClampNeg) (fun b4 => (if inb l4 64 then f8_leastTime_L1 T a0 l2 l3 n (wI S b4 l4.toNatClampNeg (((if r3 = l3 then 0 else 1048576) : Int32))) (l4 + 1) else none))) else none))
def f8_leastTime_L3 (T : jT) (a0 : Nat) (l2 : Int32) (l4 : Int32) : Nat → jS → Int32 → Option jS
  | 0, _, _ => none
  | n + 1, S, l5 => (if 64 ≤ l5 then some S else (if inb l4 8 then Option.bind (f8_leastFrom T S a0 l4 l5 l2) (fun r5 => Option.bind (T.1 81 l4.toNatClampNeg) (fun b10 => (if inb l5 64 then f8_leastTime_L3 T a0 l2 l4 n (wI S b10 l5.toNatClampNeg r5) (l5 + 1) else none))) else none))
def f8_leastTime_L2 (T : jT) (a0 : Nat) (l2 : Int32) : Nat → jS → Int32 → Option jS
  | 0, _, _ => none
  | n + 1, S, l4 => (if l4 < 0 then some S else Option.bind (f8_leastTime_L3 T a0 l2 l4 jF S 0) (fun y6 => f8_leastTime_L2 T a0 l2 n y6 (l4 + (-1))))
def f8_leastTime (T : jT) (S : jS) (a0 : Nat) (a1 : Int32) : Option (jS × Int32) := Option.bind (f13_bitCount (S.1 a0 4)) (fun r1 => Option.bind (f13_bitCount (S.1 a0 3)) (fun r2 => Option.bind (f8_leastTime_L1 T a0 a1 (mmin r1 r2) jF S 0) (fun y4 => Option.bind (f8_leastTime_L2 T a0 a1 jF y4 ((y4.1 a0 2) - 1)) (fun y7 => some (y7, y7.1 82 0)))))
theorem f8_leastTime_L1_ok {T : jT} {Y : jS × jT} {a0 : Nat} {l2 : Int32} {l3 : Int32} {Q : Option jV → jMem → Prop} (hT : LayC T) (h0 : LayHall T a0) : ∀ (n : Nat) (S : jS) (l4 : Int32) (r : jS), f8_leastTime_L1 T a0 l2 l3 n S l4 = some r → Go M8_leastTime 4 0 0 0 0 61 [(0, rc 80), (1, rc a0), (2, vi l2)] [] ((r, T), Y) Q → Go M8_leastTime 4 0 0 0 0 21 [(0, rc 80), (1, rc a0), (2, vi l2), (3, vi l3), (4, vi l4)] [] ((S, T), Y) Q := by
  intro n
  induction n with
  | zero => intro S l4 r h k; exact absurd h (by intro z; cases z)
  | succ n ih =>
    intro S l4 r h k
    rw [f8_leastTime_L1] at h
    refine go_blk rfl [(.iload 4, 2, 4, 0, 0, .inl 0), (.bipush 64, 2, 0, 0, 0, .inl 64)] 21 25 _ _ _ (by decide +kernel) ?_
    show Go _ _ _ _ _ _ 25 [(0, rc 80), (1, rc a0), (2, vi l2), (3, vi l3), (4, vi l4)] [vi 64, vi l4] ((S, T), Y) _
    refine ite_el h (fun q1 h => ?_) (fun q1 h => ?_)
    · refine go_icmp_ge (off := 36) (tgt := 61) (by decide +kernel) (by decide) (fun _ => ?_) (fun z => absurd q1 z)
      obtain rfl := Option.some.inj h
      refine go_pick [0, 1, 2] rfl ?_
      exact k
    · refine go_icmp_ge (off := 36) (tgt := 61) (by decide +kernel) (by decide) (fun z => absurd z q1) (fun _ => ?_)
      refine gd_el h (fun q2 h => ?_)
      refine go_blk rfl [(.aload_n 0, 1, 0, 0, 0, .inl 0), (.getfield 13, 3, 8, 0, 1, .inl 0), (.aload_n 1, 1, 1, 0, 0, .inl 0), (.getfield 37, 3, 4, 2, 0, .inl 0), (.aaload, 1, 27, 0, 0, .inl 0), (.iload 4, 2, 4, 0, 0, .inl 0), (.iload 4, 2, 4, 0, 0, .inl 0)] 28 41 _ _ _ (by decide +kernel) ?_
      refine And.intro (lc_t80 hT) (Exists.intro _ (And.intro (gRc (lc_r8_0 hT)) ?_))
      refine And.intro h0.1 ?_
      refine And.intro (lc_t81 hT) (Exists.intro _ (And.intro (lc_n81 hT) (And.intro (inb_in q2) (Exists.intro _ (And.intro gRo ?_)))))
      show Go _ _ _ _ _ _ 41 [(0, rc 80), (1, rc a0), (2, vi l2), (3, vi l3), (4, vi l4)] [vi l4, vi l4, vo (T.1 81 (S.1 a0 2).toNatClampNeg)] ((S, T), Y) _
      obtain ⟨r3, hr3, h⟩ := bind_el h
      refine go_callS (idx := 22) (z := 0) (M' := M13_bitCount) (n := 1) (A := [vi l4]) (v' := some (vi r3)) (μ' := ((S, T), Y)) (d' := 1) (mc' := 0) (ms' := 0) (kc' := 0) (ks' := 0) (by decide +kernel) ml_8_22 rfl ws13_bitCount rfl (ret13_bitCount hr3) (by decide) rfl rfl (Nat.le_of_ble_eq_true rfl) rfl (jag rfl rfl) ?_
      show Go _ _ _ _ _ _ 44 [(0, rc 80), (1, rc a0), (2, vi l2), (3, vi l3), (4, vi l4)] [vi r3, vi l4, vo (T.1 81 (S.1 a0 2).toNatClampNeg)] ((S, T), Y) _
      refine go_blk rfl [(.iload_n 3, 1, 3, 0, 0, .inl 0)] 44 45 _ _ _ (by decide +kernel) ?_
      show Go _ _ _ _ _ _ 45 [(0, rc 80), (1, rc a0), (2, vi l2), (3, vi l3), (4, vi l4)] [vi l3, vi r3, vi l4, vo (T.1 81 (S.1 a0 2).toNatClampNeg)] ((S, T), Y) _
      have key : ∀ z0 : Int32, z0 = ((if r3 = l3 then 0 else 1048576) : Int32) → Go M8_leastTime 4 0 0 0 0 54 [(0, rc 80), (1, rc a0), (2, vi l2), (3, vi l3), (4, vi l4)] [vi z0, vi l4, vo (T.1 81 (S.1 a0 2).toNatClampNeg)] ((S, T), Y) Q := by
        intro z0 ez0
        subst ez0
        obtain ⟨b4, o5, h⟩ := bind_el h
        rw [o5]
        refine gd_el h (fun q6 h => ?_)
        refine go_blk rfl [(.iastore, 1, 20, 0, 0, .inl 0)] 54 55 _ _ _ (by decide +kernel) ?_
        refine And.intro (((lc_e81 hT) (S.1 a0 2).toNatClampNeg) b4 o5).1 (Exists.intro _ (And.intro (((lc_e81 hT) (S.1 a0 2).toNatClampNeg) b4 o5).2 (And.intro (inb_in q6) ?_)))
        show Go _ _ _ _ _ _ 55 [(0, rc 80), (1, rc a0), (2, vi l2), (3, vi l3), (4, vi l4)] [] ((wI S b4 l4.toNatClampNeg (((if r3 = l3 then 0 else 1048576) : Int32)), T), Y) _
        refine go_blk rfl [(.iinc 4 1, 3, 4, 0, 0, .inl 1)] 55 58 _ _ _ (by decide +kernel) ?_
        show Go _ _ _ _ _ _ 58 [(4, vi (l4 + 1)), (0, rc 80), (1, rc a0), (2, vi l2), (3, vi l3)] [] ((wI S b4 l4.toNatClampNeg (((if r3 = l3 then 0 else 1048576) : Int32)), T), Y) _
        refine go_goto (off := (-37)) (tgt := 21) (by decide +kernel) (by decide) ?_
        refine go_pick [1, 2, 3, 4, 0] rfl ?_
        exact ih _ _ _ h k
      clear h
      by_cases q3 : r3 = l3
      · refine go_icmp_ne (off := 7) (tgt := 52) (by decide +kernel) (by decide) (fun z => absurd q3 z) (fun _ => ?_)
        refine go_blk rfl [(.iconst 0, 1, 0, 0, 0, .inl 0)] 48 49 _ _ _ (by decide +kernel) ?_
        show Go _ _ _ _ _ _ 49 [(0, rc 80), (1, rc a0), (2, vi l2), (3, vi l3), (4, vi l4)] [vi 0, vi l4, vo (T.1 81 (S.1 a0 2).toNatClampNeg)] ((S, T), Y) _
        refine go_goto (off := 5) (tgt := 54) (by decide +kernel) (by decide) ?_
        refine go_pick [0, 1, 2, 3, 4] rfl ?_; exact key _ (by rw [if_pos q3])
      · refine go_icmp_ne (off := 7) (tgt := 52) (by decide +kernel) (by decide) (fun _ => ?_) (fun z => absurd z q3)
        refine go_blk rfl [(.ldc 40, 2, 0, 0, 0, .inl 1048576)] 52 54 _ _ _ (by decide +kernel) ?_
        show Go _ _ _ _ _ _ 54 [(0, rc 80), (1, rc a0), (2, vi l2), (3, vi l3), (4, vi l4)] [vi 1048576, vi l4, vo (T.1 81 (S.1 a0 2).toNatClampNeg)] ((S, T), Y) _
        refine go_pick [0, 1, 2, 3, 4] rfl ?_; exact key _ (by rw [if_neg q3])
theorem f8_leastTime_L3_ok {T : jT} {Y : jS × jT} {a0 : Nat} {l2 : Int32} {l4 : Int32} {Q : Option jV → jMem → Prop} (hT : LayC T) (h0 : LayHall T a0) : ∀ (n : Nat) (S : jS) (l5 : Int32) (r : jS), f8_leastTime_L3 T a0 l2 l4 n S l5 = some r → Go M8_leastTime 4 0 0 0 0 110 [(0, rc 80), (1, rc a0), (2, vi l2), (4, vi l4)] [] ((r, T), Y) Q → Go M8_leastTime 4 0 0 0 0 77 [(0, rc 80), (1, rc a0), (2, vi l2), (4, vi l4), (5, vi l5)] [] ((S, T), Y) Q := by
  intro n
  induction n with
  | zero => intro S l5 r h k; exact absurd h (by intro z; cases z)
  | succ n ih =>
    intro S l5 r h k
    rw [f8_leastTime_L3] at h
    refine go_blk rfl [(.iload 5, 2, 5, 0, 0, .inl 0), (.bipush 64, 2, 0, 0, 0, .inl 64)] 77 81 _ _ _ (by decide +kernel) ?_
    show Go _ _ _ _ _ _ 81 [(0, rc 80), (1, rc a0), (2, vi l2), (4, vi l4), (5, vi l5)] [vi 64, vi l5] ((S, T), Y) _
    refine ite_el h (fun q8 h => ?_) (fun q8 h => ?_)
    · refine go_icmp_ge (off := 29) (tgt := 110) (by decide +kernel) (by decide) (fun _ => ?_) (fun z => absurd q8 z)
      obtain rfl := Option.some.inj h
      refine go_pick [0, 1, 2, 3] rfl ?_
      exact k
    · refine go_icmp_ge (off := 29) (tgt := 110) (by decide +kernel) (by decide) (fun z => absurd z q8) (fun _ => ?_)
      refine gd_el h (fun q9 h => ?_)
      refine go_blk rfl [(.aload_n 0, 1, 0, 0, 0, .inl 0), (.getfield 13, 3, 8, 0, 1, .inl 0), (.iload 4, 2, 4, 0, 0, .inl 0), (.aaload, 1, 27, 0, 0, .inl 0), (.iload 5, 2, 5, 0, 0, .inl 0), (.aload_n 0, 1, 0, 0, 0, .inl 0), (.aload_n 1, 1, 1, 0, 0, .inl 0), (.iload 4, 2, 4, 0, 0, .inl 0), (.iload 5, 2, 5, 0, 0, .inl 0), (.iload_n 2, 1, 2, 0, 0, .inl 0)] 84 100 _ _ _ (by decide +kernel) ?_
      refine And.intro (lc_t80 hT) (Exists.intro _ (And.intro (gRc (lc_r8_0 hT)) ?_))
      refine And.intro (lc_t81 hT) (Exists.intro _ (And.intro (lc_n81 hT) (And.intro (inb_in q9) (Exists.intro _ (And.intro gRo ?_)))))
      show Go _ _ _ _ _ _ 100 [(0, rc 80), (1, rc a0), (2, vi l2), (4, vi l4), (5, vi l5)] [vi l2, vi l5, vi l4, rc a0, rc 80, vi l5, vo (T.1 81 l4.toNatClampNeg)] ((S, T), Y) _
      obtain ⟨r5, hr5, h⟩ := bind_el h
      refine go_callV (idx := 41) (z := 0) (M' := M8_leastFrom) (n := 4) (A := [rc a0, vi l4, vi l5, vi l2]) (v' := some (vi r5)) (μ' := ((S, T), Y)) (d' := 3) (mc' := 0) (ms' := 0) (kc' := 0) (ks' := 0) (ci := 8) (x := .inl 80) (by decide +kernel) ml_8_41 rfl wv8_leastFrom rfl (by decide) rfl (lc_t80 hT) (ret8_leastFrom hT h0 hr5) (by decide) rfl rfl (Nat.le_of_ble_eq_true rfl) rfl (jag rfl rfl) ?_
      show Go _ _ _ _ _ _ 103 [(0, rc 80), (1, rc a0), (2, vi l2), (4, vi l4), (5, vi l5)] [vi r5, vi l5, vo (T.1 81 l4.toNatClampNeg)] ((S, T), Y) _
      obtain ⟨b10, o11, h⟩ := bind_el h
      rw [o11]
      refine gd_el h (fun q12 h => ?_)
      refine go_blk rfl [(.iastore, 1, 20, 0, 0, .inl 0)] 103 104 _ _ _ (by decide +kernel) ?_
      refine And.intro (((lc_e81 hT) l4.toNatClampNeg) b10 o11).1 (Exists.intro _ (And.intro (((lc_e81 hT) l4.toNatClampNeg) b10 o11).2 (And.intro (inb_in q12) ?_)))
      show Go _ _ _ _ _ _ 104 [(0, rc 80), (1, rc a0), (2, vi l2), (4, vi l4), (5, vi l5)] [] ((wI S b10 l5.toNatClampNeg r5, T), Y) _
      refine go_blk rfl [(.iinc 5 1, 3, 5, 0, 0, .inl 1)] 104 107 _ _ _ (by decide +kernel) ?_
      show Go _ _ _ _ _ _ 107 [(5, vi (l5 + 1)), (0, rc 80), (1, rc a0), (2, vi l2), (4, vi l4)] [] ((wI S b10 l5.toNatClampNeg r5, T), Y) _
      refine go_goto (off := (-30)) (tgt := 77) (by decide +kernel) (by decide) ?_
      refine go_pick [1, 2, 3, 4, 0] rfl ?_
      exact ih _ _ _ h k
theorem f8_leastTime_L2_ok {T : jT} {Y : jS × jT} {a0 : Nat} {l2 : Int32} {Q : Option jV → jMem → Prop} (hT : LayC T) (h0 : LayHall T a0) : ∀ (n : Nat) (S : jS) (l4 : Int32) (r : jS), f8_leastTime_L2 T a0 l2 n S l4 = some r → Go M8_leastTime 4 0 0 0 0 116 [(0, rc 80)] [] ((r, T), Y) Q → Go M8_leastTime 4 0 0 0 0 69 [(0, rc 80), (1, rc a0), (2, vi l2), (4, vi l4)] [] ((S, T), Y) Q := by
  intro n
  induction n with
  | zero => intro S l4 r h k; exact absurd h (by intro z; cases z)
  | succ n ih =>
    intro S l4 r h k
    rw [f8_leastTime_L2] at h
    refine go_blk rfl [(.iload 4, 2, 4, 0, 0, .inl 0)] 69 71 _ _ _ (by decide +kernel) ?_
    show Go _ _ _ _ _ _ 71 [(0, rc 80), (1, rc a0), (2, vi l2), (4, vi l4)] [vi l4] ((S, T), Y) _
    refine ite_el h (fun q7 h => ?_) (fun q7 h => ?_)
    · refine go_if_lt (off := 45) (tgt := 116) (by decide +kernel) (by decide) (fun _ => ?_) (fun z => absurd q7 z)
      obtain rfl := Option.some.inj h
      refine go_pick [0] rfl ?_
      exact k
    · refine go_if_lt (off := 45) (tgt := 116) (by decide +kernel) (by decide) (fun z => absurd z q7) (fun _ => ?_)
      refine go_blk rfl [(.iconst 0, 1, 0, 0, 0, .inl 0), (.istore 5, 2, 5, 0, 0, .inl 0)] 74 77 _ _ _ (by decide +kernel) ?_
      show Go _ _ _ _ _ _ 77 [(5, vi 0), (0, rc 80), (1, rc a0), (2, vi l2), (4, vi l4)] [] ((S, T), Y) _
      refine go_pick [1, 2, 3, 4, 0] rfl ?_
      obtain ⟨y6, hy6, h⟩ := bind_el h
      refine f8_leastTime_L3_ok hT h0 _ _ _ _ hy6 ?_
      show Go _ _ _ _ _ _ 110 [(0, rc 80), (1, rc a0), (2, vi l2), (4, vi l4)] [] ((y6, T), Y) _
      refine go_blk rfl [(.iinc 4 (-1), 3, 4, 0, 0, .inl (-1))] 110 113 _ _ _ (by decide +kernel) ?_
      show Go _ _ _ _ _ _ 113 [(4, vi (l4 + (-1))), (0, rc 80), (1, rc a0), (2, vi l2)] [] ((y6, T), Y) _
      refine go_goto (off := (-44)) (tgt := 69) (by decide +kernel) (by decide) ?_
      refine go_pick [1, 2, 3, 0] rfl ?_
      exact ih _ _ _ h k
theorem ret8_leastTime {S : jS} {T : jT} {Y : jS × jT} {a0 : Nat} {a1 : Int32} {S1 : jS} {x : Int32} (hT : LayC T) (h0 : LayHall T a0) (h : f8_leastTime T S a0 a1 = some (S1, x)) : Ret M8_leastTime 4 0 0 [rc 80, rc a0, vi a1] ((S, T), Y) (some (vi x)) ((S1, T), Y) := by
  refine Ret.of (by decide +kernel) (Nat.le_of_ble_eq_true rfl) ?_
  unfold f8_leastTime at h
  show Go _ _ _ _ _ _ 0 [(0, rc 80), (1, rc a0), (2, vi a1)] [] ((S, T), Y) _
  refine go_blk rfl [(.aload_n 1, 1, 1, 0, 0, .inl 0), (.getfield 16, 3, 4, 4, 0, .inl 0)] 0 4 _ _ _ (by decide +kernel) ?_
  refine And.intro h0.1 ?_
  show Go _ _ _ _ _ _ 4 [(0, rc 80), (1, rc a0), (2, vi a1)] [vi (S.1 a0 4)] ((S, T), Y) _
  obtain ⟨r1, hr1, h⟩ := bind_el h
  refine go_callS (idx := 22) (z := 0) (M' := M13_bitCount) (n := 1) (A := [vi (S.1 a0 4)]) (v' := some (vi r1)) (μ' := ((S, T), Y)) (d' := 1) (mc' := 0) (ms' := 0) (kc' := 0) (ks' := 0) (by decide +kernel) ml_8_22 rfl ws13_bitCount rfl (ret13_bitCount hr1) (by decide) rfl rfl (Nat.le_of_ble_eq_true rfl) rfl (jag rfl rfl) ?_
  show Go _ _ _ _ _ _ 7 [(0, rc 80), (1, rc a0), (2, vi a1)] [vi r1] ((S, T), Y) _
  refine go_blk rfl [(.aload_n 1, 1, 1, 0, 0, .inl 0), (.getfield 28, 3, 4, 3, 0, .inl 0)] 7 11 _ _ _ (by decide +kernel) ?_
  refine And.intro h0.1 ?_
  show Go _ _ _ _ _ _ 11 [(0, rc 80), (1, rc a0), (2, vi a1)] [vi (S.1 a0 3), vi r1] ((S, T), Y) _
  obtain ⟨r2, hr2, h⟩ := bind_el h
  refine go_callS (idx := 22) (z := 0) (M' := M13_bitCount) (n := 1) (A := [vi (S.1 a0 3)]) (v' := some (vi r2)) (μ' := ((S, T), Y)) (d' := 1) (mc' := 0) (ms' := 0) (kc' := 0) (ks' := 0) (by decide +kernel) ml_8_22 rfl ws13_bitCount rfl (ret13_bitCount hr2) (by decide) rfl rfl (Nat.le_of_ble_eq_true rfl) rfl (jag rfl rfl) ?_
  show Go _ _ _ _ _ _ 14 [(0, rc 80), (1, rc a0), (2, vi a1)] [vi r2, vi r1] ((S, T), Y) _
  refine go_mmin (idx := 31) (by decide +kernel) ml_8_31 rfl (by decide) (Nat.le_of_ble_eq_true rfl) ?_
  show Go _ _ _ _ _ _ 17 [(0, rc 80), (1, rc a0), (2, vi a1)] [vi (mmin r1 r2)] ((S, T), Y) _
  refine go_blk rfl [(.istore_n 3, 1, 3, 0, 0, .inl 0), (.iconst 0, 1, 0, 0, 0, .inl 0), (.istore 4, 2, 4, 0, 0, .inl 0)] 17 21 _ _ _ (by decide +kernel) ?_
  show Go _ _ _ _ _ _ 21 [(4, vi 0), (3, vi (mmin r1 r2)), (0, rc 80), (1, rc a0), (2, vi a1)] [] ((S, T), Y) _
  refine go_pick [2, 3, 4, 1, 0] rfl ?_
  obtain ⟨y4, hy4, h⟩ := bind_el h
  refine f8_leastTime_L1_ok hT h0 _ _ _ _ hy4 ?_
  show Go _ _ _ _ _ _ 61 [(0, rc 80), (1, rc a0), (2, vi a1)] [] ((y4, T), Y) _
  refine go_blk rfl [(.aload_n 1, 1, 1, 0, 0, .inl 0), (.getfield 37, 3, 4, 2, 0, .inl 0), (.iconst 1, 1, 0, 0, 0, .inl 1), (.isub, 1, 0, 0, 0, .inl 0), (.istore 4, 2, 4, 0, 0, .inl 0)] 61 69 _ _ _ (by decide +kernel) ?_
  refine And.intro h0.1 ?_
  show Go _ _ _ _ _ _ 69 [(4, vi ((y4.1 a0 2) - 1)), (0, rc 80), (1, rc a0), (2, vi a1)] [] ((y4, T), Y) _
  refine go_pick [1, 2, 3, 0] rfl ?_
  obtain ⟨y7, hy7, h⟩ := bind_el h
  refine f8_leastTime_L2_ok hT h0 _ _ _ _ hy7 ?_
  show Go _ _ _ _ _ _ 116 [(0, rc 80)] [] ((y7, T), Y) _
  refine go_blk rfl [(.aload_n 0, 1, 0, 0, 0, .inl 0), (.getfield 13, 3, 8, 0, 1, .inl 0), (.iconst 0, 1, 0, 0, 0, .inl 0), (.aaload, 1, 27, 0, 0, .inl 0), (.iconst 0, 1, 0, 0, 0, .inl 0), (.iaload, 1, 20, 0, 0, .inl 0)] 116 124 _ _ _ (by decide +kernel) ?_
  refine And.intro (lc_t80 hT) (Exists.intro _ (And.intro (gRc (lc_r8_0 hT)) ?_))
  refine And.intro (lc_t81 hT) (Exists.intro _ (And.intro (lc_n81 hT) (And.intro (inb_in (by decide)) (Exists.intro _ (And.intro (gRc (lc_r100_0 hT)) ?_)))))
  refine And.intro (lc_t82 hT) (Exists.intro _ (And.intro (lc_n82 hT) (And.intro (inb_in (by decide)) ?_)))
  show Go _ _ _ _ _ _ 124 [(0, rc 80)] [vi (y7.1 82 0)] ((y7, T), Y) _
  obtain ⟨rfl, rfl⟩ := Prod.mk.inj (Option.some.inj h)
  exact go_ireturn (by decide +kernel) rfl rfl ⟨rfl, rfl⟩
def f8_firstChair_L1 (T : jT) (S : jS) (a0 : Nat) (l2 : Int32) (l3 : Int32) : Nat → Int32 → Option Int32
  | 0, _ => none
  | n + 1, l4 => (if (S.1 a0 1) ≤ l4 then some ((-1)) else Option.bind (f4_isIn S a0 l2) (fun r1 => (if r1 = 0 then some ((-1)) else Option.bind (f8_isFree S a0 l4 l3) (fun r2 => (if r2 = 0 then f8_firstChair_L1 T S a0 l2 l3 n (l4 + 1) else Option.bind (f4_timeFor S a0 l2 l4) (fun r3 => (if inb (l2 + 1) 8 then Option.bind (T.1 81 (l2 + 1).toNatClampNeg) (fun b5 => (if inb (l3 ||| ((1 : Int32) <<< (l4 &&& 31))) 64 then (if inb l2 8 then Option.bind (T.1 81 l2.toNatClampNeg) (fun b9 => (if inb l3 64 then (if (r3 + (S.1 b5 (l3 ||| ((1 : Int32) <<< (l4 &&& 31))).toNatClampNeg)) = (S.1 b9 l3.toNatClampNeg) then some l4 else f8_firstChair_L1 T S a0 l2 l3 n (l4 + 1)) else none)) else none) else none)) else none)))))))
def f8_firstChair (T : jT) (S : jS) (a0 : Nat) (a1 : Int32) (a2 : Int32) : Option Int32 := f8_firstChair_L1 T S a0 a1 a2 jF 0
theorem f8_firstChair_L1_ok {T : jT} {Y : jS × jT} {S : jS} {a0 : Nat} {l2 : Int32} {l3 : Int32} {x : Int32} (hT : LayC T) (h0 : LayHall T a0) : ∀ (n : Nat) (l4 : Int32), f8_firstChair_L1 T S a0 l2 l3 n l4 = some x → Go M8_firstChair 3 0 0 0 0 3 [(0, rc 80), (1, rc a0), (2, vi l2), (3, vi l3), (4, vi l4)] [] ((S, T), Y) (eqQ (some (vi x)) ((S, T), Y)) := by
  intro n
  induction n with
  | zero => intro l4 h; exact absurd h (by intro z; cases z)
  | succ n ih =>
    intro l4 h
    rw [f8_firstChair_L1] at h
    refine go_blk rfl [(.iload 4, 2, 4, 0, 0, .inl 0), (.aload_n 1, 1, 1, 0, 0, .inl 0), (.getfield 45, 3, 4, 1, 0, .inl 0)] 3 9 _ _ _ (by decide +kernel) ?_
    refine And.intro h0.1 ?_
    show Go _ _ _ _ _ _ 9 [(0, rc 80), (1, rc a0), (2, vi l2), (3, vi l3), (4, vi l4)] [vi (S.1 a0 1), vi l4] ((S, T), Y) _
    refine ite_el h (fun q1 h => ?_) (fun q1 h => ?_)
    · refine go_icmp_ge (off := 64) (tgt := 73) (by decide +kernel) (by decide) (fun _ => ?_) (fun z => absurd q1 z)
      refine go_blk rfl [(.iconst (-1), 1, 0, 0, 0, .inl (-1))] 73 74 _ _ _ (by decide +kernel) ?_
      show Go _ _ _ _ _ _ 74 [(0, rc 80), (1, rc a0), (2, vi l2), (3, vi l3), (4, vi l4)] [vi ((-1))] ((S, T), Y) _
      obtain rfl := Option.some.inj h
      exact go_ireturn (by decide +kernel) rfl rfl ⟨rfl, rfl⟩
    · refine go_icmp_ge (off := 64) (tgt := 73) (by decide +kernel) (by decide) (fun z => absurd z q1) (fun _ => ?_)
      refine go_blk rfl [(.aload_n 1, 1, 1, 0, 0, .inl 0), (.iload_n 2, 1, 2, 0, 0, .inl 0)] 12 14 _ _ _ (by decide +kernel) ?_
      show Go _ _ _ _ _ _ 14 [(0, rc 80), (1, rc a0), (2, vi l2), (3, vi l3), (4, vi l4)] [vi l2, rc a0] ((S, T), Y) _
      obtain ⟨r1, hr1, h⟩ := bind_el h
      refine go_callV (idx := 48) (z := 1) (M' := M4_isIn) (n := 1) (A := [vi l2]) (v' := some (vi r1)) (μ' := ((S, T), Y)) (d' := 2) (mc' := 0) (ms' := 0) (kc' := 0) (ks' := 0) (ci := 4) (x := .inl a0) (by decide +kernel) ml_8_48 rfl wv4_isIn rfl (by decide) rfl h0.1 (ret4_isIn h0 hr1) (by decide) rfl rfl (Nat.le_of_ble_eq_true rfl) rfl (jag rfl rfl) ?_
      show Go _ _ _ _ _ _ 17 [(0, rc 80), (1, rc a0), (2, vi l2), (3, vi l3), (4, vi l4)] [vi r1] ((S, T), Y) _
      refine ite_el h (fun q2 h => ?_) (fun q2 h => ?_)
      · refine go_if_eq (off := 56) (tgt := 73) (by decide +kernel) (by decide) (fun _ => ?_) (fun z => absurd q2 z)
        refine go_blk rfl [(.iconst (-1), 1, 0, 0, 0, .inl (-1))] 73 74 _ _ _ (by decide +kernel) ?_
        show Go _ _ _ _ _ _ 74 [(0, rc 80), (1, rc a0), (2, vi l2), (3, vi l3), (4, vi l4)] [vi ((-1))] ((S, T), Y) _
        obtain rfl := Option.some.inj h
        exact go_ireturn (by decide +kernel) rfl rfl ⟨rfl, rfl⟩
      · refine go_if_eq (off := 56) (tgt := 73) (by decide +kernel) (by decide) (fun z => absurd z q2) (fun _ => ?_)
        refine go_blk rfl [(.aload_n 1, 1, 1, 0, 0, .inl 0), (.iload 4, 2, 4, 0, 0, .inl 0), (.iload_n 3, 1, 3, 0, 0, .inl 0)] 20 24 _ _ _ (by decide +kernel) ?_
        show Go _ _ _ _ _ _ 24 [(0, rc 80), (1, rc a0), (2, vi l2), (3, vi l3), (4, vi l4)] [vi l3, vi l4, rc a0] ((S, T), Y) _
        obtain ⟨r2, hr2, h⟩ := bind_el h
        refine go_callS (idx := 52) (z := 0) (M' := M8_isFree) (n := 3) (A := [rc a0, vi l4, vi l3]) (v' := some (vi r2)) (μ' := ((S, T), Y)) (d' := 1) (mc' := 0) (ms' := 0) (kc' := 0) (ks' := 0) (by decide +kernel) ml_8_52 rfl ws8_isFree rfl (ret8_isFree hT h0 hr2) (by decide) rfl rfl (Nat.le_of_ble_eq_true rfl) rfl (jag rfl rfl) ?_
        show Go _ _ _ _ _ _ 27 [(0, rc 80), (1, rc a0), (2, vi l2), (3, vi l3), (4, vi l4)] [vi r2] ((S, T), Y) _
        refine ite_el h (fun q3 h => ?_) (fun q3 h => ?_)
        · refine go_if_eq (off := 40) (tgt := 67) (by decide +kernel) (by decide) (fun _ => ?_) (fun z => absurd q3 z)
          refine go_blk rfl [(.iinc 4 1, 3, 4, 0, 0, .inl 1)] 67 70 _ _ _ (by decide +kernel) ?_
          show Go _ _ _ _ _ _ 70 [(4, vi (l4 + 1)), (0, rc 80), (1, rc a0), (2, vi l2), (3, vi l3)] [] ((S, T), Y) _
          refine go_goto (off := (-67)) (tgt := 3) (by decide +kernel) (by decide) ?_
          refine go_pick [1, 2, 3, 4, 0] rfl ?_
          exact ih _ h
        · refine go_if_eq (off := 40) (tgt := 67) (by decide +kernel) (by decide) (fun z => absurd z q3) (fun _ => ?_)
          refine go_blk rfl [(.aload_n 1, 1, 1, 0, 0, .inl 0), (.iload_n 2, 1, 2, 0, 0, .inl 0), (.iload 4, 2, 4, 0, 0, .inl 0)] 30 34 _ _ _ (by decide +kernel) ?_
          show Go _ _ _ _ _ _ 34 [(0, rc 80), (1, rc a0), (2, vi l2), (3, vi l3), (4, vi l4)] [vi l4, vi l2, rc a0] ((S, T), Y) _
          obtain ⟨r3, hr3, h⟩ := bind_el h
          refine go_callV (idx := 56) (z := 1) (M' := M4_timeFor) (n := 2) (A := [vi l2, vi l4]) (v' := some (vi r3)) (μ' := ((S, T), Y)) (d' := 2) (mc' := 0) (ms' := 0) (kc' := 0) (ks' := 0) (ci := 4) (x := .inl a0) (by decide +kernel) ml_8_56 rfl wv4_timeFor rfl (by decide) rfl h0.1 (ret4_timeFor h0 hr3) (by decide) rfl rfl (Nat.le_of_ble_eq_true rfl) rfl (jag rfl rfl) ?_
          show Go _ _ _ _ _ _ 37 [(0, rc 80), (1, rc a0), (2, vi l2), (3, vi l3), (4, vi l4)] [vi r3] ((S, T), Y) _
          refine gd_el h (fun q4 h => ?_)
          refine go_blk rfl [(.aload_n 0, 1, 0, 0, 0, .inl 0), (.getfield 13, 3, 8, 0, 1, .inl 0), (.iload_n 2, 1, 2, 0, 0, .inl 0), (.iconst 1, 1, 0, 0, 0, .inl 1), (.iadd, 1, 0, 0, 0, .inl 0), (.aaload, 1, 27, 0, 0, .inl 0), (.iload_n 3, 1, 3, 0, 0, .inl 0), (.iconst 1, 1, 0, 0, 0, .inl 1), (.iload 4, 2, 4, 0, 0, .inl 0), (.ishl, 1, 0, 0, 0, .inl 0), (.ior, 1, 0, 0, 0, .inl 0)] 37 51 _ _ _ (by decide +kernel) ?_
          refine And.intro (lc_t80 hT) (Exists.intro _ (And.intro (gRc (lc_r8_0 hT)) ?_))
          refine And.intro (lc_t81 hT) (Exists.intro _ (And.intro (lc_n81 hT) (And.intro (inb_in q4) (Exists.intro _ (And.intro gRo ?_)))))
          show Go _ _ _ _ _ _ 51 [(0, rc 80), (1, rc a0), (2, vi l2), (3, vi l3), (4, vi l4)] [vi (l3 ||| ((1 : Int32) <<< (l4 &&& 31))), vo (T.1 81 (l2 + 1).toNatClampNeg), vi r3] ((S, T), Y) _
          obtain ⟨b5, o6, h⟩ := bind_el h
          rw [o6]
          refine gd_el h (fun q7 h => ?_)
          refine gd_el h (fun q8 h => ?_)
          refine go_blk rfl [(.iaload, 1, 20, 0, 0, .inl 0), (.iadd, 1, 0, 0, 0, .inl 0), (.aload_n 0, 1, 0, 0, 0, .inl 0), (.getfield 13, 3, 8, 0, 1, .inl 0), (.iload_n 2, 1, 2, 0, 0, .inl 0), (.aaload, 1, 27, 0, 0, .inl 0), (.iload_n 3, 1, 3, 0, 0, .inl 0)] 51 60 _ _ _ (by decide +kernel) ?_
          refine And.intro (((lc_e81 hT) (l2 + 1).toNatClampNeg) b5 o6).1 (Exists.intro _ (And.intro (((lc_e81 hT) (l2 + 1).toNatClampNeg) b5 o6).2 (And.intro (inb_in q7) ?_)))
          refine And.intro (lc_t80 hT) (Exists.intro _ (And.intro (gRc (lc_r8_0 hT)) ?_))
          refine And.intro (lc_t81 hT) (Exists.intro _ (And.intro (lc_n81 hT) (And.intro (inb_in q8) (Exists.intro _ (And.intro gRo ?_)))))
          show Go _ _ _ _ _ _ 60 [(0, rc 80), (1, rc a0), (2, vi l2), (3, vi l3), (4, vi l4)] [vi l3, vo (T.1 81 l2.toNatClampNeg), vi (r3 + (S.1 b5 (l3 ||| ((1 : Int32) <<< (l4 &&& 31))).toNatClampNeg))] ((S, T), Y) _
          obtain ⟨b9, o10, h⟩ := bind_el h
          rw [o10]
          refine gd_el h (fun q11 h => ?_)
          refine go_blk rfl [(.iaload, 1, 20, 0, 0, .inl 0)] 60 61 _ _ _ (by decide +kernel) ?_
          refine And.intro (((lc_e81 hT) l2.toNatClampNeg) b9 o10).1 (Exists.intro _ (And.intro (((lc_e81 hT) l2.toNatClampNeg) b9 o10).2 (And.intro (inb_in q11) ?_)))
          show Go _ _ _ _ _ _ 61 [(0, rc 80), (1, rc a0), (2, vi l2), (3, vi l3), (4, vi l4)] [vi (S.1 b9 l3.toNatClampNeg), vi (r3 + (S.1 b5 (l3 ||| ((1 : Int32) <<< (l4 &&& 31))).toNatClampNeg))] ((S, T), Y) _
          refine ite_el h (fun q12 h => ?_) (fun q12 h => ?_)
          · refine go_icmp_ne (off := 6) (tgt := 67) (by decide +kernel) (by decide) (fun z => absurd q12 z) (fun _ => ?_)
            refine go_blk rfl [(.iload 4, 2, 4, 0, 0, .inl 0)] 64 66 _ _ _ (by decide +kernel) ?_
            show Go _ _ _ _ _ _ 66 [(0, rc 80), (1, rc a0), (2, vi l2), (3, vi l3), (4, vi l4)] [vi l4] ((S, T), Y) _
            obtain rfl := Option.some.inj h
            exact go_ireturn (by decide +kernel) rfl rfl ⟨rfl, rfl⟩
          · refine go_icmp_ne (off := 6) (tgt := 67) (by decide +kernel) (by decide) (fun _ => ?_) (fun z => absurd z q12)
            refine go_blk rfl [(.iinc 4 1, 3, 4, 0, 0, .inl 1)] 67 70 _ _ _ (by decide +kernel) ?_
            show Go _ _ _ _ _ _ 70 [(4, vi (l4 + 1)), (0, rc 80), (1, rc a0), (2, vi l2), (3, vi l3)] [] ((S, T), Y) _
            refine go_goto (off := (-67)) (tgt := 3) (by decide +kernel) (by decide) ?_
            refine go_pick [1, 2, 3, 4, 0] rfl ?_
            exact ih _ h
theorem ret8_firstChair {S : jS} {T : jT} {Y : jS × jT} {a0 : Nat} {a1 : Int32} {a2 : Int32} {x : Int32} (hT : LayC T) (h0 : LayHall T a0) (h : f8_firstChair T S a0 a1 a2 = some x) : Ret M8_firstChair 3 0 0 [rc 80, rc a0, vi a1, vi a2] ((S, T), Y) (some (vi x)) ((S, T), Y) := by
  refine Ret.of (by decide +kernel) (Nat.le_of_ble_eq_true rfl) ?_
  unfold f8_firstChair at h
  show Go _ _ _ _ _ _ 0 [(0, rc 80), (1, rc a0), (2, vi a1), (3, vi a2)] [] ((S, T), Y) _
  refine go_blk rfl [(.iconst 0, 1, 0, 0, 0, .inl 0), (.istore 4, 2, 4, 0, 0, .inl 0)] 0 3 _ _ _ (by decide +kernel) ?_
  show Go _ _ _ _ _ _ 3 [(4, vi 0), (0, rc 80), (1, rc a0), (2, vi a1), (3, vi a2)] [] ((S, T), Y) _
  refine go_pick [1, 2, 3, 4, 0] rfl ?_
  exact f8_firstChair_L1_ok hT h0 _ _ h
def f8_chairOf_L1 (T : jT) (S : jS) (a0 : Nat) (l2 : Int32) : Nat → Int32 → Int32 → Int32 → Option Int32
  | 0, _, _, _ => none
  | n + 1, l3, l4, l5 => (if l2 < l5 then some l4 else (if (S.1 a0 2) ≤ l5 then some l4 else Option.bind (f8_firstChair T S a0 l5 l3) (fun r1 => f8_chairOf_L1 T S a0 l2 n (((if r1 = ((-1)) then l3 else (l3 ||| ((1 : Int32) <<< (r1 &&& 31)))) : Int32)) r1 (l5 + 1))))
def f8_chairOf (T : jT) (S : jS) (a0 : Nat) (a1 : Int32) : Option Int32 := Option.bind (f8_chairOf_L1 T S a0 a1 jF 0 ((-1)) 0) (fun y2 => some y2)
theorem f8_chairOf_L1_ok {T : jT} {Y : jS × jT} {S : jS} {a0 : Nat} {l2 : Int32} {Q : Option jV → jMem → Prop} (hT : LayC T) (h0 : LayHall T a0) : ∀ (n : Nat) (l3 : Int32) (l4 : Int32) (l5 : Int32) (r : Int32), f8_chairOf_L1 T S a0 l2 n l3 l4 l5 = some r → Go M8_chairOf 4 0 0 0 0 52 [(4, vi r)] [] ((S, T), Y) Q → Go M8_chairOf 4 0 0 0 0 8 [(0, rc 80), (1, rc a0), (2, vi l2), (3, vi l3), (4, vi l4), (5, vi l5)] [] ((S, T), Y) Q := by
  intro n
  induction n with
  | zero => intro l3 l4 l5 r h k; exact absurd h (by intro z; cases z)
  | succ n ih =>
    intro l3 l4 l5 r h k
    rw [f8_chairOf_L1] at h
    refine go_blk rfl [(.iload 5, 2, 5, 0, 0, .inl 0), (.iload_n 2, 1, 2, 0, 0, .inl 0)] 8 11 _ _ _ (by decide +kernel) ?_
    show Go _ _ _ _ _ _ 11 [(0, rc 80), (1, rc a0), (2, vi l2), (3, vi l3), (4, vi l4), (5, vi l5)] [vi l2, vi l5] ((S, T), Y) _
    refine ite_el h (fun q1 h => ?_) (fun q1 h => ?_)
    · refine go_icmp_gt (off := 41) (tgt := 52) (by decide +kernel) (by decide) (fun _ => ?_) (fun z => absurd q1 z)
      obtain rfl := Option.some.inj h
      refine go_pick [4] rfl ?_
      exact k
    · refine go_icmp_gt (off := 41) (tgt := 52) (by decide +kernel) (by decide) (fun z => absurd z q1) (fun _ => ?_)
      refine go_blk rfl [(.iload 5, 2, 5, 0, 0, .inl 0), (.aload_n 1, 1, 1, 0, 0, .inl 0), (.getfield 37, 3, 4, 2, 0, .inl 0)] 14 20 _ _ _ (by decide +kernel) ?_
      refine And.intro h0.1 ?_
      show Go _ _ _ _ _ _ 20 [(0, rc 80), (1, rc a0), (2, vi l2), (3, vi l3), (4, vi l4), (5, vi l5)] [vi (S.1 a0 2), vi l5] ((S, T), Y) _
      refine ite_el h (fun q2 h => ?_) (fun q2 h => ?_)
      · refine go_icmp_ge (off := 32) (tgt := 52) (by decide +kernel) (by decide) (fun _ => ?_) (fun z => absurd q2 z)
        obtain rfl := Option.some.inj h
        refine go_pick [4] rfl ?_
        exact k
      · refine go_icmp_ge (off := 32) (tgt := 52) (by decide +kernel) (by decide) (fun z => absurd z q2) (fun _ => ?_)
        refine go_blk rfl [(.aload_n 0, 1, 0, 0, 0, .inl 0), (.aload_n 1, 1, 1, 0, 0, .inl 0), (.iload 5, 2, 5, 0, 0, .inl 0), (.iload_n 3, 1, 3, 0, 0, .inl 0)] 23 28 _ _ _ (by decide +kernel) ?_
        show Go _ _ _ _ _ _ 28 [(0, rc 80), (1, rc a0), (2, vi l2), (3, vi l3), (4, vi l4), (5, vi l5)] [vi l3, vi l5, rc a0, rc 80] ((S, T), Y) _
        obtain ⟨r1, hr1, h⟩ := bind_el h
        refine go_callV (idx := 62) (z := 0) (M' := M8_firstChair) (n := 3) (A := [rc a0, vi l5, vi l3]) (v' := some (vi r1)) (μ' := ((S, T), Y)) (d' := 3) (mc' := 0) (ms' := 0) (kc' := 0) (ks' := 0) (ci := 8) (x := .inl 80) (by decide +kernel) ml_8_62 rfl wv8_firstChair rfl (by decide) rfl (lc_t80 hT) (ret8_firstChair hT h0 hr1) (by decide) rfl rfl (Nat.le_of_ble_eq_true rfl) rfl (jag rfl rfl) ?_
        show Go _ _ _ _ _ _ 31 [(0, rc 80), (1, rc a0), (2, vi l2), (3, vi l3), (4, vi l4), (5, vi l5)] [vi r1] ((S, T), Y) _
        refine go_blk rfl [(.istore 4, 2, 4, 0, 0, .inl 0), (.iload 4, 2, 4, 0, 0, .inl 0), (.iconst (-1), 1, 0, 0, 0, .inl (-1))] 31 36 _ _ _ (by decide +kernel) ?_
        show Go _ _ _ _ _ _ 36 [(4, vi r1), (0, rc 80), (1, rc a0), (2, vi l2), (3, vi l3), (5, vi l5)] [vi ((-1)), vi r1] ((S, T), Y) _
        have key : ∀ z0 : Int32, z0 = ((if r1 = ((-1)) then l3 else (l3 ||| ((1 : Int32) <<< (r1 &&& 31)))) : Int32) → Go M8_chairOf 4 0 0 0 0 46 [(0, rc 80), (1, rc a0), (2, vi l2), (3, vi z0), (4, vi r1), (5, vi l5)] [] ((S, T), Y) Q := by
          intro z0 ez0
          subst ez0
          refine go_blk rfl [(.iinc 5 1, 3, 5, 0, 0, .inl 1)] 46 49 _ _ _ (by decide +kernel) ?_
          show Go _ _ _ _ _ _ 49 [(5, vi (l5 + 1)), (0, rc 80), (1, rc a0), (2, vi l2), (3, vi (((if r1 = ((-1)) then l3 else (l3 ||| ((1 : Int32) <<< (r1 &&& 31)))) : Int32))), (4, vi r1)] [] ((S, T), Y) _
          refine go_goto (off := (-41)) (tgt := 8) (by decide +kernel) (by decide) ?_
          refine go_pick [1, 2, 3, 4, 5, 0] rfl ?_
          exact ih _ _ _ _ h k
        clear h
        by_cases q3 : r1 = ((-1))
        · refine go_icmp_eq (off := 10) (tgt := 46) (by decide +kernel) (by decide) (fun _ => ?_) (fun z => absurd q3 z)
          refine go_pick [1, 2, 3, 4, 0, 5] rfl ?_; exact key _ (by rw [if_pos q3])
        · refine go_icmp_eq (off := 10) (tgt := 46) (by decide +kernel) (by decide) (fun z => absurd z q3) (fun _ => ?_)
          refine go_blk rfl [(.iload_n 3, 1, 3, 0, 0, .inl 0), (.iconst 1, 1, 0, 0, 0, .inl 1), (.iload 4, 2, 4, 0, 0, .inl 0), (.ishl, 1, 0, 0, 0, .inl 0), (.ior, 1, 0, 0, 0, .inl 0), (.istore_n 3, 1, 3, 0, 0, .inl 0)] 39 46 _ _ _ (by decide +kernel) ?_
          show Go _ _ _ _ _ _ 46 [(3, vi (l3 ||| ((1 : Int32) <<< (r1 &&& 31)))), (4, vi r1), (0, rc 80), (1, rc a0), (2, vi l2), (5, vi l5)] [] ((S, T), Y) _
          refine go_pick [2, 3, 4, 0, 1, 5] rfl ?_; exact key _ (by rw [if_neg q3])
theorem ret8_chairOf {S : jS} {T : jT} {Y : jS × jT} {a0 : Nat} {a1 : Int32} {x : Int32} (hT : LayC T) (h0 : LayHall T a0) (h : f8_chairOf T S a0 a1 = some x) : Ret M8_chairOf 4 0 0 [rc 80, rc a0, vi a1] ((S, T), Y) (some (vi x)) ((S, T), Y) := by
  refine Ret.of (by decide +kernel) (Nat.le_of_ble_eq_true rfl) ?_
  unfold f8_chairOf at h
  show Go _ _ _ _ _ _ 0 [(0, rc 80), (1, rc a0), (2, vi a1)] [] ((S, T), Y) _
  refine go_blk rfl [(.iconst 0, 1, 0, 0, 0, .inl 0), (.istore_n 3, 1, 3, 0, 0, .inl 0), (.iconst (-1), 1, 0, 0, 0, .inl (-1)), (.istore 4, 2, 4, 0, 0, .inl 0), (.iconst 0, 1, 0, 0, 0, .inl 0), (.istore 5, 2, 5, 0, 0, .inl 0)] 0 8 _ _ _ (by decide +kernel) ?_
  show Go _ _ _ _ _ _ 8 [(5, vi 0), (4, vi ((-1))), (3, vi 0), (0, rc 80), (1, rc a0), (2, vi a1)] [] ((S, T), Y) _
  refine go_pick [3, 4, 5, 2, 1, 0] rfl ?_
  obtain ⟨y2, hy2, h⟩ := bind_el h
  refine f8_chairOf_L1_ok hT h0 _ _ _ _ _ hy2 ?_
  show Go _ _ _ _ _ _ 52 [(4, vi y2)] [] ((S, T), Y) _
  refine go_blk rfl [(.iload 4, 2, 4, 0, 0, .inl 0)] 52 54 _ _ _ (by decide +kernel) ?_
  show Go _ _ _ _ _ _ 54 [(4, vi y2)] [vi y2] ((S, T), Y) _
  obtain rfl := Option.some.inj h
  exact go_ireturn (by decide +kernel) rfl rfl ⟨rfl, rfl⟩
def f8_reachOn_L1 (T : jT) (a0 : Nat) (l2 : Int32) (l3 : Int32) (l4 : Int32) (l5 : Int32) : Nat → jS → Int32 → Int32 → Option (jS × Int32)
  | 0, _, _, _ => none
  | n + 1, S, l6, l7 => (if (S.1 a0 1) ≤ l7 then some (S, l6) else Option.bind (f8_isFree S a0 l7 l3) (fun r2 => Option.bind (if r2 = 0 then some (l6, S) else Option.bind (f4_timeFor S a0 l2 l7) (fun r3 => (if l4 < r3 then some (l6, S) else (if inb (l3 ||| ((1 : Int32) <<< (l7 &&& 31))) 64 then some (l5 + 1, wI S 82 (l3 ||| ((1 : Int32) <<< (l7 &&& 31))).toNatClampNeg 1) else none)))) (fun (y4 : Int32 × jS) => f8_reachOn_L1 T a0 l2 l3 l4 l5 n y4.2 y4.1 (l7 + 1))))
def f8_reachOn (T : jT) (S : jS) (a0 : Nat) (a1 : Int32) (a2 : Int32) (a3 : Int32) : Option (jS × Int32) := Option.bind (f13_bitCount a2) (fun r1 => Option.bind (f8_reachOn_L1 T a0 a1 a2 a3 r1 jF S r1 0) (fun y5 => some (y5.1, y5.2)))
theorem f8_reachOn_L1_ok {T : jT} {Y : jS × jT} {a0 : Nat} {l2 : Int32} {l3 : Int32} {l4 : Int32} {l5 : Int32} {Q : Option jV → jMem → Prop} (hT : LayC T) (h0 : LayHall T a0) : ∀ (n : Nat) (S : jS) (l6 : Int32) (l7 : Int32) (r : (jS × Int32)), f8_reachOn_L1 T a0 l2 l3 l4 l5 n S l6 l7 = some r → Go M8_reachOn 3 0 0 0 0 70 [(6, vi r.2)] [] ((r.1, T), Y) Q → Go M8_reachOn 3 0 0 0 0 13 [(0, rc 80), (1, rc a0), (2, vi l2), (3, vi l3), (4, vi l4), (5, vi l5), (6, vi l6), (7, vi l7)] [] ((S, T), Y) Q := by
  intro n
  induction n with
  | zero => intro S l6 l7 r h k; exact absurd h (by intro z; cases z)
  | succ n ih =>
    intro S l6 l7 r h k
    rw [f8_reachOn_L1] at h
    refine go_blk rfl [(.iload 7, 2, 7, 0, 0, .inl 0), (.aload_n 1, 1, 1, 0, 0, .inl 0), (.getfield 45, 3, 4, 1, 0, .inl 0)] 13 19 _ _ _ (by decide +kernel) ?_
    refine And.intro h0.1 ?_
    show Go _ _ _ _ _ _ 19 [(0, rc 80), (1, rc a0), (2, vi l2), (3, vi l3), (4, vi l4), (5, vi l5), (6, vi l6), (7, vi l7)] [vi (S.1 a0 1), vi l7] ((S, T), Y) _
    refine ite_el h (fun q1 h => ?_) (fun q1 h => ?_)
    · refine go_icmp_ge (off := 51) (tgt := 70) (by decide +kernel) (by decide) (fun _ => ?_) (fun z => absurd q1 z)
      obtain rfl := Option.some.inj h
      refine go_pick [6] rfl ?_
      exact k
    · refine go_icmp_ge (off := 51) (tgt := 70) (by decide +kernel) (by decide) (fun z => absurd z q1) (fun _ => ?_)
      refine go_blk rfl [(.aload_n 1, 1, 1, 0, 0, .inl 0), (.iload 7, 2, 7, 0, 0, .inl 0), (.iload_n 3, 1, 3, 0, 0, .inl 0)] 22 26 _ _ _ (by decide +kernel) ?_
      show Go _ _ _ _ _ _ 26 [(0, rc 80), (1, rc a0), (2, vi l2), (3, vi l3), (4, vi l4), (5, vi l5), (6, vi l6), (7, vi l7)] [vi l3, vi l7, rc a0] ((S, T), Y) _
      obtain ⟨r2, hr2, h⟩ := bind_el h
      refine go_callS (idx := 52) (z := 0) (M' := M8_isFree) (n := 3) (A := [rc a0, vi l7, vi l3]) (v' := some (vi r2)) (μ' := ((S, T), Y)) (d' := 1) (mc' := 0) (ms' := 0) (kc' := 0) (ks' := 0) (by decide +kernel) ml_8_52 rfl ws8_isFree rfl (ret8_isFree hT h0 hr2) (by decide) rfl rfl (Nat.le_of_ble_eq_true rfl) rfl (jag rfl rfl) ?_
      show Go _ _ _ _ _ _ 29 [(0, rc 80), (1, rc a0), (2, vi l2), (3, vi l3), (4, vi l4), (5, vi l5), (6, vi l6), (7, vi l7)] [vi r2] ((S, T), Y) _
      obtain ⟨y4, hy4, h⟩ := bind_el h
      have key : Go M8_reachOn 3 0 0 0 0 64 [(0, rc 80), (1, rc a0), (2, vi l2), (3, vi l3), (4, vi l4), (5, vi l5), (6, vi y4.1), (7, vi l7)] [] ((y4.2, T), Y) Q := by
        refine go_blk rfl [(.iinc 7 1, 3, 7, 0, 0, .inl 1)] 64 67 _ _ _ (by decide +kernel) ?_
        show Go _ _ _ _ _ _ 67 [(7, vi (l7 + 1)), (0, rc 80), (1, rc a0), (2, vi l2), (3, vi l3), (4, vi l4), (5, vi l5), (6, vi y4.1)] [] ((y4.2, T), Y) _
        refine go_goto (off := (-54)) (tgt := 13) (by decide +kernel) (by decide) ?_
        refine go_pick [1, 2, 3, 4, 5, 6, 7, 0] rfl ?_
        exact ih _ _ _ _ h k
      replace h := hy4
      refine ite_el h (fun q2 h => ?_) (fun q2 h => ?_)
      · refine go_if_eq (off := 35) (tgt := 64) (by decide +kernel) (by decide) (fun _ => ?_) (fun z => absurd q2 z)
        obtain rfl := Option.some.inj h
        refine go_pick [0, 1, 2, 3, 4, 5, 6, 7] rfl ?_
        exact key
      · refine go_if_eq (off := 35) (tgt := 64) (by decide +kernel) (by decide) (fun z => absurd z q2) (fun _ => ?_)
        refine go_blk rfl [(.aload_n 1, 1, 1, 0, 0, .inl 0), (.iload_n 2, 1, 2, 0, 0, .inl 0), (.iload 7, 2, 7, 0, 0, .inl 0)] 32 36 _ _ _ (by decide +kernel) ?_
        show Go _ _ _ _ _ _ 36 [(0, rc 80), (1, rc a0), (2, vi l2), (3, vi l3), (4, vi l4), (5, vi l5), (6, vi l6), (7, vi l7)] [vi l7, vi l2, rc a0] ((S, T), Y) _
        obtain ⟨r3, hr3, h⟩ := bind_el h
        refine go_callV (idx := 56) (z := 1) (M' := M4_timeFor) (n := 2) (A := [vi l2, vi l7]) (v' := some (vi r3)) (μ' := ((S, T), Y)) (d' := 2) (mc' := 0) (ms' := 0) (kc' := 0) (ks' := 0) (ci := 4) (x := .inl a0) (by decide +kernel) ml_8_56 rfl wv4_timeFor rfl (by decide) rfl h0.1 (ret4_timeFor h0 hr3) (by decide) rfl rfl (Nat.le_of_ble_eq_true rfl) rfl (jag rfl rfl) ?_
        show Go _ _ _ _ _ _ 39 [(0, rc 80), (1, rc a0), (2, vi l2), (3, vi l3), (4, vi l4), (5, vi l5), (6, vi l6), (7, vi l7)] [vi r3] ((S, T), Y) _
        refine go_blk rfl [(.iload 4, 2, 4, 0, 0, .inl 0)] 39 41 _ _ _ (by decide +kernel) ?_
        show Go _ _ _ _ _ _ 41 [(0, rc 80), (1, rc a0), (2, vi l2), (3, vi l3), (4, vi l4), (5, vi l5), (6, vi l6), (7, vi l7)] [vi l4, vi r3] ((S, T), Y) _
        refine ite_el h (fun q3 h => ?_) (fun q3 h => ?_)
        · refine go_icmp_gt (off := 23) (tgt := 64) (by decide +kernel) (by decide) (fun _ => ?_) (fun z => absurd q3 z)
          obtain rfl := Option.some.inj h
          refine go_pick [0, 1, 2, 3, 4, 5, 6, 7] rfl ?_
          exact key
        · refine go_icmp_gt (off := 23) (tgt := 64) (by decide +kernel) (by decide) (fun z => absurd z q3) (fun _ => ?_)
          refine gd_el h (fun q4 h => ?_)
          refine go_blk rfl [(.aload_n 0, 1, 0, 0, 0, .inl 0), (.getfield 13, 3, 8, 0, 1, .inl 0), (.iconst 0, 1, 0, 0, 0, .inl 0), (.aaload, 1, 27, 0, 0, .inl 0), (.iload_n 3, 1, 3, 0, 0, .inl 0), (.iconst 1, 1, 0, 0, 0, .inl 1), (.iload 7, 2, 7, 0, 0, .inl 0), (.ishl, 1, 0, 0, 0, .inl 0), (.ior, 1, 0, 0, 0, .inl 0), (.iconst 1, 1, 0, 0, 0, .inl 1), (.iastore, 1, 20, 0, 0, .inl 0)] 44 58 _ _ _ (by decide +kernel) ?_
          refine And.intro (lc_t80 hT) (Exists.intro _ (And.intro (gRc (lc_r8_0 hT)) ?_))
          refine And.intro (lc_t81 hT) (Exists.intro _ (And.intro (lc_n81 hT) (And.intro (inb_in (by decide)) (Exists.intro _ (And.intro (gRc (lc_r100_0 hT)) ?_)))))
          refine And.intro (lc_t82 hT) (Exists.intro _ (And.intro (lc_n82 hT) (And.intro (inb_in q4) ?_)))
          show Go _ _ _ _ _ _ 58 [(0, rc 80), (1, rc a0), (2, vi l2), (3, vi l3), (4, vi l4), (5, vi l5), (6, vi l6), (7, vi l7)] [] ((wI S 82 (l3 ||| ((1 : Int32) <<< (l7 &&& 31))).toNatClampNeg 1, T), Y) _
          refine go_blk rfl [(.iload 5, 2, 5, 0, 0, .inl 0), (.iconst 1, 1, 0, 0, 0, .inl 1), (.iadd, 1, 0, 0, 0, .inl 0), (.istore 6, 2, 6, 0, 0, .inl 0)] 58 64 _ _ _ (by decide +kernel) ?_
          show Go _ _ _ _ _ _ 64 [(6, vi (l5 + 1)), (0, rc 80), (1, rc a0), (2, vi l2), (3, vi l3), (4, vi l4), (5, vi l5), (7, vi l7)] [] ((wI S 82 (l3 ||| ((1 : Int32) <<< (l7 &&& 31))).toNatClampNeg 1, T), Y) _
          obtain rfl := Option.some.inj h
          refine go_pick [1, 2, 3, 4, 5, 6, 0, 7] rfl ?_
          exact key
theorem ret8_reachOn {S : jS} {T : jT} {Y : jS × jT} {a0 : Nat} {a1 : Int32} {a2 : Int32} {a3 : Int32} {S1 : jS} {x : Int32} (hT : LayC T) (h0 : LayHall T a0) (h : f8_reachOn T S a0 a1 a2 a3 = some (S1, x)) : Ret M8_reachOn 3 0 0 [rc 80, rc a0, vi a1, vi a2, vi a3] ((S, T), Y) (some (vi x)) ((S1, T), Y) := by
  refine Ret.of (by decide +kernel) (Nat.le_of_ble_eq_true rfl) ?_
  unfold f8_reachOn at h
  show Go _ _ _ _ _ _ 0 [(0, rc 80), (1, rc a0), (2, vi a1), (3, vi a2), (4, vi a3)] [] ((S, T), Y) _
  refine go_blk rfl [(.iload_n 3, 1, 3, 0, 0, .inl 0)] 0 1 _ _ _ (by decide +kernel) ?_
  show Go _ _ _ _ _ _ 1 [(0, rc 80), (1, rc a0), (2, vi a1), (3, vi a2), (4, vi a3)] [vi a2] ((S, T), Y) _
  obtain ⟨r1, hr1, h⟩ := bind_el h
  refine go_callS (idx := 22) (z := 0) (M' := M13_bitCount) (n := 1) (A := [vi a2]) (v' := some (vi r1)) (μ' := ((S, T), Y)) (d' := 1) (mc' := 0) (ms' := 0) (kc' := 0) (ks' := 0) (by decide +kernel) ml_8_22 rfl ws13_bitCount rfl (ret13_bitCount hr1) (by decide) rfl rfl (Nat.le_of_ble_eq_true rfl) rfl (jag rfl rfl) ?_
  show Go _ _ _ _ _ _ 4 [(0, rc 80), (1, rc a0), (2, vi a1), (3, vi a2), (4, vi a3)] [vi r1] ((S, T), Y) _
  refine go_blk rfl [(.istore 5, 2, 5, 0, 0, .inl 0), (.iload 5, 2, 5, 0, 0, .inl 0), (.istore 6, 2, 6, 0, 0, .inl 0), (.iconst 0, 1, 0, 0, 0, .inl 0), (.istore 7, 2, 7, 0, 0, .inl 0)] 4 13 _ _ _ (by decide +kernel) ?_
  show Go _ _ _ _ _ _ 13 [(7, vi 0), (6, vi r1), (5, vi r1), (0, rc 80), (1, rc a0), (2, vi a1), (3, vi a2), (4, vi a3)] [] ((S, T), Y) _
  refine go_pick [3, 4, 5, 6, 7, 2, 1, 0] rfl ?_
  obtain ⟨y5, hy5, h⟩ := bind_el h
  refine f8_reachOn_L1_ok hT h0 _ _ _ _ _ hy5 ?_
  show Go _ _ _ _ _ _ 70 [(6, vi y5.2)] [] ((y5.1, T), Y) _
  refine go_blk rfl [(.iload 6, 2, 6, 0, 0, .inl 0)] 70 72 _ _ _ (by decide +kernel) ?_
  show Go _ _ _ _ _ _ 72 [(6, vi y5.2)] [vi y5.2] ((y5.1, T), Y) _
  obtain ⟨rfl, rfl⟩ := Prod.mk.inj (Option.some.inj h)
  exact go_ireturn (by decide +kernel) rfl rfl ⟨rfl, rfl⟩
def f8_mostWithin_L2 (T : jT) (a0 : Nat) (l2 : Int32) (l5 : Int32) : Nat → jS → Int32 → Int32 → Option (jS × Int32)
  | 0, _, _, _ => none
  | n + 1, S, l4, l6 => (if l6 < 0 then some (S, l4) else (if inb l6 64 then Option.bind (if (S.1 82 l6.toNatClampNeg) = 1 then Option.bind (f4_isIn S a0 l5) (fun r2 => (if r2 = 0 then some (l4, S) else Option.bind (f8_reachOn T S a0 l5 l6 l2) (fun r3 => some (mmax l4 r3.2, r3.1)))) else some (l4, S)) (fun (y4 : Int32 × jS) => f8_mostWithin_L2 T a0 l2 l5 n y4.2 y4.1 (l6 + (-1))) else none))
def f8_mostWithin_L1 (T : jT) (a0 : Nat) (l2 : Int32) : Nat → jS → Int32 → Int32 → Option (jS × Int32)
  | 0, _, _, _ => none
  | n + 1, S, l4, l5 => (if (S.1 a0 2) ≤ l5 then some (S, l4) else Option.bind (f8_mostWithin_L2 T a0 l2 l5 jF S l4 63) (fun y5 => f8_mostWithin_L1 T a0 l2 n y5.1 y5.2 (l5 + 1)))
def f8_mostWithin (T : jT) (S : jS) (a0 : Nat) (a1 : Int32) : Option (jS × Int32) := Option.bind (f18_fill S 82 64 0) (fun r1 => Option.bind (f8_mostWithin_L1 T a0 a1 jF (wI r1.1 82 0 1) 0 0) (fun y6 => some (y6.1, y6.2)))
theorem f8_mostWithin_L2_ok {T : jT} {Y : jS × jT} {a0 : Nat} {l2 : Int32} {l5 : Int32} {Q : Option jV → jMem → Prop} (hT : LayC T) (h0 : LayHall T a0) : ∀ (n : Nat) (S : jS) (l4 : Int32) (l6 : Int32) (r : (jS × Int32)), f8_mostWithin_L2 T a0 l2 l5 n S l4 l6 = some r → Go M8_mostWithin 4 0 0 0 0 80 [(0, rc 80), (1, rc a0), (2, vi l2), (3, rc 82), (4, vi r.2), (5, vi l5)] [] ((r.1, T), Y) Q → Go M8_mostWithin 4 0 0 0 0 35 [(0, rc 80), (1, rc a0), (2, vi l2), (3, rc 82), (4, vi l4), (5, vi l5), (6, vi l6)] [] ((S, T), Y) Q := by
  intro n
  induction n with
  | zero => intro S l4 l6 r h k; exact absurd h (by intro z; cases z)
  | succ n ih =>
    intro S l4 l6 r h k
    rw [f8_mostWithin_L2] at h
    refine go_blk rfl [(.iload 6, 2, 6, 0, 0, .inl 0)] 35 37 _ _ _ (by decide +kernel) ?_
    show Go _ _ _ _ _ _ 37 [(0, rc 80), (1, rc a0), (2, vi l2), (3, rc 82), (4, vi l4), (5, vi l5), (6, vi l6)] [vi l6] ((S, T), Y) _
    refine ite_el h (fun q2 h => ?_) (fun q2 h => ?_)
    · refine go_if_lt (off := 43) (tgt := 80) (by decide +kernel) (by decide) (fun _ => ?_) (fun z => absurd q2 z)
      obtain rfl := Option.some.inj h
      refine go_pick [0, 1, 2, 3, 4, 5] rfl ?_
      exact k
    · refine go_if_lt (off := 43) (tgt := 80) (by decide +kernel) (by decide) (fun z => absurd z q2) (fun _ => ?_)
      refine gd_el h (fun q3 h => ?_)
      refine go_blk rfl [(.aload_n 3, 1, 3, 0, 0, .inl 0), (.iload 6, 2, 6, 0, 0, .inl 0), (.iaload, 1, 20, 0, 0, .inl 0), (.iconst 1, 1, 0, 0, 0, .inl 1)] 40 45 _ _ _ (by decide +kernel) ?_
      refine And.intro (lc_t82 hT) (Exists.intro _ (And.intro (lc_n82 hT) (And.intro (inb_in q3) ?_)))
      show Go _ _ _ _ _ _ 45 [(0, rc 80), (1, rc a0), (2, vi l2), (3, rc 82), (4, vi l4), (5, vi l5), (6, vi l6)] [vi 1, vi (S.1 82 l6.toNatClampNeg)] ((S, T), Y) _
      obtain ⟨y4, hy4, h⟩ := bind_el h
      have key : Go M8_mostWithin 4 0 0 0 0 74 [(0, rc 80), (1, rc a0), (2, vi l2), (3, rc 82), (4, vi y4.1), (5, vi l5), (6, vi l6)] [] ((y4.2, T), Y) Q := by
        refine go_blk rfl [(.iinc 6 (-1), 3, 6, 0, 0, .inl (-1))] 74 77 _ _ _ (by decide +kernel) ?_
        show Go _ _ _ _ _ _ 77 [(6, vi (l6 + (-1))), (0, rc 80), (1, rc a0), (2, vi l2), (3, rc 82), (4, vi y4.1), (5, vi l5)] [] ((y4.2, T), Y) _
        refine go_goto (off := (-42)) (tgt := 35) (by decide +kernel) (by decide) ?_
        refine go_pick [1, 2, 3, 4, 5, 6, 0] rfl ?_
        exact ih _ _ _ _ h k
      replace h := hy4
      refine ite_el h (fun q4 h => ?_) (fun q4 h => ?_)
      · refine go_icmp_ne (off := 29) (tgt := 74) (by decide +kernel) (by decide) (fun z => absurd q4 z) (fun _ => ?_)
        refine go_blk rfl [(.aload_n 1, 1, 1, 0, 0, .inl 0), (.iload 5, 2, 5, 0, 0, .inl 0)] 48 51 _ _ _ (by decide +kernel) ?_
        show Go _ _ _ _ _ _ 51 [(0, rc 80), (1, rc a0), (2, vi l2), (3, rc 82), (4, vi l4), (5, vi l5), (6, vi l6)] [vi l5, rc a0] ((S, T), Y) _
        obtain ⟨r2, hr2, h⟩ := bind_el h
        refine go_callV (idx := 48) (z := 1) (M' := M4_isIn) (n := 1) (A := [vi l5]) (v' := some (vi r2)) (μ' := ((S, T), Y)) (d' := 2) (mc' := 0) (ms' := 0) (kc' := 0) (ks' := 0) (ci := 4) (x := .inl a0) (by decide +kernel) ml_8_48 rfl wv4_isIn rfl (by decide) rfl h0.1 (ret4_isIn h0 hr2) (by decide) rfl rfl (Nat.le_of_ble_eq_true rfl) rfl (jag rfl rfl) ?_
        show Go _ _ _ _ _ _ 54 [(0, rc 80), (1, rc a0), (2, vi l2), (3, rc 82), (4, vi l4), (5, vi l5), (6, vi l6)] [vi r2] ((S, T), Y) _
        refine ite_el h (fun q5 h => ?_) (fun q5 h => ?_)
        · refine go_if_eq (off := 20) (tgt := 74) (by decide +kernel) (by decide) (fun _ => ?_) (fun z => absurd q5 z)
          obtain rfl := Option.some.inj h
          refine go_pick [0, 1, 2, 3, 4, 5, 6] rfl ?_
          exact key
        · refine go_if_eq (off := 20) (tgt := 74) (by decide +kernel) (by decide) (fun z => absurd z q5) (fun _ => ?_)
          refine go_blk rfl [(.iload 4, 2, 4, 0, 0, .inl 0), (.aload_n 0, 1, 0, 0, 0, .inl 0), (.aload_n 1, 1, 1, 0, 0, .inl 0), (.iload 5, 2, 5, 0, 0, .inl 0), (.iload 6, 2, 6, 0, 0, .inl 0), (.iload_n 2, 1, 2, 0, 0, .inl 0)] 57 66 _ _ _ (by decide +kernel) ?_
          show Go _ _ _ _ _ _ 66 [(0, rc 80), (1, rc a0), (2, vi l2), (3, rc 82), (4, vi l4), (5, vi l5), (6, vi l6)] [vi l2, vi l6, vi l5, rc a0, rc 80, vi l4] ((S, T), Y) _
          obtain ⟨r3, hr3, h⟩ := bind_el h
          refine go_callV (idx := 72) (z := 0) (M' := M8_reachOn) (n := 4) (A := [rc a0, vi l5, vi l6, vi l2]) (v' := some (vi r3.2)) (μ' := ((r3.1, T), Y)) (d' := 3) (mc' := 0) (ms' := 0) (kc' := 0) (ks' := 0) (ci := 8) (x := .inl 80) (by decide +kernel) ml_8_72 rfl wv8_reachOn rfl (by decide) rfl (lc_t80 hT) (ret8_reachOn hT h0 hr3) (by decide) rfl rfl (Nat.le_of_ble_eq_true rfl) rfl (jag rfl rfl) ?_
          show Go _ _ _ _ _ _ 69 [(0, rc 80), (1, rc a0), (2, vi l2), (3, rc 82), (4, vi l4), (5, vi l5), (6, vi l6)] [vi r3.2, vi l4] ((r3.1, T), Y) _
          refine go_mmax (idx := 59) (by decide +kernel) ml_8_59 rfl (by decide) (Nat.le_of_ble_eq_true rfl) ?_
          show Go _ _ _ _ _ _ 72 [(0, rc 80), (1, rc a0), (2, vi l2), (3, rc 82), (4, vi l4), (5, vi l5), (6, vi l6)] [vi (mmax l4 r3.2)] ((r3.1, T), Y) _
          refine go_blk rfl [(.istore 4, 2, 4, 0, 0, .inl 0)] 72 74 _ _ _ (by decide +kernel) ?_
          show Go _ _ _ _ _ _ 74 [(4, vi (mmax l4 r3.2)), (0, rc 80), (1, rc a0), (2, vi l2), (3, rc 82), (5, vi l5), (6, vi l6)] [] ((r3.1, T), Y) _
          obtain rfl := Option.some.inj h
          refine go_pick [1, 2, 3, 4, 0, 5, 6] rfl ?_
          exact key
      · refine go_icmp_ne (off := 29) (tgt := 74) (by decide +kernel) (by decide) (fun _ => ?_) (fun z => absurd z q4)
        obtain rfl := Option.some.inj h
        refine go_pick [0, 1, 2, 3, 4, 5, 6] rfl ?_
        exact key
theorem f8_mostWithin_L1_ok {T : jT} {Y : jS × jT} {a0 : Nat} {l2 : Int32} {Q : Option jV → jMem → Prop} (hT : LayC T) (h0 : LayHall T a0) : ∀ (n : Nat) (S : jS) (l4 : Int32) (l5 : Int32) (r : (jS × Int32)), f8_mostWithin_L1 T a0 l2 n S l4 l5 = some r → Go M8_mostWithin 4 0 0 0 0 86 [(4, vi r.2)] [] ((r.1, T), Y) Q → Go M8_mostWithin 4 0 0 0 0 22 [(0, rc 80), (1, rc a0), (2, vi l2), (3, rc 82), (4, vi l4), (5, vi l5)] [] ((S, T), Y) Q := by
  intro n
  induction n with
  | zero => intro S l4 l5 r h k; exact absurd h (by intro z; cases z)
  | succ n ih =>
    intro S l4 l5 r h k
    rw [f8_mostWithin_L1] at h
    refine go_blk rfl [(.iload 5, 2, 5, 0, 0, .inl 0), (.aload_n 1, 1, 1, 0, 0, .inl 0), (.getfield 37, 3, 4, 2, 0, .inl 0)] 22 28 _ _ _ (by decide +kernel) ?_
    refine And.intro h0.1 ?_
    show Go _ _ _ _ _ _ 28 [(0, rc 80), (1, rc a0), (2, vi l2), (3, rc 82), (4, vi l4), (5, vi l5)] [vi (S.1 a0 2), vi l5] ((S, T), Y) _
    refine ite_el h (fun q1 h => ?_) (fun q1 h => ?_)
    · refine go_icmp_ge (off := 58) (tgt := 86) (by decide +kernel) (by decide) (fun _ => ?_) (fun z => absurd q1 z)
      obtain rfl := Option.some.inj h
      refine go_pick [4] rfl ?_
      exact k
    · refine go_icmp_ge (off := 58) (tgt := 86) (by decide +kernel) (by decide) (fun z => absurd z q1) (fun _ => ?_)
      refine go_blk rfl [(.bipush 63, 2, 0, 0, 0, .inl 63), (.istore 6, 2, 6, 0, 0, .inl 0)] 31 35 _ _ _ (by decide +kernel) ?_
      show Go _ _ _ _ _ _ 35 [(6, vi 63), (0, rc 80), (1, rc a0), (2, vi l2), (3, rc 82), (4, vi l4), (5, vi l5)] [] ((S, T), Y) _
      refine go_pick [1, 2, 3, 4, 5, 6, 0] rfl ?_
      obtain ⟨y5, hy5, h⟩ := bind_el h
      refine f8_mostWithin_L2_ok hT h0 _ _ _ _ _ hy5 ?_
      show Go _ _ _ _ _ _ 80 [(0, rc 80), (1, rc a0), (2, vi l2), (3, rc 82), (4, vi y5.2), (5, vi l5)] [] ((y5.1, T), Y) _
      refine go_blk rfl [(.iinc 5 1, 3, 5, 0, 0, .inl 1)] 80 83 _ _ _ (by decide +kernel) ?_
      show Go _ _ _ _ _ _ 83 [(5, vi (l5 + 1)), (0, rc 80), (1, rc a0), (2, vi l2), (3, rc 82), (4, vi y5.2)] [] ((y5.1, T), Y) _
      refine go_goto (off := (-61)) (tgt := 22) (by decide +kernel) (by decide) ?_
      refine go_pick [1, 2, 3, 4, 5, 0] rfl ?_
      exact ih _ _ _ _ h k
theorem ret8_mostWithin {S : jS} {T : jT} {Y : jS × jT} {a0 : Nat} {a1 : Int32} {S1 : jS} {x : Int32} (hT : LayC T) (h0 : LayHall T a0) (h : f8_mostWithin T S a0 a1 = some (S1, x)) : Ret M8_mostWithin 4 0 0 [rc 80, rc a0, vi a1] ((S, T), Y) (some (vi x)) ((S1, T), Y) := by
  refine Ret.of (by decide +kernel) (Nat.le_of_ble_eq_true rfl) ?_
  unfold f8_mostWithin at h
  show Go _ _ _ _ _ _ 0 [(0, rc 80), (1, rc a0), (2, vi a1)] [] ((S, T), Y) _
  refine go_blk rfl [(.aload_n 0, 1, 0, 0, 0, .inl 0), (.getfield 13, 3, 8, 0, 1, .inl 0), (.iconst 0, 1, 0, 0, 0, .inl 0), (.aaload, 1, 27, 0, 0, .inl 0), (.astore_n 3, 1, 3, 0, 0, .inl 0), (.aload_n 3, 1, 3, 0, 0, .inl 0), (.iconst 0, 1, 0, 0, 0, .inl 0)] 0 9 _ _ _ (by decide +kernel) ?_
  refine And.intro (lc_t80 hT) (Exists.intro _ (And.intro (gRc (lc_r8_0 hT)) ?_))
  refine And.intro (lc_t81 hT) (Exists.intro _ (And.intro (lc_n81 hT) (And.intro (inb_in (by decide)) (Exists.intro _ (And.intro (gRc (lc_r100_0 hT)) ?_)))))
  show Go _ _ _ _ _ _ 9 [(3, rc 82), (0, rc 80), (1, rc a0), (2, vi a1)] [vi 0, rc 82] ((S, T), Y) _
  obtain ⟨r1, hr1, h⟩ := bind_el h
  refine go_callS (idx := 66) (z := 0) (M' := M18_fill) (n := 2) (A := [rc 82, vi 0]) (v' := none) (μ' := ((r1.1, T), Y)) (d' := 1) (mc' := 0) (ms' := 0) (kc' := 0) (ks' := 0) (by decide +kernel) ml_8_66 rfl ws18_fill rfl (ret18_fill ⟨(lc_t82 hT), (lc_n82 hT)⟩ hr1) (by decide) rfl rfl (Nat.le_of_ble_eq_true rfl) rfl (jag rfl rfl) ?_
  show Go _ _ _ _ _ _ 12 [(3, rc 82), (0, rc 80), (1, rc a0), (2, vi a1)] [] ((r1.1, T), Y) _
  refine go_blk rfl [(.aload_n 3, 1, 3, 0, 0, .inl 0), (.iconst 0, 1, 0, 0, 0, .inl 0), (.iconst 1, 1, 0, 0, 0, .inl 1), (.iastore, 1, 20, 0, 0, .inl 0)] 12 16 _ _ _ (by decide +kernel) ?_
  refine And.intro (lc_t82 hT) (Exists.intro _ (And.intro (lc_n82 hT) (And.intro (inb_in (by decide)) ?_)))
  show Go _ _ _ _ _ _ 16 [(3, rc 82), (0, rc 80), (1, rc a0), (2, vi a1)] [] ((wI r1.1 82 0 1, T), Y) _
  refine go_blk rfl [(.iconst 0, 1, 0, 0, 0, .inl 0), (.istore 4, 2, 4, 0, 0, .inl 0), (.iconst 0, 1, 0, 0, 0, .inl 0), (.istore 5, 2, 5, 0, 0, .inl 0)] 16 22 _ _ _ (by decide +kernel) ?_
  show Go _ _ _ _ _ _ 22 [(5, vi 0), (4, vi 0), (3, rc 82), (0, rc 80), (1, rc a0), (2, vi a1)] [] ((wI r1.1 82 0 1, T), Y) _
  refine go_pick [3, 4, 5, 2, 1, 0] rfl ?_
  obtain ⟨y6, hy6, h⟩ := bind_el h
  refine f8_mostWithin_L1_ok hT h0 _ _ _ _ _ hy6 ?_
  show Go _ _ _ _ _ _ 86 [(4, vi y6.2)] [] ((y6.1, T), Y) _
  refine go_blk rfl [(.iload 4, 2, 4, 0, 0, .inl 0)] 86 88 _ _ _ (by decide +kernel) ?_
  show Go _ _ _ _ _ _ 88 [(4, vi y6.2)] [vi y6.2] ((y6.1, T), Y) _
  obtain ⟨rfl, rfl⟩ := Prod.mk.inj (Option.some.inj h)
  exact go_ireturn (by decide +kernel) rfl rfl ⟨rfl, rfl⟩
def f9_append_L1 (l1 : Int32) : Nat → jS → Int32 → Option jS
  | 0, _, _ => none
  | n + 1, S, l2 => (if l2 < 0 then some S else (if 400 ≤ (S.1 1 1) then some S else (if inb (S.1 1 1) 400 then f9_append_L1 l1 n (wI (wI S 2 (S.1 1 1).toNatClampNeg ((l1 >>> (l2 &&& 31)) &&& 255)) 1 1 (((wI S 2 (S.1 1 1).toNatClampNeg ((l1 >>> (l2 &&& 31)) &&& 255)).1 1 1) + 1)) (l2 + (-8)) else none)))
def f9_append (S : jS) (a0 : Int32) : Option (jS × Unit) := Option.bind (f9_append_L1 a0 jF S 24) (fun y1 => some (y1, ()))
theorem f9_append_L1_ok {T : jT} {Y : jS × jT} {l1 : Int32} {Q : Option jV → jMem → Prop} (hT : LayC T) : ∀ (n : Nat) (S : jS) (l2 : Int32) (r : jS), f9_append_L1 l1 n S l2 = some r → Go M9_append 1 0 0 0 0 49 [] [] ((r, T), Y) Q → Go M9_append 1 0 0 0 0 3 [(0, rc 1), (1, vi l1), (2, vi l2)] [] ((S, T), Y) Q := by
  intro n
  induction n with
  | zero => intro S l2 r h k; exact absurd h (by intro z; cases z)
  | succ n ih =>
    intro S l2 r h k
    rw [f9_append_L1] at h
    refine go_blk rfl [(.iload_n 2, 1, 2, 0, 0, .inl 0)] 3 4 _ _ _ (by decide +kernel) ?_
    show Go _ _ _ _ _ _ 4 [(0, rc 1), (1, vi l1), (2, vi l2)] [vi l2] ((S, T), Y) _
    refine ite_el h (fun q1 h => ?_) (fun q1 h => ?_)
    · refine go_if_lt (off := 45) (tgt := 49) (by decide +kernel) (by decide) (fun _ => ?_) (fun z => absurd q1 z)
      obtain rfl := Option.some.inj h
      refine go_pick [] rfl ?_
      exact k
    · refine go_if_lt (off := 45) (tgt := 49) (by decide +kernel) (by decide) (fun z => absurd z q1) (fun _ => ?_)
      refine go_blk rfl [(.aload_n 0, 1, 0, 0, 0, .inl 0), (.getfield 15, 3, 9, 1, 0, .inl 0), (.sipush 400, 3, 0, 0, 0, .inl 400)] 7 14 _ _ _ (by decide +kernel) ?_
      refine And.intro (lc_t1 hT) ?_
      show Go _ _ _ _ _ _ 14 [(0, rc 1), (1, vi l1), (2, vi l2)] [vi 400, vi (S.1 1 1)] ((S, T), Y) _
      refine ite_el h (fun q2 h => ?_) (fun q2 h => ?_)
      · refine go_icmp_ge (off := 35) (tgt := 49) (by decide +kernel) (by decide) (fun _ => ?_) (fun z => absurd q2 z)
        obtain rfl := Option.some.inj h
        refine go_pick [] rfl ?_
        exact k
      · refine go_icmp_ge (off := 35) (tgt := 49) (by decide +kernel) (by decide) (fun z => absurd z q2) (fun _ => ?_)
        refine gd_el h (fun q3 h => ?_)
        refine go_blk rfl [(.aload_n 0, 1, 0, 0, 0, .inl 0), (.getfield 9, 3, 9, 0, 1, .inl 0), (.aload_n 0, 1, 0, 0, 0, .inl 0), (.getfield 15, 3, 9, 1, 0, .inl 0), (.iload_n 1, 1, 1, 0, 0, .inl 0), (.iload_n 2, 1, 2, 0, 0, .inl 0), (.ishr, 1, 0, 0, 0, .inl 0), (.sipush 255, 3, 0, 0, 0, .inl 255), (.iand, 1, 0, 0, 0, .inl 0), (.iastore, 1, 20, 0, 0, .inl 0)] 17 33 _ _ _ (by decide +kernel) ?_
        refine And.intro (lc_t1 hT) (Exists.intro _ (And.intro (gRc (lc_r9_0 hT)) ?_))
        refine And.intro (lc_t1 hT) ?_
        refine And.intro (lc_t2 hT) (Exists.intro _ (And.intro (lc_n2 hT) (And.intro (inb_in q3) ?_)))
        show Go _ _ _ _ _ _ 33 [(0, rc 1), (1, vi l1), (2, vi l2)] [] ((wI S 2 (S.1 1 1).toNatClampNeg ((l1 >>> (l2 &&& 31)) &&& 255), T), Y) _
        refine go_blk rfl [(.aload_n 0, 1, 0, 0, 0, .inl 0), (.dup, 1, 0, 0, 0, .inl 0), (.getfield 15, 3, 9, 1, 0, .inl 0), (.iconst 1, 1, 0, 0, 0, .inl 1), (.iadd, 1, 0, 0, 0, .inl 0), (.putfield 15, 3, 9, 1, 0, .inl 0)] 33 43 _ _ _ (by decide +kernel) ?_
        refine And.intro (lc_t1 hT) ?_
        refine And.intro (lc_t1 hT) (And.intro trivial ?_)
        show Go _ _ _ _ _ _ 43 [(0, rc 1), (1, vi l1), (2, vi l2)] [] ((wI (wI S 2 (S.1 1 1).toNatClampNeg ((l1 >>> (l2 &&& 31)) &&& 255)) 1 1 (((wI S 2 (S.1 1 1).toNatClampNeg ((l1 >>> (l2 &&& 31)) &&& 255)).1 1 1) + 1), T), Y) _
        refine go_blk rfl [(.iinc 2 (-8), 3, 2, 0, 0, .inl (-8))] 43 46 _ _ _ (by decide +kernel) ?_
        show Go _ _ _ _ _ _ 46 [(2, vi (l2 + (-8))), (0, rc 1), (1, vi l1)] [] ((wI (wI S 2 (S.1 1 1).toNatClampNeg ((l1 >>> (l2 &&& 31)) &&& 255)) 1 1 (((wI S 2 (S.1 1 1).toNatClampNeg ((l1 >>> (l2 &&& 31)) &&& 255)).1 1 1) + 1), T), Y) _
        refine go_goto (off := (-43)) (tgt := 3) (by decide +kernel) (by decide) ?_
        refine go_pick [1, 2, 0] rfl ?_
        exact ih _ _ _ h k
theorem ret9_append {S : jS} {T : jT} {Y : jS × jT} {a0 : Int32} {S1 : jS} {x : Unit} (hT : LayC T) (h : f9_append S a0 = some (S1, x)) : Ret M9_append 1 0 0 [rc 1, vi a0] ((S, T), Y) (none) ((S1, T), Y) := by
  refine Ret.of (by decide +kernel) (Nat.le_of_ble_eq_true rfl) ?_
  unfold f9_append at h
  show Go _ _ _ _ _ _ 0 [(0, rc 1), (1, vi a0)] [] ((S, T), Y) _
  refine go_blk rfl [(.bipush 24, 2, 0, 0, 0, .inl 24), (.istore_n 2, 1, 2, 0, 0, .inl 0)] 0 3 _ _ _ (by decide +kernel) ?_
  show Go _ _ _ _ _ _ 3 [(2, vi 24), (0, rc 1), (1, vi a0)] [] ((S, T), Y) _
  refine go_pick [1, 2, 0] rfl ?_
  obtain ⟨y1, hy1, h⟩ := bind_el h
  refine f9_append_L1_ok hT _ _ _ _ hy1 ?_
  show Go _ _ _ _ _ _ 49 [] [] ((y1, T), Y) _
  obtain ⟨rfl, rfl⟩ := Prod.mk.inj (Option.some.inj h)
  exact go_return (by decide +kernel) rfl ⟨rfl, rfl⟩
def f10_feed (S : jS) (a0 : Int32) (a1 : Int32) (a2 : Int32) (a3 : Int32) (a4 : Int32) : Option (jS × Int32) := (if ((S.1 1 1) + 20) ≤ 400 then Option.bind (f9_append S a0) (fun r1 => Option.bind (f9_append r1.1 a1) (fun r2 => Option.bind (f9_append r2.1 a2) (fun r3 => Option.bind (f9_append r3.1 a3) (fun r4 => Option.bind (f9_append r4.1 a4) (fun r5 => some (r5.1, r5.1.1 1 1)))))) else some (S, (-1)))
theorem ret10_feed {S : jS} {T : jT} {Y : jS × jT} {a0 : Int32} {a1 : Int32} {a2 : Int32} {a3 : Int32} {a4 : Int32} {S1 : jS} {x : Int32} (hT : LayC T) (h : f10_feed S a0 a1 a2 a3 a4 = some (S1, x)) : Ret M10_feed 2 0 0 [rc 0, vi a0, vi a1, vi a2, vi a3, vi a4] ((S, T), Y) (some (vi x)) ((S1, T), Y) := by
  refine Ret.of (by decide +kernel) (Nat.le_of_ble_eq_true rfl) ?_
  unfold f10_feed at h
  show Go _ _ _ _ _ _ 0 [(0, rc 0), (1, vi a0), (2, vi a1), (3, vi a2), (4, vi a3), (5, vi a4)] [] ((S, T), Y) _
  refine go_blk rfl [(.aload_n 0, 1, 0, 0, 0, .inl 0), (.getfield 10, 3, 10, 0, 1, .inl 0), (.getfield 83, 3, 9, 1, 0, .inl 0), (.bipush 20, 2, 0, 0, 0, .inl 20), (.iadd, 1, 0, 0, 0, .inl 0), (.sipush 400, 3, 0, 0, 0, .inl 400)] 0 13 _ _ _ (by decide +kernel) ?_
  refine And.intro (lc_t0 hT) (Exists.intro _ (And.intro (gRc (lc_r10_0 hT)) ?_))
  refine And.intro (lc_t1 hT) ?_
  show Go _ _ _ _ _ _ 13 [(0, rc 0), (1, vi a0), (2, vi a1), (3, vi a2), (4, vi a3), (5, vi a4)] [vi 400, vi ((S.1 1 1) + 20)] ((S, T), Y) _
  refine ite_el h (fun q1 h => ?_) (fun q1 h => ?_)
  · refine go_icmp_le (off := 5) (tgt := 18) (by decide +kernel) (by decide) (fun _ => ?_) (fun z => absurd q1 z)
    refine go_blk rfl [(.aload_n 0, 1, 0, 0, 0, .inl 0), (.getfield 10, 3, 10, 0, 1, .inl 0), (.iload_n 1, 1, 1, 0, 0, .inl 0)] 18 23 _ _ _ (by decide +kernel) ?_
    refine And.intro (lc_t0 hT) (Exists.intro _ (And.intro (gRc (lc_r10_0 hT)) ?_))
    show Go _ _ _ _ _ _ 23 [(0, rc 0), (1, vi a0), (2, vi a1), (3, vi a2), (4, vi a3), (5, vi a4)] [vi a0, rc 1] ((S, T), Y) _
    obtain ⟨r1, hr1, h⟩ := bind_el h
    refine go_callV (idx := 86) (z := 1) (M' := M9_append) (n := 1) (A := [vi a0]) (v' := none) (μ' := ((r1.1, T), Y)) (d' := 1) (mc' := 0) (ms' := 0) (kc' := 0) (ks' := 0) (ci := 9) (x := .inl 1) (by decide +kernel) ml_10_86 rfl wv9_append rfl (by decide) rfl (lc_t1 hT) (ret9_append hT hr1) (by decide) rfl rfl (Nat.le_of_ble_eq_true rfl) rfl (jag rfl rfl) ?_
    show Go _ _ _ _ _ _ 26 [(0, rc 0), (1, vi a0), (2, vi a1), (3, vi a2), (4, vi a3), (5, vi a4)] [] ((r1.1, T), Y) _
    refine go_blk rfl [(.aload_n 0, 1, 0, 0, 0, .inl 0), (.getfield 10, 3, 10, 0, 1, .inl 0), (.iload_n 2, 1, 2, 0, 0, .inl 0)] 26 31 _ _ _ (by decide +kernel) ?_
    refine And.intro (lc_t0 hT) (Exists.intro _ (And.intro (gRc (lc_r10_0 hT)) ?_))
    show Go _ _ _ _ _ _ 31 [(0, rc 0), (1, vi a0), (2, vi a1), (3, vi a2), (4, vi a3), (5, vi a4)] [vi a1, rc 1] ((r1.1, T), Y) _
    obtain ⟨r2, hr2, h⟩ := bind_el h
    refine go_callV (idx := 86) (z := 1) (M' := M9_append) (n := 1) (A := [vi a1]) (v' := none) (μ' := ((r2.1, T), Y)) (d' := 1) (mc' := 0) (ms' := 0) (kc' := 0) (ks' := 0) (ci := 9) (x := .inl 1) (by decide +kernel) ml_10_86 rfl wv9_append rfl (by decide) rfl (lc_t1 hT) (ret9_append hT hr2) (by decide) rfl rfl (Nat.le_of_ble_eq_true rfl) rfl (jag rfl rfl) ?_
    show Go _ _ _ _ _ _ 34 [(0, rc 0), (1, vi a0), (2, vi a1), (3, vi a2), (4, vi a3), (5, vi a4)] [] ((r2.1, T), Y) _
    refine go_blk rfl [(.aload_n 0, 1, 0, 0, 0, .inl 0), (.getfield 10, 3, 10, 0, 1, .inl 0), (.iload_n 3, 1, 3, 0, 0, .inl 0)] 34 39 _ _ _ (by decide +kernel) ?_
    refine And.intro (lc_t0 hT) (Exists.intro _ (And.intro (gRc (lc_r10_0 hT)) ?_))
    show Go _ _ _ _ _ _ 39 [(0, rc 0), (1, vi a0), (2, vi a1), (3, vi a2), (4, vi a3), (5, vi a4)] [vi a2, rc 1] ((r2.1, T), Y) _
    obtain ⟨r3, hr3, h⟩ := bind_el h
    refine go_callV (idx := 86) (z := 1) (M' := M9_append) (n := 1) (A := [vi a2]) (v' := none) (μ' := ((r3.1, T), Y)) (d' := 1) (mc' := 0) (ms' := 0) (kc' := 0) (ks' := 0) (ci := 9) (x := .inl 1) (by decide +kernel) ml_10_86 rfl wv9_append rfl (by decide) rfl (lc_t1 hT) (ret9_append hT hr3) (by decide) rfl rfl (Nat.le_of_ble_eq_true rfl) rfl (jag rfl rfl) ?_
    show Go _ _ _ _ _ _ 42 [(0, rc 0), (1, vi a0), (2, vi a1), (3, vi a2), (4, vi a3), (5, vi a4)] [] ((r3.1, T), Y) _
    refine go_blk rfl [(.aload_n 0, 1, 0, 0, 0, .inl 0), (.getfield 10, 3, 10, 0, 1, .inl 0), (.iload 4, 2, 4, 0, 0, .inl 0)] 42 48 _ _ _ (by decide +kernel) ?_
    refine And.intro (lc_t0 hT) (Exists.intro _ (And.intro (gRc (lc_r10_0 hT)) ?_))
    show Go _ _ _ _ _ _ 48 [(0, rc 0), (1, vi a0), (2, vi a1), (3, vi a2), (4, vi a3), (5, vi a4)] [vi a3, rc 1] ((r3.1, T), Y) _
    obtain ⟨r4, hr4, h⟩ := bind_el h
    refine go_callV (idx := 86) (z := 1) (M' := M9_append) (n := 1) (A := [vi a3]) (v' := none) (μ' := ((r4.1, T), Y)) (d' := 1) (mc' := 0) (ms' := 0) (kc' := 0) (ks' := 0) (ci := 9) (x := .inl 1) (by decide +kernel) ml_10_86 rfl wv9_append rfl (by decide) rfl (lc_t1 hT) (ret9_append hT hr4) (by decide) rfl rfl (Nat.le_of_ble_eq_true rfl) rfl (jag rfl rfl) ?_
    show Go _ _ _ _ _ _ 51 [(0, rc 0), (1, vi a0), (2, vi a1), (3, vi a2), (4, vi a3), (5, vi a4)] [] ((r4.1, T), Y) _
    refine go_blk rfl [(.aload_n 0, 1, 0, 0, 0, .inl 0), (.getfield 10, 3, 10, 0, 1, .inl 0), (.iload 5, 2, 5, 0, 0, .inl 0)] 51 57 _ _ _ (by decide +kernel) ?_
    refine And.intro (lc_t0 hT) (Exists.intro _ (And.intro (gRc (lc_r10_0 hT)) ?_))
    show Go _ _ _ _ _ _ 57 [(0, rc 0), (1, vi a0), (2, vi a1), (3, vi a2), (4, vi a3), (5, vi a4)] [vi a4, rc 1] ((r4.1, T), Y) _
    obtain ⟨r5, hr5, h⟩ := bind_el h
    refine go_callV (idx := 86) (z := 1) (M' := M9_append) (n := 1) (A := [vi a4]) (v' := none) (μ' := ((r5.1, T), Y)) (d' := 1) (mc' := 0) (ms' := 0) (kc' := 0) (ks' := 0) (ci := 9) (x := .inl 1) (by decide +kernel) ml_10_86 rfl wv9_append rfl (by decide) rfl (lc_t1 hT) (ret9_append hT hr5) (by decide) rfl rfl (Nat.le_of_ble_eq_true rfl) rfl (jag rfl rfl) ?_
    show Go _ _ _ _ _ _ 60 [(0, rc 0), (1, vi a0), (2, vi a1), (3, vi a2), (4, vi a3), (5, vi a4)] [] ((r5.1, T), Y) _
    refine go_blk rfl [(.aload_n 0, 1, 0, 0, 0, .inl 0), (.getfield 10, 3, 10, 0, 1, .inl 0), (.getfield 83, 3, 9, 1, 0, .inl 0)] 60 67 _ _ _ (by decide +kernel) ?_
    refine And.intro (lc_t0 hT) (Exists.intro _ (And.intro (gRc (lc_r10_0 hT)) ?_))
    refine And.intro (lc_t1 hT) ?_
    show Go _ _ _ _ _ _ 67 [(0, rc 0), (1, vi a0), (2, vi a1), (3, vi a2), (4, vi a3), (5, vi a4)] [vi (r5.1.1 1 1)] ((r5.1, T), Y) _
    obtain ⟨rfl, rfl⟩ := Prod.mk.inj (Option.some.inj h)
    exact go_ireturn (by decide +kernel) rfl rfl ⟨rfl, rfl⟩
  · refine go_icmp_le (off := 5) (tgt := 18) (by decide +kernel) (by decide) (fun z => absurd z q1) (fun _ => ?_)
    refine go_blk rfl [(.iconst (-1), 1, 0, 0, 0, .inl (-1))] 16 17 _ _ _ (by decide +kernel) ?_
    show Go _ _ _ _ _ _ 17 [(0, rc 0), (1, vi a0), (2, vi a1), (3, vi a2), (4, vi a3), (5, vi a4)] [vi ((-1))] ((S, T), Y) _
    obtain ⟨rfl, rfl⟩ := Prod.mk.inj (Option.some.inj h)
    exact go_ireturn (by decide +kernel) rfl rfl ⟨rfl, rfl⟩
def f10_end (S : jS) (a0 : Int32) : Option (jS × Int32) := (if a0 < 0 then some (S, (-1)) else (if a0 ≤ (S.1 1 1) then some (wI S 1 1 a0, a0) else some (S, (-1))))
theorem ret10_end {S : jS} {T : jT} {Y : jS × jT} {a0 : Int32} {S1 : jS} {x : Int32} (hT : LayC T) (h : f10_end S a0 = some (S1, x)) : Ret M10_end 1 0 0 [rc 0, vi a0] ((S, T), Y) (some (vi x)) ((S1, T), Y) := by
  refine Ret.of (by decide +kernel) (Nat.le_of_ble_eq_true rfl) ?_
  unfold f10_end at h
  show Go _ _ _ _ _ _ 0 [(0, rc 0), (1, vi a0)] [] ((S, T), Y) _
  refine go_blk rfl [(.iload_n 1, 1, 1, 0, 0, .inl 0)] 0 1 _ _ _ (by decide +kernel) ?_
  show Go _ _ _ _ _ _ 1 [(0, rc 0), (1, vi a0)] [vi a0] ((S, T), Y) _
  refine ite_el h (fun q1 h => ?_) (fun q1 h => ?_)
  · refine go_if_lt (off := 14) (tgt := 15) (by decide +kernel) (by decide) (fun _ => ?_) (fun z => absurd q1 z)
    refine go_blk rfl [(.iconst (-1), 1, 0, 0, 0, .inl (-1))] 15 16 _ _ _ (by decide +kernel) ?_
    show Go _ _ _ _ _ _ 16 [(0, rc 0), (1, vi a0)] [vi ((-1))] ((S, T), Y) _
    obtain ⟨rfl, rfl⟩ := Prod.mk.inj (Option.some.inj h)
    exact go_ireturn (by decide +kernel) rfl rfl ⟨rfl, rfl⟩
  · refine go_if_lt (off := 14) (tgt := 15) (by decide +kernel) (by decide) (fun z => absurd z q1) (fun _ => ?_)
    refine go_blk rfl [(.iload_n 1, 1, 1, 0, 0, .inl 0), (.aload_n 0, 1, 0, 0, 0, .inl 0), (.getfield 10, 3, 10, 0, 1, .inl 0), (.getfield 83, 3, 9, 1, 0, .inl 0)] 4 12 _ _ _ (by decide +kernel) ?_
    refine And.intro (lc_t0 hT) (Exists.intro _ (And.intro (gRc (lc_r10_0 hT)) ?_))
    refine And.intro (lc_t1 hT) ?_
    show Go _ _ _ _ _ _ 12 [(0, rc 0), (1, vi a0)] [vi (S.1 1 1), vi a0] ((S, T), Y) _
    refine ite_el h (fun q2 h => ?_) (fun q2 h => ?_)
    · refine go_icmp_le (off := 5) (tgt := 17) (by decide +kernel) (by decide) (fun _ => ?_) (fun z => absurd q2 z)
      refine go_blk rfl [(.aload_n 0, 1, 0, 0, 0, .inl 0), (.getfield 10, 3, 10, 0, 1, .inl 0), (.iload_n 1, 1, 1, 0, 0, .inl 0), (.putfield 83, 3, 9, 1, 0, .inl 0)] 17 25 _ _ _ (by decide +kernel) ?_
      refine And.intro (lc_t0 hT) (Exists.intro _ (And.intro (gRc (lc_r10_0 hT)) ?_))
      refine And.intro (lc_t1 hT) (And.intro trivial ?_)
      show Go _ _ _ _ _ _ 25 [(0, rc 0), (1, vi a0)] [] ((wI S 1 1 a0, T), Y) _
      refine go_blk rfl [(.iload_n 1, 1, 1, 0, 0, .inl 0)] 25 26 _ _ _ (by decide +kernel) ?_
      show Go _ _ _ _ _ _ 26 [(0, rc 0), (1, vi a0)] [vi a0] ((wI S 1 1 a0, T), Y) _
      obtain ⟨rfl, rfl⟩ := Prod.mk.inj (Option.some.inj h)
      exact go_ireturn (by decide +kernel) rfl rfl ⟨rfl, rfl⟩
    · refine go_icmp_le (off := 5) (tgt := 17) (by decide +kernel) (by decide) (fun z => absurd z q2) (fun _ => ?_)
      refine go_blk rfl [(.iconst (-1), 1, 0, 0, 0, .inl (-1))] 15 16 _ _ _ (by decide +kernel) ?_
      show Go _ _ _ _ _ _ 16 [(0, rc 0), (1, vi a0)] [vi ((-1))] ((S, T), Y) _
      obtain ⟨rfl, rfl⟩ := Prod.mk.inj (Option.some.inj h)
      exact go_ireturn (by decide +kernel) rfl rfl ⟨rfl, rfl⟩
def f10_party (S : jS) : Option (jS × Int32) := Option.bind (f5_read S) (fun r1 => (if r1.2 = 0 then Option.bind (f0_startParty (wI r1.1 1 1 0) 100 4) (fun r2 => some (r2.1, r2.1.1 (100 + 8) 2)) else some (wI r1.1 1 1 0, ((-2)) - r1.2)))
theorem ret10_party {S : jS} {T : jT} {Y : jS × jT} {S1 : jS} {x : Int32} (hT : LayC T) (h : f10_party S = some (S1, x)) : Ret M10_party 9 0 0 [rc 0] ((S, T), Y) (some (vi x)) ((S1, T), Y) := by
  refine Ret.of (by decide +kernel) (Nat.le_of_ble_eq_true rfl) ?_
  unfold f10_party at h
  show Go _ _ _ _ _ _ 0 [(0, rc 0)] [] ((S, T), Y) _
  refine go_blk rfl [(.aload_n 0, 1, 0, 0, 0, .inl 0), (.getfield 21, 3, 10, 1, 1, .inl 0)] 0 4 _ _ _ (by decide +kernel) ?_
  refine And.intro (lc_t0 hT) (Exists.intro _ (And.intro (gRc (lc_r10_1 hT)) ?_))
  show Go _ _ _ _ _ _ 4 [(0, rc 0)] [rc 3] ((S, T), Y) _
  obtain ⟨r1, hr1, h⟩ := bind_el h
  refine go_callV (idx := 90) (z := 1) (M' := M5_read) (n := 0) (A := []) (v' := some (vi r1.2)) (μ' := ((r1.1, T), Y)) (d' := 8) (mc' := 0) (ms' := 0) (kc' := 0) (ks' := 0) (ci := 5) (x := .inl 3) (by decide +kernel) ml_10_90 rfl wv5_read rfl (by decide) rfl (lc_t3 hT) (ret5_read hT hr1) (by decide) rfl rfl (Nat.le_of_ble_eq_true rfl) rfl (jag rfl rfl) ?_
  show Go _ _ _ _ _ _ 7 [(0, rc 0)] [vi r1.2] ((r1.1, T), Y) _
  refine go_blk rfl [(.istore_n 1, 1, 1, 0, 0, .inl 0), (.aload_n 0, 1, 0, 0, 0, .inl 0), (.getfield 10, 3, 10, 0, 1, .inl 0), (.iconst 0, 1, 0, 0, 0, .inl 0), (.putfield 83, 3, 9, 1, 0, .inl 0)] 7 16 _ _ _ (by decide +kernel) ?_
  refine And.intro (lc_t0 hT) (Exists.intro _ (And.intro (gRc (lc_r10_0 hT)) ?_))
  refine And.intro (lc_t1 hT) (And.intro trivial ?_)
  show Go _ _ _ _ _ _ 16 [(1, vi r1.2), (0, rc 0)] [] ((wI r1.1 1 1 0, T), Y) _
  refine go_blk rfl [(.iload_n 1, 1, 1, 0, 0, .inl 0)] 16 17 _ _ _ (by decide +kernel) ?_
  show Go _ _ _ _ _ _ 17 [(1, vi r1.2), (0, rc 0)] [vi r1.2] ((wI r1.1 1 1 0, T), Y) _
  refine ite_el h (fun q1 h => ?_) (fun q1 h => ?_)
  · refine go_if_eq (off := 8) (tgt := 25) (by decide +kernel) (by decide) (fun _ => ?_) (fun z => absurd q1 z)
    refine go_blk rfl [(.aload_n 0, 1, 0, 0, 0, .inl 0), (.getfield 45, 3, 10, 5, 1, .inl 0), (.aload_n 0, 1, 0, 0, 0, .inl 0), (.getfield 21, 3, 10, 1, 1, .inl 0), (.getfield 94, 3, 5, 1, 1, .inl 0)] 25 36 _ _ _ (by decide +kernel) ?_
    refine And.intro (lc_t0 hT) (Exists.intro _ (And.intro (gRc (lc_r10_5 hT)) ?_))
    refine And.intro (lc_t0 hT) (Exists.intro _ (And.intro (gRc (lc_r10_1 hT)) ?_))
    refine And.intro (lc_t3 hT) (Exists.intro _ (And.intro (gRc (lc_r5_1 hT)) ?_))
    show Go _ _ _ _ _ _ 36 [(1, vi r1.2), (0, rc 0)] [rc 4, rc 100] ((wI r1.1 1 1 0, T), Y) _
    obtain ⟨r2, hr2, h⟩ := bind_el h
    refine go_callV (idx := 98) (z := 1) (M' := M0_startParty) (n := 1) (A := [rc 4]) (v' := none) (μ' := ((r2.1, T), Y)) (d' := 3) (mc' := 0) (ms' := 0) (kc' := 0) (ks' := 0) (ci := 0) (x := .inl 100) (by decide +kernel) ml_10_98 rfl wv0_startParty rfl (by decide) rfl (lc_b100 hT).1 (ret0_startParty (lc_b100 hT) (lc_h4 hT) hr2) (by decide) rfl rfl (Nat.le_of_ble_eq_true rfl) rfl (jag rfl rfl) ?_
    show Go _ _ _ _ _ _ 39 [(1, vi r1.2), (0, rc 0)] [] ((r2.1, T), Y) _
    refine go_blk rfl [(.aload_n 0, 1, 0, 0, 0, .inl 0), (.getfield 45, 3, 10, 5, 1, .inl 0), (.getfield 102, 3, 0, 1, 1, .inl 0), (.getfield 105, 3, 4, 2, 0, .inl 0)] 39 49 _ _ _ (by decide +kernel) ?_
    refine And.intro (lc_t0 hT) (Exists.intro _ (And.intro (gRc (lc_r10_5 hT)) ?_))
    refine And.intro (lc_b100 hT).1 (Exists.intro _ (And.intro (gRc (lc_b100 hT).2.2.1.1) ?_))
    refine And.intro ((lc_b100 hT).2.2.1.2).1 ?_
    show Go _ _ _ _ _ _ 49 [(1, vi r1.2), (0, rc 0)] [vi (r2.1.1 (100 + 8) 2)] ((r2.1, T), Y) _
    obtain ⟨rfl, rfl⟩ := Prod.mk.inj (Option.some.inj h)
    exact go_ireturn (by decide +kernel) rfl rfl ⟨rfl, rfl⟩
  · refine go_if_eq (off := 8) (tgt := 25) (by decide +kernel) (by decide) (fun z => absurd z q1) (fun _ => ?_)
    refine go_blk rfl [(.bipush (-2), 2, 0, 0, 0, .inl (-2)), (.iload_n 1, 1, 1, 0, 0, .inl 0), (.isub, 1, 0, 0, 0, .inl 0)] 20 24 _ _ _ (by decide +kernel) ?_
    show Go _ _ _ _ _ _ 24 [(1, vi r1.2), (0, rc 0)] [vi (((-2)) - r1.2)] ((wI r1.1 1 1 0, T), Y) _
    obtain ⟨rfl, rfl⟩ := Prod.mk.inj (Option.some.inj h)
    exact go_ireturn (by decide +kernel) rfl rfl ⟨rfl, rfl⟩
def f10_force (S : jS) (a0 : Int32) : Option (jS × Int32) := (if a0 < ((-1)) then some (S, (-2)) else (if a0 < (S.1 0 4) then some (wI S 100 9 a0, S.1 100 9) else some (S, (-2))))
theorem ret10_force {S : jS} {T : jT} {Y : jS × jT} {a0 : Int32} {S1 : jS} {x : Int32} (hT : LayC T) (h : f10_force S a0 = some (S1, x)) : Ret M10_force 1 0 0 [rc 0, vi a0] ((S, T), Y) (some (vi x)) ((S1, T), Y) := by
  refine Ret.of (by decide +kernel) (Nat.le_of_ble_eq_true rfl) ?_
  unfold f10_force at h
  show Go _ _ _ _ _ _ 0 [(0, rc 0), (1, vi a0)] [] ((S, T), Y) _
  refine go_blk rfl [(.iload_n 1, 1, 1, 0, 0, .inl 0), (.iconst (-1), 1, 0, 0, 0, .inl (-1))] 0 2 _ _ _ (by decide +kernel) ?_
  show Go _ _ _ _ _ _ 2 [(0, rc 0), (1, vi a0)] [vi ((-1)), vi a0] ((S, T), Y) _
  refine ite_el h (fun q1 h => ?_) (fun q1 h => ?_)
  · refine go_icmp_lt (off := 11) (tgt := 13) (by decide +kernel) (by decide) (fun _ => ?_) (fun z => absurd q1 z)
    refine go_blk rfl [(.bipush (-2), 2, 0, 0, 0, .inl (-2))] 13 15 _ _ _ (by decide +kernel) ?_
    show Go _ _ _ _ _ _ 15 [(0, rc 0), (1, vi a0)] [vi ((-2))] ((S, T), Y) _
    obtain ⟨rfl, rfl⟩ := Prod.mk.inj (Option.some.inj h)
    exact go_ireturn (by decide +kernel) rfl rfl ⟨rfl, rfl⟩
  · refine go_icmp_lt (off := 11) (tgt := 13) (by decide +kernel) (by decide) (fun z => absurd z q1) (fun _ => ?_)
    refine go_blk rfl [(.iload_n 1, 1, 1, 0, 0, .inl 0), (.aload_n 0, 1, 0, 0, 0, .inl 0), (.getfield 38, 3, 10, 4, 0, .inl 0)] 5 10 _ _ _ (by decide +kernel) ?_
    refine And.intro (lc_t0 hT) ?_
    show Go _ _ _ _ _ _ 10 [(0, rc 0), (1, vi a0)] [vi (S.1 0 4), vi a0] ((S, T), Y) _
    refine ite_el h (fun q2 h => ?_) (fun q2 h => ?_)
    · refine go_icmp_lt (off := 6) (tgt := 16) (by decide +kernel) (by decide) (fun _ => ?_) (fun z => absurd q2 z)
      refine go_blk rfl [(.aload_n 0, 1, 0, 0, 0, .inl 0), (.getfield 45, 3, 10, 5, 1, .inl 0), (.getfield 115, 3, 0, 9, 0, .inl 0), (.istore_n 2, 1, 2, 0, 0, .inl 0), (.aload_n 0, 1, 0, 0, 0, .inl 0), (.getfield 45, 3, 10, 5, 1, .inl 0), (.iload_n 1, 1, 1, 0, 0, .inl 0), (.putfield 115, 3, 0, 9, 0, .inl 0)] 16 32 _ _ _ (by decide +kernel) ?_
      refine And.intro (lc_t0 hT) (Exists.intro _ (And.intro (gRc (lc_r10_5 hT)) ?_))
      refine And.intro (lc_b100 hT).1 ?_
      refine And.intro (lc_t0 hT) (Exists.intro _ (And.intro (gRc (lc_r10_5 hT)) ?_))
      refine And.intro (lc_b100 hT).1 (And.intro trivial ?_)
      show Go _ _ _ _ _ _ 32 [(2, vi (S.1 100 9)), (0, rc 0), (1, vi a0)] [] ((wI S 100 9 a0, T), Y) _
      refine go_blk rfl [(.iload_n 2, 1, 2, 0, 0, .inl 0)] 32 33 _ _ _ (by decide +kernel) ?_
      show Go _ _ _ _ _ _ 33 [(2, vi (S.1 100 9)), (0, rc 0), (1, vi a0)] [vi (S.1 100 9)] ((wI S 100 9 a0, T), Y) _
      obtain ⟨rfl, rfl⟩ := Prod.mk.inj (Option.some.inj h)
      exact go_ireturn (by decide +kernel) rfl rfl ⟨rfl, rfl⟩
    · refine go_icmp_lt (off := 6) (tgt := 16) (by decide +kernel) (by decide) (fun z => absurd z q2) (fun _ => ?_)
      refine go_blk rfl [(.bipush (-2), 2, 0, 0, 0, .inl (-2))] 13 15 _ _ _ (by decide +kernel) ?_
      show Go _ _ _ _ _ _ 15 [(0, rc 0), (1, vi a0)] [vi ((-2))] ((S, T), Y) _
      obtain ⟨rfl, rfl⟩ := Prod.mk.inj (Option.some.inj h)
      exact go_ireturn (by decide +kernel) rfl rfl ⟨rfl, rfl⟩
