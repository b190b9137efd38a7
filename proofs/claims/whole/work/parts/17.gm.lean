def f11_stepsIn_L1 (S : jS) (l1 : Int32) : Nat → Int32 → Int32 → Option Int32
  | 0, _, _ => none
  | n + 1, l2, l3 => (if (S.1 1 2) ≤ l3 then some l2 else Option.bind (f11_has (S.1 1 6) l3) (fun r1 => Option.bind (if r1 = 0 then some l2 else (if l2 = ((-1)) then (if inb l3 7 then some (S.1 3 l3.toNatClampNeg) else none) else (if l1 = 0 then (if inb l3 7 then (if (S.1 3 l3.toNatClampNeg) ≤ l2 then some l2 else some (S.1 3 l3.toNatClampNeg)) else none) else (if inb l3 7 then (if l2 ≤ (S.1 3 l3.toNatClampNeg) then some l2 else some (S.1 3 l3.toNatClampNeg)) else none)))) (fun (y2 : Int32) => f11_stepsIn_L1 S l1 n y2 (l3 + 1))))
def f11_stepsIn (S : jS) (a0 : Int32) : Option Int32 := Option.bind (f11_stepsIn_L1 S a0 jF ((-1)) 0) (fun y3 => some y3)
theorem f11_stepsIn_L1_ok {T : jT} {Y : jS × jT} {S : jS} {l1 : Int32} {Q : Option jV → jMem → Prop} (hT : LayM T) : ∀ (n : Nat) (l2 : Int32) (l3 : Int32) (r : Int32), f11_stepsIn_L1 S l1 n l2 l3 = some r → Go M11_stepsIn 2 0 0 0 0 73 [(2, vi r)] [] (Y, (S, T)) Q → Go M11_stepsIn 2 0 0 0 0 4 [(0, rm 0), (1, vi l1), (2, vi l2), (3, vi l3)] [] (Y, (S, T)) Q := by
  intro n
  induction n with
  | zero => intro l2 l3 r h k; exact absurd h (by intro z; cases z)
  | succ n ih =>
    intro l2 l3 r h k
    rw [f11_stepsIn_L1] at h
    refine go_blk rfl [(.iload_n 3, 1, 3, 0, 0, .inl 0), (.aload_n 0, 1, 0, 0, 0, .inl 0), (.getfield 9, 3, 11, 1, 1, .inl 0), (.iconst 2, 1, 0, 0, 0, .inl 2), (.iaload, 1, 20, 0, 0, .inl 0)] 4 11 _ _ _ (by decide +kernel) ?_
    refine And.intro (lm_t0 hT) (Exists.intro _ (And.intro (gRm (lm_r1 hT)) ?_))
    refine And.intro (lm_t1 hT) (Exists.intro _ (And.intro (lm_n1 hT) (And.intro (inb_in (by decide)) ?_)))
    show Go _ _ _ _ _ _ 11 [(0, rm 0), (1, vi l1), (2, vi l2), (3, vi l3)] [vi (S.1 1 2), vi l3] (Y, (S, T)) _
    refine ite_el h (fun q1 h => ?_) (fun q1 h => ?_)
    · refine go_icmp_ge (off := 62) (tgt := 73) (by decide +kernel) (by decide) (fun _ => ?_) (fun z => absurd q1 z)
      obtain rfl := Option.some.inj h
      refine go_pick [2] rfl ?_
      exact k
    · refine go_icmp_ge (off := 62) (tgt := 73) (by decide +kernel) (by decide) (fun z => absurd z q1) (fun _ => ?_)
      refine go_blk rfl [(.aload_n 0, 1, 0, 0, 0, .inl 0), (.getfield 9, 3, 11, 1, 1, .inl 0), (.bipush 6, 2, 0, 0, 0, .inl 6), (.iaload, 1, 20, 0, 0, .inl 0), (.iload_n 3, 1, 3, 0, 0, .inl 0)] 14 22 _ _ _ (by decide +kernel) ?_
      refine And.intro (lm_t0 hT) (Exists.intro _ (And.intro (gRm (lm_r1 hT)) ?_))
      refine And.intro (lm_t1 hT) (Exists.intro _ (And.intro (lm_n1 hT) (And.intro (inb_in (by decide)) ?_)))
      show Go _ _ _ _ _ _ 22 [(0, rm 0), (1, vi l1), (2, vi l2), (3, vi l3)] [vi l3, vi (S.1 1 6)] (Y, (S, T)) _
      obtain ⟨r1, hr1, h⟩ := bind_el h
      refine go_callS (idx := 148) (z := 0) (M' := M11_has) (n := 2) (A := [vi (S.1 1 6), vi l3]) (v' := some (vi r1)) (μ' := (Y, (S, T))) (d' := 1) (mc' := 0) (ms' := 0) (kc' := 0) (ks' := 0) (by decide +kernel) ml_11_148 rfl ws11_has rfl (ret11_has hr1) (by decide) rfl rfl (Nat.le_of_ble_eq_true rfl) rfl (jag rfl rfl) ?_
      show Go _ _ _ _ _ _ 25 [(0, rm 0), (1, vi l1), (2, vi l2), (3, vi l3)] [vi r1] (Y, (S, T)) _
      obtain ⟨y2, hy2, h⟩ := bind_el h
      have key : Go M11_stepsIn 2 0 0 0 0 67 [(0, rm 0), (1, vi l1), (2, vi y2), (3, vi l3)] [] (Y, (S, T)) Q := by
        refine go_blk rfl [(.iinc 3 1, 3, 3, 0, 0, .inl 1)] 67 70 _ _ _ (by decide +kernel) ?_
        show Go _ _ _ _ _ _ 70 [(3, vi (l3 + 1)), (0, rm 0), (1, vi l1), (2, vi y2)] [] (Y, (S, T)) _
        refine go_goto (off := (-66)) (tgt := 4) (by decide +kernel) (by decide) ?_
        refine go_pick [1, 2, 3, 0] rfl ?_
        exact ih _ _ _ h k
      replace h := hy2
      refine ite_el h (fun q2 h => ?_) (fun q2 h => ?_)
      · refine go_if_eq (off := 42) (tgt := 67) (by decide +kernel) (by decide) (fun _ => ?_) (fun z => absurd q2 z)
        obtain rfl := Option.some.inj h
        refine go_pick [0, 1, 2, 3] rfl ?_
        exact key
      · refine go_if_eq (off := 42) (tgt := 67) (by decide +kernel) (by decide) (fun z => absurd z q2) (fun _ => ?_)
        refine go_blk rfl [(.iload_n 2, 1, 2, 0, 0, .inl 0), (.iconst (-1), 1, 0, 0, 0, .inl (-1))] 28 30 _ _ _ (by decide +kernel) ?_
        show Go _ _ _ _ _ _ 30 [(0, rm 0), (1, vi l1), (2, vi l2), (3, vi l3)] [vi ((-1)), vi l2] (Y, (S, T)) _
        refine ite_el h (fun q3 h => ?_) (fun q3 h => ?_)
        · refine go_icmp_eq (off := 30) (tgt := 60) (by decide +kernel) (by decide) (fun _ => ?_) (fun z => absurd q3 z)
          refine gd_el h (fun q4 h => ?_)
          refine go_blk rfl [(.aload_n 0, 1, 0, 0, 0, .inl 0), (.getfield 16, 3, 11, 3, 1, .inl 0), (.iload_n 3, 1, 3, 0, 0, .inl 0), (.iaload, 1, 20, 0, 0, .inl 0), (.istore_n 2, 1, 2, 0, 0, .inl 0)] 60 67 _ _ _ (by decide +kernel) ?_
          refine And.intro (lm_t0 hT) (Exists.intro _ (And.intro (gRm (lm_r3 hT)) ?_))
          refine And.intro (lm_t3 hT) (Exists.intro _ (And.intro (lm_n3 hT) (And.intro (inb_in q4) ?_)))
          show Go _ _ _ _ _ _ 67 [(2, vi (S.1 3 l3.toNatClampNeg)), (0, rm 0), (1, vi l1), (3, vi l3)] [] (Y, (S, T)) _
          obtain rfl := Option.some.inj h
          refine go_pick [1, 2, 0, 3] rfl ?_
          exact key
        · refine go_icmp_eq (off := 30) (tgt := 60) (by decide +kernel) (by decide) (fun z => absurd z q3) (fun _ => ?_)
          refine go_blk rfl [(.iload_n 1, 1, 1, 0, 0, .inl 0)] 33 34 _ _ _ (by decide +kernel) ?_
          show Go _ _ _ _ _ _ 34 [(0, rm 0), (1, vi l1), (2, vi l2), (3, vi l3)] [vi l1] (Y, (S, T)) _
          refine ite_el h (fun q5 h => ?_) (fun q5 h => ?_)
          · refine go_if_eq (off := 16) (tgt := 50) (by decide +kernel) (by decide) (fun _ => ?_) (fun z => absurd q5 z)
            refine gd_el h (fun q6 h => ?_)
            refine go_blk rfl [(.aload_n 0, 1, 0, 0, 0, .inl 0), (.getfield 16, 3, 11, 3, 1, .inl 0), (.iload_n 3, 1, 3, 0, 0, .inl 0), (.iaload, 1, 20, 0, 0, .inl 0), (.iload_n 2, 1, 2, 0, 0, .inl 0)] 50 57 _ _ _ (by decide +kernel) ?_
            refine And.intro (lm_t0 hT) (Exists.intro _ (And.intro (gRm (lm_r3 hT)) ?_))
            refine And.intro (lm_t3 hT) (Exists.intro _ (And.intro (lm_n3 hT) (And.intro (inb_in q6) ?_)))
            show Go _ _ _ _ _ _ 57 [(0, rm 0), (1, vi l1), (2, vi l2), (3, vi l3)] [vi l2, vi (S.1 3 l3.toNatClampNeg)] (Y, (S, T)) _
            refine ite_el h (fun q7 h => ?_) (fun q7 h => ?_)
            · refine go_icmp_le (off := 10) (tgt := 67) (by decide +kernel) (by decide) (fun _ => ?_) (fun z => absurd q7 z)
              obtain rfl := Option.some.inj h
              refine go_pick [0, 1, 2, 3] rfl ?_
              exact key
            · refine go_icmp_le (off := 10) (tgt := 67) (by decide +kernel) (by decide) (fun z => absurd z q7) (fun _ => ?_)
              refine go_blk rfl [(.aload_n 0, 1, 0, 0, 0, .inl 0), (.getfield 16, 3, 11, 3, 1, .inl 0), (.iload_n 3, 1, 3, 0, 0, .inl 0), (.iaload, 1, 20, 0, 0, .inl 0), (.istore_n 2, 1, 2, 0, 0, .inl 0)] 60 67 _ _ _ (by decide +kernel) ?_
              refine And.intro (lm_t0 hT) (Exists.intro _ (And.intro (gRm (lm_r3 hT)) ?_))
              refine And.intro (lm_t3 hT) (Exists.intro _ (And.intro (lm_n3 hT) (And.intro (inb_in q6) ?_)))
              show Go _ _ _ _ _ _ 67 [(2, vi (S.1 3 l3.toNatClampNeg)), (0, rm 0), (1, vi l1), (3, vi l3)] [] (Y, (S, T)) _
              obtain rfl := Option.some.inj h
              refine go_pick [1, 2, 0, 3] rfl ?_
              exact key
          · refine go_if_eq (off := 16) (tgt := 50) (by decide +kernel) (by decide) (fun z => absurd z q5) (fun _ => ?_)
            refine gd_el h (fun q8 h => ?_)
            refine go_blk rfl [(.aload_n 0, 1, 0, 0, 0, .inl 0), (.getfield 16, 3, 11, 3, 1, .inl 0), (.iload_n 3, 1, 3, 0, 0, .inl 0), (.iaload, 1, 20, 0, 0, .inl 0), (.iload_n 2, 1, 2, 0, 0, .inl 0)] 37 44 _ _ _ (by decide +kernel) ?_
            refine And.intro (lm_t0 hT) (Exists.intro _ (And.intro (gRm (lm_r3 hT)) ?_))
            refine And.intro (lm_t3 hT) (Exists.intro _ (And.intro (lm_n3 hT) (And.intro (inb_in q8) ?_)))
            show Go _ _ _ _ _ _ 44 [(0, rm 0), (1, vi l1), (2, vi l2), (3, vi l3)] [vi l2, vi (S.1 3 l3.toNatClampNeg)] (Y, (S, T)) _
            refine ite_el h (fun q9 h => ?_) (fun q9 h => ?_)
            · refine go_icmp_ge (off := 23) (tgt := 67) (by decide +kernel) (by decide) (fun _ => ?_) (fun z => absurd q9 z)
              obtain rfl := Option.some.inj h
              refine go_pick [0, 1, 2, 3] rfl ?_
              exact key
            · refine go_icmp_ge (off := 23) (tgt := 67) (by decide +kernel) (by decide) (fun z => absurd z q9) (fun _ => ?_)
              refine go_goto (off := 13) (tgt := 60) (by decide +kernel) (by decide) ?_
              refine go_blk rfl [(.aload_n 0, 1, 0, 0, 0, .inl 0), (.getfield 16, 3, 11, 3, 1, .inl 0), (.iload_n 3, 1, 3, 0, 0, .inl 0), (.iaload, 1, 20, 0, 0, .inl 0), (.istore_n 2, 1, 2, 0, 0, .inl 0)] 60 67 _ _ _ (by decide +kernel) ?_
              refine And.intro (lm_t0 hT) (Exists.intro _ (And.intro (gRm (lm_r3 hT)) ?_))
              refine And.intro (lm_t3 hT) (Exists.intro _ (And.intro (lm_n3 hT) (And.intro (inb_in q8) ?_)))
              show Go _ _ _ _ _ _ 67 [(2, vi (S.1 3 l3.toNatClampNeg)), (0, rm 0), (1, vi l1), (3, vi l3)] [] (Y, (S, T)) _
              obtain rfl := Option.some.inj h
              refine go_pick [1, 2, 0, 3] rfl ?_
              exact key
theorem ret11_stepsIn {S : jS} {T : jT} {Y : jS × jT} {a0 : Int32} {x : Int32} (hT : LayM T) (h : f11_stepsIn S a0 = some x) : Ret M11_stepsIn 2 0 0 [rm 0, vi a0] (Y, (S, T)) (some (vi x)) (Y, (S, T)) := by
  refine Ret.of (by decide +kernel) (Nat.le_of_ble_eq_true rfl) ?_
  unfold f11_stepsIn at h
  show Go _ _ _ _ _ _ 0 [(0, rm 0), (1, vi a0)] [] (Y, (S, T)) _
  refine go_blk rfl [(.iconst (-1), 1, 0, 0, 0, .inl (-1)), (.istore_n 2, 1, 2, 0, 0, .inl 0), (.iconst 0, 1, 0, 0, 0, .inl 0), (.istore_n 3, 1, 3, 0, 0, .inl 0)] 0 4 _ _ _ (by decide +kernel) ?_
  show Go _ _ _ _ _ _ 4 [(3, vi 0), (2, vi ((-1))), (0, rm 0), (1, vi a0)] [] (Y, (S, T)) _
  refine go_pick [2, 3, 1, 0] rfl ?_
  obtain ⟨y3, hy3, h⟩ := bind_el h
  refine f11_stepsIn_L1_ok hT _ _ _ _ hy3 ?_
  show Go _ _ _ _ _ _ 73 [(2, vi y3)] [] (Y, (S, T)) _
  refine go_blk rfl [(.iload_n 2, 1, 2, 0, 0, .inl 0)] 73 74 _ _ _ (by decide +kernel) ?_
  show Go _ _ _ _ _ _ 74 [(2, vi y3)] [vi y3] (Y, (S, T)) _
  obtain rfl := Option.some.inj h
  exact go_ireturn (by decide +kernel) rfl rfl ⟨rfl, rfl⟩
def f11_nearNow_L2 (S : jS) (l1 : Int32) (l2 : Int32) : Nat → Int32 → Int32 → Option Int32
  | 0, _, _ => none
  | n + 1, l3, l4 => (if (S.1 1 1) ≤ l4 then some l3 else Option.bind (if l3 = 0 then Option.bind (f11_has (S.1 1 7) l4) (fun r1 => (if r1 = 0 then some 0 else (if inb l4 6 then (if inb l2 7 then (if (S.1 7 l4.toNatClampNeg) = (S.1 2 l2.toNatClampNeg) then some 1 else some 0) else none) else none))) else some 1) (fun (y2 : Int32) => f11_nearNow_L2 S l1 l2 n y2 (l4 + 1)))
def f11_nearNow_L1 (S : jS) : Nat → Int32 → Int32 → Option Int32
  | 0, _, _ => none
  | n + 1, l1, l2 => (if (S.1 1 2) ≤ l2 then some l1 else Option.bind (f11_nearNow_L2 S l1 l2 jF 0 0) (fun y3 => Option.bind (if y3 = 0 then some 0 else Option.bind (f11_has (S.1 1 6) l2) (fun r4 => (if r4 = 0 then some 0 else some 1))) (fun (y5 : Int32) => f11_nearNow_L1 S n (l1 + y5) (l2 + 1))))
def f11_nearNow (S : jS) : Option Int32 := Option.bind (f11_nearNow_L1 S jF 0 0) (fun y6 => some y6)
theorem f11_nearNow_L2_ok {T : jT} {Y : jS × jT} {S : jS} {l1 : Int32} {l2 : Int32} {Q : Option jV → jMem → Prop} (hT : LayM T) : ∀ (n : Nat) (l3 : Int32) (l4 : Int32) (r : Int32), f11_nearNow_L2 S l1 l2 n l3 l4 = some r → Go M11_nearNow 2 0 0 0 0 77 [(0, rm 0), (1, vi l1), (2, vi l2), (3, vi r)] [] (Y, (S, T)) Q → Go M11_nearNow 2 0 0 0 0 19 [(0, rm 0), (1, vi l1), (2, vi l2), (3, vi l3), (4, vi l4)] [] (Y, (S, T)) Q := by
  intro n
  induction n with
  | zero => intro l3 l4 r h k; exact absurd h (by intro z; cases z)
  | succ n ih =>
    intro l3 l4 r h k
    rw [f11_nearNow_L2] at h
    refine go_blk rfl [(.iload 4, 2, 4, 0, 0, .inl 0), (.aload_n 0, 1, 0, 0, 0, .inl 0), (.getfield 9, 3, 11, 1, 1, .inl 0), (.iconst 1, 1, 0, 0, 0, .inl 1), (.iaload, 1, 20, 0, 0, .inl 0)] 19 27 _ _ _ (by decide +kernel) ?_
    refine And.intro (lm_t0 hT) (Exists.intro _ (And.intro (gRm (lm_r1 hT)) ?_))
    refine And.intro (lm_t1 hT) (Exists.intro _ (And.intro (lm_n1 hT) (And.intro (inb_in (by decide)) ?_)))
    show Go _ _ _ _ _ _ 27 [(0, rm 0), (1, vi l1), (2, vi l2), (3, vi l3), (4, vi l4)] [vi (S.1 1 1), vi l4] (Y, (S, T)) _
    refine ite_el h (fun q2 h => ?_) (fun q2 h => ?_)
    · refine go_icmp_ge (off := 50) (tgt := 77) (by decide +kernel) (by decide) (fun _ => ?_) (fun z => absurd q2 z)
      obtain rfl := Option.some.inj h
      refine go_pick [0, 1, 2, 3] rfl ?_
      exact k
    · refine go_icmp_ge (off := 50) (tgt := 77) (by decide +kernel) (by decide) (fun z => absurd z q2) (fun _ => ?_)
      refine go_blk rfl [(.iload_n 3, 1, 3, 0, 0, .inl 0)] 30 31 _ _ _ (by decide +kernel) ?_
      show Go _ _ _ _ _ _ 31 [(0, rm 0), (1, vi l1), (2, vi l2), (3, vi l3), (4, vi l4)] [vi l3] (Y, (S, T)) _
      obtain ⟨y2, hy2, h⟩ := bind_el h
      have key : Go M11_nearNow 2 0 0 0 0 70 [(0, rm 0), (1, vi l1), (2, vi l2), (4, vi l4)] [vi y2] (Y, (S, T)) Q := by
        refine go_blk rfl [(.istore_n 3, 1, 3, 0, 0, .inl 0), (.iinc 4 1, 3, 4, 0, 0, .inl 1)] 70 74 _ _ _ (by decide +kernel) ?_
        show Go _ _ _ _ _ _ 74 [(4, vi (l4 + 1)), (3, vi y2), (0, rm 0), (1, vi l1), (2, vi l2)] [] (Y, (S, T)) _
        refine go_goto (off := (-55)) (tgt := 19) (by decide +kernel) (by decide) ?_
        refine go_pick [2, 3, 4, 1, 0] rfl ?_
        exact ih _ _ _ h k
      replace h := hy2
      refine ite_el h (fun q3 h => ?_) (fun q3 h => ?_)
      · refine go_if_ne (off := 34) (tgt := 65) (by decide +kernel) (by decide) (fun z => absurd q3 z) (fun _ => ?_)
        refine go_blk rfl [(.aload_n 0, 1, 0, 0, 0, .inl 0), (.getfield 9, 3, 11, 1, 1, .inl 0), (.bipush 7, 2, 0, 0, 0, .inl 7), (.iaload, 1, 20, 0, 0, .inl 0), (.iload 4, 2, 4, 0, 0, .inl 0)] 34 43 _ _ _ (by decide +kernel) ?_
        refine And.intro (lm_t0 hT) (Exists.intro _ (And.intro (gRm (lm_r1 hT)) ?_))
        refine And.intro (lm_t1 hT) (Exists.intro _ (And.intro (lm_n1 hT) (And.intro (inb_in (by decide)) ?_)))
        show Go _ _ _ _ _ _ 43 [(0, rm 0), (1, vi l1), (2, vi l2), (3, vi l3), (4, vi l4)] [vi l4, vi (S.1 1 7)] (Y, (S, T)) _
        obtain ⟨r1, hr1, h⟩ := bind_el h
        refine go_callS (idx := 148) (z := 0) (M' := M11_has) (n := 2) (A := [vi (S.1 1 7), vi l4]) (v' := some (vi r1)) (μ' := (Y, (S, T))) (d' := 1) (mc' := 0) (ms' := 0) (kc' := 0) (ks' := 0) (by decide +kernel) ml_11_148 rfl ws11_has rfl (ret11_has hr1) (by decide) rfl rfl (Nat.le_of_ble_eq_true rfl) rfl (jag rfl rfl) ?_
        show Go _ _ _ _ _ _ 46 [(0, rm 0), (1, vi l1), (2, vi l2), (3, vi l3), (4, vi l4)] [vi r1] (Y, (S, T)) _
        refine ite_el h (fun q4 h => ?_) (fun q4 h => ?_)
        · refine go_if_eq (off := 23) (tgt := 69) (by decide +kernel) (by decide) (fun _ => ?_) (fun z => absurd q4 z)
          refine go_blk rfl [(.iconst 0, 1, 0, 0, 0, .inl 0)] 69 70 _ _ _ (by decide +kernel) ?_
          show Go _ _ _ _ _ _ 70 [(0, rm 0), (1, vi l1), (2, vi l2), (3, vi l3), (4, vi l4)] [vi 0] (Y, (S, T)) _
          obtain rfl := Option.some.inj h
          refine go_pick [0, 1, 2, 4] rfl ?_
          exact key
        · refine go_if_eq (off := 23) (tgt := 69) (by decide +kernel) (by decide) (fun z => absurd z q4) (fun _ => ?_)
          refine gd_el h (fun q5 h => ?_)
          refine gd_el h (fun q6 h => ?_)
          refine go_blk rfl [(.aload_n 0, 1, 0, 0, 0, .inl 0), (.getfield 28, 3, 11, 7, 1, .inl 0), (.iload 4, 2, 4, 0, 0, .inl 0), (.iaload, 1, 20, 0, 0, .inl 0), (.aload_n 0, 1, 0, 0, 0, .inl 0), (.getfield 13, 3, 11, 2, 1, .inl 0), (.iload_n 2, 1, 2, 0, 0, .inl 0), (.iaload, 1, 20, 0, 0, .inl 0)] 49 62 _ _ _ (by decide +kernel) ?_
          refine And.intro (lm_t0 hT) (Exists.intro _ (And.intro (gRm (lm_r7 hT)) ?_))
          refine And.intro (lm_t7 hT) (Exists.intro _ (And.intro (lm_n7 hT) (And.intro (inb_in q5) ?_)))
          refine And.intro (lm_t0 hT) (Exists.intro _ (And.intro (gRm (lm_r2 hT)) ?_))
          refine And.intro (lm_t2 hT) (Exists.intro _ (And.intro (lm_n2 hT) (And.intro (inb_in q6) ?_)))
          show Go _ _ _ _ _ _ 62 [(0, rm 0), (1, vi l1), (2, vi l2), (3, vi l3), (4, vi l4)] [vi (S.1 2 l2.toNatClampNeg), vi (S.1 7 l4.toNatClampNeg)] (Y, (S, T)) _
          refine ite_el h (fun q7 h => ?_) (fun q7 h => ?_)
          · refine go_icmp_ne (off := 7) (tgt := 69) (by decide +kernel) (by decide) (fun z => absurd q7 z) (fun _ => ?_)
            refine go_blk rfl [(.iconst 1, 1, 0, 0, 0, .inl 1)] 65 66 _ _ _ (by decide +kernel) ?_
            show Go _ _ _ _ _ _ 66 [(0, rm 0), (1, vi l1), (2, vi l2), (3, vi l3), (4, vi l4)] [vi 1] (Y, (S, T)) _
            refine go_goto (off := 4) (tgt := 70) (by decide +kernel) (by decide) ?_
            obtain rfl := Option.some.inj h
            refine go_pick [0, 1, 2, 4] rfl ?_
            exact key
          · refine go_icmp_ne (off := 7) (tgt := 69) (by decide +kernel) (by decide) (fun _ => ?_) (fun z => absurd z q7)
            refine go_blk rfl [(.iconst 0, 1, 0, 0, 0, .inl 0)] 69 70 _ _ _ (by decide +kernel) ?_
            show Go _ _ _ _ _ _ 70 [(0, rm 0), (1, vi l1), (2, vi l2), (3, vi l3), (4, vi l4)] [vi 0] (Y, (S, T)) _
            obtain rfl := Option.some.inj h
            refine go_pick [0, 1, 2, 4] rfl ?_
            exact key
      · refine go_if_ne (off := 34) (tgt := 65) (by decide +kernel) (by decide) (fun _ => ?_) (fun z => absurd z q3)
        refine go_blk rfl [(.iconst 1, 1, 0, 0, 0, .inl 1)] 65 66 _ _ _ (by decide +kernel) ?_
        show Go _ _ _ _ _ _ 66 [(0, rm 0), (1, vi l1), (2, vi l2), (3, vi l3), (4, vi l4)] [vi 1] (Y, (S, T)) _
        refine go_goto (off := 4) (tgt := 70) (by decide +kernel) (by decide) ?_
        obtain rfl := Option.some.inj h
        refine go_pick [0, 1, 2, 4] rfl ?_
        exact key
theorem f11_nearNow_L1_ok {T : jT} {Y : jS × jT} {S : jS} {Q : Option jV → jMem → Prop} (hT : LayM T) : ∀ (n : Nat) (l1 : Int32) (l2 : Int32) (r : Int32), f11_nearNow_L1 S n l1 l2 = some r → Go M11_nearNow 2 0 0 0 0 109 [(1, vi r)] [] (Y, (S, T)) Q → Go M11_nearNow 2 0 0 0 0 4 [(0, rm 0), (1, vi l1), (2, vi l2)] [] (Y, (S, T)) Q := by
  intro n
  induction n with
  | zero => intro l1 l2 r h k; exact absurd h (by intro z; cases z)
  | succ n ih =>
    intro l1 l2 r h k
    rw [f11_nearNow_L1] at h
    refine go_blk rfl [(.iload_n 2, 1, 2, 0, 0, .inl 0), (.aload_n 0, 1, 0, 0, 0, .inl 0), (.getfield 9, 3, 11, 1, 1, .inl 0), (.iconst 2, 1, 0, 0, 0, .inl 2), (.iaload, 1, 20, 0, 0, .inl 0)] 4 11 _ _ _ (by decide +kernel) ?_
    refine And.intro (lm_t0 hT) (Exists.intro _ (And.intro (gRm (lm_r1 hT)) ?_))
    refine And.intro (lm_t1 hT) (Exists.intro _ (And.intro (lm_n1 hT) (And.intro (inb_in (by decide)) ?_)))
    show Go _ _ _ _ _ _ 11 [(0, rm 0), (1, vi l1), (2, vi l2)] [vi (S.1 1 2), vi l2] (Y, (S, T)) _
    refine ite_el h (fun q1 h => ?_) (fun q1 h => ?_)
    · refine go_icmp_ge (off := 98) (tgt := 109) (by decide +kernel) (by decide) (fun _ => ?_) (fun z => absurd q1 z)
      obtain rfl := Option.some.inj h
      refine go_pick [1] rfl ?_
      exact k
    · refine go_icmp_ge (off := 98) (tgt := 109) (by decide +kernel) (by decide) (fun z => absurd z q1) (fun _ => ?_)
      refine go_blk rfl [(.iconst 0, 1, 0, 0, 0, .inl 0), (.istore_n 3, 1, 3, 0, 0, .inl 0), (.iconst 0, 1, 0, 0, 0, .inl 0), (.istore 4, 2, 4, 0, 0, .inl 0)] 14 19 _ _ _ (by decide +kernel) ?_
      show Go _ _ _ _ _ _ 19 [(4, vi 0), (3, vi 0), (0, rm 0), (1, vi l1), (2, vi l2)] [] (Y, (S, T)) _
      refine go_pick [2, 3, 4, 1, 0] rfl ?_
      obtain ⟨y3, hy3, h⟩ := bind_el h
      refine f11_nearNow_L2_ok hT _ _ _ _ hy3 ?_
      show Go _ _ _ _ _ _ 77 [(0, rm 0), (1, vi l1), (2, vi l2), (3, vi y3)] [] (Y, (S, T)) _
      refine go_blk rfl [(.iload_n 1, 1, 1, 0, 0, .inl 0), (.iload_n 3, 1, 3, 0, 0, .inl 0)] 77 79 _ _ _ (by decide +kernel) ?_
      show Go _ _ _ _ _ _ 79 [(0, rm 0), (1, vi l1), (2, vi l2), (3, vi y3)] [vi y3, vi l1] (Y, (S, T)) _
      obtain ⟨y5, hy5, h⟩ := bind_el h
      have key : Go M11_nearNow 2 0 0 0 0 101 [(0, rm 0), (2, vi l2)] [vi y5, vi l1] (Y, (S, T)) Q := by
        refine go_blk rfl [(.iadd, 1, 0, 0, 0, .inl 0), (.istore_n 1, 1, 1, 0, 0, .inl 0), (.iinc 2 1, 3, 2, 0, 0, .inl 1)] 101 106 _ _ _ (by decide +kernel) ?_
        show Go _ _ _ _ _ _ 106 [(2, vi (l2 + 1)), (1, vi (l1 + y5)), (0, rm 0)] [] (Y, (S, T)) _
        refine go_goto (off := (-102)) (tgt := 4) (by decide +kernel) (by decide) ?_
        refine go_pick [2, 1, 0] rfl ?_
        exact ih _ _ _ h k
      replace h := hy5
      refine ite_el h (fun q8 h => ?_) (fun q8 h => ?_)
      · refine go_if_eq (off := 21) (tgt := 100) (by decide +kernel) (by decide) (fun _ => ?_) (fun z => absurd q8 z)
        refine go_blk rfl [(.iconst 0, 1, 0, 0, 0, .inl 0)] 100 101 _ _ _ (by decide +kernel) ?_
        show Go _ _ _ _ _ _ 101 [(0, rm 0), (1, vi l1), (2, vi l2), (3, vi y3)] [vi 0, vi l1] (Y, (S, T)) _
        obtain rfl := Option.some.inj h
        refine go_pick [0, 2] rfl ?_
        exact key
      · refine go_if_eq (off := 21) (tgt := 100) (by decide +kernel) (by decide) (fun z => absurd z q8) (fun _ => ?_)
        refine go_blk rfl [(.aload_n 0, 1, 0, 0, 0, .inl 0), (.getfield 9, 3, 11, 1, 1, .inl 0), (.bipush 6, 2, 0, 0, 0, .inl 6), (.iaload, 1, 20, 0, 0, .inl 0), (.iload_n 2, 1, 2, 0, 0, .inl 0)] 82 90 _ _ _ (by decide +kernel) ?_
        refine And.intro (lm_t0 hT) (Exists.intro _ (And.intro (gRm (lm_r1 hT)) ?_))
        refine And.intro (lm_t1 hT) (Exists.intro _ (And.intro (lm_n1 hT) (And.intro (inb_in (by decide)) ?_)))
        show Go _ _ _ _ _ _ 90 [(0, rm 0), (1, vi l1), (2, vi l2), (3, vi y3)] [vi l2, vi (S.1 1 6), vi l1] (Y, (S, T)) _
        obtain ⟨r4, hr4, h⟩ := bind_el h
        refine go_callS (idx := 148) (z := 0) (M' := M11_has) (n := 2) (A := [vi (S.1 1 6), vi l2]) (v' := some (vi r4)) (μ' := (Y, (S, T))) (d' := 1) (mc' := 0) (ms' := 0) (kc' := 0) (ks' := 0) (by decide +kernel) ml_11_148 rfl ws11_has rfl (ret11_has hr4) (by decide) rfl rfl (Nat.le_of_ble_eq_true rfl) rfl (jag rfl rfl) ?_
        show Go _ _ _ _ _ _ 93 [(0, rm 0), (1, vi l1), (2, vi l2), (3, vi y3)] [vi r4, vi l1] (Y, (S, T)) _
        refine ite_el h (fun q9 h => ?_) (fun q9 h => ?_)
        · refine go_if_eq (off := 7) (tgt := 100) (by decide +kernel) (by decide) (fun _ => ?_) (fun z => absurd q9 z)
          refine go_blk rfl [(.iconst 0, 1, 0, 0, 0, .inl 0)] 100 101 _ _ _ (by decide +kernel) ?_
          show Go _ _ _ _ _ _ 101 [(0, rm 0), (1, vi l1), (2, vi l2), (3, vi y3)] [vi 0, vi l1] (Y, (S, T)) _
          obtain rfl := Option.some.inj h
          refine go_pick [0, 2] rfl ?_
          exact key
        · refine go_if_eq (off := 7) (tgt := 100) (by decide +kernel) (by decide) (fun z => absurd z q9) (fun _ => ?_)
          refine go_blk rfl [(.iconst 1, 1, 0, 0, 0, .inl 1)] 96 97 _ _ _ (by decide +kernel) ?_
          show Go _ _ _ _ _ _ 97 [(0, rm 0), (1, vi l1), (2, vi l2), (3, vi y3)] [vi 1, vi l1] (Y, (S, T)) _
          refine go_goto (off := 4) (tgt := 101) (by decide +kernel) (by decide) ?_
          obtain rfl := Option.some.inj h
          refine go_pick [0, 2] rfl ?_
          exact key
theorem ret11_nearNow {S : jS} {T : jT} {Y : jS × jT} {x : Int32} (hT : LayM T) (h : f11_nearNow S = some x) : Ret M11_nearNow 2 0 0 [rm 0] (Y, (S, T)) (some (vi x)) (Y, (S, T)) := by
  refine Ret.of (by decide +kernel) (Nat.le_of_ble_eq_true rfl) ?_
  unfold f11_nearNow at h
  show Go _ _ _ _ _ _ 0 [(0, rm 0)] [] (Y, (S, T)) _
  refine go_blk rfl [(.iconst 0, 1, 0, 0, 0, .inl 0), (.istore_n 1, 1, 1, 0, 0, .inl 0), (.iconst 0, 1, 0, 0, 0, .inl 0), (.istore_n 2, 1, 2, 0, 0, .inl 0)] 0 4 _ _ _ (by decide +kernel) ?_
  show Go _ _ _ _ _ _ 4 [(2, vi 0), (1, vi 0), (0, rm 0)] [] (Y, (S, T)) _
  refine go_pick [2, 1, 0] rfl ?_
  obtain ⟨y6, hy6, h⟩ := bind_el h
  refine f11_nearNow_L1_ok hT _ _ _ _ hy6 ?_
  show Go _ _ _ _ _ _ 109 [(1, vi y6)] [] (Y, (S, T)) _
  refine go_blk rfl [(.iload_n 1, 1, 1, 0, 0, .inl 0)] 109 110 _ _ _ (by decide +kernel) ?_
  show Go _ _ _ _ _ _ 110 [(1, vi y6)] [vi y6] (Y, (S, T)) _
  obtain rfl := Option.some.inj h
  exact go_ireturn (by decide +kernel) rfl rfl ⟨rfl, rfl⟩
def f11_tiredNow_L1 (S : jS) : Nat → Int32 → Int32 → Option Int32
  | 0, _, _ => none
  | n + 1, l1, l2 => (if (S.1 1 2) ≤ l2 then some l1 else Option.bind (f11_has (S.1 1 6) l2) (fun r1 => Option.bind (if r1 = 0 then some 0 else (if inb l2 7 then some (S.1 5 l2.toNatClampNeg) else none)) (fun (y2 : Int32) => f11_tiredNow_L1 S n (l1 + y2) (l2 + 1))))
def f11_tiredNow (S : jS) : Option Int32 := Option.bind (f11_tiredNow_L1 S jF 0 0) (fun y3 => some y3)
theorem f11_tiredNow_L1_ok {T : jT} {Y : jS × jT} {S : jS} {Q : Option jV → jMem → Prop} (hT : LayM T) : ∀ (n : Nat) (l1 : Int32) (l2 : Int32) (r : Int32), f11_tiredNow_L1 S n l1 l2 = some r → Go M11_tiredNow 2 0 0 0 0 47 [(1, vi r)] [] (Y, (S, T)) Q → Go M11_tiredNow 2 0 0 0 0 4 [(0, rm 0), (1, vi l1), (2, vi l2)] [] (Y, (S, T)) Q := by
  intro n
  induction n with
  | zero => intro l1 l2 r h k; exact absurd h (by intro z; cases z)
  | succ n ih =>
    intro l1 l2 r h k
    rw [f11_tiredNow_L1] at h
    refine go_blk rfl [(.iload_n 2, 1, 2, 0, 0, .inl 0), (.aload_n 0, 1, 0, 0, 0, .inl 0), (.getfield 9, 3, 11, 1, 1, .inl 0), (.iconst 2, 1, 0, 0, 0, .inl 2), (.iaload, 1, 20, 0, 0, .inl 0)] 4 11 _ _ _ (by decide +kernel) ?_
    refine And.intro (lm_t0 hT) (Exists.intro _ (And.intro (gRm (lm_r1 hT)) ?_))
    refine And.intro (lm_t1 hT) (Exists.intro _ (And.intro (lm_n1 hT) (And.intro (inb_in (by decide)) ?_)))
    show Go _ _ _ _ _ _ 11 [(0, rm 0), (1, vi l1), (2, vi l2)] [vi (S.1 1 2), vi l2] (Y, (S, T)) _
    refine ite_el h (fun q1 h => ?_) (fun q1 h => ?_)
    · refine go_icmp_ge (off := 36) (tgt := 47) (by decide +kernel) (by decide) (fun _ => ?_) (fun z => absurd q1 z)
      obtain rfl := Option.some.inj h
      refine go_pick [1] rfl ?_
      exact k
    · refine go_icmp_ge (off := 36) (tgt := 47) (by decide +kernel) (by decide) (fun z => absurd z q1) (fun _ => ?_)
      refine go_blk rfl [(.iload_n 1, 1, 1, 0, 0, .inl 0), (.aload_n 0, 1, 0, 0, 0, .inl 0), (.getfield 9, 3, 11, 1, 1, .inl 0), (.bipush 6, 2, 0, 0, 0, .inl 6), (.iaload, 1, 20, 0, 0, .inl 0), (.iload_n 2, 1, 2, 0, 0, .inl 0)] 14 23 _ _ _ (by decide +kernel) ?_
      refine And.intro (lm_t0 hT) (Exists.intro _ (And.intro (gRm (lm_r1 hT)) ?_))
      refine And.intro (lm_t1 hT) (Exists.intro _ (And.intro (lm_n1 hT) (And.intro (inb_in (by decide)) ?_)))
      show Go _ _ _ _ _ _ 23 [(0, rm 0), (1, vi l1), (2, vi l2)] [vi l2, vi (S.1 1 6), vi l1] (Y, (S, T)) _
      obtain ⟨r1, hr1, h⟩ := bind_el h
      refine go_callS (idx := 148) (z := 0) (M' := M11_has) (n := 2) (A := [vi (S.1 1 6), vi l2]) (v' := some (vi r1)) (μ' := (Y, (S, T))) (d' := 1) (mc' := 0) (ms' := 0) (kc' := 0) (ks' := 0) (by decide +kernel) ml_11_148 rfl ws11_has rfl (ret11_has hr1) (by decide) rfl rfl (Nat.le_of_ble_eq_true rfl) rfl (jag rfl rfl) ?_
      show Go _ _ _ _ _ _ 26 [(0, rm 0), (1, vi l1), (2, vi l2)] [vi r1, vi l1] (Y, (S, T)) _
      obtain ⟨y2, hy2, h⟩ := bind_el h
      have key : Go M11_tiredNow 2 0 0 0 0 39 [(0, rm 0), (2, vi l2)] [vi y2, vi l1] (Y, (S, T)) Q := by
        refine go_blk rfl [(.iadd, 1, 0, 0, 0, .inl 0), (.istore_n 1, 1, 1, 0, 0, .inl 0), (.iinc 2 1, 3, 2, 0, 0, .inl 1)] 39 44 _ _ _ (by decide +kernel) ?_
        show Go _ _ _ _ _ _ 44 [(2, vi (l2 + 1)), (1, vi (l1 + y2)), (0, rm 0)] [] (Y, (S, T)) _
        refine go_goto (off := (-40)) (tgt := 4) (by decide +kernel) (by decide) ?_
        refine go_pick [2, 1, 0] rfl ?_
        exact ih _ _ _ h k
      replace h := hy2
      refine ite_el h (fun q2 h => ?_) (fun q2 h => ?_)
      · refine go_if_eq (off := 12) (tgt := 38) (by decide +kernel) (by decide) (fun _ => ?_) (fun z => absurd q2 z)
        refine go_blk rfl [(.iconst 0, 1, 0, 0, 0, .inl 0)] 38 39 _ _ _ (by decide +kernel) ?_
        show Go _ _ _ _ _ _ 39 [(0, rm 0), (1, vi l1), (2, vi l2)] [vi 0, vi l1] (Y, (S, T)) _
        obtain rfl := Option.some.inj h
        refine go_pick [0, 2] rfl ?_
        exact key
      · refine go_if_eq (off := 12) (tgt := 38) (by decide +kernel) (by decide) (fun z => absurd z q2) (fun _ => ?_)
        refine gd_el h (fun q3 h => ?_)
        refine go_blk rfl [(.aload_n 0, 1, 0, 0, 0, .inl 0), (.getfield 22, 3, 11, 5, 1, .inl 0), (.iload_n 2, 1, 2, 0, 0, .inl 0), (.iaload, 1, 20, 0, 0, .inl 0)] 29 35 _ _ _ (by decide +kernel) ?_
        refine And.intro (lm_t0 hT) (Exists.intro _ (And.intro (gRm (lm_r5 hT)) ?_))
        refine And.intro (lm_t5 hT) (Exists.intro _ (And.intro (lm_n5 hT) (And.intro (inb_in q3) ?_)))
        show Go _ _ _ _ _ _ 35 [(0, rm 0), (1, vi l1), (2, vi l2)] [vi (S.1 5 l2.toNatClampNeg), vi l1] (Y, (S, T)) _
        refine go_goto (off := 4) (tgt := 39) (by decide +kernel) (by decide) ?_
        obtain rfl := Option.some.inj h
        refine go_pick [0, 2] rfl ?_
        exact key
theorem ret11_tiredNow {S : jS} {T : jT} {Y : jS × jT} {x : Int32} (hT : LayM T) (h : f11_tiredNow S = some x) : Ret M11_tiredNow 2 0 0 [rm 0] (Y, (S, T)) (some (vi x)) (Y, (S, T)) := by
  refine Ret.of (by decide +kernel) (Nat.le_of_ble_eq_true rfl) ?_
  unfold f11_tiredNow at h
  show Go _ _ _ _ _ _ 0 [(0, rm 0)] [] (Y, (S, T)) _
  refine go_blk rfl [(.iconst 0, 1, 0, 0, 0, .inl 0), (.istore_n 1, 1, 1, 0, 0, .inl 0), (.iconst 0, 1, 0, 0, 0, .inl 0), (.istore_n 2, 1, 2, 0, 0, .inl 0)] 0 4 _ _ _ (by decide +kernel) ?_
  show Go _ _ _ _ _ _ 4 [(2, vi 0), (1, vi 0), (0, rm 0)] [] (Y, (S, T)) _
  refine go_pick [2, 1, 0] rfl ?_
  obtain ⟨y3, hy3, h⟩ := bind_el h
  refine f11_tiredNow_L1_ok hT _ _ _ _ hy3 ?_
  show Go _ _ _ _ _ _ 47 [(1, vi y3)] [] (Y, (S, T)) _
  refine go_blk rfl [(.iload_n 1, 1, 1, 0, 0, .inl 0)] 47 48 _ _ _ (by decide +kernel) ?_
  show Go _ _ _ _ _ _ 48 [(1, vi y3)] [vi y3] (Y, (S, T)) _
  obtain rfl := Option.some.inj h
  exact go_ireturn (by decide +kernel) rfl rfl ⟨rfl, rfl⟩
def f11_beatsWanted (S : jS) : Option (jS × Int32) := (if (S.1 0 40) = ((-1)) then (if (S.1 1 10) = ((-1)) then some (S, 8) else Option.bind (f11_bits ((wL (wL S 37 0 ((S.1 1 0).toInt64)) 37 1 (((wL S 37 0 ((S.1 1 0).toInt64)).1 1 3).toInt64)).1 1 6)) (fun r1 => Option.bind (f11_bits ((wL (wL (wL S 37 0 ((S.1 1 0).toInt64)) 37 1 (((wL S 37 0 ((S.1 1 0).toInt64)).1 1 3).toInt64)) 37 2 r1.toInt64).1 1 7)) (fun r2 => Option.bind (f11_stepsIn (wL (wL (wL (wL (wL (wL S 37 0 ((S.1 1 0).toInt64)) 37 1 (((wL S 37 0 ((S.1 1 0).toInt64)).1 1 3).toInt64)) 37 2 r1.toInt64) 37 3 r2.toInt64) 37 4 (((wL (wL (wL (wL S 37 0 ((S.1 1 0).toInt64)) 37 1 (((wL S 37 0 ((S.1 1 0).toInt64)).1 1 3).toInt64)) 37 2 r1.toInt64) 37 3 r2.toInt64).1 1 5).toInt64)) 37 5 (((wL (wL (wL (wL (wL S 37 0 ((S.1 1 0).toInt64)) 37 1 (((wL S 37 0 ((S.1 1 0).toInt64)).1 1 3).toInt64)) 37 2 r1.toInt64) 37 3 r2.toInt64) 37 4 (((wL (wL (wL (wL S 37 0 ((S.1 1 0).toInt64)) 37 1 (((wL S 37 0 ((S.1 1 0).toInt64)).1 1 3).toInt64)) 37 2 r1.toInt64) 37 3 r2.toInt64).1 1 5).toInt64)).1 1 4).toInt64)) 0) (fun r3 => Option.bind (f11_stepsIn (wL (wL (wL (wL (wL (wL (wL S 37 0 ((S.1 1 0).toInt64)) 37 1 (((wL S 37 0 ((S.1 1 0).toInt64)).1 1 3).toInt64)) 37 2 r1.toInt64) 37 3 r2.toInt64) 37 4 (((wL (wL (wL (wL S 37 0 ((S.1 1 0).toInt64)) 37 1 (((wL S 37 0 ((S.1 1 0).toInt64)).1 1 3).toInt64)) 37 2 r1.toInt64) 37 3 r2.toInt64).1 1 5).toInt64)) 37 5 (((wL (wL (wL (wL (wL S 37 0 ((S.1 1 0).toInt64)) 37 1 (((wL S 37 0 ((S.1 1 0).toInt64)).1 1 3).toInt64)) 37 2 r1.toInt64) 37 3 r2.toInt64) 37 4 (((wL (wL (wL (wL S 37 0 ((S.1 1 0).toInt64)) 37 1 (((wL S 37 0 ((S.1 1 0).toInt64)).1 1 3).toInt64)) 37 2 r1.toInt64) 37 3 r2.toInt64).1 1 5).toInt64)).1 1 4).toInt64)) 37 6 r3.toInt64) 1) (fun r4 => Option.bind (f11_nearNow (wL (wL (wL (wL (wL (wL (wL (wL S 37 0 ((S.1 1 0).toInt64)) 37 1 (((wL S 37 0 ((S.1 1 0).toInt64)).1 1 3).toInt64)) 37 2 r1.toInt64) 37 3 r2.toInt64) 37 4 (((wL (wL (wL (wL S 37 0 ((S.1 1 0).toInt64)) 37 1 (((wL S 37 0 ((S.1 1 0).toInt64)).1 1 3).toInt64)) 37 2 r1.toInt64) 37 3 r2.toInt64).1 1 5).toInt64)) 37 5 (((wL (wL (wL (wL (wL S 37 0 ((S.1 1 0).toInt64)) 37 1 (((wL S 37 0 ((S.1 1 0).toInt64)).1 1 3).toInt64)) 37 2 r1.toInt64) 37 3 r2.toInt64) 37 4 (((wL (wL (wL (wL S 37 0 ((S.1 1 0).toInt64)) 37 1 (((wL S 37 0 ((S.1 1 0).toInt64)).1 1 3).toInt64)) 37 2 r1.toInt64) 37 3 r2.toInt64).1 1 5).toInt64)).1 1 4).toInt64)) 37 6 r3.toInt64) 37 7 r4.toInt64)) (fun r5 => Option.bind (f11_tiredNow (wL (wL (wL (wL (wL (wL (wL (wL (wL S 37 0 ((S.1 1 0).toInt64)) 37 1 (((wL S 37 0 ((S.1 1 0).toInt64)).1 1 3).toInt64)) 37 2 r1.toInt64) 37 3 r2.toInt64) 37 4 (((wL (wL (wL (wL S 37 0 ((S.1 1 0).toInt64)) 37 1 (((wL S 37 0 ((S.1 1 0).toInt64)).1 1 3).toInt64)) 37 2 r1.toInt64) 37 3 r2.toInt64).1 1 5).toInt64)) 37 5 (((wL (wL (wL (wL (wL S 37 0 ((S.1 1 0).toInt64)) 37 1 (((wL S 37 0 ((S.1 1 0).toInt64)).1 1 3).toInt64)) 37 2 r1.toInt64) 37 3 r2.toInt64) 37 4 (((wL (wL (wL (wL S 37 0 ((S.1 1 0).toInt64)) 37 1 (((wL S 37 0 ((S.1 1 0).toInt64)).1 1 3).toInt64)) 37 2 r1.toInt64) 37 3 r2.toInt64).1 1 5).toInt64)).1 1 4).toInt64)) 37 6 r3.toInt64) 37 7 r4.toInt64) 37 8 r5.toInt64)) (fun r6 => Option.bind (f11_wanted (wL (wL (wL (wL (wL (wL (wL (wL (wL (wL S 37 0 ((S.1 1 0).toInt64)) 37 1 (((wL S 37 0 ((S.1 1 0).toInt64)).1 1 3).toInt64)) 37 2 r1.toInt64) 37 3 r2.toInt64) 37 4 (((wL (wL (wL (wL S 37 0 ((S.1 1 0).toInt64)) 37 1 (((wL S 37 0 ((S.1 1 0).toInt64)).1 1 3).toInt64)) 37 2 r1.toInt64) 37 3 r2.toInt64).1 1 5).toInt64)) 37 5 (((wL (wL (wL (wL (wL S 37 0 ((S.1 1 0).toInt64)) 37 1 (((wL S 37 0 ((S.1 1 0).toInt64)).1 1 3).toInt64)) 37 2 r1.toInt64) 37 3 r2.toInt64) 37 4 (((wL (wL (wL (wL S 37 0 ((S.1 1 0).toInt64)) 37 1 (((wL S 37 0 ((S.1 1 0).toInt64)).1 1 3).toInt64)) 37 2 r1.toInt64) 37 3 r2.toInt64).1 1 5).toInt64)).1 1 4).toInt64)) 37 6 r3.toInt64) 37 7 r4.toInt64) 37 8 r5.toInt64) 37 9 r6.toInt64)) (fun r7 => (if 0 ≤ (lg_cmp r7.2 1) then (if (lg_cmp r7.2 60) ≤ 0 then some (r7.1, r7.2.toInt32) else some (r7.1, 60)) else some (r7.1, 1)))))))))) else some (S, S.1 0 40))
theorem ret11_beatsWanted {S : jS} {T : jT} {Y : jS × jT} {S1 : jS} {x : Int32} (hT : LayM T) (h : f11_beatsWanted S = some (S1, x)) : Ret M11_beatsWanted 5 0 0 [rm 0] (Y, (S, T)) (some (vi x)) (Y, (S1, T)) := by
  refine Ret.of (by decide +kernel) (Nat.le_of_ble_eq_true rfl) ?_
  unfold f11_beatsWanted at h
  show Go _ _ _ _ _ _ 0 [(0, rm 0)] [] (Y, (S, T)) _
  refine go_blk rfl [(.aload_n 0, 1, 0, 0, 0, .inl 0), (.getfield 103, 3, 11, 40, 0, .inl 0), (.iconst (-1), 1, 0, 0, 0, .inl (-1))] 0 5 _ _ _ (by decide +kernel) ?_
  refine And.intro (lm_t0 hT) ?_
  show Go _ _ _ _ _ _ 5 [(0, rm 0)] [vi ((-1)), vi (S.1 0 40)] (Y, (S, T)) _
  refine ite_el h (fun q1 h => ?_) (fun q1 h => ?_)
  · refine go_icmp_eq (off := 8) (tgt := 13) (by decide +kernel) (by decide) (fun _ => ?_) (fun z => absurd q1 z)
    refine go_blk rfl [(.aload_n 0, 1, 0, 0, 0, .inl 0), (.getfield 9, 3, 11, 1, 1, .inl 0), (.bipush 10, 2, 0, 0, 0, .inl 10), (.iaload, 1, 20, 0, 0, .inl 0), (.iconst (-1), 1, 0, 0, 0, .inl (-1))] 13 21 _ _ _ (by decide +kernel) ?_
    refine And.intro (lm_t0 hT) (Exists.intro _ (And.intro (gRm (lm_r1 hT)) ?_))
    refine And.intro (lm_t1 hT) (Exists.intro _ (And.intro (lm_n1 hT) (And.intro (inb_in (by decide)) ?_)))
    show Go _ _ _ _ _ _ 21 [(0, rm 0)] [vi ((-1)), vi (S.1 1 10)] (Y, (S, T)) _
    refine ite_el h (fun q2 h => ?_) (fun q2 h => ?_)
    · refine go_icmp_ne (off := 6) (tgt := 27) (by decide +kernel) (by decide) (fun z => absurd q2 z) (fun _ => ?_)
      refine go_blk rfl [(.bipush 8, 2, 0, 0, 0, .inl 8)] 24 26 _ _ _ (by decide +kernel) ?_
      show Go _ _ _ _ _ _ 26 [(0, rm 0)] [vi 8] (Y, (S, T)) _
      obtain ⟨rfl, rfl⟩ := Prod.mk.inj (Option.some.inj h)
      exact go_ireturn (by decide +kernel) rfl rfl ⟨rfl, rfl⟩
    · refine go_icmp_ne (off := 6) (tgt := 27) (by decide +kernel) (by decide) (fun _ => ?_) (fun z => absurd z q2)
      refine go_blk rfl [(.aload_n 0, 1, 0, 0, 0, .inl 0), (.getfield 93, 3, 11, 37, 1, .inl 0), (.iconst 0, 1, 0, 0, 0, .inl 0), (.aload_n 0, 1, 0, 0, 0, .inl 0), (.getfield 9, 3, 11, 1, 1, .inl 0), (.iconst 0, 1, 0, 0, 0, .inl 0), (.iaload, 1, 20, 0, 0, .inl 0), (.i2l, 1, 0, 0, 0, .inl 0), (.lastore, 1, 23, 0, 0, .inl 0)] 27 40 _ _ _ (by decide +kernel) ?_
      refine And.intro (lm_t0 hT) (Exists.intro _ (And.intro (gRm (lm_r37 hT)) ?_))
      refine And.intro (lm_t0 hT) (Exists.intro _ (And.intro (gRm (lm_r1 hT)) ?_))
      refine And.intro (lm_t1 hT) (Exists.intro _ (And.intro (lm_n1 hT) (And.intro (inb_in (by decide)) ?_)))
      refine And.intro (lm_t37 hT) (Exists.intro _ (And.intro (lm_n37 hT) (And.intro (inb_in (by decide)) ?_)))
      show Go _ _ _ _ _ _ 40 [(0, rm 0)] [] (Y, (wL S 37 0 ((S.1 1 0).toInt64), T)) _
      refine go_blk rfl [(.aload_n 0, 1, 0, 0, 0, .inl 0), (.getfield 93, 3, 11, 37, 1, .inl 0), (.iconst 1, 1, 0, 0, 0, .inl 1), (.aload_n 0, 1, 0, 0, 0, .inl 0), (.getfield 9, 3, 11, 1, 1, .inl 0), (.iconst 3, 1, 0, 0, 0, .inl 3), (.iaload, 1, 20, 0, 0, .inl 0), (.i2l, 1, 0, 0, 0, .inl 0), (.lastore, 1, 23, 0, 0, .inl 0)] 40 53 _ _ _ (by decide +kernel) ?_
      refine And.intro (lm_t0 hT) (Exists.intro _ (And.intro (gRm (lm_r37 hT)) ?_))
      refine And.intro (lm_t0 hT) (Exists.intro _ (And.intro (gRm (lm_r1 hT)) ?_))
      refine And.intro (lm_t1 hT) (Exists.intro _ (And.intro (lm_n1 hT) (And.intro (inb_in (by decide)) ?_)))
      refine And.intro (lm_t37 hT) (Exists.intro _ (And.intro (lm_n37 hT) (And.intro (inb_in (by decide)) ?_)))
      show Go _ _ _ _ _ _ 53 [(0, rm 0)] [] (Y, (wL (wL S 37 0 ((S.1 1 0).toInt64)) 37 1 (((wL S 37 0 ((S.1 1 0).toInt64)).1 1 3).toInt64), T)) _
      refine go_blk rfl [(.aload_n 0, 1, 0, 0, 0, .inl 0), (.getfield 93, 3, 11, 37, 1, .inl 0), (.iconst 2, 1, 0, 0, 0, .inl 2), (.aload_n 0, 1, 0, 0, 0, .inl 0), (.getfield 9, 3, 11, 1, 1, .inl 0), (.bipush 6, 2, 0, 0, 0, .inl 6), (.iaload, 1, 20, 0, 0, .inl 0)] 53 65 _ _ _ (by decide +kernel) ?_
      refine And.intro (lm_t0 hT) (Exists.intro _ (And.intro (gRm (lm_r37 hT)) ?_))
      refine And.intro (lm_t0 hT) (Exists.intro _ (And.intro (gRm (lm_r1 hT)) ?_))
      refine And.intro (lm_t1 hT) (Exists.intro _ (And.intro (lm_n1 hT) (And.intro (inb_in (by decide)) ?_)))
      show Go _ _ _ _ _ _ 65 [(0, rm 0)] [vi ((wL (wL S 37 0 ((S.1 1 0).toInt64)) 37 1 (((wL S 37 0 ((S.1 1 0).toInt64)).1 1 3).toInt64)).1 1 6), vi 2, rm 37] (Y, (wL (wL S 37 0 ((S.1 1 0).toInt64)) 37 1 (((wL S 37 0 ((S.1 1 0).toInt64)).1 1 3).toInt64), T)) _
      obtain ⟨r1, hr1, h⟩ := bind_el h
      refine go_callS (idx := 359) (z := 0) (M' := M11_bits) (n := 1) (A := [vi ((wL (wL S 37 0 ((S.1 1 0).toInt64)) 37 1 (((wL S 37 0 ((S.1 1 0).toInt64)).1 1 3).toInt64)).1 1 6)]) (v' := some (vi r1)) (μ' := (Y, (wL (wL S 37 0 ((S.1 1 0).toInt64)) 37 1 (((wL S 37 0 ((S.1 1 0).toInt64)).1 1 3).toInt64), T))) (d' := 1) (mc' := 0) (ms' := 0) (kc' := 0) (ks' := 0) (by decide +kernel) ml_11_359 rfl ws11_bits rfl (ret11_bits hr1) (by decide) rfl rfl (Nat.le_of_ble_eq_true rfl) rfl (jag rfl rfl) ?_
      show Go _ _ _ _ _ _ 68 [(0, rm 0)] [vi r1, vi 2, rm 37] (Y, (wL (wL S 37 0 ((S.1 1 0).toInt64)) 37 1 (((wL S 37 0 ((S.1 1 0).toInt64)).1 1 3).toInt64), T)) _
      refine go_blk rfl [(.i2l, 1, 0, 0, 0, .inl 0), (.lastore, 1, 23, 0, 0, .inl 0)] 68 70 _ _ _ (by decide +kernel) ?_
      refine And.intro (lm_t37 hT) (Exists.intro _ (And.intro (lm_n37 hT) (And.intro (inb_in (by decide)) ?_)))
      show Go _ _ _ _ _ _ 70 [(0, rm 0)] [] (Y, (wL (wL (wL S 37 0 ((S.1 1 0).toInt64)) 37 1 (((wL S 37 0 ((S.1 1 0).toInt64)).1 1 3).toInt64)) 37 2 r1.toInt64, T)) _
      refine go_blk rfl [(.aload_n 0, 1, 0, 0, 0, .inl 0), (.getfield 93, 3, 11, 37, 1, .inl 0), (.iconst 3, 1, 0, 0, 0, .inl 3), (.aload_n 0, 1, 0, 0, 0, .inl 0), (.getfield 9, 3, 11, 1, 1, .inl 0), (.bipush 7, 2, 0, 0, 0, .inl 7), (.iaload, 1, 20, 0, 0, .inl 0)] 70 82 _ _ _ (by decide +kernel) ?_
      refine And.intro (lm_t0 hT) (Exists.intro _ (And.intro (gRm (lm_r37 hT)) ?_))
      refine And.intro (lm_t0 hT) (Exists.intro _ (And.intro (gRm (lm_r1 hT)) ?_))
      refine And.intro (lm_t1 hT) (Exists.intro _ (And.intro (lm_n1 hT) (And.intro (inb_in (by decide)) ?_)))
      show Go _ _ _ _ _ _ 82 [(0, rm 0)] [vi ((wL (wL (wL S 37 0 ((S.1 1 0).toInt64)) 37 1 (((wL S 37 0 ((S.1 1 0).toInt64)).1 1 3).toInt64)) 37 2 r1.toInt64).1 1 7), vi 3, rm 37] (Y, (wL (wL (wL S 37 0 ((S.1 1 0).toInt64)) 37 1 (((wL S 37 0 ((S.1 1 0).toInt64)).1 1 3).toInt64)) 37 2 r1.toInt64, T)) _
      obtain ⟨r2, hr2, h⟩ := bind_el h
      refine go_callS (idx := 359) (z := 0) (M' := M11_bits) (n := 1) (A := [vi ((wL (wL (wL S 37 0 ((S.1 1 0).toInt64)) 37 1 (((wL S 37 0 ((S.1 1 0).toInt64)).1 1 3).toInt64)) 37 2 r1.toInt64).1 1 7)]) (v' := some (vi r2)) (μ' := (Y, (wL (wL (wL S 37 0 ((S.1 1 0).toInt64)) 37 1 (((wL S 37 0 ((S.1 1 0).toInt64)).1 1 3).toInt64)) 37 2 r1.toInt64, T))) (d' := 1) (mc' := 0) (ms' := 0) (kc' := 0) (ks' := 0) (by decide +kernel) ml_11_359 rfl ws11_bits rfl (ret11_bits hr2) (by decide) rfl rfl (Nat.le_of_ble_eq_true rfl) rfl (jag rfl rfl) ?_
      show Go _ _ _ _ _ _ 85 [(0, rm 0)] [vi r2, vi 3, rm 37] (Y, (wL (wL (wL S 37 0 ((S.1 1 0).toInt64)) 37 1 (((wL S 37 0 ((S.1 1 0).toInt64)).1 1 3).toInt64)) 37 2 r1.toInt64, T)) _
      refine go_blk rfl [(.i2l, 1, 0, 0, 0, .inl 0), (.lastore, 1, 23, 0, 0, .inl 0)] 85 87 _ _ _ (by decide +kernel) ?_
      refine And.intro (lm_t37 hT) (Exists.intro _ (And.intro (lm_n37 hT) (And.intro (inb_in (by decide)) ?_)))
      show Go _ _ _ _ _ _ 87 [(0, rm 0)] [] (Y, (wL (wL (wL (wL S 37 0 ((S.1 1 0).toInt64)) 37 1 (((wL S 37 0 ((S.1 1 0).toInt64)).1 1 3).toInt64)) 37 2 r1.toInt64) 37 3 r2.toInt64, T)) _
      refine go_blk rfl [(.aload_n 0, 1, 0, 0, 0, .inl 0), (.getfield 93, 3, 11, 37, 1, .inl 0), (.iconst 4, 1, 0, 0, 0, .inl 4), (.aload_n 0, 1, 0, 0, 0, .inl 0), (.getfield 9, 3, 11, 1, 1, .inl 0), (.iconst 5, 1, 0, 0, 0, .inl 5), (.iaload, 1, 20, 0, 0, .inl 0), (.i2l, 1, 0, 0, 0, .inl 0), (.lastore, 1, 23, 0, 0, .inl 0)] 87 100 _ _ _ (by decide +kernel) ?_
      refine And.intro (lm_t0 hT) (Exists.intro _ (And.intro (gRm (lm_r37 hT)) ?_))
      refine And.intro (lm_t0 hT) (Exists.intro _ (And.intro (gRm (lm_r1 hT)) ?_))
      refine And.intro (lm_t1 hT) (Exists.intro _ (And.intro (lm_n1 hT) (And.intro (inb_in (by decide)) ?_)))
      refine And.intro (lm_t37 hT) (Exists.intro _ (And.intro (lm_n37 hT) (And.intro (inb_in (by decide)) ?_)))
      show Go _ _ _ _ _ _ 100 [(0, rm 0)] [] (Y, (wL (wL (wL (wL (wL S 37 0 ((S.1 1 0).toInt64)) 37 1 (((wL S 37 0 ((S.1 1 0).toInt64)).1 1 3).toInt64)) 37 2 r1.toInt64) 37 3 r2.toInt64) 37 4 (((wL (wL (wL (wL S 37 0 ((S.1 1 0).toInt64)) 37 1 (((wL S 37 0 ((S.1 1 0).toInt64)).1 1 3).toInt64)) 37 2 r1.toInt64) 37 3 r2.toInt64).1 1 5).toInt64), T)) _
      refine go_blk rfl [(.aload_n 0, 1, 0, 0, 0, .inl 0), (.getfield 93, 3, 11, 37, 1, .inl 0), (.iconst 5, 1, 0, 0, 0, .inl 5), (.aload_n 0, 1, 0, 0, 0, .inl 0), (.getfield 9, 3, 11, 1, 1, .inl 0), (.iconst 4, 1, 0, 0, 0, .inl 4), (.iaload, 1, 20, 0, 0, .inl 0), (.i2l, 1, 0, 0, 0, .inl 0), (.lastore, 1, 23, 0, 0, .inl 0)] 100 113 _ _ _ (by decide +kernel) ?_
      refine And.intro (lm_t0 hT) (Exists.intro _ (And.intro (gRm (lm_r37 hT)) ?_))
      refine And.intro (lm_t0 hT) (Exists.intro _ (And.intro (gRm (lm_r1 hT)) ?_))
      refine And.intro (lm_t1 hT) (Exists.intro _ (And.intro (lm_n1 hT) (And.intro (inb_in (by decide)) ?_)))
      refine And.intro (lm_t37 hT) (Exists.intro _ (And.intro (lm_n37 hT) (And.intro (inb_in (by decide)) ?_)))
      show Go _ _ _ _ _ _ 113 [(0, rm 0)] [] (Y, (wL (wL (wL (wL (wL (wL S 37 0 ((S.1 1 0).toInt64)) 37 1 (((wL S 37 0 ((S.1 1 0).toInt64)).1 1 3).toInt64)) 37 2 r1.toInt64) 37 3 r2.toInt64) 37 4 (((wL (wL (wL (wL S 37 0 ((S.1 1 0).toInt64)) 37 1 (((wL S 37 0 ((S.1 1 0).toInt64)).1 1 3).toInt64)) 37 2 r1.toInt64) 37 3 r2.toInt64).1 1 5).toInt64)) 37 5 (((wL (wL (wL (wL (wL S 37 0 ((S.1 1 0).toInt64)) 37 1 (((wL S 37 0 ((S.1 1 0).toInt64)).1 1 3).toInt64)) 37 2 r1.toInt64) 37 3 r2.toInt64) 37 4 (((wL (wL (wL (wL S 37 0 ((S.1 1 0).toInt64)) 37 1 (((wL S 37 0 ((S.1 1 0).toInt64)).1 1 3).toInt64)) 37 2 r1.toInt64) 37 3 r2.toInt64).1 1 5).toInt64)).1 1 4).toInt64), T)) _
      refine go_blk rfl [(.aload_n 0, 1, 0, 0, 0, .inl 0), (.getfield 93, 3, 11, 37, 1, .inl 0), (.bipush 6, 2, 0, 0, 0, .inl 6), (.aload_n 0, 1, 0, 0, 0, .inl 0), (.iconst 0, 1, 0, 0, 0, .inl 0)] 113 121 _ _ _ (by decide +kernel) ?_
      refine And.intro (lm_t0 hT) (Exists.intro _ (And.intro (gRm (lm_r37 hT)) ?_))
      show Go _ _ _ _ _ _ 121 [(0, rm 0)] [vi 0, rm 0, vi 6, rm 37] (Y, (wL (wL (wL (wL (wL (wL S 37 0 ((S.1 1 0).toInt64)) 37 1 (((wL S 37 0 ((S.1 1 0).toInt64)).1 1 3).toInt64)) 37 2 r1.toInt64) 37 3 r2.toInt64) 37 4 (((wL (wL (wL (wL S 37 0 ((S.1 1 0).toInt64)) 37 1 (((wL S 37 0 ((S.1 1 0).toInt64)).1 1 3).toInt64)) 37 2 r1.toInt64) 37 3 r2.toInt64).1 1 5).toInt64)) 37 5 (((wL (wL (wL (wL (wL S 37 0 ((S.1 1 0).toInt64)) 37 1 (((wL S 37 0 ((S.1 1 0).toInt64)).1 1 3).toInt64)) 37 2 r1.toInt64) 37 3 r2.toInt64) 37 4 (((wL (wL (wL (wL S 37 0 ((S.1 1 0).toInt64)) 37 1 (((wL S 37 0 ((S.1 1 0).toInt64)).1 1 3).toInt64)) 37 2 r1.toInt64) 37 3 r2.toInt64).1 1 5).toInt64)).1 1 4).toInt64), T)) _
      obtain ⟨r3, hr3, h⟩ := bind_el h
      refine go_callV (idx := 362) (z := 0) (M' := M11_stepsIn) (n := 1) (A := [vi 0]) (v' := some (vi r3)) (μ' := (Y, (wL (wL (wL (wL (wL (wL S 37 0 ((S.1 1 0).toInt64)) 37 1 (((wL S 37 0 ((S.1 1 0).toInt64)).1 1 3).toInt64)) 37 2 r1.toInt64) 37 3 r2.toInt64) 37 4 (((wL (wL (wL (wL S 37 0 ((S.1 1 0).toInt64)) 37 1 (((wL S 37 0 ((S.1 1 0).toInt64)).1 1 3).toInt64)) 37 2 r1.toInt64) 37 3 r2.toInt64).1 1 5).toInt64)) 37 5 (((wL (wL (wL (wL (wL S 37 0 ((S.1 1 0).toInt64)) 37 1 (((wL S 37 0 ((S.1 1 0).toInt64)).1 1 3).toInt64)) 37 2 r1.toInt64) 37 3 r2.toInt64) 37 4 (((wL (wL (wL (wL S 37 0 ((S.1 1 0).toInt64)) 37 1 (((wL S 37 0 ((S.1 1 0).toInt64)).1 1 3).toInt64)) 37 2 r1.toInt64) 37 3 r2.toInt64).1 1 5).toInt64)).1 1 4).toInt64), T))) (d' := 2) (mc' := 0) (ms' := 0) (kc' := 0) (ks' := 0) (ci := 11) (x := .inr (.inl 0)) (by decide +kernel) ml_11_362 rfl wv11_stepsIn rfl (by decide) rfl (lm_t0 hT) (ret11_stepsIn hT hr3) (by decide) rfl rfl (Nat.le_of_ble_eq_true rfl) rfl (jag rfl rfl) ?_
      show Go _ _ _ _ _ _ 124 [(0, rm 0)] [vi r3, vi 6, rm 37] (Y, (wL (wL (wL (wL (wL (wL S 37 0 ((S.1 1 0).toInt64)) 37 1 (((wL S 37 0 ((S.1 1 0).toInt64)).1 1 3).toInt64)) 37 2 r1.toInt64) 37 3 r2.toInt64) 37 4 (((wL (wL (wL (wL S 37 0 ((S.1 1 0).toInt64)) 37 1 (((wL S 37 0 ((S.1 1 0).toInt64)).1 1 3).toInt64)) 37 2 r1.toInt64) 37 3 r2.toInt64).1 1 5).toInt64)) 37 5 (((wL (wL (wL (wL (wL S 37 0 ((S.1 1 0).toInt64)) 37 1 (((wL S 37 0 ((S.1 1 0).toInt64)).1 1 3).toInt64)) 37 2 r1.toInt64) 37 3 r2.toInt64) 37 4 (((wL (wL (wL (wL S 37 0 ((S.1 1 0).toInt64)) 37 1 (((wL S 37 0 ((S.1 1 0).toInt64)).1 1 3).toInt64)) 37 2 r1.toInt64) 37 3 r2.toInt64).1 1 5).toInt64)).1 1 4).toInt64), T)) _
      refine go_blk rfl [(.i2l, 1, 0, 0, 0, .inl 0), (.lastore, 1, 23, 0, 0, .inl 0)] 124 126 _ _ _ (by decide +kernel) ?_
      refine And.intro (lm_t37 hT) (Exists.intro _ (And.intro (lm_n37 hT) (And.intro (inb_in (by decide)) ?_)))
      show Go _ _ _ _ _ _ 126 [(0, rm 0)] [] (Y, (wL (wL (wL (wL (wL (wL (wL S 37 0 ((S.1 1 0).toInt64)) 37 1 (((wL S 37 0 ((S.1 1 0).toInt64)).1 1 3).toInt64)) 37 2 r1.toInt64) 37 3 r2.toInt64) 37 4 (((wL (wL (wL (wL S 37 0 ((S.1 1 0).toInt64)) 37 1 (((wL S 37 0 ((S.1 1 0).toInt64)).1 1 3).toInt64)) 37 2 r1.toInt64) 37 3 r2.toInt64).1 1 5).toInt64)) 37 5 (((wL (wL (wL (wL (wL S 37 0 ((S.1 1 0).toInt64)) 37 1 (((wL S 37 0 ((S.1 1 0).toInt64)).1 1 3).toInt64)) 37 2 r1.toInt64) 37 3 r2.toInt64) 37 4 (((wL (wL (wL (wL S 37 0 ((S.1 1 0).toInt64)) 37 1 (((wL S 37 0 ((S.1 1 0).toInt64)).1 1 3).toInt64)) 37 2 r1.toInt64) 37 3 r2.toInt64).1 1 5).toInt64)).1 1 4).toInt64)) 37 6 r3.toInt64, T)) _
      refine go_blk rfl [(.aload_n 0, 1, 0, 0, 0, .inl 0), (.getfield 93, 3, 11, 37, 1, .inl 0), (.bipush 7, 2, 0, 0, 0, .inl 7), (.aload_n 0, 1, 0, 0, 0, .inl 0), (.iconst 1, 1, 0, 0, 0, .inl 1)] 126 134 _ _ _ (by decide +kernel) ?_
      refine And.intro (lm_t0 hT) (Exists.intro _ (And.intro (gRm (lm_r37 hT)) ?_))
      show Go _ _ _ _ _ _ 134 [(0, rm 0)] [vi 1, rm 0, vi 7, rm 37] (Y, (wL (wL (wL (wL (wL (wL (wL S 37 0 ((S.1 1 0).toInt64)) 37 1 (((wL S 37 0 ((S.1 1 0).toInt64)).1 1 3).toInt64)) 37 2 r1.toInt64) 37 3 r2.toInt64) 37 4 (((wL (wL (wL (wL S 37 0 ((S.1 1 0).toInt64)) 37 1 (((wL S 37 0 ((S.1 1 0).toInt64)).1 1 3).toInt64)) 37 2 r1.toInt64) 37 3 r2.toInt64).1 1 5).toInt64)) 37 5 (((wL (wL (wL (wL (wL S 37 0 ((S.1 1 0).toInt64)) 37 1 (((wL S 37 0 ((S.1 1 0).toInt64)).1 1 3).toInt64)) 37 2 r1.toInt64) 37 3 r2.toInt64) 37 4 (((wL (wL (wL (wL S 37 0 ((S.1 1 0).toInt64)) 37 1 (((wL S 37 0 ((S.1 1 0).toInt64)).1 1 3).toInt64)) 37 2 r1.toInt64) 37 3 r2.toInt64).1 1 5).toInt64)).1 1 4).toInt64)) 37 6 r3.toInt64, T)) _
      obtain ⟨r4, hr4, h⟩ := bind_el h
      refine go_callV (idx := 362) (z := 0) (M' := M11_stepsIn) (n := 1) (A := [vi 1]) (v' := some (vi r4)) (μ' := (Y, (wL (wL (wL (wL (wL (wL (wL S 37 0 ((S.1 1 0).toInt64)) 37 1 (((wL S 37 0 ((S.1 1 0).toInt64)).1 1 3).toInt64)) 37 2 r1.toInt64) 37 3 r2.toInt64) 37 4 (((wL (wL (wL (wL S 37 0 ((S.1 1 0).toInt64)) 37 1 (((wL S 37 0 ((S.1 1 0).toInt64)).1 1 3).toInt64)) 37 2 r1.toInt64) 37 3 r2.toInt64).1 1 5).toInt64)) 37 5 (((wL (wL (wL (wL (wL S 37 0 ((S.1 1 0).toInt64)) 37 1 (((wL S 37 0 ((S.1 1 0).toInt64)).1 1 3).toInt64)) 37 2 r1.toInt64) 37 3 r2.toInt64) 37 4 (((wL (wL (wL (wL S 37 0 ((S.1 1 0).toInt64)) 37 1 (((wL S 37 0 ((S.1 1 0).toInt64)).1 1 3).toInt64)) 37 2 r1.toInt64) 37 3 r2.toInt64).1 1 5).toInt64)).1 1 4).toInt64)) 37 6 r3.toInt64, T))) (d' := 2) (mc' := 0) (ms' := 0) (kc' := 0) (ks' := 0) (ci := 11) (x := .inr (.inl 0)) (by decide +kernel) ml_11_362 rfl wv11_stepsIn rfl (by decide) rfl (lm_t0 hT) (ret11_stepsIn hT hr4) (by decide) rfl rfl (Nat.le_of_ble_eq_true rfl) rfl (jag rfl rfl) ?_
      show Go _ _ _ _ _ _ 137 [(0, rm 0)] [vi r4, vi 7, rm 37] (Y, (wL (wL (wL (wL (wL (wL (wL S 37 0 ((S.1 1 0).toInt64)) 37 1 (((wL S 37 0 ((S.1 1 0).toInt64)).1 1 3).toInt64)) 37 2 r1.toInt64) 37 3 r2.toInt64) 37 4 (((wL (wL (wL (wL S 37 0 ((S.1 1 0).toInt64)) 37 1 (((wL S 37 0 ((S.1 1 0).toInt64)).1 1 3).toInt64)) 37 2 r1.toInt64) 37 3 r2.toInt64).1 1 5).toInt64)) 37 5 (((wL (wL (wL (wL (wL S 37 0 ((S.1 1 0).toInt64)) 37 1 (((wL S 37 0 ((S.1 1 0).toInt64)).1 1 3).toInt64)) 37 2 r1.toInt64) 37 3 r2.toInt64) 37 4 (((wL (wL (wL (wL S 37 0 ((S.1 1 0).toInt64)) 37 1 (((wL S 37 0 ((S.1 1 0).toInt64)).1 1 3).toInt64)) 37 2 r1.toInt64) 37 3 r2.toInt64).1 1 5).toInt64)).1 1 4).toInt64)) 37 6 r3.toInt64, T)) _
      refine go_blk rfl [(.i2l, 1, 0, 0, 0, .inl 0), (.lastore, 1, 23, 0, 0, .inl 0)] 137 139 _ _ _ (by decide +kernel) ?_
      refine And.intro (lm_t37 hT) (Exists.intro _ (And.intro (lm_n37 hT) (And.intro (inb_in (by decide)) ?_)))
      show Go _ _ _ _ _ _ 139 [(0, rm 0)] [] (Y, (wL (wL (wL (wL (wL (wL (wL (wL S 37 0 ((S.1 1 0).toInt64)) 37 1 (((wL S 37 0 ((S.1 1 0).toInt64)).1 1 3).toInt64)) 37 2 r1.toInt64) 37 3 r2.toInt64) 37 4 (((wL (wL (wL (wL S 37 0 ((S.1 1 0).toInt64)) 37 1 (((wL S 37 0 ((S.1 1 0).toInt64)).1 1 3).toInt64)) 37 2 r1.toInt64) 37 3 r2.toInt64).1 1 5).toInt64)) 37 5 (((wL (wL (wL (wL (wL S 37 0 ((S.1 1 0).toInt64)) 37 1 (((wL S 37 0 ((S.1 1 0).toInt64)).1 1 3).toInt64)) 37 2 r1.toInt64) 37 3 r2.toInt64) 37 4 (((wL (wL (wL (wL S 37 0 ((S.1 1 0).toInt64)) 37 1 (((wL S 37 0 ((S.1 1 0).toInt64)).1 1 3).toInt64)) 37 2 r1.toInt64) 37 3 r2.toInt64).1 1 5).toInt64)).1 1 4).toInt64)) 37 6 r3.toInt64) 37 7 r4.toInt64, T)) _
      refine go_blk rfl [(.aload_n 0, 1, 0, 0, 0, .inl 0), (.getfield 93, 3, 11, 37, 1, .inl 0), (.bipush 8, 2, 0, 0, 0, .inl 8), (.aload_n 0, 1, 0, 0, 0, .inl 0)] 139 146 _ _ _ (by decide +kernel) ?_
      refine And.intro (lm_t0 hT) (Exists.intro _ (And.intro (gRm (lm_r37 hT)) ?_))
      show Go _ _ _ _ _ _ 146 [(0, rm 0)] [rm 0, vi 8, rm 37] (Y, (wL (wL (wL (wL (wL (wL (wL (wL S 37 0 ((S.1 1 0).toInt64)) 37 1 (((wL S 37 0 ((S.1 1 0).toInt64)).1 1 3).toInt64)) 37 2 r1.toInt64) 37 3 r2.toInt64) 37 4 (((wL (wL (wL (wL S 37 0 ((S.1 1 0).toInt64)) 37 1 (((wL S 37 0 ((S.1 1 0).toInt64)).1 1 3).toInt64)) 37 2 r1.toInt64) 37 3 r2.toInt64).1 1 5).toInt64)) 37 5 (((wL (wL (wL (wL (wL S 37 0 ((S.1 1 0).toInt64)) 37 1 (((wL S 37 0 ((S.1 1 0).toInt64)).1 1 3).toInt64)) 37 2 r1.toInt64) 37 3 r2.toInt64) 37 4 (((wL (wL (wL (wL S 37 0 ((S.1 1 0).toInt64)) 37 1 (((wL S 37 0 ((S.1 1 0).toInt64)).1 1 3).toInt64)) 37 2 r1.toInt64) 37 3 r2.toInt64).1 1 5).toInt64)).1 1 4).toInt64)) 37 6 r3.toInt64) 37 7 r4.toInt64, T)) _
      obtain ⟨r5, hr5, h⟩ := bind_el h
      refine go_callV (idx := 366) (z := 0) (M' := M11_nearNow) (n := 0) (A := []) (v' := some (vi r5)) (μ' := (Y, (wL (wL (wL (wL (wL (wL (wL (wL S 37 0 ((S.1 1 0).toInt64)) 37 1 (((wL S 37 0 ((S.1 1 0).toInt64)).1 1 3).toInt64)) 37 2 r1.toInt64) 37 3 r2.toInt64) 37 4 (((wL (wL (wL (wL S 37 0 ((S.1 1 0).toInt64)) 37 1 (((wL S 37 0 ((S.1 1 0).toInt64)).1 1 3).toInt64)) 37 2 r1.toInt64) 37 3 r2.toInt64).1 1 5).toInt64)) 37 5 (((wL (wL (wL (wL (wL S 37 0 ((S.1 1 0).toInt64)) 37 1 (((wL S 37 0 ((S.1 1 0).toInt64)).1 1 3).toInt64)) 37 2 r1.toInt64) 37 3 r2.toInt64) 37 4 (((wL (wL (wL (wL S 37 0 ((S.1 1 0).toInt64)) 37 1 (((wL S 37 0 ((S.1 1 0).toInt64)).1 1 3).toInt64)) 37 2 r1.toInt64) 37 3 r2.toInt64).1 1 5).toInt64)).1 1 4).toInt64)) 37 6 r3.toInt64) 37 7 r4.toInt64, T))) (d' := 2) (mc' := 0) (ms' := 0) (kc' := 0) (ks' := 0) (ci := 11) (x := .inr (.inl 0)) (by decide +kernel) ml_11_366 rfl wv11_nearNow rfl (by decide) rfl (lm_t0 hT) (ret11_nearNow hT hr5) (by decide) rfl rfl (Nat.le_of_ble_eq_true rfl) rfl (jag rfl rfl) ?_
      show Go _ _ _ _ _ _ 149 [(0, rm 0)] [vi r5, vi 8, rm 37] (Y, (wL (wL (wL (wL (wL (wL (wL (wL S 37 0 ((S.1 1 0).toInt64)) 37 1 (((wL S 37 0 ((S.1 1 0).toInt64)).1 1 3).toInt64)) 37 2 r1.toInt64) 37 3 r2.toInt64) 37 4 (((wL (wL (wL (wL S 37 0 ((S.1 1 0).toInt64)) 37 1 (((wL S 37 0 ((S.1 1 0).toInt64)).1 1 3).toInt64)) 37 2 r1.toInt64) 37 3 r2.toInt64).1 1 5).toInt64)) 37 5 (((wL (wL (wL (wL (wL S 37 0 ((S.1 1 0).toInt64)) 37 1 (((wL S 37 0 ((S.1 1 0).toInt64)).1 1 3).toInt64)) 37 2 r1.toInt64) 37 3 r2.toInt64) 37 4 (((wL (wL (wL (wL S 37 0 ((S.1 1 0).toInt64)) 37 1 (((wL S 37 0 ((S.1 1 0).toInt64)).1 1 3).toInt64)) 37 2 r1.toInt64) 37 3 r2.toInt64).1 1 5).toInt64)).1 1 4).toInt64)) 37 6 r3.toInt64) 37 7 r4.toInt64, T)) _
      refine go_blk rfl [(.i2l, 1, 0, 0, 0, .inl 0), (.lastore, 1, 23, 0, 0, .inl 0)] 149 151 _ _ _ (by decide +kernel) ?_
      refine And.intro (lm_t37 hT) (Exists.intro _ (And.intro (lm_n37 hT) (And.intro (inb_in (by decide)) ?_)))
      show Go _ _ _ _ _ _ 151 [(0, rm 0)] [] (Y, (wL (wL (wL (wL (wL (wL (wL (wL (wL S 37 0 ((S.1 1 0).toInt64)) 37 1 (((wL S 37 0 ((S.1 1 0).toInt64)).1 1 3).toInt64)) 37 2 r1.toInt64) 37 3 r2.toInt64) 37 4 (((wL (wL (wL (wL S 37 0 ((S.1 1 0).toInt64)) 37 1 (((wL S 37 0 ((S.1 1 0).toInt64)).1 1 3).toInt64)) 37 2 r1.toInt64) 37 3 r2.toInt64).1 1 5).toInt64)) 37 5 (((wL (wL (wL (wL (wL S 37 0 ((S.1 1 0).toInt64)) 37 1 (((wL S 37 0 ((S.1 1 0).toInt64)).1 1 3).toInt64)) 37 2 r1.toInt64) 37 3 r2.toInt64) 37 4 (((wL (wL (wL (wL S 37 0 ((S.1 1 0).toInt64)) 37 1 (((wL S 37 0 ((S.1 1 0).toInt64)).1 1 3).toInt64)) 37 2 r1.toInt64) 37 3 r2.toInt64).1 1 5).toInt64)).1 1 4).toInt64)) 37 6 r3.toInt64) 37 7 r4.toInt64) 37 8 r5.toInt64, T)) _
      refine go_blk rfl [(.aload_n 0, 1, 0, 0, 0, .inl 0), (.getfield 93, 3, 11, 37, 1, .inl 0), (.bipush 9, 2, 0, 0, 0, .inl 9), (.aload_n 0, 1, 0, 0, 0, .inl 0)] 151 158 _ _ _ (by decide +kernel) ?_
      refine And.intro (lm_t0 hT) (Exists.intro _ (And.intro (gRm (lm_r37 hT)) ?_))
      show Go _ _ _ _ _ _ 158 [(0, rm 0)] [rm 0, vi 9, rm 37] (Y, (wL (wL (wL (wL (wL (wL (wL (wL (wL S 37 0 ((S.1 1 0).toInt64)) 37 1 (((wL S 37 0 ((S.1 1 0).toInt64)).1 1 3).toInt64)) 37 2 r1.toInt64) 37 3 r2.toInt64) 37 4 (((wL (wL (wL (wL S 37 0 ((S.1 1 0).toInt64)) 37 1 (((wL S 37 0 ((S.1 1 0).toInt64)).1 1 3).toInt64)) 37 2 r1.toInt64) 37 3 r2.toInt64).1 1 5).toInt64)) 37 5 (((wL (wL (wL (wL (wL S 37 0 ((S.1 1 0).toInt64)) 37 1 (((wL S 37 0 ((S.1 1 0).toInt64)).1 1 3).toInt64)) 37 2 r1.toInt64) 37 3 r2.toInt64) 37 4 (((wL (wL (wL (wL S 37 0 ((S.1 1 0).toInt64)) 37 1 (((wL S 37 0 ((S.1 1 0).toInt64)).1 1 3).toInt64)) 37 2 r1.toInt64) 37 3 r2.toInt64).1 1 5).toInt64)).1 1 4).toInt64)) 37 6 r3.toInt64) 37 7 r4.toInt64) 37 8 r5.toInt64, T)) _
      obtain ⟨r6, hr6, h⟩ := bind_el h
      refine go_callV (idx := 369) (z := 0) (M' := M11_tiredNow) (n := 0) (A := []) (v' := some (vi r6)) (μ' := (Y, (wL (wL (wL (wL (wL (wL (wL (wL (wL S 37 0 ((S.1 1 0).toInt64)) 37 1 (((wL S 37 0 ((S.1 1 0).toInt64)).1 1 3).toInt64)) 37 2 r1.toInt64) 37 3 r2.toInt64) 37 4 (((wL (wL (wL (wL S 37 0 ((S.1 1 0).toInt64)) 37 1 (((wL S 37 0 ((S.1 1 0).toInt64)).1 1 3).toInt64)) 37 2 r1.toInt64) 37 3 r2.toInt64).1 1 5).toInt64)) 37 5 (((wL (wL (wL (wL (wL S 37 0 ((S.1 1 0).toInt64)) 37 1 (((wL S 37 0 ((S.1 1 0).toInt64)).1 1 3).toInt64)) 37 2 r1.toInt64) 37 3 r2.toInt64) 37 4 (((wL (wL (wL (wL S 37 0 ((S.1 1 0).toInt64)) 37 1 (((wL S 37 0 ((S.1 1 0).toInt64)).1 1 3).toInt64)) 37 2 r1.toInt64) 37 3 r2.toInt64).1 1 5).toInt64)).1 1 4).toInt64)) 37 6 r3.toInt64) 37 7 r4.toInt64) 37 8 r5.toInt64, T))) (d' := 2) (mc' := 0) (ms' := 0) (kc' := 0) (ks' := 0) (ci := 11) (x := .inr (.inl 0)) (by decide +kernel) ml_11_369 rfl wv11_tiredNow rfl (by decide) rfl (lm_t0 hT) (ret11_tiredNow hT hr6) (by decide) rfl rfl (Nat.le_of_ble_eq_true rfl) rfl (jag rfl rfl) ?_
      show Go _ _ _ _ _ _ 161 [(0, rm 0)] [vi r6, vi 9, rm 37] (Y, (wL (wL (wL (wL (wL (wL (wL (wL (wL S 37 0 ((S.1 1 0).toInt64)) 37 1 (((wL S 37 0 ((S.1 1 0).toInt64)).1 1 3).toInt64)) 37 2 r1.toInt64) 37 3 r2.toInt64) 37 4 (((wL (wL (wL (wL S 37 0 ((S.1 1 0).toInt64)) 37 1 (((wL S 37 0 ((S.1 1 0).toInt64)).1 1 3).toInt64)) 37 2 r1.toInt64) 37 3 r2.toInt64).1 1 5).toInt64)) 37 5 (((wL (wL (wL (wL (wL S 37 0 ((S.1 1 0).toInt64)) 37 1 (((wL S 37 0 ((S.1 1 0).toInt64)).1 1 3).toInt64)) 37 2 r1.toInt64) 37 3 r2.toInt64) 37 4 (((wL (wL (wL (wL S 37 0 ((S.1 1 0).toInt64)) 37 1 (((wL S 37 0 ((S.1 1 0).toInt64)).1 1 3).toInt64)) 37 2 r1.toInt64) 37 3 r2.toInt64).1 1 5).toInt64)).1 1 4).toInt64)) 37 6 r3.toInt64) 37 7 r4.toInt64) 37 8 r5.toInt64, T)) _
      refine go_blk rfl [(.i2l, 1, 0, 0, 0, .inl 0), (.lastore, 1, 23, 0, 0, .inl 0)] 161 163 _ _ _ (by decide +kernel) ?_
      refine And.intro (lm_t37 hT) (Exists.intro _ (And.intro (lm_n37 hT) (And.intro (inb_in (by decide)) ?_)))
      show Go _ _ _ _ _ _ 163 [(0, rm 0)] [] (Y, (wL (wL (wL (wL (wL (wL (wL (wL (wL (wL S 37 0 ((S.1 1 0).toInt64)) 37 1 (((wL S 37 0 ((S.1 1 0).toInt64)).1 1 3).toInt64)) 37 2 r1.toInt64) 37 3 r2.toInt64) 37 4 (((wL (wL (wL (wL S 37 0 ((S.1 1 0).toInt64)) 37 1 (((wL S 37 0 ((S.1 1 0).toInt64)).1 1 3).toInt64)) 37 2 r1.toInt64) 37 3 r2.toInt64).1 1 5).toInt64)) 37 5 (((wL (wL (wL (wL (wL S 37 0 ((S.1 1 0).toInt64)) 37 1 (((wL S 37 0 ((S.1 1 0).toInt64)).1 1 3).toInt64)) 37 2 r1.toInt64) 37 3 r2.toInt64) 37 4 (((wL (wL (wL (wL S 37 0 ((S.1 1 0).toInt64)) 37 1 (((wL S 37 0 ((S.1 1 0).toInt64)).1 1 3).toInt64)) 37 2 r1.toInt64) 37 3 r2.toInt64).1 1 5).toInt64)).1 1 4).toInt64)) 37 6 r3.toInt64) 37 7 r4.toInt64) 37 8 r5.toInt64) 37 9 r6.toInt64, T)) _
      refine go_blk rfl [(.aload_n 0, 1, 0, 0, 0, .inl 0)] 163 164 _ _ _ (by decide +kernel) ?_
      show Go _ _ _ _ _ _ 164 [(0, rm 0)] [rm 0] (Y, (wL (wL (wL (wL (wL (wL (wL (wL (wL (wL S 37 0 ((S.1 1 0).toInt64)) 37 1 (((wL S 37 0 ((S.1 1 0).toInt64)).1 1 3).toInt64)) 37 2 r1.toInt64) 37 3 r2.toInt64) 37 4 (((wL (wL (wL (wL S 37 0 ((S.1 1 0).toInt64)) 37 1 (((wL S 37 0 ((S.1 1 0).toInt64)).1 1 3).toInt64)) 37 2 r1.toInt64) 37 3 r2.toInt64).1 1 5).toInt64)) 37 5 (((wL (wL (wL (wL (wL S 37 0 ((S.1 1 0).toInt64)) 37 1 (((wL S 37 0 ((S.1 1 0).toInt64)).1 1 3).toInt64)) 37 2 r1.toInt64) 37 3 r2.toInt64) 37 4 (((wL (wL (wL (wL S 37 0 ((S.1 1 0).toInt64)) 37 1 (((wL S 37 0 ((S.1 1 0).toInt64)).1 1 3).toInt64)) 37 2 r1.toInt64) 37 3 r2.toInt64).1 1 5).toInt64)).1 1 4).toInt64)) 37 6 r3.toInt64) 37 7 r4.toInt64) 37 8 r5.toInt64) 37 9 r6.toInt64, T)) _
      obtain ⟨r7, hr7, h⟩ := bind_el h
      refine go_callV (idx := 372) (z := 0) (M' := M11_wanted) (n := 0) (A := []) (v' := some (vl r7.2)) (μ' := (Y, (r7.1, T))) (d' := 4) (mc' := 0) (ms' := 0) (kc' := 0) (ks' := 0) (ci := 11) (x := .inr (.inl 0)) (by decide +kernel) ml_11_372 rfl wv11_wanted rfl (by decide) rfl (lm_t0 hT) (ret11_wanted hT hr7) (by decide) rfl rfl (Nat.le_of_ble_eq_true rfl) rfl (jag rfl rfl) ?_
      show Go _ _ _ _ _ _ 167 [(0, rm 0)] [vl r7.2] (Y, (r7.1, T)) _
      refine go_blk rfl [(.lstore_n 1, 1, 1, 0, 0, .inl 0), (.lload_n 1, 1, 1, 0, 0, .inl 0), (.lconst 1, 1, 0, 0, 0, .inr (.inl 1)), (.lcmp, 1, 0, 0, 0, .inl 0)] 167 171 _ _ _ (by decide +kernel) ?_
      show Go _ _ _ _ _ _ 171 [(1, vl r7.2), (0, rm 0)] [vi (lg_cmp r7.2 1)] (Y, (r7.1, T)) _
      refine ite_el h (fun q3 h => ?_) (fun q3 h => ?_)
      · refine go_if_ge (off := 7) (tgt := 178) (by decide +kernel) (by decide) (fun _ => ?_) (fun z => absurd q3 z)
        refine go_blk rfl [(.lload_n 1, 1, 1, 0, 0, .inl 0), (.ldc2_w 376, 3, 0, 0, 0, .inr (.inl 60)), (.lcmp, 1, 0, 0, 0, .inl 0)] 178 183 _ _ _ (by decide +kernel) ?_
        show Go _ _ _ _ _ _ 183 [(1, vl r7.2), (0, rm 0)] [vi (lg_cmp r7.2 60)] (Y, (r7.1, T)) _
        refine ite_el h (fun q4 h => ?_) (fun q4 h => ?_)
        · refine go_if_le (off := 8) (tgt := 191) (by decide +kernel) (by decide) (fun _ => ?_) (fun z => absurd q4 z)
          refine go_blk rfl [(.lload_n 1, 1, 1, 0, 0, .inl 0), (.l2i, 1, 0, 0, 0, .inl 0)] 191 193 _ _ _ (by decide +kernel) ?_
          show Go _ _ _ _ _ _ 193 [(1, vl r7.2), (0, rm 0)] [vi r7.2.toInt32] (Y, (r7.1, T)) _
          obtain ⟨rfl, rfl⟩ := Prod.mk.inj (Option.some.inj h)
          exact go_ireturn (by decide +kernel) rfl rfl ⟨rfl, rfl⟩
        · refine go_if_le (off := 8) (tgt := 191) (by decide +kernel) (by decide) (fun z => absurd z q4) (fun _ => ?_)
          refine go_blk rfl [(.bipush 60, 2, 0, 0, 0, .inl 60)] 186 188 _ _ _ (by decide +kernel) ?_
          show Go _ _ _ _ _ _ 188 [(1, vl r7.2), (0, rm 0)] [vi 60] (Y, (r7.1, T)) _
          refine go_goto (off := 5) (tgt := 193) (by decide +kernel) (by decide) ?_
          obtain ⟨rfl, rfl⟩ := Prod.mk.inj (Option.some.inj h)
          exact go_ireturn (by decide +kernel) rfl rfl ⟨rfl, rfl⟩
      · refine go_if_ge (off := 7) (tgt := 178) (by decide +kernel) (by decide) (fun z => absurd z q3) (fun _ => ?_)
        refine go_blk rfl [(.iconst 1, 1, 0, 0, 0, .inl 1)] 174 175 _ _ _ (by decide +kernel) ?_
        show Go _ _ _ _ _ _ 175 [(1, vl r7.2), (0, rm 0)] [vi 1] (Y, (r7.1, T)) _
        refine go_goto (off := 18) (tgt := 193) (by decide +kernel) (by decide) ?_
        obtain ⟨rfl, rfl⟩ := Prod.mk.inj (Option.some.inj h)
        exact go_ireturn (by decide +kernel) rfl rfl ⟨rfl, rfl⟩
  · refine go_icmp_eq (off := 8) (tgt := 13) (by decide +kernel) (by decide) (fun z => absurd z q1) (fun _ => ?_)
    refine go_blk rfl [(.aload_n 0, 1, 0, 0, 0, .inl 0), (.getfield 103, 3, 11, 40, 0, .inl 0)] 8 12 _ _ _ (by decide +kernel) ?_
    refine And.intro (lm_t0 hT) ?_
    show Go _ _ _ _ _ _ 12 [(0, rm 0)] [vi (S.1 0 40)] (Y, (S, T)) _
    obtain ⟨rfl, rfl⟩ := Prod.mk.inj (Option.some.inj h)
    exact go_ireturn (by decide +kernel) rfl rfl ⟨rfl, rfl⟩
def f11_placeIn (S : jS) (a0 : Int32) (a1 : Int32) : Option Int32 := (if inb a0 7 then (if ¬ (S.1 1 0) = 0 then some (irm ((S.1 2 a0.toNatClampNeg) + (a1 * (S.1 3 a0.toNatClampNeg))) (S.1 1 0)) else none) else none)
theorem ret11_placeIn {S : jS} {T : jT} {Y : jS × jT} {a0 : Int32} {a1 : Int32} {x : Int32} (hT : LayM T) (h : f11_placeIn S a0 a1 = some x) : Ret M11_placeIn 1 0 0 [rm 0, vi a0, vi a1] (Y, (S, T)) (some (vi x)) (Y, (S, T)) := by
  refine Ret.of (by decide +kernel) (Nat.le_of_ble_eq_true rfl) ?_
  unfold f11_placeIn at h
  show Go _ _ _ _ _ _ 0 [(0, rm 0), (1, vi a0), (2, vi a1)] [] (Y, (S, T)) _
  refine gd_el h (fun q1 h => ?_)
  refine gd_el h (fun q2 h => ?_)
  refine go_blk rfl [(.aload_n 0, 1, 0, 0, 0, .inl 0), (.getfield 13, 3, 11, 2, 1, .inl 0), (.iload_n 1, 1, 1, 0, 0, .inl 0), (.iaload, 1, 20, 0, 0, .inl 0), (.iload_n 2, 1, 2, 0, 0, .inl 0), (.aload_n 0, 1, 0, 0, 0, .inl 0), (.getfield 16, 3, 11, 3, 1, .inl 0), (.iload_n 1, 1, 1, 0, 0, .inl 0), (.iaload, 1, 20, 0, 0, .inl 0), (.imul, 1, 0, 0, 0, .inl 0), (.iadd, 1, 0, 0, 0, .inl 0), (.aload_n 0, 1, 0, 0, 0, .inl 0), (.getfield 9, 3, 11, 1, 1, .inl 0), (.iconst 0, 1, 0, 0, 0, .inl 0), (.iaload, 1, 20, 0, 0, .inl 0), (.irem, 1, 0, 0, 0, .inl 0)] 0 22 _ _ _ (by decide +kernel) ?_
  refine And.intro (lm_t0 hT) (Exists.intro _ (And.intro (gRm (lm_r2 hT)) ?_))
  refine And.intro (lm_t2 hT) (Exists.intro _ (And.intro (lm_n2 hT) (And.intro (inb_in q1) ?_)))
  refine And.intro (lm_t0 hT) (Exists.intro _ (And.intro (gRm (lm_r3 hT)) ?_))
  refine And.intro (lm_t3 hT) (Exists.intro _ (And.intro (lm_n3 hT) (And.intro (inb_in q1) ?_)))
  refine And.intro (lm_t0 hT) (Exists.intro _ (And.intro (gRm (lm_r1 hT)) ?_))
  refine And.intro (lm_t1 hT) (Exists.intro _ (And.intro (lm_n1 hT) (And.intro (inb_in (by decide)) ?_)))
  refine And.intro q2 ?_
  show Go _ _ _ _ _ _ 22 [(0, rm 0), (1, vi a0), (2, vi a1)] [vi (irm ((S.1 2 a0.toNatClampNeg) + (a1 * (S.1 3 a0.toNatClampNeg))) (S.1 1 0))] (Y, (S, T)) _
  obtain rfl := Option.some.inj h
  exact go_ireturn (by decide +kernel) rfl rfl ⟨rfl, rfl⟩
def f11_sitsOne_L2 (S : jS) (l1 : Int32) (l4 : Int32) : Nat → Int32 → Int32 → Int32 → Option (Int32 × Int32)
  | 0, _, _, _ => none
  | n + 1, l2, l3, l5 => (if (S.1 1 1) ≤ l5 then some (l2, l3) else Option.bind (f11_has (S.1 1 6) l4) (fun r1 => Option.bind (if r1 = 0 then some 0 else (if inb l4 7 then (if (S.1 39 l4.toNatClampNeg) = ((-1)) then Option.bind (f11_has ((S.1 1 7) &&& (l1 ^^^ ((-1)))) l5) (fun r2 => (if r2 = 0 then some 0 else some 1)) else some 0) else none)) (fun (y3 : Int32) => Option.bind (if y3 = 0 then some (l2, l3) else (if l2 = ((-1)) then some (l4, l5) else Option.bind (f11_timeOf S l4 l5) (fun r4 => Option.bind (f11_timeOf S l2 l3) (fun r5 => (if r5 ≤ r4 then some (l2, l3) else some (l4, l5)))))) (fun (y6 : Int32 × Int32) => f11_sitsOne_L2 S l1 l4 n y6.1 y6.2 (l5 + 1)))))
def f11_sitsOne_L1 (S : jS) (l1 : Int32) : Nat → Int32 → Int32 → Int32 → Option (Int32 × Int32)
  | 0, _, _, _ => none
  | n + 1, l2, l3, l4 => (if (S.1 1 2) ≤ l4 then some (l2, l3) else Option.bind (f11_sitsOne_L2 S l1 l4 jF l2 l3 0) (fun y7 => f11_sitsOne_L1 S l1 n y7.1 y7.2 (l4 + 1)))
def f11_sitsOne (S : jS) (a0 : Int32) : Option (jS × Int32) := Option.bind (f11_sitsOne_L1 S a0 jF ((-1)) ((-1)) 0) (fun y8 => Option.bind (if y8.1 = ((-1)) then some S else (if inb y8.1 7 then some (wI (wI S 39 y8.1.toNatClampNeg y8.2) 0 41 y8.2) else none)) (fun (y9 : jS) => (if y8.1 = ((-1)) then some (y9, 0) else some (y9, 1))))
theorem f11_sitsOne_L2_ok {T : jT} {Y : jS × jT} {S : jS} {l1 : Int32} {l4 : Int32} {Q : Option jV → jMem → Prop} (hT : LayM T) : ∀ (n : Nat) (l2 : Int32) (l3 : Int32) (l5 : Int32) (r : (Int32 × Int32)), f11_sitsOne_L2 S l1 l4 n l2 l3 l5 = some r → Go M11_sitsOne 2 0 0 0 0 123 [(0, rm 0), (1, vi l1), (2, vi r.1), (3, vi r.2), (4, vi l4)] [] (Y, (S, T)) Q → Go M11_sitsOne 2 0 0 0 0 21 [(0, rm 0), (1, vi l1), (2, vi l2), (3, vi l3), (4, vi l4), (5, vi l5)] [] (Y, (S, T)) Q := by
  intro n
  induction n with
  | zero => intro l2 l3 l5 r h k; exact absurd h (by intro z; cases z)
  | succ n ih =>
    intro l2 l3 l5 r h k
    rw [f11_sitsOne_L2] at h
    refine go_blk rfl [(.iload 5, 2, 5, 0, 0, .inl 0), (.aload_n 0, 1, 0, 0, 0, .inl 0), (.getfield 9, 3, 11, 1, 1, .inl 0), (.iconst 1, 1, 0, 0, 0, .inl 1), (.iaload, 1, 20, 0, 0, .inl 0)] 21 29 _ _ _ (by decide +kernel) ?_
    refine And.intro (lm_t0 hT) (Exists.intro _ (And.intro (gRm (lm_r1 hT)) ?_))
    refine And.intro (lm_t1 hT) (Exists.intro _ (And.intro (lm_n1 hT) (And.intro (inb_in (by decide)) ?_)))
    show Go _ _ _ _ _ _ 29 [(0, rm 0), (1, vi l1), (2, vi l2), (3, vi l3), (4, vi l4), (5, vi l5)] [vi (S.1 1 1), vi l5] (Y, (S, T)) _
    refine ite_el h (fun q2 h => ?_) (fun q2 h => ?_)
    · refine go_icmp_ge (off := 94) (tgt := 123) (by decide +kernel) (by decide) (fun _ => ?_) (fun z => absurd q2 z)
      obtain rfl := Option.some.inj h
      refine go_pick [0, 1, 2, 3, 4] rfl ?_
      exact k
    · refine go_icmp_ge (off := 94) (tgt := 123) (by decide +kernel) (by decide) (fun z => absurd z q2) (fun _ => ?_)
      refine go_blk rfl [(.aload_n 0, 1, 0, 0, 0, .inl 0), (.getfield 9, 3, 11, 1, 1, .inl 0), (.bipush 6, 2, 0, 0, 0, .inl 6), (.iaload, 1, 20, 0, 0, .inl 0), (.iload 4, 2, 4, 0, 0, .inl 0)] 32 41 _ _ _ (by decide +kernel) ?_
      refine And.intro (lm_t0 hT) (Exists.intro _ (And.intro (gRm (lm_r1 hT)) ?_))
      refine And.intro (lm_t1 hT) (Exists.intro _ (And.intro (lm_n1 hT) (And.intro (inb_in (by decide)) ?_)))
      show Go _ _ _ _ _ _ 41 [(0, rm 0), (1, vi l1), (2, vi l2), (3, vi l3), (4, vi l4), (5, vi l5)] [vi l4, vi (S.1 1 6)] (Y, (S, T)) _
      obtain ⟨r1, hr1, h⟩ := bind_el h
      refine go_callS (idx := 148) (z := 0) (M' := M11_has) (n := 2) (A := [vi (S.1 1 6), vi l4]) (v' := some (vi r1)) (μ' := (Y, (S, T))) (d' := 1) (mc' := 0) (ms' := 0) (kc' := 0) (ks' := 0) (by decide +kernel) ml_11_148 rfl ws11_has rfl (ret11_has hr1) (by decide) rfl rfl (Nat.le_of_ble_eq_true rfl) rfl (jag rfl rfl) ?_
      show Go _ _ _ _ _ _ 44 [(0, rm 0), (1, vi l1), (2, vi l2), (3, vi l3), (4, vi l4), (5, vi l5)] [vi r1] (Y, (S, T)) _
      obtain ⟨y3, hy3, h⟩ := bind_el h
      have key : Go M11_sitsOne 2 0 0 0 0 82 [(0, rm 0), (1, vi l1), (2, vi l2), (3, vi l3), (4, vi l4), (5, vi l5)] [vi y3] (Y, (S, T)) Q := by
        refine go_blk rfl [(.istore 6, 2, 6, 0, 0, .inl 0), (.iload 6, 2, 6, 0, 0, .inl 0)] 82 86 _ _ _ (by decide +kernel) ?_
        show Go _ _ _ _ _ _ 86 [(6, vi y3), (0, rm 0), (1, vi l1), (2, vi l2), (3, vi l3), (4, vi l4), (5, vi l5)] [vi y3] (Y, (S, T)) _
        obtain ⟨y6, hy6, h⟩ := bind_el h
        have key : Go M11_sitsOne 2 0 0 0 0 117 [(0, rm 0), (1, vi l1), (2, vi y6.1), (3, vi y6.2), (4, vi l4), (5, vi l5)] [] (Y, (S, T)) Q := by
          refine go_blk rfl [(.iinc 5 1, 3, 5, 0, 0, .inl 1)] 117 120 _ _ _ (by decide +kernel) ?_
          show Go _ _ _ _ _ _ 120 [(5, vi (l5 + 1)), (0, rm 0), (1, vi l1), (2, vi y6.1), (3, vi y6.2), (4, vi l4)] [] (Y, (S, T)) _
          refine go_goto (off := (-99)) (tgt := 21) (by decide +kernel) (by decide) ?_
          refine go_pick [1, 2, 3, 4, 5, 0] rfl ?_
          exact ih _ _ _ _ h k
        replace h := hy6
        refine ite_el h (fun q7 h => ?_) (fun q7 h => ?_)
        · refine go_if_eq (off := 31) (tgt := 117) (by decide +kernel) (by decide) (fun _ => ?_) (fun z => absurd q7 z)
          obtain rfl := Option.some.inj h
          refine go_pick [1, 2, 3, 4, 5, 6] rfl ?_
          exact key
        · refine go_if_eq (off := 31) (tgt := 117) (by decide +kernel) (by decide) (fun z => absurd z q7) (fun _ => ?_)
          refine go_blk rfl [(.iload_n 2, 1, 2, 0, 0, .inl 0), (.iconst (-1), 1, 0, 0, 0, .inl (-1))] 89 91 _ _ _ (by decide +kernel) ?_
          show Go _ _ _ _ _ _ 91 [(6, vi y3), (0, rm 0), (1, vi l1), (2, vi l2), (3, vi l3), (4, vi l4), (5, vi l5)] [vi ((-1)), vi l2] (Y, (S, T)) _
          refine ite_el h (fun q8 h => ?_) (fun q8 h => ?_)
          · refine go_icmp_eq (off := 20) (tgt := 111) (by decide +kernel) (by decide) (fun _ => ?_) (fun z => absurd q8 z)
            refine go_blk rfl [(.iload 4, 2, 4, 0, 0, .inl 0), (.istore_n 2, 1, 2, 0, 0, .inl 0), (.iload 5, 2, 5, 0, 0, .inl 0), (.istore_n 3, 1, 3, 0, 0, .inl 0)] 111 117 _ _ _ (by decide +kernel) ?_
            show Go _ _ _ _ _ _ 117 [(3, vi l5), (2, vi l4), (6, vi y3), (0, rm 0), (1, vi l1), (4, vi l4), (5, vi l5)] [] (Y, (S, T)) _
            obtain rfl := Option.some.inj h
            refine go_pick [3, 4, 1, 0, 5, 6] rfl ?_
            exact key
          · refine go_icmp_eq (off := 20) (tgt := 111) (by decide +kernel) (by decide) (fun z => absurd z q8) (fun _ => ?_)
            refine go_blk rfl [(.aload_n 0, 1, 0, 0, 0, .inl 0), (.iload 4, 2, 4, 0, 0, .inl 0), (.iload 5, 2, 5, 0, 0, .inl 0)] 94 99 _ _ _ (by decide +kernel) ?_
            show Go _ _ _ _ _ _ 99 [(6, vi y3), (0, rm 0), (1, vi l1), (2, vi l2), (3, vi l3), (4, vi l4), (5, vi l5)] [vi l5, vi l4, rm 0] (Y, (S, T)) _
            obtain ⟨r4, hr4, h⟩ := bind_el h
            refine go_callV (idx := 356) (z := 0) (M' := M11_timeOf) (n := 2) (A := [vi l4, vi l5]) (v' := some (vi r4)) (μ' := (Y, (S, T))) (d' := 1) (mc' := 0) (ms' := 0) (kc' := 0) (ks' := 0) (ci := 11) (x := .inr (.inl 0)) (by decide +kernel) ml_11_356 rfl wv11_timeOf rfl (by decide) rfl (lm_t0 hT) (ret11_timeOf hT hr4) (by decide) rfl rfl (Nat.le_of_ble_eq_true rfl) rfl (jag rfl rfl) ?_
            show Go _ _ _ _ _ _ 102 [(6, vi y3), (0, rm 0), (1, vi l1), (2, vi l2), (3, vi l3), (4, vi l4), (5, vi l5)] [vi r4] (Y, (S, T)) _
            refine go_blk rfl [(.aload_n 0, 1, 0, 0, 0, .inl 0), (.iload_n 2, 1, 2, 0, 0, .inl 0), (.iload_n 3, 1, 3, 0, 0, .inl 0)] 102 105 _ _ _ (by decide +kernel) ?_
            show Go _ _ _ _ _ _ 105 [(6, vi y3), (0, rm 0), (1, vi l1), (2, vi l2), (3, vi l3), (4, vi l4), (5, vi l5)] [vi l3, vi l2, rm 0, vi r4] (Y, (S, T)) _
            obtain ⟨r5, hr5, h⟩ := bind_el h
            refine go_callV (idx := 356) (z := 0) (M' := M11_timeOf) (n := 2) (A := [vi l2, vi l3]) (v' := some (vi r5)) (μ' := (Y, (S, T))) (d' := 1) (mc' := 0) (ms' := 0) (kc' := 0) (ks' := 0) (ci := 11) (x := .inr (.inl 0)) (by decide +kernel) ml_11_356 rfl wv11_timeOf rfl (by decide) rfl (lm_t0 hT) (ret11_timeOf hT hr5) (by decide) rfl rfl (Nat.le_of_ble_eq_true rfl) rfl (jag rfl rfl) ?_
            show Go _ _ _ _ _ _ 108 [(6, vi y3), (0, rm 0), (1, vi l1), (2, vi l2), (3, vi l3), (4, vi l4), (5, vi l5)] [vi r5, vi r4] (Y, (S, T)) _
            refine ite_el h (fun q9 h => ?_) (fun q9 h => ?_)
            · refine go_icmp_ge (off := 9) (tgt := 117) (by decide +kernel) (by decide) (fun _ => ?_) (fun z => absurd q9 z)
              obtain rfl := Option.some.inj h
              refine go_pick [1, 2, 3, 4, 5, 6] rfl ?_
              exact key
            · refine go_icmp_ge (off := 9) (tgt := 117) (by decide +kernel) (by decide) (fun z => absurd z q9) (fun _ => ?_)
              refine go_blk rfl [(.iload 4, 2, 4, 0, 0, .inl 0), (.istore_n 2, 1, 2, 0, 0, .inl 0), (.iload 5, 2, 5, 0, 0, .inl 0), (.istore_n 3, 1, 3, 0, 0, .inl 0)] 111 117 _ _ _ (by decide +kernel) ?_
              show Go _ _ _ _ _ _ 117 [(3, vi l5), (2, vi l4), (6, vi y3), (0, rm 0), (1, vi l1), (4, vi l4), (5, vi l5)] [] (Y, (S, T)) _
              obtain rfl := Option.some.inj h
              refine go_pick [3, 4, 1, 0, 5, 6] rfl ?_
              exact key
      replace h := hy3
      refine ite_el h (fun q3 h => ?_) (fun q3 h => ?_)
      · refine go_if_eq (off := 37) (tgt := 81) (by decide +kernel) (by decide) (fun _ => ?_) (fun z => absurd q3 z)
        refine go_blk rfl [(.iconst 0, 1, 0, 0, 0, .inl 0)] 81 82 _ _ _ (by decide +kernel) ?_
        show Go _ _ _ _ _ _ 82 [(0, rm 0), (1, vi l1), (2, vi l2), (3, vi l3), (4, vi l4), (5, vi l5)] [vi 0] (Y, (S, T)) _
        obtain rfl := Option.some.inj h
        refine go_pick [0, 1, 2, 3, 4, 5] rfl ?_
        exact key
      · refine go_if_eq (off := 37) (tgt := 81) (by decide +kernel) (by decide) (fun z => absurd z q3) (fun _ => ?_)
        refine gd_el h (fun q4 h => ?_)
        refine go_blk rfl [(.aload_n 0, 1, 0, 0, 0, .inl 0), (.getfield 100, 3, 11, 39, 1, .inl 0), (.iload 4, 2, 4, 0, 0, .inl 0), (.iaload, 1, 20, 0, 0, .inl 0), (.iconst (-1), 1, 0, 0, 0, .inl (-1))] 47 55 _ _ _ (by decide +kernel) ?_
        refine And.intro (lm_t0 hT) (Exists.intro _ (And.intro (gRm (lm_r39 hT)) ?_))
        refine And.intro (lm_t39 hT) (Exists.intro _ (And.intro (lm_n39 hT) (And.intro (inb_in q4) ?_)))
        show Go _ _ _ _ _ _ 55 [(0, rm 0), (1, vi l1), (2, vi l2), (3, vi l3), (4, vi l4), (5, vi l5)] [vi ((-1)), vi (S.1 39 l4.toNatClampNeg)] (Y, (S, T)) _
        refine ite_el h (fun q5 h => ?_) (fun q5 h => ?_)
        · refine go_icmp_ne (off := 26) (tgt := 81) (by decide +kernel) (by decide) (fun z => absurd q5 z) (fun _ => ?_)
          refine go_blk rfl [(.aload_n 0, 1, 0, 0, 0, .inl 0), (.getfield 9, 3, 11, 1, 1, .inl 0), (.bipush 7, 2, 0, 0, 0, .inl 7), (.iaload, 1, 20, 0, 0, .inl 0), (.iload_n 1, 1, 1, 0, 0, .inl 0), (.iconst (-1), 1, 0, 0, 0, .inl (-1)), (.ixor, 1, 0, 0, 0, .inl 0), (.iand, 1, 0, 0, 0, .inl 0), (.iload 5, 2, 5, 0, 0, .inl 0)] 58 71 _ _ _ (by decide +kernel) ?_
          refine And.intro (lm_t0 hT) (Exists.intro _ (And.intro (gRm (lm_r1 hT)) ?_))
          refine And.intro (lm_t1 hT) (Exists.intro _ (And.intro (lm_n1 hT) (And.intro (inb_in (by decide)) ?_)))
          show Go _ _ _ _ _ _ 71 [(0, rm 0), (1, vi l1), (2, vi l2), (3, vi l3), (4, vi l4), (5, vi l5)] [vi l5, vi ((S.1 1 7) &&& (l1 ^^^ ((-1))))] (Y, (S, T)) _
          obtain ⟨r2, hr2, h⟩ := bind_el h
          refine go_callS (idx := 148) (z := 0) (M' := M11_has) (n := 2) (A := [vi ((S.1 1 7) &&& (l1 ^^^ ((-1)))), vi l5]) (v' := some (vi r2)) (μ' := (Y, (S, T))) (d' := 1) (mc' := 0) (ms' := 0) (kc' := 0) (ks' := 0) (by decide +kernel) ml_11_148 rfl ws11_has rfl (ret11_has hr2) (by decide) rfl rfl (Nat.le_of_ble_eq_true rfl) rfl (jag rfl rfl) ?_
          show Go _ _ _ _ _ _ 74 [(0, rm 0), (1, vi l1), (2, vi l2), (3, vi l3), (4, vi l4), (5, vi l5)] [vi r2] (Y, (S, T)) _
          refine ite_el h (fun q6 h => ?_) (fun q6 h => ?_)
          · refine go_if_eq (off := 7) (tgt := 81) (by decide +kernel) (by decide) (fun _ => ?_) (fun z => absurd q6 z)
            refine go_blk rfl [(.iconst 0, 1, 0, 0, 0, .inl 0)] 81 82 _ _ _ (by decide +kernel) ?_
            show Go _ _ _ _ _ _ 82 [(0, rm 0), (1, vi l1), (2, vi l2), (3, vi l3), (4, vi l4), (5, vi l5)] [vi 0] (Y, (S, T)) _
            obtain rfl := Option.some.inj h
            refine go_pick [0, 1, 2, 3, 4, 5] rfl ?_
            exact key
          · refine go_if_eq (off := 7) (tgt := 81) (by decide +kernel) (by decide) (fun z => absurd z q6) (fun _ => ?_)
            refine go_blk rfl [(.iconst 1, 1, 0, 0, 0, .inl 1)] 77 78 _ _ _ (by decide +kernel) ?_
            show Go _ _ _ _ _ _ 78 [(0, rm 0), (1, vi l1), (2, vi l2), (3, vi l3), (4, vi l4), (5, vi l5)] [vi 1] (Y, (S, T)) _
            refine go_goto (off := 4) (tgt := 82) (by decide +kernel) (by decide) ?_
            obtain rfl := Option.some.inj h
            refine go_pick [0, 1, 2, 3, 4, 5] rfl ?_
            exact key
        · refine go_icmp_ne (off := 26) (tgt := 81) (by decide +kernel) (by decide) (fun _ => ?_) (fun z => absurd z q5)
          refine go_blk rfl [(.iconst 0, 1, 0, 0, 0, .inl 0)] 81 82 _ _ _ (by decide +kernel) ?_
          show Go _ _ _ _ _ _ 82 [(0, rm 0), (1, vi l1), (2, vi l2), (3, vi l3), (4, vi l4), (5, vi l5)] [vi 0] (Y, (S, T)) _
          obtain rfl := Option.some.inj h
          refine go_pick [0, 1, 2, 3, 4, 5] rfl ?_
          exact key
theorem f11_sitsOne_L1_ok {T : jT} {Y : jS × jT} {S : jS} {l1 : Int32} {Q : Option jV → jMem → Prop} (hT : LayM T) : ∀ (n : Nat) (l2 : Int32) (l3 : Int32) (l4 : Int32) (r : (Int32 × Int32)), f11_sitsOne_L1 S l1 n l2 l3 l4 = some r → Go M11_sitsOne 2 0 0 0 0 129 [(0, rm 0), (2, vi r.1), (3, vi r.2)] [] (Y, (S, T)) Q → Go M11_sitsOne 2 0 0 0 0 7 [(0, rm 0), (1, vi l1), (2, vi l2), (3, vi l3), (4, vi l4)] [] (Y, (S, T)) Q := by
  intro n
  induction n with
  | zero => intro l2 l3 l4 r h k; exact absurd h (by intro z; cases z)
  | succ n ih =>
    intro l2 l3 l4 r h k
    rw [f11_sitsOne_L1] at h
    refine go_blk rfl [(.iload 4, 2, 4, 0, 0, .inl 0), (.aload_n 0, 1, 0, 0, 0, .inl 0), (.getfield 9, 3, 11, 1, 1, .inl 0), (.iconst 2, 1, 0, 0, 0, .inl 2), (.iaload, 1, 20, 0, 0, .inl 0)] 7 15 _ _ _ (by decide +kernel) ?_
    refine And.intro (lm_t0 hT) (Exists.intro _ (And.intro (gRm (lm_r1 hT)) ?_))
    refine And.intro (lm_t1 hT) (Exists.intro _ (And.intro (lm_n1 hT) (And.intro (inb_in (by decide)) ?_)))
    show Go _ _ _ _ _ _ 15 [(0, rm 0), (1, vi l1), (2, vi l2), (3, vi l3), (4, vi l4)] [vi (S.1 1 2), vi l4] (Y, (S, T)) _
    refine ite_el h (fun q1 h => ?_) (fun q1 h => ?_)
    · refine go_icmp_ge (off := 114) (tgt := 129) (by decide +kernel) (by decide) (fun _ => ?_) (fun z => absurd q1 z)
      obtain rfl := Option.some.inj h
      refine go_pick [0, 2, 3] rfl ?_
      exact k
    · refine go_icmp_ge (off := 114) (tgt := 129) (by decide +kernel) (by decide) (fun z => absurd z q1) (fun _ => ?_)
      refine go_blk rfl [(.iconst 0, 1, 0, 0, 0, .inl 0), (.istore 5, 2, 5, 0, 0, .inl 0)] 18 21 _ _ _ (by decide +kernel) ?_
      show Go _ _ _ _ _ _ 21 [(5, vi 0), (0, rm 0), (1, vi l1), (2, vi l2), (3, vi l3), (4, vi l4)] [] (Y, (S, T)) _
      refine go_pick [1, 2, 3, 4, 5, 0] rfl ?_
      obtain ⟨y7, hy7, h⟩ := bind_el h
      refine f11_sitsOne_L2_ok hT _ _ _ _ _ hy7 ?_
      show Go _ _ _ _ _ _ 123 [(0, rm 0), (1, vi l1), (2, vi y7.1), (3, vi y7.2), (4, vi l4)] [] (Y, (S, T)) _
      refine go_blk rfl [(.iinc 4 1, 3, 4, 0, 0, .inl 1)] 123 126 _ _ _ (by decide +kernel) ?_
      show Go _ _ _ _ _ _ 126 [(4, vi (l4 + 1)), (0, rm 0), (1, vi l1), (2, vi y7.1), (3, vi y7.2)] [] (Y, (S, T)) _
      refine go_goto (off := (-119)) (tgt := 7) (by decide +kernel) (by decide) ?_
      refine go_pick [1, 2, 3, 4, 0] rfl ?_
      exact ih _ _ _ _ h k
theorem ret11_sitsOne {S : jS} {T : jT} {Y : jS × jT} {a0 : Int32} {S1 : jS} {x : Int32} (hT : LayM T) (h : f11_sitsOne S a0 = some (S1, x)) : Ret M11_sitsOne 2 0 0 [rm 0, vi a0] (Y, (S, T)) (some (vi x)) (Y, (S1, T)) := by
  refine Ret.of (by decide +kernel) (Nat.le_of_ble_eq_true rfl) ?_
  unfold f11_sitsOne at h
  show Go _ _ _ _ _ _ 0 [(0, rm 0), (1, vi a0)] [] (Y, (S, T)) _
  refine go_blk rfl [(.iconst (-1), 1, 0, 0, 0, .inl (-1)), (.istore_n 2, 1, 2, 0, 0, .inl 0), (.iconst (-1), 1, 0, 0, 0, .inl (-1)), (.istore_n 3, 1, 3, 0, 0, .inl 0), (.iconst 0, 1, 0, 0, 0, .inl 0), (.istore 4, 2, 4, 0, 0, .inl 0)] 0 7 _ _ _ (by decide +kernel) ?_
  show Go _ _ _ _ _ _ 7 [(4, vi 0), (3, vi ((-1))), (2, vi ((-1))), (0, rm 0), (1, vi a0)] [] (Y, (S, T)) _
  refine go_pick [3, 4, 2, 1, 0] rfl ?_
  obtain ⟨y8, hy8, h⟩ := bind_el h
  refine f11_sitsOne_L1_ok hT _ _ _ _ _ hy8 ?_
  show Go _ _ _ _ _ _ 129 [(0, rm 0), (2, vi y8.1), (3, vi y8.2)] [] (Y, (S, T)) _
  refine go_blk rfl [(.iload_n 2, 1, 2, 0, 0, .inl 0), (.iconst (-1), 1, 0, 0, 0, .inl (-1))] 129 131 _ _ _ (by decide +kernel) ?_
  show Go _ _ _ _ _ _ 131 [(0, rm 0), (2, vi y8.1), (3, vi y8.2)] [vi ((-1)), vi y8.1] (Y, (S, T)) _
  obtain ⟨y9, hy9, h⟩ := bind_el h
  have key : Go M11_sitsOne 2 0 0 0 0 146 [(2, vi y8.1)] [] (Y, (y9, T)) (eqQ (some (vi x)) (Y, (S1, T))) := by
    refine go_blk rfl [(.iload_n 2, 1, 2, 0, 0, .inl 0), (.iconst (-1), 1, 0, 0, 0, .inl (-1))] 146 148 _ _ _ (by decide +kernel) ?_
    show Go _ _ _ _ _ _ 148 [(2, vi y8.1)] [vi ((-1)), vi y8.1] (Y, (y9, T)) _
    refine ite_el h (fun q12 h => ?_) (fun q12 h => ?_)
    · refine go_icmp_eq (off := 7) (tgt := 155) (by decide +kernel) (by decide) (fun _ => ?_) (fun z => absurd q12 z)
      refine go_blk rfl [(.iconst 0, 1, 0, 0, 0, .inl 0)] 155 156 _ _ _ (by decide +kernel) ?_
      show Go _ _ _ _ _ _ 156 [(2, vi y8.1)] [vi 0] (Y, (y9, T)) _
      obtain ⟨rfl, rfl⟩ := Prod.mk.inj (Option.some.inj h)
      exact go_ireturn (by decide +kernel) rfl rfl ⟨rfl, rfl⟩
    · refine go_icmp_eq (off := 7) (tgt := 155) (by decide +kernel) (by decide) (fun z => absurd z q12) (fun _ => ?_)
      refine go_blk rfl [(.iconst 1, 1, 0, 0, 0, .inl 1)] 151 152 _ _ _ (by decide +kernel) ?_
      show Go _ _ _ _ _ _ 152 [(2, vi y8.1)] [vi 1] (Y, (y9, T)) _
      refine go_goto (off := 4) (tgt := 156) (by decide +kernel) (by decide) ?_
      obtain ⟨rfl, rfl⟩ := Prod.mk.inj (Option.some.inj h)
      exact go_ireturn (by decide +kernel) rfl rfl ⟨rfl, rfl⟩
  replace h := hy9
  refine ite_el h (fun q10 h => ?_) (fun q10 h => ?_)
  · refine go_icmp_eq (off := 15) (tgt := 146) (by decide +kernel) (by decide) (fun _ => ?_) (fun z => absurd q10 z)
    obtain rfl := Option.some.inj h
    refine go_pick [1] rfl ?_
    exact key
  · refine go_icmp_eq (off := 15) (tgt := 146) (by decide +kernel) (by decide) (fun z => absurd z q10) (fun _ => ?_)
    refine gd_el h (fun q11 h => ?_)
    refine go_blk rfl [(.aload_n 0, 1, 0, 0, 0, .inl 0), (.getfield 100, 3, 11, 39, 1, .inl 0), (.iload_n 2, 1, 2, 0, 0, .inl 0), (.iload_n 3, 1, 3, 0, 0, .inl 0), (.iastore, 1, 20, 0, 0, .inl 0)] 134 141 _ _ _ (by decide +kernel) ?_
    refine And.intro (lm_t0 hT) (Exists.intro _ (And.intro (gRm (lm_r39 hT)) ?_))
    refine And.intro (lm_t39 hT) (Exists.intro _ (And.intro (lm_n39 hT) (And.intro (inb_in q11) ?_)))
    show Go _ _ _ _ _ _ 141 [(0, rm 0), (2, vi y8.1), (3, vi y8.2)] [] (Y, (wI S 39 y8.1.toNatClampNeg y8.2, T)) _
    refine go_blk rfl [(.aload_n 0, 1, 0, 0, 0, .inl 0), (.iload_n 3, 1, 3, 0, 0, .inl 0), (.putfield 378, 3, 11, 41, 0, .inl 0)] 141 146 _ _ _ (by decide +kernel) ?_
    refine And.intro (lm_t0 hT) (And.intro trivial ?_)
    show Go _ _ _ _ _ _ 146 [(0, rm 0), (2, vi y8.1), (3, vi y8.2)] [] (Y, (wI (wI S 39 y8.1.toNatClampNeg y8.2) 0 41 y8.2, T)) _
    obtain rfl := Option.some.inj h
    refine go_pick [1] rfl ?_
    exact key
