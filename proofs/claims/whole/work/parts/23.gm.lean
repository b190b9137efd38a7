def f11_rests_L2 (S : jS) (l4 : Int32) (l8 : Int32) : Nat → Int32 → Int32 → Int32 → Int32 → Option (Int32 × Int32 × Int32)
  | 0, _, _, _, _ => none
  | n + 1, l5, l6, l7, l9 => (if 5 < l9 then some (l5, l6, l7) else Option.bind (f11_isRest S l8 l9) (fun r6 => Option.bind (if r6 = 0 then some (l5, l6, l7) else some (l5 + 1, ((if l5 = 0 then l8 else l6) : Int32), ((if l5 = 0 then l9 else l7) : Int32))) (fun (y7 : Int32 × Int32 × Int32) => f11_rests_L2 S l4 l8 n y7.1 y7.2.1 y7.2.2 (l9 + 1))))
def f11_rests_L1 (S : jS) (l4 : Int32) : Nat → Int32 → Int32 → Int32 → Int32 → Option (Int32 × Int32 × Int32)
  | 0, _, _, _, _ => none
  | n + 1, l5, l6, l7, l8 => (if 5 < l8 then some (l5, l6, l7) else Option.bind (f11_rests_L2 S l4 l8 jF l5 l6 l7 0) (fun y8 => f11_rests_L1 S l4 n y8.1 y8.2.1 y8.2.2 (l8 + 1)))
def f11_rests (S : jS) (a0 : Int32) (a1 : Int32) (a2 : Int32) (a3 : Int32) : Option (jS × Int32) := Option.bind (f11_isStill S a0) (fun r1 => (if r1 = 0 then some (S, (-1)) else Option.bind (f11_isStill S a1) (fun r2 => (if r2 = 0 then some (S, (-1)) else (if a0 = a1 then some (S, (-1)) else Option.bind (f11_in a2.toInt64 1 20) (fun r3 => (if r3 = 0 then some (S, (-1)) else Option.bind (f11_in a3.toInt64 0 2) (fun r4 => (if r4 = 0 then some (S, (-1)) else Option.bind (f11_laysPaces S a0 a1 a2) (fun r5 => Option.bind (f11_rests_L1 r5.1 a3 jF 0 ((-2)) ((-2)) 0) (fun y9 => (if a3 = 0 then some (r5.1, y9.1) else (if a3 = 1 then some (r5.1, y9.2.1) else some (r5.1, y9.2.2))))))))))))))
theorem f11_rests_L2_ok {T : jT} {Y : jS × jT} {S : jS} {l4 : Int32} {l8 : Int32} {Q : Option jV → jMem → Prop} (hT : LayM T) : ∀ (n : Nat) (l5 : Int32) (l6 : Int32) (l7 : Int32) (l9 : Int32) (r : (Int32 × Int32 × Int32)), f11_rests_L2 S l4 l8 n l5 l6 l7 l9 = some r → Go M11_rests 8 0 0 0 0 132 [(0, rm 0), (4, vi l4), (5, vi r.1), (6, vi r.2.1), (7, vi r.2.2), (8, vi l8)] [] (Y, (S, T)) Q → Go M11_rests 8 0 0 0 0 78 [(0, rm 0), (4, vi l4), (5, vi l5), (6, vi l6), (7, vi l7), (8, vi l8), (9, vi l9)] [] (Y, (S, T)) Q := by
  intro n
  induction n with
  | zero => intro l5 l6 l7 l9 r h k; exact absurd h (by intro z; cases z)
  | succ n ih =>
    intro l5 l6 l7 l9 r h k
    rw [f11_rests_L2] at h
    refine go_blk rfl [(.iload 9, 2, 9, 0, 0, .inl 0), (.iconst 5, 1, 0, 0, 0, .inl 5)] 78 81 _ _ _ (by decide +kernel) ?_
    show Go _ _ _ _ _ _ 81 [(0, rm 0), (4, vi l4), (5, vi l5), (6, vi l6), (7, vi l7), (8, vi l8), (9, vi l9)] [vi 5, vi l9] (Y, (S, T)) _
    refine ite_el h (fun q7 h => ?_) (fun q7 h => ?_)
    · refine go_icmp_gt (off := 51) (tgt := 132) (by decide +kernel) (by decide) (fun _ => ?_) (fun z => absurd q7 z)
      obtain rfl := Option.some.inj h
      refine go_pick [0, 1, 2, 3, 4, 5] rfl ?_
      exact k
    · refine go_icmp_gt (off := 51) (tgt := 132) (by decide +kernel) (by decide) (fun z => absurd z q7) (fun _ => ?_)
      refine go_blk rfl [(.aload_n 0, 1, 0, 0, 0, .inl 0), (.iload 8, 2, 8, 0, 0, .inl 0), (.iload 9, 2, 9, 0, 0, .inl 0)] 84 89 _ _ _ (by decide +kernel) ?_
      show Go _ _ _ _ _ _ 89 [(0, rm 0), (4, vi l4), (5, vi l5), (6, vi l6), (7, vi l7), (8, vi l8), (9, vi l9)] [vi l9, vi l8, rm 0] (Y, (S, T)) _
      obtain ⟨r6, hr6, h⟩ := bind_el h
      refine go_callV (idx := 487) (z := 0) (M' := M11_isRest) (n := 2) (A := [vi l8, vi l9]) (v' := some (vi r6)) (μ' := (Y, (S, T))) (d' := 1) (mc' := 0) (ms' := 0) (kc' := 0) (ks' := 0) (ci := 11) (x := .inr (.inl 0)) (by decide +kernel) ml_11_487 rfl wv11_isRest rfl (by decide) rfl (lm_t0 hT) (ret11_isRest hT hr6) (by decide) rfl rfl (Nat.le_of_ble_eq_true rfl) rfl (jag rfl rfl) ?_
      show Go _ _ _ _ _ _ 92 [(0, rm 0), (4, vi l4), (5, vi l5), (6, vi l6), (7, vi l7), (8, vi l8), (9, vi l9)] [vi r6] (Y, (S, T)) _
      obtain ⟨y7, hy7, h⟩ := bind_el h
      have key : Go M11_rests 8 0 0 0 0 126 [(0, rm 0), (4, vi l4), (5, vi y7.1), (6, vi y7.2.1), (7, vi y7.2.2), (8, vi l8), (9, vi l9)] [] (Y, (S, T)) Q := by
        refine go_blk rfl [(.iinc 9 1, 3, 9, 0, 0, .inl 1)] 126 129 _ _ _ (by decide +kernel) ?_
        show Go _ _ _ _ _ _ 129 [(9, vi (l9 + 1)), (0, rm 0), (4, vi l4), (5, vi y7.1), (6, vi y7.2.1), (7, vi y7.2.2), (8, vi l8)] [] (Y, (S, T)) _
        refine go_goto (off := (-51)) (tgt := 78) (by decide +kernel) (by decide) ?_
        refine go_pick [1, 2, 3, 4, 5, 6, 0] rfl ?_
        exact ih _ _ _ _ _ h k
      replace h := hy7
      refine ite_el h (fun q8 h => ?_) (fun q8 h => ?_)
      · refine go_if_eq (off := 34) (tgt := 126) (by decide +kernel) (by decide) (fun _ => ?_) (fun z => absurd q8 z)
        obtain rfl := Option.some.inj h
        refine go_pick [0, 1, 2, 3, 4, 5, 6] rfl ?_
        exact key
      · refine go_if_eq (off := 34) (tgt := 126) (by decide +kernel) (by decide) (fun z => absurd z q8) (fun _ => ?_)
        refine go_blk rfl [(.iload 5, 2, 5, 0, 0, .inl 0)] 95 97 _ _ _ (by decide +kernel) ?_
        show Go _ _ _ _ _ _ 97 [(0, rm 0), (4, vi l4), (5, vi l5), (6, vi l6), (7, vi l7), (8, vi l8), (9, vi l9)] [vi l5] (Y, (S, T)) _
        have key : ∀ z0 : Int32, z0 = ((if l5 = 0 then l8 else l6) : Int32) → Go M11_rests 8 0 0 0 0 107 [(0, rm 0), (4, vi l4), (5, vi l5), (7, vi l7), (8, vi l8), (9, vi l9)] [vi z0] (Y, (S, T)) Q := by
          intro z0 ez0
          subst ez0
          refine go_blk rfl [(.istore 6, 2, 6, 0, 0, .inl 0), (.iload 5, 2, 5, 0, 0, .inl 0)] 107 111 _ _ _ (by decide +kernel) ?_
          show Go _ _ _ _ _ _ 111 [(6, vi (((if l5 = 0 then l8 else l6) : Int32))), (0, rm 0), (4, vi l4), (5, vi l5), (7, vi l7), (8, vi l8), (9, vi l9)] [vi l5] (Y, (S, T)) _
          have key : ∀ z0 : Int32, z0 = ((if l5 = 0 then l9 else l7) : Int32) → Go M11_rests 8 0 0 0 0 121 [(0, rm 0), (4, vi l4), (5, vi l5), (6, vi (((if l5 = 0 then l8 else l6) : Int32))), (8, vi l8), (9, vi l9)] [vi z0] (Y, (S, T)) Q := by
            intro z0 ez0
            subst ez0
            refine go_blk rfl [(.istore 7, 2, 7, 0, 0, .inl 0), (.iinc 5 1, 3, 5, 0, 0, .inl 1)] 121 126 _ _ _ (by decide +kernel) ?_
            show Go _ _ _ _ _ _ 126 [(5, vi (l5 + 1)), (7, vi (((if l5 = 0 then l9 else l7) : Int32))), (0, rm 0), (4, vi l4), (6, vi (((if l5 = 0 then l8 else l6) : Int32))), (8, vi l8), (9, vi l9)] [] (Y, (S, T)) _
            obtain rfl := Option.some.inj h
            refine go_pick [2, 3, 0, 4, 1, 5, 6] rfl ?_
            exact key
          clear h
          by_cases q10 : l5 = 0
          · refine go_if_ne (off := 8) (tgt := 119) (by decide +kernel) (by decide) (fun z => absurd q10 z) (fun _ => ?_)
            refine go_blk rfl [(.iload 9, 2, 9, 0, 0, .inl 0)] 114 116 _ _ _ (by decide +kernel) ?_
            show Go _ _ _ _ _ _ 116 [(6, vi (((if l5 = 0 then l8 else l6) : Int32))), (0, rm 0), (4, vi l4), (5, vi l5), (7, vi l7), (8, vi l8), (9, vi l9)] [vi l9] (Y, (S, T)) _
            refine go_goto (off := 5) (tgt := 121) (by decide +kernel) (by decide) ?_
            refine go_pick [1, 2, 3, 0, 5, 6] rfl ?_; exact key _ (by rw [if_pos q10])
          · refine go_if_ne (off := 8) (tgt := 119) (by decide +kernel) (by decide) (fun _ => ?_) (fun z => absurd z q10)
            refine go_blk rfl [(.iload 7, 2, 7, 0, 0, .inl 0)] 119 121 _ _ _ (by decide +kernel) ?_
            show Go _ _ _ _ _ _ 121 [(6, vi (((if l5 = 0 then l8 else l6) : Int32))), (0, rm 0), (4, vi l4), (5, vi l5), (7, vi l7), (8, vi l8), (9, vi l9)] [vi l7] (Y, (S, T)) _
            refine go_pick [1, 2, 3, 0, 5, 6] rfl ?_; exact key _ (by rw [if_neg q10])
        clear h
        by_cases q9 : l5 = 0
        · refine go_if_ne (off := 8) (tgt := 105) (by decide +kernel) (by decide) (fun z => absurd q9 z) (fun _ => ?_)
          refine go_blk rfl [(.iload 8, 2, 8, 0, 0, .inl 0)] 100 102 _ _ _ (by decide +kernel) ?_
          show Go _ _ _ _ _ _ 102 [(0, rm 0), (4, vi l4), (5, vi l5), (6, vi l6), (7, vi l7), (8, vi l8), (9, vi l9)] [vi l8] (Y, (S, T)) _
          refine go_goto (off := 5) (tgt := 107) (by decide +kernel) (by decide) ?_
          refine go_pick [0, 1, 2, 4, 5, 6] rfl ?_; exact key _ (by rw [if_pos q9])
        · refine go_if_ne (off := 8) (tgt := 105) (by decide +kernel) (by decide) (fun _ => ?_) (fun z => absurd z q9)
          refine go_blk rfl [(.iload 6, 2, 6, 0, 0, .inl 0)] 105 107 _ _ _ (by decide +kernel) ?_
          show Go _ _ _ _ _ _ 107 [(0, rm 0), (4, vi l4), (5, vi l5), (6, vi l6), (7, vi l7), (8, vi l8), (9, vi l9)] [vi l6] (Y, (S, T)) _
          refine go_pick [0, 1, 2, 4, 5, 6] rfl ?_; exact key _ (by rw [if_neg q9])
theorem f11_rests_L1_ok {T : jT} {Y : jS × jT} {S : jS} {l4 : Int32} {Q : Option jV → jMem → Prop} (hT : LayM T) : ∀ (n : Nat) (l5 : Int32) (l6 : Int32) (l7 : Int32) (l8 : Int32) (r : (Int32 × Int32 × Int32)), f11_rests_L1 S l4 n l5 l6 l7 l8 = some r → Go M11_rests 8 0 0 0 0 138 [(4, vi l4), (5, vi r.1), (6, vi r.2.1), (7, vi r.2.2)] [] (Y, (S, T)) Q → Go M11_rests 8 0 0 0 0 69 [(0, rm 0), (4, vi l4), (5, vi l5), (6, vi l6), (7, vi l7), (8, vi l8)] [] (Y, (S, T)) Q := by
  intro n
  induction n with
  | zero => intro l5 l6 l7 l8 r h k; exact absurd h (by intro z; cases z)
  | succ n ih =>
    intro l5 l6 l7 l8 r h k
    rw [f11_rests_L1] at h
    refine go_blk rfl [(.iload 8, 2, 8, 0, 0, .inl 0), (.iconst 5, 1, 0, 0, 0, .inl 5)] 69 72 _ _ _ (by decide +kernel) ?_
    show Go _ _ _ _ _ _ 72 [(0, rm 0), (4, vi l4), (5, vi l5), (6, vi l6), (7, vi l7), (8, vi l8)] [vi 5, vi l8] (Y, (S, T)) _
    refine ite_el h (fun q6 h => ?_) (fun q6 h => ?_)
    · refine go_icmp_gt (off := 66) (tgt := 138) (by decide +kernel) (by decide) (fun _ => ?_) (fun z => absurd q6 z)
      obtain rfl := Option.some.inj h
      refine go_pick [1, 2, 3, 4] rfl ?_
      exact k
    · refine go_icmp_gt (off := 66) (tgt := 138) (by decide +kernel) (by decide) (fun z => absurd z q6) (fun _ => ?_)
      refine go_blk rfl [(.iconst 0, 1, 0, 0, 0, .inl 0), (.istore 9, 2, 9, 0, 0, .inl 0)] 75 78 _ _ _ (by decide +kernel) ?_
      show Go _ _ _ _ _ _ 78 [(9, vi 0), (0, rm 0), (4, vi l4), (5, vi l5), (6, vi l6), (7, vi l7), (8, vi l8)] [] (Y, (S, T)) _
      refine go_pick [1, 2, 3, 4, 5, 6, 0] rfl ?_
      obtain ⟨y8, hy8, h⟩ := bind_el h
      refine f11_rests_L2_ok hT _ _ _ _ _ _ hy8 ?_
      show Go _ _ _ _ _ _ 132 [(0, rm 0), (4, vi l4), (5, vi y8.1), (6, vi y8.2.1), (7, vi y8.2.2), (8, vi l8)] [] (Y, (S, T)) _
      refine go_blk rfl [(.iinc 8 1, 3, 8, 0, 0, .inl 1)] 132 135 _ _ _ (by decide +kernel) ?_
      show Go _ _ _ _ _ _ 135 [(8, vi (l8 + 1)), (0, rm 0), (4, vi l4), (5, vi y8.1), (6, vi y8.2.1), (7, vi y8.2.2)] [] (Y, (S, T)) _
      refine go_goto (off := (-66)) (tgt := 69) (by decide +kernel) (by decide) ?_
      refine go_pick [1, 2, 3, 4, 5, 0] rfl ?_
      exact ih _ _ _ _ _ h k
theorem ret11_rests {S : jS} {T : jT} {Y : jS × jT} {a0 : Int32} {a1 : Int32} {a2 : Int32} {a3 : Int32} {S1 : jS} {x : Int32} (hT : LayM T) (h : f11_rests S a0 a1 a2 a3 = some (S1, x)) : Ret M11_rests 8 0 0 [rm 0, vi a0, vi a1, vi a2, vi a3] (Y, (S, T)) (some (vi x)) (Y, (S1, T)) := by
  refine Ret.of (by decide +kernel) (Nat.le_of_ble_eq_true rfl) ?_
  unfold f11_rests at h
  show Go _ _ _ _ _ _ 0 [(0, rm 0), (1, vi a0), (2, vi a1), (3, vi a2), (4, vi a3)] [] (Y, (S, T)) _
  refine go_blk rfl [(.aload_n 0, 1, 0, 0, 0, .inl 0), (.iload_n 1, 1, 1, 0, 0, .inl 0)] 0 2 _ _ _ (by decide +kernel) ?_
  show Go _ _ _ _ _ _ 2 [(0, rm 0), (1, vi a0), (2, vi a1), (3, vi a2), (4, vi a3)] [vi a0, rm 0] (Y, (S, T)) _
  obtain ⟨r1, hr1, h⟩ := bind_el h
  refine go_callV (idx := 426) (z := 0) (M' := M11_isStill) (n := 1) (A := [vi a0]) (v' := some (vi r1)) (μ' := (Y, (S, T))) (d' := 3) (mc' := 0) (ms' := 0) (kc' := 0) (ks' := 0) (ci := 11) (x := .inr (.inl 0)) (by decide +kernel) ml_11_426 rfl wv11_isStill rfl (by decide) rfl (lm_t0 hT) (ret11_isStill hT hr1) (by decide) rfl rfl (Nat.le_of_ble_eq_true rfl) rfl (jag rfl rfl) ?_
  show Go _ _ _ _ _ _ 5 [(0, rm 0), (1, vi a0), (2, vi a1), (3, vi a2), (4, vi a3)] [vi r1] (Y, (S, T)) _
  refine ite_el h (fun q1 h => ?_) (fun q1 h => ?_)
  · refine go_if_eq (off := 41) (tgt := 46) (by decide +kernel) (by decide) (fun _ => ?_) (fun z => absurd q1 z)
    refine go_blk rfl [(.iconst (-1), 1, 0, 0, 0, .inl (-1))] 46 47 _ _ _ (by decide +kernel) ?_
    show Go _ _ _ _ _ _ 47 [(0, rm 0), (1, vi a0), (2, vi a1), (3, vi a2), (4, vi a3)] [vi ((-1))] (Y, (S, T)) _
    obtain ⟨rfl, rfl⟩ := Prod.mk.inj (Option.some.inj h)
    exact go_ireturn (by decide +kernel) rfl rfl ⟨rfl, rfl⟩
  · refine go_if_eq (off := 41) (tgt := 46) (by decide +kernel) (by decide) (fun z => absurd z q1) (fun _ => ?_)
    refine go_blk rfl [(.aload_n 0, 1, 0, 0, 0, .inl 0), (.iload_n 2, 1, 2, 0, 0, .inl 0)] 8 10 _ _ _ (by decide +kernel) ?_
    show Go _ _ _ _ _ _ 10 [(0, rm 0), (1, vi a0), (2, vi a1), (3, vi a2), (4, vi a3)] [vi a1, rm 0] (Y, (S, T)) _
    obtain ⟨r2, hr2, h⟩ := bind_el h
    refine go_callV (idx := 426) (z := 0) (M' := M11_isStill) (n := 1) (A := [vi a1]) (v' := some (vi r2)) (μ' := (Y, (S, T))) (d' := 3) (mc' := 0) (ms' := 0) (kc' := 0) (ks' := 0) (ci := 11) (x := .inr (.inl 0)) (by decide +kernel) ml_11_426 rfl wv11_isStill rfl (by decide) rfl (lm_t0 hT) (ret11_isStill hT hr2) (by decide) rfl rfl (Nat.le_of_ble_eq_true rfl) rfl (jag rfl rfl) ?_
    show Go _ _ _ _ _ _ 13 [(0, rm 0), (1, vi a0), (2, vi a1), (3, vi a2), (4, vi a3)] [vi r2] (Y, (S, T)) _
    refine ite_el h (fun q2 h => ?_) (fun q2 h => ?_)
    · refine go_if_eq (off := 33) (tgt := 46) (by decide +kernel) (by decide) (fun _ => ?_) (fun z => absurd q2 z)
      refine go_blk rfl [(.iconst (-1), 1, 0, 0, 0, .inl (-1))] 46 47 _ _ _ (by decide +kernel) ?_
      show Go _ _ _ _ _ _ 47 [(0, rm 0), (1, vi a0), (2, vi a1), (3, vi a2), (4, vi a3)] [vi ((-1))] (Y, (S, T)) _
      obtain ⟨rfl, rfl⟩ := Prod.mk.inj (Option.some.inj h)
      exact go_ireturn (by decide +kernel) rfl rfl ⟨rfl, rfl⟩
    · refine go_if_eq (off := 33) (tgt := 46) (by decide +kernel) (by decide) (fun z => absurd z q2) (fun _ => ?_)
      refine go_blk rfl [(.iload_n 1, 1, 1, 0, 0, .inl 0), (.iload_n 2, 1, 2, 0, 0, .inl 0)] 16 18 _ _ _ (by decide +kernel) ?_
      show Go _ _ _ _ _ _ 18 [(0, rm 0), (1, vi a0), (2, vi a1), (3, vi a2), (4, vi a3)] [vi a1, vi a0] (Y, (S, T)) _
      refine ite_el h (fun q3 h => ?_) (fun q3 h => ?_)
      · refine go_icmp_eq (off := 28) (tgt := 46) (by decide +kernel) (by decide) (fun _ => ?_) (fun z => absurd q3 z)
        refine go_blk rfl [(.iconst (-1), 1, 0, 0, 0, .inl (-1))] 46 47 _ _ _ (by decide +kernel) ?_
        show Go _ _ _ _ _ _ 47 [(0, rm 0), (1, vi a0), (2, vi a1), (3, vi a2), (4, vi a3)] [vi ((-1))] (Y, (S, T)) _
        obtain ⟨rfl, rfl⟩ := Prod.mk.inj (Option.some.inj h)
        exact go_ireturn (by decide +kernel) rfl rfl ⟨rfl, rfl⟩
      · refine go_icmp_eq (off := 28) (tgt := 46) (by decide +kernel) (by decide) (fun z => absurd z q3) (fun _ => ?_)
        refine go_blk rfl [(.iload_n 3, 1, 3, 0, 0, .inl 0), (.i2l, 1, 0, 0, 0, .inl 0), (.lconst 1, 1, 0, 0, 0, .inr (.inl 1)), (.ldc2_w 478, 3, 0, 0, 0, .inr (.inl 20))] 21 27 _ _ _ (by decide +kernel) ?_
        show Go _ _ _ _ _ _ 27 [(0, rm 0), (1, vi a0), (2, vi a1), (3, vi a2), (4, vi a3)] [vl 20, vl 1, vl a2.toInt64] (Y, (S, T)) _
        obtain ⟨r3, hr3, h⟩ := bind_el h
        refine go_callS (idx := 140) (z := 0) (M' := M11_in) (n := 3) (A := [vl a2.toInt64, vl 1, vl 20]) (v' := some (vi r3)) (μ' := (Y, (S, T))) (d' := 1) (mc' := 0) (ms' := 0) (kc' := 0) (ks' := 0) (by decide +kernel) ml_11_140 rfl ws11_in rfl (ret11_in hr3) (by decide) rfl rfl (Nat.le_of_ble_eq_true rfl) rfl (jag rfl rfl) ?_
        show Go _ _ _ _ _ _ 30 [(0, rm 0), (1, vi a0), (2, vi a1), (3, vi a2), (4, vi a3)] [vi r3] (Y, (S, T)) _
        refine ite_el h (fun q4 h => ?_) (fun q4 h => ?_)
        · refine go_if_eq (off := 16) (tgt := 46) (by decide +kernel) (by decide) (fun _ => ?_) (fun z => absurd q4 z)
          refine go_blk rfl [(.iconst (-1), 1, 0, 0, 0, .inl (-1))] 46 47 _ _ _ (by decide +kernel) ?_
          show Go _ _ _ _ _ _ 47 [(0, rm 0), (1, vi a0), (2, vi a1), (3, vi a2), (4, vi a3)] [vi ((-1))] (Y, (S, T)) _
          obtain ⟨rfl, rfl⟩ := Prod.mk.inj (Option.some.inj h)
          exact go_ireturn (by decide +kernel) rfl rfl ⟨rfl, rfl⟩
        · refine go_if_eq (off := 16) (tgt := 46) (by decide +kernel) (by decide) (fun z => absurd z q4) (fun _ => ?_)
          refine go_blk rfl [(.iload 4, 2, 4, 0, 0, .inl 0), (.i2l, 1, 0, 0, 0, .inl 0), (.lconst 0, 1, 0, 0, 0, .inr (.inl 0)), (.ldc2_w 434, 3, 0, 0, 0, .inr (.inl 2))] 33 40 _ _ _ (by decide +kernel) ?_
          show Go _ _ _ _ _ _ 40 [(0, rm 0), (1, vi a0), (2, vi a1), (3, vi a2), (4, vi a3)] [vl 2, vl 0, vl a3.toInt64] (Y, (S, T)) _
          obtain ⟨r4, hr4, h⟩ := bind_el h
          refine go_callS (idx := 140) (z := 0) (M' := M11_in) (n := 3) (A := [vl a3.toInt64, vl 0, vl 2]) (v' := some (vi r4)) (μ' := (Y, (S, T))) (d' := 1) (mc' := 0) (ms' := 0) (kc' := 0) (ks' := 0) (by decide +kernel) ml_11_140 rfl ws11_in rfl (ret11_in hr4) (by decide) rfl rfl (Nat.le_of_ble_eq_true rfl) rfl (jag rfl rfl) ?_
          show Go _ _ _ _ _ _ 43 [(0, rm 0), (1, vi a0), (2, vi a1), (3, vi a2), (4, vi a3)] [vi r4] (Y, (S, T)) _
          refine ite_el h (fun q5 h => ?_) (fun q5 h => ?_)
          · refine go_if_ne (off := 5) (tgt := 48) (by decide +kernel) (by decide) (fun z => absurd q5 z) (fun _ => ?_)
            refine go_blk rfl [(.iconst (-1), 1, 0, 0, 0, .inl (-1))] 46 47 _ _ _ (by decide +kernel) ?_
            show Go _ _ _ _ _ _ 47 [(0, rm 0), (1, vi a0), (2, vi a1), (3, vi a2), (4, vi a3)] [vi ((-1))] (Y, (S, T)) _
            obtain ⟨rfl, rfl⟩ := Prod.mk.inj (Option.some.inj h)
            exact go_ireturn (by decide +kernel) rfl rfl ⟨rfl, rfl⟩
          · refine go_if_ne (off := 5) (tgt := 48) (by decide +kernel) (by decide) (fun _ => ?_) (fun z => absurd z q5)
            refine go_blk rfl [(.aload_n 0, 1, 0, 0, 0, .inl 0), (.iload_n 1, 1, 1, 0, 0, .inl 0), (.iload_n 2, 1, 2, 0, 0, .inl 0), (.iload_n 3, 1, 3, 0, 0, .inl 0)] 48 52 _ _ _ (by decide +kernel) ?_
            show Go _ _ _ _ _ _ 52 [(0, rm 0), (1, vi a0), (2, vi a1), (3, vi a2), (4, vi a3)] [vi a2, vi a1, vi a0, rm 0] (Y, (S, T)) _
            obtain ⟨r5, hr5, h⟩ := bind_el h
            refine go_callV (idx := 483) (z := 0) (M' := M11_laysPaces) (n := 3) (A := [vi a0, vi a1, vi a2]) (v' := none) (μ' := (Y, (r5.1, T))) (d' := 7) (mc' := 0) (ms' := 0) (kc' := 0) (ks' := 0) (ci := 11) (x := .inr (.inl 0)) (by decide +kernel) ml_11_483 rfl wv11_laysPaces rfl (by decide) rfl (lm_t0 hT) (ret11_laysPaces hT hr5) (by decide) rfl rfl (Nat.le_of_ble_eq_true rfl) rfl (jag rfl rfl) ?_
            show Go _ _ _ _ _ _ 55 [(0, rm 0), (1, vi a0), (2, vi a1), (3, vi a2), (4, vi a3)] [] (Y, (r5.1, T)) _
            refine go_blk rfl [(.iconst 0, 1, 0, 0, 0, .inl 0), (.istore 5, 2, 5, 0, 0, .inl 0), (.bipush (-2), 2, 0, 0, 0, .inl (-2)), (.istore 6, 2, 6, 0, 0, .inl 0), (.bipush (-2), 2, 0, 0, 0, .inl (-2)), (.istore 7, 2, 7, 0, 0, .inl 0), (.iconst 0, 1, 0, 0, 0, .inl 0), (.istore 8, 2, 8, 0, 0, .inl 0)] 55 69 _ _ _ (by decide +kernel) ?_
            show Go _ _ _ _ _ _ 69 [(8, vi 0), (7, vi ((-2))), (6, vi ((-2))), (5, vi 0), (0, rm 0), (1, vi a0), (2, vi a1), (3, vi a2), (4, vi a3)] [] (Y, (r5.1, T)) _
            refine go_pick [4, 8, 3, 2, 1, 0] rfl ?_
            obtain ⟨y9, hy9, h⟩ := bind_el h
            refine f11_rests_L1_ok hT _ _ _ _ _ _ hy9 ?_
            show Go _ _ _ _ _ _ 138 [(4, vi a3), (5, vi y9.1), (6, vi y9.2.1), (7, vi y9.2.2)] [] (Y, (r5.1, T)) _
            refine go_blk rfl [(.iload 4, 2, 4, 0, 0, .inl 0)] 138 140 _ _ _ (by decide +kernel) ?_
            show Go _ _ _ _ _ _ 140 [(4, vi a3), (5, vi y9.1), (6, vi y9.2.1), (7, vi y9.2.2)] [vi a3] (Y, (r5.1, T)) _
            refine ite_el h (fun q11 h => ?_) (fun q11 h => ?_)
            · refine go_if_ne (off := 8) (tgt := 148) (by decide +kernel) (by decide) (fun z => absurd q11 z) (fun _ => ?_)
              refine go_blk rfl [(.iload 5, 2, 5, 0, 0, .inl 0)] 143 145 _ _ _ (by decide +kernel) ?_
              show Go _ _ _ _ _ _ 145 [(4, vi a3), (5, vi y9.1), (6, vi y9.2.1), (7, vi y9.2.2)] [vi y9.1] (Y, (r5.1, T)) _
              refine go_goto (off := 16) (tgt := 161) (by decide +kernel) (by decide) ?_
              obtain ⟨rfl, rfl⟩ := Prod.mk.inj (Option.some.inj h)
              exact go_ireturn (by decide +kernel) rfl rfl ⟨rfl, rfl⟩
            · refine go_if_ne (off := 8) (tgt := 148) (by decide +kernel) (by decide) (fun _ => ?_) (fun z => absurd z q11)
              refine go_blk rfl [(.iload 4, 2, 4, 0, 0, .inl 0), (.iconst 1, 1, 0, 0, 0, .inl 1)] 148 151 _ _ _ (by decide +kernel) ?_
              show Go _ _ _ _ _ _ 151 [(4, vi a3), (5, vi y9.1), (6, vi y9.2.1), (7, vi y9.2.2)] [vi 1, vi a3] (Y, (r5.1, T)) _
              refine ite_el h (fun q12 h => ?_) (fun q12 h => ?_)
              · refine go_icmp_ne (off := 8) (tgt := 159) (by decide +kernel) (by decide) (fun z => absurd q12 z) (fun _ => ?_)
                refine go_blk rfl [(.iload 6, 2, 6, 0, 0, .inl 0)] 154 156 _ _ _ (by decide +kernel) ?_
                show Go _ _ _ _ _ _ 156 [(4, vi a3), (5, vi y9.1), (6, vi y9.2.1), (7, vi y9.2.2)] [vi y9.2.1] (Y, (r5.1, T)) _
                refine go_goto (off := 5) (tgt := 161) (by decide +kernel) (by decide) ?_
                obtain ⟨rfl, rfl⟩ := Prod.mk.inj (Option.some.inj h)
                exact go_ireturn (by decide +kernel) rfl rfl ⟨rfl, rfl⟩
              · refine go_icmp_ne (off := 8) (tgt := 159) (by decide +kernel) (by decide) (fun _ => ?_) (fun z => absurd z q12)
                refine go_blk rfl [(.iload 7, 2, 7, 0, 0, .inl 0)] 159 161 _ _ _ (by decide +kernel) ?_
                show Go _ _ _ _ _ _ 161 [(4, vi a3), (5, vi y9.1), (6, vi y9.2.1), (7, vi y9.2.2)] [vi y9.2.2] (Y, (r5.1, T)) _
                obtain ⟨rfl, rfl⟩ := Prod.mk.inj (Option.some.inj h)
                exact go_ireturn (by decide +kernel) rfl rfl ⟨rfl, rfl⟩
def f11_pence_L1 (S : jS) (l1 : Int32) (l2 : Int32) : Nat → Int32 → Int32 → Option Int32
  | 0, _, _ => none
  | n + 1, l3, l4 => (if (S.1 1 2) ≤ l4 then some l3 else (if inb l4 7 then f11_pence_L1 S l1 l2 n (l3 + (S.1 6 l4.toNatClampNeg)) (l4 + 1) else none))
def f11_pence_L2 (S : jS) (l1 : Int32) (l2 : Int32) (l3 : Int32) (l6 : Int32) : Nat → Int32 → Int32 → Int32 → Option (Int32 × Int32)
  | 0, _, _, _ => none
  | n + 1, l4, l5, l7 => (if (S.1 1 2) ≤ l7 then some (l4, l5) else (if inb l7 7 then (if ¬ l3 = 0 then Option.bind (if 0 < ((irm (l1 * (S.1 6 l7.toNatClampNeg)) l3) - (irm l6 l3)) then some 1 else (if ((irm (l1 * (S.1 6 l7.toNatClampNeg)) l3) - (irm l6 l3)) = 0 then (if l2 ≤ l7 then some 0 else some 1) else some 0)) (fun (y4 : Int32) => f11_pence_L2 S l1 l2 l3 l6 n (l4 - ((l1 * (S.1 6 l7.toNatClampNeg)) / l3)) (l5 + y4) (l7 + 1)) else none) else none))
def f11_pence (S : jS) (a0 : Int32) (a1 : Int32) : Option Int32 := Option.bind (f11_isGuest S a1) (fun r1 => (if r1 = 0 then some ((-1)) else Option.bind (f11_in a0.toInt64 0 9999) (fun r2 => (if r2 = 0 then some ((-1)) else Option.bind (f11_pence_L1 S a0 a1 jF 0 0) (fun y3 => (if y3 = 0 then some 0 else (if inb a1 7 then Option.bind (f11_pence_L2 S a0 a1 y3 (a0 * (S.1 6 a1.toNatClampNeg)) jF a0 0 0) (fun y5 => (if ¬ y3 = 0 then some (((a0 * (S.1 6 a1.toNatClampNeg)) / y3) + (((if y5.1 ≤ y5.2 then 0 else 1) : Int32))) else none)) else none)))))))
theorem f11_pence_L1_ok {T : jT} {Y : jS × jT} {S : jS} {l1 : Int32} {l2 : Int32} {Q : Option jV → jMem → Prop} (hT : LayM T) : ∀ (n : Nat) (l3 : Int32) (l4 : Int32) (r : Int32), f11_pence_L1 S l1 l2 n l3 l4 = some r → Go M11_pence 3 0 0 0 0 54 [(0, rm 0), (1, vi l1), (2, vi l2), (3, vi r)] [] (Y, (S, T)) Q → Go M11_pence 3 0 0 0 0 27 [(0, rm 0), (1, vi l1), (2, vi l2), (3, vi l3), (4, vi l4)] [] (Y, (S, T)) Q := by
  intro n
  induction n with
  | zero => intro l3 l4 r h k; exact absurd h (by intro z; cases z)
  | succ n ih =>
    intro l3 l4 r h k
    rw [f11_pence_L1] at h
    refine go_blk rfl [(.iload 4, 2, 4, 0, 0, .inl 0), (.aload_n 0, 1, 0, 0, 0, .inl 0), (.getfield 9, 3, 11, 1, 1, .inl 0), (.iconst 2, 1, 0, 0, 0, .inl 2), (.iaload, 1, 20, 0, 0, .inl 0)] 27 35 _ _ _ (by decide +kernel) ?_
    refine And.intro (lm_t0 hT) (Exists.intro _ (And.intro (gRm (lm_r1 hT)) ?_))
    refine And.intro (lm_t1 hT) (Exists.intro _ (And.intro (lm_n1 hT) (And.intro (inb_in (by decide)) ?_)))
    show Go _ _ _ _ _ _ 35 [(0, rm 0), (1, vi l1), (2, vi l2), (3, vi l3), (4, vi l4)] [vi (S.1 1 2), vi l4] (Y, (S, T)) _
    refine ite_el h (fun q3 h => ?_) (fun q3 h => ?_)
    · refine go_icmp_ge (off := 19) (tgt := 54) (by decide +kernel) (by decide) (fun _ => ?_) (fun z => absurd q3 z)
      obtain rfl := Option.some.inj h
      refine go_pick [0, 1, 2, 3] rfl ?_
      exact k
    · refine go_icmp_ge (off := 19) (tgt := 54) (by decide +kernel) (by decide) (fun z => absurd z q3) (fun _ => ?_)
      refine gd_el h (fun q4 h => ?_)
      refine go_blk rfl [(.iload_n 3, 1, 3, 0, 0, .inl 0), (.aload_n 0, 1, 0, 0, 0, .inl 0), (.getfield 25, 3, 11, 6, 1, .inl 0), (.iload 4, 2, 4, 0, 0, .inl 0), (.iaload, 1, 20, 0, 0, .inl 0), (.iadd, 1, 0, 0, 0, .inl 0), (.istore_n 3, 1, 3, 0, 0, .inl 0), (.iinc 4 1, 3, 4, 0, 0, .inl 1)] 38 51 _ _ _ (by decide +kernel) ?_
      refine And.intro (lm_t0 hT) (Exists.intro _ (And.intro (gRm (lm_r6 hT)) ?_))
      refine And.intro (lm_t6 hT) (Exists.intro _ (And.intro (lm_n6 hT) (And.intro (inb_in q4) ?_)))
      show Go _ _ _ _ _ _ 51 [(4, vi (l4 + 1)), (3, vi (l3 + (S.1 6 l4.toNatClampNeg))), (0, rm 0), (1, vi l1), (2, vi l2)] [] (Y, (S, T)) _
      refine go_goto (off := (-24)) (tgt := 27) (by decide +kernel) (by decide) ?_
      refine go_pick [2, 3, 4, 1, 0] rfl ?_
      exact ih _ _ _ h k
theorem f11_pence_L2_ok {T : jT} {Y : jS × jT} {S : jS} {l1 : Int32} {l2 : Int32} {l3 : Int32} {l6 : Int32} {Q : Option jV → jMem → Prop} (hT : LayM T) : ∀ (n : Nat) (l4 : Int32) (l5 : Int32) (l7 : Int32) (r : (Int32 × Int32)), f11_pence_L2 S l1 l2 l3 l6 n l4 l5 l7 = some r → Go M11_pence 3 0 0 0 0 153 [(3, vi l3), (4, vi r.1), (5, vi r.2), (6, vi l6)] [] (Y, (S, T)) Q → Go M11_pence 3 0 0 0 0 79 [(0, rm 0), (1, vi l1), (2, vi l2), (3, vi l3), (4, vi l4), (5, vi l5), (6, vi l6), (7, vi l7)] [] (Y, (S, T)) Q := by
  intro n
  induction n with
  | zero => intro l4 l5 l7 r h k; exact absurd h (by intro z; cases z)
  | succ n ih =>
    intro l4 l5 l7 r h k
    rw [f11_pence_L2] at h
    refine go_blk rfl [(.iload 7, 2, 7, 0, 0, .inl 0), (.aload_n 0, 1, 0, 0, 0, .inl 0), (.getfield 9, 3, 11, 1, 1, .inl 0), (.iconst 2, 1, 0, 0, 0, .inl 2), (.iaload, 1, 20, 0, 0, .inl 0)] 79 87 _ _ _ (by decide +kernel) ?_
    refine And.intro (lm_t0 hT) (Exists.intro _ (And.intro (gRm (lm_r1 hT)) ?_))
    refine And.intro (lm_t1 hT) (Exists.intro _ (And.intro (lm_n1 hT) (And.intro (inb_in (by decide)) ?_)))
    show Go _ _ _ _ _ _ 87 [(0, rm 0), (1, vi l1), (2, vi l2), (3, vi l3), (4, vi l4), (5, vi l5), (6, vi l6), (7, vi l7)] [vi (S.1 1 2), vi l7] (Y, (S, T)) _
    refine ite_el h (fun q7 h => ?_) (fun q7 h => ?_)
    · refine go_icmp_ge (off := 66) (tgt := 153) (by decide +kernel) (by decide) (fun _ => ?_) (fun z => absurd q7 z)
      obtain rfl := Option.some.inj h
      refine go_pick [3, 4, 5, 6] rfl ?_
      exact k
    · refine go_icmp_ge (off := 66) (tgt := 153) (by decide +kernel) (by decide) (fun z => absurd z q7) (fun _ => ?_)
      refine gd_el h (fun q8 h => ?_)
      refine gd_el h (fun q9 h => ?_)
      refine go_blk rfl [(.iload_n 1, 1, 1, 0, 0, .inl 0), (.aload_n 0, 1, 0, 0, 0, .inl 0), (.getfield 25, 3, 11, 6, 1, .inl 0), (.iload 7, 2, 7, 0, 0, .inl 0), (.iaload, 1, 20, 0, 0, .inl 0), (.imul, 1, 0, 0, 0, .inl 0), (.istore 8, 2, 8, 0, 0, .inl 0), (.iload 4, 2, 4, 0, 0, .inl 0), (.iload 8, 2, 8, 0, 0, .inl 0), (.iload_n 3, 1, 3, 0, 0, .inl 0), (.idiv, 1, 0, 0, 0, .inl 0), (.isub, 1, 0, 0, 0, .inl 0), (.istore 4, 2, 4, 0, 0, .inl 0), (.iload 8, 2, 8, 0, 0, .inl 0), (.iload_n 3, 1, 3, 0, 0, .inl 0), (.irem, 1, 0, 0, 0, .inl 0), (.iload 6, 2, 6, 0, 0, .inl 0), (.iload_n 3, 1, 3, 0, 0, .inl 0), (.irem, 1, 0, 0, 0, .inl 0), (.isub, 1, 0, 0, 0, .inl 0), (.istore 9, 2, 9, 0, 0, .inl 0), (.iload 5, 2, 5, 0, 0, .inl 0), (.iload 9, 2, 9, 0, 0, .inl 0)] 90 125 _ _ _ (by decide +kernel) ?_
      refine And.intro (lm_t0 hT) (Exists.intro _ (And.intro (gRm (lm_r6 hT)) ?_))
      refine And.intro (lm_t6 hT) (Exists.intro _ (And.intro (lm_n6 hT) (And.intro (inb_in q8) ?_)))
      refine And.intro q9 ?_
      refine And.intro q9 ?_
      refine And.intro q9 ?_
      show Go _ _ _ _ _ _ 125 [(9, vi ((irm (l1 * (S.1 6 l7.toNatClampNeg)) l3) - (irm l6 l3))), (4, vi (l4 - ((l1 * (S.1 6 l7.toNatClampNeg)) / l3))), (8, vi (l1 * (S.1 6 l7.toNatClampNeg))), (0, rm 0), (1, vi l1), (2, vi l2), (3, vi l3), (5, vi l5), (6, vi l6), (7, vi l7)] [vi ((irm (l1 * (S.1 6 l7.toNatClampNeg)) l3) - (irm l6 l3)), vi l5] (Y, (S, T)) _
      obtain ⟨y4, hy4, h⟩ := bind_el h
      have key : Go M11_pence 3 0 0 0 0 144 [(0, rm 0), (1, vi l1), (2, vi l2), (3, vi l3), (4, vi (l4 - ((l1 * (S.1 6 l7.toNatClampNeg)) / l3))), (6, vi l6), (7, vi l7)] [vi y4, vi l5] (Y, (S, T)) Q := by
        refine go_blk rfl [(.iadd, 1, 0, 0, 0, .inl 0), (.istore 5, 2, 5, 0, 0, .inl 0), (.iinc 7 1, 3, 7, 0, 0, .inl 1)] 144 150 _ _ _ (by decide +kernel) ?_
        show Go _ _ _ _ _ _ 150 [(7, vi (l7 + 1)), (5, vi (l5 + y4)), (0, rm 0), (1, vi l1), (2, vi l2), (3, vi l3), (4, vi (l4 - ((l1 * (S.1 6 l7.toNatClampNeg)) / l3))), (6, vi l6)] [] (Y, (S, T)) _
        refine go_goto (off := (-71)) (tgt := 79) (by decide +kernel) (by decide) ?_
        refine go_pick [2, 3, 4, 5, 6, 1, 7, 0] rfl ?_
        exact ih _ _ _ _ h k
      replace h := hy4
      refine ite_el h (fun q10 h => ?_) (fun q10 h => ?_)
      · refine go_if_gt (off := 14) (tgt := 139) (by decide +kernel) (by decide) (fun _ => ?_) (fun z => absurd q10 z)
        refine go_blk rfl [(.iconst 1, 1, 0, 0, 0, .inl 1)] 139 140 _ _ _ (by decide +kernel) ?_
        show Go _ _ _ _ _ _ 140 [(9, vi ((irm (l1 * (S.1 6 l7.toNatClampNeg)) l3) - (irm l6 l3))), (4, vi (l4 - ((l1 * (S.1 6 l7.toNatClampNeg)) / l3))), (8, vi (l1 * (S.1 6 l7.toNatClampNeg))), (0, rm 0), (1, vi l1), (2, vi l2), (3, vi l3), (5, vi l5), (6, vi l6), (7, vi l7)] [vi 1, vi l5] (Y, (S, T)) _
        refine go_goto (off := 4) (tgt := 144) (by decide +kernel) (by decide) ?_
        obtain rfl := Option.some.inj h
        refine go_pick [3, 4, 5, 6, 1, 8, 9] rfl ?_
        exact key
      · refine go_if_gt (off := 14) (tgt := 139) (by decide +kernel) (by decide) (fun z => absurd z q10) (fun _ => ?_)
        refine go_blk rfl [(.iload 9, 2, 9, 0, 0, .inl 0)] 128 130 _ _ _ (by decide +kernel) ?_
        show Go _ _ _ _ _ _ 130 [(9, vi ((irm (l1 * (S.1 6 l7.toNatClampNeg)) l3) - (irm l6 l3))), (4, vi (l4 - ((l1 * (S.1 6 l7.toNatClampNeg)) / l3))), (8, vi (l1 * (S.1 6 l7.toNatClampNeg))), (0, rm 0), (1, vi l1), (2, vi l2), (3, vi l3), (5, vi l5), (6, vi l6), (7, vi l7)] [vi ((irm (l1 * (S.1 6 l7.toNatClampNeg)) l3) - (irm l6 l3)), vi l5] (Y, (S, T)) _
        refine ite_el h (fun q11 h => ?_) (fun q11 h => ?_)
        · refine go_if_ne (off := 13) (tgt := 143) (by decide +kernel) (by decide) (fun z => absurd q11 z) (fun _ => ?_)
          refine go_blk rfl [(.iload 7, 2, 7, 0, 0, .inl 0), (.iload_n 2, 1, 2, 0, 0, .inl 0)] 133 136 _ _ _ (by decide +kernel) ?_
          show Go _ _ _ _ _ _ 136 [(9, vi ((irm (l1 * (S.1 6 l7.toNatClampNeg)) l3) - (irm l6 l3))), (4, vi (l4 - ((l1 * (S.1 6 l7.toNatClampNeg)) / l3))), (8, vi (l1 * (S.1 6 l7.toNatClampNeg))), (0, rm 0), (1, vi l1), (2, vi l2), (3, vi l3), (5, vi l5), (6, vi l6), (7, vi l7)] [vi l2, vi l7, vi l5] (Y, (S, T)) _
          refine ite_el h (fun q12 h => ?_) (fun q12 h => ?_)
          · refine go_icmp_ge (off := 7) (tgt := 143) (by decide +kernel) (by decide) (fun _ => ?_) (fun z => absurd q12 z)
            refine go_blk rfl [(.iconst 0, 1, 0, 0, 0, .inl 0)] 143 144 _ _ _ (by decide +kernel) ?_
            show Go _ _ _ _ _ _ 144 [(9, vi ((irm (l1 * (S.1 6 l7.toNatClampNeg)) l3) - (irm l6 l3))), (4, vi (l4 - ((l1 * (S.1 6 l7.toNatClampNeg)) / l3))), (8, vi (l1 * (S.1 6 l7.toNatClampNeg))), (0, rm 0), (1, vi l1), (2, vi l2), (3, vi l3), (5, vi l5), (6, vi l6), (7, vi l7)] [vi 0, vi l5] (Y, (S, T)) _
            obtain rfl := Option.some.inj h
            refine go_pick [3, 4, 5, 6, 1, 8, 9] rfl ?_
            exact key
          · refine go_icmp_ge (off := 7) (tgt := 143) (by decide +kernel) (by decide) (fun z => absurd z q12) (fun _ => ?_)
            refine go_blk rfl [(.iconst 1, 1, 0, 0, 0, .inl 1)] 139 140 _ _ _ (by decide +kernel) ?_
            show Go _ _ _ _ _ _ 140 [(9, vi ((irm (l1 * (S.1 6 l7.toNatClampNeg)) l3) - (irm l6 l3))), (4, vi (l4 - ((l1 * (S.1 6 l7.toNatClampNeg)) / l3))), (8, vi (l1 * (S.1 6 l7.toNatClampNeg))), (0, rm 0), (1, vi l1), (2, vi l2), (3, vi l3), (5, vi l5), (6, vi l6), (7, vi l7)] [vi 1, vi l5] (Y, (S, T)) _
            refine go_goto (off := 4) (tgt := 144) (by decide +kernel) (by decide) ?_
            obtain rfl := Option.some.inj h
            refine go_pick [3, 4, 5, 6, 1, 8, 9] rfl ?_
            exact key
        · refine go_if_ne (off := 13) (tgt := 143) (by decide +kernel) (by decide) (fun _ => ?_) (fun z => absurd z q11)
          refine go_blk rfl [(.iconst 0, 1, 0, 0, 0, .inl 0)] 143 144 _ _ _ (by decide +kernel) ?_
          show Go _ _ _ _ _ _ 144 [(9, vi ((irm (l1 * (S.1 6 l7.toNatClampNeg)) l3) - (irm l6 l3))), (4, vi (l4 - ((l1 * (S.1 6 l7.toNatClampNeg)) / l3))), (8, vi (l1 * (S.1 6 l7.toNatClampNeg))), (0, rm 0), (1, vi l1), (2, vi l2), (3, vi l3), (5, vi l5), (6, vi l6), (7, vi l7)] [vi 0, vi l5] (Y, (S, T)) _
          obtain rfl := Option.some.inj h
          refine go_pick [3, 4, 5, 6, 1, 8, 9] rfl ?_
          exact key
theorem ret11_pence {S : jS} {T : jT} {Y : jS × jT} {a0 : Int32} {a1 : Int32} {x : Int32} (hT : LayM T) (h : f11_pence S a0 a1 = some x) : Ret M11_pence 3 0 0 [rm 0, vi a0, vi a1] (Y, (S, T)) (some (vi x)) (Y, (S, T)) := by
  refine Ret.of (by decide +kernel) (Nat.le_of_ble_eq_true rfl) ?_
  unfold f11_pence at h
  show Go _ _ _ _ _ _ 0 [(0, rm 0), (1, vi a0), (2, vi a1)] [] (Y, (S, T)) _
  refine go_blk rfl [(.aload_n 0, 1, 0, 0, 0, .inl 0), (.iload_n 2, 1, 2, 0, 0, .inl 0)] 0 2 _ _ _ (by decide +kernel) ?_
  show Go _ _ _ _ _ _ 2 [(0, rm 0), (1, vi a0), (2, vi a1)] [vi a1, rm 0] (Y, (S, T)) _
  obtain ⟨r1, hr1, h⟩ := bind_el h
  refine go_callV (idx := 144) (z := 0) (M' := M11_isGuest) (n := 1) (A := [vi a1]) (v' := some (vi r1)) (μ' := (Y, (S, T))) (d' := 2) (mc' := 0) (ms' := 0) (kc' := 0) (ks' := 0) (ci := 11) (x := .inr (.inl 0)) (by decide +kernel) ml_11_144 rfl wv11_isGuest rfl (by decide) rfl (lm_t0 hT) (ret11_isGuest hT hr1) (by decide) rfl rfl (Nat.le_of_ble_eq_true rfl) rfl (jag rfl rfl) ?_
  show Go _ _ _ _ _ _ 5 [(0, rm 0), (1, vi a0), (2, vi a1)] [vi r1] (Y, (S, T)) _
  refine ite_el h (fun q1 h => ?_) (fun q1 h => ?_)
  · refine go_if_eq (off := 15) (tgt := 20) (by decide +kernel) (by decide) (fun _ => ?_) (fun z => absurd q1 z)
    refine go_blk rfl [(.iconst (-1), 1, 0, 0, 0, .inl (-1))] 20 21 _ _ _ (by decide +kernel) ?_
    show Go _ _ _ _ _ _ 21 [(0, rm 0), (1, vi a0), (2, vi a1)] [vi ((-1))] (Y, (S, T)) _
    obtain rfl := Option.some.inj h
    exact go_ireturn (by decide +kernel) rfl rfl ⟨rfl, rfl⟩
  · refine go_if_eq (off := 15) (tgt := 20) (by decide +kernel) (by decide) (fun z => absurd z q1) (fun _ => ?_)
    refine go_blk rfl [(.iload_n 1, 1, 1, 0, 0, .inl 0), (.i2l, 1, 0, 0, 0, .inl 0), (.lconst 0, 1, 0, 0, 0, .inr (.inl 0)), (.ldc2_w 490, 3, 0, 0, 0, .inr (.inl 9999))] 8 14 _ _ _ (by decide +kernel) ?_
    show Go _ _ _ _ _ _ 14 [(0, rm 0), (1, vi a0), (2, vi a1)] [vl 9999, vl 0, vl a0.toInt64] (Y, (S, T)) _
    obtain ⟨r2, hr2, h⟩ := bind_el h
    refine go_callS (idx := 140) (z := 0) (M' := M11_in) (n := 3) (A := [vl a0.toInt64, vl 0, vl 9999]) (v' := some (vi r2)) (μ' := (Y, (S, T))) (d' := 1) (mc' := 0) (ms' := 0) (kc' := 0) (ks' := 0) (by decide +kernel) ml_11_140 rfl ws11_in rfl (ret11_in hr2) (by decide) rfl rfl (Nat.le_of_ble_eq_true rfl) rfl (jag rfl rfl) ?_
    show Go _ _ _ _ _ _ 17 [(0, rm 0), (1, vi a0), (2, vi a1)] [vi r2] (Y, (S, T)) _
    refine ite_el h (fun q2 h => ?_) (fun q2 h => ?_)
    · refine go_if_ne (off := 5) (tgt := 22) (by decide +kernel) (by decide) (fun z => absurd q2 z) (fun _ => ?_)
      refine go_blk rfl [(.iconst (-1), 1, 0, 0, 0, .inl (-1))] 20 21 _ _ _ (by decide +kernel) ?_
      show Go _ _ _ _ _ _ 21 [(0, rm 0), (1, vi a0), (2, vi a1)] [vi ((-1))] (Y, (S, T)) _
      obtain rfl := Option.some.inj h
      exact go_ireturn (by decide +kernel) rfl rfl ⟨rfl, rfl⟩
    · refine go_if_ne (off := 5) (tgt := 22) (by decide +kernel) (by decide) (fun _ => ?_) (fun z => absurd z q2)
      refine go_blk rfl [(.iconst 0, 1, 0, 0, 0, .inl 0), (.istore_n 3, 1, 3, 0, 0, .inl 0), (.iconst 0, 1, 0, 0, 0, .inl 0), (.istore 4, 2, 4, 0, 0, .inl 0)] 22 27 _ _ _ (by decide +kernel) ?_
      show Go _ _ _ _ _ _ 27 [(4, vi 0), (3, vi 0), (0, rm 0), (1, vi a0), (2, vi a1)] [] (Y, (S, T)) _
      refine go_pick [2, 3, 4, 1, 0] rfl ?_
      obtain ⟨y3, hy3, h⟩ := bind_el h
      refine f11_pence_L1_ok hT _ _ _ _ hy3 ?_
      show Go _ _ _ _ _ _ 54 [(0, rm 0), (1, vi a0), (2, vi a1), (3, vi y3)] [] (Y, (S, T)) _
      refine go_blk rfl [(.iload_n 3, 1, 3, 0, 0, .inl 0)] 54 55 _ _ _ (by decide +kernel) ?_
      show Go _ _ _ _ _ _ 55 [(0, rm 0), (1, vi a0), (2, vi a1), (3, vi y3)] [vi y3] (Y, (S, T)) _
      refine ite_el h (fun q5 h => ?_) (fun q5 h => ?_)
      · refine go_if_ne (off := 5) (tgt := 60) (by decide +kernel) (by decide) (fun z => absurd q5 z) (fun _ => ?_)
        refine go_blk rfl [(.iconst 0, 1, 0, 0, 0, .inl 0)] 58 59 _ _ _ (by decide +kernel) ?_
        show Go _ _ _ _ _ _ 59 [(0, rm 0), (1, vi a0), (2, vi a1), (3, vi y3)] [vi 0] (Y, (S, T)) _
        obtain rfl := Option.some.inj h
        exact go_ireturn (by decide +kernel) rfl rfl ⟨rfl, rfl⟩
      · refine go_if_ne (off := 5) (tgt := 60) (by decide +kernel) (by decide) (fun _ => ?_) (fun z => absurd z q5)
        refine gd_el h (fun q6 h => ?_)
        refine go_blk rfl [(.iload_n 1, 1, 1, 0, 0, .inl 0), (.istore 4, 2, 4, 0, 0, .inl 0), (.iconst 0, 1, 0, 0, 0, .inl 0), (.istore 5, 2, 5, 0, 0, .inl 0), (.iload_n 1, 1, 1, 0, 0, .inl 0), (.aload_n 0, 1, 0, 0, 0, .inl 0), (.getfield 25, 3, 11, 6, 1, .inl 0), (.iload_n 2, 1, 2, 0, 0, .inl 0), (.iaload, 1, 20, 0, 0, .inl 0), (.imul, 1, 0, 0, 0, .inl 0), (.istore 6, 2, 6, 0, 0, .inl 0), (.iconst 0, 1, 0, 0, 0, .inl 0), (.istore 7, 2, 7, 0, 0, .inl 0)] 60 79 _ _ _ (by decide +kernel) ?_
        refine And.intro (lm_t0 hT) (Exists.intro _ (And.intro (gRm (lm_r6 hT)) ?_))
        refine And.intro (lm_t6 hT) (Exists.intro _ (And.intro (lm_n6 hT) (And.intro (inb_in q6) ?_)))
        show Go _ _ _ _ _ _ 79 [(7, vi 0), (6, vi (a0 * (S.1 6 a1.toNatClampNeg))), (5, vi 0), (4, vi a0), (0, rm 0), (1, vi a0), (2, vi a1), (3, vi y3)] [] (Y, (S, T)) _
        refine go_pick [4, 5, 6, 7, 3, 2, 1, 0] rfl ?_
        obtain ⟨y5, hy5, h⟩ := bind_el h
        refine f11_pence_L2_ok hT _ _ _ _ _ hy5 ?_
        show Go _ _ _ _ _ _ 153 [(3, vi y3), (4, vi y5.1), (5, vi y5.2), (6, vi (a0 * (S.1 6 a1.toNatClampNeg)))] [] (Y, (S, T)) _
        refine gd_el h (fun q13 h => ?_)
        refine go_blk rfl [(.iload 6, 2, 6, 0, 0, .inl 0), (.iload_n 3, 1, 3, 0, 0, .inl 0), (.idiv, 1, 0, 0, 0, .inl 0), (.iload 5, 2, 5, 0, 0, .inl 0), (.iload 4, 2, 4, 0, 0, .inl 0)] 153 161 _ _ _ (by decide +kernel) ?_
        refine And.intro q13 ?_
        show Go _ _ _ _ _ _ 161 [(3, vi y3), (4, vi y5.1), (5, vi y5.2), (6, vi (a0 * (S.1 6 a1.toNatClampNeg)))] [vi y5.1, vi y5.2, vi ((a0 * (S.1 6 a1.toNatClampNeg)) / y3)] (Y, (S, T)) _
        have key : ∀ z0 : Int32, z0 = ((if y5.1 ≤ y5.2 then 0 else 1) : Int32) → Go M11_pence 3 0 0 0 0 169 [] [vi z0, vi ((a0 * (S.1 6 a1.toNatClampNeg)) / y3)] (Y, (S, T)) (eqQ (some (vi x)) (Y, (S, T))) := by
          intro z0 ez0
          subst ez0
          refine go_blk rfl [(.iadd, 1, 0, 0, 0, .inl 0)] 169 170 _ _ _ (by decide +kernel) ?_
          show Go _ _ _ _ _ _ 170 [] [vi (((a0 * (S.1 6 a1.toNatClampNeg)) / y3) + (((if y5.1 ≤ y5.2 then 0 else 1) : Int32)))] (Y, (S, T)) _
          obtain rfl := Option.some.inj h
          exact go_ireturn (by decide +kernel) rfl rfl ⟨rfl, rfl⟩
        clear h
        by_cases q14 : y5.1 ≤ y5.2
        · refine go_icmp_ge (off := 7) (tgt := 168) (by decide +kernel) (by decide) (fun _ => ?_) (fun z => absurd q14 z)
          refine go_blk rfl [(.iconst 0, 1, 0, 0, 0, .inl 0)] 168 169 _ _ _ (by decide +kernel) ?_
          show Go _ _ _ _ _ _ 169 [(3, vi y3), (4, vi y5.1), (5, vi y5.2), (6, vi (a0 * (S.1 6 a1.toNatClampNeg)))] [vi 0, vi ((a0 * (S.1 6 a1.toNatClampNeg)) / y3)] (Y, (S, T)) _
          refine go_pick [] rfl ?_; exact key _ (by rw [if_pos q14])
        · refine go_icmp_ge (off := 7) (tgt := 168) (by decide +kernel) (by decide) (fun z => absurd z q14) (fun _ => ?_)
          refine go_blk rfl [(.iconst 1, 1, 0, 0, 0, .inl 1)] 164 165 _ _ _ (by decide +kernel) ?_
          show Go _ _ _ _ _ _ 165 [(3, vi y3), (4, vi y5.1), (5, vi y5.2), (6, vi (a0 * (S.1 6 a1.toNatClampNeg)))] [vi 1, vi ((a0 * (S.1 6 a1.toNatClampNeg)) / y3)] (Y, (S, T)) _
          refine go_goto (off := 4) (tgt := 169) (by decide +kernel) (by decide) ?_
          refine go_pick [] rfl ?_; exact key _ (by rw [if_neg q14])
def f11_note (S : jS) (a0 : Int32) (a1 : Int32) (a2 : Int32) : Option (jS × Int32) := (if a0 = ((-1)) then some (wI S 1 8 0, 0) else Option.bind (f11_in a0.toInt64 0 20) (fun r1 => (if r1 = 0 then some (S, (-2)) else Option.bind (f11_isGuest S a1) (fun r2 => (if r2 = 0 then some (S, (-2)) else Option.bind (f11_in a2.toInt64 0 1) (fun r3 => (if r3 = 0 then some (S, (-2)) else (if (S.1 1 8) = 10 then some (S, (-2)) else (if inb (S.1 1 8) 10 then some (wI (wI (wI (wI S 8 (S.1 1 8).toNatClampNeg a0) 9 (S.1 1 8).toNatClampNeg a1) 10 (S.1 1 8).toNatClampNeg a2) 1 8 (((wI (wI (wI S 8 (S.1 1 8).toNatClampNeg a0) 9 (S.1 1 8).toNatClampNeg a1) 10 (S.1 1 8).toNatClampNeg a2).1 1 8) + 1), (S.1 1 8) + 1) else none)))))))))
theorem ret11_note {S : jS} {T : jT} {Y : jS × jT} {a0 : Int32} {a1 : Int32} {a2 : Int32} {S1 : jS} {x : Int32} (hT : LayM T) (h : f11_note S a0 a1 a2 = some (S1, x)) : Ret M11_note 3 0 0 [rm 0, vi a0, vi a1, vi a2] (Y, (S, T)) (some (vi x)) (Y, (S1, T)) := by
  refine Ret.of (by decide +kernel) (Nat.le_of_ble_eq_true rfl) ?_
  unfold f11_note at h
  show Go _ _ _ _ _ _ 0 [(0, rm 0), (1, vi a0), (2, vi a1), (3, vi a2)] [] (Y, (S, T)) _
  refine go_blk rfl [(.iload_n 1, 1, 1, 0, 0, .inl 0), (.iconst (-1), 1, 0, 0, 0, .inl (-1))] 0 2 _ _ _ (by decide +kernel) ?_
  show Go _ _ _ _ _ _ 2 [(0, rm 0), (1, vi a0), (2, vi a1), (3, vi a2)] [vi ((-1)), vi a0] (Y, (S, T)) _
  refine ite_el h (fun q1 h => ?_) (fun q1 h => ?_)
  · refine go_icmp_ne (off := 13) (tgt := 15) (by decide +kernel) (by decide) (fun z => absurd q1 z) (fun _ => ?_)
    refine go_blk rfl [(.aload_n 0, 1, 0, 0, 0, .inl 0), (.getfield 9, 3, 11, 1, 1, .inl 0), (.bipush 8, 2, 0, 0, 0, .inl 8), (.iconst 0, 1, 0, 0, 0, .inl 0), (.iastore, 1, 20, 0, 0, .inl 0)] 5 13 _ _ _ (by decide +kernel) ?_
    refine And.intro (lm_t0 hT) (Exists.intro _ (And.intro (gRm (lm_r1 hT)) ?_))
    refine And.intro (lm_t1 hT) (Exists.intro _ (And.intro (lm_n1 hT) (And.intro (inb_in (by decide)) ?_)))
    show Go _ _ _ _ _ _ 13 [(0, rm 0), (1, vi a0), (2, vi a1), (3, vi a2)] [] (Y, (wI S 1 8 0, T)) _
    refine go_blk rfl [(.iconst 0, 1, 0, 0, 0, .inl 0)] 13 14 _ _ _ (by decide +kernel) ?_
    show Go _ _ _ _ _ _ 14 [(0, rm 0), (1, vi a0), (2, vi a1), (3, vi a2)] [vi 0] (Y, (wI S 1 8 0, T)) _
    obtain ⟨rfl, rfl⟩ := Prod.mk.inj (Option.some.inj h)
    exact go_ireturn (by decide +kernel) rfl rfl ⟨rfl, rfl⟩
  · refine go_icmp_ne (off := 13) (tgt := 15) (by decide +kernel) (by decide) (fun _ => ?_) (fun z => absurd z q1)
    refine go_blk rfl [(.aload_n 0, 1, 0, 0, 0, .inl 0), (.getfield 9, 3, 11, 1, 1, .inl 0), (.bipush 8, 2, 0, 0, 0, .inl 8), (.iaload, 1, 20, 0, 0, .inl 0), (.istore 4, 2, 4, 0, 0, .inl 0), (.iload_n 1, 1, 1, 0, 0, .inl 0), (.i2l, 1, 0, 0, 0, .inl 0), (.lconst 0, 1, 0, 0, 0, .inr (.inl 0)), (.ldc2_w 478, 3, 0, 0, 0, .inr (.inl 20))] 15 30 _ _ _ (by decide +kernel) ?_
    refine And.intro (lm_t0 hT) (Exists.intro _ (And.intro (gRm (lm_r1 hT)) ?_))
    refine And.intro (lm_t1 hT) (Exists.intro _ (And.intro (lm_n1 hT) (And.intro (inb_in (by decide)) ?_)))
    show Go _ _ _ _ _ _ 30 [(4, vi (S.1 1 8)), (0, rm 0), (1, vi a0), (2, vi a1), (3, vi a2)] [vl 20, vl 0, vl a0.toInt64] (Y, (S, T)) _
    obtain ⟨r1, hr1, h⟩ := bind_el h
    refine go_callS (idx := 140) (z := 0) (M' := M11_in) (n := 3) (A := [vl a0.toInt64, vl 0, vl 20]) (v' := some (vi r1)) (μ' := (Y, (S, T))) (d' := 1) (mc' := 0) (ms' := 0) (kc' := 0) (ks' := 0) (by decide +kernel) ml_11_140 rfl ws11_in rfl (ret11_in hr1) (by decide) rfl rfl (Nat.le_of_ble_eq_true rfl) rfl (jag rfl rfl) ?_
    show Go _ _ _ _ _ _ 33 [(4, vi (S.1 1 8)), (0, rm 0), (1, vi a0), (2, vi a1), (3, vi a2)] [vi r1] (Y, (S, T)) _
    refine ite_el h (fun q2 h => ?_) (fun q2 h => ?_)
    · refine go_if_eq (off := 28) (tgt := 61) (by decide +kernel) (by decide) (fun _ => ?_) (fun z => absurd q2 z)
      refine go_blk rfl [(.bipush (-2), 2, 0, 0, 0, .inl (-2))] 61 63 _ _ _ (by decide +kernel) ?_
      show Go _ _ _ _ _ _ 63 [(4, vi (S.1 1 8)), (0, rm 0), (1, vi a0), (2, vi a1), (3, vi a2)] [vi ((-2))] (Y, (S, T)) _
      obtain ⟨rfl, rfl⟩ := Prod.mk.inj (Option.some.inj h)
      exact go_ireturn (by decide +kernel) rfl rfl ⟨rfl, rfl⟩
    · refine go_if_eq (off := 28) (tgt := 61) (by decide +kernel) (by decide) (fun z => absurd z q2) (fun _ => ?_)
      refine go_blk rfl [(.aload_n 0, 1, 0, 0, 0, .inl 0), (.iload_n 2, 1, 2, 0, 0, .inl 0)] 36 38 _ _ _ (by decide +kernel) ?_
      show Go _ _ _ _ _ _ 38 [(4, vi (S.1 1 8)), (0, rm 0), (1, vi a0), (2, vi a1), (3, vi a2)] [vi a1, rm 0] (Y, (S, T)) _
      obtain ⟨r2, hr2, h⟩ := bind_el h
      refine go_callV (idx := 144) (z := 0) (M' := M11_isGuest) (n := 1) (A := [vi a1]) (v' := some (vi r2)) (μ' := (Y, (S, T))) (d' := 2) (mc' := 0) (ms' := 0) (kc' := 0) (ks' := 0) (ci := 11) (x := .inr (.inl 0)) (by decide +kernel) ml_11_144 rfl wv11_isGuest rfl (by decide) rfl (lm_t0 hT) (ret11_isGuest hT hr2) (by decide) rfl rfl (Nat.le_of_ble_eq_true rfl) rfl (jag rfl rfl) ?_
      show Go _ _ _ _ _ _ 41 [(4, vi (S.1 1 8)), (0, rm 0), (1, vi a0), (2, vi a1), (3, vi a2)] [vi r2] (Y, (S, T)) _
      refine ite_el h (fun q3 h => ?_) (fun q3 h => ?_)
      · refine go_if_eq (off := 20) (tgt := 61) (by decide +kernel) (by decide) (fun _ => ?_) (fun z => absurd q3 z)
        refine go_blk rfl [(.bipush (-2), 2, 0, 0, 0, .inl (-2))] 61 63 _ _ _ (by decide +kernel) ?_
        show Go _ _ _ _ _ _ 63 [(4, vi (S.1 1 8)), (0, rm 0), (1, vi a0), (2, vi a1), (3, vi a2)] [vi ((-2))] (Y, (S, T)) _
        obtain ⟨rfl, rfl⟩ := Prod.mk.inj (Option.some.inj h)
        exact go_ireturn (by decide +kernel) rfl rfl ⟨rfl, rfl⟩
      · refine go_if_eq (off := 20) (tgt := 61) (by decide +kernel) (by decide) (fun z => absurd z q3) (fun _ => ?_)
        refine go_blk rfl [(.iload_n 3, 1, 3, 0, 0, .inl 0), (.i2l, 1, 0, 0, 0, .inl 0), (.lconst 0, 1, 0, 0, 0, .inr (.inl 0)), (.lconst 1, 1, 0, 0, 0, .inr (.inl 1))] 44 48 _ _ _ (by decide +kernel) ?_
        show Go _ _ _ _ _ _ 48 [(4, vi (S.1 1 8)), (0, rm 0), (1, vi a0), (2, vi a1), (3, vi a2)] [vl 1, vl 0, vl a2.toInt64] (Y, (S, T)) _
        obtain ⟨r3, hr3, h⟩ := bind_el h
        refine go_callS (idx := 140) (z := 0) (M' := M11_in) (n := 3) (A := [vl a2.toInt64, vl 0, vl 1]) (v' := some (vi r3)) (μ' := (Y, (S, T))) (d' := 1) (mc' := 0) (ms' := 0) (kc' := 0) (ks' := 0) (by decide +kernel) ml_11_140 rfl ws11_in rfl (ret11_in hr3) (by decide) rfl rfl (Nat.le_of_ble_eq_true rfl) rfl (jag rfl rfl) ?_
        show Go _ _ _ _ _ _ 51 [(4, vi (S.1 1 8)), (0, rm 0), (1, vi a0), (2, vi a1), (3, vi a2)] [vi r3] (Y, (S, T)) _
        refine ite_el h (fun q4 h => ?_) (fun q4 h => ?_)
        · refine go_if_eq (off := 10) (tgt := 61) (by decide +kernel) (by decide) (fun _ => ?_) (fun z => absurd q4 z)
          refine go_blk rfl [(.bipush (-2), 2, 0, 0, 0, .inl (-2))] 61 63 _ _ _ (by decide +kernel) ?_
          show Go _ _ _ _ _ _ 63 [(4, vi (S.1 1 8)), (0, rm 0), (1, vi a0), (2, vi a1), (3, vi a2)] [vi ((-2))] (Y, (S, T)) _
          obtain ⟨rfl, rfl⟩ := Prod.mk.inj (Option.some.inj h)
          exact go_ireturn (by decide +kernel) rfl rfl ⟨rfl, rfl⟩
        · refine go_if_eq (off := 10) (tgt := 61) (by decide +kernel) (by decide) (fun z => absurd z q4) (fun _ => ?_)
          refine go_blk rfl [(.iload 4, 2, 4, 0, 0, .inl 0), (.bipush 10, 2, 0, 0, 0, .inl 10)] 54 58 _ _ _ (by decide +kernel) ?_
          show Go _ _ _ _ _ _ 58 [(4, vi (S.1 1 8)), (0, rm 0), (1, vi a0), (2, vi a1), (3, vi a2)] [vi 10, vi (S.1 1 8)] (Y, (S, T)) _
          refine ite_el h (fun q5 h => ?_) (fun q5 h => ?_)
          · refine go_icmp_ne (off := 6) (tgt := 64) (by decide +kernel) (by decide) (fun z => absurd q5 z) (fun _ => ?_)
            refine go_blk rfl [(.bipush (-2), 2, 0, 0, 0, .inl (-2))] 61 63 _ _ _ (by decide +kernel) ?_
            show Go _ _ _ _ _ _ 63 [(4, vi (S.1 1 8)), (0, rm 0), (1, vi a0), (2, vi a1), (3, vi a2)] [vi ((-2))] (Y, (S, T)) _
            obtain ⟨rfl, rfl⟩ := Prod.mk.inj (Option.some.inj h)
            exact go_ireturn (by decide +kernel) rfl rfl ⟨rfl, rfl⟩
          · refine go_icmp_ne (off := 6) (tgt := 64) (by decide +kernel) (by decide) (fun _ => ?_) (fun z => absurd z q5)
            refine gd_el h (fun q6 h => ?_)
            refine go_blk rfl [(.aload_n 0, 1, 0, 0, 0, .inl 0), (.getfield 31, 3, 11, 8, 1, .inl 0), (.iload 4, 2, 4, 0, 0, .inl 0), (.iload_n 1, 1, 1, 0, 0, .inl 0), (.iastore, 1, 20, 0, 0, .inl 0)] 64 72 _ _ _ (by decide +kernel) ?_
            refine And.intro (lm_t0 hT) (Exists.intro _ (And.intro (gRm (lm_r8 hT)) ?_))
            refine And.intro (lm_t8 hT) (Exists.intro _ (And.intro (lm_n8 hT) (And.intro (inb_in q6) ?_)))
            show Go _ _ _ _ _ _ 72 [(4, vi (S.1 1 8)), (0, rm 0), (1, vi a0), (2, vi a1), (3, vi a2)] [] (Y, (wI S 8 (S.1 1 8).toNatClampNeg a0, T)) _
            refine go_blk rfl [(.aload_n 0, 1, 0, 0, 0, .inl 0), (.getfield 34, 3, 11, 9, 1, .inl 0), (.iload 4, 2, 4, 0, 0, .inl 0), (.iload_n 2, 1, 2, 0, 0, .inl 0), (.iastore, 1, 20, 0, 0, .inl 0)] 72 80 _ _ _ (by decide +kernel) ?_
            refine And.intro (lm_t0 hT) (Exists.intro _ (And.intro (gRm (lm_r9 hT)) ?_))
            refine And.intro (lm_t9 hT) (Exists.intro _ (And.intro (lm_n9 hT) (And.intro (inb_in q6) ?_)))
            show Go _ _ _ _ _ _ 80 [(4, vi (S.1 1 8)), (0, rm 0), (1, vi a0), (2, vi a1), (3, vi a2)] [] (Y, (wI (wI S 8 (S.1 1 8).toNatClampNeg a0) 9 (S.1 1 8).toNatClampNeg a1, T)) _
            refine go_blk rfl [(.aload_n 0, 1, 0, 0, 0, .inl 0), (.getfield 37, 3, 11, 10, 1, .inl 0), (.iload 4, 2, 4, 0, 0, .inl 0), (.iload_n 3, 1, 3, 0, 0, .inl 0), (.iastore, 1, 20, 0, 0, .inl 0)] 80 88 _ _ _ (by decide +kernel) ?_
            refine And.intro (lm_t0 hT) (Exists.intro _ (And.intro (gRm (lm_r10 hT)) ?_))
            refine And.intro (lm_t10 hT) (Exists.intro _ (And.intro (lm_n10 hT) (And.intro (inb_in q6) ?_)))
            show Go _ _ _ _ _ _ 88 [(4, vi (S.1 1 8)), (0, rm 0), (1, vi a0), (2, vi a1), (3, vi a2)] [] (Y, (wI (wI (wI S 8 (S.1 1 8).toNatClampNeg a0) 9 (S.1 1 8).toNatClampNeg a1) 10 (S.1 1 8).toNatClampNeg a2, T)) _
            refine go_blk rfl [(.aload_n 0, 1, 0, 0, 0, .inl 0), (.getfield 9, 3, 11, 1, 1, .inl 0), (.bipush 8, 2, 0, 0, 0, .inl 8), (.dup2, 1, 0, 0, 0, .inl 0), (.iaload, 1, 20, 0, 0, .inl 0), (.iconst 1, 1, 0, 0, 0, .inl 1), (.iadd, 1, 0, 0, 0, .inl 0), (.iastore, 1, 20, 0, 0, .inl 0)] 88 99 _ _ _ (by decide +kernel) ?_
            refine And.intro (lm_t0 hT) (Exists.intro _ (And.intro (gRm (lm_r1 hT)) ?_))
            refine And.intro (lm_t1 hT) (Exists.intro _ (And.intro (lm_n1 hT) (And.intro (inb_in (by decide)) ?_)))
            refine And.intro (lm_t1 hT) (Exists.intro _ (And.intro (lm_n1 hT) (And.intro (inb_in (by decide)) ?_)))
            show Go _ _ _ _ _ _ 99 [(4, vi (S.1 1 8)), (0, rm 0), (1, vi a0), (2, vi a1), (3, vi a2)] [] (Y, (wI (wI (wI (wI S 8 (S.1 1 8).toNatClampNeg a0) 9 (S.1 1 8).toNatClampNeg a1) 10 (S.1 1 8).toNatClampNeg a2) 1 8 (((wI (wI (wI S 8 (S.1 1 8).toNatClampNeg a0) 9 (S.1 1 8).toNatClampNeg a1) 10 (S.1 1 8).toNatClampNeg a2).1 1 8) + 1), T)) _
            refine go_blk rfl [(.iload 4, 2, 4, 0, 0, .inl 0), (.iconst 1, 1, 0, 0, 0, .inl 1), (.iadd, 1, 0, 0, 0, .inl 0)] 99 103 _ _ _ (by decide +kernel) ?_
            show Go _ _ _ _ _ _ 103 [(4, vi (S.1 1 8)), (0, rm 0), (1, vi a0), (2, vi a1), (3, vi a2)] [vi ((S.1 1 8) + 1)] (Y, (wI (wI (wI (wI S 8 (S.1 1 8).toNatClampNeg a0) 9 (S.1 1 8).toNatClampNeg a1) 10 (S.1 1 8).toNatClampNeg a2) 1 8 (((wI (wI (wI S 8 (S.1 1 8).toNatClampNeg a0) 9 (S.1 1 8).toNatClampNeg a1) 10 (S.1 1 8).toNatClampNeg a2).1 1 8) + 1), T)) _
            obtain ⟨rfl, rfl⟩ := Prod.mk.inj (Option.some.inj h)
            exact go_ireturn (by decide +kernel) rfl rfl ⟨rfl, rfl⟩
def f11_doNotesFit_L1  : Nat → jS → Int32 → Option jS
  | 0, _, _ => none
  | n + 1, S, l1 => (if 20 < l1 then some S else Option.bind (f11_goes S) (fun r1 => (if inb l1 21 then f11_doNotesFit_L1 n (wI r1.1 51 l1.toNatClampNeg (r1.1.1 1 6)) (l1 + 1) else none)))
def f11_doNotesFit_L2 (S : jS) : Nat → Int32 → Option (jS × Int32)
  | 0, _ => none
  | n + 1, l1 => (if (S.1 1 8) ≤ l1 then some (S, 1) else (if inb l1 10 then (if inb (S.1 8 l1.toNatClampNeg) 21 then (if (((S.1 51 (S.1 8 l1.toNatClampNeg).toNatClampNeg) >>> ((S.1 9 l1.toNatClampNeg) &&& 31)) &&& 1) = (S.1 10 l1.toNatClampNeg) then f11_doNotesFit_L2 S n (l1 + 1) else some (S, 0)) else none) else none))
def f11_doNotesFit (S : jS) : Option (jS × Int32) := Option.bind (f11_doNotesFit_L1 jF S 0) (fun y2 => Option.bind (f11_laysBack y2) (fun r3 => f11_doNotesFit_L2 r3.1 jF 0))
theorem f11_doNotesFit_L1_ok {T : jT} {Y : jS × jT} {Q : Option jV → jMem → Prop} (hT : LayM T) : ∀ (n : Nat) (S : jS) (l1 : Int32) (r : jS), f11_doNotesFit_L1 n S l1 = some r → Go M11_doNotesFit 7 0 0 0 0 32 [(0, rm 0)] [] (Y, (r, T)) Q → Go M11_doNotesFit 7 0 0 0 0 2 [(0, rm 0), (1, vi l1)] [] (Y, (S, T)) Q := by
  intro n
  induction n with
  | zero => intro S l1 r h k; exact absurd h (by intro z; cases z)
  | succ n ih =>
    intro S l1 r h k
    rw [f11_doNotesFit_L1] at h
    refine go_blk rfl [(.iload_n 1, 1, 1, 0, 0, .inl 0), (.bipush 20, 2, 0, 0, 0, .inl 20)] 2 5 _ _ _ (by decide +kernel) ?_
    show Go _ _ _ _ _ _ 5 [(0, rm 0), (1, vi l1)] [vi 20, vi l1] (Y, (S, T)) _
    refine ite_el h (fun q1 h => ?_) (fun q1 h => ?_)
    · refine go_icmp_gt (off := 27) (tgt := 32) (by decide +kernel) (by decide) (fun _ => ?_) (fun z => absurd q1 z)
      obtain rfl := Option.some.inj h
      refine go_pick [0] rfl ?_
      exact k
    · refine go_icmp_gt (off := 27) (tgt := 32) (by decide +kernel) (by decide) (fun z => absurd z q1) (fun _ => ?_)
      refine go_blk rfl [(.aload_n 0, 1, 0, 0, 0, .inl 0)] 8 9 _ _ _ (by decide +kernel) ?_
      show Go _ _ _ _ _ _ 9 [(0, rm 0), (1, vi l1)] [rm 0] (Y, (S, T)) _
      obtain ⟨r1, hr1, h⟩ := bind_el h
      refine go_callV (idx := 399) (z := 0) (M' := M11_goes) (n := 0) (A := []) (v' := some (vi r1.2)) (μ' := (Y, (r1.1, T))) (d' := 6) (mc' := 0) (ms' := 0) (kc' := 0) (ks' := 0) (ci := 11) (x := .inr (.inl 0)) (by decide +kernel) ml_11_399 rfl wv11_goes rfl (by decide) rfl (lm_t0 hT) (ret11_goes hT hr1) (by decide) rfl rfl (Nat.le_of_ble_eq_true rfl) rfl (jag rfl rfl) ?_
      show Go _ _ _ _ _ _ 12 [(0, rm 0), (1, vi l1)] [vi r1.2] (Y, (r1.1, T)) _
      refine gd_el h (fun q2 h => ?_)
      refine go_blk rfl [(.pop, 1, 0, 0, 0, .inl 0), (.aload_n 0, 1, 0, 0, 0, .inl 0), (.getfield 124, 3, 11, 51, 1, .inl 0), (.iload_n 1, 1, 1, 0, 0, .inl 0), (.aload_n 0, 1, 0, 0, 0, .inl 0), (.getfield 9, 3, 11, 1, 1, .inl 0), (.bipush 6, 2, 0, 0, 0, .inl 6), (.iaload, 1, 20, 0, 0, .inl 0), (.iastore, 1, 20, 0, 0, .inl 0)] 12 26 _ _ _ (by decide +kernel) ?_
      refine And.intro (lm_t0 hT) (Exists.intro _ (And.intro (gRm (lm_r51 hT)) ?_))
      refine And.intro (lm_t0 hT) (Exists.intro _ (And.intro (gRm (lm_r1 hT)) ?_))
      refine And.intro (lm_t1 hT) (Exists.intro _ (And.intro (lm_n1 hT) (And.intro (inb_in (by decide)) ?_)))
      refine And.intro (lm_t51 hT) (Exists.intro _ (And.intro (lm_n51 hT) (And.intro (inb_in q2) ?_)))
      show Go _ _ _ _ _ _ 26 [(0, rm 0), (1, vi l1)] [] (Y, (wI r1.1 51 l1.toNatClampNeg (r1.1.1 1 6), T)) _
      refine go_blk rfl [(.iinc 1 1, 3, 1, 0, 0, .inl 1)] 26 29 _ _ _ (by decide +kernel) ?_
      show Go _ _ _ _ _ _ 29 [(1, vi (l1 + 1)), (0, rm 0)] [] (Y, (wI r1.1 51 l1.toNatClampNeg (r1.1.1 1 6), T)) _
      refine go_goto (off := (-27)) (tgt := 2) (by decide +kernel) (by decide) ?_
      refine go_pick [1, 0] rfl ?_
      exact ih _ _ _ h k
theorem f11_doNotesFit_L2_ok {T : jT} {Y : jS × jT} {S : jS} {S1 : jS} {x : Int32} (hT : LayM T) : ∀ (n : Nat) (l1 : Int32), f11_doNotesFit_L2 S n l1 = some (S1, x) → Go M11_doNotesFit 7 0 0 0 0 38 [(0, rm 0), (1, vi l1)] [] (Y, (S, T)) (eqQ (some (vi x)) (Y, (S1, T))) := by
  intro n
  induction n with
  | zero => intro l1 h; exact absurd h (by intro z; cases z)
  | succ n ih =>
    intro l1 h
    rw [f11_doNotesFit_L2] at h
    refine go_blk rfl [(.iload_n 1, 1, 1, 0, 0, .inl 0), (.aload_n 0, 1, 0, 0, 0, .inl 0), (.getfield 9, 3, 11, 1, 1, .inl 0), (.bipush 8, 2, 0, 0, 0, .inl 8), (.iaload, 1, 20, 0, 0, .inl 0)] 38 46 _ _ _ (by decide +kernel) ?_
    refine And.intro (lm_t0 hT) (Exists.intro _ (And.intro (gRm (lm_r1 hT)) ?_))
    refine And.intro (lm_t1 hT) (Exists.intro _ (And.intro (lm_n1 hT) (And.intro (inb_in (by decide)) ?_)))
    show Go _ _ _ _ _ _ 46 [(0, rm 0), (1, vi l1)] [vi (S.1 1 8), vi l1] (Y, (S, T)) _
    refine ite_el h (fun q3 h => ?_) (fun q3 h => ?_)
    · refine go_icmp_ge (off := 40) (tgt := 86) (by decide +kernel) (by decide) (fun _ => ?_) (fun z => absurd q3 z)
      refine go_blk rfl [(.iconst 1, 1, 0, 0, 0, .inl 1)] 86 87 _ _ _ (by decide +kernel) ?_
      show Go _ _ _ _ _ _ 87 [(0, rm 0), (1, vi l1)] [vi 1] (Y, (S, T)) _
      obtain ⟨rfl, rfl⟩ := Prod.mk.inj (Option.some.inj h)
      exact go_ireturn (by decide +kernel) rfl rfl ⟨rfl, rfl⟩
    · refine go_icmp_ge (off := 40) (tgt := 86) (by decide +kernel) (by decide) (fun z => absurd z q3) (fun _ => ?_)
      refine gd_el h (fun q4 h => ?_)
      refine gd_el h (fun q5 h => ?_)
      refine go_blk rfl [(.aload_n 0, 1, 0, 0, 0, .inl 0), (.getfield 124, 3, 11, 51, 1, .inl 0), (.aload_n 0, 1, 0, 0, 0, .inl 0), (.getfield 31, 3, 11, 8, 1, .inl 0), (.iload_n 1, 1, 1, 0, 0, .inl 0), (.iaload, 1, 20, 0, 0, .inl 0), (.iaload, 1, 20, 0, 0, .inl 0), (.aload_n 0, 1, 0, 0, 0, .inl 0), (.getfield 34, 3, 11, 9, 1, .inl 0), (.iload_n 1, 1, 1, 0, 0, .inl 0), (.iaload, 1, 20, 0, 0, .inl 0), (.ishr, 1, 0, 0, 0, .inl 0), (.iconst 1, 1, 0, 0, 0, .inl 1), (.iand, 1, 0, 0, 0, .inl 0), (.aload_n 0, 1, 0, 0, 0, .inl 0), (.getfield 37, 3, 11, 10, 1, .inl 0), (.iload_n 1, 1, 1, 0, 0, .inl 0), (.iaload, 1, 20, 0, 0, .inl 0)] 49 75 _ _ _ (by decide +kernel) ?_
      refine And.intro (lm_t0 hT) (Exists.intro _ (And.intro (gRm (lm_r51 hT)) ?_))
      refine And.intro (lm_t0 hT) (Exists.intro _ (And.intro (gRm (lm_r8 hT)) ?_))
      refine And.intro (lm_t8 hT) (Exists.intro _ (And.intro (lm_n8 hT) (And.intro (inb_in q4) ?_)))
      refine And.intro (lm_t51 hT) (Exists.intro _ (And.intro (lm_n51 hT) (And.intro (inb_in q5) ?_)))
      refine And.intro (lm_t0 hT) (Exists.intro _ (And.intro (gRm (lm_r9 hT)) ?_))
      refine And.intro (lm_t9 hT) (Exists.intro _ (And.intro (lm_n9 hT) (And.intro (inb_in q4) ?_)))
      refine And.intro (lm_t0 hT) (Exists.intro _ (And.intro (gRm (lm_r10 hT)) ?_))
      refine And.intro (lm_t10 hT) (Exists.intro _ (And.intro (lm_n10 hT) (And.intro (inb_in q4) ?_)))
      show Go _ _ _ _ _ _ 75 [(0, rm 0), (1, vi l1)] [vi (S.1 10 l1.toNatClampNeg), vi (((S.1 51 (S.1 8 l1.toNatClampNeg).toNatClampNeg) >>> ((S.1 9 l1.toNatClampNeg) &&& 31)) &&& 1)] (Y, (S, T)) _
      refine ite_el h (fun q6 h => ?_) (fun q6 h => ?_)
      · refine go_icmp_eq (off := 5) (tgt := 80) (by decide +kernel) (by decide) (fun _ => ?_) (fun z => absurd q6 z)
        refine go_blk rfl [(.iinc 1 1, 3, 1, 0, 0, .inl 1)] 80 83 _ _ _ (by decide +kernel) ?_
        show Go _ _ _ _ _ _ 83 [(1, vi (l1 + 1)), (0, rm 0)] [] (Y, (S, T)) _
        refine go_goto (off := (-45)) (tgt := 38) (by decide +kernel) (by decide) ?_
        refine go_pick [1, 0] rfl ?_
        exact ih _ h
      · refine go_icmp_eq (off := 5) (tgt := 80) (by decide +kernel) (by decide) (fun z => absurd z q6) (fun _ => ?_)
        refine go_blk rfl [(.iconst 0, 1, 0, 0, 0, .inl 0)] 78 79 _ _ _ (by decide +kernel) ?_
        show Go _ _ _ _ _ _ 79 [(0, rm 0), (1, vi l1)] [vi 0] (Y, (S, T)) _
        obtain ⟨rfl, rfl⟩ := Prod.mk.inj (Option.some.inj h)
        exact go_ireturn (by decide +kernel) rfl rfl ⟨rfl, rfl⟩
theorem ret11_doNotesFit {S : jS} {T : jT} {Y : jS × jT} {S1 : jS} {x : Int32} (hT : LayM T) (h : f11_doNotesFit S = some (S1, x)) : Ret M11_doNotesFit 7 0 0 [rm 0] (Y, (S, T)) (some (vi x)) (Y, (S1, T)) := by
  refine Ret.of (by decide +kernel) (Nat.le_of_ble_eq_true rfl) ?_
  unfold f11_doNotesFit at h
  show Go _ _ _ _ _ _ 0 [(0, rm 0)] [] (Y, (S, T)) _
  refine go_blk rfl [(.iconst 0, 1, 0, 0, 0, .inl 0), (.istore_n 1, 1, 1, 0, 0, .inl 0)] 0 2 _ _ _ (by decide +kernel) ?_
  show Go _ _ _ _ _ _ 2 [(1, vi 0), (0, rm 0)] [] (Y, (S, T)) _
  refine go_pick [1, 0] rfl ?_
  obtain ⟨y2, hy2, h⟩ := bind_el h
  refine f11_doNotesFit_L1_ok hT _ _ _ _ hy2 ?_
  show Go _ _ _ _ _ _ 32 [(0, rm 0)] [] (Y, (y2, T)) _
  refine go_blk rfl [(.aload_n 0, 1, 0, 0, 0, .inl 0)] 32 33 _ _ _ (by decide +kernel) ?_
  show Go _ _ _ _ _ _ 33 [(0, rm 0)] [rm 0] (Y, (y2, T)) _
  obtain ⟨r3, hr3, h⟩ := bind_el h
  refine go_callV (idx := 444) (z := 0) (M' := M11_laysBack) (n := 0) (A := []) (v' := none) (μ' := (Y, (r3.1, T))) (d' := 3) (mc' := 0) (ms' := 0) (kc' := 0) (ks' := 0) (ci := 11) (x := .inr (.inl 0)) (by decide +kernel) ml_11_444 rfl wv11_laysBack rfl (by decide) rfl (lm_t0 hT) (ret11_laysBack hT hr3) (by decide) rfl rfl (Nat.le_of_ble_eq_true rfl) rfl (jag rfl rfl) ?_
  show Go _ _ _ _ _ _ 36 [(0, rm 0)] [] (Y, (r3.1, T)) _
  refine go_blk rfl [(.iconst 0, 1, 0, 0, 0, .inl 0), (.istore_n 1, 1, 1, 0, 0, .inl 0)] 36 38 _ _ _ (by decide +kernel) ?_
  show Go _ _ _ _ _ _ 38 [(1, vi 0), (0, rm 0)] [] (Y, (r3.1, T)) _
  refine go_pick [1, 0] rfl ?_
  exact f11_doNotesFit_L2_ok hT _ _ h
def f11_couldRule (S : jS) (a0 : Int32) : Option (jS × Int32) := Option.bind (f11_begins (wI S 1 10 a0)) (fun r1 => Option.bind (f11_doNotesFit r1.1) (fun r2 => (if r2.2 = 0 ∨ r2.2 = 1 then some (r2.1, r2.2) else none)))
theorem ret11_couldRule {S : jS} {T : jT} {Y : jS × jT} {a0 : Int32} {S1 : jS} {x : Int32} (hT : LayM T) (h : f11_couldRule S a0 = some (S1, x)) : Ret M11_couldRule 8 0 0 [rm 0, vi a0] (Y, (S, T)) (some (vi x)) (Y, (S1, T)) := by
  refine Ret.of (by decide +kernel) (Nat.le_of_ble_eq_true rfl) ?_
  unfold f11_couldRule at h
  show Go _ _ _ _ _ _ 0 [(0, rm 0), (1, vi a0)] [] (Y, (S, T)) _
  refine go_blk rfl [(.aload_n 0, 1, 0, 0, 0, .inl 0), (.getfield 9, 3, 11, 1, 1, .inl 0), (.bipush 10, 2, 0, 0, 0, .inl 10), (.iload_n 1, 1, 1, 0, 0, .inl 0), (.iastore, 1, 20, 0, 0, .inl 0)] 0 8 _ _ _ (by decide +kernel) ?_
  refine And.intro (lm_t0 hT) (Exists.intro _ (And.intro (gRm (lm_r1 hT)) ?_))
  refine And.intro (lm_t1 hT) (Exists.intro _ (And.intro (lm_n1 hT) (And.intro (inb_in (by decide)) ?_)))
  show Go _ _ _ _ _ _ 8 [(0, rm 0), (1, vi a0)] [] (Y, (wI S 1 10 a0, T)) _
  refine go_blk rfl [(.aload_n 0, 1, 0, 0, 0, .inl 0)] 8 9 _ _ _ (by decide +kernel) ?_
  show Go _ _ _ _ _ _ 9 [(0, rm 0), (1, vi a0)] [rm 0] (Y, (wI S 1 10 a0, T)) _
  obtain ⟨r1, hr1, h⟩ := bind_el h
  refine go_callV (idx := 317) (z := 0) (M' := M11_begins) (n := 0) (A := []) (v' := none) (μ' := (Y, (r1.1, T))) (d' := 2) (mc' := 0) (ms' := 0) (kc' := 0) (ks' := 0) (ci := 11) (x := .inr (.inl 0)) (by decide +kernel) ml_11_317 rfl wv11_begins rfl (by decide) rfl (lm_t0 hT) (ret11_begins hT hr1) (by decide) rfl rfl (Nat.le_of_ble_eq_true rfl) rfl (jag rfl rfl) ?_
  show Go _ _ _ _ _ _ 12 [(0, rm 0), (1, vi a0)] [] (Y, (r1.1, T)) _
  refine go_blk rfl [(.aload_n 0, 1, 0, 0, 0, .inl 0)] 12 13 _ _ _ (by decide +kernel) ?_
  show Go _ _ _ _ _ _ 13 [(0, rm 0), (1, vi a0)] [rm 0] (Y, (r1.1, T)) _
  obtain ⟨r2, hr2, h⟩ := bind_el h
  refine go_callV (idx := 492) (z := 0) (M' := M11_doNotesFit) (n := 0) (A := []) (v' := some (vi r2.2)) (μ' := (Y, (r2.1, T))) (d' := 7) (mc' := 0) (ms' := 0) (kc' := 0) (ks' := 0) (ci := 11) (x := .inr (.inl 0)) (by decide +kernel) ml_11_492 rfl wv11_doNotesFit rfl (by decide) rfl (lm_t0 hT) (ret11_doNotesFit hT hr2) (by decide) rfl rfl (Nat.le_of_ble_eq_true rfl) rfl (jag rfl rfl) ?_
  show Go _ _ _ _ _ _ 16 [(0, rm 0), (1, vi a0)] [vi r2.2] (Y, (r2.1, T)) _
  refine gd_el h (fun q h => ?_)
  obtain ⟨rfl, rfl⟩ := Prod.mk.inj (Option.some.inj h)
  exact go_ireturn (by decide +kernel) rfl (by rcases q with q | q <;> rw [q] <;> rfl) ⟨rfl, rfl⟩
def f11_ruled_L1 (l1 : Int32) : Nat → jS → Int32 → Int32 → Int32 → Option (jS × Int32 × Int32)
  | 0, _, _, _, _ => none
  | n + 1, S, l2, l3, l4 => (if (S.1 0 23) ≤ l4 then some (S, l2, l3) else Option.bind (f11_couldRule S l4) (fun r4 => f11_ruled_L1 l1 n r4.1 (((if r4.2 = 0 then l2 else (if l2 = 0 then (l2 + 1) else (l2 + 1))) : Int32)) (((if r4.2 = 0 then l3 else (if l2 = 0 then l4 else l3)) : Int32)) (l4 + 1)))
def f11_ruled (S : jS) (a0 : Int32) : Option (jS × Int32) := Option.bind (f11_isParty S) (fun r1 => (if r1 = 0 then some (S, (-3)) else Option.bind (f11_in a0.toInt64 0 1) (fun r2 => (if r2 = 0 then some (S, (-3)) else Option.bind (f11_keepsAll S) (fun r3 => Option.bind (f11_ruled_L1 a0 jF r3.1 0 ((-2)) ((-1))) (fun y5 => (if a0 = 0 then some (y5.1, y5.2.1) else some (y5.1, y5.2.2))))))))
theorem f11_ruled_L1_ok {T : jT} {Y : jS × jT} {l1 : Int32} {Q : Option jV → jMem → Prop} (hT : LayM T) : ∀ (n : Nat) (S : jS) (l2 : Int32) (l3 : Int32) (l4 : Int32) (r : (jS × Int32 × Int32)), f11_ruled_L1 l1 n S l2 l3 l4 = some r → Go M11_ruled 9 0 0 0 0 70 [(1, vi l1), (2, vi r.2.1), (3, vi r.2.2)] [] (Y, (r.1, T)) Q → Go M11_ruled 9 0 0 0 0 32 [(0, rm 0), (1, vi l1), (2, vi l2), (3, vi l3), (4, vi l4)] [] (Y, (S, T)) Q := by
  intro n
  induction n with
  | zero => intro S l2 l3 l4 r h k; exact absurd h (by intro z; cases z)
  | succ n ih =>
    intro S l2 l3 l4 r h k
    rw [f11_ruled_L1] at h
    refine go_blk rfl [(.iload 4, 2, 4, 0, 0, .inl 0), (.aload_n 0, 1, 0, 0, 0, .inl 0), (.getfield 333, 3, 11, 23, 0, .inl 0)] 32 38 _ _ _ (by decide +kernel) ?_
    refine And.intro (lm_t0 hT) ?_
    show Go _ _ _ _ _ _ 38 [(0, rm 0), (1, vi l1), (2, vi l2), (3, vi l3), (4, vi l4)] [vi (S.1 0 23), vi l4] (Y, (S, T)) _
    refine ite_el h (fun q3 h => ?_) (fun q3 h => ?_)
    · refine go_icmp_ge (off := 32) (tgt := 70) (by decide +kernel) (by decide) (fun _ => ?_) (fun z => absurd q3 z)
      obtain rfl := Option.some.inj h
      refine go_pick [1, 2, 3] rfl ?_
      exact k
    · refine go_icmp_ge (off := 32) (tgt := 70) (by decide +kernel) (by decide) (fun z => absurd z q3) (fun _ => ?_)
      refine go_blk rfl [(.aload_n 0, 1, 0, 0, 0, .inl 0), (.iload 4, 2, 4, 0, 0, .inl 0)] 41 44 _ _ _ (by decide +kernel) ?_
      show Go _ _ _ _ _ _ 44 [(0, rm 0), (1, vi l1), (2, vi l2), (3, vi l3), (4, vi l4)] [vi l4, rm 0] (Y, (S, T)) _
      obtain ⟨r4, hr4, h⟩ := bind_el h
      refine go_callV (idx := 495) (z := 0) (M' := M11_couldRule) (n := 1) (A := [vi l4]) (v' := some (vi r4.2)) (μ' := (Y, (r4.1, T))) (d' := 8) (mc' := 0) (ms' := 0) (kc' := 0) (ks' := 0) (ci := 11) (x := .inr (.inl 0)) (by decide +kernel) ml_11_495 rfl wv11_couldRule rfl (by decide) rfl (lm_t0 hT) (ret11_couldRule hT hr4) (by decide) rfl rfl (Nat.le_of_ble_eq_true rfl) rfl (jag rfl rfl) ?_
      show Go _ _ _ _ _ _ 47 [(0, rm 0), (1, vi l1), (2, vi l2), (3, vi l3), (4, vi l4)] [vi r4.2] (Y, (r4.1, T)) _
      have key : ∀ z0 : Int32, z0 = ((if r4.2 = 0 then l2 else (if l2 = 0 then (l2 + 1) else (l2 + 1))) : Int32) → ∀ z1 : Int32, z1 = ((if r4.2 = 0 then l3 else (if l2 = 0 then l4 else l3)) : Int32) → Go M11_ruled 9 0 0 0 0 64 [(0, rm 0), (1, vi l1), (2, vi z0), (3, vi z1), (4, vi l4)] [] (Y, (r4.1, T)) Q := by
        intro z0 ez0 z1 ez1
        subst ez0
        subst ez1
        refine go_blk rfl [(.iinc 4 1, 3, 4, 0, 0, .inl 1)] 64 67 _ _ _ (by decide +kernel) ?_
        show Go _ _ _ _ _ _ 67 [(4, vi (l4 + 1)), (0, rm 0), (1, vi l1), (2, vi (((if r4.2 = 0 then l2 else (if l2 = 0 then (l2 + 1) else (l2 + 1))) : Int32))), (3, vi (((if r4.2 = 0 then l3 else (if l2 = 0 then l4 else l3)) : Int32)))] [] (Y, (r4.1, T)) _
        refine go_goto (off := (-35)) (tgt := 32) (by decide +kernel) (by decide) ?_
        refine go_pick [1, 2, 3, 4, 0] rfl ?_
        exact ih _ _ _ _ _ h k
      clear h
      by_cases q4 : r4.2 = 0
      · refine go_if_eq (off := 17) (tgt := 64) (by decide +kernel) (by decide) (fun _ => ?_) (fun z => absurd q4 z)
        refine go_pick [0, 1, 2, 3, 4] rfl ?_; exact key _ (by rw [if_pos q4]) _ (by rw [if_pos q4])
      · refine go_if_eq (off := 17) (tgt := 64) (by decide +kernel) (by decide) (fun z => absurd z q4) (fun _ => ?_)
        refine go_blk rfl [(.iload_n 2, 1, 2, 0, 0, .inl 0)] 50 51 _ _ _ (by decide +kernel) ?_
        show Go _ _ _ _ _ _ 51 [(0, rm 0), (1, vi l1), (2, vi l2), (3, vi l3), (4, vi l4)] [vi l2] (Y, (r4.1, T)) _
        by_cases q5 : l2 = 0
        · refine go_if_ne (off := 8) (tgt := 59) (by decide +kernel) (by decide) (fun z => absurd q5 z) (fun _ => ?_)
          refine go_blk rfl [(.iload 4, 2, 4, 0, 0, .inl 0)] 54 56 _ _ _ (by decide +kernel) ?_
          show Go _ _ _ _ _ _ 56 [(0, rm 0), (1, vi l1), (2, vi l2), (3, vi l3), (4, vi l4)] [vi l4] (Y, (r4.1, T)) _
          refine go_goto (off := 4) (tgt := 60) (by decide +kernel) (by decide) ?_
          refine go_blk rfl [(.istore_n 3, 1, 3, 0, 0, .inl 0), (.iinc 2 1, 3, 2, 0, 0, .inl 1)] 60 64 _ _ _ (by decide +kernel) ?_
          show Go _ _ _ _ _ _ 64 [(2, vi (l2 + 1)), (3, vi l4), (0, rm 0), (1, vi l1), (4, vi l4)] [] (Y, (r4.1, T)) _
          refine go_pick [2, 3, 0, 1, 4] rfl ?_; exact key _ (by rw [if_neg q4, if_pos q5]) _ (by rw [if_neg q4, if_pos q5])
        · refine go_if_ne (off := 8) (tgt := 59) (by decide +kernel) (by decide) (fun _ => ?_) (fun z => absurd z q5)
          refine go_blk rfl [(.iload_n 3, 1, 3, 0, 0, .inl 0), (.istore_n 3, 1, 3, 0, 0, .inl 0), (.iinc 2 1, 3, 2, 0, 0, .inl 1)] 59 64 _ _ _ (by decide +kernel) ?_
          show Go _ _ _ _ _ _ 64 [(2, vi (l2 + 1)), (3, vi l3), (0, rm 0), (1, vi l1), (4, vi l4)] [] (Y, (r4.1, T)) _
          refine go_pick [2, 3, 0, 1, 4] rfl ?_; exact key _ (by rw [if_neg q4, if_neg q5]) _ (by rw [if_neg q4, if_neg q5])
theorem ret11_ruled {S : jS} {T : jT} {Y : jS × jT} {a0 : Int32} {S1 : jS} {x : Int32} (hT : LayM T) (h : f11_ruled S a0 = some (S1, x)) : Ret M11_ruled 9 0 0 [rm 0, vi a0] (Y, (S, T)) (some (vi x)) (Y, (S1, T)) := by
  refine Ret.of (by decide +kernel) (Nat.le_of_ble_eq_true rfl) ?_
  unfold f11_ruled at h
  show Go _ _ _ _ _ _ 0 [(0, rm 0), (1, vi a0)] [] (Y, (S, T)) _
  refine go_blk rfl [(.aload_n 0, 1, 0, 0, 0, .inl 0)] 0 1 _ _ _ (by decide +kernel) ?_
  show Go _ _ _ _ _ _ 1 [(0, rm 0), (1, vi a0)] [rm 0] (Y, (S, T)) _
  obtain ⟨r1, hr1, h⟩ := bind_el h
  refine go_callV (idx := 420) (z := 0) (M' := M11_isParty) (n := 0) (A := []) (v' := some (vi r1)) (μ' := (Y, (S, T))) (d' := 1) (mc' := 0) (ms' := 0) (kc' := 0) (ks' := 0) (ci := 11) (x := .inr (.inl 0)) (by decide +kernel) ml_11_420 rfl wv11_isParty rfl (by decide) rfl (lm_t0 hT) (ret11_isParty hT hr1) (by decide) rfl rfl (Nat.le_of_ble_eq_true rfl) rfl (jag rfl rfl) ?_
  show Go _ _ _ _ _ _ 4 [(0, rm 0), (1, vi a0)] [vi r1] (Y, (S, T)) _
  refine ite_el h (fun q1 h => ?_) (fun q1 h => ?_)
  · refine go_if_eq (off := 13) (tgt := 17) (by decide +kernel) (by decide) (fun _ => ?_) (fun z => absurd q1 z)
    refine go_blk rfl [(.bipush (-3), 2, 0, 0, 0, .inl (-3))] 17 19 _ _ _ (by decide +kernel) ?_
    show Go _ _ _ _ _ _ 19 [(0, rm 0), (1, vi a0)] [vi ((-3))] (Y, (S, T)) _
    obtain ⟨rfl, rfl⟩ := Prod.mk.inj (Option.some.inj h)
    exact go_ireturn (by decide +kernel) rfl rfl ⟨rfl, rfl⟩
  · refine go_if_eq (off := 13) (tgt := 17) (by decide +kernel) (by decide) (fun z => absurd z q1) (fun _ => ?_)
    refine go_blk rfl [(.iload_n 1, 1, 1, 0, 0, .inl 0), (.i2l, 1, 0, 0, 0, .inl 0), (.lconst 0, 1, 0, 0, 0, .inr (.inl 0)), (.lconst 1, 1, 0, 0, 0, .inr (.inl 1))] 7 11 _ _ _ (by decide +kernel) ?_
    show Go _ _ _ _ _ _ 11 [(0, rm 0), (1, vi a0)] [vl 1, vl 0, vl a0.toInt64] (Y, (S, T)) _
    obtain ⟨r2, hr2, h⟩ := bind_el h
    refine go_callS (idx := 140) (z := 0) (M' := M11_in) (n := 3) (A := [vl a0.toInt64, vl 0, vl 1]) (v' := some (vi r2)) (μ' := (Y, (S, T))) (d' := 1) (mc' := 0) (ms' := 0) (kc' := 0) (ks' := 0) (by decide +kernel) ml_11_140 rfl ws11_in rfl (ret11_in hr2) (by decide) rfl rfl (Nat.le_of_ble_eq_true rfl) rfl (jag rfl rfl) ?_
    show Go _ _ _ _ _ _ 14 [(0, rm 0), (1, vi a0)] [vi r2] (Y, (S, T)) _
    refine ite_el h (fun q2 h => ?_) (fun q2 h => ?_)
    · refine go_if_ne (off := 6) (tgt := 20) (by decide +kernel) (by decide) (fun z => absurd q2 z) (fun _ => ?_)
      refine go_blk rfl [(.bipush (-3), 2, 0, 0, 0, .inl (-3))] 17 19 _ _ _ (by decide +kernel) ?_
      show Go _ _ _ _ _ _ 19 [(0, rm 0), (1, vi a0)] [vi ((-3))] (Y, (S, T)) _
      obtain ⟨rfl, rfl⟩ := Prod.mk.inj (Option.some.inj h)
      exact go_ireturn (by decide +kernel) rfl rfl ⟨rfl, rfl⟩
    · refine go_if_ne (off := 6) (tgt := 20) (by decide +kernel) (by decide) (fun _ => ?_) (fun z => absurd z q2)
      refine go_blk rfl [(.aload_n 0, 1, 0, 0, 0, .inl 0)] 20 21 _ _ _ (by decide +kernel) ?_
      show Go _ _ _ _ _ _ 21 [(0, rm 0), (1, vi a0)] [rm 0] (Y, (S, T)) _
      obtain ⟨r3, hr3, h⟩ := bind_el h
      refine go_callV (idx := 438) (z := 0) (M' := M11_keepsAll) (n := 0) (A := []) (v' := none) (μ' := (Y, (r3.1, T))) (d' := 3) (mc' := 0) (ms' := 0) (kc' := 0) (ks' := 0) (ci := 11) (x := .inr (.inl 0)) (by decide +kernel) ml_11_438 rfl wv11_keepsAll rfl (by decide) rfl (lm_t0 hT) (ret11_keepsAll hT hr3) (by decide) rfl rfl (Nat.le_of_ble_eq_true rfl) rfl (jag rfl rfl) ?_
      show Go _ _ _ _ _ _ 24 [(0, rm 0), (1, vi a0)] [] (Y, (r3.1, T)) _
      refine go_blk rfl [(.iconst 0, 1, 0, 0, 0, .inl 0), (.istore_n 2, 1, 2, 0, 0, .inl 0), (.bipush (-2), 2, 0, 0, 0, .inl (-2)), (.istore_n 3, 1, 3, 0, 0, .inl 0), (.iconst (-1), 1, 0, 0, 0, .inl (-1)), (.istore 4, 2, 4, 0, 0, .inl 0)] 24 32 _ _ _ (by decide +kernel) ?_
      show Go _ _ _ _ _ _ 32 [(4, vi ((-1))), (3, vi ((-2))), (2, vi 0), (0, rm 0), (1, vi a0)] [] (Y, (r3.1, T)) _
      refine go_pick [3, 4, 2, 1, 0] rfl ?_
      obtain ⟨y5, hy5, h⟩ := bind_el h
      refine f11_ruled_L1_ok hT _ _ _ _ _ _ hy5 ?_
      show Go _ _ _ _ _ _ 70 [(1, vi a0), (2, vi y5.2.1), (3, vi y5.2.2)] [] (Y, (y5.1, T)) _
      refine go_blk rfl [(.iload_n 1, 1, 1, 0, 0, .inl 0)] 70 71 _ _ _ (by decide +kernel) ?_
      show Go _ _ _ _ _ _ 71 [(1, vi a0), (2, vi y5.2.1), (3, vi y5.2.2)] [vi a0] (Y, (y5.1, T)) _
      refine ite_el h (fun q6 h => ?_) (fun q6 h => ?_)
      · refine go_if_ne (off := 7) (tgt := 78) (by decide +kernel) (by decide) (fun z => absurd q6 z) (fun _ => ?_)
        refine go_blk rfl [(.iload_n 2, 1, 2, 0, 0, .inl 0)] 74 75 _ _ _ (by decide +kernel) ?_
        show Go _ _ _ _ _ _ 75 [(1, vi a0), (2, vi y5.2.1), (3, vi y5.2.2)] [vi y5.2.1] (Y, (y5.1, T)) _
        refine go_goto (off := 4) (tgt := 79) (by decide +kernel) (by decide) ?_
        obtain ⟨rfl, rfl⟩ := Prod.mk.inj (Option.some.inj h)
        exact go_ireturn (by decide +kernel) rfl rfl ⟨rfl, rfl⟩
      · refine go_if_ne (off := 7) (tgt := 78) (by decide +kernel) (by decide) (fun _ => ?_) (fun z => absurd z q6)
        refine go_blk rfl [(.iload_n 3, 1, 3, 0, 0, .inl 0)] 78 79 _ _ _ (by decide +kernel) ?_
        show Go _ _ _ _ _ _ 79 [(1, vi a0), (2, vi y5.2.1), (3, vi y5.2.2)] [vi y5.2.2] (Y, (y5.1, T)) _
        obtain ⟨rfl, rfl⟩ := Prod.mk.inj (Option.some.inj h)
        exact go_ireturn (by decide +kernel) rfl rfl ⟨rfl, rfl⟩
def f11_steps_L1 (l1 : Int32) : Nat → jS → Int32 → Int32 → Option (jS × Int32)
  | 0, _, _, _ => none
  | n + 1, S, l2, l3 => (if 5 < l3 then some (S, l2) else Option.bind (f11_begins S) (fun r3 => (if inb l1 7 then Option.bind (f11_doNotesFit (wI r3.1 3 l1.toNatClampNeg l3)) (fun r4 => f11_steps_L1 l1 n r4.1 (l2 ||| (((if r4.2 = 0 then 0 else ((1 : Int32) <<< (l3 &&& 31))) : Int32))) (l3 + 1)) else none)))
def f11_steps (S : jS) (a0 : Int32) : Option (jS × Int32) := Option.bind (f11_isGuest S a0) (fun r1 => (if r1 = 0 then some (S, (-1)) else Option.bind (f11_keepsAll S) (fun r2 => Option.bind (f11_steps_L1 a0 jF r2.1 0 0) (fun y5 => some (y5.1, y5.2)))))
theorem f11_steps_L1_ok {T : jT} {Y : jS × jT} {l1 : Int32} {Q : Option jV → jMem → Prop} (hT : LayM T) : ∀ (n : Nat) (S : jS) (l2 : Int32) (l3 : Int32) (r : (jS × Int32)), f11_steps_L1 l1 n S l2 l3 = some r → Go M11_steps 8 0 0 0 0 57 [(2, vi r.2)] [] (Y, (r.1, T)) Q → Go M11_steps 8 0 0 0 0 18 [(0, rm 0), (1, vi l1), (2, vi l2), (3, vi l3)] [] (Y, (S, T)) Q := by
  intro n
  induction n with
  | zero => intro S l2 l3 r h k; exact absurd h (by intro z; cases z)
  | succ n ih =>
    intro S l2 l3 r h k
    rw [f11_steps_L1] at h
    refine go_blk rfl [(.iload_n 3, 1, 3, 0, 0, .inl 0), (.iconst 5, 1, 0, 0, 0, .inl 5)] 18 20 _ _ _ (by decide +kernel) ?_
    show Go _ _ _ _ _ _ 20 [(0, rm 0), (1, vi l1), (2, vi l2), (3, vi l3)] [vi 5, vi l3] (Y, (S, T)) _
    refine ite_el h (fun q2 h => ?_) (fun q2 h => ?_)
    · refine go_icmp_gt (off := 37) (tgt := 57) (by decide +kernel) (by decide) (fun _ => ?_) (fun z => absurd q2 z)
      obtain rfl := Option.some.inj h
      refine go_pick [2] rfl ?_
      exact k
    · refine go_icmp_gt (off := 37) (tgt := 57) (by decide +kernel) (by decide) (fun z => absurd z q2) (fun _ => ?_)
      refine go_blk rfl [(.aload_n 0, 1, 0, 0, 0, .inl 0)] 23 24 _ _ _ (by decide +kernel) ?_
      show Go _ _ _ _ _ _ 24 [(0, rm 0), (1, vi l1), (2, vi l2), (3, vi l3)] [rm 0] (Y, (S, T)) _
      obtain ⟨r3, hr3, h⟩ := bind_el h
      refine go_callV (idx := 317) (z := 0) (M' := M11_begins) (n := 0) (A := []) (v' := none) (μ' := (Y, (r3.1, T))) (d' := 2) (mc' := 0) (ms' := 0) (kc' := 0) (ks' := 0) (ci := 11) (x := .inr (.inl 0)) (by decide +kernel) ml_11_317 rfl wv11_begins rfl (by decide) rfl (lm_t0 hT) (ret11_begins hT hr3) (by decide) rfl rfl (Nat.le_of_ble_eq_true rfl) rfl (jag rfl rfl) ?_
      show Go _ _ _ _ _ _ 27 [(0, rm 0), (1, vi l1), (2, vi l2), (3, vi l3)] [] (Y, (r3.1, T)) _
      refine gd_el h (fun q3 h => ?_)
      refine go_blk rfl [(.aload_n 0, 1, 0, 0, 0, .inl 0), (.getfield 16, 3, 11, 3, 1, .inl 0), (.iload_n 1, 1, 1, 0, 0, .inl 0), (.iload_n 3, 1, 3, 0, 0, .inl 0), (.iastore, 1, 20, 0, 0, .inl 0)] 27 34 _ _ _ (by decide +kernel) ?_
      refine And.intro (lm_t0 hT) (Exists.intro _ (And.intro (gRm (lm_r3 hT)) ?_))
      refine And.intro (lm_t3 hT) (Exists.intro _ (And.intro (lm_n3 hT) (And.intro (inb_in q3) ?_)))
      show Go _ _ _ _ _ _ 34 [(0, rm 0), (1, vi l1), (2, vi l2), (3, vi l3)] [] (Y, (wI r3.1 3 l1.toNatClampNeg l3, T)) _
      refine go_blk rfl [(.iload_n 2, 1, 2, 0, 0, .inl 0), (.aload_n 0, 1, 0, 0, 0, .inl 0)] 34 36 _ _ _ (by decide +kernel) ?_
      show Go _ _ _ _ _ _ 36 [(0, rm 0), (1, vi l1), (2, vi l2), (3, vi l3)] [rm 0, vi l2] (Y, (wI r3.1 3 l1.toNatClampNeg l3, T)) _
      obtain ⟨r4, hr4, h⟩ := bind_el h
      refine go_callV (idx := 492) (z := 0) (M' := M11_doNotesFit) (n := 0) (A := []) (v' := some (vi r4.2)) (μ' := (Y, (r4.1, T))) (d' := 7) (mc' := 0) (ms' := 0) (kc' := 0) (ks' := 0) (ci := 11) (x := .inr (.inl 0)) (by decide +kernel) ml_11_492 rfl wv11_doNotesFit rfl (by decide) rfl (lm_t0 hT) (ret11_doNotesFit hT hr4) (by decide) rfl rfl (Nat.le_of_ble_eq_true rfl) rfl (jag rfl rfl) ?_
      show Go _ _ _ _ _ _ 39 [(0, rm 0), (1, vi l1), (2, vi l2), (3, vi l3)] [vi r4.2, vi l2] (Y, (r4.1, T)) _
      have key : ∀ z0 : Int32, z0 = ((if r4.2 = 0 then 0 else ((1 : Int32) <<< (l3 &&& 31))) : Int32) → Go M11_steps 8 0 0 0 0 49 [(0, rm 0), (1, vi l1), (3, vi l3)] [vi z0, vi l2] (Y, (r4.1, T)) Q := by
        intro z0 ez0
        subst ez0
        refine go_blk rfl [(.ior, 1, 0, 0, 0, .inl 0), (.istore_n 2, 1, 2, 0, 0, .inl 0), (.iinc 3 1, 3, 3, 0, 0, .inl 1)] 49 54 _ _ _ (by decide +kernel) ?_
        show Go _ _ _ _ _ _ 54 [(3, vi (l3 + 1)), (2, vi (l2 ||| (((if r4.2 = 0 then 0 else ((1 : Int32) <<< (l3 &&& 31))) : Int32)))), (0, rm 0), (1, vi l1)] [] (Y, (r4.1, T)) _
        refine go_goto (off := (-36)) (tgt := 18) (by decide +kernel) (by decide) ?_
        refine go_pick [2, 3, 1, 0] rfl ?_
        exact ih _ _ _ _ h k
      clear h
      by_cases q4 : r4.2 = 0
      · refine go_if_eq (off := 9) (tgt := 48) (by decide +kernel) (by decide) (fun _ => ?_) (fun z => absurd q4 z)
        refine go_blk rfl [(.iconst 0, 1, 0, 0, 0, .inl 0)] 48 49 _ _ _ (by decide +kernel) ?_
        show Go _ _ _ _ _ _ 49 [(0, rm 0), (1, vi l1), (2, vi l2), (3, vi l3)] [vi 0, vi l2] (Y, (r4.1, T)) _
        refine go_pick [0, 1, 3] rfl ?_; exact key _ (by rw [if_pos q4])
      · refine go_if_eq (off := 9) (tgt := 48) (by decide +kernel) (by decide) (fun z => absurd z q4) (fun _ => ?_)
        refine go_blk rfl [(.iconst 1, 1, 0, 0, 0, .inl 1), (.iload_n 3, 1, 3, 0, 0, .inl 0), (.ishl, 1, 0, 0, 0, .inl 0)] 42 45 _ _ _ (by decide +kernel) ?_
        show Go _ _ _ _ _ _ 45 [(0, rm 0), (1, vi l1), (2, vi l2), (3, vi l3)] [vi ((1 : Int32) <<< (l3 &&& 31)), vi l2] (Y, (r4.1, T)) _
        refine go_goto (off := 4) (tgt := 49) (by decide +kernel) (by decide) ?_
        refine go_pick [0, 1, 3] rfl ?_; exact key _ (by rw [if_neg q4])
theorem ret11_steps {S : jS} {T : jT} {Y : jS × jT} {a0 : Int32} {S1 : jS} {x : Int32} (hT : LayM T) (h : f11_steps S a0 = some (S1, x)) : Ret M11_steps 8 0 0 [rm 0, vi a0] (Y, (S, T)) (some (vi x)) (Y, (S1, T)) := by
  refine Ret.of (by decide +kernel) (Nat.le_of_ble_eq_true rfl) ?_
  unfold f11_steps at h
  show Go _ _ _ _ _ _ 0 [(0, rm 0), (1, vi a0)] [] (Y, (S, T)) _
  refine go_blk rfl [(.aload_n 0, 1, 0, 0, 0, .inl 0), (.iload_n 1, 1, 1, 0, 0, .inl 0)] 0 2 _ _ _ (by decide +kernel) ?_
  show Go _ _ _ _ _ _ 2 [(0, rm 0), (1, vi a0)] [vi a0, rm 0] (Y, (S, T)) _
  obtain ⟨r1, hr1, h⟩ := bind_el h
  refine go_callV (idx := 144) (z := 0) (M' := M11_isGuest) (n := 1) (A := [vi a0]) (v' := some (vi r1)) (μ' := (Y, (S, T))) (d' := 2) (mc' := 0) (ms' := 0) (kc' := 0) (ks' := 0) (ci := 11) (x := .inr (.inl 0)) (by decide +kernel) ml_11_144 rfl wv11_isGuest rfl (by decide) rfl (lm_t0 hT) (ret11_isGuest hT hr1) (by decide) rfl rfl (Nat.le_of_ble_eq_true rfl) rfl (jag rfl rfl) ?_
  show Go _ _ _ _ _ _ 5 [(0, rm 0), (1, vi a0)] [vi r1] (Y, (S, T)) _
  refine ite_el h (fun q1 h => ?_) (fun q1 h => ?_)
  · refine go_if_ne (off := 5) (tgt := 10) (by decide +kernel) (by decide) (fun z => absurd q1 z) (fun _ => ?_)
    refine go_blk rfl [(.iconst (-1), 1, 0, 0, 0, .inl (-1))] 8 9 _ _ _ (by decide +kernel) ?_
    show Go _ _ _ _ _ _ 9 [(0, rm 0), (1, vi a0)] [vi ((-1))] (Y, (S, T)) _
    obtain ⟨rfl, rfl⟩ := Prod.mk.inj (Option.some.inj h)
    exact go_ireturn (by decide +kernel) rfl rfl ⟨rfl, rfl⟩
  · refine go_if_ne (off := 5) (tgt := 10) (by decide +kernel) (by decide) (fun _ => ?_) (fun z => absurd z q1)
    refine go_blk rfl [(.aload_n 0, 1, 0, 0, 0, .inl 0)] 10 11 _ _ _ (by decide +kernel) ?_
    show Go _ _ _ _ _ _ 11 [(0, rm 0), (1, vi a0)] [rm 0] (Y, (S, T)) _
    obtain ⟨r2, hr2, h⟩ := bind_el h
    refine go_callV (idx := 438) (z := 0) (M' := M11_keepsAll) (n := 0) (A := []) (v' := none) (μ' := (Y, (r2.1, T))) (d' := 3) (mc' := 0) (ms' := 0) (kc' := 0) (ks' := 0) (ci := 11) (x := .inr (.inl 0)) (by decide +kernel) ml_11_438 rfl wv11_keepsAll rfl (by decide) rfl (lm_t0 hT) (ret11_keepsAll hT hr2) (by decide) rfl rfl (Nat.le_of_ble_eq_true rfl) rfl (jag rfl rfl) ?_
    show Go _ _ _ _ _ _ 14 [(0, rm 0), (1, vi a0)] [] (Y, (r2.1, T)) _
    refine go_blk rfl [(.iconst 0, 1, 0, 0, 0, .inl 0), (.istore_n 2, 1, 2, 0, 0, .inl 0), (.iconst 0, 1, 0, 0, 0, .inl 0), (.istore_n 3, 1, 3, 0, 0, .inl 0)] 14 18 _ _ _ (by decide +kernel) ?_
    show Go _ _ _ _ _ _ 18 [(3, vi 0), (2, vi 0), (0, rm 0), (1, vi a0)] [] (Y, (r2.1, T)) _
    refine go_pick [2, 3, 1, 0] rfl ?_
    obtain ⟨y5, hy5, h⟩ := bind_el h
    refine f11_steps_L1_ok hT _ _ _ _ _ hy5 ?_
    show Go _ _ _ _ _ _ 57 [(2, vi y5.2)] [] (Y, (y5.1, T)) _
    refine go_blk rfl [(.iload_n 2, 1, 2, 0, 0, .inl 0)] 57 58 _ _ _ (by decide +kernel) ?_
    show Go _ _ _ _ _ _ 58 [(2, vi y5.2)] [vi y5.2] (Y, (y5.1, T)) _
    obtain ⟨rfl, rfl⟩ := Prod.mk.inj (Option.some.inj h)
    exact go_ireturn (by decide +kernel) rfl rfl ⟨rfl, rfl⟩
