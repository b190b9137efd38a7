def f11_laysLeast_L1 (l1 : Int32) (l2 : Int32) (l3 : Int32) : Nat → jS → Int32 → Option jS
  | 0, _, _ => none
  | n + 1, S, l4 => (if 64 ≤ l4 then some S else Option.bind (f11_bits l4) (fun r6 => (if inb ((64 * l2) + l4) 512 then f11_laysLeast_L1 l1 l2 l3 n (wI S 47 ((64 * l2) + l4).toNatClampNeg (((if r6 = l3 then 0 else 99999) : Int32))) (l4 + 1) else none)))
def f11_laysLeast_L3 (l1 : Int32) (l4 : Int32) : Nat → jS → Int32 → Option jS
  | 0, _, _ => none
  | n + 1, S, l5 => (if 64 ≤ l5 then some S else Option.bind (f11_leastFrom S l4 l5 l1) (fun r8 => (if inb ((64 * l4) + l5) 512 then f11_laysLeast_L3 l1 l4 n (wI S 47 ((64 * l4) + l5).toNatClampNeg r8) (l5 + 1) else none)))
def f11_laysLeast_L2 (l1 : Int32) : Nat → jS → Int32 → Option jS
  | 0, _, _ => none
  | n + 1, S, l4 => (if l4 < 0 then some S else Option.bind (f11_laysLeast_L3 l1 l4 jF S 0) (fun y9 => f11_laysLeast_L2 l1 n y9 (l4 + (-1))))
def f11_laysLeast (S : jS) (a0 : Int32) : Option (jS × Unit) := Option.bind (f11_bits (S.1 1 6)) (fun r1 => Option.bind (f11_bits (S.1 1 7)) (fun r2 => Option.bind (if r2 ≤ r1 then Option.bind (f11_bits (S.1 1 7)) (fun r3 => some r3) else Option.bind (f11_bits (S.1 1 6)) (fun r4 => some r4)) (fun (y5 : Int32) => Option.bind (f11_laysLeast_L1 a0 (S.1 1 2) y5 jF S 0) (fun y7 => Option.bind (f11_laysLeast_L2 a0 jF y7 ((S.1 1 2) - 1)) (fun y10 => some (y10, ()))))))
theorem f11_laysLeast_L1_ok {T : jT} {Y : jS × jT} {l1 : Int32} {l2 : Int32} {l3 : Int32} {Q : Option jV → jMem → Prop} (hT : LayM T) : ∀ (n : Nat) (S : jS) (l4 : Int32) (r : jS), f11_laysLeast_L1 l1 l2 l3 n S l4 = some r → Go M11_laysLeast 3 0 0 0 0 97 [(0, rm 0), (1, vi l1), (2, vi l2)] [] (Y, (r, T)) Q → Go M11_laysLeast 3 0 0 0 0 57 [(0, rm 0), (1, vi l1), (2, vi l2), (3, vi l3), (4, vi l4)] [] (Y, (S, T)) Q := by
  intro n
  induction n with
  | zero => intro S l4 r h k; exact absurd h (by intro z; cases z)
  | succ n ih =>
    intro S l4 r h k
    rw [f11_laysLeast_L1] at h
    refine go_blk rfl [(.iload 4, 2, 4, 0, 0, .inl 0), (.bipush 64, 2, 0, 0, 0, .inl 64)] 57 61 _ _ _ (by decide +kernel) ?_
    show Go _ _ _ _ _ _ 61 [(0, rm 0), (1, vi l1), (2, vi l2), (3, vi l3), (4, vi l4)] [vi 64, vi l4] (Y, (S, T)) _
    refine ite_el h (fun q2 h => ?_) (fun q2 h => ?_)
    · refine go_icmp_ge (off := 36) (tgt := 97) (by decide +kernel) (by decide) (fun _ => ?_) (fun z => absurd q2 z)
      obtain rfl := Option.some.inj h
      refine go_pick [0, 1, 2] rfl ?_
      exact k
    · refine go_icmp_ge (off := 36) (tgt := 97) (by decide +kernel) (by decide) (fun z => absurd z q2) (fun _ => ?_)
      refine go_blk rfl [(.aload_n 0, 1, 0, 0, 0, .inl 0), (.getfield 112, 3, 11, 47, 1, .inl 0), (.bipush 64, 2, 0, 0, 0, .inl 64), (.iload_n 2, 1, 2, 0, 0, .inl 0), (.imul, 1, 0, 0, 0, .inl 0), (.iload 4, 2, 4, 0, 0, .inl 0), (.iadd, 1, 0, 0, 0, .inl 0), (.iload 4, 2, 4, 0, 0, .inl 0)] 64 77 _ _ _ (by decide +kernel) ?_
      refine And.intro (lm_t0 hT) (Exists.intro _ (And.intro (gRm (lm_r47 hT)) ?_))
      show Go _ _ _ _ _ _ 77 [(0, rm 0), (1, vi l1), (2, vi l2), (3, vi l3), (4, vi l4)] [vi l4, vi ((64 * l2) + l4), rm 47] (Y, (S, T)) _
      obtain ⟨r6, hr6, h⟩ := bind_el h
      refine go_callS (idx := 359) (z := 0) (M' := M11_bits) (n := 1) (A := [vi l4]) (v' := some (vi r6)) (μ' := (Y, (S, T))) (d' := 1) (mc' := 0) (ms' := 0) (kc' := 0) (ks' := 0) (by decide +kernel) ml_11_359 rfl ws11_bits rfl (ret11_bits hr6) (by decide) rfl rfl (Nat.le_of_ble_eq_true rfl) rfl (jag rfl rfl) ?_
      show Go _ _ _ _ _ _ 80 [(0, rm 0), (1, vi l1), (2, vi l2), (3, vi l3), (4, vi l4)] [vi r6, vi ((64 * l2) + l4), rm 47] (Y, (S, T)) _
      refine go_blk rfl [(.iload_n 3, 1, 3, 0, 0, .inl 0)] 80 81 _ _ _ (by decide +kernel) ?_
      show Go _ _ _ _ _ _ 81 [(0, rm 0), (1, vi l1), (2, vi l2), (3, vi l3), (4, vi l4)] [vi l3, vi r6, vi ((64 * l2) + l4), rm 47] (Y, (S, T)) _
      have key : ∀ z0 : Int32, z0 = ((if r6 = l3 then 0 else 99999) : Int32) → Go M11_laysLeast 3 0 0 0 0 90 [(0, rm 0), (1, vi l1), (2, vi l2), (3, vi l3), (4, vi l4)] [vi z0, vi ((64 * l2) + l4), rm 47] (Y, (S, T)) Q := by
        intro z0 ez0
        subst ez0
        refine gd_el h (fun q4 h => ?_)
        refine go_blk rfl [(.iastore, 1, 20, 0, 0, .inl 0)] 90 91 _ _ _ (by decide +kernel) ?_
        refine And.intro (lm_t47 hT) (Exists.intro _ (And.intro (lm_n47 hT) (And.intro (inb_in q4) ?_)))
        show Go _ _ _ _ _ _ 91 [(0, rm 0), (1, vi l1), (2, vi l2), (3, vi l3), (4, vi l4)] [] (Y, (wI S 47 ((64 * l2) + l4).toNatClampNeg (((if r6 = l3 then 0 else 99999) : Int32)), T)) _
        refine go_blk rfl [(.iinc 4 1, 3, 4, 0, 0, .inl 1)] 91 94 _ _ _ (by decide +kernel) ?_
        show Go _ _ _ _ _ _ 94 [(4, vi (l4 + 1)), (0, rm 0), (1, vi l1), (2, vi l2), (3, vi l3)] [] (Y, (wI S 47 ((64 * l2) + l4).toNatClampNeg (((if r6 = l3 then 0 else 99999) : Int32)), T)) _
        refine go_goto (off := (-37)) (tgt := 57) (by decide +kernel) (by decide) ?_
        refine go_pick [1, 2, 3, 4, 0] rfl ?_
        exact ih _ _ _ h k
      clear h
      by_cases q3 : r6 = l3
      · refine go_icmp_ne (off := 7) (tgt := 88) (by decide +kernel) (by decide) (fun z => absurd q3 z) (fun _ => ?_)
        refine go_blk rfl [(.iconst 0, 1, 0, 0, 0, .inl 0)] 84 85 _ _ _ (by decide +kernel) ?_
        show Go _ _ _ _ _ _ 85 [(0, rm 0), (1, vi l1), (2, vi l2), (3, vi l3), (4, vi l4)] [vi 0, vi ((64 * l2) + l4), rm 47] (Y, (S, T)) _
        refine go_goto (off := 5) (tgt := 90) (by decide +kernel) (by decide) ?_
        refine go_pick [0, 1, 2, 3, 4] rfl ?_; exact key _ (by rw [if_pos q3])
      · refine go_icmp_ne (off := 7) (tgt := 88) (by decide +kernel) (by decide) (fun _ => ?_) (fun z => absurd z q3)
        refine go_blk rfl [(.ldc 225, 2, 0, 0, 0, .inl 99999)] 88 90 _ _ _ (by decide +kernel) ?_
        show Go _ _ _ _ _ _ 90 [(0, rm 0), (1, vi l1), (2, vi l2), (3, vi l3), (4, vi l4)] [vi 99999, vi ((64 * l2) + l4), rm 47] (Y, (S, T)) _
        refine go_pick [0, 1, 2, 3, 4] rfl ?_; exact key _ (by rw [if_neg q3])
theorem f11_laysLeast_L3_ok {T : jT} {Y : jS × jT} {l1 : Int32} {l4 : Int32} {Q : Option jV → jMem → Prop} (hT : LayM T) : ∀ (n : Nat) (S : jS) (l5 : Int32) (r : jS), f11_laysLeast_L3 l1 l4 n S l5 = some r → Go M11_laysLeast 3 0 0 0 0 145 [(0, rm 0), (1, vi l1), (4, vi l4)] [] (Y, (r, T)) Q → Go M11_laysLeast 3 0 0 0 0 110 [(0, rm 0), (1, vi l1), (4, vi l4), (5, vi l5)] [] (Y, (S, T)) Q := by
  intro n
  induction n with
  | zero => intro S l5 r h k; exact absurd h (by intro z; cases z)
  | succ n ih =>
    intro S l5 r h k
    rw [f11_laysLeast_L3] at h
    refine go_blk rfl [(.iload 5, 2, 5, 0, 0, .inl 0), (.bipush 64, 2, 0, 0, 0, .inl 64)] 110 114 _ _ _ (by decide +kernel) ?_
    show Go _ _ _ _ _ _ 114 [(0, rm 0), (1, vi l1), (4, vi l4), (5, vi l5)] [vi 64, vi l5] (Y, (S, T)) _
    refine ite_el h (fun q6 h => ?_) (fun q6 h => ?_)
    · refine go_icmp_ge (off := 31) (tgt := 145) (by decide +kernel) (by decide) (fun _ => ?_) (fun z => absurd q6 z)
      obtain rfl := Option.some.inj h
      refine go_pick [0, 1, 2] rfl ?_
      exact k
    · refine go_icmp_ge (off := 31) (tgt := 145) (by decide +kernel) (by decide) (fun z => absurd z q6) (fun _ => ?_)
      refine go_blk rfl [(.aload_n 0, 1, 0, 0, 0, .inl 0), (.getfield 112, 3, 11, 47, 1, .inl 0), (.bipush 64, 2, 0, 0, 0, .inl 64), (.iload 4, 2, 4, 0, 0, .inl 0), (.imul, 1, 0, 0, 0, .inl 0), (.iload 5, 2, 5, 0, 0, .inl 0), (.iadd, 1, 0, 0, 0, .inl 0), (.aload_n 0, 1, 0, 0, 0, .inl 0), (.iload 4, 2, 4, 0, 0, .inl 0), (.iload 5, 2, 5, 0, 0, .inl 0), (.iload_n 1, 1, 1, 0, 0, .inl 0)] 117 135 _ _ _ (by decide +kernel) ?_
      refine And.intro (lm_t0 hT) (Exists.intro _ (And.intro (gRm (lm_r47 hT)) ?_))
      show Go _ _ _ _ _ _ 135 [(0, rm 0), (1, vi l1), (4, vi l4), (5, vi l5)] [vi l1, vi l5, vi l4, rm 0, vi ((64 * l4) + l5), rm 47] (Y, (S, T)) _
      obtain ⟨r8, hr8, h⟩ := bind_el h
      refine go_callV (idx := 459) (z := 0) (M' := M11_leastFrom) (n := 3) (A := [vi l4, vi l5, vi l1]) (v' := some (vi r8)) (μ' := (Y, (S, T))) (d' := 2) (mc' := 0) (ms' := 0) (kc' := 0) (ks' := 0) (ci := 11) (x := .inr (.inl 0)) (by decide +kernel) ml_11_459 rfl wv11_leastFrom rfl (by decide) rfl (lm_t0 hT) (ret11_leastFrom hT hr8) (by decide) rfl rfl (Nat.le_of_ble_eq_true rfl) rfl (jag rfl rfl) ?_
      show Go _ _ _ _ _ _ 138 [(0, rm 0), (1, vi l1), (4, vi l4), (5, vi l5)] [vi r8, vi ((64 * l4) + l5), rm 47] (Y, (S, T)) _
      refine gd_el h (fun q7 h => ?_)
      refine go_blk rfl [(.iastore, 1, 20, 0, 0, .inl 0)] 138 139 _ _ _ (by decide +kernel) ?_
      refine And.intro (lm_t47 hT) (Exists.intro _ (And.intro (lm_n47 hT) (And.intro (inb_in q7) ?_)))
      show Go _ _ _ _ _ _ 139 [(0, rm 0), (1, vi l1), (4, vi l4), (5, vi l5)] [] (Y, (wI S 47 ((64 * l4) + l5).toNatClampNeg r8, T)) _
      refine go_blk rfl [(.iinc 5 1, 3, 5, 0, 0, .inl 1)] 139 142 _ _ _ (by decide +kernel) ?_
      show Go _ _ _ _ _ _ 142 [(5, vi (l5 + 1)), (0, rm 0), (1, vi l1), (4, vi l4)] [] (Y, (wI S 47 ((64 * l4) + l5).toNatClampNeg r8, T)) _
      refine go_goto (off := (-32)) (tgt := 110) (by decide +kernel) (by decide) ?_
      refine go_pick [1, 2, 3, 0] rfl ?_
      exact ih _ _ _ h k
theorem f11_laysLeast_L2_ok {T : jT} {Y : jS × jT} {l1 : Int32} {Q : Option jV → jMem → Prop} (hT : LayM T) : ∀ (n : Nat) (S : jS) (l4 : Int32) (r : jS), f11_laysLeast_L2 l1 n S l4 = some r → Go M11_laysLeast 3 0 0 0 0 151 [] [] (Y, (r, T)) Q → Go M11_laysLeast 3 0 0 0 0 102 [(0, rm 0), (1, vi l1), (4, vi l4)] [] (Y, (S, T)) Q := by
  intro n
  induction n with
  | zero => intro S l4 r h k; exact absurd h (by intro z; cases z)
  | succ n ih =>
    intro S l4 r h k
    rw [f11_laysLeast_L2] at h
    refine go_blk rfl [(.iload 4, 2, 4, 0, 0, .inl 0)] 102 104 _ _ _ (by decide +kernel) ?_
    show Go _ _ _ _ _ _ 104 [(0, rm 0), (1, vi l1), (4, vi l4)] [vi l4] (Y, (S, T)) _
    refine ite_el h (fun q5 h => ?_) (fun q5 h => ?_)
    · refine go_if_lt (off := 47) (tgt := 151) (by decide +kernel) (by decide) (fun _ => ?_) (fun z => absurd q5 z)
      obtain rfl := Option.some.inj h
      refine go_pick [] rfl ?_
      exact k
    · refine go_if_lt (off := 47) (tgt := 151) (by decide +kernel) (by decide) (fun z => absurd z q5) (fun _ => ?_)
      refine go_blk rfl [(.iconst 0, 1, 0, 0, 0, .inl 0), (.istore 5, 2, 5, 0, 0, .inl 0)] 107 110 _ _ _ (by decide +kernel) ?_
      show Go _ _ _ _ _ _ 110 [(5, vi 0), (0, rm 0), (1, vi l1), (4, vi l4)] [] (Y, (S, T)) _
      refine go_pick [1, 2, 3, 0] rfl ?_
      obtain ⟨y9, hy9, h⟩ := bind_el h
      refine f11_laysLeast_L3_ok hT _ _ _ _ hy9 ?_
      show Go _ _ _ _ _ _ 145 [(0, rm 0), (1, vi l1), (4, vi l4)] [] (Y, (y9, T)) _
      refine go_blk rfl [(.iinc 4 (-1), 3, 4, 0, 0, .inl (-1))] 145 148 _ _ _ (by decide +kernel) ?_
      show Go _ _ _ _ _ _ 148 [(4, vi (l4 + (-1))), (0, rm 0), (1, vi l1)] [] (Y, (y9, T)) _
      refine go_goto (off := (-46)) (tgt := 102) (by decide +kernel) (by decide) ?_
      refine go_pick [1, 2, 0] rfl ?_
      exact ih _ _ _ h k
theorem ret11_laysLeast {S : jS} {T : jT} {Y : jS × jT} {a0 : Int32} {S1 : jS} {x : Unit} (hT : LayM T) (h : f11_laysLeast S a0 = some (S1, x)) : Ret M11_laysLeast 3 0 0 [rm 0, vi a0] (Y, (S, T)) (none) (Y, (S1, T)) := by
  refine Ret.of (by decide +kernel) (Nat.le_of_ble_eq_true rfl) ?_
  unfold f11_laysLeast at h
  show Go _ _ _ _ _ _ 0 [(0, rm 0), (1, vi a0)] [] (Y, (S, T)) _
  refine go_blk rfl [(.aload_n 0, 1, 0, 0, 0, .inl 0), (.getfield 9, 3, 11, 1, 1, .inl 0), (.iconst 2, 1, 0, 0, 0, .inl 2), (.iaload, 1, 20, 0, 0, .inl 0), (.istore_n 2, 1, 2, 0, 0, .inl 0), (.aload_n 0, 1, 0, 0, 0, .inl 0), (.getfield 9, 3, 11, 1, 1, .inl 0), (.bipush 6, 2, 0, 0, 0, .inl 6), (.iaload, 1, 20, 0, 0, .inl 0)] 0 14 _ _ _ (by decide +kernel) ?_
  refine And.intro (lm_t0 hT) (Exists.intro _ (And.intro (gRm (lm_r1 hT)) ?_))
  refine And.intro (lm_t1 hT) (Exists.intro _ (And.intro (lm_n1 hT) (And.intro (inb_in (by decide)) ?_)))
  refine And.intro (lm_t0 hT) (Exists.intro _ (And.intro (gRm (lm_r1 hT)) ?_))
  refine And.intro (lm_t1 hT) (Exists.intro _ (And.intro (lm_n1 hT) (And.intro (inb_in (by decide)) ?_)))
  show Go _ _ _ _ _ _ 14 [(2, vi (S.1 1 2)), (0, rm 0), (1, vi a0)] [vi (S.1 1 6)] (Y, (S, T)) _
  obtain ⟨r1, hr1, h⟩ := bind_el h
  refine go_callS (idx := 359) (z := 0) (M' := M11_bits) (n := 1) (A := [vi (S.1 1 6)]) (v' := some (vi r1)) (μ' := (Y, (S, T))) (d' := 1) (mc' := 0) (ms' := 0) (kc' := 0) (ks' := 0) (by decide +kernel) ml_11_359 rfl ws11_bits rfl (ret11_bits hr1) (by decide) rfl rfl (Nat.le_of_ble_eq_true rfl) rfl (jag rfl rfl) ?_
  show Go _ _ _ _ _ _ 17 [(2, vi (S.1 1 2)), (0, rm 0), (1, vi a0)] [vi r1] (Y, (S, T)) _
  refine go_blk rfl [(.aload_n 0, 1, 0, 0, 0, .inl 0), (.getfield 9, 3, 11, 1, 1, .inl 0), (.bipush 7, 2, 0, 0, 0, .inl 7), (.iaload, 1, 20, 0, 0, .inl 0)] 17 24 _ _ _ (by decide +kernel) ?_
  refine And.intro (lm_t0 hT) (Exists.intro _ (And.intro (gRm (lm_r1 hT)) ?_))
  refine And.intro (lm_t1 hT) (Exists.intro _ (And.intro (lm_n1 hT) (And.intro (inb_in (by decide)) ?_)))
  show Go _ _ _ _ _ _ 24 [(2, vi (S.1 1 2)), (0, rm 0), (1, vi a0)] [vi (S.1 1 7), vi r1] (Y, (S, T)) _
  obtain ⟨r2, hr2, h⟩ := bind_el h
  refine go_callS (idx := 359) (z := 0) (M' := M11_bits) (n := 1) (A := [vi (S.1 1 7)]) (v' := some (vi r2)) (μ' := (Y, (S, T))) (d' := 1) (mc' := 0) (ms' := 0) (kc' := 0) (ks' := 0) (by decide +kernel) ml_11_359 rfl ws11_bits rfl (ret11_bits hr2) (by decide) rfl rfl (Nat.le_of_ble_eq_true rfl) rfl (jag rfl rfl) ?_
  show Go _ _ _ _ _ _ 27 [(2, vi (S.1 1 2)), (0, rm 0), (1, vi a0)] [vi r2, vi r1] (Y, (S, T)) _
  obtain ⟨y5, hy5, h⟩ := bind_el h
  have key : Go M11_laysLeast 3 0 0 0 0 53 [(0, rm 0), (1, vi a0), (2, vi (S.1 1 2))] [vi y5] (Y, (S, T)) (eqQ none (Y, (S1, T))) := by
    refine go_blk rfl [(.istore_n 3, 1, 3, 0, 0, .inl 0), (.iconst 0, 1, 0, 0, 0, .inl 0), (.istore 4, 2, 4, 0, 0, .inl 0)] 53 57 _ _ _ (by decide +kernel) ?_
    show Go _ _ _ _ _ _ 57 [(4, vi 0), (3, vi y5), (0, rm 0), (1, vi a0), (2, vi (S.1 1 2))] [] (Y, (S, T)) _
    refine go_pick [2, 3, 4, 1, 0] rfl ?_
    obtain ⟨y7, hy7, h⟩ := bind_el h
    refine f11_laysLeast_L1_ok hT _ _ _ _ hy7 ?_
    show Go _ _ _ _ _ _ 97 [(0, rm 0), (1, vi a0), (2, vi (S.1 1 2))] [] (Y, (y7, T)) _
    refine go_blk rfl [(.iload_n 2, 1, 2, 0, 0, .inl 0), (.iconst 1, 1, 0, 0, 0, .inl 1), (.isub, 1, 0, 0, 0, .inl 0), (.istore 4, 2, 4, 0, 0, .inl 0)] 97 102 _ _ _ (by decide +kernel) ?_
    show Go _ _ _ _ _ _ 102 [(4, vi ((S.1 1 2) - 1)), (0, rm 0), (1, vi a0), (2, vi (S.1 1 2))] [] (Y, (y7, T)) _
    refine go_pick [1, 2, 0] rfl ?_
    obtain ⟨y10, hy10, h⟩ := bind_el h
    refine f11_laysLeast_L2_ok hT _ _ _ _ hy10 ?_
    show Go _ _ _ _ _ _ 151 [] [] (Y, (y10, T)) _
    obtain ⟨rfl, rfl⟩ := Prod.mk.inj (Option.some.inj h)
    exact go_return (by decide +kernel) rfl ⟨rfl, rfl⟩
  replace h := hy5
  refine ite_el h (fun q1 h => ?_) (fun q1 h => ?_)
  · refine go_icmp_ge (off := 16) (tgt := 43) (by decide +kernel) (by decide) (fun _ => ?_) (fun z => absurd q1 z)
    refine go_blk rfl [(.aload_n 0, 1, 0, 0, 0, .inl 0), (.getfield 9, 3, 11, 1, 1, .inl 0), (.bipush 7, 2, 0, 0, 0, .inl 7), (.iaload, 1, 20, 0, 0, .inl 0)] 43 50 _ _ _ (by decide +kernel) ?_
    refine And.intro (lm_t0 hT) (Exists.intro _ (And.intro (gRm (lm_r1 hT)) ?_))
    refine And.intro (lm_t1 hT) (Exists.intro _ (And.intro (lm_n1 hT) (And.intro (inb_in (by decide)) ?_)))
    show Go _ _ _ _ _ _ 50 [(2, vi (S.1 1 2)), (0, rm 0), (1, vi a0)] [vi (S.1 1 7)] (Y, (S, T)) _
    obtain ⟨r3, hr3, h⟩ := bind_el h
    refine go_callS (idx := 359) (z := 0) (M' := M11_bits) (n := 1) (A := [vi (S.1 1 7)]) (v' := some (vi r3)) (μ' := (Y, (S, T))) (d' := 1) (mc' := 0) (ms' := 0) (kc' := 0) (ks' := 0) (by decide +kernel) ml_11_359 rfl ws11_bits rfl (ret11_bits hr3) (by decide) rfl rfl (Nat.le_of_ble_eq_true rfl) rfl (jag rfl rfl) ?_
    show Go _ _ _ _ _ _ 53 [(2, vi (S.1 1 2)), (0, rm 0), (1, vi a0)] [vi r3] (Y, (S, T)) _
    obtain rfl := Option.some.inj h
    refine go_pick [1, 2, 0] rfl ?_
    exact key
  · refine go_icmp_ge (off := 16) (tgt := 43) (by decide +kernel) (by decide) (fun z => absurd z q1) (fun _ => ?_)
    refine go_blk rfl [(.aload_n 0, 1, 0, 0, 0, .inl 0), (.getfield 9, 3, 11, 1, 1, .inl 0), (.bipush 6, 2, 0, 0, 0, .inl 6), (.iaload, 1, 20, 0, 0, .inl 0)] 30 37 _ _ _ (by decide +kernel) ?_
    refine And.intro (lm_t0 hT) (Exists.intro _ (And.intro (gRm (lm_r1 hT)) ?_))
    refine And.intro (lm_t1 hT) (Exists.intro _ (And.intro (lm_n1 hT) (And.intro (inb_in (by decide)) ?_)))
    show Go _ _ _ _ _ _ 37 [(2, vi (S.1 1 2)), (0, rm 0), (1, vi a0)] [vi (S.1 1 6)] (Y, (S, T)) _
    obtain ⟨r4, hr4, h⟩ := bind_el h
    refine go_callS (idx := 359) (z := 0) (M' := M11_bits) (n := 1) (A := [vi (S.1 1 6)]) (v' := some (vi r4)) (μ' := (Y, (S, T))) (d' := 1) (mc' := 0) (ms' := 0) (kc' := 0) (ks' := 0) (by decide +kernel) ml_11_359 rfl ws11_bits rfl (ret11_bits hr4) (by decide) rfl rfl (Nat.le_of_ble_eq_true rfl) rfl (jag rfl rfl) ?_
    show Go _ _ _ _ _ _ 40 [(2, vi (S.1 1 2)), (0, rm 0), (1, vi a0)] [vi r4] (Y, (S, T)) _
    refine go_goto (off := 13) (tgt := 53) (by decide +kernel) (by decide) ?_
    obtain rfl := Option.some.inj h
    refine go_pick [1, 2, 0] rfl ?_
    exact key
def f11_chairBy_L2 (S : jS) (l1 : Int32) (l2 : Int32) (l4 : Int32) (l5 : Int32) : Nat → Int32 → Int32 → Option Int32
  | 0, _, _ => none
  | n + 1, l3, l6 => (if (S.1 1 1) ≤ l6 then some l3 else (if l3 = ((-1)) then Option.bind (f11_has (S.1 1 6) l4) (fun r1 => (if r1 = 0 then some l3 else Option.bind (f11_has ((S.1 1 7) &&& (l2 ^^^ ((-1)))) l6) (fun r2 => Option.bind (if r2 = 0 then some l3 else (if inb ((64 * (l4 + 1)) + (l2 ||| ((1 : Int32) <<< (l6 &&& 31)))) 512 then (if 99999 ≤ (S.1 47 ((64 * (l4 + 1)) + (l2 ||| ((1 : Int32) <<< (l6 &&& 31)))).toNatClampNeg) then some l3 else Option.bind (f11_timeOf S l4 l6) (fun r3 => (if (r3 + (S.1 47 ((64 * (l4 + 1)) + (l2 ||| ((1 : Int32) <<< (l6 &&& 31)))).toNatClampNeg)) = l5 then some l6 else some l3))) else none)) (fun (y4 : Int32) => f11_chairBy_L2 S l1 l2 l4 l5 n y4 (l6 + 1))))) else some l3))
def f11_chairBy_L1 (S : jS) (l1 : Int32) : Nat → Int32 → Int32 → Int32 → Option Int32
  | 0, _, _, _ => none
  | n + 1, l2, l3, l4 => (if l1 < l4 then some l3 else (if inb ((64 * l4) + l2) 512 then Option.bind (f11_chairBy_L2 S l1 l2 l4 (S.1 47 ((64 * l4) + l2).toNatClampNeg) jF ((-1)) 0) (fun y5 => f11_chairBy_L1 S l1 n (l2 ||| (((if y5 = ((-1)) then 0 else ((1 : Int32) <<< (y5 &&& 31))) : Int32))) y5 (l4 + 1)) else none))
def f11_chairBy (S : jS) (a0 : Int32) : Option Int32 := Option.bind (f11_chairBy_L1 S a0 jF 0 ((-1)) 0) (fun y6 => some y6)
theorem f11_chairBy_L2_ok {T : jT} {Y : jS × jT} {S : jS} {l1 : Int32} {l2 : Int32} {l4 : Int32} {l5 : Int32} {Q : Option jV → jMem → Prop} (hT : LayM T) : ∀ (n : Nat) (l3 : Int32) (l6 : Int32) (r : Int32), f11_chairBy_L2 S l1 l2 l4 l5 n l3 l6 = some r → Go M11_chairBy 2 0 0 0 0 148 [(0, rm 0), (1, vi l1), (2, vi l2), (3, vi r), (4, vi l4)] [] (Y, (S, T)) Q → Go M11_chairBy 2 0 0 0 0 32 [(0, rm 0), (1, vi l1), (2, vi l2), (3, vi l3), (4, vi l4), (5, vi l5), (6, vi l6)] [] (Y, (S, T)) Q := by
  intro n
  induction n with
  | zero => intro l3 l6 r h k; exact absurd h (by intro z; cases z)
  | succ n ih =>
    intro l3 l6 r h k
    rw [f11_chairBy_L2] at h
    refine go_blk rfl [(.iload 6, 2, 6, 0, 0, .inl 0), (.aload_n 0, 1, 0, 0, 0, .inl 0), (.getfield 9, 3, 11, 1, 1, .inl 0), (.iconst 1, 1, 0, 0, 0, .inl 1), (.iaload, 1, 20, 0, 0, .inl 0)] 32 40 _ _ _ (by decide +kernel) ?_
    refine And.intro (lm_t0 hT) (Exists.intro _ (And.intro (gRm (lm_r1 hT)) ?_))
    refine And.intro (lm_t1 hT) (Exists.intro _ (And.intro (lm_n1 hT) (And.intro (inb_in (by decide)) ?_)))
    show Go _ _ _ _ _ _ 40 [(0, rm 0), (1, vi l1), (2, vi l2), (3, vi l3), (4, vi l4), (5, vi l5), (6, vi l6)] [vi (S.1 1 1), vi l6] (Y, (S, T)) _
    refine ite_el h (fun q3 h => ?_) (fun q3 h => ?_)
    · refine go_icmp_ge (off := 108) (tgt := 148) (by decide +kernel) (by decide) (fun _ => ?_) (fun z => absurd q3 z)
      obtain rfl := Option.some.inj h
      refine go_pick [0, 1, 2, 3, 4] rfl ?_
      exact k
    · refine go_icmp_ge (off := 108) (tgt := 148) (by decide +kernel) (by decide) (fun z => absurd z q3) (fun _ => ?_)
      refine go_blk rfl [(.iload_n 3, 1, 3, 0, 0, .inl 0), (.iconst (-1), 1, 0, 0, 0, .inl (-1))] 43 45 _ _ _ (by decide +kernel) ?_
      show Go _ _ _ _ _ _ 45 [(0, rm 0), (1, vi l1), (2, vi l2), (3, vi l3), (4, vi l4), (5, vi l5), (6, vi l6)] [vi ((-1)), vi l3] (Y, (S, T)) _
      refine ite_el h (fun q4 h => ?_) (fun q4 h => ?_)
      · refine go_icmp_ne (off := 103) (tgt := 148) (by decide +kernel) (by decide) (fun z => absurd q4 z) (fun _ => ?_)
        refine go_blk rfl [(.aload_n 0, 1, 0, 0, 0, .inl 0), (.getfield 9, 3, 11, 1, 1, .inl 0), (.bipush 6, 2, 0, 0, 0, .inl 6), (.iaload, 1, 20, 0, 0, .inl 0), (.iload 4, 2, 4, 0, 0, .inl 0)] 48 57 _ _ _ (by decide +kernel) ?_
        refine And.intro (lm_t0 hT) (Exists.intro _ (And.intro (gRm (lm_r1 hT)) ?_))
        refine And.intro (lm_t1 hT) (Exists.intro _ (And.intro (lm_n1 hT) (And.intro (inb_in (by decide)) ?_)))
        show Go _ _ _ _ _ _ 57 [(0, rm 0), (1, vi l1), (2, vi l2), (3, vi l3), (4, vi l4), (5, vi l5), (6, vi l6)] [vi l4, vi (S.1 1 6)] (Y, (S, T)) _
        obtain ⟨r1, hr1, h⟩ := bind_el h
        refine go_callS (idx := 148) (z := 0) (M' := M11_has) (n := 2) (A := [vi (S.1 1 6), vi l4]) (v' := some (vi r1)) (μ' := (Y, (S, T))) (d' := 1) (mc' := 0) (ms' := 0) (kc' := 0) (ks' := 0) (by decide +kernel) ml_11_148 rfl ws11_has rfl (ret11_has hr1) (by decide) rfl rfl (Nat.le_of_ble_eq_true rfl) rfl (jag rfl rfl) ?_
        show Go _ _ _ _ _ _ 60 [(0, rm 0), (1, vi l1), (2, vi l2), (3, vi l3), (4, vi l4), (5, vi l5), (6, vi l6)] [vi r1] (Y, (S, T)) _
        refine ite_el h (fun q5 h => ?_) (fun q5 h => ?_)
        · refine go_if_eq (off := 88) (tgt := 148) (by decide +kernel) (by decide) (fun _ => ?_) (fun z => absurd q5 z)
          obtain rfl := Option.some.inj h
          refine go_pick [0, 1, 2, 3, 4] rfl ?_
          exact k
        · refine go_if_eq (off := 88) (tgt := 148) (by decide +kernel) (by decide) (fun z => absurd z q5) (fun _ => ?_)
          refine go_blk rfl [(.aload_n 0, 1, 0, 0, 0, .inl 0), (.getfield 9, 3, 11, 1, 1, .inl 0), (.bipush 7, 2, 0, 0, 0, .inl 7), (.iaload, 1, 20, 0, 0, .inl 0), (.iload_n 2, 1, 2, 0, 0, .inl 0), (.iconst (-1), 1, 0, 0, 0, .inl (-1)), (.ixor, 1, 0, 0, 0, .inl 0), (.iand, 1, 0, 0, 0, .inl 0), (.iload 6, 2, 6, 0, 0, .inl 0)] 63 76 _ _ _ (by decide +kernel) ?_
          refine And.intro (lm_t0 hT) (Exists.intro _ (And.intro (gRm (lm_r1 hT)) ?_))
          refine And.intro (lm_t1 hT) (Exists.intro _ (And.intro (lm_n1 hT) (And.intro (inb_in (by decide)) ?_)))
          show Go _ _ _ _ _ _ 76 [(0, rm 0), (1, vi l1), (2, vi l2), (3, vi l3), (4, vi l4), (5, vi l5), (6, vi l6)] [vi l6, vi ((S.1 1 7) &&& (l2 ^^^ ((-1))))] (Y, (S, T)) _
          obtain ⟨r2, hr2, h⟩ := bind_el h
          refine go_callS (idx := 148) (z := 0) (M' := M11_has) (n := 2) (A := [vi ((S.1 1 7) &&& (l2 ^^^ ((-1)))), vi l6]) (v' := some (vi r2)) (μ' := (Y, (S, T))) (d' := 1) (mc' := 0) (ms' := 0) (kc' := 0) (ks' := 0) (by decide +kernel) ml_11_148 rfl ws11_has rfl (ret11_has hr2) (by decide) rfl rfl (Nat.le_of_ble_eq_true rfl) rfl (jag rfl rfl) ?_
          show Go _ _ _ _ _ _ 79 [(0, rm 0), (1, vi l1), (2, vi l2), (3, vi l3), (4, vi l4), (5, vi l5), (6, vi l6)] [vi r2] (Y, (S, T)) _
          obtain ⟨y4, hy4, h⟩ := bind_el h
          have key : Go M11_chairBy 2 0 0 0 0 142 [(0, rm 0), (1, vi l1), (2, vi l2), (3, vi y4), (4, vi l4), (5, vi l5), (6, vi l6)] [] (Y, (S, T)) Q := by
            refine go_blk rfl [(.iinc 6 1, 3, 6, 0, 0, .inl 1)] 142 145 _ _ _ (by decide +kernel) ?_
            show Go _ _ _ _ _ _ 145 [(6, vi (l6 + 1)), (0, rm 0), (1, vi l1), (2, vi l2), (3, vi y4), (4, vi l4), (5, vi l5)] [] (Y, (S, T)) _
            refine go_goto (off := (-113)) (tgt := 32) (by decide +kernel) (by decide) ?_
            refine go_pick [1, 2, 3, 4, 5, 6, 0] rfl ?_
            exact ih _ _ _ h k
          replace h := hy4
          refine ite_el h (fun q6 h => ?_) (fun q6 h => ?_)
          · refine go_if_eq (off := 63) (tgt := 142) (by decide +kernel) (by decide) (fun _ => ?_) (fun z => absurd q6 z)
            obtain rfl := Option.some.inj h
            refine go_pick [0, 1, 2, 3, 4, 5, 6] rfl ?_
            exact key
          · refine go_if_eq (off := 63) (tgt := 142) (by decide +kernel) (by decide) (fun z => absurd z q6) (fun _ => ?_)
            refine gd_el h (fun q7 h => ?_)
            refine go_blk rfl [(.aload_n 0, 1, 0, 0, 0, .inl 0), (.getfield 112, 3, 11, 47, 1, .inl 0), (.bipush 64, 2, 0, 0, 0, .inl 64), (.iload 4, 2, 4, 0, 0, .inl 0), (.iconst 1, 1, 0, 0, 0, .inl 1), (.iadd, 1, 0, 0, 0, .inl 0), (.imul, 1, 0, 0, 0, .inl 0), (.iload_n 2, 1, 2, 0, 0, .inl 0), (.iconst 1, 1, 0, 0, 0, .inl 1), (.iload 6, 2, 6, 0, 0, .inl 0), (.ishl, 1, 0, 0, 0, .inl 0), (.ior, 1, 0, 0, 0, .inl 0), (.iadd, 1, 0, 0, 0, .inl 0), (.iaload, 1, 20, 0, 0, .inl 0), (.ldc 225, 2, 0, 0, 0, .inl 99999)] 82 103 _ _ _ (by decide +kernel) ?_
            refine And.intro (lm_t0 hT) (Exists.intro _ (And.intro (gRm (lm_r47 hT)) ?_))
            refine And.intro (lm_t47 hT) (Exists.intro _ (And.intro (lm_n47 hT) (And.intro (inb_in q7) ?_)))
            show Go _ _ _ _ _ _ 103 [(0, rm 0), (1, vi l1), (2, vi l2), (3, vi l3), (4, vi l4), (5, vi l5), (6, vi l6)] [vi 99999, vi (S.1 47 ((64 * (l4 + 1)) + (l2 ||| ((1 : Int32) <<< (l6 &&& 31)))).toNatClampNeg)] (Y, (S, T)) _
            refine ite_el h (fun q8 h => ?_) (fun q8 h => ?_)
            · refine go_icmp_ge (off := 39) (tgt := 142) (by decide +kernel) (by decide) (fun _ => ?_) (fun z => absurd q8 z)
              obtain rfl := Option.some.inj h
              refine go_pick [0, 1, 2, 3, 4, 5, 6] rfl ?_
              exact key
            · refine go_icmp_ge (off := 39) (tgt := 142) (by decide +kernel) (by decide) (fun z => absurd z q8) (fun _ => ?_)
              refine go_blk rfl [(.aload_n 0, 1, 0, 0, 0, .inl 0), (.iload 4, 2, 4, 0, 0, .inl 0), (.iload 6, 2, 6, 0, 0, .inl 0)] 106 111 _ _ _ (by decide +kernel) ?_
              show Go _ _ _ _ _ _ 111 [(0, rm 0), (1, vi l1), (2, vi l2), (3, vi l3), (4, vi l4), (5, vi l5), (6, vi l6)] [vi l6, vi l4, rm 0] (Y, (S, T)) _
              obtain ⟨r3, hr3, h⟩ := bind_el h
              refine go_callV (idx := 356) (z := 0) (M' := M11_timeOf) (n := 2) (A := [vi l4, vi l6]) (v' := some (vi r3)) (μ' := (Y, (S, T))) (d' := 1) (mc' := 0) (ms' := 0) (kc' := 0) (ks' := 0) (ci := 11) (x := .inr (.inl 0)) (by decide +kernel) ml_11_356 rfl wv11_timeOf rfl (by decide) rfl (lm_t0 hT) (ret11_timeOf hT hr3) (by decide) rfl rfl (Nat.le_of_ble_eq_true rfl) rfl (jag rfl rfl) ?_
              show Go _ _ _ _ _ _ 114 [(0, rm 0), (1, vi l1), (2, vi l2), (3, vi l3), (4, vi l4), (5, vi l5), (6, vi l6)] [vi r3] (Y, (S, T)) _
              refine go_blk rfl [(.aload_n 0, 1, 0, 0, 0, .inl 0), (.getfield 112, 3, 11, 47, 1, .inl 0), (.bipush 64, 2, 0, 0, 0, .inl 64), (.iload 4, 2, 4, 0, 0, .inl 0), (.iconst 1, 1, 0, 0, 0, .inl 1), (.iadd, 1, 0, 0, 0, .inl 0), (.imul, 1, 0, 0, 0, .inl 0), (.iload_n 2, 1, 2, 0, 0, .inl 0), (.iconst 1, 1, 0, 0, 0, .inl 1), (.iload 6, 2, 6, 0, 0, .inl 0), (.ishl, 1, 0, 0, 0, .inl 0), (.ior, 1, 0, 0, 0, .inl 0), (.iadd, 1, 0, 0, 0, .inl 0), (.iaload, 1, 20, 0, 0, .inl 0), (.iadd, 1, 0, 0, 0, .inl 0), (.iload 5, 2, 5, 0, 0, .inl 0)] 114 136 _ _ _ (by decide +kernel) ?_
              refine And.intro (lm_t0 hT) (Exists.intro _ (And.intro (gRm (lm_r47 hT)) ?_))
              refine And.intro (lm_t47 hT) (Exists.intro _ (And.intro (lm_n47 hT) (And.intro (inb_in q7) ?_)))
              show Go _ _ _ _ _ _ 136 [(0, rm 0), (1, vi l1), (2, vi l2), (3, vi l3), (4, vi l4), (5, vi l5), (6, vi l6)] [vi l5, vi (r3 + (S.1 47 ((64 * (l4 + 1)) + (l2 ||| ((1 : Int32) <<< (l6 &&& 31)))).toNatClampNeg))] (Y, (S, T)) _
              refine ite_el h (fun q9 h => ?_) (fun q9 h => ?_)
              · refine go_icmp_ne (off := 6) (tgt := 142) (by decide +kernel) (by decide) (fun z => absurd q9 z) (fun _ => ?_)
                refine go_blk rfl [(.iload 6, 2, 6, 0, 0, .inl 0), (.istore_n 3, 1, 3, 0, 0, .inl 0)] 139 142 _ _ _ (by decide +kernel) ?_
                show Go _ _ _ _ _ _ 142 [(3, vi l6), (0, rm 0), (1, vi l1), (2, vi l2), (4, vi l4), (5, vi l5), (6, vi l6)] [] (Y, (S, T)) _
                obtain rfl := Option.some.inj h
                refine go_pick [1, 2, 3, 0, 4, 5, 6] rfl ?_
                exact key
              · refine go_icmp_ne (off := 6) (tgt := 142) (by decide +kernel) (by decide) (fun _ => ?_) (fun z => absurd z q9)
                obtain rfl := Option.some.inj h
                refine go_pick [0, 1, 2, 3, 4, 5, 6] rfl ?_
                exact key
      · refine go_icmp_ne (off := 103) (tgt := 148) (by decide +kernel) (by decide) (fun _ => ?_) (fun z => absurd z q4)
        obtain rfl := Option.some.inj h
        refine go_pick [0, 1, 2, 3, 4] rfl ?_
        exact k
theorem f11_chairBy_L1_ok {T : jT} {Y : jS × jT} {S : jS} {l1 : Int32} {Q : Option jV → jMem → Prop} (hT : LayM T) : ∀ (n : Nat) (l2 : Int32) (l3 : Int32) (l4 : Int32) (r : Int32), f11_chairBy_L1 S l1 n l2 l3 l4 = some r → Go M11_chairBy 2 0 0 0 0 169 [(3, vi r)] [] (Y, (S, T)) Q → Go M11_chairBy 2 0 0 0 0 7 [(0, rm 0), (1, vi l1), (2, vi l2), (3, vi l3), (4, vi l4)] [] (Y, (S, T)) Q := by
  intro n
  induction n with
  | zero => intro l2 l3 l4 r h k; exact absurd h (by intro z; cases z)
  | succ n ih =>
    intro l2 l3 l4 r h k
    rw [f11_chairBy_L1] at h
    refine go_blk rfl [(.iload 4, 2, 4, 0, 0, .inl 0), (.iload_n 1, 1, 1, 0, 0, .inl 0)] 7 10 _ _ _ (by decide +kernel) ?_
    show Go _ _ _ _ _ _ 10 [(0, rm 0), (1, vi l1), (2, vi l2), (3, vi l3), (4, vi l4)] [vi l1, vi l4] (Y, (S, T)) _
    refine ite_el h (fun q1 h => ?_) (fun q1 h => ?_)
    · refine go_icmp_gt (off := 159) (tgt := 169) (by decide +kernel) (by decide) (fun _ => ?_) (fun z => absurd q1 z)
      obtain rfl := Option.some.inj h
      refine go_pick [3] rfl ?_
      exact k
    · refine go_icmp_gt (off := 159) (tgt := 169) (by decide +kernel) (by decide) (fun z => absurd z q1) (fun _ => ?_)
      refine gd_el h (fun q2 h => ?_)
      refine go_blk rfl [(.aload_n 0, 1, 0, 0, 0, .inl 0), (.getfield 112, 3, 11, 47, 1, .inl 0), (.bipush 64, 2, 0, 0, 0, .inl 64), (.iload 4, 2, 4, 0, 0, .inl 0), (.imul, 1, 0, 0, 0, .inl 0), (.iload_n 2, 1, 2, 0, 0, .inl 0), (.iadd, 1, 0, 0, 0, .inl 0), (.iaload, 1, 20, 0, 0, .inl 0), (.istore 5, 2, 5, 0, 0, .inl 0), (.iconst (-1), 1, 0, 0, 0, .inl (-1)), (.istore_n 3, 1, 3, 0, 0, .inl 0), (.iconst 0, 1, 0, 0, 0, .inl 0), (.istore 6, 2, 6, 0, 0, .inl 0)] 13 32 _ _ _ (by decide +kernel) ?_
      refine And.intro (lm_t0 hT) (Exists.intro _ (And.intro (gRm (lm_r47 hT)) ?_))
      refine And.intro (lm_t47 hT) (Exists.intro _ (And.intro (lm_n47 hT) (And.intro (inb_in q2) ?_)))
      show Go _ _ _ _ _ _ 32 [(6, vi 0), (3, vi ((-1))), (5, vi (S.1 47 ((64 * l4) + l2).toNatClampNeg)), (0, rm 0), (1, vi l1), (2, vi l2), (4, vi l4)] [] (Y, (S, T)) _
      refine go_pick [3, 4, 5, 1, 6, 2, 0] rfl ?_
      obtain ⟨y5, hy5, h⟩ := bind_el h
      refine f11_chairBy_L2_ok hT _ _ _ _ hy5 ?_
      show Go _ _ _ _ _ _ 148 [(0, rm 0), (1, vi l1), (2, vi l2), (3, vi y5), (4, vi l4)] [] (Y, (S, T)) _
      refine go_blk rfl [(.iload_n 2, 1, 2, 0, 0, .inl 0), (.iload_n 3, 1, 3, 0, 0, .inl 0), (.iconst (-1), 1, 0, 0, 0, .inl (-1))] 148 151 _ _ _ (by decide +kernel) ?_
      show Go _ _ _ _ _ _ 151 [(0, rm 0), (1, vi l1), (2, vi l2), (3, vi y5), (4, vi l4)] [vi ((-1)), vi y5, vi l2] (Y, (S, T)) _
      have key : ∀ z0 : Int32, z0 = ((if y5 = ((-1)) then 0 else ((1 : Int32) <<< (y5 &&& 31))) : Int32) → Go M11_chairBy 2 0 0 0 0 161 [(0, rm 0), (1, vi l1), (3, vi y5), (4, vi l4)] [vi z0, vi l2] (Y, (S, T)) Q := by
        intro z0 ez0
        subst ez0
        refine go_blk rfl [(.ior, 1, 0, 0, 0, .inl 0), (.istore_n 2, 1, 2, 0, 0, .inl 0), (.iinc 4 1, 3, 4, 0, 0, .inl 1)] 161 166 _ _ _ (by decide +kernel) ?_
        show Go _ _ _ _ _ _ 166 [(4, vi (l4 + 1)), (2, vi (l2 ||| (((if y5 = ((-1)) then 0 else ((1 : Int32) <<< (y5 &&& 31))) : Int32)))), (0, rm 0), (1, vi l1), (3, vi y5)] [] (Y, (S, T)) _
        refine go_goto (off := (-159)) (tgt := 7) (by decide +kernel) (by decide) ?_
        refine go_pick [2, 3, 1, 4, 0] rfl ?_
        exact ih _ _ _ _ h k
      clear h
      by_cases q10 : y5 = ((-1))
      · refine go_icmp_ne (off := 7) (tgt := 158) (by decide +kernel) (by decide) (fun z => absurd q10 z) (fun _ => ?_)
        refine go_blk rfl [(.iconst 0, 1, 0, 0, 0, .inl 0)] 154 155 _ _ _ (by decide +kernel) ?_
        show Go _ _ _ _ _ _ 155 [(0, rm 0), (1, vi l1), (2, vi l2), (3, vi y5), (4, vi l4)] [vi 0, vi l2] (Y, (S, T)) _
        refine go_goto (off := 6) (tgt := 161) (by decide +kernel) (by decide) ?_
        refine go_pick [0, 1, 3, 4] rfl ?_; exact key _ (by rw [if_pos q10])
      · refine go_icmp_ne (off := 7) (tgt := 158) (by decide +kernel) (by decide) (fun _ => ?_) (fun z => absurd z q10)
        refine go_blk rfl [(.iconst 1, 1, 0, 0, 0, .inl 1), (.iload_n 3, 1, 3, 0, 0, .inl 0), (.ishl, 1, 0, 0, 0, .inl 0)] 158 161 _ _ _ (by decide +kernel) ?_
        show Go _ _ _ _ _ _ 161 [(0, rm 0), (1, vi l1), (2, vi l2), (3, vi y5), (4, vi l4)] [vi ((1 : Int32) <<< (y5 &&& 31)), vi l2] (Y, (S, T)) _
        refine go_pick [0, 1, 3, 4] rfl ?_; exact key _ (by rw [if_neg q10])
theorem ret11_chairBy {S : jS} {T : jT} {Y : jS × jT} {a0 : Int32} {x : Int32} (hT : LayM T) (h : f11_chairBy S a0 = some x) : Ret M11_chairBy 2 0 0 [rm 0, vi a0] (Y, (S, T)) (some (vi x)) (Y, (S, T)) := by
  refine Ret.of (by decide +kernel) (Nat.le_of_ble_eq_true rfl) ?_
  unfold f11_chairBy at h
  show Go _ _ _ _ _ _ 0 [(0, rm 0), (1, vi a0)] [] (Y, (S, T)) _
  refine go_blk rfl [(.iconst 0, 1, 0, 0, 0, .inl 0), (.istore_n 2, 1, 2, 0, 0, .inl 0), (.iconst (-1), 1, 0, 0, 0, .inl (-1)), (.istore_n 3, 1, 3, 0, 0, .inl 0), (.iconst 0, 1, 0, 0, 0, .inl 0), (.istore 4, 2, 4, 0, 0, .inl 0)] 0 7 _ _ _ (by decide +kernel) ?_
  show Go _ _ _ _ _ _ 7 [(4, vi 0), (3, vi ((-1))), (2, vi 0), (0, rm 0), (1, vi a0)] [] (Y, (S, T)) _
  refine go_pick [3, 4, 2, 1, 0] rfl ?_
  obtain ⟨y6, hy6, h⟩ := bind_el h
  refine f11_chairBy_L1_ok hT _ _ _ _ _ hy6 ?_
  show Go _ _ _ _ _ _ 169 [(3, vi y6)] [] (Y, (S, T)) _
  refine go_blk rfl [(.iload_n 3, 1, 3, 0, 0, .inl 0)] 169 170 _ _ _ (by decide +kernel) ?_
  show Go _ _ _ _ _ _ 170 [(3, vi y6)] [vi y6] (Y, (S, T)) _
  obtain rfl := Option.some.inj h
  exact go_ireturn (by decide +kernel) rfl rfl ⟨rfl, rfl⟩
def f11_kind (S : jS) (a0 : Int32) : Option (jS × Int32) := Option.bind (f11_isParty S) (fun r1 => (if r1 = 0 then some (S, (-2)) else Option.bind (f11_in a0.toInt64 ((-1)) (((S.1 1 2) - 1).toInt64)) (fun r2 => (if r2 = 0 then some (S, (-2)) else Option.bind (f11_laysLeast S 1) (fun r3 => (if a0 = ((-1)) then some (r3.1, r3.1.1 47 0) else Option.bind (f11_chairBy r3.1 a0) (fun r4 => some (r3.1, r4))))))))
theorem ret11_kind {S : jS} {T : jT} {Y : jS × jT} {a0 : Int32} {S1 : jS} {x : Int32} (hT : LayM T) (h : f11_kind S a0 = some (S1, x)) : Ret M11_kind 4 0 0 [rm 0, vi a0] (Y, (S, T)) (some (vi x)) (Y, (S1, T)) := by
  refine Ret.of (by decide +kernel) (Nat.le_of_ble_eq_true rfl) ?_
  unfold f11_kind at h
  show Go _ _ _ _ _ _ 0 [(0, rm 0), (1, vi a0)] [] (Y, (S, T)) _
  refine go_blk rfl [(.aload_n 0, 1, 0, 0, 0, .inl 0)] 0 1 _ _ _ (by decide +kernel) ?_
  show Go _ _ _ _ _ _ 1 [(0, rm 0), (1, vi a0)] [rm 0] (Y, (S, T)) _
  obtain ⟨r1, hr1, h⟩ := bind_el h
  refine go_callV (idx := 420) (z := 0) (M' := M11_isParty) (n := 0) (A := []) (v' := some (vi r1)) (μ' := (Y, (S, T))) (d' := 1) (mc' := 0) (ms' := 0) (kc' := 0) (ks' := 0) (ci := 11) (x := .inr (.inl 0)) (by decide +kernel) ml_11_420 rfl wv11_isParty rfl (by decide) rfl (lm_t0 hT) (ret11_isParty hT hr1) (by decide) rfl rfl (Nat.le_of_ble_eq_true rfl) rfl (jag rfl rfl) ?_
  show Go _ _ _ _ _ _ 4 [(0, rm 0), (1, vi a0)] [vi r1] (Y, (S, T)) _
  refine ite_el h (fun q1 h => ?_) (fun q1 h => ?_)
  · refine go_if_eq (off := 23) (tgt := 27) (by decide +kernel) (by decide) (fun _ => ?_) (fun z => absurd q1 z)
    refine go_blk rfl [(.bipush (-2), 2, 0, 0, 0, .inl (-2))] 27 29 _ _ _ (by decide +kernel) ?_
    show Go _ _ _ _ _ _ 29 [(0, rm 0), (1, vi a0)] [vi ((-2))] (Y, (S, T)) _
    obtain ⟨rfl, rfl⟩ := Prod.mk.inj (Option.some.inj h)
    exact go_ireturn (by decide +kernel) rfl rfl ⟨rfl, rfl⟩
  · refine go_if_eq (off := 23) (tgt := 27) (by decide +kernel) (by decide) (fun z => absurd z q1) (fun _ => ?_)
    refine go_blk rfl [(.iload_n 1, 1, 1, 0, 0, .inl 0), (.i2l, 1, 0, 0, 0, .inl 0), (.ldc2_w 339, 3, 0, 0, 0, .inr (.inl (-1))), (.aload_n 0, 1, 0, 0, 0, .inl 0), (.getfield 9, 3, 11, 1, 1, .inl 0), (.iconst 2, 1, 0, 0, 0, .inl 2), (.iaload, 1, 20, 0, 0, .inl 0), (.iconst 1, 1, 0, 0, 0, .inl 1), (.isub, 1, 0, 0, 0, .inl 0), (.i2l, 1, 0, 0, 0, .inl 0)] 7 21 _ _ _ (by decide +kernel) ?_
    refine And.intro (lm_t0 hT) (Exists.intro _ (And.intro (gRm (lm_r1 hT)) ?_))
    refine And.intro (lm_t1 hT) (Exists.intro _ (And.intro (lm_n1 hT) (And.intro (inb_in (by decide)) ?_)))
    show Go _ _ _ _ _ _ 21 [(0, rm 0), (1, vi a0)] [vl (((S.1 1 2) - 1).toInt64), vl ((-1)), vl a0.toInt64] (Y, (S, T)) _
    obtain ⟨r2, hr2, h⟩ := bind_el h
    refine go_callS (idx := 140) (z := 0) (M' := M11_in) (n := 3) (A := [vl a0.toInt64, vl ((-1)), vl (((S.1 1 2) - 1).toInt64)]) (v' := some (vi r2)) (μ' := (Y, (S, T))) (d' := 1) (mc' := 0) (ms' := 0) (kc' := 0) (ks' := 0) (by decide +kernel) ml_11_140 rfl ws11_in rfl (ret11_in hr2) (by decide) rfl rfl (Nat.le_of_ble_eq_true rfl) rfl (jag rfl rfl) ?_
    show Go _ _ _ _ _ _ 24 [(0, rm 0), (1, vi a0)] [vi r2] (Y, (S, T)) _
    refine ite_el h (fun q2 h => ?_) (fun q2 h => ?_)
    · refine go_if_ne (off := 6) (tgt := 30) (by decide +kernel) (by decide) (fun z => absurd q2 z) (fun _ => ?_)
      refine go_blk rfl [(.bipush (-2), 2, 0, 0, 0, .inl (-2))] 27 29 _ _ _ (by decide +kernel) ?_
      show Go _ _ _ _ _ _ 29 [(0, rm 0), (1, vi a0)] [vi ((-2))] (Y, (S, T)) _
      obtain ⟨rfl, rfl⟩ := Prod.mk.inj (Option.some.inj h)
      exact go_ireturn (by decide +kernel) rfl rfl ⟨rfl, rfl⟩
    · refine go_if_ne (off := 6) (tgt := 30) (by decide +kernel) (by decide) (fun _ => ?_) (fun z => absurd z q2)
      refine go_blk rfl [(.aload_n 0, 1, 0, 0, 0, .inl 0), (.iconst 1, 1, 0, 0, 0, .inl 1)] 30 32 _ _ _ (by decide +kernel) ?_
      show Go _ _ _ _ _ _ 32 [(0, rm 0), (1, vi a0)] [vi 1, rm 0] (Y, (S, T)) _
      obtain ⟨r3, hr3, h⟩ := bind_el h
      refine go_callV (idx := 466) (z := 0) (M' := M11_laysLeast) (n := 1) (A := [vi 1]) (v' := none) (μ' := (Y, (r3.1, T))) (d' := 3) (mc' := 0) (ms' := 0) (kc' := 0) (ks' := 0) (ci := 11) (x := .inr (.inl 0)) (by decide +kernel) ml_11_466 rfl wv11_laysLeast rfl (by decide) rfl (lm_t0 hT) (ret11_laysLeast hT hr3) (by decide) rfl rfl (Nat.le_of_ble_eq_true rfl) rfl (jag rfl rfl) ?_
      show Go _ _ _ _ _ _ 35 [(0, rm 0), (1, vi a0)] [] (Y, (r3.1, T)) _
      refine go_blk rfl [(.iload_n 1, 1, 1, 0, 0, .inl 0), (.iconst (-1), 1, 0, 0, 0, .inl (-1))] 35 37 _ _ _ (by decide +kernel) ?_
      show Go _ _ _ _ _ _ 37 [(0, rm 0), (1, vi a0)] [vi ((-1)), vi a0] (Y, (r3.1, T)) _
      refine ite_el h (fun q3 h => ?_) (fun q3 h => ?_)
      · refine go_icmp_ne (off := 12) (tgt := 49) (by decide +kernel) (by decide) (fun z => absurd q3 z) (fun _ => ?_)
        refine go_blk rfl [(.aload_n 0, 1, 0, 0, 0, .inl 0), (.getfield 112, 3, 11, 47, 1, .inl 0), (.iconst 0, 1, 0, 0, 0, .inl 0), (.iaload, 1, 20, 0, 0, .inl 0)] 40 46 _ _ _ (by decide +kernel) ?_
        refine And.intro (lm_t0 hT) (Exists.intro _ (And.intro (gRm (lm_r47 hT)) ?_))
        refine And.intro (lm_t47 hT) (Exists.intro _ (And.intro (lm_n47 hT) (And.intro (inb_in (by decide)) ?_)))
        show Go _ _ _ _ _ _ 46 [(0, rm 0), (1, vi a0)] [vi (r3.1.1 47 0)] (Y, (r3.1, T)) _
        refine go_goto (off := 8) (tgt := 54) (by decide +kernel) (by decide) ?_
        obtain ⟨rfl, rfl⟩ := Prod.mk.inj (Option.some.inj h)
        exact go_ireturn (by decide +kernel) rfl rfl ⟨rfl, rfl⟩
      · refine go_icmp_ne (off := 12) (tgt := 49) (by decide +kernel) (by decide) (fun _ => ?_) (fun z => absurd z q3)
        refine go_blk rfl [(.aload_n 0, 1, 0, 0, 0, .inl 0), (.iload_n 1, 1, 1, 0, 0, .inl 0)] 49 51 _ _ _ (by decide +kernel) ?_
        show Go _ _ _ _ _ _ 51 [(0, rm 0), (1, vi a0)] [vi a0, rm 0] (Y, (r3.1, T)) _
        obtain ⟨r4, hr4, h⟩ := bind_el h
        refine go_callV (idx := 470) (z := 0) (M' := M11_chairBy) (n := 1) (A := [vi a0]) (v' := some (vi r4)) (μ' := (Y, (r3.1, T))) (d' := 2) (mc' := 0) (ms' := 0) (kc' := 0) (ks' := 0) (ci := 11) (x := .inr (.inl 0)) (by decide +kernel) ml_11_470 rfl wv11_chairBy rfl (by decide) rfl (lm_t0 hT) (ret11_chairBy hT hr4) (by decide) rfl rfl (Nat.le_of_ble_eq_true rfl) rfl (jag rfl rfl) ?_
        show Go _ _ _ _ _ _ 54 [(0, rm 0), (1, vi a0)] [vi r4] (Y, (r3.1, T)) _
        obtain ⟨rfl, rfl⟩ := Prod.mk.inj (Option.some.inj h)
        exact go_ireturn (by decide +kernel) rfl rfl ⟨rfl, rfl⟩
def f11_longest (S : jS) : Option (jS × Int32) := Option.bind (f11_isParty S) (fun r1 => (if r1 = 0 then some (S, (-1)) else Option.bind (f11_laysLeast S 0) (fun r2 => some (r2.1, r2.1.1 47 0))))
theorem ret11_longest {S : jS} {T : jT} {Y : jS × jT} {S1 : jS} {x : Int32} (hT : LayM T) (h : f11_longest S = some (S1, x)) : Ret M11_longest 4 0 0 [rm 0] (Y, (S, T)) (some (vi x)) (Y, (S1, T)) := by
  refine Ret.of (by decide +kernel) (Nat.le_of_ble_eq_true rfl) ?_
  unfold f11_longest at h
  show Go _ _ _ _ _ _ 0 [(0, rm 0)] [] (Y, (S, T)) _
  refine go_blk rfl [(.aload_n 0, 1, 0, 0, 0, .inl 0)] 0 1 _ _ _ (by decide +kernel) ?_
  show Go _ _ _ _ _ _ 1 [(0, rm 0)] [rm 0] (Y, (S, T)) _
  obtain ⟨r1, hr1, h⟩ := bind_el h
  refine go_callV (idx := 420) (z := 0) (M' := M11_isParty) (n := 0) (A := []) (v' := some (vi r1)) (μ' := (Y, (S, T))) (d' := 1) (mc' := 0) (ms' := 0) (kc' := 0) (ks' := 0) (ci := 11) (x := .inr (.inl 0)) (by decide +kernel) ml_11_420 rfl wv11_isParty rfl (by decide) rfl (lm_t0 hT) (ret11_isParty hT hr1) (by decide) rfl rfl (Nat.le_of_ble_eq_true rfl) rfl (jag rfl rfl) ?_
  show Go _ _ _ _ _ _ 4 [(0, rm 0)] [vi r1] (Y, (S, T)) _
  refine ite_el h (fun q1 h => ?_) (fun q1 h => ?_)
  · refine go_if_ne (off := 5) (tgt := 9) (by decide +kernel) (by decide) (fun z => absurd q1 z) (fun _ => ?_)
    refine go_blk rfl [(.iconst (-1), 1, 0, 0, 0, .inl (-1))] 7 8 _ _ _ (by decide +kernel) ?_
    show Go _ _ _ _ _ _ 8 [(0, rm 0)] [vi ((-1))] (Y, (S, T)) _
    obtain ⟨rfl, rfl⟩ := Prod.mk.inj (Option.some.inj h)
    exact go_ireturn (by decide +kernel) rfl rfl ⟨rfl, rfl⟩
  · refine go_if_ne (off := 5) (tgt := 9) (by decide +kernel) (by decide) (fun _ => ?_) (fun z => absurd z q1)
    refine go_blk rfl [(.aload_n 0, 1, 0, 0, 0, .inl 0), (.iconst 0, 1, 0, 0, 0, .inl 0)] 9 11 _ _ _ (by decide +kernel) ?_
    show Go _ _ _ _ _ _ 11 [(0, rm 0)] [vi 0, rm 0] (Y, (S, T)) _
    obtain ⟨r2, hr2, h⟩ := bind_el h
    refine go_callV (idx := 466) (z := 0) (M' := M11_laysLeast) (n := 1) (A := [vi 0]) (v' := none) (μ' := (Y, (r2.1, T))) (d' := 3) (mc' := 0) (ms' := 0) (kc' := 0) (ks' := 0) (ci := 11) (x := .inr (.inl 0)) (by decide +kernel) ml_11_466 rfl wv11_laysLeast rfl (by decide) rfl (lm_t0 hT) (ret11_laysLeast hT hr2) (by decide) rfl rfl (Nat.le_of_ble_eq_true rfl) rfl (jag rfl rfl) ?_
    show Go _ _ _ _ _ _ 14 [(0, rm 0)] [] (Y, (r2.1, T)) _
    refine go_blk rfl [(.aload_n 0, 1, 0, 0, 0, .inl 0), (.getfield 112, 3, 11, 47, 1, .inl 0), (.iconst 0, 1, 0, 0, 0, .inl 0), (.iaload, 1, 20, 0, 0, .inl 0)] 14 20 _ _ _ (by decide +kernel) ?_
    refine And.intro (lm_t0 hT) (Exists.intro _ (And.intro (gRm (lm_r47 hT)) ?_))
    refine And.intro (lm_t47 hT) (Exists.intro _ (And.intro (lm_n47 hT) (And.intro (inb_in (by decide)) ?_)))
    show Go _ _ _ _ _ _ 20 [(0, rm 0)] [vi (r2.1.1 47 0)] (Y, (r2.1, T)) _
    obtain ⟨rfl, rfl⟩ := Prod.mk.inj (Option.some.inj h)
    exact go_ireturn (by decide +kernel) rfl rfl ⟨rfl, rfl⟩
def f11_within_L1 (l1 : Int32) : Nat → jS → Int32 → Option jS
  | 0, _, _ => none
  | n + 1, S, l2 => (if 64 ≤ l2 then some S else (if inb l2 64 then f11_within_L1 l1 n (wI S 48 l2.toNatClampNeg (((if l2 = 0 then 0 else ((-1))) : Int32))) (l2 + 1) else none))
def f11_within_L4 (l1 : Int32) (l2 : Int32) (l3 : Int32) : Nat → jS → Int32 → Option jS
  | 0, _, _ => none
  | n + 1, S, l4 => (if (S.1 1 1) ≤ l4 then some S else Option.bind (f11_has (S.1 1 6) l2) (fun r4 => (if r4 = 0 then some S else (if inb l3 64 then Option.bind (if (S.1 48 l3.toNatClampNeg) = ((-1)) then some S else Option.bind (f11_has ((S.1 1 7) &&& (l3 ^^^ ((-1)))) l4) (fun r5 => (if r5 = 0 then some S else Option.bind (f11_timeOf S l2 l4) (fun r6 => (if l1 < r6 then some S else Option.bind (f11_bits l3) (fun r7 => (if inb (l3 ||| ((1 : Int32) <<< (l4 &&& 31))) 64 then some (wI S 48 (l3 ||| ((1 : Int32) <<< (l4 &&& 31))).toNatClampNeg (r7 + 1)) else none))))))) (fun (y8 : jS) => f11_within_L4 l1 l2 l3 n y8 (l4 + 1)) else none))))
def f11_within_L3 (l1 : Int32) (l2 : Int32) : Nat → jS → Int32 → Option jS
  | 0, _, _ => none
  | n + 1, S, l3 => (if l3 < 0 then some S else Option.bind (f11_within_L4 l1 l2 l3 jF S 0) (fun y9 => f11_within_L3 l1 l2 n y9 (l3 + (-1))))
def f11_within_L2 (l1 : Int32) : Nat → jS → Int32 → Option jS
  | 0, _, _ => none
  | n + 1, S, l2 => (if (S.1 1 2) ≤ l2 then some S else Option.bind (f11_within_L3 l1 l2 jF S 63) (fun y10 => f11_within_L2 l1 n y10 (l2 + 1)))
def f11_within_L5 (S : jS) : Nat → Int32 → Int32 → Option Int32
  | 0, _, _ => none
  | n + 1, l2, l3 => (if 64 ≤ l3 then some l2 else (if inb l3 64 then Option.bind (if (S.1 48 l3.toNatClampNeg) ≤ l2 then some l2 else some (S.1 48 l3.toNatClampNeg)) (fun (y12 : Int32) => f11_within_L5 S n y12 (l3 + 1)) else none))
def f11_within (S : jS) (a0 : Int32) : Option (jS × Int32) := Option.bind (f11_isParty S) (fun r1 => (if r1 = 0 then some (S, (-1)) else Option.bind (f11_in a0.toInt64 0 999) (fun r2 => (if r2 = 0 then some (S, (-1)) else Option.bind (f11_within_L1 a0 jF S 0) (fun y3 => Option.bind (f11_within_L2 a0 jF y3 0) (fun y11 => Option.bind (f11_within_L5 y11 jF 0 0) (fun y13 => some (y11, y13))))))))
theorem f11_within_L1_ok {T : jT} {Y : jS × jT} {l1 : Int32} {Q : Option jV → jMem → Prop} (hT : LayM T) : ∀ (n : Nat) (S : jS) (l2 : Int32) (r : jS), f11_within_L1 l1 n S l2 = some r → Go M11_within 2 0 0 0 0 50 [(0, rm 0), (1, vi l1)] [] (Y, (r, T)) Q → Go M11_within 2 0 0 0 0 23 [(0, rm 0), (1, vi l1), (2, vi l2)] [] (Y, (S, T)) Q := by
  intro n
  induction n with
  | zero => intro S l2 r h k; exact absurd h (by intro z; cases z)
  | succ n ih =>
    intro S l2 r h k
    rw [f11_within_L1] at h
    refine go_blk rfl [(.iload_n 2, 1, 2, 0, 0, .inl 0), (.bipush 64, 2, 0, 0, 0, .inl 64)] 23 26 _ _ _ (by decide +kernel) ?_
    show Go _ _ _ _ _ _ 26 [(0, rm 0), (1, vi l1), (2, vi l2)] [vi 64, vi l2] (Y, (S, T)) _
    refine ite_el h (fun q3 h => ?_) (fun q3 h => ?_)
    · refine go_icmp_ge (off := 24) (tgt := 50) (by decide +kernel) (by decide) (fun _ => ?_) (fun z => absurd q3 z)
      obtain rfl := Option.some.inj h
      refine go_pick [0, 1] rfl ?_
      exact k
    · refine go_icmp_ge (off := 24) (tgt := 50) (by decide +kernel) (by decide) (fun z => absurd z q3) (fun _ => ?_)
      refine go_blk rfl [(.aload_n 0, 1, 0, 0, 0, .inl 0), (.getfield 115, 3, 11, 48, 1, .inl 0), (.iload_n 2, 1, 2, 0, 0, .inl 0), (.iload_n 2, 1, 2, 0, 0, .inl 0)] 29 35 _ _ _ (by decide +kernel) ?_
      refine And.intro (lm_t0 hT) (Exists.intro _ (And.intro (gRm (lm_r48 hT)) ?_))
      show Go _ _ _ _ _ _ 35 [(0, rm 0), (1, vi l1), (2, vi l2)] [vi l2, vi l2, rm 48] (Y, (S, T)) _
      have key : ∀ z0 : Int32, z0 = ((if l2 = 0 then 0 else ((-1))) : Int32) → Go M11_within 2 0 0 0 0 43 [(0, rm 0), (1, vi l1), (2, vi l2)] [vi z0, vi l2, rm 48] (Y, (S, T)) Q := by
        intro z0 ez0
        subst ez0
        refine gd_el h (fun q5 h => ?_)
        refine go_blk rfl [(.iastore, 1, 20, 0, 0, .inl 0)] 43 44 _ _ _ (by decide +kernel) ?_
        refine And.intro (lm_t48 hT) (Exists.intro _ (And.intro (lm_n48 hT) (And.intro (inb_in q5) ?_)))
        show Go _ _ _ _ _ _ 44 [(0, rm 0), (1, vi l1), (2, vi l2)] [] (Y, (wI S 48 l2.toNatClampNeg (((if l2 = 0 then 0 else ((-1))) : Int32)), T)) _
        refine go_blk rfl [(.iinc 2 1, 3, 2, 0, 0, .inl 1)] 44 47 _ _ _ (by decide +kernel) ?_
        show Go _ _ _ _ _ _ 47 [(2, vi (l2 + 1)), (0, rm 0), (1, vi l1)] [] (Y, (wI S 48 l2.toNatClampNeg (((if l2 = 0 then 0 else ((-1))) : Int32)), T)) _
        refine go_goto (off := (-24)) (tgt := 23) (by decide +kernel) (by decide) ?_
        refine go_pick [1, 2, 0] rfl ?_
        exact ih _ _ _ h k
      clear h
      by_cases q4 : l2 = 0
      · refine go_if_ne (off := 7) (tgt := 42) (by decide +kernel) (by decide) (fun z => absurd q4 z) (fun _ => ?_)
        refine go_blk rfl [(.iconst 0, 1, 0, 0, 0, .inl 0)] 38 39 _ _ _ (by decide +kernel) ?_
        show Go _ _ _ _ _ _ 39 [(0, rm 0), (1, vi l1), (2, vi l2)] [vi 0, vi l2, rm 48] (Y, (S, T)) _
        refine go_goto (off := 4) (tgt := 43) (by decide +kernel) (by decide) ?_
        refine go_pick [0, 1, 2] rfl ?_; exact key _ (by rw [if_pos q4])
      · refine go_if_ne (off := 7) (tgt := 42) (by decide +kernel) (by decide) (fun _ => ?_) (fun z => absurd z q4)
        refine go_blk rfl [(.iconst (-1), 1, 0, 0, 0, .inl (-1))] 42 43 _ _ _ (by decide +kernel) ?_
        show Go _ _ _ _ _ _ 43 [(0, rm 0), (1, vi l1), (2, vi l2)] [vi ((-1)), vi l2, rm 48] (Y, (S, T)) _
        refine go_pick [0, 1, 2] rfl ?_; exact key _ (by rw [if_neg q4])
theorem f11_within_L4_ok {T : jT} {Y : jS × jT} {l1 : Int32} {l2 : Int32} {l3 : Int32} {Q : Option jV → jMem → Prop} (hT : LayM T) : ∀ (n : Nat) (S : jS) (l4 : Int32) (r : jS), f11_within_L4 l1 l2 l3 n S l4 = some r → Go M11_within 2 0 0 0 0 160 [(0, rm 0), (1, vi l1), (2, vi l2), (3, vi l3)] [] (Y, (r, T)) Q → Go M11_within 2 0 0 0 0 72 [(0, rm 0), (1, vi l1), (2, vi l2), (3, vi l3), (4, vi l4)] [] (Y, (S, T)) Q := by
  intro n
  induction n with
  | zero => intro S l4 r h k; exact absurd h (by intro z; cases z)
  | succ n ih =>
    intro S l4 r h k
    rw [f11_within_L4] at h
    refine go_blk rfl [(.iload 4, 2, 4, 0, 0, .inl 0), (.aload_n 0, 1, 0, 0, 0, .inl 0), (.getfield 9, 3, 11, 1, 1, .inl 0), (.iconst 1, 1, 0, 0, 0, .inl 1), (.iaload, 1, 20, 0, 0, .inl 0)] 72 80 _ _ _ (by decide +kernel) ?_
    refine And.intro (lm_t0 hT) (Exists.intro _ (And.intro (gRm (lm_r1 hT)) ?_))
    refine And.intro (lm_t1 hT) (Exists.intro _ (And.intro (lm_n1 hT) (And.intro (inb_in (by decide)) ?_)))
    show Go _ _ _ _ _ _ 80 [(0, rm 0), (1, vi l1), (2, vi l2), (3, vi l3), (4, vi l4)] [vi (S.1 1 1), vi l4] (Y, (S, T)) _
    refine ite_el h (fun q8 h => ?_) (fun q8 h => ?_)
    · refine go_icmp_ge (off := 80) (tgt := 160) (by decide +kernel) (by decide) (fun _ => ?_) (fun z => absurd q8 z)
      obtain rfl := Option.some.inj h
      refine go_pick [0, 1, 2, 3] rfl ?_
      exact k
    · refine go_icmp_ge (off := 80) (tgt := 160) (by decide +kernel) (by decide) (fun z => absurd z q8) (fun _ => ?_)
      refine go_blk rfl [(.aload_n 0, 1, 0, 0, 0, .inl 0), (.getfield 9, 3, 11, 1, 1, .inl 0), (.bipush 6, 2, 0, 0, 0, .inl 6), (.iaload, 1, 20, 0, 0, .inl 0), (.iload_n 2, 1, 2, 0, 0, .inl 0)] 83 91 _ _ _ (by decide +kernel) ?_
      refine And.intro (lm_t0 hT) (Exists.intro _ (And.intro (gRm (lm_r1 hT)) ?_))
      refine And.intro (lm_t1 hT) (Exists.intro _ (And.intro (lm_n1 hT) (And.intro (inb_in (by decide)) ?_)))
      show Go _ _ _ _ _ _ 91 [(0, rm 0), (1, vi l1), (2, vi l2), (3, vi l3), (4, vi l4)] [vi l2, vi (S.1 1 6)] (Y, (S, T)) _
      obtain ⟨r4, hr4, h⟩ := bind_el h
      refine go_callS (idx := 148) (z := 0) (M' := M11_has) (n := 2) (A := [vi (S.1 1 6), vi l2]) (v' := some (vi r4)) (μ' := (Y, (S, T))) (d' := 1) (mc' := 0) (ms' := 0) (kc' := 0) (ks' := 0) (by decide +kernel) ml_11_148 rfl ws11_has rfl (ret11_has hr4) (by decide) rfl rfl (Nat.le_of_ble_eq_true rfl) rfl (jag rfl rfl) ?_
      show Go _ _ _ _ _ _ 94 [(0, rm 0), (1, vi l1), (2, vi l2), (3, vi l3), (4, vi l4)] [vi r4] (Y, (S, T)) _
      refine ite_el h (fun q9 h => ?_) (fun q9 h => ?_)
      · refine go_if_eq (off := 66) (tgt := 160) (by decide +kernel) (by decide) (fun _ => ?_) (fun z => absurd q9 z)
        obtain rfl := Option.some.inj h
        refine go_pick [0, 1, 2, 3] rfl ?_
        exact k
      · refine go_if_eq (off := 66) (tgt := 160) (by decide +kernel) (by decide) (fun z => absurd z q9) (fun _ => ?_)
        refine gd_el h (fun q10 h => ?_)
        refine go_blk rfl [(.aload_n 0, 1, 0, 0, 0, .inl 0), (.getfield 115, 3, 11, 48, 1, .inl 0), (.iload_n 3, 1, 3, 0, 0, .inl 0), (.iaload, 1, 20, 0, 0, .inl 0), (.iconst (-1), 1, 0, 0, 0, .inl (-1))] 97 104 _ _ _ (by decide +kernel) ?_
        refine And.intro (lm_t0 hT) (Exists.intro _ (And.intro (gRm (lm_r48 hT)) ?_))
        refine And.intro (lm_t48 hT) (Exists.intro _ (And.intro (lm_n48 hT) (And.intro (inb_in q10) ?_)))
        show Go _ _ _ _ _ _ 104 [(0, rm 0), (1, vi l1), (2, vi l2), (3, vi l3), (4, vi l4)] [vi ((-1)), vi (S.1 48 l3.toNatClampNeg)] (Y, (S, T)) _
        obtain ⟨y8, hy8, h⟩ := bind_el h
        have key : Go M11_within 2 0 0 0 0 154 [(0, rm 0), (1, vi l1), (2, vi l2), (3, vi l3), (4, vi l4)] [] (Y, (y8, T)) Q := by
          refine go_blk rfl [(.iinc 4 1, 3, 4, 0, 0, .inl 1)] 154 157 _ _ _ (by decide +kernel) ?_
          show Go _ _ _ _ _ _ 157 [(4, vi (l4 + 1)), (0, rm 0), (1, vi l1), (2, vi l2), (3, vi l3)] [] (Y, (y8, T)) _
          refine go_goto (off := (-85)) (tgt := 72) (by decide +kernel) (by decide) ?_
          refine go_pick [1, 2, 3, 4, 0] rfl ?_
          exact ih _ _ _ h k
        replace h := hy8
        refine ite_el h (fun q11 h => ?_) (fun q11 h => ?_)
        · refine go_icmp_eq (off := 50) (tgt := 154) (by decide +kernel) (by decide) (fun _ => ?_) (fun z => absurd q11 z)
          obtain rfl := Option.some.inj h
          refine go_pick [0, 1, 2, 3, 4] rfl ?_
          exact key
        · refine go_icmp_eq (off := 50) (tgt := 154) (by decide +kernel) (by decide) (fun z => absurd z q11) (fun _ => ?_)
          refine go_blk rfl [(.aload_n 0, 1, 0, 0, 0, .inl 0), (.getfield 9, 3, 11, 1, 1, .inl 0), (.bipush 7, 2, 0, 0, 0, .inl 7), (.iaload, 1, 20, 0, 0, .inl 0), (.iload_n 3, 1, 3, 0, 0, .inl 0), (.iconst (-1), 1, 0, 0, 0, .inl (-1)), (.ixor, 1, 0, 0, 0, .inl 0), (.iand, 1, 0, 0, 0, .inl 0), (.iload 4, 2, 4, 0, 0, .inl 0)] 107 120 _ _ _ (by decide +kernel) ?_
          refine And.intro (lm_t0 hT) (Exists.intro _ (And.intro (gRm (lm_r1 hT)) ?_))
          refine And.intro (lm_t1 hT) (Exists.intro _ (And.intro (lm_n1 hT) (And.intro (inb_in (by decide)) ?_)))
          show Go _ _ _ _ _ _ 120 [(0, rm 0), (1, vi l1), (2, vi l2), (3, vi l3), (4, vi l4)] [vi l4, vi ((S.1 1 7) &&& (l3 ^^^ ((-1))))] (Y, (S, T)) _
          obtain ⟨r5, hr5, h⟩ := bind_el h
          refine go_callS (idx := 148) (z := 0) (M' := M11_has) (n := 2) (A := [vi ((S.1 1 7) &&& (l3 ^^^ ((-1)))), vi l4]) (v' := some (vi r5)) (μ' := (Y, (S, T))) (d' := 1) (mc' := 0) (ms' := 0) (kc' := 0) (ks' := 0) (by decide +kernel) ml_11_148 rfl ws11_has rfl (ret11_has hr5) (by decide) rfl rfl (Nat.le_of_ble_eq_true rfl) rfl (jag rfl rfl) ?_
          show Go _ _ _ _ _ _ 123 [(0, rm 0), (1, vi l1), (2, vi l2), (3, vi l3), (4, vi l4)] [vi r5] (Y, (S, T)) _
          refine ite_el h (fun q12 h => ?_) (fun q12 h => ?_)
          · refine go_if_eq (off := 31) (tgt := 154) (by decide +kernel) (by decide) (fun _ => ?_) (fun z => absurd q12 z)
            obtain rfl := Option.some.inj h
            refine go_pick [0, 1, 2, 3, 4] rfl ?_
            exact key
          · refine go_if_eq (off := 31) (tgt := 154) (by decide +kernel) (by decide) (fun z => absurd z q12) (fun _ => ?_)
            refine go_blk rfl [(.aload_n 0, 1, 0, 0, 0, .inl 0), (.iload_n 2, 1, 2, 0, 0, .inl 0), (.iload 4, 2, 4, 0, 0, .inl 0)] 126 130 _ _ _ (by decide +kernel) ?_
            show Go _ _ _ _ _ _ 130 [(0, rm 0), (1, vi l1), (2, vi l2), (3, vi l3), (4, vi l4)] [vi l4, vi l2, rm 0] (Y, (S, T)) _
            obtain ⟨r6, hr6, h⟩ := bind_el h
            refine go_callV (idx := 356) (z := 0) (M' := M11_timeOf) (n := 2) (A := [vi l2, vi l4]) (v' := some (vi r6)) (μ' := (Y, (S, T))) (d' := 1) (mc' := 0) (ms' := 0) (kc' := 0) (ks' := 0) (ci := 11) (x := .inr (.inl 0)) (by decide +kernel) ml_11_356 rfl wv11_timeOf rfl (by decide) rfl (lm_t0 hT) (ret11_timeOf hT hr6) (by decide) rfl rfl (Nat.le_of_ble_eq_true rfl) rfl (jag rfl rfl) ?_
            show Go _ _ _ _ _ _ 133 [(0, rm 0), (1, vi l1), (2, vi l2), (3, vi l3), (4, vi l4)] [vi r6] (Y, (S, T)) _
            refine go_blk rfl [(.iload_n 1, 1, 1, 0, 0, .inl 0)] 133 134 _ _ _ (by decide +kernel) ?_
            show Go _ _ _ _ _ _ 134 [(0, rm 0), (1, vi l1), (2, vi l2), (3, vi l3), (4, vi l4)] [vi l1, vi r6] (Y, (S, T)) _
            refine ite_el h (fun q13 h => ?_) (fun q13 h => ?_)
            · refine go_icmp_gt (off := 20) (tgt := 154) (by decide +kernel) (by decide) (fun _ => ?_) (fun z => absurd q13 z)
              obtain rfl := Option.some.inj h
              refine go_pick [0, 1, 2, 3, 4] rfl ?_
              exact key
            · refine go_icmp_gt (off := 20) (tgt := 154) (by decide +kernel) (by decide) (fun z => absurd z q13) (fun _ => ?_)
              refine go_blk rfl [(.aload_n 0, 1, 0, 0, 0, .inl 0), (.getfield 115, 3, 11, 48, 1, .inl 0), (.iload_n 3, 1, 3, 0, 0, .inl 0), (.iconst 1, 1, 0, 0, 0, .inl 1), (.iload 4, 2, 4, 0, 0, .inl 0), (.ishl, 1, 0, 0, 0, .inl 0), (.ior, 1, 0, 0, 0, .inl 0), (.iload_n 3, 1, 3, 0, 0, .inl 0)] 137 148 _ _ _ (by decide +kernel) ?_
              refine And.intro (lm_t0 hT) (Exists.intro _ (And.intro (gRm (lm_r48 hT)) ?_))
              show Go _ _ _ _ _ _ 148 [(0, rm 0), (1, vi l1), (2, vi l2), (3, vi l3), (4, vi l4)] [vi l3, vi (l3 ||| ((1 : Int32) <<< (l4 &&& 31))), rm 48] (Y, (S, T)) _
              obtain ⟨r7, hr7, h⟩ := bind_el h
              refine go_callS (idx := 359) (z := 0) (M' := M11_bits) (n := 1) (A := [vi l3]) (v' := some (vi r7)) (μ' := (Y, (S, T))) (d' := 1) (mc' := 0) (ms' := 0) (kc' := 0) (ks' := 0) (by decide +kernel) ml_11_359 rfl ws11_bits rfl (ret11_bits hr7) (by decide) rfl rfl (Nat.le_of_ble_eq_true rfl) rfl (jag rfl rfl) ?_
              show Go _ _ _ _ _ _ 151 [(0, rm 0), (1, vi l1), (2, vi l2), (3, vi l3), (4, vi l4)] [vi r7, vi (l3 ||| ((1 : Int32) <<< (l4 &&& 31))), rm 48] (Y, (S, T)) _
              refine gd_el h (fun q14 h => ?_)
              refine go_blk rfl [(.iconst 1, 1, 0, 0, 0, .inl 1), (.iadd, 1, 0, 0, 0, .inl 0), (.iastore, 1, 20, 0, 0, .inl 0)] 151 154 _ _ _ (by decide +kernel) ?_
              refine And.intro (lm_t48 hT) (Exists.intro _ (And.intro (lm_n48 hT) (And.intro (inb_in q14) ?_)))
              show Go _ _ _ _ _ _ 154 [(0, rm 0), (1, vi l1), (2, vi l2), (3, vi l3), (4, vi l4)] [] (Y, (wI S 48 (l3 ||| ((1 : Int32) <<< (l4 &&& 31))).toNatClampNeg (r7 + 1), T)) _
              obtain rfl := Option.some.inj h
              refine go_pick [0, 1, 2, 3, 4] rfl ?_
              exact key
theorem f11_within_L3_ok {T : jT} {Y : jS × jT} {l1 : Int32} {l2 : Int32} {Q : Option jV → jMem → Prop} (hT : LayM T) : ∀ (n : Nat) (S : jS) (l3 : Int32) (r : jS), f11_within_L3 l1 l2 n S l3 = some r → Go M11_within 2 0 0 0 0 166 [(0, rm 0), (1, vi l1), (2, vi l2)] [] (Y, (r, T)) Q → Go M11_within 2 0 0 0 0 65 [(0, rm 0), (1, vi l1), (2, vi l2), (3, vi l3)] [] (Y, (S, T)) Q := by
  intro n
  induction n with
  | zero => intro S l3 r h k; exact absurd h (by intro z; cases z)
  | succ n ih =>
    intro S l3 r h k
    rw [f11_within_L3] at h
    refine go_blk rfl [(.iload_n 3, 1, 3, 0, 0, .inl 0)] 65 66 _ _ _ (by decide +kernel) ?_
    show Go _ _ _ _ _ _ 66 [(0, rm 0), (1, vi l1), (2, vi l2), (3, vi l3)] [vi l3] (Y, (S, T)) _
    refine ite_el h (fun q7 h => ?_) (fun q7 h => ?_)
    · refine go_if_lt (off := 100) (tgt := 166) (by decide +kernel) (by decide) (fun _ => ?_) (fun z => absurd q7 z)
      obtain rfl := Option.some.inj h
      refine go_pick [0, 1, 2] rfl ?_
      exact k
    · refine go_if_lt (off := 100) (tgt := 166) (by decide +kernel) (by decide) (fun z => absurd z q7) (fun _ => ?_)
      refine go_blk rfl [(.iconst 0, 1, 0, 0, 0, .inl 0), (.istore 4, 2, 4, 0, 0, .inl 0)] 69 72 _ _ _ (by decide +kernel) ?_
      show Go _ _ _ _ _ _ 72 [(4, vi 0), (0, rm 0), (1, vi l1), (2, vi l2), (3, vi l3)] [] (Y, (S, T)) _
      refine go_pick [1, 2, 3, 4, 0] rfl ?_
      obtain ⟨y9, hy9, h⟩ := bind_el h
      refine f11_within_L4_ok hT _ _ _ _ hy9 ?_
      show Go _ _ _ _ _ _ 160 [(0, rm 0), (1, vi l1), (2, vi l2), (3, vi l3)] [] (Y, (y9, T)) _
      refine go_blk rfl [(.iinc 3 (-1), 3, 3, 0, 0, .inl (-1))] 160 163 _ _ _ (by decide +kernel) ?_
      show Go _ _ _ _ _ _ 163 [(3, vi (l3 + (-1))), (0, rm 0), (1, vi l1), (2, vi l2)] [] (Y, (y9, T)) _
      refine go_goto (off := (-98)) (tgt := 65) (by decide +kernel) (by decide) ?_
      refine go_pick [1, 2, 3, 0] rfl ?_
      exact ih _ _ _ h k
theorem f11_within_L2_ok {T : jT} {Y : jS × jT} {l1 : Int32} {Q : Option jV → jMem → Prop} (hT : LayM T) : ∀ (n : Nat) (S : jS) (l2 : Int32) (r : jS), f11_within_L2 l1 n S l2 = some r → Go M11_within 2 0 0 0 0 172 [(0, rm 0)] [] (Y, (r, T)) Q → Go M11_within 2 0 0 0 0 52 [(0, rm 0), (1, vi l1), (2, vi l2)] [] (Y, (S, T)) Q := by
  intro n
  induction n with
  | zero => intro S l2 r h k; exact absurd h (by intro z; cases z)
  | succ n ih =>
    intro S l2 r h k
    rw [f11_within_L2] at h
    refine go_blk rfl [(.iload_n 2, 1, 2, 0, 0, .inl 0), (.aload_n 0, 1, 0, 0, 0, .inl 0), (.getfield 9, 3, 11, 1, 1, .inl 0), (.iconst 2, 1, 0, 0, 0, .inl 2), (.iaload, 1, 20, 0, 0, .inl 0)] 52 59 _ _ _ (by decide +kernel) ?_
    refine And.intro (lm_t0 hT) (Exists.intro _ (And.intro (gRm (lm_r1 hT)) ?_))
    refine And.intro (lm_t1 hT) (Exists.intro _ (And.intro (lm_n1 hT) (And.intro (inb_in (by decide)) ?_)))
    show Go _ _ _ _ _ _ 59 [(0, rm 0), (1, vi l1), (2, vi l2)] [vi (S.1 1 2), vi l2] (Y, (S, T)) _
    refine ite_el h (fun q6 h => ?_) (fun q6 h => ?_)
    · refine go_icmp_ge (off := 113) (tgt := 172) (by decide +kernel) (by decide) (fun _ => ?_) (fun z => absurd q6 z)
      obtain rfl := Option.some.inj h
      refine go_pick [0] rfl ?_
      exact k
    · refine go_icmp_ge (off := 113) (tgt := 172) (by decide +kernel) (by decide) (fun z => absurd z q6) (fun _ => ?_)
      refine go_blk rfl [(.bipush 63, 2, 0, 0, 0, .inl 63), (.istore_n 3, 1, 3, 0, 0, .inl 0)] 62 65 _ _ _ (by decide +kernel) ?_
      show Go _ _ _ _ _ _ 65 [(3, vi 63), (0, rm 0), (1, vi l1), (2, vi l2)] [] (Y, (S, T)) _
      refine go_pick [1, 2, 3, 0] rfl ?_
      obtain ⟨y10, hy10, h⟩ := bind_el h
      refine f11_within_L3_ok hT _ _ _ _ hy10 ?_
      show Go _ _ _ _ _ _ 166 [(0, rm 0), (1, vi l1), (2, vi l2)] [] (Y, (y10, T)) _
      refine go_blk rfl [(.iinc 2 1, 3, 2, 0, 0, .inl 1)] 166 169 _ _ _ (by decide +kernel) ?_
      show Go _ _ _ _ _ _ 169 [(2, vi (l2 + 1)), (0, rm 0), (1, vi l1)] [] (Y, (y10, T)) _
      refine go_goto (off := (-117)) (tgt := 52) (by decide +kernel) (by decide) ?_
      refine go_pick [1, 2, 0] rfl ?_
      exact ih _ _ _ h k
theorem f11_within_L5_ok {T : jT} {Y : jS × jT} {S : jS} {Q : Option jV → jMem → Prop} (hT : LayM T) : ∀ (n : Nat) (l2 : Int32) (l3 : Int32) (r : Int32), f11_within_L5 S n l2 l3 = some r → Go M11_within 2 0 0 0 0 209 [(2, vi r)] [] (Y, (S, T)) Q → Go M11_within 2 0 0 0 0 176 [(0, rm 0), (2, vi l2), (3, vi l3)] [] (Y, (S, T)) Q := by
  intro n
  induction n with
  | zero => intro l2 l3 r h k; exact absurd h (by intro z; cases z)
  | succ n ih =>
    intro l2 l3 r h k
    rw [f11_within_L5] at h
    refine go_blk rfl [(.iload_n 3, 1, 3, 0, 0, .inl 0), (.bipush 64, 2, 0, 0, 0, .inl 64)] 176 179 _ _ _ (by decide +kernel) ?_
    show Go _ _ _ _ _ _ 179 [(0, rm 0), (2, vi l2), (3, vi l3)] [vi 64, vi l3] (Y, (S, T)) _
    refine ite_el h (fun q15 h => ?_) (fun q15 h => ?_)
    · refine go_icmp_ge (off := 30) (tgt := 209) (by decide +kernel) (by decide) (fun _ => ?_) (fun z => absurd q15 z)
      obtain rfl := Option.some.inj h
      refine go_pick [1] rfl ?_
      exact k
    · refine go_icmp_ge (off := 30) (tgt := 209) (by decide +kernel) (by decide) (fun z => absurd z q15) (fun _ => ?_)
      refine gd_el h (fun q16 h => ?_)
      refine go_blk rfl [(.aload_n 0, 1, 0, 0, 0, .inl 0), (.getfield 115, 3, 11, 48, 1, .inl 0), (.iload_n 3, 1, 3, 0, 0, .inl 0), (.iaload, 1, 20, 0, 0, .inl 0), (.iload_n 2, 1, 2, 0, 0, .inl 0)] 182 189 _ _ _ (by decide +kernel) ?_
      refine And.intro (lm_t0 hT) (Exists.intro _ (And.intro (gRm (lm_r48 hT)) ?_))
      refine And.intro (lm_t48 hT) (Exists.intro _ (And.intro (lm_n48 hT) (And.intro (inb_in q16) ?_)))
      show Go _ _ _ _ _ _ 189 [(0, rm 0), (2, vi l2), (3, vi l3)] [vi l2, vi (S.1 48 l3.toNatClampNeg)] (Y, (S, T)) _
      obtain ⟨y12, hy12, h⟩ := bind_el h
      have key : Go M11_within 2 0 0 0 0 202 [(0, rm 0), (3, vi l3)] [vi y12] (Y, (S, T)) Q := by
        refine go_blk rfl [(.istore_n 2, 1, 2, 0, 0, .inl 0), (.iinc 3 1, 3, 3, 0, 0, .inl 1)] 202 206 _ _ _ (by decide +kernel) ?_
        show Go _ _ _ _ _ _ 206 [(3, vi (l3 + 1)), (2, vi y12), (0, rm 0)] [] (Y, (S, T)) _
        refine go_goto (off := (-30)) (tgt := 176) (by decide +kernel) (by decide) ?_
        refine go_pick [2, 1, 0] rfl ?_
        exact ih _ _ _ h k
      replace h := hy12
      refine ite_el h (fun q17 h => ?_) (fun q17 h => ?_)
      · refine go_icmp_le (off := 12) (tgt := 201) (by decide +kernel) (by decide) (fun _ => ?_) (fun z => absurd q17 z)
        refine go_blk rfl [(.iload_n 2, 1, 2, 0, 0, .inl 0)] 201 202 _ _ _ (by decide +kernel) ?_
        show Go _ _ _ _ _ _ 202 [(0, rm 0), (2, vi l2), (3, vi l3)] [vi l2] (Y, (S, T)) _
        obtain rfl := Option.some.inj h
        refine go_pick [0, 2] rfl ?_
        exact key
      · refine go_icmp_le (off := 12) (tgt := 201) (by decide +kernel) (by decide) (fun z => absurd z q17) (fun _ => ?_)
        refine go_blk rfl [(.aload_n 0, 1, 0, 0, 0, .inl 0), (.getfield 115, 3, 11, 48, 1, .inl 0), (.iload_n 3, 1, 3, 0, 0, .inl 0), (.iaload, 1, 20, 0, 0, .inl 0)] 192 198 _ _ _ (by decide +kernel) ?_
        refine And.intro (lm_t0 hT) (Exists.intro _ (And.intro (gRm (lm_r48 hT)) ?_))
        refine And.intro (lm_t48 hT) (Exists.intro _ (And.intro (lm_n48 hT) (And.intro (inb_in q16) ?_)))
        show Go _ _ _ _ _ _ 198 [(0, rm 0), (2, vi l2), (3, vi l3)] [vi (S.1 48 l3.toNatClampNeg)] (Y, (S, T)) _
        refine go_goto (off := 4) (tgt := 202) (by decide +kernel) (by decide) ?_
        obtain rfl := Option.some.inj h
        refine go_pick [0, 2] rfl ?_
        exact key
theorem ret11_within {S : jS} {T : jT} {Y : jS × jT} {a0 : Int32} {S1 : jS} {x : Int32} (hT : LayM T) (h : f11_within S a0 = some (S1, x)) : Ret M11_within 2 0 0 [rm 0, vi a0] (Y, (S, T)) (some (vi x)) (Y, (S1, T)) := by
  refine Ret.of (by decide +kernel) (Nat.le_of_ble_eq_true rfl) ?_
  unfold f11_within at h
  show Go _ _ _ _ _ _ 0 [(0, rm 0), (1, vi a0)] [] (Y, (S, T)) _
  refine go_blk rfl [(.aload_n 0, 1, 0, 0, 0, .inl 0)] 0 1 _ _ _ (by decide +kernel) ?_
  show Go _ _ _ _ _ _ 1 [(0, rm 0), (1, vi a0)] [rm 0] (Y, (S, T)) _
  obtain ⟨r1, hr1, h⟩ := bind_el h
  refine go_callV (idx := 420) (z := 0) (M' := M11_isParty) (n := 0) (A := []) (v' := some (vi r1)) (μ' := (Y, (S, T))) (d' := 1) (mc' := 0) (ms' := 0) (kc' := 0) (ks' := 0) (ci := 11) (x := .inr (.inl 0)) (by decide +kernel) ml_11_420 rfl wv11_isParty rfl (by decide) rfl (lm_t0 hT) (ret11_isParty hT hr1) (by decide) rfl rfl (Nat.le_of_ble_eq_true rfl) rfl (jag rfl rfl) ?_
  show Go _ _ _ _ _ _ 4 [(0, rm 0), (1, vi a0)] [vi r1] (Y, (S, T)) _
  refine ite_el h (fun q1 h => ?_) (fun q1 h => ?_)
  · refine go_if_eq (off := 15) (tgt := 19) (by decide +kernel) (by decide) (fun _ => ?_) (fun z => absurd q1 z)
    refine go_blk rfl [(.iconst (-1), 1, 0, 0, 0, .inl (-1))] 19 20 _ _ _ (by decide +kernel) ?_
    show Go _ _ _ _ _ _ 20 [(0, rm 0), (1, vi a0)] [vi ((-1))] (Y, (S, T)) _
    obtain ⟨rfl, rfl⟩ := Prod.mk.inj (Option.some.inj h)
    exact go_ireturn (by decide +kernel) rfl rfl ⟨rfl, rfl⟩
  · refine go_if_eq (off := 15) (tgt := 19) (by decide +kernel) (by decide) (fun z => absurd z q1) (fun _ => ?_)
    refine go_blk rfl [(.iload_n 1, 1, 1, 0, 0, .inl 0), (.i2l, 1, 0, 0, 0, .inl 0), (.lconst 0, 1, 0, 0, 0, .inr (.inl 0)), (.ldc2_w 473, 3, 0, 0, 0, .inr (.inl 999))] 7 13 _ _ _ (by decide +kernel) ?_
    show Go _ _ _ _ _ _ 13 [(0, rm 0), (1, vi a0)] [vl 999, vl 0, vl a0.toInt64] (Y, (S, T)) _
    obtain ⟨r2, hr2, h⟩ := bind_el h
    refine go_callS (idx := 140) (z := 0) (M' := M11_in) (n := 3) (A := [vl a0.toInt64, vl 0, vl 999]) (v' := some (vi r2)) (μ' := (Y, (S, T))) (d' := 1) (mc' := 0) (ms' := 0) (kc' := 0) (ks' := 0) (by decide +kernel) ml_11_140 rfl ws11_in rfl (ret11_in hr2) (by decide) rfl rfl (Nat.le_of_ble_eq_true rfl) rfl (jag rfl rfl) ?_
    show Go _ _ _ _ _ _ 16 [(0, rm 0), (1, vi a0)] [vi r2] (Y, (S, T)) _
    refine ite_el h (fun q2 h => ?_) (fun q2 h => ?_)
    · refine go_if_ne (off := 5) (tgt := 21) (by decide +kernel) (by decide) (fun z => absurd q2 z) (fun _ => ?_)
      refine go_blk rfl [(.iconst (-1), 1, 0, 0, 0, .inl (-1))] 19 20 _ _ _ (by decide +kernel) ?_
      show Go _ _ _ _ _ _ 20 [(0, rm 0), (1, vi a0)] [vi ((-1))] (Y, (S, T)) _
      obtain ⟨rfl, rfl⟩ := Prod.mk.inj (Option.some.inj h)
      exact go_ireturn (by decide +kernel) rfl rfl ⟨rfl, rfl⟩
    · refine go_if_ne (off := 5) (tgt := 21) (by decide +kernel) (by decide) (fun _ => ?_) (fun z => absurd z q2)
      refine go_blk rfl [(.iconst 0, 1, 0, 0, 0, .inl 0), (.istore_n 2, 1, 2, 0, 0, .inl 0)] 21 23 _ _ _ (by decide +kernel) ?_
      show Go _ _ _ _ _ _ 23 [(2, vi 0), (0, rm 0), (1, vi a0)] [] (Y, (S, T)) _
      refine go_pick [1, 2, 0] rfl ?_
      obtain ⟨y3, hy3, h⟩ := bind_el h
      refine f11_within_L1_ok hT _ _ _ _ hy3 ?_
      show Go _ _ _ _ _ _ 50 [(0, rm 0), (1, vi a0)] [] (Y, (y3, T)) _
      refine go_blk rfl [(.iconst 0, 1, 0, 0, 0, .inl 0), (.istore_n 2, 1, 2, 0, 0, .inl 0)] 50 52 _ _ _ (by decide +kernel) ?_
      show Go _ _ _ _ _ _ 52 [(2, vi 0), (0, rm 0), (1, vi a0)] [] (Y, (y3, T)) _
      refine go_pick [1, 2, 0] rfl ?_
      obtain ⟨y11, hy11, h⟩ := bind_el h
      refine f11_within_L2_ok hT _ _ _ _ hy11 ?_
      show Go _ _ _ _ _ _ 172 [(0, rm 0)] [] (Y, (y11, T)) _
      refine go_blk rfl [(.iconst 0, 1, 0, 0, 0, .inl 0), (.istore_n 2, 1, 2, 0, 0, .inl 0), (.iconst 0, 1, 0, 0, 0, .inl 0), (.istore_n 3, 1, 3, 0, 0, .inl 0)] 172 176 _ _ _ (by decide +kernel) ?_
      show Go _ _ _ _ _ _ 176 [(3, vi 0), (2, vi 0), (0, rm 0)] [] (Y, (y11, T)) _
      refine go_pick [2, 1, 0] rfl ?_
      obtain ⟨y13, hy13, h⟩ := bind_el h
      refine f11_within_L5_ok hT _ _ _ _ hy13 ?_
      show Go _ _ _ _ _ _ 209 [(2, vi y13)] [] (Y, (y11, T)) _
      refine go_blk rfl [(.iload_n 2, 1, 2, 0, 0, .inl 0)] 209 210 _ _ _ (by decide +kernel) ?_
      show Go _ _ _ _ _ _ 210 [(2, vi y13)] [vi y13] (Y, (y11, T)) _
      obtain ⟨rfl, rfl⟩ := Prod.mk.inj (Option.some.inj h)
      exact go_ireturn (by decide +kernel) rfl rfl ⟨rfl, rfl⟩
def f11_meet_L1 (S : jS) (l1 : Int32) (l2 : Int32) : Nat → Int32 → Option Int32
  | 0, _ => none
  | n + 1, l3 => (if 60 < l3 then some ((-2)) else Option.bind (f11_placeIn S l1 l3) (fun r3 => Option.bind (f11_placeIn S l2 l3) (fun r4 => (if r3 = r4 then some l3 else f11_meet_L1 S l1 l2 n (l3 + 1)))))
def f11_meet (S : jS) (a0 : Int32) (a1 : Int32) : Option Int32 := Option.bind (f11_isStill S a0) (fun r1 => (if r1 = 0 then some ((-1)) else Option.bind (f11_isStill S a1) (fun r2 => (if r2 = 0 then some ((-1)) else (if a0 = a1 then some ((-1)) else f11_meet_L1 S a0 a1 jF 0)))))
theorem f11_meet_L1_ok {T : jT} {Y : jS × jT} {S : jS} {l1 : Int32} {l2 : Int32} {x : Int32} (hT : LayM T) : ∀ (n : Nat) (l3 : Int32), f11_meet_L1 S l1 l2 n l3 = some x → Go M11_meet 4 0 0 0 0 25 [(0, rm 0), (1, vi l1), (2, vi l2), (3, vi l3)] [] (Y, (S, T)) (eqQ (some (vi x)) (Y, (S, T))) := by
  intro n
  induction n with
  | zero => intro l3 h; exact absurd h (by intro z; cases z)
  | succ n ih =>
    intro l3 h
    rw [f11_meet_L1] at h
    refine go_blk rfl [(.iload_n 3, 1, 3, 0, 0, .inl 0), (.bipush 60, 2, 0, 0, 0, .inl 60)] 25 28 _ _ _ (by decide +kernel) ?_
    show Go _ _ _ _ _ _ 28 [(0, rm 0), (1, vi l1), (2, vi l2), (3, vi l3)] [vi 60, vi l3] (Y, (S, T)) _
    refine ite_el h (fun q4 h => ?_) (fun q4 h => ?_)
    · refine go_icmp_gt (off := 26) (tgt := 54) (by decide +kernel) (by decide) (fun _ => ?_) (fun z => absurd q4 z)
      refine go_blk rfl [(.bipush (-2), 2, 0, 0, 0, .inl (-2))] 54 56 _ _ _ (by decide +kernel) ?_
      show Go _ _ _ _ _ _ 56 [(0, rm 0), (1, vi l1), (2, vi l2), (3, vi l3)] [vi ((-2))] (Y, (S, T)) _
      obtain rfl := Option.some.inj h
      exact go_ireturn (by decide +kernel) rfl rfl ⟨rfl, rfl⟩
    · refine go_icmp_gt (off := 26) (tgt := 54) (by decide +kernel) (by decide) (fun z => absurd z q4) (fun _ => ?_)
      refine go_blk rfl [(.aload_n 0, 1, 0, 0, 0, .inl 0), (.iload_n 1, 1, 1, 0, 0, .inl 0), (.iload_n 3, 1, 3, 0, 0, .inl 0)] 31 34 _ _ _ (by decide +kernel) ?_
      show Go _ _ _ _ _ _ 34 [(0, rm 0), (1, vi l1), (2, vi l2), (3, vi l3)] [vi l3, vi l1, rm 0] (Y, (S, T)) _
      obtain ⟨r3, hr3, h⟩ := bind_el h
      refine go_callV (idx := 390) (z := 0) (M' := M11_placeIn) (n := 2) (A := [vi l1, vi l3]) (v' := some (vi r3)) (μ' := (Y, (S, T))) (d' := 1) (mc' := 0) (ms' := 0) (kc' := 0) (ks' := 0) (ci := 11) (x := .inr (.inl 0)) (by decide +kernel) ml_11_390 rfl wv11_placeIn rfl (by decide) rfl (lm_t0 hT) (ret11_placeIn hT hr3) (by decide) rfl rfl (Nat.le_of_ble_eq_true rfl) rfl (jag rfl rfl) ?_
      show Go _ _ _ _ _ _ 37 [(0, rm 0), (1, vi l1), (2, vi l2), (3, vi l3)] [vi r3] (Y, (S, T)) _
      refine go_blk rfl [(.aload_n 0, 1, 0, 0, 0, .inl 0), (.iload_n 2, 1, 2, 0, 0, .inl 0), (.iload_n 3, 1, 3, 0, 0, .inl 0)] 37 40 _ _ _ (by decide +kernel) ?_
      show Go _ _ _ _ _ _ 40 [(0, rm 0), (1, vi l1), (2, vi l2), (3, vi l3)] [vi l3, vi l2, rm 0, vi r3] (Y, (S, T)) _
      obtain ⟨r4, hr4, h⟩ := bind_el h
      refine go_callV (idx := 390) (z := 0) (M' := M11_placeIn) (n := 2) (A := [vi l2, vi l3]) (v' := some (vi r4)) (μ' := (Y, (S, T))) (d' := 1) (mc' := 0) (ms' := 0) (kc' := 0) (ks' := 0) (ci := 11) (x := .inr (.inl 0)) (by decide +kernel) ml_11_390 rfl wv11_placeIn rfl (by decide) rfl (lm_t0 hT) (ret11_placeIn hT hr4) (by decide) rfl rfl (Nat.le_of_ble_eq_true rfl) rfl (jag rfl rfl) ?_
      show Go _ _ _ _ _ _ 43 [(0, rm 0), (1, vi l1), (2, vi l2), (3, vi l3)] [vi r4, vi r3] (Y, (S, T)) _
      refine ite_el h (fun q5 h => ?_) (fun q5 h => ?_)
      · refine go_icmp_ne (off := 5) (tgt := 48) (by decide +kernel) (by decide) (fun z => absurd q5 z) (fun _ => ?_)
        refine go_blk rfl [(.iload_n 3, 1, 3, 0, 0, .inl 0)] 46 47 _ _ _ (by decide +kernel) ?_
        show Go _ _ _ _ _ _ 47 [(0, rm 0), (1, vi l1), (2, vi l2), (3, vi l3)] [vi l3] (Y, (S, T)) _
        obtain rfl := Option.some.inj h
        exact go_ireturn (by decide +kernel) rfl rfl ⟨rfl, rfl⟩
      · refine go_icmp_ne (off := 5) (tgt := 48) (by decide +kernel) (by decide) (fun _ => ?_) (fun z => absurd z q5)
        refine go_blk rfl [(.iinc 3 1, 3, 3, 0, 0, .inl 1)] 48 51 _ _ _ (by decide +kernel) ?_
        show Go _ _ _ _ _ _ 51 [(3, vi (l3 + 1)), (0, rm 0), (1, vi l1), (2, vi l2)] [] (Y, (S, T)) _
        refine go_goto (off := (-26)) (tgt := 25) (by decide +kernel) (by decide) ?_
        refine go_pick [1, 2, 3, 0] rfl ?_
        exact ih _ h
theorem ret11_meet {S : jS} {T : jT} {Y : jS × jT} {a0 : Int32} {a1 : Int32} {x : Int32} (hT : LayM T) (h : f11_meet S a0 a1 = some x) : Ret M11_meet 4 0 0 [rm 0, vi a0, vi a1] (Y, (S, T)) (some (vi x)) (Y, (S, T)) := by
  refine Ret.of (by decide +kernel) (Nat.le_of_ble_eq_true rfl) ?_
  unfold f11_meet at h
  show Go _ _ _ _ _ _ 0 [(0, rm 0), (1, vi a0), (2, vi a1)] [] (Y, (S, T)) _
  refine go_blk rfl [(.aload_n 0, 1, 0, 0, 0, .inl 0), (.iload_n 1, 1, 1, 0, 0, .inl 0)] 0 2 _ _ _ (by decide +kernel) ?_
  show Go _ _ _ _ _ _ 2 [(0, rm 0), (1, vi a0), (2, vi a1)] [vi a0, rm 0] (Y, (S, T)) _
  obtain ⟨r1, hr1, h⟩ := bind_el h
  refine go_callV (idx := 426) (z := 0) (M' := M11_isStill) (n := 1) (A := [vi a0]) (v' := some (vi r1)) (μ' := (Y, (S, T))) (d' := 3) (mc' := 0) (ms' := 0) (kc' := 0) (ks' := 0) (ci := 11) (x := .inr (.inl 0)) (by decide +kernel) ml_11_426 rfl wv11_isStill rfl (by decide) rfl (lm_t0 hT) (ret11_isStill hT hr1) (by decide) rfl rfl (Nat.le_of_ble_eq_true rfl) rfl (jag rfl rfl) ?_
  show Go _ _ _ _ _ _ 5 [(0, rm 0), (1, vi a0), (2, vi a1)] [vi r1] (Y, (S, T)) _
  refine ite_el h (fun q1 h => ?_) (fun q1 h => ?_)
  · refine go_if_eq (off := 16) (tgt := 21) (by decide +kernel) (by decide) (fun _ => ?_) (fun z => absurd q1 z)
    refine go_blk rfl [(.iconst (-1), 1, 0, 0, 0, .inl (-1))] 21 22 _ _ _ (by decide +kernel) ?_
    show Go _ _ _ _ _ _ 22 [(0, rm 0), (1, vi a0), (2, vi a1)] [vi ((-1))] (Y, (S, T)) _
    obtain rfl := Option.some.inj h
    exact go_ireturn (by decide +kernel) rfl rfl ⟨rfl, rfl⟩
  · refine go_if_eq (off := 16) (tgt := 21) (by decide +kernel) (by decide) (fun z => absurd z q1) (fun _ => ?_)
    refine go_blk rfl [(.aload_n 0, 1, 0, 0, 0, .inl 0), (.iload_n 2, 1, 2, 0, 0, .inl 0)] 8 10 _ _ _ (by decide +kernel) ?_
    show Go _ _ _ _ _ _ 10 [(0, rm 0), (1, vi a0), (2, vi a1)] [vi a1, rm 0] (Y, (S, T)) _
    obtain ⟨r2, hr2, h⟩ := bind_el h
    refine go_callV (idx := 426) (z := 0) (M' := M11_isStill) (n := 1) (A := [vi a1]) (v' := some (vi r2)) (μ' := (Y, (S, T))) (d' := 3) (mc' := 0) (ms' := 0) (kc' := 0) (ks' := 0) (ci := 11) (x := .inr (.inl 0)) (by decide +kernel) ml_11_426 rfl wv11_isStill rfl (by decide) rfl (lm_t0 hT) (ret11_isStill hT hr2) (by decide) rfl rfl (Nat.le_of_ble_eq_true rfl) rfl (jag rfl rfl) ?_
    show Go _ _ _ _ _ _ 13 [(0, rm 0), (1, vi a0), (2, vi a1)] [vi r2] (Y, (S, T)) _
    refine ite_el h (fun q2 h => ?_) (fun q2 h => ?_)
    · refine go_if_eq (off := 8) (tgt := 21) (by decide +kernel) (by decide) (fun _ => ?_) (fun z => absurd q2 z)
      refine go_blk rfl [(.iconst (-1), 1, 0, 0, 0, .inl (-1))] 21 22 _ _ _ (by decide +kernel) ?_
      show Go _ _ _ _ _ _ 22 [(0, rm 0), (1, vi a0), (2, vi a1)] [vi ((-1))] (Y, (S, T)) _
      obtain rfl := Option.some.inj h
      exact go_ireturn (by decide +kernel) rfl rfl ⟨rfl, rfl⟩
    · refine go_if_eq (off := 8) (tgt := 21) (by decide +kernel) (by decide) (fun z => absurd z q2) (fun _ => ?_)
      refine go_blk rfl [(.iload_n 1, 1, 1, 0, 0, .inl 0), (.iload_n 2, 1, 2, 0, 0, .inl 0)] 16 18 _ _ _ (by decide +kernel) ?_
      show Go _ _ _ _ _ _ 18 [(0, rm 0), (1, vi a0), (2, vi a1)] [vi a1, vi a0] (Y, (S, T)) _
      refine ite_el h (fun q3 h => ?_) (fun q3 h => ?_)
      · refine go_icmp_ne (off := 5) (tgt := 23) (by decide +kernel) (by decide) (fun z => absurd q3 z) (fun _ => ?_)
        refine go_blk rfl [(.iconst (-1), 1, 0, 0, 0, .inl (-1))] 21 22 _ _ _ (by decide +kernel) ?_
        show Go _ _ _ _ _ _ 22 [(0, rm 0), (1, vi a0), (2, vi a1)] [vi ((-1))] (Y, (S, T)) _
        obtain rfl := Option.some.inj h
        exact go_ireturn (by decide +kernel) rfl rfl ⟨rfl, rfl⟩
      · refine go_icmp_ne (off := 5) (tgt := 23) (by decide +kernel) (by decide) (fun _ => ?_) (fun z => absurd z q3)
        refine go_blk rfl [(.iconst 0, 1, 0, 0, 0, .inl 0), (.istore_n 3, 1, 3, 0, 0, .inl 0)] 23 25 _ _ _ (by decide +kernel) ?_
        show Go _ _ _ _ _ _ 25 [(3, vi 0), (0, rm 0), (1, vi a0), (2, vi a1)] [] (Y, (S, T)) _
        refine go_pick [1, 2, 3, 0] rfl ?_
        exact f11_meet_L1_ok hT _ _ h
def f11_areAllBack_L1 (S : jS) (l1 : Int32) : Nat → Int32 → Option Int32
  | 0, _ => none
  | n + 1, l2 => (if (S.1 1 2) ≤ l2 then some 1 else Option.bind (f11_has (S.1 1 6) l2) (fun r1 => (if r1 = 0 then f11_areAllBack_L1 S l1 n (l2 + 1) else Option.bind (f11_placeIn S l2 l1) (fun r2 => (if inb l2 7 then (if r2 = (S.1 2 l2.toNatClampNeg) then f11_areAllBack_L1 S l1 n (l2 + 1) else some 0) else none)))))
def f11_areAllBack (S : jS) (a0 : Int32) : Option Int32 := f11_areAllBack_L1 S a0 jF 0
theorem f11_areAllBack_L1_ok {T : jT} {Y : jS × jT} {S : jS} {l1 : Int32} {x : Int32} (hT : LayM T) : ∀ (n : Nat) (l2 : Int32), f11_areAllBack_L1 S l1 n l2 = some x → Go M11_areAllBack 2 0 0 0 0 2 [(0, rm 0), (1, vi l1), (2, vi l2)] [] (Y, (S, T)) (eqQ (some (vi x)) (Y, (S, T))) := by
  intro n
  induction n with
  | zero => intro l2 h; exact absurd h (by intro z; cases z)
  | succ n ih =>
    intro l2 h
    rw [f11_areAllBack_L1] at h
    refine go_blk rfl [(.iload_n 2, 1, 2, 0, 0, .inl 0), (.aload_n 0, 1, 0, 0, 0, .inl 0), (.getfield 9, 3, 11, 1, 1, .inl 0), (.iconst 2, 1, 0, 0, 0, .inl 2), (.iaload, 1, 20, 0, 0, .inl 0)] 2 9 _ _ _ (by decide +kernel) ?_
    refine And.intro (lm_t0 hT) (Exists.intro _ (And.intro (gRm (lm_r1 hT)) ?_))
    refine And.intro (lm_t1 hT) (Exists.intro _ (And.intro (lm_n1 hT) (And.intro (inb_in (by decide)) ?_)))
    show Go _ _ _ _ _ _ 9 [(0, rm 0), (1, vi l1), (2, vi l2)] [vi (S.1 1 2), vi l2] (Y, (S, T)) _
    refine ite_el h (fun q1 h => ?_) (fun q1 h => ?_)
    · refine go_icmp_ge (off := 40) (tgt := 49) (by decide +kernel) (by decide) (fun _ => ?_) (fun z => absurd q1 z)
      refine go_blk rfl [(.iconst 1, 1, 0, 0, 0, .inl 1)] 49 50 _ _ _ (by decide +kernel) ?_
      show Go _ _ _ _ _ _ 50 [(0, rm 0), (1, vi l1), (2, vi l2)] [vi 1] (Y, (S, T)) _
      obtain rfl := Option.some.inj h
      exact go_ireturn (by decide +kernel) rfl rfl ⟨rfl, rfl⟩
    · refine go_icmp_ge (off := 40) (tgt := 49) (by decide +kernel) (by decide) (fun z => absurd z q1) (fun _ => ?_)
      refine go_blk rfl [(.aload_n 0, 1, 0, 0, 0, .inl 0), (.getfield 9, 3, 11, 1, 1, .inl 0), (.bipush 6, 2, 0, 0, 0, .inl 6), (.iaload, 1, 20, 0, 0, .inl 0), (.iload_n 2, 1, 2, 0, 0, .inl 0)] 12 20 _ _ _ (by decide +kernel) ?_
      refine And.intro (lm_t0 hT) (Exists.intro _ (And.intro (gRm (lm_r1 hT)) ?_))
      refine And.intro (lm_t1 hT) (Exists.intro _ (And.intro (lm_n1 hT) (And.intro (inb_in (by decide)) ?_)))
      show Go _ _ _ _ _ _ 20 [(0, rm 0), (1, vi l1), (2, vi l2)] [vi l2, vi (S.1 1 6)] (Y, (S, T)) _
      obtain ⟨r1, hr1, h⟩ := bind_el h
      refine go_callS (idx := 148) (z := 0) (M' := M11_has) (n := 2) (A := [vi (S.1 1 6), vi l2]) (v' := some (vi r1)) (μ' := (Y, (S, T))) (d' := 1) (mc' := 0) (ms' := 0) (kc' := 0) (ks' := 0) (by decide +kernel) ml_11_148 rfl ws11_has rfl (ret11_has hr1) (by decide) rfl rfl (Nat.le_of_ble_eq_true rfl) rfl (jag rfl rfl) ?_
      show Go _ _ _ _ _ _ 23 [(0, rm 0), (1, vi l1), (2, vi l2)] [vi r1] (Y, (S, T)) _
      refine ite_el h (fun q2 h => ?_) (fun q2 h => ?_)
      · refine go_if_eq (off := 20) (tgt := 43) (by decide +kernel) (by decide) (fun _ => ?_) (fun z => absurd q2 z)
        refine go_blk rfl [(.iinc 2 1, 3, 2, 0, 0, .inl 1)] 43 46 _ _ _ (by decide +kernel) ?_
        show Go _ _ _ _ _ _ 46 [(2, vi (l2 + 1)), (0, rm 0), (1, vi l1)] [] (Y, (S, T)) _
        refine go_goto (off := (-44)) (tgt := 2) (by decide +kernel) (by decide) ?_
        refine go_pick [1, 2, 0] rfl ?_
        exact ih _ h
      · refine go_if_eq (off := 20) (tgt := 43) (by decide +kernel) (by decide) (fun z => absurd z q2) (fun _ => ?_)
        refine go_blk rfl [(.aload_n 0, 1, 0, 0, 0, .inl 0), (.iload_n 2, 1, 2, 0, 0, .inl 0), (.iload_n 1, 1, 1, 0, 0, .inl 0)] 26 29 _ _ _ (by decide +kernel) ?_
        show Go _ _ _ _ _ _ 29 [(0, rm 0), (1, vi l1), (2, vi l2)] [vi l1, vi l2, rm 0] (Y, (S, T)) _
        obtain ⟨r2, hr2, h⟩ := bind_el h
        refine go_callV (idx := 390) (z := 0) (M' := M11_placeIn) (n := 2) (A := [vi l2, vi l1]) (v' := some (vi r2)) (μ' := (Y, (S, T))) (d' := 1) (mc' := 0) (ms' := 0) (kc' := 0) (ks' := 0) (ci := 11) (x := .inr (.inl 0)) (by decide +kernel) ml_11_390 rfl wv11_placeIn rfl (by decide) rfl (lm_t0 hT) (ret11_placeIn hT hr2) (by decide) rfl rfl (Nat.le_of_ble_eq_true rfl) rfl (jag rfl rfl) ?_
        show Go _ _ _ _ _ _ 32 [(0, rm 0), (1, vi l1), (2, vi l2)] [vi r2] (Y, (S, T)) _
        refine gd_el h (fun q3 h => ?_)
        refine go_blk rfl [(.aload_n 0, 1, 0, 0, 0, .inl 0), (.getfield 13, 3, 11, 2, 1, .inl 0), (.iload_n 2, 1, 2, 0, 0, .inl 0), (.iaload, 1, 20, 0, 0, .inl 0)] 32 38 _ _ _ (by decide +kernel) ?_
        refine And.intro (lm_t0 hT) (Exists.intro _ (And.intro (gRm (lm_r2 hT)) ?_))
        refine And.intro (lm_t2 hT) (Exists.intro _ (And.intro (lm_n2 hT) (And.intro (inb_in q3) ?_)))
        show Go _ _ _ _ _ _ 38 [(0, rm 0), (1, vi l1), (2, vi l2)] [vi (S.1 2 l2.toNatClampNeg), vi r2] (Y, (S, T)) _
        refine ite_el h (fun q4 h => ?_) (fun q4 h => ?_)
        · refine go_icmp_eq (off := 5) (tgt := 43) (by decide +kernel) (by decide) (fun _ => ?_) (fun z => absurd q4 z)
          refine go_blk rfl [(.iinc 2 1, 3, 2, 0, 0, .inl 1)] 43 46 _ _ _ (by decide +kernel) ?_
          show Go _ _ _ _ _ _ 46 [(2, vi (l2 + 1)), (0, rm 0), (1, vi l1)] [] (Y, (S, T)) _
          refine go_goto (off := (-44)) (tgt := 2) (by decide +kernel) (by decide) ?_
          refine go_pick [1, 2, 0] rfl ?_
          exact ih _ h
        · refine go_icmp_eq (off := 5) (tgt := 43) (by decide +kernel) (by decide) (fun z => absurd z q4) (fun _ => ?_)
          refine go_blk rfl [(.iconst 0, 1, 0, 0, 0, .inl 0)] 41 42 _ _ _ (by decide +kernel) ?_
          show Go _ _ _ _ _ _ 42 [(0, rm 0), (1, vi l1), (2, vi l2)] [vi 0] (Y, (S, T)) _
          obtain rfl := Option.some.inj h
          exact go_ireturn (by decide +kernel) rfl rfl ⟨rfl, rfl⟩
theorem ret11_areAllBack {S : jS} {T : jT} {Y : jS × jT} {a0 : Int32} {x : Int32} (hT : LayM T) (h : f11_areAllBack S a0 = some x) : Ret M11_areAllBack 2 0 0 [rm 0, vi a0] (Y, (S, T)) (some (vi x)) (Y, (S, T)) := by
  refine Ret.of (by decide +kernel) (Nat.le_of_ble_eq_true rfl) ?_
  unfold f11_areAllBack at h
  show Go _ _ _ _ _ _ 0 [(0, rm 0), (1, vi a0)] [] (Y, (S, T)) _
  refine go_blk rfl [(.iconst 0, 1, 0, 0, 0, .inl 0), (.istore_n 2, 1, 2, 0, 0, .inl 0)] 0 2 _ _ _ (by decide +kernel) ?_
  show Go _ _ _ _ _ _ 2 [(2, vi 0), (0, rm 0), (1, vi a0)] [] (Y, (S, T)) _
  refine go_pick [1, 2, 0] rfl ?_
  exact f11_areAllBack_L1_ok hT _ _ h
