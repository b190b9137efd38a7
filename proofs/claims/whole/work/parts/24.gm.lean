def f11_quicks_L1 (l1 : Int32) : Nat → jS → Int32 → Int32 → Option (jS × Int32)
  | 0, _, _, _ => none
  | n + 1, S, l2, l3 => (if 9 < l3 then some (S, l2) else Option.bind (f11_begins S) (fun r3 => (if inb l1 7 then Option.bind (f11_doNotesFit (wI r3.1 4 l1.toNatClampNeg l3)) (fun r4 => f11_quicks_L1 l1 n r4.1 (l2 ||| (((if r4.2 = 0 then 0 else ((1 : Int32) <<< (l3 &&& 31))) : Int32))) (l3 + 1)) else none)))
def f11_quicks (S : jS) (a0 : Int32) : Option (jS × Int32) := Option.bind (f11_isGuest S a0) (fun r1 => (if r1 = 0 then some (S, (-1)) else Option.bind (f11_keepsAll S) (fun r2 => Option.bind (f11_quicks_L1 a0 jF r2.1 0 1) (fun y5 => some (y5.1, y5.2)))))
theorem f11_quicks_L1_ok {T : jT} {Y : jS × jT} {l1 : Int32} {Q : Option jV → jMem → Prop} (hT : LayM T) : ∀ (n : Nat) (S : jS) (l2 : Int32) (l3 : Int32) (r : (jS × Int32)), f11_quicks_L1 l1 n S l2 l3 = some r → Go M11_quicks 8 0 0 0 0 58 [(2, vi r.2)] [] (Y, (r.1, T)) Q → Go M11_quicks 8 0 0 0 0 18 [(0, rm 0), (1, vi l1), (2, vi l2), (3, vi l3)] [] (Y, (S, T)) Q := by
  intro n
  induction n with
  | zero => intro S l2 l3 r h k; exact absurd h (by intro z; cases z)
  | succ n ih =>
    intro S l2 l3 r h k
    rw [f11_quicks_L1] at h
    refine go_blk rfl [(.iload_n 3, 1, 3, 0, 0, .inl 0), (.bipush 9, 2, 0, 0, 0, .inl 9)] 18 21 _ _ _ (by decide +kernel) ?_
    show Go _ _ _ _ _ _ 21 [(0, rm 0), (1, vi l1), (2, vi l2), (3, vi l3)] [vi 9, vi l3] (Y, (S, T)) _
    refine ite_el h (fun q2 h => ?_) (fun q2 h => ?_)
    · refine go_icmp_gt (off := 37) (tgt := 58) (by decide +kernel) (by decide) (fun _ => ?_) (fun z => absurd q2 z)
      obtain rfl := Option.some.inj h
      refine go_pick [2] rfl ?_
      exact k
    · refine go_icmp_gt (off := 37) (tgt := 58) (by decide +kernel) (by decide) (fun z => absurd z q2) (fun _ => ?_)
      refine go_blk rfl [(.aload_n 0, 1, 0, 0, 0, .inl 0)] 24 25 _ _ _ (by decide +kernel) ?_
      show Go _ _ _ _ _ _ 25 [(0, rm 0), (1, vi l1), (2, vi l2), (3, vi l3)] [rm 0] (Y, (S, T)) _
      obtain ⟨r3, hr3, h⟩ := bind_el h
      refine go_callV (idx := 317) (z := 0) (M' := M11_begins) (n := 0) (A := []) (v' := none) (μ' := (Y, (r3.1, T))) (d' := 2) (mc' := 0) (ms' := 0) (kc' := 0) (ks' := 0) (ci := 11) (x := .inr (.inl 0)) (by decide +kernel) ml_11_317 rfl wv11_begins rfl (by decide) rfl (lm_t0 hT) (ret11_begins hT hr3) (by decide) rfl rfl (Nat.le_of_ble_eq_true rfl) rfl (jag rfl rfl) ?_
      show Go _ _ _ _ _ _ 28 [(0, rm 0), (1, vi l1), (2, vi l2), (3, vi l3)] [] (Y, (r3.1, T)) _
      refine gd_el h (fun q3 h => ?_)
      refine go_blk rfl [(.aload_n 0, 1, 0, 0, 0, .inl 0), (.getfield 19, 3, 11, 4, 1, .inl 0), (.iload_n 1, 1, 1, 0, 0, .inl 0), (.iload_n 3, 1, 3, 0, 0, .inl 0), (.iastore, 1, 20, 0, 0, .inl 0)] 28 35 _ _ _ (by decide +kernel) ?_
      refine And.intro (lm_t0 hT) (Exists.intro _ (And.intro (gRm (lm_r4 hT)) ?_))
      refine And.intro (lm_t4 hT) (Exists.intro _ (And.intro (lm_n4 hT) (And.intro (inb_in q3) ?_)))
      show Go _ _ _ _ _ _ 35 [(0, rm 0), (1, vi l1), (2, vi l2), (3, vi l3)] [] (Y, (wI r3.1 4 l1.toNatClampNeg l3, T)) _
      refine go_blk rfl [(.iload_n 2, 1, 2, 0, 0, .inl 0), (.aload_n 0, 1, 0, 0, 0, .inl 0)] 35 37 _ _ _ (by decide +kernel) ?_
      show Go _ _ _ _ _ _ 37 [(0, rm 0), (1, vi l1), (2, vi l2), (3, vi l3)] [rm 0, vi l2] (Y, (wI r3.1 4 l1.toNatClampNeg l3, T)) _
      obtain ⟨r4, hr4, h⟩ := bind_el h
      refine go_callV (idx := 492) (z := 0) (M' := M11_doNotesFit) (n := 0) (A := []) (v' := some (vi r4.2)) (μ' := (Y, (r4.1, T))) (d' := 7) (mc' := 0) (ms' := 0) (kc' := 0) (ks' := 0) (ci := 11) (x := .inr (.inl 0)) (by decide +kernel) ml_11_492 rfl wv11_doNotesFit rfl (by decide) rfl (lm_t0 hT) (ret11_doNotesFit hT hr4) (by decide) rfl rfl (Nat.le_of_ble_eq_true rfl) rfl (jag rfl rfl) ?_
      show Go _ _ _ _ _ _ 40 [(0, rm 0), (1, vi l1), (2, vi l2), (3, vi l3)] [vi r4.2, vi l2] (Y, (r4.1, T)) _
      have key : ∀ z0 : Int32, z0 = ((if r4.2 = 0 then 0 else ((1 : Int32) <<< (l3 &&& 31))) : Int32) → Go M11_quicks 8 0 0 0 0 50 [(0, rm 0), (1, vi l1), (3, vi l3)] [vi z0, vi l2] (Y, (r4.1, T)) Q := by
        intro z0 ez0
        subst ez0
        refine go_blk rfl [(.ior, 1, 0, 0, 0, .inl 0), (.istore_n 2, 1, 2, 0, 0, .inl 0), (.iinc 3 1, 3, 3, 0, 0, .inl 1)] 50 55 _ _ _ (by decide +kernel) ?_
        show Go _ _ _ _ _ _ 55 [(3, vi (l3 + 1)), (2, vi (l2 ||| (((if r4.2 = 0 then 0 else ((1 : Int32) <<< (l3 &&& 31))) : Int32)))), (0, rm 0), (1, vi l1)] [] (Y, (r4.1, T)) _
        refine go_goto (off := (-37)) (tgt := 18) (by decide +kernel) (by decide) ?_
        refine go_pick [2, 3, 1, 0] rfl ?_
        exact ih _ _ _ _ h k
      clear h
      by_cases q4 : r4.2 = 0
      · refine go_if_eq (off := 9) (tgt := 49) (by decide +kernel) (by decide) (fun _ => ?_) (fun z => absurd q4 z)
        refine go_blk rfl [(.iconst 0, 1, 0, 0, 0, .inl 0)] 49 50 _ _ _ (by decide +kernel) ?_
        show Go _ _ _ _ _ _ 50 [(0, rm 0), (1, vi l1), (2, vi l2), (3, vi l3)] [vi 0, vi l2] (Y, (r4.1, T)) _
        refine go_pick [0, 1, 3] rfl ?_; exact key _ (by rw [if_pos q4])
      · refine go_if_eq (off := 9) (tgt := 49) (by decide +kernel) (by decide) (fun z => absurd z q4) (fun _ => ?_)
        refine go_blk rfl [(.iconst 1, 1, 0, 0, 0, .inl 1), (.iload_n 3, 1, 3, 0, 0, .inl 0), (.ishl, 1, 0, 0, 0, .inl 0)] 43 46 _ _ _ (by decide +kernel) ?_
        show Go _ _ _ _ _ _ 46 [(0, rm 0), (1, vi l1), (2, vi l2), (3, vi l3)] [vi ((1 : Int32) <<< (l3 &&& 31)), vi l2] (Y, (r4.1, T)) _
        refine go_goto (off := 4) (tgt := 50) (by decide +kernel) (by decide) ?_
        refine go_pick [0, 1, 3] rfl ?_; exact key _ (by rw [if_neg q4])
theorem ret11_quicks {S : jS} {T : jT} {Y : jS × jT} {a0 : Int32} {S1 : jS} {x : Int32} (hT : LayM T) (h : f11_quicks S a0 = some (S1, x)) : Ret M11_quicks 8 0 0 [rm 0, vi a0] (Y, (S, T)) (some (vi x)) (Y, (S1, T)) := by
  refine Ret.of (by decide +kernel) (Nat.le_of_ble_eq_true rfl) ?_
  unfold f11_quicks at h
  show Go _ _ _ _ _ _ 0 [(0, rm 0), (1, vi a0)] [] (Y, (S, T)) _
  refine go_blk rfl [(.aload_n 0, 1, 0, 0, 0, .inl 0), (.iload_n 1, 1, 1, 0, 0, .inl 0)] 0 2 _ _ _ (by decide +kernel) ?_
  show Go _ _ _ _ _ _ 2 [(0, rm 0), (1, vi a0)] [vi a0, rm 0] (Y, (S, T)) _
  obtain ⟨r1, hr1, h⟩ := bind_el h
  refine go_callV (idx := 144) (z := 0) (M' := M11_isGuest) (n := 1) (A := [vi a0]) (v' := some (vi r1)) (μ' := (Y, (S, T))) (d' := 2) (mc' := 0) (ms' := 0) (kc' := 0) (ks' := 0) (ci := 11) (x := .inr (.inl 0)) (by decide +kernel) ml_11_144 rfl wv11_isGuest rfl (by decide) rfl (lm_t0 hT) (ret11_isGuest hT hr1) (by decide) rfl rfl (Nat.le_of_ble_eq_true rfl) rfl (jag rfl rfl) ?_
  show Go _ _ _ _ _ _ 5 [(0, rm 0), (1, vi a0)] [vi r1] (Y, (S, T)) _
  refine ite_el h (fun q1 h => ?_) (fun q1 h => ?_)
  · refine go_if_ne (off := 5) (tgt := 10) (by decide +kernel) (by decide) (fun z => absurd q1 z) (fun _ => ?_)
    refine go_blk rfl [(.iconst (-1), 1, 0, 0, 0, .inl (-1))] 8 9 _ _ _ (by decide +kernel) ?_
    show Go _ _ _ _ _ _ 9 [(0, rm 0), (1, vi a0)] [vi ((-1))] (Y, (S, T)) _
    obtain ⟨rfl, rfl⟩ := Prod.mk.inj (Option.some.inj h)
    exact go_ireturn (by decide +kernel) rfl rfl ⟨rfl, rfl⟩
  · refine go_if_ne (off := 5) (tgt := 10) (by decide +kernel) (by decide) (fun _ => ?_) (fun z => absurd z q1)
    refine go_blk rfl [(.aload_n 0, 1, 0, 0, 0, .inl 0)] 10 11 _ _ _ (by decide +kernel) ?_
    show Go _ _ _ _ _ _ 11 [(0, rm 0), (1, vi a0)] [rm 0] (Y, (S, T)) _
    obtain ⟨r2, hr2, h⟩ := bind_el h
    refine go_callV (idx := 438) (z := 0) (M' := M11_keepsAll) (n := 0) (A := []) (v' := none) (μ' := (Y, (r2.1, T))) (d' := 3) (mc' := 0) (ms' := 0) (kc' := 0) (ks' := 0) (ci := 11) (x := .inr (.inl 0)) (by decide +kernel) ml_11_438 rfl wv11_keepsAll rfl (by decide) rfl (lm_t0 hT) (ret11_keepsAll hT hr2) (by decide) rfl rfl (Nat.le_of_ble_eq_true rfl) rfl (jag rfl rfl) ?_
    show Go _ _ _ _ _ _ 14 [(0, rm 0), (1, vi a0)] [] (Y, (r2.1, T)) _
    refine go_blk rfl [(.iconst 0, 1, 0, 0, 0, .inl 0), (.istore_n 2, 1, 2, 0, 0, .inl 0), (.iconst 1, 1, 0, 0, 0, .inl 1), (.istore_n 3, 1, 3, 0, 0, .inl 0)] 14 18 _ _ _ (by decide +kernel) ?_
    show Go _ _ _ _ _ _ 18 [(3, vi 1), (2, vi 0), (0, rm 0), (1, vi a0)] [] (Y, (r2.1, T)) _
    refine go_pick [2, 3, 1, 0] rfl ?_
    obtain ⟨y5, hy5, h⟩ := bind_el h
    refine f11_quicks_L1_ok hT _ _ _ _ _ hy5 ?_
    show Go _ _ _ _ _ _ 58 [(2, vi y5.2)] [] (Y, (y5.1, T)) _
    refine go_blk rfl [(.iload_n 2, 1, 2, 0, 0, .inl 0)] 58 59 _ _ _ (by decide +kernel) ?_
    show Go _ _ _ _ _ _ 59 [(2, vi y5.2)] [vi y5.2] (Y, (y5.1, T)) _
    obtain ⟨rfl, rfl⟩ := Prod.mk.inj (Option.some.inj h)
    exact go_ireturn (by decide +kernel) rfl rfl ⟨rfl, rfl⟩
def f11_mostAlike_L1 (S : jS) (l1 : Int32) (l2 : Int32) : Nat → Int32 → Int32 → Option Int32
  | 0, _, _ => none
  | n + 1, l3, l4 => (if l2 ≤ l4 then some l3 else (if inb l4 7 then f11_mostAlike_L1 S l1 l2 n (l3 + (((S.1 52 l4.toNatClampNeg) >>> (l1 &&& 31)) &&& 1)) (l4 + 1) else none))
def f11_mostAlike (S : jS) (a0 : Int32) (a1 : Int32) : Option Int32 := Option.bind (f11_mostAlike_L1 S a0 a1 jF 0 0) (fun y1 => (if y1 ≤ (a1 - y1) then some (a1 - y1) else some y1))
theorem f11_mostAlike_L1_ok {T : jT} {Y : jS × jT} {S : jS} {l1 : Int32} {l2 : Int32} {Q : Option jV → jMem → Prop} (hT : LayM T) : ∀ (n : Nat) (l3 : Int32) (l4 : Int32) (r : Int32), f11_mostAlike_L1 S l1 l2 n l3 l4 = some r → Go M11_mostAlike 1 0 0 0 0 31 [(2, vi l2), (3, vi r)] [] (Y, (S, T)) Q → Go M11_mostAlike 1 0 0 0 0 5 [(0, rm 0), (1, vi l1), (2, vi l2), (3, vi l3), (4, vi l4)] [] (Y, (S, T)) Q := by
  intro n
  induction n with
  | zero => intro l3 l4 r h k; exact absurd h (by intro z; cases z)
  | succ n ih =>
    intro l3 l4 r h k
    rw [f11_mostAlike_L1] at h
    refine go_blk rfl [(.iload 4, 2, 4, 0, 0, .inl 0), (.iload_n 2, 1, 2, 0, 0, .inl 0)] 5 8 _ _ _ (by decide +kernel) ?_
    show Go _ _ _ _ _ _ 8 [(0, rm 0), (1, vi l1), (2, vi l2), (3, vi l3), (4, vi l4)] [vi l2, vi l4] (Y, (S, T)) _
    refine ite_el h (fun q1 h => ?_) (fun q1 h => ?_)
    · refine go_icmp_ge (off := 23) (tgt := 31) (by decide +kernel) (by decide) (fun _ => ?_) (fun z => absurd q1 z)
      obtain rfl := Option.some.inj h
      refine go_pick [2, 3] rfl ?_
      exact k
    · refine go_icmp_ge (off := 23) (tgt := 31) (by decide +kernel) (by decide) (fun z => absurd z q1) (fun _ => ?_)
      refine gd_el h (fun q2 h => ?_)
      refine go_blk rfl [(.iload_n 3, 1, 3, 0, 0, .inl 0), (.aload_n 0, 1, 0, 0, 0, .inl 0), (.getfield 127, 3, 11, 52, 1, .inl 0), (.iload 4, 2, 4, 0, 0, .inl 0), (.iaload, 1, 20, 0, 0, .inl 0), (.iload_n 1, 1, 1, 0, 0, .inl 0), (.ishr, 1, 0, 0, 0, .inl 0), (.iconst 1, 1, 0, 0, 0, .inl 1), (.iand, 1, 0, 0, 0, .inl 0), (.iadd, 1, 0, 0, 0, .inl 0), (.istore_n 3, 1, 3, 0, 0, .inl 0), (.iinc 4 1, 3, 4, 0, 0, .inl 1)] 11 28 _ _ _ (by decide +kernel) ?_
      refine And.intro (lm_t0 hT) (Exists.intro _ (And.intro (gRm (lm_r52 hT)) ?_))
      refine And.intro (lm_t52 hT) (Exists.intro _ (And.intro (lm_n52 hT) (And.intro (inb_in q2) ?_)))
      show Go _ _ _ _ _ _ 28 [(4, vi (l4 + 1)), (3, vi (l3 + (((S.1 52 l4.toNatClampNeg) >>> (l1 &&& 31)) &&& 1))), (0, rm 0), (1, vi l1), (2, vi l2)] [] (Y, (S, T)) _
      refine go_goto (off := (-23)) (tgt := 5) (by decide +kernel) (by decide) ?_
      refine go_pick [2, 3, 4, 1, 0] rfl ?_
      exact ih _ _ _ h k
theorem ret11_mostAlike {S : jS} {T : jT} {Y : jS × jT} {a0 : Int32} {a1 : Int32} {x : Int32} (hT : LayM T) (h : f11_mostAlike S a0 a1 = some x) : Ret M11_mostAlike 1 0 0 [rm 0, vi a0, vi a1] (Y, (S, T)) (some (vi x)) (Y, (S, T)) := by
  refine Ret.of (by decide +kernel) (Nat.le_of_ble_eq_true rfl) ?_
  unfold f11_mostAlike at h
  show Go _ _ _ _ _ _ 0 [(0, rm 0), (1, vi a0), (2, vi a1)] [] (Y, (S, T)) _
  refine go_blk rfl [(.iconst 0, 1, 0, 0, 0, .inl 0), (.istore_n 3, 1, 3, 0, 0, .inl 0), (.iconst 0, 1, 0, 0, 0, .inl 0), (.istore 4, 2, 4, 0, 0, .inl 0)] 0 5 _ _ _ (by decide +kernel) ?_
  show Go _ _ _ _ _ _ 5 [(4, vi 0), (3, vi 0), (0, rm 0), (1, vi a0), (2, vi a1)] [] (Y, (S, T)) _
  refine go_pick [2, 3, 4, 1, 0] rfl ?_
  obtain ⟨y1, hy1, h⟩ := bind_el h
  refine f11_mostAlike_L1_ok hT _ _ _ _ hy1 ?_
  show Go _ _ _ _ _ _ 31 [(2, vi a1), (3, vi y1)] [] (Y, (S, T)) _
  refine go_blk rfl [(.iload_n 3, 1, 3, 0, 0, .inl 0), (.iload_n 2, 1, 2, 0, 0, .inl 0), (.iload_n 3, 1, 3, 0, 0, .inl 0), (.isub, 1, 0, 0, 0, .inl 0)] 31 35 _ _ _ (by decide +kernel) ?_
  show Go _ _ _ _ _ _ 35 [(2, vi a1), (3, vi y1)] [vi (a1 - y1), vi y1] (Y, (S, T)) _
  refine ite_el h (fun q3 h => ?_) (fun q3 h => ?_)
  · refine go_icmp_le (off := 7) (tgt := 42) (by decide +kernel) (by decide) (fun _ => ?_) (fun z => absurd q3 z)
    refine go_blk rfl [(.iload_n 2, 1, 2, 0, 0, .inl 0), (.iload_n 3, 1, 3, 0, 0, .inl 0), (.isub, 1, 0, 0, 0, .inl 0)] 42 45 _ _ _ (by decide +kernel) ?_
    show Go _ _ _ _ _ _ 45 [(2, vi a1), (3, vi y1)] [vi (a1 - y1)] (Y, (S, T)) _
    obtain rfl := Option.some.inj h
    exact go_ireturn (by decide +kernel) rfl rfl ⟨rfl, rfl⟩
  · refine go_icmp_le (off := 7) (tgt := 42) (by decide +kernel) (by decide) (fun z => absurd z q3) (fun _ => ?_)
    refine go_blk rfl [(.iload_n 3, 1, 3, 0, 0, .inl 0)] 38 39 _ _ _ (by decide +kernel) ?_
    show Go _ _ _ _ _ _ 39 [(2, vi a1), (3, vi y1)] [vi y1] (Y, (S, T)) _
    refine go_goto (off := 6) (tgt := 45) (by decide +kernel) (by decide) ?_
    obtain rfl := Option.some.inj h
    exact go_ireturn (by decide +kernel) rfl rfl ⟨rfl, rfl⟩
def f11_look_L1 (l1 : Int32) (l2 : Int32) : Nat → jS → Int32 → Int32 → Option (jS × Int32)
  | 0, _, _, _ => none
  | n + 1, S, l3, l4 => (if (S.1 0 23) ≤ l4 then some (S, l3) else Option.bind (f11_couldRule S l4) (fun r5 => Option.bind (if r5.2 = 0 then some (l3, r5.1) else (if inb l1 21 then (if inb l3 7 then some (l3 + 1, wI r5.1 52 l3.toNatClampNeg (r5.1.1 51 l1.toNatClampNeg)) else none) else none)) (fun (y6 : Int32 × jS) => f11_look_L1 l1 l2 n y6.2 y6.1 (l4 + 1))))
def f11_look_L2 (S : jS) (l2 : Int32) (l3 : Int32) : Nat → Int32 → Int32 → Option Int32
  | 0, _, _ => none
  | n + 1, l4, l5 => (if (S.1 1 2) ≤ l5 then some l4 else Option.bind (f11_mostAlike S l5 l3) (fun r8 => Option.bind (f11_mostAlike S l4 l3) (fun r9 => f11_look_L2 S l2 l3 n (((if r9 ≤ r8 then l4 else l5) : Int32)) (l5 + 1))))
def f11_look (S : jS) (a0 : Int32) (a1 : Int32) : Option (jS × Int32) := Option.bind (f11_isParty S) (fun r1 => (if r1 = 0 then some (S, (-1)) else Option.bind (f11_in a0.toInt64 0 20) (fun r2 => (if r2 = 0 then some (S, (-1)) else Option.bind (f11_in a1.toInt64 0 1) (fun r3 => (if r3 = 0 then some (S, (-1)) else Option.bind (f11_keepsAll S) (fun r4 => Option.bind (f11_look_L1 a0 a1 jF r4.1 0 ((-1))) (fun y7 => (if y7.2 = 0 then some (y7.1, (-2)) else (if (y7.1.1 1 2) = 0 then some (y7.1, (-2)) else Option.bind (f11_look_L2 y7.1 a1 y7.2 jF 0 1) (fun y10 => (if a1 = 0 then some (y7.1, y10) else Option.bind (f11_mostAlike y7.1 y10 y7.2) (fun r11 => some (y7.1, r11))))))))))))))
theorem f11_look_L1_ok {T : jT} {Y : jS × jT} {l1 : Int32} {l2 : Int32} {Q : Option jV → jMem → Prop} (hT : LayM T) : ∀ (n : Nat) (S : jS) (l3 : Int32) (l4 : Int32) (r : (jS × Int32)), f11_look_L1 l1 l2 n S l3 l4 = some r → Go M11_look 9 0 0 0 0 79 [(0, rm 0), (2, vi l2), (3, vi r.2)] [] (Y, (r.1, T)) Q → Go M11_look 9 0 0 0 0 40 [(0, rm 0), (1, vi l1), (2, vi l2), (3, vi l3), (4, vi l4)] [] (Y, (S, T)) Q := by
  intro n
  induction n with
  | zero => intro S l3 l4 r h k; exact absurd h (by intro z; cases z)
  | succ n ih =>
    intro S l3 l4 r h k
    rw [f11_look_L1] at h
    refine go_blk rfl [(.iload 4, 2, 4, 0, 0, .inl 0), (.aload_n 0, 1, 0, 0, 0, .inl 0), (.getfield 333, 3, 11, 23, 0, .inl 0)] 40 46 _ _ _ (by decide +kernel) ?_
    refine And.intro (lm_t0 hT) ?_
    show Go _ _ _ _ _ _ 46 [(0, rm 0), (1, vi l1), (2, vi l2), (3, vi l3), (4, vi l4)] [vi (S.1 0 23), vi l4] (Y, (S, T)) _
    refine ite_el h (fun q4 h => ?_) (fun q4 h => ?_)
    · refine go_icmp_ge (off := 33) (tgt := 79) (by decide +kernel) (by decide) (fun _ => ?_) (fun z => absurd q4 z)
      obtain rfl := Option.some.inj h
      refine go_pick [0, 2, 3] rfl ?_
      exact k
    · refine go_icmp_ge (off := 33) (tgt := 79) (by decide +kernel) (by decide) (fun z => absurd z q4) (fun _ => ?_)
      refine go_blk rfl [(.aload_n 0, 1, 0, 0, 0, .inl 0), (.iload 4, 2, 4, 0, 0, .inl 0)] 49 52 _ _ _ (by decide +kernel) ?_
      show Go _ _ _ _ _ _ 52 [(0, rm 0), (1, vi l1), (2, vi l2), (3, vi l3), (4, vi l4)] [vi l4, rm 0] (Y, (S, T)) _
      obtain ⟨r5, hr5, h⟩ := bind_el h
      refine go_callV (idx := 495) (z := 0) (M' := M11_couldRule) (n := 1) (A := [vi l4]) (v' := some (vi r5.2)) (μ' := (Y, (r5.1, T))) (d' := 8) (mc' := 0) (ms' := 0) (kc' := 0) (ks' := 0) (ci := 11) (x := .inr (.inl 0)) (by decide +kernel) ml_11_495 rfl wv11_couldRule rfl (by decide) rfl (lm_t0 hT) (ret11_couldRule hT hr5) (by decide) rfl rfl (Nat.le_of_ble_eq_true rfl) rfl (jag rfl rfl) ?_
      show Go _ _ _ _ _ _ 55 [(0, rm 0), (1, vi l1), (2, vi l2), (3, vi l3), (4, vi l4)] [vi r5.2] (Y, (r5.1, T)) _
      obtain ⟨y6, hy6, h⟩ := bind_el h
      have key : Go M11_look 9 0 0 0 0 73 [(0, rm 0), (1, vi l1), (2, vi l2), (3, vi y6.1), (4, vi l4)] [] (Y, (y6.2, T)) Q := by
        refine go_blk rfl [(.iinc 4 1, 3, 4, 0, 0, .inl 1)] 73 76 _ _ _ (by decide +kernel) ?_
        show Go _ _ _ _ _ _ 76 [(4, vi (l4 + 1)), (0, rm 0), (1, vi l1), (2, vi l2), (3, vi y6.1)] [] (Y, (y6.2, T)) _
        refine go_goto (off := (-36)) (tgt := 40) (by decide +kernel) (by decide) ?_
        refine go_pick [1, 2, 3, 4, 0] rfl ?_
        exact ih _ _ _ _ h k
      replace h := hy6
      refine ite_el h (fun q5 h => ?_) (fun q5 h => ?_)
      · refine go_if_eq (off := 18) (tgt := 73) (by decide +kernel) (by decide) (fun _ => ?_) (fun z => absurd q5 z)
        obtain rfl := Option.some.inj h
        refine go_pick [0, 1, 2, 3, 4] rfl ?_
        exact key
      · refine go_if_eq (off := 18) (tgt := 73) (by decide +kernel) (by decide) (fun z => absurd z q5) (fun _ => ?_)
        refine gd_el h (fun q6 h => ?_)
        refine gd_el h (fun q7 h => ?_)
        refine go_blk rfl [(.aload_n 0, 1, 0, 0, 0, .inl 0), (.getfield 127, 3, 11, 52, 1, .inl 0), (.iload_n 3, 1, 3, 0, 0, .inl 0), (.aload_n 0, 1, 0, 0, 0, .inl 0), (.getfield 124, 3, 11, 51, 1, .inl 0), (.iload_n 1, 1, 1, 0, 0, .inl 0), (.iaload, 1, 20, 0, 0, .inl 0), (.iastore, 1, 20, 0, 0, .inl 0)] 58 70 _ _ _ (by decide +kernel) ?_
        refine And.intro (lm_t0 hT) (Exists.intro _ (And.intro (gRm (lm_r52 hT)) ?_))
        refine And.intro (lm_t0 hT) (Exists.intro _ (And.intro (gRm (lm_r51 hT)) ?_))
        refine And.intro (lm_t51 hT) (Exists.intro _ (And.intro (lm_n51 hT) (And.intro (inb_in q6) ?_)))
        refine And.intro (lm_t52 hT) (Exists.intro _ (And.intro (lm_n52 hT) (And.intro (inb_in q7) ?_)))
        show Go _ _ _ _ _ _ 70 [(0, rm 0), (1, vi l1), (2, vi l2), (3, vi l3), (4, vi l4)] [] (Y, (wI r5.1 52 l3.toNatClampNeg (r5.1.1 51 l1.toNatClampNeg), T)) _
        refine go_blk rfl [(.iinc 3 1, 3, 3, 0, 0, .inl 1)] 70 73 _ _ _ (by decide +kernel) ?_
        show Go _ _ _ _ _ _ 73 [(3, vi (l3 + 1)), (0, rm 0), (1, vi l1), (2, vi l2), (4, vi l4)] [] (Y, (wI r5.1 52 l3.toNatClampNeg (r5.1.1 51 l1.toNatClampNeg), T)) _
        obtain rfl := Option.some.inj h
        refine go_pick [1, 2, 3, 0, 4] rfl ?_
        exact key
theorem f11_look_L2_ok {T : jT} {Y : jS × jT} {S : jS} {l2 : Int32} {l3 : Int32} {Q : Option jV → jMem → Prop} (hT : LayM T) : ∀ (n : Nat) (l4 : Int32) (l5 : Int32) (r : Int32), f11_look_L2 S l2 l3 n l4 l5 = some r → Go M11_look 9 0 0 0 0 144 [(0, rm 0), (2, vi l2), (3, vi l3), (4, vi r)] [] (Y, (S, T)) Q → Go M11_look 9 0 0 0 0 101 [(0, rm 0), (2, vi l2), (3, vi l3), (4, vi l4), (5, vi l5)] [] (Y, (S, T)) Q := by
  intro n
  induction n with
  | zero => intro l4 l5 r h k; exact absurd h (by intro z; cases z)
  | succ n ih =>
    intro l4 l5 r h k
    rw [f11_look_L2] at h
    refine go_blk rfl [(.iload 5, 2, 5, 0, 0, .inl 0), (.aload_n 0, 1, 0, 0, 0, .inl 0), (.getfield 9, 3, 11, 1, 1, .inl 0), (.iconst 2, 1, 0, 0, 0, .inl 2), (.iaload, 1, 20, 0, 0, .inl 0)] 101 109 _ _ _ (by decide +kernel) ?_
    refine And.intro (lm_t0 hT) (Exists.intro _ (And.intro (gRm (lm_r1 hT)) ?_))
    refine And.intro (lm_t1 hT) (Exists.intro _ (And.intro (lm_n1 hT) (And.intro (inb_in (by decide)) ?_)))
    show Go _ _ _ _ _ _ 109 [(0, rm 0), (2, vi l2), (3, vi l3), (4, vi l4), (5, vi l5)] [vi (S.1 1 2), vi l5] (Y, (S, T)) _
    refine ite_el h (fun q10 h => ?_) (fun q10 h => ?_)
    · refine go_icmp_ge (off := 35) (tgt := 144) (by decide +kernel) (by decide) (fun _ => ?_) (fun z => absurd q10 z)
      obtain rfl := Option.some.inj h
      refine go_pick [0, 1, 2, 3] rfl ?_
      exact k
    · refine go_icmp_ge (off := 35) (tgt := 144) (by decide +kernel) (by decide) (fun z => absurd z q10) (fun _ => ?_)
      refine go_blk rfl [(.aload_n 0, 1, 0, 0, 0, .inl 0), (.iload 5, 2, 5, 0, 0, .inl 0), (.iload_n 3, 1, 3, 0, 0, .inl 0)] 112 116 _ _ _ (by decide +kernel) ?_
      show Go _ _ _ _ _ _ 116 [(0, rm 0), (2, vi l2), (3, vi l3), (4, vi l4), (5, vi l5)] [vi l3, vi l5, rm 0] (Y, (S, T)) _
      obtain ⟨r8, hr8, h⟩ := bind_el h
      refine go_callV (idx := 498) (z := 0) (M' := M11_mostAlike) (n := 2) (A := [vi l5, vi l3]) (v' := some (vi r8)) (μ' := (Y, (S, T))) (d' := 1) (mc' := 0) (ms' := 0) (kc' := 0) (ks' := 0) (ci := 11) (x := .inr (.inl 0)) (by decide +kernel) ml_11_498 rfl wv11_mostAlike rfl (by decide) rfl (lm_t0 hT) (ret11_mostAlike hT hr8) (by decide) rfl rfl (Nat.le_of_ble_eq_true rfl) rfl (jag rfl rfl) ?_
      show Go _ _ _ _ _ _ 119 [(0, rm 0), (2, vi l2), (3, vi l3), (4, vi l4), (5, vi l5)] [vi r8] (Y, (S, T)) _
      refine go_blk rfl [(.aload_n 0, 1, 0, 0, 0, .inl 0), (.iload 4, 2, 4, 0, 0, .inl 0), (.iload_n 3, 1, 3, 0, 0, .inl 0)] 119 123 _ _ _ (by decide +kernel) ?_
      show Go _ _ _ _ _ _ 123 [(0, rm 0), (2, vi l2), (3, vi l3), (4, vi l4), (5, vi l5)] [vi l3, vi l4, rm 0, vi r8] (Y, (S, T)) _
      obtain ⟨r9, hr9, h⟩ := bind_el h
      refine go_callV (idx := 498) (z := 0) (M' := M11_mostAlike) (n := 2) (A := [vi l4, vi l3]) (v' := some (vi r9)) (μ' := (Y, (S, T))) (d' := 1) (mc' := 0) (ms' := 0) (kc' := 0) (ks' := 0) (ci := 11) (x := .inr (.inl 0)) (by decide +kernel) ml_11_498 rfl wv11_mostAlike rfl (by decide) rfl (lm_t0 hT) (ret11_mostAlike hT hr9) (by decide) rfl rfl (Nat.le_of_ble_eq_true rfl) rfl (jag rfl rfl) ?_
      show Go _ _ _ _ _ _ 126 [(0, rm 0), (2, vi l2), (3, vi l3), (4, vi l4), (5, vi l5)] [vi r9, vi r8] (Y, (S, T)) _
      have key : ∀ z0 : Int32, z0 = ((if r9 ≤ r8 then l4 else l5) : Int32) → Go M11_look 9 0 0 0 0 136 [(0, rm 0), (2, vi l2), (3, vi l3), (5, vi l5)] [vi z0] (Y, (S, T)) Q := by
        intro z0 ez0
        subst ez0
        refine go_blk rfl [(.istore 4, 2, 4, 0, 0, .inl 0), (.iinc 5 1, 3, 5, 0, 0, .inl 1)] 136 141 _ _ _ (by decide +kernel) ?_
        show Go _ _ _ _ _ _ 141 [(5, vi (l5 + 1)), (4, vi (((if r9 ≤ r8 then l4 else l5) : Int32))), (0, rm 0), (2, vi l2), (3, vi l3)] [] (Y, (S, T)) _
        refine go_goto (off := (-40)) (tgt := 101) (by decide +kernel) (by decide) ?_
        refine go_pick [2, 3, 4, 1, 0] rfl ?_
        exact ih _ _ _ h k
      clear h
      by_cases q11 : r9 ≤ r8
      · refine go_icmp_ge (off := 8) (tgt := 134) (by decide +kernel) (by decide) (fun _ => ?_) (fun z => absurd q11 z)
        refine go_blk rfl [(.iload 4, 2, 4, 0, 0, .inl 0)] 134 136 _ _ _ (by decide +kernel) ?_
        show Go _ _ _ _ _ _ 136 [(0, rm 0), (2, vi l2), (3, vi l3), (4, vi l4), (5, vi l5)] [vi l4] (Y, (S, T)) _
        refine go_pick [0, 1, 2, 4] rfl ?_; exact key _ (by rw [if_pos q11])
      · refine go_icmp_ge (off := 8) (tgt := 134) (by decide +kernel) (by decide) (fun z => absurd z q11) (fun _ => ?_)
        refine go_blk rfl [(.iload 5, 2, 5, 0, 0, .inl 0)] 129 131 _ _ _ (by decide +kernel) ?_
        show Go _ _ _ _ _ _ 131 [(0, rm 0), (2, vi l2), (3, vi l3), (4, vi l4), (5, vi l5)] [vi l5] (Y, (S, T)) _
        refine go_goto (off := 5) (tgt := 136) (by decide +kernel) (by decide) ?_
        refine go_pick [0, 1, 2, 4] rfl ?_; exact key _ (by rw [if_neg q11])
theorem ret11_look {S : jS} {T : jT} {Y : jS × jT} {a0 : Int32} {a1 : Int32} {S1 : jS} {x : Int32} (hT : LayM T) (h : f11_look S a0 a1 = some (S1, x)) : Ret M11_look 9 0 0 [rm 0, vi a0, vi a1] (Y, (S, T)) (some (vi x)) (Y, (S1, T)) := by
  refine Ret.of (by decide +kernel) (Nat.le_of_ble_eq_true rfl) ?_
  unfold f11_look at h
  show Go _ _ _ _ _ _ 0 [(0, rm 0), (1, vi a0), (2, vi a1)] [] (Y, (S, T)) _
  refine go_blk rfl [(.aload_n 0, 1, 0, 0, 0, .inl 0)] 0 1 _ _ _ (by decide +kernel) ?_
  show Go _ _ _ _ _ _ 1 [(0, rm 0), (1, vi a0), (2, vi a1)] [rm 0] (Y, (S, T)) _
  obtain ⟨r1, hr1, h⟩ := bind_el h
  refine go_callV (idx := 420) (z := 0) (M' := M11_isParty) (n := 0) (A := []) (v' := some (vi r1)) (μ' := (Y, (S, T))) (d' := 1) (mc' := 0) (ms' := 0) (kc' := 0) (ks' := 0) (ci := 11) (x := .inr (.inl 0)) (by decide +kernel) ml_11_420 rfl wv11_isParty rfl (by decide) rfl (lm_t0 hT) (ret11_isParty hT hr1) (by decide) rfl rfl (Nat.le_of_ble_eq_true rfl) rfl (jag rfl rfl) ?_
  show Go _ _ _ _ _ _ 4 [(0, rm 0), (1, vi a0), (2, vi a1)] [vi r1] (Y, (S, T)) _
  refine ite_el h (fun q1 h => ?_) (fun q1 h => ?_)
  · refine go_if_eq (off := 25) (tgt := 29) (by decide +kernel) (by decide) (fun _ => ?_) (fun z => absurd q1 z)
    refine go_blk rfl [(.iconst (-1), 1, 0, 0, 0, .inl (-1))] 29 30 _ _ _ (by decide +kernel) ?_
    show Go _ _ _ _ _ _ 30 [(0, rm 0), (1, vi a0), (2, vi a1)] [vi ((-1))] (Y, (S, T)) _
    obtain ⟨rfl, rfl⟩ := Prod.mk.inj (Option.some.inj h)
    exact go_ireturn (by decide +kernel) rfl rfl ⟨rfl, rfl⟩
  · refine go_if_eq (off := 25) (tgt := 29) (by decide +kernel) (by decide) (fun z => absurd z q1) (fun _ => ?_)
    refine go_blk rfl [(.iload_n 1, 1, 1, 0, 0, .inl 0), (.i2l, 1, 0, 0, 0, .inl 0), (.lconst 0, 1, 0, 0, 0, .inr (.inl 0)), (.ldc2_w 478, 3, 0, 0, 0, .inr (.inl 20))] 7 13 _ _ _ (by decide +kernel) ?_
    show Go _ _ _ _ _ _ 13 [(0, rm 0), (1, vi a0), (2, vi a1)] [vl 20, vl 0, vl a0.toInt64] (Y, (S, T)) _
    obtain ⟨r2, hr2, h⟩ := bind_el h
    refine go_callS (idx := 140) (z := 0) (M' := M11_in) (n := 3) (A := [vl a0.toInt64, vl 0, vl 20]) (v' := some (vi r2)) (μ' := (Y, (S, T))) (d' := 1) (mc' := 0) (ms' := 0) (kc' := 0) (ks' := 0) (by decide +kernel) ml_11_140 rfl ws11_in rfl (ret11_in hr2) (by decide) rfl rfl (Nat.le_of_ble_eq_true rfl) rfl (jag rfl rfl) ?_
    show Go _ _ _ _ _ _ 16 [(0, rm 0), (1, vi a0), (2, vi a1)] [vi r2] (Y, (S, T)) _
    refine ite_el h (fun q2 h => ?_) (fun q2 h => ?_)
    · refine go_if_eq (off := 13) (tgt := 29) (by decide +kernel) (by decide) (fun _ => ?_) (fun z => absurd q2 z)
      refine go_blk rfl [(.iconst (-1), 1, 0, 0, 0, .inl (-1))] 29 30 _ _ _ (by decide +kernel) ?_
      show Go _ _ _ _ _ _ 30 [(0, rm 0), (1, vi a0), (2, vi a1)] [vi ((-1))] (Y, (S, T)) _
      obtain ⟨rfl, rfl⟩ := Prod.mk.inj (Option.some.inj h)
      exact go_ireturn (by decide +kernel) rfl rfl ⟨rfl, rfl⟩
    · refine go_if_eq (off := 13) (tgt := 29) (by decide +kernel) (by decide) (fun z => absurd z q2) (fun _ => ?_)
      refine go_blk rfl [(.iload_n 2, 1, 2, 0, 0, .inl 0), (.i2l, 1, 0, 0, 0, .inl 0), (.lconst 0, 1, 0, 0, 0, .inr (.inl 0)), (.lconst 1, 1, 0, 0, 0, .inr (.inl 1))] 19 23 _ _ _ (by decide +kernel) ?_
      show Go _ _ _ _ _ _ 23 [(0, rm 0), (1, vi a0), (2, vi a1)] [vl 1, vl 0, vl a1.toInt64] (Y, (S, T)) _
      obtain ⟨r3, hr3, h⟩ := bind_el h
      refine go_callS (idx := 140) (z := 0) (M' := M11_in) (n := 3) (A := [vl a1.toInt64, vl 0, vl 1]) (v' := some (vi r3)) (μ' := (Y, (S, T))) (d' := 1) (mc' := 0) (ms' := 0) (kc' := 0) (ks' := 0) (by decide +kernel) ml_11_140 rfl ws11_in rfl (ret11_in hr3) (by decide) rfl rfl (Nat.le_of_ble_eq_true rfl) rfl (jag rfl rfl) ?_
      show Go _ _ _ _ _ _ 26 [(0, rm 0), (1, vi a0), (2, vi a1)] [vi r3] (Y, (S, T)) _
      refine ite_el h (fun q3 h => ?_) (fun q3 h => ?_)
      · refine go_if_ne (off := 5) (tgt := 31) (by decide +kernel) (by decide) (fun z => absurd q3 z) (fun _ => ?_)
        refine go_blk rfl [(.iconst (-1), 1, 0, 0, 0, .inl (-1))] 29 30 _ _ _ (by decide +kernel) ?_
        show Go _ _ _ _ _ _ 30 [(0, rm 0), (1, vi a0), (2, vi a1)] [vi ((-1))] (Y, (S, T)) _
        obtain ⟨rfl, rfl⟩ := Prod.mk.inj (Option.some.inj h)
        exact go_ireturn (by decide +kernel) rfl rfl ⟨rfl, rfl⟩
      · refine go_if_ne (off := 5) (tgt := 31) (by decide +kernel) (by decide) (fun _ => ?_) (fun z => absurd z q3)
        refine go_blk rfl [(.aload_n 0, 1, 0, 0, 0, .inl 0)] 31 32 _ _ _ (by decide +kernel) ?_
        show Go _ _ _ _ _ _ 32 [(0, rm 0), (1, vi a0), (2, vi a1)] [rm 0] (Y, (S, T)) _
        obtain ⟨r4, hr4, h⟩ := bind_el h
        refine go_callV (idx := 438) (z := 0) (M' := M11_keepsAll) (n := 0) (A := []) (v' := none) (μ' := (Y, (r4.1, T))) (d' := 3) (mc' := 0) (ms' := 0) (kc' := 0) (ks' := 0) (ci := 11) (x := .inr (.inl 0)) (by decide +kernel) ml_11_438 rfl wv11_keepsAll rfl (by decide) rfl (lm_t0 hT) (ret11_keepsAll hT hr4) (by decide) rfl rfl (Nat.le_of_ble_eq_true rfl) rfl (jag rfl rfl) ?_
        show Go _ _ _ _ _ _ 35 [(0, rm 0), (1, vi a0), (2, vi a1)] [] (Y, (r4.1, T)) _
        refine go_blk rfl [(.iconst 0, 1, 0, 0, 0, .inl 0), (.istore_n 3, 1, 3, 0, 0, .inl 0), (.iconst (-1), 1, 0, 0, 0, .inl (-1)), (.istore 4, 2, 4, 0, 0, .inl 0)] 35 40 _ _ _ (by decide +kernel) ?_
        show Go _ _ _ _ _ _ 40 [(4, vi ((-1))), (3, vi 0), (0, rm 0), (1, vi a0), (2, vi a1)] [] (Y, (r4.1, T)) _
        refine go_pick [2, 3, 4, 1, 0] rfl ?_
        obtain ⟨y7, hy7, h⟩ := bind_el h
        refine f11_look_L1_ok hT _ _ _ _ _ hy7 ?_
        show Go _ _ _ _ _ _ 79 [(0, rm 0), (2, vi a1), (3, vi y7.2)] [] (Y, (y7.1, T)) _
        refine go_blk rfl [(.iload_n 3, 1, 3, 0, 0, .inl 0)] 79 80 _ _ _ (by decide +kernel) ?_
        show Go _ _ _ _ _ _ 80 [(0, rm 0), (2, vi a1), (3, vi y7.2)] [vi y7.2] (Y, (y7.1, T)) _
        refine ite_el h (fun q8 h => ?_) (fun q8 h => ?_)
        · refine go_if_eq (off := 12) (tgt := 92) (by decide +kernel) (by decide) (fun _ => ?_) (fun z => absurd q8 z)
          refine go_blk rfl [(.bipush (-2), 2, 0, 0, 0, .inl (-2))] 92 94 _ _ _ (by decide +kernel) ?_
          show Go _ _ _ _ _ _ 94 [(0, rm 0), (2, vi a1), (3, vi y7.2)] [vi ((-2))] (Y, (y7.1, T)) _
          obtain ⟨rfl, rfl⟩ := Prod.mk.inj (Option.some.inj h)
          exact go_ireturn (by decide +kernel) rfl rfl ⟨rfl, rfl⟩
        · refine go_if_eq (off := 12) (tgt := 92) (by decide +kernel) (by decide) (fun z => absurd z q8) (fun _ => ?_)
          refine go_blk rfl [(.aload_n 0, 1, 0, 0, 0, .inl 0), (.getfield 9, 3, 11, 1, 1, .inl 0), (.iconst 2, 1, 0, 0, 0, .inl 2), (.iaload, 1, 20, 0, 0, .inl 0)] 83 89 _ _ _ (by decide +kernel) ?_
          refine And.intro (lm_t0 hT) (Exists.intro _ (And.intro (gRm (lm_r1 hT)) ?_))
          refine And.intro (lm_t1 hT) (Exists.intro _ (And.intro (lm_n1 hT) (And.intro (inb_in (by decide)) ?_)))
          show Go _ _ _ _ _ _ 89 [(0, rm 0), (2, vi a1), (3, vi y7.2)] [vi (y7.1.1 1 2)] (Y, (y7.1, T)) _
          refine ite_el h (fun q9 h => ?_) (fun q9 h => ?_)
          · refine go_if_ne (off := 6) (tgt := 95) (by decide +kernel) (by decide) (fun z => absurd q9 z) (fun _ => ?_)
            refine go_blk rfl [(.bipush (-2), 2, 0, 0, 0, .inl (-2))] 92 94 _ _ _ (by decide +kernel) ?_
            show Go _ _ _ _ _ _ 94 [(0, rm 0), (2, vi a1), (3, vi y7.2)] [vi ((-2))] (Y, (y7.1, T)) _
            obtain ⟨rfl, rfl⟩ := Prod.mk.inj (Option.some.inj h)
            exact go_ireturn (by decide +kernel) rfl rfl ⟨rfl, rfl⟩
          · refine go_if_ne (off := 6) (tgt := 95) (by decide +kernel) (by decide) (fun _ => ?_) (fun z => absurd z q9)
            refine go_blk rfl [(.iconst 0, 1, 0, 0, 0, .inl 0), (.istore 4, 2, 4, 0, 0, .inl 0), (.iconst 1, 1, 0, 0, 0, .inl 1), (.istore 5, 2, 5, 0, 0, .inl 0)] 95 101 _ _ _ (by decide +kernel) ?_
            show Go _ _ _ _ _ _ 101 [(5, vi 1), (4, vi 0), (0, rm 0), (2, vi a1), (3, vi y7.2)] [] (Y, (y7.1, T)) _
            refine go_pick [2, 3, 4, 1, 0] rfl ?_
            obtain ⟨y10, hy10, h⟩ := bind_el h
            refine f11_look_L2_ok hT _ _ _ _ hy10 ?_
            show Go _ _ _ _ _ _ 144 [(0, rm 0), (2, vi a1), (3, vi y7.2), (4, vi y10)] [] (Y, (y7.1, T)) _
            refine go_blk rfl [(.iload_n 2, 1, 2, 0, 0, .inl 0)] 144 145 _ _ _ (by decide +kernel) ?_
            show Go _ _ _ _ _ _ 145 [(0, rm 0), (2, vi a1), (3, vi y7.2), (4, vi y10)] [vi a1] (Y, (y7.1, T)) _
            refine ite_el h (fun q12 h => ?_) (fun q12 h => ?_)
            · refine go_if_ne (off := 8) (tgt := 153) (by decide +kernel) (by decide) (fun z => absurd q12 z) (fun _ => ?_)
              refine go_blk rfl [(.iload 4, 2, 4, 0, 0, .inl 0)] 148 150 _ _ _ (by decide +kernel) ?_
              show Go _ _ _ _ _ _ 150 [(0, rm 0), (2, vi a1), (3, vi y7.2), (4, vi y10)] [vi y10] (Y, (y7.1, T)) _
              refine go_goto (off := 10) (tgt := 160) (by decide +kernel) (by decide) ?_
              obtain ⟨rfl, rfl⟩ := Prod.mk.inj (Option.some.inj h)
              exact go_ireturn (by decide +kernel) rfl rfl ⟨rfl, rfl⟩
            · refine go_if_ne (off := 8) (tgt := 153) (by decide +kernel) (by decide) (fun _ => ?_) (fun z => absurd z q12)
              refine go_blk rfl [(.aload_n 0, 1, 0, 0, 0, .inl 0), (.iload 4, 2, 4, 0, 0, .inl 0), (.iload_n 3, 1, 3, 0, 0, .inl 0)] 153 157 _ _ _ (by decide +kernel) ?_
              show Go _ _ _ _ _ _ 157 [(0, rm 0), (2, vi a1), (3, vi y7.2), (4, vi y10)] [vi y7.2, vi y10, rm 0] (Y, (y7.1, T)) _
              obtain ⟨r11, hr11, h⟩ := bind_el h
              refine go_callV (idx := 498) (z := 0) (M' := M11_mostAlike) (n := 2) (A := [vi y10, vi y7.2]) (v' := some (vi r11)) (μ' := (Y, (y7.1, T))) (d' := 1) (mc' := 0) (ms' := 0) (kc' := 0) (ks' := 0) (ci := 11) (x := .inr (.inl 0)) (by decide +kernel) ml_11_498 rfl wv11_mostAlike rfl (by decide) rfl (lm_t0 hT) (ret11_mostAlike hT hr11) (by decide) rfl rfl (Nat.le_of_ble_eq_true rfl) rfl (jag rfl rfl) ?_
              show Go _ _ _ _ _ _ 160 [(0, rm 0), (2, vi a1), (3, vi y7.2), (4, vi y10)] [vi r11] (Y, (y7.1, T)) _
              obtain ⟨rfl, rfl⟩ := Prod.mk.inj (Option.some.inj h)
              exact go_ireturn (by decide +kernel) rfl rfl ⟨rfl, rfl⟩
def f11_seed (S : jS) (a0 : Int32) : Option (jS × Int32) := (if 0 ≤ a0 then some (wI S 1 9 a0, S.1 1 9) else some (S, (-1)))
theorem ret11_seed {S : jS} {T : jT} {Y : jS × jT} {a0 : Int32} {S1 : jS} {x : Int32} (hT : LayM T) (h : f11_seed S a0 = some (S1, x)) : Ret M11_seed 1 0 0 [rm 0, vi a0] (Y, (S, T)) (some (vi x)) (Y, (S1, T)) := by
  refine Ret.of (by decide +kernel) (Nat.le_of_ble_eq_true rfl) ?_
  unfold f11_seed at h
  show Go _ _ _ _ _ _ 0 [(0, rm 0), (1, vi a0)] [] (Y, (S, T)) _
  refine go_blk rfl [(.iload_n 1, 1, 1, 0, 0, .inl 0)] 0 1 _ _ _ (by decide +kernel) ?_
  show Go _ _ _ _ _ _ 1 [(0, rm 0), (1, vi a0)] [vi a0] (Y, (S, T)) _
  refine ite_el h (fun q1 h => ?_) (fun q1 h => ?_)
  · refine go_if_ge (off := 5) (tgt := 6) (by decide +kernel) (by decide) (fun _ => ?_) (fun z => absurd q1 z)
    refine go_blk rfl [(.aload_n 0, 1, 0, 0, 0, .inl 0), (.getfield 9, 3, 11, 1, 1, .inl 0), (.bipush 9, 2, 0, 0, 0, .inl 9), (.iaload, 1, 20, 0, 0, .inl 0), (.istore_n 2, 1, 2, 0, 0, .inl 0), (.aload_n 0, 1, 0, 0, 0, .inl 0), (.getfield 9, 3, 11, 1, 1, .inl 0), (.bipush 9, 2, 0, 0, 0, .inl 9), (.iload_n 1, 1, 1, 0, 0, .inl 0), (.iastore, 1, 20, 0, 0, .inl 0)] 6 22 _ _ _ (by decide +kernel) ?_
    refine And.intro (lm_t0 hT) (Exists.intro _ (And.intro (gRm (lm_r1 hT)) ?_))
    refine And.intro (lm_t1 hT) (Exists.intro _ (And.intro (lm_n1 hT) (And.intro (inb_in (by decide)) ?_)))
    refine And.intro (lm_t0 hT) (Exists.intro _ (And.intro (gRm (lm_r1 hT)) ?_))
    refine And.intro (lm_t1 hT) (Exists.intro _ (And.intro (lm_n1 hT) (And.intro (inb_in (by decide)) ?_)))
    show Go _ _ _ _ _ _ 22 [(2, vi (S.1 1 9)), (0, rm 0), (1, vi a0)] [] (Y, (wI S 1 9 a0, T)) _
    refine go_blk rfl [(.iload_n 2, 1, 2, 0, 0, .inl 0)] 22 23 _ _ _ (by decide +kernel) ?_
    show Go _ _ _ _ _ _ 23 [(2, vi (S.1 1 9)), (0, rm 0), (1, vi a0)] [vi (S.1 1 9)] (Y, (wI S 1 9 a0, T)) _
    obtain ⟨rfl, rfl⟩ := Prod.mk.inj (Option.some.inj h)
    exact go_ireturn (by decide +kernel) rfl rfl ⟨rfl, rfl⟩
  · refine go_if_ge (off := 5) (tgt := 6) (by decide +kernel) (by decide) (fun z => absurd z q1) (fun _ => ?_)
    refine go_blk rfl [(.iconst (-1), 1, 0, 0, 0, .inl (-1))] 4 5 _ _ _ (by decide +kernel) ?_
    show Go _ _ _ _ _ _ 5 [(0, rm 0), (1, vi a0)] [vi ((-1))] (Y, (S, T)) _
    obtain ⟨rfl, rfl⟩ := Prod.mk.inj (Option.some.inj h)
    exact go_ireturn (by decide +kernel) rfl rfl ⟨rfl, rfl⟩
def f11_draws (S : jS) (a0 : Int32) : Option (jS × Int32) := (if ¬ a0 = 0 then some (wI S 1 9 ((lrm ((((S.1 1 9).toInt64) * 1103515245) + 12345) 2147483648).toInt32), irm (((wI S 1 9 ((lrm ((((S.1 1 9).toInt64) * 1103515245) + 12345) 2147483648).toInt32)).1 1 9) / 65536) a0) else none)
theorem ret11_draws {S : jS} {T : jT} {Y : jS × jT} {a0 : Int32} {S1 : jS} {x : Int32} (hT : LayM T) (h : f11_draws S a0 = some (S1, x)) : Ret M11_draws 1 0 0 [rm 0, vi a0] (Y, (S, T)) (some (vi x)) (Y, (S1, T)) := by
  refine Ret.of (by decide +kernel) (Nat.le_of_ble_eq_true rfl) ?_
  unfold f11_draws at h
  show Go _ _ _ _ _ _ 0 [(0, rm 0), (1, vi a0)] [] (Y, (S, T)) _
  refine go_blk rfl [(.aload_n 0, 1, 0, 0, 0, .inl 0), (.getfield 9, 3, 11, 1, 1, .inl 0), (.bipush 9, 2, 0, 0, 0, .inl 9), (.aload_n 0, 1, 0, 0, 0, .inl 0), (.getfield 9, 3, 11, 1, 1, .inl 0), (.bipush 9, 2, 0, 0, 0, .inl 9), (.iaload, 1, 20, 0, 0, .inl 0), (.i2l, 1, 0, 0, 0, .inl 0), (.ldc2_w 501, 3, 0, 0, 0, .inr (.inl 1103515245)), (.lmul, 1, 0, 0, 0, .inl 0), (.ldc2_w 503, 3, 0, 0, 0, .inr (.inl 12345)), (.ladd, 1, 0, 0, 0, .inl 0), (.ldc2_w 505, 3, 0, 0, 0, .inr (.inl 2147483648)), (.lrem, 1, 0, 0, 0, .inl 0), (.l2i, 1, 0, 0, 0, .inl 0), (.iastore, 1, 20, 0, 0, .inl 0)] 0 28 _ _ _ (by decide +kernel) ?_
  refine And.intro (lm_t0 hT) (Exists.intro _ (And.intro (gRm (lm_r1 hT)) ?_))
  refine And.intro (lm_t0 hT) (Exists.intro _ (And.intro (gRm (lm_r1 hT)) ?_))
  refine And.intro (lm_t1 hT) (Exists.intro _ (And.intro (lm_n1 hT) (And.intro (inb_in (by decide)) ?_)))
  refine And.intro (by decide) ?_
  refine And.intro (lm_t1 hT) (Exists.intro _ (And.intro (lm_n1 hT) (And.intro (inb_in (by decide)) ?_)))
  show Go _ _ _ _ _ _ 28 [(0, rm 0), (1, vi a0)] [] (Y, (wI S 1 9 ((lrm ((((S.1 1 9).toInt64) * 1103515245) + 12345) 2147483648).toInt32), T)) _
  refine gd_el h (fun q1 h => ?_)
  refine go_blk rfl [(.aload_n 0, 1, 0, 0, 0, .inl 0), (.getfield 9, 3, 11, 1, 1, .inl 0), (.bipush 9, 2, 0, 0, 0, .inl 9), (.iaload, 1, 20, 0, 0, .inl 0), (.ldc_w 507, 3, 0, 0, 0, .inl 65536), (.idiv, 1, 0, 0, 0, .inl 0), (.iload_n 1, 1, 1, 0, 0, .inl 0), (.irem, 1, 0, 0, 0, .inl 0)] 28 41 _ _ _ (by decide +kernel) ?_
  refine And.intro (lm_t0 hT) (Exists.intro _ (And.intro (gRm (lm_r1 hT)) ?_))
  refine And.intro (lm_t1 hT) (Exists.intro _ (And.intro (lm_n1 hT) (And.intro (inb_in (by decide)) ?_)))
  refine And.intro (by decide) ?_
  refine And.intro q1 ?_
  show Go _ _ _ _ _ _ 41 [(0, rm 0), (1, vi a0)] [vi (irm (((wI S 1 9 ((lrm ((((S.1 1 9).toInt64) * 1103515245) + 12345) 2147483648).toInt32)).1 1 9) / 65536) a0)] (Y, (wI S 1 9 ((lrm ((((S.1 1 9).toInt64) * 1103515245) + 12345) 2147483648).toInt32), T)) _
  obtain ⟨rfl, rfl⟩ := Prod.mk.inj (Option.some.inj h)
  exact go_ireturn (by decide +kernel) rfl rfl ⟨rfl, rfl⟩
def f11_tunes_L2 (l1 : Int32) (l2 : Int32) (l3 : Int32) (l4 : Int32) (l6 : Int32) (l7 : Int32) : Nat → jS → Option jS
  | 0, _ => none
  | n + 1, S => Option.bind (f11_isDone S) (fun r5 => (if r5 = 0 then Option.bind (f11_draws S l2) (fun r6 => Option.bind (f11_goes (wI r6.1 0 40 (1 + r6.2))) (fun r7 => f11_tunes_L2 l1 l2 l3 l4 l6 l7 n r7.1)) else some S))
def f11_tunes_L1 (l1 : Int32) (l2 : Int32) (l3 : Int32) (l4 : Int32) : Nat → jS → Int32 → Int32 → Int32 → Option (jS × Int32)
  | 0, _, _, _, _ => none
  | n + 1, S, l5, l6, l7 => (if l1 ≤ l7 then some (S, l6) else Option.bind (f11_tunes_L2 l1 l2 l3 l4 l6 l7 jF (wI S 1 9 l5)) (fun y8 => Option.bind (f11_alone y8) (fun r9 => Option.bind (f11_laysBack y8) (fun r10 => f11_tunes_L1 l1 l2 l3 l4 n r10.1 (y8.1 1 9) (l6 + (((if r9 = (((if l3 = ((-1)) then ((-2)) else l3) : Int32)) then 1 else 0) : Int32))) (l7 + 1)))))
def f11_tunes_L4 (l1 : Int32) (l2 : Int32) (l3 : Int32) (l4 : Int32) (l6 : Int32) (l7 : Int32) : Nat → jS → Option jS
  | 0, _ => none
  | n + 1, S => Option.bind (f11_isDone S) (fun r14 => (if r14 = 0 then Option.bind (f11_draws S l2) (fun r15 => Option.bind (f11_goes (wI r15.1 0 40 (1 + r15.2))) (fun r16 => f11_tunes_L4 l1 l2 l3 l4 l6 l7 n r16.1)) else some S))
def f11_tunes_L3 (l1 : Int32) (l2 : Int32) (l3 : Int32) (l4 : Int32) : Nat → jS → Int32 → Int32 → Int32 → Option (jS × Int32)
  | 0, _, _, _, _ => none
  | n + 1, S, l5, l6, l7 => (if l1 ≤ l7 then some (S, l6) else Option.bind (f11_tunes_L4 l1 l2 l3 l4 l6 l7 jF (wI S 1 9 l5)) (fun y17 => Option.bind (f11_alone y17) (fun r18 => Option.bind (f11_laysBack y17) (fun r19 => f11_tunes_L3 l1 l2 l3 l4 n r19.1 (y17.1 1 9) (l6 + (((if r18 = (((if l3 = ((-1)) then ((-2)) else l3) : Int32)) then 1 else 0) : Int32))) (l7 + 1)))))
def f11_tunes (S : jS) (a0 : Int32) (a1 : Int32) (a2 : Int32) : Option (jS × Int32) := Option.bind (f11_isParty S) (fun r1 => (if r1 = 0 then some (S, (-2)) else Option.bind (f11_in a0.toInt64 1 20) (fun r2 => (if r2 = 0 then some (S, (-2)) else Option.bind (f11_in a1.toInt64 1 60) (fun r3 => (if r3 = 0 then some (S, (-2)) else (if a2 = ((-1)) then Option.bind (f11_keepsAll S) (fun r4 => Option.bind (f11_tunes_L1 a0 a1 a2 (S.1 1 9) jF r4.1 (S.1 1 9) 0 0) (fun y11 => some (wI (wI y11.1 0 40 ((-1))) 1 9 (S.1 1 9), y11.2))) else Option.bind (f11_isGuest S a2) (fun r12 => (if r12 = 0 then some (S, (-2)) else Option.bind (f11_keepsAll S) (fun r13 => Option.bind (f11_tunes_L3 a0 a1 a2 (S.1 1 9) jF r13.1 (S.1 1 9) 0 0) (fun y20 => some (wI (wI y20.1 0 40 ((-1))) 1 9 (S.1 1 9), y20.2))))))))))))
theorem f11_tunes_L2_ok {T : jT} {Y : jS × jT} {l1 : Int32} {l2 : Int32} {l3 : Int32} {l4 : Int32} {l6 : Int32} {l7 : Int32} {Q : Option jV → jMem → Prop} (hT : LayM T) : ∀ (n : Nat) (S : jS) (r : jS), f11_tunes_L2 l1 l2 l3 l4 l6 l7 n S = some r → Go M11_tunes 7 0 0 0 0 111 [(0, rm 0), (1, vi l1), (2, vi l2), (3, vi l3), (4, vi l4), (6, vi l6), (7, vi l7)] [] (Y, (r, T)) Q → Go M11_tunes 7 0 0 0 0 85 [(0, rm 0), (1, vi l1), (2, vi l2), (3, vi l3), (4, vi l4), (6, vi l6), (7, vi l7)] [] (Y, (S, T)) Q := by
  intro n
  induction n with
  | zero => intro S r h k; exact absurd h (by intro z; cases z)
  | succ n ih =>
    intro S r h k
    rw [f11_tunes_L2] at h
    refine go_blk rfl [(.aload_n 0, 1, 0, 0, 0, .inl 0)] 85 86 _ _ _ (by decide +kernel) ?_
    show Go _ _ _ _ _ _ 86 [(0, rm 0), (1, vi l1), (2, vi l2), (3, vi l3), (4, vi l4), (6, vi l6), (7, vi l7)] [rm 0] (Y, (S, T)) _
    obtain ⟨r5, hr5, h⟩ := bind_el h
    refine go_callV (idx := 384) (z := 0) (M' := M11_isDone) (n := 0) (A := []) (v' := some (vi r5)) (μ' := (Y, (S, T))) (d' := 2) (mc' := 0) (ms' := 0) (kc' := 0) (ks' := 0) (ci := 11) (x := .inr (.inl 0)) (by decide +kernel) ml_11_384 rfl wv11_isDone rfl (by decide) rfl (lm_t0 hT) (ret11_isDone hT hr5) (by decide) rfl rfl (Nat.le_of_ble_eq_true rfl) rfl (jag rfl rfl) ?_
    show Go _ _ _ _ _ _ 89 [(0, rm 0), (1, vi l1), (2, vi l2), (3, vi l3), (4, vi l4), (6, vi l6), (7, vi l7)] [vi r5] (Y, (S, T)) _
    refine ite_el h (fun q6 h => ?_) (fun q6 h => ?_)
    · refine go_if_ne (off := 22) (tgt := 111) (by decide +kernel) (by decide) (fun z => absurd q6 z) (fun _ => ?_)
      refine go_blk rfl [(.aload_n 0, 1, 0, 0, 0, .inl 0), (.iconst 1, 1, 0, 0, 0, .inl 1), (.aload_n 0, 1, 0, 0, 0, .inl 0), (.iload_n 2, 1, 2, 0, 0, .inl 0)] 92 96 _ _ _ (by decide +kernel) ?_
      show Go _ _ _ _ _ _ 96 [(0, rm 0), (1, vi l1), (2, vi l2), (3, vi l3), (4, vi l4), (6, vi l6), (7, vi l7)] [vi l2, rm 0, vi 1, rm 0] (Y, (S, T)) _
      obtain ⟨r6, hr6, h⟩ := bind_el h
      refine go_callV (idx := 508) (z := 0) (M' := M11_draws) (n := 1) (A := [vi l2]) (v' := some (vi r6.2)) (μ' := (Y, (r6.1, T))) (d' := 1) (mc' := 0) (ms' := 0) (kc' := 0) (ks' := 0) (ci := 11) (x := .inr (.inl 0)) (by decide +kernel) ml_11_508 rfl wv11_draws rfl (by decide) rfl (lm_t0 hT) (ret11_draws hT hr6) (by decide) rfl rfl (Nat.le_of_ble_eq_true rfl) rfl (jag rfl rfl) ?_
      show Go _ _ _ _ _ _ 99 [(0, rm 0), (1, vi l1), (2, vi l2), (3, vi l3), (4, vi l4), (6, vi l6), (7, vi l7)] [vi r6.2, vi 1, rm 0] (Y, (r6.1, T)) _
      refine go_blk rfl [(.iadd, 1, 0, 0, 0, .inl 0), (.putfield 103, 3, 11, 40, 0, .inl 0)] 99 103 _ _ _ (by decide +kernel) ?_
      refine And.intro (lm_t0 hT) (And.intro trivial ?_)
      show Go _ _ _ _ _ _ 103 [(0, rm 0), (1, vi l1), (2, vi l2), (3, vi l3), (4, vi l4), (6, vi l6), (7, vi l7)] [] (Y, (wI r6.1 0 40 (1 + r6.2), T)) _
      refine go_blk rfl [(.aload_n 0, 1, 0, 0, 0, .inl 0)] 103 104 _ _ _ (by decide +kernel) ?_
      show Go _ _ _ _ _ _ 104 [(0, rm 0), (1, vi l1), (2, vi l2), (3, vi l3), (4, vi l4), (6, vi l6), (7, vi l7)] [rm 0] (Y, (wI r6.1 0 40 (1 + r6.2), T)) _
      obtain ⟨r7, hr7, h⟩ := bind_el h
      refine go_callV (idx := 399) (z := 0) (M' := M11_goes) (n := 0) (A := []) (v' := some (vi r7.2)) (μ' := (Y, (r7.1, T))) (d' := 6) (mc' := 0) (ms' := 0) (kc' := 0) (ks' := 0) (ci := 11) (x := .inr (.inl 0)) (by decide +kernel) ml_11_399 rfl wv11_goes rfl (by decide) rfl (lm_t0 hT) (ret11_goes hT hr7) (by decide) rfl rfl (Nat.le_of_ble_eq_true rfl) rfl (jag rfl rfl) ?_
      show Go _ _ _ _ _ _ 107 [(0, rm 0), (1, vi l1), (2, vi l2), (3, vi l3), (4, vi l4), (6, vi l6), (7, vi l7)] [vi r7.2] (Y, (r7.1, T)) _
      refine go_blk rfl [(.pop, 1, 0, 0, 0, .inl 0)] 107 108 _ _ _ (by decide +kernel) ?_
      show Go _ _ _ _ _ _ 108 [(0, rm 0), (1, vi l1), (2, vi l2), (3, vi l3), (4, vi l4), (6, vi l6), (7, vi l7)] [] (Y, (r7.1, T)) _
      refine go_goto (off := (-23)) (tgt := 85) (by decide +kernel) (by decide) ?_
      refine go_pick [0, 1, 2, 3, 4, 5, 6] rfl ?_
      exact ih _ _ h k
    · refine go_if_ne (off := 22) (tgt := 111) (by decide +kernel) (by decide) (fun _ => ?_) (fun z => absurd z q6)
      obtain rfl := Option.some.inj h
      refine go_pick [0, 1, 2, 3, 4, 5, 6] rfl ?_
      exact k
theorem f11_tunes_L1_ok {T : jT} {Y : jS × jT} {l1 : Int32} {l2 : Int32} {l3 : Int32} {l4 : Int32} {Q : Option jV → jMem → Prop} (hT : LayM T) : ∀ (n : Nat) (S : jS) (l5 : Int32) (l6 : Int32) (l7 : Int32) (r : (jS × Int32)), f11_tunes_L1 l1 l2 l3 l4 n S l5 l6 l7 = some r → Go M11_tunes 7 0 0 0 0 158 [(0, rm 0), (4, vi l4), (6, vi r.2)] [] (Y, (r.1, T)) Q → Go M11_tunes 7 0 0 0 0 70 [(0, rm 0), (1, vi l1), (2, vi l2), (3, vi l3), (4, vi l4), (5, vi l5), (6, vi l6), (7, vi l7)] [] (Y, (S, T)) Q := by
  intro n
  induction n with
  | zero => intro S l5 l6 l7 r h k; exact absurd h (by intro z; cases z)
  | succ n ih =>
    intro S l5 l6 l7 r h k
    rw [f11_tunes_L1] at h
    refine go_blk rfl [(.iload 7, 2, 7, 0, 0, .inl 0), (.iload_n 1, 1, 1, 0, 0, .inl 0)] 70 73 _ _ _ (by decide +kernel) ?_
    show Go _ _ _ _ _ _ 73 [(0, rm 0), (1, vi l1), (2, vi l2), (3, vi l3), (4, vi l4), (5, vi l5), (6, vi l6), (7, vi l7)] [vi l1, vi l7] (Y, (S, T)) _
    refine ite_el h (fun q5 h => ?_) (fun q5 h => ?_)
    · refine go_icmp_ge (off := 85) (tgt := 158) (by decide +kernel) (by decide) (fun _ => ?_) (fun z => absurd q5 z)
      obtain rfl := Option.some.inj h
      refine go_pick [0, 4, 6] rfl ?_
      exact k
    · refine go_icmp_ge (off := 85) (tgt := 158) (by decide +kernel) (by decide) (fun z => absurd z q5) (fun _ => ?_)
      refine go_blk rfl [(.aload_n 0, 1, 0, 0, 0, .inl 0), (.getfield 9, 3, 11, 1, 1, .inl 0), (.bipush 9, 2, 0, 0, 0, .inl 9), (.iload 5, 2, 5, 0, 0, .inl 0), (.iastore, 1, 20, 0, 0, .inl 0)] 76 85 _ _ _ (by decide +kernel) ?_
      refine And.intro (lm_t0 hT) (Exists.intro _ (And.intro (gRm (lm_r1 hT)) ?_))
      refine And.intro (lm_t1 hT) (Exists.intro _ (And.intro (lm_n1 hT) (And.intro (inb_in (by decide)) ?_)))
      show Go _ _ _ _ _ _ 85 [(0, rm 0), (1, vi l1), (2, vi l2), (3, vi l3), (4, vi l4), (5, vi l5), (6, vi l6), (7, vi l7)] [] (Y, (wI S 1 9 l5, T)) _
      refine go_pick [0, 1, 2, 3, 4, 6, 7] rfl ?_
      obtain ⟨y8, hy8, h⟩ := bind_el h
      refine f11_tunes_L2_ok hT _ _ _ hy8 ?_
      show Go _ _ _ _ _ _ 111 [(0, rm 0), (1, vi l1), (2, vi l2), (3, vi l3), (4, vi l4), (6, vi l6), (7, vi l7)] [] (Y, (y8, T)) _
      refine go_blk rfl [(.iload 6, 2, 6, 0, 0, .inl 0), (.aload_n 0, 1, 0, 0, 0, .inl 0)] 111 114 _ _ _ (by decide +kernel) ?_
      show Go _ _ _ _ _ _ 114 [(0, rm 0), (1, vi l1), (2, vi l2), (3, vi l3), (4, vi l4), (6, vi l6), (7, vi l7)] [rm 0, vi l6] (Y, (y8, T)) _
      obtain ⟨r9, hr9, h⟩ := bind_el h
      refine go_callV (idx := 447) (z := 0) (M' := M11_alone) (n := 0) (A := []) (v' := some (vi r9)) (μ' := (Y, (y8, T))) (d' := 1) (mc' := 0) (ms' := 0) (kc' := 0) (ks' := 0) (ci := 11) (x := .inr (.inl 0)) (by decide +kernel) ml_11_447 rfl wv11_alone rfl (by decide) rfl (lm_t0 hT) (ret11_alone hT hr9) (by decide) rfl rfl (Nat.le_of_ble_eq_true rfl) rfl (jag rfl rfl) ?_
      show Go _ _ _ _ _ _ 117 [(0, rm 0), (1, vi l1), (2, vi l2), (3, vi l3), (4, vi l4), (6, vi l6), (7, vi l7)] [vi r9, vi l6] (Y, (y8, T)) _
      refine go_blk rfl [(.iload_n 3, 1, 3, 0, 0, .inl 0), (.iconst (-1), 1, 0, 0, 0, .inl (-1))] 117 119 _ _ _ (by decide +kernel) ?_
      show Go _ _ _ _ _ _ 119 [(0, rm 0), (1, vi l1), (2, vi l2), (3, vi l3), (4, vi l4), (6, vi l6), (7, vi l7)] [vi ((-1)), vi l3, vi r9, vi l6] (Y, (y8, T)) _
      have key : ∀ z0 : Int32, z0 = ((if l3 = ((-1)) then ((-2)) else l3) : Int32) → Go M11_tunes 7 0 0 0 0 128 [(0, rm 0), (1, vi l1), (2, vi l2), (3, vi l3), (4, vi l4), (7, vi l7)] [vi z0, vi r9, vi l6] (Y, (y8, T)) Q := by
        intro z0 ez0
        subst ez0
        have key : ∀ z0 : Int32, z0 = ((if r9 = (((if l3 = ((-1)) then ((-2)) else l3) : Int32)) then 1 else 0) : Int32) → Go M11_tunes 7 0 0 0 0 136 [(0, rm 0), (1, vi l1), (2, vi l2), (3, vi l3), (4, vi l4), (7, vi l7)] [vi z0, vi l6] (Y, (y8, T)) Q := by
          intro z0 ez0
          subst ez0
          refine go_blk rfl [(.iadd, 1, 0, 0, 0, .inl 0), (.istore 6, 2, 6, 0, 0, .inl 0), (.aload_n 0, 1, 0, 0, 0, .inl 0), (.getfield 9, 3, 11, 1, 1, .inl 0), (.bipush 9, 2, 0, 0, 0, .inl 9), (.iaload, 1, 20, 0, 0, .inl 0), (.istore 5, 2, 5, 0, 0, .inl 0), (.aload_n 0, 1, 0, 0, 0, .inl 0)] 136 149 _ _ _ (by decide +kernel) ?_
          refine And.intro (lm_t0 hT) (Exists.intro _ (And.intro (gRm (lm_r1 hT)) ?_))
          refine And.intro (lm_t1 hT) (Exists.intro _ (And.intro (lm_n1 hT) (And.intro (inb_in (by decide)) ?_)))
          show Go _ _ _ _ _ _ 149 [(5, vi (y8.1 1 9)), (6, vi (l6 + (((if r9 = (((if l3 = ((-1)) then ((-2)) else l3) : Int32)) then 1 else 0) : Int32)))), (0, rm 0), (1, vi l1), (2, vi l2), (3, vi l3), (4, vi l4), (7, vi l7)] [rm 0] (Y, (y8, T)) _
          obtain ⟨r10, hr10, h⟩ := bind_el h
          refine go_callV (idx := 444) (z := 0) (M' := M11_laysBack) (n := 0) (A := []) (v' := none) (μ' := (Y, (r10.1, T))) (d' := 3) (mc' := 0) (ms' := 0) (kc' := 0) (ks' := 0) (ci := 11) (x := .inr (.inl 0)) (by decide +kernel) ml_11_444 rfl wv11_laysBack rfl (by decide) rfl (lm_t0 hT) (ret11_laysBack hT hr10) (by decide) rfl rfl (Nat.le_of_ble_eq_true rfl) rfl (jag rfl rfl) ?_
          show Go _ _ _ _ _ _ 152 [(5, vi (y8.1 1 9)), (6, vi (l6 + (((if r9 = (((if l3 = ((-1)) then ((-2)) else l3) : Int32)) then 1 else 0) : Int32)))), (0, rm 0), (1, vi l1), (2, vi l2), (3, vi l3), (4, vi l4), (7, vi l7)] [] (Y, (r10.1, T)) _
          refine go_blk rfl [(.iinc 7 1, 3, 7, 0, 0, .inl 1)] 152 155 _ _ _ (by decide +kernel) ?_
          show Go _ _ _ _ _ _ 155 [(7, vi (l7 + 1)), (5, vi (y8.1 1 9)), (6, vi (l6 + (((if r9 = (((if l3 = ((-1)) then ((-2)) else l3) : Int32)) then 1 else 0) : Int32)))), (0, rm 0), (1, vi l1), (2, vi l2), (3, vi l3), (4, vi l4)] [] (Y, (r10.1, T)) _
          refine go_goto (off := (-85)) (tgt := 70) (by decide +kernel) (by decide) ?_
          refine go_pick [3, 4, 5, 6, 7, 1, 2, 0] rfl ?_
          exact ih _ _ _ _ _ h k
        clear h
        by_cases q8 : r9 = (((if l3 = ((-1)) then ((-2)) else l3) : Int32))
        · refine go_icmp_ne (off := 7) (tgt := 135) (by decide +kernel) (by decide) (fun z => absurd q8 z) (fun _ => ?_)
          refine go_blk rfl [(.iconst 1, 1, 0, 0, 0, .inl 1)] 131 132 _ _ _ (by decide +kernel) ?_
          show Go _ _ _ _ _ _ 132 [(0, rm 0), (1, vi l1), (2, vi l2), (3, vi l3), (4, vi l4), (7, vi l7)] [vi 1, vi l6] (Y, (y8, T)) _
          refine go_goto (off := 4) (tgt := 136) (by decide +kernel) (by decide) ?_
          refine go_pick [0, 1, 2, 3, 4, 5] rfl ?_; exact key _ (by rw [if_pos q8])
        · refine go_icmp_ne (off := 7) (tgt := 135) (by decide +kernel) (by decide) (fun _ => ?_) (fun z => absurd z q8)
          refine go_blk rfl [(.iconst 0, 1, 0, 0, 0, .inl 0)] 135 136 _ _ _ (by decide +kernel) ?_
          show Go _ _ _ _ _ _ 136 [(0, rm 0), (1, vi l1), (2, vi l2), (3, vi l3), (4, vi l4), (7, vi l7)] [vi 0, vi l6] (Y, (y8, T)) _
          refine go_pick [0, 1, 2, 3, 4, 5] rfl ?_; exact key _ (by rw [if_neg q8])
      clear h
      by_cases q7 : l3 = ((-1))
      · refine go_icmp_ne (off := 8) (tgt := 127) (by decide +kernel) (by decide) (fun z => absurd q7 z) (fun _ => ?_)
        refine go_blk rfl [(.bipush (-2), 2, 0, 0, 0, .inl (-2))] 122 124 _ _ _ (by decide +kernel) ?_
        show Go _ _ _ _ _ _ 124 [(0, rm 0), (1, vi l1), (2, vi l2), (3, vi l3), (4, vi l4), (6, vi l6), (7, vi l7)] [vi ((-2)), vi r9, vi l6] (Y, (y8, T)) _
        refine go_goto (off := 4) (tgt := 128) (by decide +kernel) (by decide) ?_
        refine go_pick [0, 1, 2, 3, 4, 6] rfl ?_; exact key _ (by rw [if_pos q7])
      · refine go_icmp_ne (off := 8) (tgt := 127) (by decide +kernel) (by decide) (fun _ => ?_) (fun z => absurd z q7)
        refine go_blk rfl [(.iload_n 3, 1, 3, 0, 0, .inl 0)] 127 128 _ _ _ (by decide +kernel) ?_
        show Go _ _ _ _ _ _ 128 [(0, rm 0), (1, vi l1), (2, vi l2), (3, vi l3), (4, vi l4), (6, vi l6), (7, vi l7)] [vi l3, vi r9, vi l6] (Y, (y8, T)) _
        refine go_pick [0, 1, 2, 3, 4, 6] rfl ?_; exact key _ (by rw [if_neg q7])
theorem f11_tunes_L4_ok {T : jT} {Y : jS × jT} {l1 : Int32} {l2 : Int32} {l3 : Int32} {l4 : Int32} {l6 : Int32} {l7 : Int32} {Q : Option jV → jMem → Prop} (hT : LayM T) : ∀ (n : Nat) (S : jS) (r : jS), f11_tunes_L4 l1 l2 l3 l4 l6 l7 n S = some r → Go M11_tunes 7 0 0 0 0 111 [(0, rm 0), (1, vi l1), (2, vi l2), (3, vi l3), (4, vi l4), (6, vi l6), (7, vi l7)] [] (Y, (r, T)) Q → Go M11_tunes 7 0 0 0 0 85 [(0, rm 0), (1, vi l1), (2, vi l2), (3, vi l3), (4, vi l4), (6, vi l6), (7, vi l7)] [] (Y, (S, T)) Q := by
  intro n
  induction n with
  | zero => intro S r h k; exact absurd h (by intro z; cases z)
  | succ n ih =>
    intro S r h k
    rw [f11_tunes_L4] at h
    refine go_blk rfl [(.aload_n 0, 1, 0, 0, 0, .inl 0)] 85 86 _ _ _ (by decide +kernel) ?_
    show Go _ _ _ _ _ _ 86 [(0, rm 0), (1, vi l1), (2, vi l2), (3, vi l3), (4, vi l4), (6, vi l6), (7, vi l7)] [rm 0] (Y, (S, T)) _
    obtain ⟨r14, hr14, h⟩ := bind_el h
    refine go_callV (idx := 384) (z := 0) (M' := M11_isDone) (n := 0) (A := []) (v' := some (vi r14)) (μ' := (Y, (S, T))) (d' := 2) (mc' := 0) (ms' := 0) (kc' := 0) (ks' := 0) (ci := 11) (x := .inr (.inl 0)) (by decide +kernel) ml_11_384 rfl wv11_isDone rfl (by decide) rfl (lm_t0 hT) (ret11_isDone hT hr14) (by decide) rfl rfl (Nat.le_of_ble_eq_true rfl) rfl (jag rfl rfl) ?_
    show Go _ _ _ _ _ _ 89 [(0, rm 0), (1, vi l1), (2, vi l2), (3, vi l3), (4, vi l4), (6, vi l6), (7, vi l7)] [vi r14] (Y, (S, T)) _
    refine ite_el h (fun q11 h => ?_) (fun q11 h => ?_)
    · refine go_if_ne (off := 22) (tgt := 111) (by decide +kernel) (by decide) (fun z => absurd q11 z) (fun _ => ?_)
      refine go_blk rfl [(.aload_n 0, 1, 0, 0, 0, .inl 0), (.iconst 1, 1, 0, 0, 0, .inl 1), (.aload_n 0, 1, 0, 0, 0, .inl 0), (.iload_n 2, 1, 2, 0, 0, .inl 0)] 92 96 _ _ _ (by decide +kernel) ?_
      show Go _ _ _ _ _ _ 96 [(0, rm 0), (1, vi l1), (2, vi l2), (3, vi l3), (4, vi l4), (6, vi l6), (7, vi l7)] [vi l2, rm 0, vi 1, rm 0] (Y, (S, T)) _
      obtain ⟨r15, hr15, h⟩ := bind_el h
      refine go_callV (idx := 508) (z := 0) (M' := M11_draws) (n := 1) (A := [vi l2]) (v' := some (vi r15.2)) (μ' := (Y, (r15.1, T))) (d' := 1) (mc' := 0) (ms' := 0) (kc' := 0) (ks' := 0) (ci := 11) (x := .inr (.inl 0)) (by decide +kernel) ml_11_508 rfl wv11_draws rfl (by decide) rfl (lm_t0 hT) (ret11_draws hT hr15) (by decide) rfl rfl (Nat.le_of_ble_eq_true rfl) rfl (jag rfl rfl) ?_
      show Go _ _ _ _ _ _ 99 [(0, rm 0), (1, vi l1), (2, vi l2), (3, vi l3), (4, vi l4), (6, vi l6), (7, vi l7)] [vi r15.2, vi 1, rm 0] (Y, (r15.1, T)) _
      refine go_blk rfl [(.iadd, 1, 0, 0, 0, .inl 0), (.putfield 103, 3, 11, 40, 0, .inl 0)] 99 103 _ _ _ (by decide +kernel) ?_
      refine And.intro (lm_t0 hT) (And.intro trivial ?_)
      show Go _ _ _ _ _ _ 103 [(0, rm 0), (1, vi l1), (2, vi l2), (3, vi l3), (4, vi l4), (6, vi l6), (7, vi l7)] [] (Y, (wI r15.1 0 40 (1 + r15.2), T)) _
      refine go_blk rfl [(.aload_n 0, 1, 0, 0, 0, .inl 0)] 103 104 _ _ _ (by decide +kernel) ?_
      show Go _ _ _ _ _ _ 104 [(0, rm 0), (1, vi l1), (2, vi l2), (3, vi l3), (4, vi l4), (6, vi l6), (7, vi l7)] [rm 0] (Y, (wI r15.1 0 40 (1 + r15.2), T)) _
      obtain ⟨r16, hr16, h⟩ := bind_el h
      refine go_callV (idx := 399) (z := 0) (M' := M11_goes) (n := 0) (A := []) (v' := some (vi r16.2)) (μ' := (Y, (r16.1, T))) (d' := 6) (mc' := 0) (ms' := 0) (kc' := 0) (ks' := 0) (ci := 11) (x := .inr (.inl 0)) (by decide +kernel) ml_11_399 rfl wv11_goes rfl (by decide) rfl (lm_t0 hT) (ret11_goes hT hr16) (by decide) rfl rfl (Nat.le_of_ble_eq_true rfl) rfl (jag rfl rfl) ?_
      show Go _ _ _ _ _ _ 107 [(0, rm 0), (1, vi l1), (2, vi l2), (3, vi l3), (4, vi l4), (6, vi l6), (7, vi l7)] [vi r16.2] (Y, (r16.1, T)) _
      refine go_blk rfl [(.pop, 1, 0, 0, 0, .inl 0)] 107 108 _ _ _ (by decide +kernel) ?_
      show Go _ _ _ _ _ _ 108 [(0, rm 0), (1, vi l1), (2, vi l2), (3, vi l3), (4, vi l4), (6, vi l6), (7, vi l7)] [] (Y, (r16.1, T)) _
      refine go_goto (off := (-23)) (tgt := 85) (by decide +kernel) (by decide) ?_
      refine go_pick [0, 1, 2, 3, 4, 5, 6] rfl ?_
      exact ih _ _ h k
    · refine go_if_ne (off := 22) (tgt := 111) (by decide +kernel) (by decide) (fun _ => ?_) (fun z => absurd z q11)
      obtain rfl := Option.some.inj h
      refine go_pick [0, 1, 2, 3, 4, 5, 6] rfl ?_
      exact k
theorem f11_tunes_L3_ok {T : jT} {Y : jS × jT} {l1 : Int32} {l2 : Int32} {l3 : Int32} {l4 : Int32} {Q : Option jV → jMem → Prop} (hT : LayM T) : ∀ (n : Nat) (S : jS) (l5 : Int32) (l6 : Int32) (l7 : Int32) (r : (jS × Int32)), f11_tunes_L3 l1 l2 l3 l4 n S l5 l6 l7 = some r → Go M11_tunes 7 0 0 0 0 158 [(0, rm 0), (4, vi l4), (6, vi r.2)] [] (Y, (r.1, T)) Q → Go M11_tunes 7 0 0 0 0 70 [(0, rm 0), (1, vi l1), (2, vi l2), (3, vi l3), (4, vi l4), (5, vi l5), (6, vi l6), (7, vi l7)] [] (Y, (S, T)) Q := by
  intro n
  induction n with
  | zero => intro S l5 l6 l7 r h k; exact absurd h (by intro z; cases z)
  | succ n ih =>
    intro S l5 l6 l7 r h k
    rw [f11_tunes_L3] at h
    refine go_blk rfl [(.iload 7, 2, 7, 0, 0, .inl 0), (.iload_n 1, 1, 1, 0, 0, .inl 0)] 70 73 _ _ _ (by decide +kernel) ?_
    show Go _ _ _ _ _ _ 73 [(0, rm 0), (1, vi l1), (2, vi l2), (3, vi l3), (4, vi l4), (5, vi l5), (6, vi l6), (7, vi l7)] [vi l1, vi l7] (Y, (S, T)) _
    refine ite_el h (fun q10 h => ?_) (fun q10 h => ?_)
    · refine go_icmp_ge (off := 85) (tgt := 158) (by decide +kernel) (by decide) (fun _ => ?_) (fun z => absurd q10 z)
      obtain rfl := Option.some.inj h
      refine go_pick [0, 4, 6] rfl ?_
      exact k
    · refine go_icmp_ge (off := 85) (tgt := 158) (by decide +kernel) (by decide) (fun z => absurd z q10) (fun _ => ?_)
      refine go_blk rfl [(.aload_n 0, 1, 0, 0, 0, .inl 0), (.getfield 9, 3, 11, 1, 1, .inl 0), (.bipush 9, 2, 0, 0, 0, .inl 9), (.iload 5, 2, 5, 0, 0, .inl 0), (.iastore, 1, 20, 0, 0, .inl 0)] 76 85 _ _ _ (by decide +kernel) ?_
      refine And.intro (lm_t0 hT) (Exists.intro _ (And.intro (gRm (lm_r1 hT)) ?_))
      refine And.intro (lm_t1 hT) (Exists.intro _ (And.intro (lm_n1 hT) (And.intro (inb_in (by decide)) ?_)))
      show Go _ _ _ _ _ _ 85 [(0, rm 0), (1, vi l1), (2, vi l2), (3, vi l3), (4, vi l4), (5, vi l5), (6, vi l6), (7, vi l7)] [] (Y, (wI S 1 9 l5, T)) _
      refine go_pick [0, 1, 2, 3, 4, 6, 7] rfl ?_
      obtain ⟨y17, hy17, h⟩ := bind_el h
      refine f11_tunes_L4_ok hT _ _ _ hy17 ?_
      show Go _ _ _ _ _ _ 111 [(0, rm 0), (1, vi l1), (2, vi l2), (3, vi l3), (4, vi l4), (6, vi l6), (7, vi l7)] [] (Y, (y17, T)) _
      refine go_blk rfl [(.iload 6, 2, 6, 0, 0, .inl 0), (.aload_n 0, 1, 0, 0, 0, .inl 0)] 111 114 _ _ _ (by decide +kernel) ?_
      show Go _ _ _ _ _ _ 114 [(0, rm 0), (1, vi l1), (2, vi l2), (3, vi l3), (4, vi l4), (6, vi l6), (7, vi l7)] [rm 0, vi l6] (Y, (y17, T)) _
      obtain ⟨r18, hr18, h⟩ := bind_el h
      refine go_callV (idx := 447) (z := 0) (M' := M11_alone) (n := 0) (A := []) (v' := some (vi r18)) (μ' := (Y, (y17, T))) (d' := 1) (mc' := 0) (ms' := 0) (kc' := 0) (ks' := 0) (ci := 11) (x := .inr (.inl 0)) (by decide +kernel) ml_11_447 rfl wv11_alone rfl (by decide) rfl (lm_t0 hT) (ret11_alone hT hr18) (by decide) rfl rfl (Nat.le_of_ble_eq_true rfl) rfl (jag rfl rfl) ?_
      show Go _ _ _ _ _ _ 117 [(0, rm 0), (1, vi l1), (2, vi l2), (3, vi l3), (4, vi l4), (6, vi l6), (7, vi l7)] [vi r18, vi l6] (Y, (y17, T)) _
      refine go_blk rfl [(.iload_n 3, 1, 3, 0, 0, .inl 0), (.iconst (-1), 1, 0, 0, 0, .inl (-1))] 117 119 _ _ _ (by decide +kernel) ?_
      show Go _ _ _ _ _ _ 119 [(0, rm 0), (1, vi l1), (2, vi l2), (3, vi l3), (4, vi l4), (6, vi l6), (7, vi l7)] [vi ((-1)), vi l3, vi r18, vi l6] (Y, (y17, T)) _
      have key : ∀ z0 : Int32, z0 = ((if l3 = ((-1)) then ((-2)) else l3) : Int32) → Go M11_tunes 7 0 0 0 0 128 [(0, rm 0), (1, vi l1), (2, vi l2), (3, vi l3), (4, vi l4), (7, vi l7)] [vi z0, vi r18, vi l6] (Y, (y17, T)) Q := by
        intro z0 ez0
        subst ez0
        have key : ∀ z0 : Int32, z0 = ((if r18 = (((if l3 = ((-1)) then ((-2)) else l3) : Int32)) then 1 else 0) : Int32) → Go M11_tunes 7 0 0 0 0 136 [(0, rm 0), (1, vi l1), (2, vi l2), (3, vi l3), (4, vi l4), (7, vi l7)] [vi z0, vi l6] (Y, (y17, T)) Q := by
          intro z0 ez0
          subst ez0
          refine go_blk rfl [(.iadd, 1, 0, 0, 0, .inl 0), (.istore 6, 2, 6, 0, 0, .inl 0), (.aload_n 0, 1, 0, 0, 0, .inl 0), (.getfield 9, 3, 11, 1, 1, .inl 0), (.bipush 9, 2, 0, 0, 0, .inl 9), (.iaload, 1, 20, 0, 0, .inl 0), (.istore 5, 2, 5, 0, 0, .inl 0), (.aload_n 0, 1, 0, 0, 0, .inl 0)] 136 149 _ _ _ (by decide +kernel) ?_
          refine And.intro (lm_t0 hT) (Exists.intro _ (And.intro (gRm (lm_r1 hT)) ?_))
          refine And.intro (lm_t1 hT) (Exists.intro _ (And.intro (lm_n1 hT) (And.intro (inb_in (by decide)) ?_)))
          show Go _ _ _ _ _ _ 149 [(5, vi (y17.1 1 9)), (6, vi (l6 + (((if r18 = (((if l3 = ((-1)) then ((-2)) else l3) : Int32)) then 1 else 0) : Int32)))), (0, rm 0), (1, vi l1), (2, vi l2), (3, vi l3), (4, vi l4), (7, vi l7)] [rm 0] (Y, (y17, T)) _
          obtain ⟨r19, hr19, h⟩ := bind_el h
          refine go_callV (idx := 444) (z := 0) (M' := M11_laysBack) (n := 0) (A := []) (v' := none) (μ' := (Y, (r19.1, T))) (d' := 3) (mc' := 0) (ms' := 0) (kc' := 0) (ks' := 0) (ci := 11) (x := .inr (.inl 0)) (by decide +kernel) ml_11_444 rfl wv11_laysBack rfl (by decide) rfl (lm_t0 hT) (ret11_laysBack hT hr19) (by decide) rfl rfl (Nat.le_of_ble_eq_true rfl) rfl (jag rfl rfl) ?_
          show Go _ _ _ _ _ _ 152 [(5, vi (y17.1 1 9)), (6, vi (l6 + (((if r18 = (((if l3 = ((-1)) then ((-2)) else l3) : Int32)) then 1 else 0) : Int32)))), (0, rm 0), (1, vi l1), (2, vi l2), (3, vi l3), (4, vi l4), (7, vi l7)] [] (Y, (r19.1, T)) _
          refine go_blk rfl [(.iinc 7 1, 3, 7, 0, 0, .inl 1)] 152 155 _ _ _ (by decide +kernel) ?_
          show Go _ _ _ _ _ _ 155 [(7, vi (l7 + 1)), (5, vi (y17.1 1 9)), (6, vi (l6 + (((if r18 = (((if l3 = ((-1)) then ((-2)) else l3) : Int32)) then 1 else 0) : Int32)))), (0, rm 0), (1, vi l1), (2, vi l2), (3, vi l3), (4, vi l4)] [] (Y, (r19.1, T)) _
          refine go_goto (off := (-85)) (tgt := 70) (by decide +kernel) (by decide) ?_
          refine go_pick [3, 4, 5, 6, 7, 1, 2, 0] rfl ?_
          exact ih _ _ _ _ _ h k
        clear h
        by_cases q13 : r18 = (((if l3 = ((-1)) then ((-2)) else l3) : Int32))
        · refine go_icmp_ne (off := 7) (tgt := 135) (by decide +kernel) (by decide) (fun z => absurd q13 z) (fun _ => ?_)
          refine go_blk rfl [(.iconst 1, 1, 0, 0, 0, .inl 1)] 131 132 _ _ _ (by decide +kernel) ?_
          show Go _ _ _ _ _ _ 132 [(0, rm 0), (1, vi l1), (2, vi l2), (3, vi l3), (4, vi l4), (7, vi l7)] [vi 1, vi l6] (Y, (y17, T)) _
          refine go_goto (off := 4) (tgt := 136) (by decide +kernel) (by decide) ?_
          refine go_pick [0, 1, 2, 3, 4, 5] rfl ?_; exact key _ (by rw [if_pos q13])
        · refine go_icmp_ne (off := 7) (tgt := 135) (by decide +kernel) (by decide) (fun _ => ?_) (fun z => absurd z q13)
          refine go_blk rfl [(.iconst 0, 1, 0, 0, 0, .inl 0)] 135 136 _ _ _ (by decide +kernel) ?_
          show Go _ _ _ _ _ _ 136 [(0, rm 0), (1, vi l1), (2, vi l2), (3, vi l3), (4, vi l4), (7, vi l7)] [vi 0, vi l6] (Y, (y17, T)) _
          refine go_pick [0, 1, 2, 3, 4, 5] rfl ?_; exact key _ (by rw [if_neg q13])
      clear h
      by_cases q12 : l3 = ((-1))
      · refine go_icmp_ne (off := 8) (tgt := 127) (by decide +kernel) (by decide) (fun z => absurd q12 z) (fun _ => ?_)
        refine go_blk rfl [(.bipush (-2), 2, 0, 0, 0, .inl (-2))] 122 124 _ _ _ (by decide +kernel) ?_
        show Go _ _ _ _ _ _ 124 [(0, rm 0), (1, vi l1), (2, vi l2), (3, vi l3), (4, vi l4), (6, vi l6), (7, vi l7)] [vi ((-2)), vi r18, vi l6] (Y, (y17, T)) _
        refine go_goto (off := 4) (tgt := 128) (by decide +kernel) (by decide) ?_
        refine go_pick [0, 1, 2, 3, 4, 6] rfl ?_; exact key _ (by rw [if_pos q12])
      · refine go_icmp_ne (off := 8) (tgt := 127) (by decide +kernel) (by decide) (fun _ => ?_) (fun z => absurd z q12)
        refine go_blk rfl [(.iload_n 3, 1, 3, 0, 0, .inl 0)] 127 128 _ _ _ (by decide +kernel) ?_
        show Go _ _ _ _ _ _ 128 [(0, rm 0), (1, vi l1), (2, vi l2), (3, vi l3), (4, vi l4), (6, vi l6), (7, vi l7)] [vi l3, vi r18, vi l6] (Y, (y17, T)) _
        refine go_pick [0, 1, 2, 3, 4, 6] rfl ?_; exact key _ (by rw [if_neg q12])
theorem ret11_tunes {S : jS} {T : jT} {Y : jS × jT} {a0 : Int32} {a1 : Int32} {a2 : Int32} {S1 : jS} {x : Int32} (hT : LayM T) (h : f11_tunes S a0 a1 a2 = some (S1, x)) : Ret M11_tunes 7 0 0 [rm 0, vi a0, vi a1, vi a2] (Y, (S, T)) (some (vi x)) (Y, (S1, T)) := by
  refine Ret.of (by decide +kernel) (Nat.le_of_ble_eq_true rfl) ?_
  unfold f11_tunes at h
  show Go _ _ _ _ _ _ 0 [(0, rm 0), (1, vi a0), (2, vi a1), (3, vi a2)] [] (Y, (S, T)) _
  refine go_blk rfl [(.aload_n 0, 1, 0, 0, 0, .inl 0)] 0 1 _ _ _ (by decide +kernel) ?_
  show Go _ _ _ _ _ _ 1 [(0, rm 0), (1, vi a0), (2, vi a1), (3, vi a2)] [rm 0] (Y, (S, T)) _
  obtain ⟨r1, hr1, h⟩ := bind_el h
  refine go_callV (idx := 420) (z := 0) (M' := M11_isParty) (n := 0) (A := []) (v' := some (vi r1)) (μ' := (Y, (S, T))) (d' := 1) (mc' := 0) (ms' := 0) (kc' := 0) (ks' := 0) (ci := 11) (x := .inr (.inl 0)) (by decide +kernel) ml_11_420 rfl wv11_isParty rfl (by decide) rfl (lm_t0 hT) (ret11_isParty hT hr1) (by decide) rfl rfl (Nat.le_of_ble_eq_true rfl) rfl (jag rfl rfl) ?_
  show Go _ _ _ _ _ _ 4 [(0, rm 0), (1, vi a0), (2, vi a1), (3, vi a2)] [vi r1] (Y, (S, T)) _
  refine ite_el h (fun q1 h => ?_) (fun q1 h => ?_)
  · refine go_if_eq (off := 40) (tgt := 44) (by decide +kernel) (by decide) (fun _ => ?_) (fun z => absurd q1 z)
    refine go_blk rfl [(.bipush (-2), 2, 0, 0, 0, .inl (-2))] 44 46 _ _ _ (by decide +kernel) ?_
    show Go _ _ _ _ _ _ 46 [(0, rm 0), (1, vi a0), (2, vi a1), (3, vi a2)] [vi ((-2))] (Y, (S, T)) _
    obtain ⟨rfl, rfl⟩ := Prod.mk.inj (Option.some.inj h)
    exact go_ireturn (by decide +kernel) rfl rfl ⟨rfl, rfl⟩
  · refine go_if_eq (off := 40) (tgt := 44) (by decide +kernel) (by decide) (fun z => absurd z q1) (fun _ => ?_)
    refine go_blk rfl [(.iload_n 1, 1, 1, 0, 0, .inl 0), (.i2l, 1, 0, 0, 0, .inl 0), (.lconst 1, 1, 0, 0, 0, .inr (.inl 1)), (.ldc2_w 478, 3, 0, 0, 0, .inr (.inl 20))] 7 13 _ _ _ (by decide +kernel) ?_
    show Go _ _ _ _ _ _ 13 [(0, rm 0), (1, vi a0), (2, vi a1), (3, vi a2)] [vl 20, vl 1, vl a0.toInt64] (Y, (S, T)) _
    obtain ⟨r2, hr2, h⟩ := bind_el h
    refine go_callS (idx := 140) (z := 0) (M' := M11_in) (n := 3) (A := [vl a0.toInt64, vl 1, vl 20]) (v' := some (vi r2)) (μ' := (Y, (S, T))) (d' := 1) (mc' := 0) (ms' := 0) (kc' := 0) (ks' := 0) (by decide +kernel) ml_11_140 rfl ws11_in rfl (ret11_in hr2) (by decide) rfl rfl (Nat.le_of_ble_eq_true rfl) rfl (jag rfl rfl) ?_
    show Go _ _ _ _ _ _ 16 [(0, rm 0), (1, vi a0), (2, vi a1), (3, vi a2)] [vi r2] (Y, (S, T)) _
    refine ite_el h (fun q2 h => ?_) (fun q2 h => ?_)
    · refine go_if_eq (off := 28) (tgt := 44) (by decide +kernel) (by decide) (fun _ => ?_) (fun z => absurd q2 z)
      refine go_blk rfl [(.bipush (-2), 2, 0, 0, 0, .inl (-2))] 44 46 _ _ _ (by decide +kernel) ?_
      show Go _ _ _ _ _ _ 46 [(0, rm 0), (1, vi a0), (2, vi a1), (3, vi a2)] [vi ((-2))] (Y, (S, T)) _
      obtain ⟨rfl, rfl⟩ := Prod.mk.inj (Option.some.inj h)
      exact go_ireturn (by decide +kernel) rfl rfl ⟨rfl, rfl⟩
    · refine go_if_eq (off := 28) (tgt := 44) (by decide +kernel) (by decide) (fun z => absurd z q2) (fun _ => ?_)
      refine go_blk rfl [(.iload_n 2, 1, 2, 0, 0, .inl 0), (.i2l, 1, 0, 0, 0, .inl 0), (.lconst 1, 1, 0, 0, 0, .inr (.inl 1)), (.ldc2_w 376, 3, 0, 0, 0, .inr (.inl 60))] 19 25 _ _ _ (by decide +kernel) ?_
      show Go _ _ _ _ _ _ 25 [(0, rm 0), (1, vi a0), (2, vi a1), (3, vi a2)] [vl 60, vl 1, vl a1.toInt64] (Y, (S, T)) _
      obtain ⟨r3, hr3, h⟩ := bind_el h
      refine go_callS (idx := 140) (z := 0) (M' := M11_in) (n := 3) (A := [vl a1.toInt64, vl 1, vl 60]) (v' := some (vi r3)) (μ' := (Y, (S, T))) (d' := 1) (mc' := 0) (ms' := 0) (kc' := 0) (ks' := 0) (by decide +kernel) ml_11_140 rfl ws11_in rfl (ret11_in hr3) (by decide) rfl rfl (Nat.le_of_ble_eq_true rfl) rfl (jag rfl rfl) ?_
      show Go _ _ _ _ _ _ 28 [(0, rm 0), (1, vi a0), (2, vi a1), (3, vi a2)] [vi r3] (Y, (S, T)) _
      refine ite_el h (fun q3 h => ?_) (fun q3 h => ?_)
      · refine go_if_eq (off := 16) (tgt := 44) (by decide +kernel) (by decide) (fun _ => ?_) (fun z => absurd q3 z)
        refine go_blk rfl [(.bipush (-2), 2, 0, 0, 0, .inl (-2))] 44 46 _ _ _ (by decide +kernel) ?_
        show Go _ _ _ _ _ _ 46 [(0, rm 0), (1, vi a0), (2, vi a1), (3, vi a2)] [vi ((-2))] (Y, (S, T)) _
        obtain ⟨rfl, rfl⟩ := Prod.mk.inj (Option.some.inj h)
        exact go_ireturn (by decide +kernel) rfl rfl ⟨rfl, rfl⟩
      · refine go_if_eq (off := 16) (tgt := 44) (by decide +kernel) (by decide) (fun z => absurd z q3) (fun _ => ?_)
        refine go_blk rfl [(.iload_n 3, 1, 3, 0, 0, .inl 0), (.iconst (-1), 1, 0, 0, 0, .inl (-1))] 31 33 _ _ _ (by decide +kernel) ?_
        show Go _ _ _ _ _ _ 33 [(0, rm 0), (1, vi a0), (2, vi a1), (3, vi a2)] [vi ((-1)), vi a2] (Y, (S, T)) _
        refine ite_el h (fun q4 h => ?_) (fun q4 h => ?_)
        · refine go_icmp_eq (off := 14) (tgt := 47) (by decide +kernel) (by decide) (fun _ => ?_) (fun z => absurd q4 z)
          refine go_blk rfl [(.aload_n 0, 1, 0, 0, 0, .inl 0), (.getfield 9, 3, 11, 1, 1, .inl 0), (.bipush 9, 2, 0, 0, 0, .inl 9), (.iaload, 1, 20, 0, 0, .inl 0), (.istore 4, 2, 4, 0, 0, .inl 0), (.iload 4, 2, 4, 0, 0, .inl 0), (.istore 5, 2, 5, 0, 0, .inl 0), (.iconst 0, 1, 0, 0, 0, .inl 0), (.istore 6, 2, 6, 0, 0, .inl 0), (.aload_n 0, 1, 0, 0, 0, .inl 0)] 47 64 _ _ _ (by decide +kernel) ?_
          refine And.intro (lm_t0 hT) (Exists.intro _ (And.intro (gRm (lm_r1 hT)) ?_))
          refine And.intro (lm_t1 hT) (Exists.intro _ (And.intro (lm_n1 hT) (And.intro (inb_in (by decide)) ?_)))
          show Go _ _ _ _ _ _ 64 [(6, vi 0), (5, vi (S.1 1 9)), (4, vi (S.1 1 9)), (0, rm 0), (1, vi a0), (2, vi a1), (3, vi a2)] [rm 0] (Y, (S, T)) _
          obtain ⟨r4, hr4, h⟩ := bind_el h
          refine go_callV (idx := 438) (z := 0) (M' := M11_keepsAll) (n := 0) (A := []) (v' := none) (μ' := (Y, (r4.1, T))) (d' := 3) (mc' := 0) (ms' := 0) (kc' := 0) (ks' := 0) (ci := 11) (x := .inr (.inl 0)) (by decide +kernel) ml_11_438 rfl wv11_keepsAll rfl (by decide) rfl (lm_t0 hT) (ret11_keepsAll hT hr4) (by decide) rfl rfl (Nat.le_of_ble_eq_true rfl) rfl (jag rfl rfl) ?_
          show Go _ _ _ _ _ _ 67 [(6, vi 0), (5, vi (S.1 1 9)), (4, vi (S.1 1 9)), (0, rm 0), (1, vi a0), (2, vi a1), (3, vi a2)] [] (Y, (r4.1, T)) _
          refine go_blk rfl [(.iconst 0, 1, 0, 0, 0, .inl 0), (.istore 7, 2, 7, 0, 0, .inl 0)] 67 70 _ _ _ (by decide +kernel) ?_
          show Go _ _ _ _ _ _ 70 [(7, vi 0), (6, vi 0), (5, vi (S.1 1 9)), (4, vi (S.1 1 9)), (0, rm 0), (1, vi a0), (2, vi a1), (3, vi a2)] [] (Y, (r4.1, T)) _
          refine go_pick [4, 5, 6, 7, 3, 2, 1, 0] rfl ?_
          obtain ⟨y11, hy11, h⟩ := bind_el h
          refine f11_tunes_L1_ok hT _ _ _ _ _ _ hy11 ?_
          show Go _ _ _ _ _ _ 158 [(0, rm 0), (4, vi (S.1 1 9)), (6, vi y11.2)] [] (Y, (y11.1, T)) _
          refine go_blk rfl [(.aload_n 0, 1, 0, 0, 0, .inl 0), (.iconst (-1), 1, 0, 0, 0, .inl (-1)), (.putfield 103, 3, 11, 40, 0, .inl 0)] 158 163 _ _ _ (by decide +kernel) ?_
          refine And.intro (lm_t0 hT) (And.intro trivial ?_)
          show Go _ _ _ _ _ _ 163 [(0, rm 0), (4, vi (S.1 1 9)), (6, vi y11.2)] [] (Y, (wI y11.1 0 40 ((-1)), T)) _
          refine go_blk rfl [(.aload_n 0, 1, 0, 0, 0, .inl 0), (.getfield 9, 3, 11, 1, 1, .inl 0), (.bipush 9, 2, 0, 0, 0, .inl 9), (.iload 4, 2, 4, 0, 0, .inl 0), (.iastore, 1, 20, 0, 0, .inl 0)] 163 172 _ _ _ (by decide +kernel) ?_
          refine And.intro (lm_t0 hT) (Exists.intro _ (And.intro (gRm (lm_r1 hT)) ?_))
          refine And.intro (lm_t1 hT) (Exists.intro _ (And.intro (lm_n1 hT) (And.intro (inb_in (by decide)) ?_)))
          show Go _ _ _ _ _ _ 172 [(0, rm 0), (4, vi (S.1 1 9)), (6, vi y11.2)] [] (Y, (wI (wI y11.1 0 40 ((-1))) 1 9 (S.1 1 9), T)) _
          refine go_blk rfl [(.iload 6, 2, 6, 0, 0, .inl 0)] 172 174 _ _ _ (by decide +kernel) ?_
          show Go _ _ _ _ _ _ 174 [(0, rm 0), (4, vi (S.1 1 9)), (6, vi y11.2)] [vi y11.2] (Y, (wI (wI y11.1 0 40 ((-1))) 1 9 (S.1 1 9), T)) _
          obtain ⟨rfl, rfl⟩ := Prod.mk.inj (Option.some.inj h)
          exact go_ireturn (by decide +kernel) rfl rfl ⟨rfl, rfl⟩
        · refine go_icmp_eq (off := 14) (tgt := 47) (by decide +kernel) (by decide) (fun z => absurd z q4) (fun _ => ?_)
          refine go_blk rfl [(.aload_n 0, 1, 0, 0, 0, .inl 0), (.iload_n 3, 1, 3, 0, 0, .inl 0)] 36 38 _ _ _ (by decide +kernel) ?_
          show Go _ _ _ _ _ _ 38 [(0, rm 0), (1, vi a0), (2, vi a1), (3, vi a2)] [vi a2, rm 0] (Y, (S, T)) _
          obtain ⟨r12, hr12, h⟩ := bind_el h
          refine go_callV (idx := 144) (z := 0) (M' := M11_isGuest) (n := 1) (A := [vi a2]) (v' := some (vi r12)) (μ' := (Y, (S, T))) (d' := 2) (mc' := 0) (ms' := 0) (kc' := 0) (ks' := 0) (ci := 11) (x := .inr (.inl 0)) (by decide +kernel) ml_11_144 rfl wv11_isGuest rfl (by decide) rfl (lm_t0 hT) (ret11_isGuest hT hr12) (by decide) rfl rfl (Nat.le_of_ble_eq_true rfl) rfl (jag rfl rfl) ?_
          show Go _ _ _ _ _ _ 41 [(0, rm 0), (1, vi a0), (2, vi a1), (3, vi a2)] [vi r12] (Y, (S, T)) _
          refine ite_el h (fun q9 h => ?_) (fun q9 h => ?_)
          · refine go_if_ne (off := 6) (tgt := 47) (by decide +kernel) (by decide) (fun z => absurd q9 z) (fun _ => ?_)
            refine go_blk rfl [(.bipush (-2), 2, 0, 0, 0, .inl (-2))] 44 46 _ _ _ (by decide +kernel) ?_
            show Go _ _ _ _ _ _ 46 [(0, rm 0), (1, vi a0), (2, vi a1), (3, vi a2)] [vi ((-2))] (Y, (S, T)) _
            obtain ⟨rfl, rfl⟩ := Prod.mk.inj (Option.some.inj h)
            exact go_ireturn (by decide +kernel) rfl rfl ⟨rfl, rfl⟩
          · refine go_if_ne (off := 6) (tgt := 47) (by decide +kernel) (by decide) (fun _ => ?_) (fun z => absurd z q9)
            refine go_blk rfl [(.aload_n 0, 1, 0, 0, 0, .inl 0), (.getfield 9, 3, 11, 1, 1, .inl 0), (.bipush 9, 2, 0, 0, 0, .inl 9), (.iaload, 1, 20, 0, 0, .inl 0), (.istore 4, 2, 4, 0, 0, .inl 0), (.iload 4, 2, 4, 0, 0, .inl 0), (.istore 5, 2, 5, 0, 0, .inl 0), (.iconst 0, 1, 0, 0, 0, .inl 0), (.istore 6, 2, 6, 0, 0, .inl 0), (.aload_n 0, 1, 0, 0, 0, .inl 0)] 47 64 _ _ _ (by decide +kernel) ?_
            refine And.intro (lm_t0 hT) (Exists.intro _ (And.intro (gRm (lm_r1 hT)) ?_))
            refine And.intro (lm_t1 hT) (Exists.intro _ (And.intro (lm_n1 hT) (And.intro (inb_in (by decide)) ?_)))
            show Go _ _ _ _ _ _ 64 [(6, vi 0), (5, vi (S.1 1 9)), (4, vi (S.1 1 9)), (0, rm 0), (1, vi a0), (2, vi a1), (3, vi a2)] [rm 0] (Y, (S, T)) _
            obtain ⟨r13, hr13, h⟩ := bind_el h
            refine go_callV (idx := 438) (z := 0) (M' := M11_keepsAll) (n := 0) (A := []) (v' := none) (μ' := (Y, (r13.1, T))) (d' := 3) (mc' := 0) (ms' := 0) (kc' := 0) (ks' := 0) (ci := 11) (x := .inr (.inl 0)) (by decide +kernel) ml_11_438 rfl wv11_keepsAll rfl (by decide) rfl (lm_t0 hT) (ret11_keepsAll hT hr13) (by decide) rfl rfl (Nat.le_of_ble_eq_true rfl) rfl (jag rfl rfl) ?_
            show Go _ _ _ _ _ _ 67 [(6, vi 0), (5, vi (S.1 1 9)), (4, vi (S.1 1 9)), (0, rm 0), (1, vi a0), (2, vi a1), (3, vi a2)] [] (Y, (r13.1, T)) _
            refine go_blk rfl [(.iconst 0, 1, 0, 0, 0, .inl 0), (.istore 7, 2, 7, 0, 0, .inl 0)] 67 70 _ _ _ (by decide +kernel) ?_
            show Go _ _ _ _ _ _ 70 [(7, vi 0), (6, vi 0), (5, vi (S.1 1 9)), (4, vi (S.1 1 9)), (0, rm 0), (1, vi a0), (2, vi a1), (3, vi a2)] [] (Y, (r13.1, T)) _
            refine go_pick [4, 5, 6, 7, 3, 2, 1, 0] rfl ?_
            obtain ⟨y20, hy20, h⟩ := bind_el h
            refine f11_tunes_L3_ok hT _ _ _ _ _ _ hy20 ?_
            show Go _ _ _ _ _ _ 158 [(0, rm 0), (4, vi (S.1 1 9)), (6, vi y20.2)] [] (Y, (y20.1, T)) _
            refine go_blk rfl [(.aload_n 0, 1, 0, 0, 0, .inl 0), (.iconst (-1), 1, 0, 0, 0, .inl (-1)), (.putfield 103, 3, 11, 40, 0, .inl 0)] 158 163 _ _ _ (by decide +kernel) ?_
            refine And.intro (lm_t0 hT) (And.intro trivial ?_)
            show Go _ _ _ _ _ _ 163 [(0, rm 0), (4, vi (S.1 1 9)), (6, vi y20.2)] [] (Y, (wI y20.1 0 40 ((-1)), T)) _
            refine go_blk rfl [(.aload_n 0, 1, 0, 0, 0, .inl 0), (.getfield 9, 3, 11, 1, 1, .inl 0), (.bipush 9, 2, 0, 0, 0, .inl 9), (.iload 4, 2, 4, 0, 0, .inl 0), (.iastore, 1, 20, 0, 0, .inl 0)] 163 172 _ _ _ (by decide +kernel) ?_
            refine And.intro (lm_t0 hT) (Exists.intro _ (And.intro (gRm (lm_r1 hT)) ?_))
            refine And.intro (lm_t1 hT) (Exists.intro _ (And.intro (lm_n1 hT) (And.intro (inb_in (by decide)) ?_)))
            show Go _ _ _ _ _ _ 172 [(0, rm 0), (4, vi (S.1 1 9)), (6, vi y20.2)] [] (Y, (wI (wI y20.1 0 40 ((-1))) 1 9 (S.1 1 9), T)) _
            refine go_blk rfl [(.iload 6, 2, 6, 0, 0, .inl 0)] 172 174 _ _ _ (by decide +kernel) ?_
            show Go _ _ _ _ _ _ 174 [(0, rm 0), (4, vi (S.1 1 9)), (6, vi y20.2)] [vi y20.2] (Y, (wI (wI y20.1 0 40 ((-1))) 1 9 (S.1 1 9), T)) _
            obtain ⟨rfl, rfl⟩ := Prod.mk.inj (Option.some.inj h)
            exact go_ireturn (by decide +kernel) rfl rfl ⟨rfl, rfl⟩
