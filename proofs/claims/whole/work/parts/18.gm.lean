def f11_sits_L1  : Nat → jS → Int32 → Option jS
  | 0, _, _ => none
  | n + 1, S, l1 => (if 7 ≤ l1 then some S else (if inb l1 7 then f11_sits_L1 n (wI S 39 l1.toNatClampNeg ((-1))) (l1 + 1) else none))
def f11_sits_L2  : Nat → jS → Int32 → Option jS
  | 0, _, _ => none
  | n + 1, S, l1 => Option.bind (f11_sitsOne S l1) (fun r2 => (if r2.2 = 0 then some r2.1 else f11_sits_L2 n r2.1 (l1 ||| ((1 : Int32) <<< ((r2.1.1 0 41) &&& 31)))))
def f11_sits (S : jS) : Option (jS × Unit) := Option.bind (f11_sits_L1 jF S 0) (fun y1 => Option.bind (f11_sits_L2 jF y1 0) (fun y3 => some (y3, ())))
theorem f11_sits_L1_ok {T : jT} {Y : jS × jT} {Q : Option jV → jMem → Prop} (hT : LayM T) : ∀ (n : Nat) (S : jS) (l1 : Int32) (r : jS), f11_sits_L1 n S l1 = some r → Go M11_sits 3 0 0 0 0 21 [(0, rm 0)] [] (Y, (r, T)) Q → Go M11_sits 3 0 0 0 0 2 [(0, rm 0), (1, vi l1)] [] (Y, (S, T)) Q := by
  intro n
  induction n with
  | zero => intro S l1 r h k; exact absurd h (by intro z; cases z)
  | succ n ih =>
    intro S l1 r h k
    rw [f11_sits_L1] at h
    refine go_blk rfl [(.iload_n 1, 1, 1, 0, 0, .inl 0), (.bipush 7, 2, 0, 0, 0, .inl 7)] 2 5 _ _ _ (by decide +kernel) ?_
    show Go _ _ _ _ _ _ 5 [(0, rm 0), (1, vi l1)] [vi 7, vi l1] (Y, (S, T)) _
    refine ite_el h (fun q1 h => ?_) (fun q1 h => ?_)
    · refine go_icmp_ge (off := 16) (tgt := 21) (by decide +kernel) (by decide) (fun _ => ?_) (fun z => absurd q1 z)
      obtain rfl := Option.some.inj h
      refine go_pick [0] rfl ?_
      exact k
    · refine go_icmp_ge (off := 16) (tgt := 21) (by decide +kernel) (by decide) (fun z => absurd z q1) (fun _ => ?_)
      refine gd_el h (fun q2 h => ?_)
      refine go_blk rfl [(.aload_n 0, 1, 0, 0, 0, .inl 0), (.getfield 100, 3, 11, 39, 1, .inl 0), (.iload_n 1, 1, 1, 0, 0, .inl 0), (.iconst (-1), 1, 0, 0, 0, .inl (-1)), (.iastore, 1, 20, 0, 0, .inl 0)] 8 15 _ _ _ (by decide +kernel) ?_
      refine And.intro (lm_t0 hT) (Exists.intro _ (And.intro (gRm (lm_r39 hT)) ?_))
      refine And.intro (lm_t39 hT) (Exists.intro _ (And.intro (lm_n39 hT) (And.intro (inb_in q2) ?_)))
      show Go _ _ _ _ _ _ 15 [(0, rm 0), (1, vi l1)] [] (Y, (wI S 39 l1.toNatClampNeg ((-1)), T)) _
      refine go_blk rfl [(.iinc 1 1, 3, 1, 0, 0, .inl 1)] 15 18 _ _ _ (by decide +kernel) ?_
      show Go _ _ _ _ _ _ 18 [(1, vi (l1 + 1)), (0, rm 0)] [] (Y, (wI S 39 l1.toNatClampNeg ((-1)), T)) _
      refine go_goto (off := (-16)) (tgt := 2) (by decide +kernel) (by decide) ?_
      refine go_pick [1, 0] rfl ?_
      exact ih _ _ _ h k
theorem f11_sits_L2_ok {T : jT} {Y : jS × jT} {Q : Option jV → jMem → Prop} (hT : LayM T) : ∀ (n : Nat) (S : jS) (l1 : Int32) (r : jS), f11_sits_L2 n S l1 = some r → Go M11_sits 3 0 0 0 0 43 [] [] (Y, (r, T)) Q → Go M11_sits 3 0 0 0 0 23 [(0, rm 0), (1, vi l1)] [] (Y, (S, T)) Q := by
  intro n
  induction n with
  | zero => intro S l1 r h k; exact absurd h (by intro z; cases z)
  | succ n ih =>
    intro S l1 r h k
    rw [f11_sits_L2] at h
    refine go_blk rfl [(.aload_n 0, 1, 0, 0, 0, .inl 0), (.iload_n 1, 1, 1, 0, 0, .inl 0)] 23 25 _ _ _ (by decide +kernel) ?_
    show Go _ _ _ _ _ _ 25 [(0, rm 0), (1, vi l1)] [vi l1, rm 0] (Y, (S, T)) _
    obtain ⟨r2, hr2, h⟩ := bind_el h
    refine go_callV (idx := 381) (z := 0) (M' := M11_sitsOne) (n := 1) (A := [vi l1]) (v' := some (vi r2.2)) (μ' := (Y, (r2.1, T))) (d' := 2) (mc' := 0) (ms' := 0) (kc' := 0) (ks' := 0) (ci := 11) (x := .inr (.inl 0)) (by decide +kernel) ml_11_381 rfl wv11_sitsOne rfl (by decide) rfl (lm_t0 hT) (ret11_sitsOne hT hr2) (by decide) rfl rfl (Nat.le_of_ble_eq_true rfl) rfl (jag rfl rfl) ?_
    show Go _ _ _ _ _ _ 28 [(0, rm 0), (1, vi l1)] [vi r2.2] (Y, (r2.1, T)) _
    refine ite_el h (fun q3 h => ?_) (fun q3 h => ?_)
    · refine go_if_eq (off := 15) (tgt := 43) (by decide +kernel) (by decide) (fun _ => ?_) (fun z => absurd q3 z)
      obtain rfl := Option.some.inj h
      refine go_pick [] rfl ?_
      exact k
    · refine go_if_eq (off := 15) (tgt := 43) (by decide +kernel) (by decide) (fun z => absurd z q3) (fun _ => ?_)
      refine go_blk rfl [(.iload_n 1, 1, 1, 0, 0, .inl 0), (.iconst 1, 1, 0, 0, 0, .inl 1), (.aload_n 0, 1, 0, 0, 0, .inl 0), (.getfield 378, 3, 11, 41, 0, .inl 0), (.ishl, 1, 0, 0, 0, .inl 0), (.ior, 1, 0, 0, 0, .inl 0), (.istore_n 1, 1, 1, 0, 0, .inl 0)] 31 40 _ _ _ (by decide +kernel) ?_
      refine And.intro (lm_t0 hT) ?_
      show Go _ _ _ _ _ _ 40 [(1, vi (l1 ||| ((1 : Int32) <<< ((r2.1.1 0 41) &&& 31)))), (0, rm 0)] [] (Y, (r2.1, T)) _
      refine go_goto (off := (-17)) (tgt := 23) (by decide +kernel) (by decide) ?_
      refine go_pick [1, 0] rfl ?_
      exact ih _ _ _ h k
theorem ret11_sits {S : jS} {T : jT} {Y : jS × jT} {S1 : jS} {x : Unit} (hT : LayM T) (h : f11_sits S = some (S1, x)) : Ret M11_sits 3 0 0 [rm 0] (Y, (S, T)) (none) (Y, (S1, T)) := by
  refine Ret.of (by decide +kernel) (Nat.le_of_ble_eq_true rfl) ?_
  unfold f11_sits at h
  show Go _ _ _ _ _ _ 0 [(0, rm 0)] [] (Y, (S, T)) _
  refine go_blk rfl [(.iconst 0, 1, 0, 0, 0, .inl 0), (.istore_n 1, 1, 1, 0, 0, .inl 0)] 0 2 _ _ _ (by decide +kernel) ?_
  show Go _ _ _ _ _ _ 2 [(1, vi 0), (0, rm 0)] [] (Y, (S, T)) _
  refine go_pick [1, 0] rfl ?_
  obtain ⟨y1, hy1, h⟩ := bind_el h
  refine f11_sits_L1_ok hT _ _ _ _ hy1 ?_
  show Go _ _ _ _ _ _ 21 [(0, rm 0)] [] (Y, (y1, T)) _
  refine go_blk rfl [(.iconst 0, 1, 0, 0, 0, .inl 0), (.istore_n 1, 1, 1, 0, 0, .inl 0)] 21 23 _ _ _ (by decide +kernel) ?_
  show Go _ _ _ _ _ _ 23 [(1, vi 0), (0, rm 0)] [] (Y, (y1, T)) _
  refine go_pick [1, 0] rfl ?_
  obtain ⟨y3, hy3, h⟩ := bind_el h
  refine f11_sits_L2_ok hT _ _ _ _ hy3 ?_
  show Go _ _ _ _ _ _ 43 [] [] (Y, (y3, T)) _
  obtain ⟨rfl, rfl⟩ := Prod.mk.inj (Option.some.inj h)
  exact go_return (by decide +kernel) rfl ⟨rfl, rfl⟩
def f11_leaves_L1  : Nat → jS → Int32 → Option jS
  | 0, _, _ => none
  | n + 1, S, l1 => (if (S.1 1 2) ≤ l1 then some S else Option.bind (f11_has (S.1 1 6) l1) (fun r1 => Option.bind (if r1 = 0 then Option.bind (f11_has (S.1 1 6) l1) (fun r2 => (if r2 = 0 then some S else (if inb l1 7 then (if inb ((wI S 6 l1.toNatClampNeg ((S.1 6 l1.toNatClampNeg) + (((if 999 ≤ (S.1 6 l1.toNatClampNeg) then 0 else 1) : Int32)))).1 39 l1.toNatClampNeg) 6 then Option.bind (if ((wI S 6 l1.toNatClampNeg ((S.1 6 l1.toNatClampNeg) + (((if 999 ≤ (S.1 6 l1.toNatClampNeg) then 0 else 1) : Int32)))).1 2 l1.toNatClampNeg) = ((wI S 6 l1.toNatClampNeg ((S.1 6 l1.toNatClampNeg) + (((if 999 ≤ (S.1 6 l1.toNatClampNeg) then 0 else 1) : Int32)))).1 7 ((wI S 6 l1.toNatClampNeg ((S.1 6 l1.toNatClampNeg) + (((if 999 ≤ (S.1 6 l1.toNatClampNeg) then 0 else 1) : Int32)))).1 39 l1.toNatClampNeg).toNatClampNeg) then some 0 else (if 30 ≤ ((wI S 6 l1.toNatClampNeg ((S.1 6 l1.toNatClampNeg) + (((if 999 ≤ (S.1 6 l1.toNatClampNeg) then 0 else 1) : Int32)))).1 5 l1.toNatClampNeg) then some 0 else some 1)) (fun (y3 : Int32) => (if inb ((wI (wI S 6 l1.toNatClampNeg ((S.1 6 l1.toNatClampNeg) + (((if 999 ≤ (S.1 6 l1.toNatClampNeg) then 0 else 1) : Int32)))) 5 l1.toNatClampNeg (((wI S 6 l1.toNatClampNeg ((S.1 6 l1.toNatClampNeg) + (((if 999 ≤ (S.1 6 l1.toNatClampNeg) then 0 else 1) : Int32)))).1 5 l1.toNatClampNeg) + y3)).1 39 l1.toNatClampNeg) 6 then some (wI (wI (wI S 6 l1.toNatClampNeg ((S.1 6 l1.toNatClampNeg) + (((if 999 ≤ (S.1 6 l1.toNatClampNeg) then 0 else 1) : Int32)))) 5 l1.toNatClampNeg (((wI S 6 l1.toNatClampNeg ((S.1 6 l1.toNatClampNeg) + (((if 999 ≤ (S.1 6 l1.toNatClampNeg) then 0 else 1) : Int32)))).1 5 l1.toNatClampNeg) + y3)) 2 l1.toNatClampNeg ((wI (wI S 6 l1.toNatClampNeg ((S.1 6 l1.toNatClampNeg) + (((if 999 ≤ (S.1 6 l1.toNatClampNeg) then 0 else 1) : Int32)))) 5 l1.toNatClampNeg (((wI S 6 l1.toNatClampNeg ((S.1 6 l1.toNatClampNeg) + (((if 999 ≤ (S.1 6 l1.toNatClampNeg) then 0 else 1) : Int32)))).1 5 l1.toNatClampNeg) + y3)).1 7 ((wI (wI S 6 l1.toNatClampNeg ((S.1 6 l1.toNatClampNeg) + (((if 999 ≤ (S.1 6 l1.toNatClampNeg) then 0 else 1) : Int32)))) 5 l1.toNatClampNeg (((wI S 6 l1.toNatClampNeg ((S.1 6 l1.toNatClampNeg) + (((if 999 ≤ (S.1 6 l1.toNatClampNeg) then 0 else 1) : Int32)))).1 5 l1.toNatClampNeg) + y3)).1 39 l1.toNatClampNeg).toNatClampNeg)) else none)) else none) else none))) else (if inb l1 7 then (if (S.1 39 l1.toNatClampNeg) = ((-1)) then some (wI (wI S 1 6 ((S.1 1 6) &&& (((1 : Int32) <<< (l1 &&& 31)) ^^^ ((-1))))) 1 5 l1) else Option.bind (f11_has (S.1 1 6) l1) (fun r4 => (if r4 = 0 then some S else (if inb ((wI S 6 l1.toNatClampNeg ((S.1 6 l1.toNatClampNeg) + (((if 999 ≤ (S.1 6 l1.toNatClampNeg) then 0 else 1) : Int32)))).1 39 l1.toNatClampNeg) 6 then Option.bind (if ((wI S 6 l1.toNatClampNeg ((S.1 6 l1.toNatClampNeg) + (((if 999 ≤ (S.1 6 l1.toNatClampNeg) then 0 else 1) : Int32)))).1 2 l1.toNatClampNeg) = ((wI S 6 l1.toNatClampNeg ((S.1 6 l1.toNatClampNeg) + (((if 999 ≤ (S.1 6 l1.toNatClampNeg) then 0 else 1) : Int32)))).1 7 ((wI S 6 l1.toNatClampNeg ((S.1 6 l1.toNatClampNeg) + (((if 999 ≤ (S.1 6 l1.toNatClampNeg) then 0 else 1) : Int32)))).1 39 l1.toNatClampNeg).toNatClampNeg) then some 0 else (if 30 ≤ ((wI S 6 l1.toNatClampNeg ((S.1 6 l1.toNatClampNeg) + (((if 999 ≤ (S.1 6 l1.toNatClampNeg) then 0 else 1) : Int32)))).1 5 l1.toNatClampNeg) then some 0 else some 1)) (fun (y5 : Int32) => (if inb ((wI (wI S 6 l1.toNatClampNeg ((S.1 6 l1.toNatClampNeg) + (((if 999 ≤ (S.1 6 l1.toNatClampNeg) then 0 else 1) : Int32)))) 5 l1.toNatClampNeg (((wI S 6 l1.toNatClampNeg ((S.1 6 l1.toNatClampNeg) + (((if 999 ≤ (S.1 6 l1.toNatClampNeg) then 0 else 1) : Int32)))).1 5 l1.toNatClampNeg) + y5)).1 39 l1.toNatClampNeg) 6 then some (wI (wI (wI S 6 l1.toNatClampNeg ((S.1 6 l1.toNatClampNeg) + (((if 999 ≤ (S.1 6 l1.toNatClampNeg) then 0 else 1) : Int32)))) 5 l1.toNatClampNeg (((wI S 6 l1.toNatClampNeg ((S.1 6 l1.toNatClampNeg) + (((if 999 ≤ (S.1 6 l1.toNatClampNeg) then 0 else 1) : Int32)))).1 5 l1.toNatClampNeg) + y5)) 2 l1.toNatClampNeg ((wI (wI S 6 l1.toNatClampNeg ((S.1 6 l1.toNatClampNeg) + (((if 999 ≤ (S.1 6 l1.toNatClampNeg) then 0 else 1) : Int32)))) 5 l1.toNatClampNeg (((wI S 6 l1.toNatClampNeg ((S.1 6 l1.toNatClampNeg) + (((if 999 ≤ (S.1 6 l1.toNatClampNeg) then 0 else 1) : Int32)))).1 5 l1.toNatClampNeg) + y5)).1 7 ((wI (wI S 6 l1.toNatClampNeg ((S.1 6 l1.toNatClampNeg) + (((if 999 ≤ (S.1 6 l1.toNatClampNeg) then 0 else 1) : Int32)))) 5 l1.toNatClampNeg (((wI S 6 l1.toNatClampNeg ((S.1 6 l1.toNatClampNeg) + (((if 999 ≤ (S.1 6 l1.toNatClampNeg) then 0 else 1) : Int32)))).1 5 l1.toNatClampNeg) + y5)).1 39 l1.toNatClampNeg).toNatClampNeg)) else none)) else none)))) else none)) (fun (y6 : jS) => f11_leaves_L1 n y6 (l1 + 1))))
def f11_leaves (S : jS) : Option (jS × Unit) := Option.bind (f11_leaves_L1 jF S 0) (fun y7 => some (y7, ()))
theorem f11_leaves_L1_ok {T : jT} {Y : jS × jT} {Q : Option jV → jMem → Prop} (hT : LayM T) : ∀ (n : Nat) (S : jS) (l1 : Int32) (r : jS), f11_leaves_L1 n S l1 = some r → Go M11_leaves 2 0 0 0 0 169 [] [] (Y, (r, T)) Q → Go M11_leaves 2 0 0 0 0 2 [(0, rm 0), (1, vi l1)] [] (Y, (S, T)) Q := by
  intro n
  induction n with
  | zero => intro S l1 r h k; exact absurd h (by intro z; cases z)
  | succ n ih =>
    intro S l1 r h k
    rw [f11_leaves_L1] at h
    refine go_blk rfl [(.iload_n 1, 1, 1, 0, 0, .inl 0), (.aload_n 0, 1, 0, 0, 0, .inl 0), (.getfield 9, 3, 11, 1, 1, .inl 0), (.iconst 2, 1, 0, 0, 0, .inl 2), (.iaload, 1, 20, 0, 0, .inl 0)] 2 9 _ _ _ (by decide +kernel) ?_
    refine And.intro (lm_t0 hT) (Exists.intro _ (And.intro (gRm (lm_r1 hT)) ?_))
    refine And.intro (lm_t1 hT) (Exists.intro _ (And.intro (lm_n1 hT) (And.intro (inb_in (by decide)) ?_)))
    show Go _ _ _ _ _ _ 9 [(0, rm 0), (1, vi l1)] [vi (S.1 1 2), vi l1] (Y, (S, T)) _
    refine ite_el h (fun q1 h => ?_) (fun q1 h => ?_)
    · refine go_icmp_ge (off := 160) (tgt := 169) (by decide +kernel) (by decide) (fun _ => ?_) (fun z => absurd q1 z)
      obtain rfl := Option.some.inj h
      refine go_pick [] rfl ?_
      exact k
    · refine go_icmp_ge (off := 160) (tgt := 169) (by decide +kernel) (by decide) (fun z => absurd z q1) (fun _ => ?_)
      refine go_blk rfl [(.aload_n 0, 1, 0, 0, 0, .inl 0), (.getfield 9, 3, 11, 1, 1, .inl 0), (.bipush 6, 2, 0, 0, 0, .inl 6), (.iaload, 1, 20, 0, 0, .inl 0), (.iload_n 1, 1, 1, 0, 0, .inl 0)] 12 20 _ _ _ (by decide +kernel) ?_
      refine And.intro (lm_t0 hT) (Exists.intro _ (And.intro (gRm (lm_r1 hT)) ?_))
      refine And.intro (lm_t1 hT) (Exists.intro _ (And.intro (lm_n1 hT) (And.intro (inb_in (by decide)) ?_)))
      show Go _ _ _ _ _ _ 20 [(0, rm 0), (1, vi l1)] [vi l1, vi (S.1 1 6)] (Y, (S, T)) _
      obtain ⟨r1, hr1, h⟩ := bind_el h
      refine go_callS (idx := 148) (z := 0) (M' := M11_has) (n := 2) (A := [vi (S.1 1 6), vi l1]) (v' := some (vi r1)) (μ' := (Y, (S, T))) (d' := 1) (mc' := 0) (ms' := 0) (kc' := 0) (ks' := 0) (by decide +kernel) ml_11_148 rfl ws11_has rfl (ret11_has hr1) (by decide) rfl rfl (Nat.le_of_ble_eq_true rfl) rfl (jag rfl rfl) ?_
      show Go _ _ _ _ _ _ 23 [(0, rm 0), (1, vi l1)] [vi r1] (Y, (S, T)) _
      obtain ⟨y6, hy6, h⟩ := bind_el h
      have key : Go M11_leaves 2 0 0 0 0 163 [(0, rm 0), (1, vi l1)] [] (Y, (y6, T)) Q := by
        refine go_blk rfl [(.iinc 1 1, 3, 1, 0, 0, .inl 1)] 163 166 _ _ _ (by decide +kernel) ?_
        show Go _ _ _ _ _ _ 166 [(1, vi (l1 + 1)), (0, rm 0)] [] (Y, (y6, T)) _
        refine go_goto (off := (-164)) (tgt := 2) (by decide +kernel) (by decide) ?_
        refine go_pick [1, 0] rfl ?_
        exact ih _ _ _ h k
      replace h := hy6
      refine ite_el h (fun q2 h => ?_) (fun q2 h => ?_)
      · refine go_if_eq (off := 38) (tgt := 61) (by decide +kernel) (by decide) (fun _ => ?_) (fun z => absurd q2 z)
        refine go_blk rfl [(.aload_n 0, 1, 0, 0, 0, .inl 0), (.getfield 9, 3, 11, 1, 1, .inl 0), (.bipush 6, 2, 0, 0, 0, .inl 6), (.iaload, 1, 20, 0, 0, .inl 0), (.iload_n 1, 1, 1, 0, 0, .inl 0)] 61 69 _ _ _ (by decide +kernel) ?_
        refine And.intro (lm_t0 hT) (Exists.intro _ (And.intro (gRm (lm_r1 hT)) ?_))
        refine And.intro (lm_t1 hT) (Exists.intro _ (And.intro (lm_n1 hT) (And.intro (inb_in (by decide)) ?_)))
        show Go _ _ _ _ _ _ 69 [(0, rm 0), (1, vi l1)] [vi l1, vi (S.1 1 6)] (Y, (S, T)) _
        obtain ⟨r2, hr2, h⟩ := bind_el h
        refine go_callS (idx := 148) (z := 0) (M' := M11_has) (n := 2) (A := [vi (S.1 1 6), vi l1]) (v' := some (vi r2)) (μ' := (Y, (S, T))) (d' := 1) (mc' := 0) (ms' := 0) (kc' := 0) (ks' := 0) (by decide +kernel) ml_11_148 rfl ws11_has rfl (ret11_has hr2) (by decide) rfl rfl (Nat.le_of_ble_eq_true rfl) rfl (jag rfl rfl) ?_
        show Go _ _ _ _ _ _ 72 [(0, rm 0), (1, vi l1)] [vi r2] (Y, (S, T)) _
        refine ite_el h (fun q3 h => ?_) (fun q3 h => ?_)
        · refine go_if_eq (off := 91) (tgt := 163) (by decide +kernel) (by decide) (fun _ => ?_) (fun z => absurd q3 z)
          obtain rfl := Option.some.inj h
          refine go_pick [0, 1] rfl ?_
          exact key
        · refine go_if_eq (off := 91) (tgt := 163) (by decide +kernel) (by decide) (fun z => absurd z q3) (fun _ => ?_)
          refine gd_el h (fun q4 h => ?_)
          refine go_blk rfl [(.aload_n 0, 1, 0, 0, 0, .inl 0), (.getfield 25, 3, 11, 6, 1, .inl 0), (.iload_n 1, 1, 1, 0, 0, .inl 0), (.dup2, 1, 0, 0, 0, .inl 0), (.iaload, 1, 20, 0, 0, .inl 0), (.aload_n 0, 1, 0, 0, 0, .inl 0), (.getfield 25, 3, 11, 6, 1, .inl 0), (.iload_n 1, 1, 1, 0, 0, .inl 0), (.iaload, 1, 20, 0, 0, .inl 0), (.sipush 999, 3, 0, 0, 0, .inl 999)] 75 91 _ _ _ (by decide +kernel) ?_
          refine And.intro (lm_t0 hT) (Exists.intro _ (And.intro (gRm (lm_r6 hT)) ?_))
          refine And.intro (lm_t6 hT) (Exists.intro _ (And.intro (lm_n6 hT) (And.intro (inb_in q4) ?_)))
          refine And.intro (lm_t0 hT) (Exists.intro _ (And.intro (gRm (lm_r6 hT)) ?_))
          refine And.intro (lm_t6 hT) (Exists.intro _ (And.intro (lm_n6 hT) (And.intro (inb_in q4) ?_)))
          show Go _ _ _ _ _ _ 91 [(0, rm 0), (1, vi l1)] [vi 999, vi (S.1 6 l1.toNatClampNeg), vi (S.1 6 l1.toNatClampNeg), vi l1, rm 6] (Y, (S, T)) _
          have key : ∀ z0 : Int32, z0 = ((if 999 ≤ (S.1 6 l1.toNatClampNeg) then 0 else 1) : Int32) → Go M11_leaves 2 0 0 0 0 99 [(0, rm 0), (1, vi l1)] [vi z0, vi (S.1 6 l1.toNatClampNeg), vi l1, rm 6] (Y, (S, T)) Q := by
            intro z0 ez0
            subst ez0
            refine go_blk rfl [(.iadd, 1, 0, 0, 0, .inl 0), (.iastore, 1, 20, 0, 0, .inl 0)] 99 101 _ _ _ (by decide +kernel) ?_
            refine And.intro (lm_t6 hT) (Exists.intro _ (And.intro (lm_n6 hT) (And.intro (inb_in q4) ?_)))
            show Go _ _ _ _ _ _ 101 [(0, rm 0), (1, vi l1)] [] (Y, (wI S 6 l1.toNatClampNeg ((S.1 6 l1.toNatClampNeg) + (((if 999 ≤ (S.1 6 l1.toNatClampNeg) then 0 else 1) : Int32))), T)) _
            refine gd_el h (fun q6 h => ?_)
            refine go_blk rfl [(.aload_n 0, 1, 0, 0, 0, .inl 0), (.getfield 22, 3, 11, 5, 1, .inl 0), (.iload_n 1, 1, 1, 0, 0, .inl 0), (.dup2, 1, 0, 0, 0, .inl 0), (.iaload, 1, 20, 0, 0, .inl 0), (.aload_n 0, 1, 0, 0, 0, .inl 0), (.getfield 13, 3, 11, 2, 1, .inl 0), (.iload_n 1, 1, 1, 0, 0, .inl 0), (.iaload, 1, 20, 0, 0, .inl 0), (.aload_n 0, 1, 0, 0, 0, .inl 0), (.getfield 28, 3, 11, 7, 1, .inl 0), (.aload_n 0, 1, 0, 0, 0, .inl 0), (.getfield 100, 3, 11, 39, 1, .inl 0), (.iload_n 1, 1, 1, 0, 0, .inl 0), (.iaload, 1, 20, 0, 0, .inl 0), (.iaload, 1, 20, 0, 0, .inl 0)] 101 125 _ _ _ (by decide +kernel) ?_
            refine And.intro (lm_t0 hT) (Exists.intro _ (And.intro (gRm (lm_r5 hT)) ?_))
            refine And.intro (lm_t5 hT) (Exists.intro _ (And.intro (lm_n5 hT) (And.intro (inb_in q4) ?_)))
            refine And.intro (lm_t0 hT) (Exists.intro _ (And.intro (gRm (lm_r2 hT)) ?_))
            refine And.intro (lm_t2 hT) (Exists.intro _ (And.intro (lm_n2 hT) (And.intro (inb_in q4) ?_)))
            refine And.intro (lm_t0 hT) (Exists.intro _ (And.intro (gRm (lm_r7 hT)) ?_))
            refine And.intro (lm_t0 hT) (Exists.intro _ (And.intro (gRm (lm_r39 hT)) ?_))
            refine And.intro (lm_t39 hT) (Exists.intro _ (And.intro (lm_n39 hT) (And.intro (inb_in q4) ?_)))
            refine And.intro (lm_t7 hT) (Exists.intro _ (And.intro (lm_n7 hT) (And.intro (inb_in q6) ?_)))
            show Go _ _ _ _ _ _ 125 [(0, rm 0), (1, vi l1)] [vi ((wI S 6 l1.toNatClampNeg ((S.1 6 l1.toNatClampNeg) + (((if 999 ≤ (S.1 6 l1.toNatClampNeg) then 0 else 1) : Int32)))).1 7 ((wI S 6 l1.toNatClampNeg ((S.1 6 l1.toNatClampNeg) + (((if 999 ≤ (S.1 6 l1.toNatClampNeg) then 0 else 1) : Int32)))).1 39 l1.toNatClampNeg).toNatClampNeg), vi ((wI S 6 l1.toNatClampNeg ((S.1 6 l1.toNatClampNeg) + (((if 999 ≤ (S.1 6 l1.toNatClampNeg) then 0 else 1) : Int32)))).1 2 l1.toNatClampNeg), vi ((wI S 6 l1.toNatClampNeg ((S.1 6 l1.toNatClampNeg) + (((if 999 ≤ (S.1 6 l1.toNatClampNeg) then 0 else 1) : Int32)))).1 5 l1.toNatClampNeg), vi l1, rm 5] (Y, (wI S 6 l1.toNatClampNeg ((S.1 6 l1.toNatClampNeg) + (((if 999 ≤ (S.1 6 l1.toNatClampNeg) then 0 else 1) : Int32))), T)) _
            obtain ⟨y3, hy3, h⟩ := bind_el h
            have key : Go M11_leaves 2 0 0 0 0 144 [(0, rm 0), (1, vi l1)] [vi y3, vi ((wI S 6 l1.toNatClampNeg ((S.1 6 l1.toNatClampNeg) + (((if 999 ≤ (S.1 6 l1.toNatClampNeg) then 0 else 1) : Int32)))).1 5 l1.toNatClampNeg), vi l1, rm 5] (Y, (wI S 6 l1.toNatClampNeg ((S.1 6 l1.toNatClampNeg) + (((if 999 ≤ (S.1 6 l1.toNatClampNeg) then 0 else 1) : Int32))), T)) Q := by
              refine go_blk rfl [(.iadd, 1, 0, 0, 0, .inl 0), (.iastore, 1, 20, 0, 0, .inl 0)] 144 146 _ _ _ (by decide +kernel) ?_
              refine And.intro (lm_t5 hT) (Exists.intro _ (And.intro (lm_n5 hT) (And.intro (inb_in q4) ?_)))
              show Go _ _ _ _ _ _ 146 [(0, rm 0), (1, vi l1)] [] (Y, (wI (wI S 6 l1.toNatClampNeg ((S.1 6 l1.toNatClampNeg) + (((if 999 ≤ (S.1 6 l1.toNatClampNeg) then 0 else 1) : Int32)))) 5 l1.toNatClampNeg (((wI S 6 l1.toNatClampNeg ((S.1 6 l1.toNatClampNeg) + (((if 999 ≤ (S.1 6 l1.toNatClampNeg) then 0 else 1) : Int32)))).1 5 l1.toNatClampNeg) + y3), T)) _
              refine gd_el h (fun q9 h => ?_)
              refine go_blk rfl [(.aload_n 0, 1, 0, 0, 0, .inl 0), (.getfield 13, 3, 11, 2, 1, .inl 0), (.iload_n 1, 1, 1, 0, 0, .inl 0), (.aload_n 0, 1, 0, 0, 0, .inl 0), (.getfield 28, 3, 11, 7, 1, .inl 0), (.aload_n 0, 1, 0, 0, 0, .inl 0), (.getfield 100, 3, 11, 39, 1, .inl 0), (.iload_n 1, 1, 1, 0, 0, .inl 0), (.iaload, 1, 20, 0, 0, .inl 0), (.iaload, 1, 20, 0, 0, .inl 0), (.iastore, 1, 20, 0, 0, .inl 0)] 146 163 _ _ _ (by decide +kernel) ?_
              refine And.intro (lm_t0 hT) (Exists.intro _ (And.intro (gRm (lm_r2 hT)) ?_))
              refine And.intro (lm_t0 hT) (Exists.intro _ (And.intro (gRm (lm_r7 hT)) ?_))
              refine And.intro (lm_t0 hT) (Exists.intro _ (And.intro (gRm (lm_r39 hT)) ?_))
              refine And.intro (lm_t39 hT) (Exists.intro _ (And.intro (lm_n39 hT) (And.intro (inb_in q4) ?_)))
              refine And.intro (lm_t7 hT) (Exists.intro _ (And.intro (lm_n7 hT) (And.intro (inb_in q9) ?_)))
              refine And.intro (lm_t2 hT) (Exists.intro _ (And.intro (lm_n2 hT) (And.intro (inb_in q4) ?_)))
              show Go _ _ _ _ _ _ 163 [(0, rm 0), (1, vi l1)] [] (Y, (wI (wI (wI S 6 l1.toNatClampNeg ((S.1 6 l1.toNatClampNeg) + (((if 999 ≤ (S.1 6 l1.toNatClampNeg) then 0 else 1) : Int32)))) 5 l1.toNatClampNeg (((wI S 6 l1.toNatClampNeg ((S.1 6 l1.toNatClampNeg) + (((if 999 ≤ (S.1 6 l1.toNatClampNeg) then 0 else 1) : Int32)))).1 5 l1.toNatClampNeg) + y3)) 2 l1.toNatClampNeg ((wI (wI S 6 l1.toNatClampNeg ((S.1 6 l1.toNatClampNeg) + (((if 999 ≤ (S.1 6 l1.toNatClampNeg) then 0 else 1) : Int32)))) 5 l1.toNatClampNeg (((wI S 6 l1.toNatClampNeg ((S.1 6 l1.toNatClampNeg) + (((if 999 ≤ (S.1 6 l1.toNatClampNeg) then 0 else 1) : Int32)))).1 5 l1.toNatClampNeg) + y3)).1 7 ((wI (wI S 6 l1.toNatClampNeg ((S.1 6 l1.toNatClampNeg) + (((if 999 ≤ (S.1 6 l1.toNatClampNeg) then 0 else 1) : Int32)))) 5 l1.toNatClampNeg (((wI S 6 l1.toNatClampNeg ((S.1 6 l1.toNatClampNeg) + (((if 999 ≤ (S.1 6 l1.toNatClampNeg) then 0 else 1) : Int32)))).1 5 l1.toNatClampNeg) + y3)).1 39 l1.toNatClampNeg).toNatClampNeg), T)) _
              obtain rfl := Option.some.inj h
              refine go_pick [0, 1] rfl ?_
              exact key
            replace h := hy3
            refine ite_el h (fun q7 h => ?_) (fun q7 h => ?_)
            · refine go_icmp_eq (off := 18) (tgt := 143) (by decide +kernel) (by decide) (fun _ => ?_) (fun z => absurd q7 z)
              refine go_blk rfl [(.iconst 0, 1, 0, 0, 0, .inl 0)] 143 144 _ _ _ (by decide +kernel) ?_
              show Go _ _ _ _ _ _ 144 [(0, rm 0), (1, vi l1)] [vi 0, vi ((wI S 6 l1.toNatClampNeg ((S.1 6 l1.toNatClampNeg) + (((if 999 ≤ (S.1 6 l1.toNatClampNeg) then 0 else 1) : Int32)))).1 5 l1.toNatClampNeg), vi l1, rm 5] (Y, (wI S 6 l1.toNatClampNeg ((S.1 6 l1.toNatClampNeg) + (((if 999 ≤ (S.1 6 l1.toNatClampNeg) then 0 else 1) : Int32))), T)) _
              obtain rfl := Option.some.inj h
              refine go_pick [0, 1] rfl ?_
              exact key
            · refine go_icmp_eq (off := 18) (tgt := 143) (by decide +kernel) (by decide) (fun z => absurd z q7) (fun _ => ?_)
              refine go_blk rfl [(.aload_n 0, 1, 0, 0, 0, .inl 0), (.getfield 22, 3, 11, 5, 1, .inl 0), (.iload_n 1, 1, 1, 0, 0, .inl 0), (.iaload, 1, 20, 0, 0, .inl 0), (.bipush 30, 2, 0, 0, 0, .inl 30)] 128 136 _ _ _ (by decide +kernel) ?_
              refine And.intro (lm_t0 hT) (Exists.intro _ (And.intro (gRm (lm_r5 hT)) ?_))
              refine And.intro (lm_t5 hT) (Exists.intro _ (And.intro (lm_n5 hT) (And.intro (inb_in q4) ?_)))
              show Go _ _ _ _ _ _ 136 [(0, rm 0), (1, vi l1)] [vi 30, vi ((wI S 6 l1.toNatClampNeg ((S.1 6 l1.toNatClampNeg) + (((if 999 ≤ (S.1 6 l1.toNatClampNeg) then 0 else 1) : Int32)))).1 5 l1.toNatClampNeg), vi ((wI S 6 l1.toNatClampNeg ((S.1 6 l1.toNatClampNeg) + (((if 999 ≤ (S.1 6 l1.toNatClampNeg) then 0 else 1) : Int32)))).1 5 l1.toNatClampNeg), vi l1, rm 5] (Y, (wI S 6 l1.toNatClampNeg ((S.1 6 l1.toNatClampNeg) + (((if 999 ≤ (S.1 6 l1.toNatClampNeg) then 0 else 1) : Int32))), T)) _
              refine ite_el h (fun q8 h => ?_) (fun q8 h => ?_)
              · refine go_icmp_ge (off := 7) (tgt := 143) (by decide +kernel) (by decide) (fun _ => ?_) (fun z => absurd q8 z)
                refine go_blk rfl [(.iconst 0, 1, 0, 0, 0, .inl 0)] 143 144 _ _ _ (by decide +kernel) ?_
                show Go _ _ _ _ _ _ 144 [(0, rm 0), (1, vi l1)] [vi 0, vi ((wI S 6 l1.toNatClampNeg ((S.1 6 l1.toNatClampNeg) + (((if 999 ≤ (S.1 6 l1.toNatClampNeg) then 0 else 1) : Int32)))).1 5 l1.toNatClampNeg), vi l1, rm 5] (Y, (wI S 6 l1.toNatClampNeg ((S.1 6 l1.toNatClampNeg) + (((if 999 ≤ (S.1 6 l1.toNatClampNeg) then 0 else 1) : Int32))), T)) _
                obtain rfl := Option.some.inj h
                refine go_pick [0, 1] rfl ?_
                exact key
              · refine go_icmp_ge (off := 7) (tgt := 143) (by decide +kernel) (by decide) (fun z => absurd z q8) (fun _ => ?_)
                refine go_blk rfl [(.iconst 1, 1, 0, 0, 0, .inl 1)] 139 140 _ _ _ (by decide +kernel) ?_
                show Go _ _ _ _ _ _ 140 [(0, rm 0), (1, vi l1)] [vi 1, vi ((wI S 6 l1.toNatClampNeg ((S.1 6 l1.toNatClampNeg) + (((if 999 ≤ (S.1 6 l1.toNatClampNeg) then 0 else 1) : Int32)))).1 5 l1.toNatClampNeg), vi l1, rm 5] (Y, (wI S 6 l1.toNatClampNeg ((S.1 6 l1.toNatClampNeg) + (((if 999 ≤ (S.1 6 l1.toNatClampNeg) then 0 else 1) : Int32))), T)) _
                refine go_goto (off := 4) (tgt := 144) (by decide +kernel) (by decide) ?_
                obtain rfl := Option.some.inj h
                refine go_pick [0, 1] rfl ?_
                exact key
          clear h
          by_cases q5 : 999 ≤ (S.1 6 l1.toNatClampNeg)
          · refine go_icmp_ge (off := 7) (tgt := 98) (by decide +kernel) (by decide) (fun _ => ?_) (fun z => absurd q5 z)
            refine go_blk rfl [(.iconst 0, 1, 0, 0, 0, .inl 0)] 98 99 _ _ _ (by decide +kernel) ?_
            show Go _ _ _ _ _ _ 99 [(0, rm 0), (1, vi l1)] [vi 0, vi (S.1 6 l1.toNatClampNeg), vi l1, rm 6] (Y, (S, T)) _
            refine go_pick [0, 1] rfl ?_; exact key _ (by rw [if_pos q5])
          · refine go_icmp_ge (off := 7) (tgt := 98) (by decide +kernel) (by decide) (fun z => absurd z q5) (fun _ => ?_)
            refine go_blk rfl [(.iconst 1, 1, 0, 0, 0, .inl 1)] 94 95 _ _ _ (by decide +kernel) ?_
            show Go _ _ _ _ _ _ 95 [(0, rm 0), (1, vi l1)] [vi 1, vi (S.1 6 l1.toNatClampNeg), vi l1, rm 6] (Y, (S, T)) _
            refine go_goto (off := 4) (tgt := 99) (by decide +kernel) (by decide) ?_
            refine go_pick [0, 1] rfl ?_; exact key _ (by rw [if_neg q5])
      · refine go_if_eq (off := 38) (tgt := 61) (by decide +kernel) (by decide) (fun z => absurd z q2) (fun _ => ?_)
        refine gd_el h (fun q10 h => ?_)
        refine go_blk rfl [(.aload_n 0, 1, 0, 0, 0, .inl 0), (.getfield 100, 3, 11, 39, 1, .inl 0), (.iload_n 1, 1, 1, 0, 0, .inl 0), (.iaload, 1, 20, 0, 0, .inl 0), (.iconst (-1), 1, 0, 0, 0, .inl (-1))] 26 33 _ _ _ (by decide +kernel) ?_
        refine And.intro (lm_t0 hT) (Exists.intro _ (And.intro (gRm (lm_r39 hT)) ?_))
        refine And.intro (lm_t39 hT) (Exists.intro _ (And.intro (lm_n39 hT) (And.intro (inb_in q10) ?_)))
        show Go _ _ _ _ _ _ 33 [(0, rm 0), (1, vi l1)] [vi ((-1)), vi (S.1 39 l1.toNatClampNeg)] (Y, (S, T)) _
        refine ite_el h (fun q11 h => ?_) (fun q11 h => ?_)
        · refine go_icmp_ne (off := 28) (tgt := 61) (by decide +kernel) (by decide) (fun z => absurd q11 z) (fun _ => ?_)
          refine go_blk rfl [(.aload_n 0, 1, 0, 0, 0, .inl 0), (.getfield 9, 3, 11, 1, 1, .inl 0), (.bipush 6, 2, 0, 0, 0, .inl 6), (.dup2, 1, 0, 0, 0, .inl 0), (.iaload, 1, 20, 0, 0, .inl 0), (.iconst 1, 1, 0, 0, 0, .inl 1), (.iload_n 1, 1, 1, 0, 0, .inl 0), (.ishl, 1, 0, 0, 0, .inl 0), (.iconst (-1), 1, 0, 0, 0, .inl (-1)), (.ixor, 1, 0, 0, 0, .inl 0), (.iand, 1, 0, 0, 0, .inl 0), (.iastore, 1, 20, 0, 0, .inl 0)] 36 51 _ _ _ (by decide +kernel) ?_
          refine And.intro (lm_t0 hT) (Exists.intro _ (And.intro (gRm (lm_r1 hT)) ?_))
          refine And.intro (lm_t1 hT) (Exists.intro _ (And.intro (lm_n1 hT) (And.intro (inb_in (by decide)) ?_)))
          refine And.intro (lm_t1 hT) (Exists.intro _ (And.intro (lm_n1 hT) (And.intro (inb_in (by decide)) ?_)))
          show Go _ _ _ _ _ _ 51 [(0, rm 0), (1, vi l1)] [] (Y, (wI S 1 6 ((S.1 1 6) &&& (((1 : Int32) <<< (l1 &&& 31)) ^^^ ((-1)))), T)) _
          refine go_blk rfl [(.aload_n 0, 1, 0, 0, 0, .inl 0), (.getfield 9, 3, 11, 1, 1, .inl 0), (.iconst 5, 1, 0, 0, 0, .inl 5), (.iload_n 1, 1, 1, 0, 0, .inl 0), (.iastore, 1, 20, 0, 0, .inl 0)] 51 58 _ _ _ (by decide +kernel) ?_
          refine And.intro (lm_t0 hT) (Exists.intro _ (And.intro (gRm (lm_r1 hT)) ?_))
          refine And.intro (lm_t1 hT) (Exists.intro _ (And.intro (lm_n1 hT) (And.intro (inb_in (by decide)) ?_)))
          show Go _ _ _ _ _ _ 58 [(0, rm 0), (1, vi l1)] [] (Y, (wI (wI S 1 6 ((S.1 1 6) &&& (((1 : Int32) <<< (l1 &&& 31)) ^^^ ((-1))))) 1 5 l1, T)) _
          refine go_goto (off := 105) (tgt := 163) (by decide +kernel) (by decide) ?_
          obtain rfl := Option.some.inj h
          refine go_pick [0, 1] rfl ?_
          exact key
        · refine go_icmp_ne (off := 28) (tgt := 61) (by decide +kernel) (by decide) (fun _ => ?_) (fun z => absurd z q11)
          refine go_blk rfl [(.aload_n 0, 1, 0, 0, 0, .inl 0), (.getfield 9, 3, 11, 1, 1, .inl 0), (.bipush 6, 2, 0, 0, 0, .inl 6), (.iaload, 1, 20, 0, 0, .inl 0), (.iload_n 1, 1, 1, 0, 0, .inl 0)] 61 69 _ _ _ (by decide +kernel) ?_
          refine And.intro (lm_t0 hT) (Exists.intro _ (And.intro (gRm (lm_r1 hT)) ?_))
          refine And.intro (lm_t1 hT) (Exists.intro _ (And.intro (lm_n1 hT) (And.intro (inb_in (by decide)) ?_)))
          show Go _ _ _ _ _ _ 69 [(0, rm 0), (1, vi l1)] [vi l1, vi (S.1 1 6)] (Y, (S, T)) _
          obtain ⟨r4, hr4, h⟩ := bind_el h
          refine go_callS (idx := 148) (z := 0) (M' := M11_has) (n := 2) (A := [vi (S.1 1 6), vi l1]) (v' := some (vi r4)) (μ' := (Y, (S, T))) (d' := 1) (mc' := 0) (ms' := 0) (kc' := 0) (ks' := 0) (by decide +kernel) ml_11_148 rfl ws11_has rfl (ret11_has hr4) (by decide) rfl rfl (Nat.le_of_ble_eq_true rfl) rfl (jag rfl rfl) ?_
          show Go _ _ _ _ _ _ 72 [(0, rm 0), (1, vi l1)] [vi r4] (Y, (S, T)) _
          refine ite_el h (fun q12 h => ?_) (fun q12 h => ?_)
          · refine go_if_eq (off := 91) (tgt := 163) (by decide +kernel) (by decide) (fun _ => ?_) (fun z => absurd q12 z)
            obtain rfl := Option.some.inj h
            refine go_pick [0, 1] rfl ?_
            exact key
          · refine go_if_eq (off := 91) (tgt := 163) (by decide +kernel) (by decide) (fun z => absurd z q12) (fun _ => ?_)
            refine go_blk rfl [(.aload_n 0, 1, 0, 0, 0, .inl 0), (.getfield 25, 3, 11, 6, 1, .inl 0), (.iload_n 1, 1, 1, 0, 0, .inl 0), (.dup2, 1, 0, 0, 0, .inl 0), (.iaload, 1, 20, 0, 0, .inl 0), (.aload_n 0, 1, 0, 0, 0, .inl 0), (.getfield 25, 3, 11, 6, 1, .inl 0), (.iload_n 1, 1, 1, 0, 0, .inl 0), (.iaload, 1, 20, 0, 0, .inl 0), (.sipush 999, 3, 0, 0, 0, .inl 999)] 75 91 _ _ _ (by decide +kernel) ?_
            refine And.intro (lm_t0 hT) (Exists.intro _ (And.intro (gRm (lm_r6 hT)) ?_))
            refine And.intro (lm_t6 hT) (Exists.intro _ (And.intro (lm_n6 hT) (And.intro (inb_in q10) ?_)))
            refine And.intro (lm_t0 hT) (Exists.intro _ (And.intro (gRm (lm_r6 hT)) ?_))
            refine And.intro (lm_t6 hT) (Exists.intro _ (And.intro (lm_n6 hT) (And.intro (inb_in q10) ?_)))
            show Go _ _ _ _ _ _ 91 [(0, rm 0), (1, vi l1)] [vi 999, vi (S.1 6 l1.toNatClampNeg), vi (S.1 6 l1.toNatClampNeg), vi l1, rm 6] (Y, (S, T)) _
            have key : ∀ z0 : Int32, z0 = ((if 999 ≤ (S.1 6 l1.toNatClampNeg) then 0 else 1) : Int32) → Go M11_leaves 2 0 0 0 0 99 [(0, rm 0), (1, vi l1)] [vi z0, vi (S.1 6 l1.toNatClampNeg), vi l1, rm 6] (Y, (S, T)) Q := by
              intro z0 ez0
              subst ez0
              refine go_blk rfl [(.iadd, 1, 0, 0, 0, .inl 0), (.iastore, 1, 20, 0, 0, .inl 0)] 99 101 _ _ _ (by decide +kernel) ?_
              refine And.intro (lm_t6 hT) (Exists.intro _ (And.intro (lm_n6 hT) (And.intro (inb_in q10) ?_)))
              show Go _ _ _ _ _ _ 101 [(0, rm 0), (1, vi l1)] [] (Y, (wI S 6 l1.toNatClampNeg ((S.1 6 l1.toNatClampNeg) + (((if 999 ≤ (S.1 6 l1.toNatClampNeg) then 0 else 1) : Int32))), T)) _
              refine gd_el h (fun q14 h => ?_)
              refine go_blk rfl [(.aload_n 0, 1, 0, 0, 0, .inl 0), (.getfield 22, 3, 11, 5, 1, .inl 0), (.iload_n 1, 1, 1, 0, 0, .inl 0), (.dup2, 1, 0, 0, 0, .inl 0), (.iaload, 1, 20, 0, 0, .inl 0), (.aload_n 0, 1, 0, 0, 0, .inl 0), (.getfield 13, 3, 11, 2, 1, .inl 0), (.iload_n 1, 1, 1, 0, 0, .inl 0), (.iaload, 1, 20, 0, 0, .inl 0), (.aload_n 0, 1, 0, 0, 0, .inl 0), (.getfield 28, 3, 11, 7, 1, .inl 0), (.aload_n 0, 1, 0, 0, 0, .inl 0), (.getfield 100, 3, 11, 39, 1, .inl 0), (.iload_n 1, 1, 1, 0, 0, .inl 0), (.iaload, 1, 20, 0, 0, .inl 0), (.iaload, 1, 20, 0, 0, .inl 0)] 101 125 _ _ _ (by decide +kernel) ?_
              refine And.intro (lm_t0 hT) (Exists.intro _ (And.intro (gRm (lm_r5 hT)) ?_))
              refine And.intro (lm_t5 hT) (Exists.intro _ (And.intro (lm_n5 hT) (And.intro (inb_in q10) ?_)))
              refine And.intro (lm_t0 hT) (Exists.intro _ (And.intro (gRm (lm_r2 hT)) ?_))
              refine And.intro (lm_t2 hT) (Exists.intro _ (And.intro (lm_n2 hT) (And.intro (inb_in q10) ?_)))
              refine And.intro (lm_t0 hT) (Exists.intro _ (And.intro (gRm (lm_r7 hT)) ?_))
              refine And.intro (lm_t0 hT) (Exists.intro _ (And.intro (gRm (lm_r39 hT)) ?_))
              refine And.intro (lm_t39 hT) (Exists.intro _ (And.intro (lm_n39 hT) (And.intro (inb_in q10) ?_)))
              refine And.intro (lm_t7 hT) (Exists.intro _ (And.intro (lm_n7 hT) (And.intro (inb_in q14) ?_)))
              show Go _ _ _ _ _ _ 125 [(0, rm 0), (1, vi l1)] [vi ((wI S 6 l1.toNatClampNeg ((S.1 6 l1.toNatClampNeg) + (((if 999 ≤ (S.1 6 l1.toNatClampNeg) then 0 else 1) : Int32)))).1 7 ((wI S 6 l1.toNatClampNeg ((S.1 6 l1.toNatClampNeg) + (((if 999 ≤ (S.1 6 l1.toNatClampNeg) then 0 else 1) : Int32)))).1 39 l1.toNatClampNeg).toNatClampNeg), vi ((wI S 6 l1.toNatClampNeg ((S.1 6 l1.toNatClampNeg) + (((if 999 ≤ (S.1 6 l1.toNatClampNeg) then 0 else 1) : Int32)))).1 2 l1.toNatClampNeg), vi ((wI S 6 l1.toNatClampNeg ((S.1 6 l1.toNatClampNeg) + (((if 999 ≤ (S.1 6 l1.toNatClampNeg) then 0 else 1) : Int32)))).1 5 l1.toNatClampNeg), vi l1, rm 5] (Y, (wI S 6 l1.toNatClampNeg ((S.1 6 l1.toNatClampNeg) + (((if 999 ≤ (S.1 6 l1.toNatClampNeg) then 0 else 1) : Int32))), T)) _
              obtain ⟨y5, hy5, h⟩ := bind_el h
              have key : Go M11_leaves 2 0 0 0 0 144 [(0, rm 0), (1, vi l1)] [vi y5, vi ((wI S 6 l1.toNatClampNeg ((S.1 6 l1.toNatClampNeg) + (((if 999 ≤ (S.1 6 l1.toNatClampNeg) then 0 else 1) : Int32)))).1 5 l1.toNatClampNeg), vi l1, rm 5] (Y, (wI S 6 l1.toNatClampNeg ((S.1 6 l1.toNatClampNeg) + (((if 999 ≤ (S.1 6 l1.toNatClampNeg) then 0 else 1) : Int32))), T)) Q := by
                refine go_blk rfl [(.iadd, 1, 0, 0, 0, .inl 0), (.iastore, 1, 20, 0, 0, .inl 0)] 144 146 _ _ _ (by decide +kernel) ?_
                refine And.intro (lm_t5 hT) (Exists.intro _ (And.intro (lm_n5 hT) (And.intro (inb_in q10) ?_)))
                show Go _ _ _ _ _ _ 146 [(0, rm 0), (1, vi l1)] [] (Y, (wI (wI S 6 l1.toNatClampNeg ((S.1 6 l1.toNatClampNeg) + (((if 999 ≤ (S.1 6 l1.toNatClampNeg) then 0 else 1) : Int32)))) 5 l1.toNatClampNeg (((wI S 6 l1.toNatClampNeg ((S.1 6 l1.toNatClampNeg) + (((if 999 ≤ (S.1 6 l1.toNatClampNeg) then 0 else 1) : Int32)))).1 5 l1.toNatClampNeg) + y5), T)) _
                refine gd_el h (fun q17 h => ?_)
                refine go_blk rfl [(.aload_n 0, 1, 0, 0, 0, .inl 0), (.getfield 13, 3, 11, 2, 1, .inl 0), (.iload_n 1, 1, 1, 0, 0, .inl 0), (.aload_n 0, 1, 0, 0, 0, .inl 0), (.getfield 28, 3, 11, 7, 1, .inl 0), (.aload_n 0, 1, 0, 0, 0, .inl 0), (.getfield 100, 3, 11, 39, 1, .inl 0), (.iload_n 1, 1, 1, 0, 0, .inl 0), (.iaload, 1, 20, 0, 0, .inl 0), (.iaload, 1, 20, 0, 0, .inl 0), (.iastore, 1, 20, 0, 0, .inl 0)] 146 163 _ _ _ (by decide +kernel) ?_
                refine And.intro (lm_t0 hT) (Exists.intro _ (And.intro (gRm (lm_r2 hT)) ?_))
                refine And.intro (lm_t0 hT) (Exists.intro _ (And.intro (gRm (lm_r7 hT)) ?_))
                refine And.intro (lm_t0 hT) (Exists.intro _ (And.intro (gRm (lm_r39 hT)) ?_))
                refine And.intro (lm_t39 hT) (Exists.intro _ (And.intro (lm_n39 hT) (And.intro (inb_in q10) ?_)))
                refine And.intro (lm_t7 hT) (Exists.intro _ (And.intro (lm_n7 hT) (And.intro (inb_in q17) ?_)))
                refine And.intro (lm_t2 hT) (Exists.intro _ (And.intro (lm_n2 hT) (And.intro (inb_in q10) ?_)))
                show Go _ _ _ _ _ _ 163 [(0, rm 0), (1, vi l1)] [] (Y, (wI (wI (wI S 6 l1.toNatClampNeg ((S.1 6 l1.toNatClampNeg) + (((if 999 ≤ (S.1 6 l1.toNatClampNeg) then 0 else 1) : Int32)))) 5 l1.toNatClampNeg (((wI S 6 l1.toNatClampNeg ((S.1 6 l1.toNatClampNeg) + (((if 999 ≤ (S.1 6 l1.toNatClampNeg) then 0 else 1) : Int32)))).1 5 l1.toNatClampNeg) + y5)) 2 l1.toNatClampNeg ((wI (wI S 6 l1.toNatClampNeg ((S.1 6 l1.toNatClampNeg) + (((if 999 ≤ (S.1 6 l1.toNatClampNeg) then 0 else 1) : Int32)))) 5 l1.toNatClampNeg (((wI S 6 l1.toNatClampNeg ((S.1 6 l1.toNatClampNeg) + (((if 999 ≤ (S.1 6 l1.toNatClampNeg) then 0 else 1) : Int32)))).1 5 l1.toNatClampNeg) + y5)).1 7 ((wI (wI S 6 l1.toNatClampNeg ((S.1 6 l1.toNatClampNeg) + (((if 999 ≤ (S.1 6 l1.toNatClampNeg) then 0 else 1) : Int32)))) 5 l1.toNatClampNeg (((wI S 6 l1.toNatClampNeg ((S.1 6 l1.toNatClampNeg) + (((if 999 ≤ (S.1 6 l1.toNatClampNeg) then 0 else 1) : Int32)))).1 5 l1.toNatClampNeg) + y5)).1 39 l1.toNatClampNeg).toNatClampNeg), T)) _
                obtain rfl := Option.some.inj h
                refine go_pick [0, 1] rfl ?_
                exact key
              replace h := hy5
              refine ite_el h (fun q15 h => ?_) (fun q15 h => ?_)
              · refine go_icmp_eq (off := 18) (tgt := 143) (by decide +kernel) (by decide) (fun _ => ?_) (fun z => absurd q15 z)
                refine go_blk rfl [(.iconst 0, 1, 0, 0, 0, .inl 0)] 143 144 _ _ _ (by decide +kernel) ?_
                show Go _ _ _ _ _ _ 144 [(0, rm 0), (1, vi l1)] [vi 0, vi ((wI S 6 l1.toNatClampNeg ((S.1 6 l1.toNatClampNeg) + (((if 999 ≤ (S.1 6 l1.toNatClampNeg) then 0 else 1) : Int32)))).1 5 l1.toNatClampNeg), vi l1, rm 5] (Y, (wI S 6 l1.toNatClampNeg ((S.1 6 l1.toNatClampNeg) + (((if 999 ≤ (S.1 6 l1.toNatClampNeg) then 0 else 1) : Int32))), T)) _
                obtain rfl := Option.some.inj h
                refine go_pick [0, 1] rfl ?_
                exact key
              · refine go_icmp_eq (off := 18) (tgt := 143) (by decide +kernel) (by decide) (fun z => absurd z q15) (fun _ => ?_)
                refine go_blk rfl [(.aload_n 0, 1, 0, 0, 0, .inl 0), (.getfield 22, 3, 11, 5, 1, .inl 0), (.iload_n 1, 1, 1, 0, 0, .inl 0), (.iaload, 1, 20, 0, 0, .inl 0), (.bipush 30, 2, 0, 0, 0, .inl 30)] 128 136 _ _ _ (by decide +kernel) ?_
                refine And.intro (lm_t0 hT) (Exists.intro _ (And.intro (gRm (lm_r5 hT)) ?_))
                refine And.intro (lm_t5 hT) (Exists.intro _ (And.intro (lm_n5 hT) (And.intro (inb_in q10) ?_)))
                show Go _ _ _ _ _ _ 136 [(0, rm 0), (1, vi l1)] [vi 30, vi ((wI S 6 l1.toNatClampNeg ((S.1 6 l1.toNatClampNeg) + (((if 999 ≤ (S.1 6 l1.toNatClampNeg) then 0 else 1) : Int32)))).1 5 l1.toNatClampNeg), vi ((wI S 6 l1.toNatClampNeg ((S.1 6 l1.toNatClampNeg) + (((if 999 ≤ (S.1 6 l1.toNatClampNeg) then 0 else 1) : Int32)))).1 5 l1.toNatClampNeg), vi l1, rm 5] (Y, (wI S 6 l1.toNatClampNeg ((S.1 6 l1.toNatClampNeg) + (((if 999 ≤ (S.1 6 l1.toNatClampNeg) then 0 else 1) : Int32))), T)) _
                refine ite_el h (fun q16 h => ?_) (fun q16 h => ?_)
                · refine go_icmp_ge (off := 7) (tgt := 143) (by decide +kernel) (by decide) (fun _ => ?_) (fun z => absurd q16 z)
                  refine go_blk rfl [(.iconst 0, 1, 0, 0, 0, .inl 0)] 143 144 _ _ _ (by decide +kernel) ?_
                  show Go _ _ _ _ _ _ 144 [(0, rm 0), (1, vi l1)] [vi 0, vi ((wI S 6 l1.toNatClampNeg ((S.1 6 l1.toNatClampNeg) + (((if 999 ≤ (S.1 6 l1.toNatClampNeg) then 0 else 1) : Int32)))).1 5 l1.toNatClampNeg), vi l1, rm 5] (Y, (wI S 6 l1.toNatClampNeg ((S.1 6 l1.toNatClampNeg) + (((if 999 ≤ (S.1 6 l1.toNatClampNeg) then 0 else 1) : Int32))), T)) _
                  obtain rfl := Option.some.inj h
                  refine go_pick [0, 1] rfl ?_
                  exact key
                · refine go_icmp_ge (off := 7) (tgt := 143) (by decide +kernel) (by decide) (fun z => absurd z q16) (fun _ => ?_)
                  refine go_blk rfl [(.iconst 1, 1, 0, 0, 0, .inl 1)] 139 140 _ _ _ (by decide +kernel) ?_
                  show Go _ _ _ _ _ _ 140 [(0, rm 0), (1, vi l1)] [vi 1, vi ((wI S 6 l1.toNatClampNeg ((S.1 6 l1.toNatClampNeg) + (((if 999 ≤ (S.1 6 l1.toNatClampNeg) then 0 else 1) : Int32)))).1 5 l1.toNatClampNeg), vi l1, rm 5] (Y, (wI S 6 l1.toNatClampNeg ((S.1 6 l1.toNatClampNeg) + (((if 999 ≤ (S.1 6 l1.toNatClampNeg) then 0 else 1) : Int32))), T)) _
                  refine go_goto (off := 4) (tgt := 144) (by decide +kernel) (by decide) ?_
                  obtain rfl := Option.some.inj h
                  refine go_pick [0, 1] rfl ?_
                  exact key
            clear h
            by_cases q13 : 999 ≤ (S.1 6 l1.toNatClampNeg)
            · refine go_icmp_ge (off := 7) (tgt := 98) (by decide +kernel) (by decide) (fun _ => ?_) (fun z => absurd q13 z)
              refine go_blk rfl [(.iconst 0, 1, 0, 0, 0, .inl 0)] 98 99 _ _ _ (by decide +kernel) ?_
              show Go _ _ _ _ _ _ 99 [(0, rm 0), (1, vi l1)] [vi 0, vi (S.1 6 l1.toNatClampNeg), vi l1, rm 6] (Y, (S, T)) _
              refine go_pick [0, 1] rfl ?_; exact key _ (by rw [if_pos q13])
            · refine go_icmp_ge (off := 7) (tgt := 98) (by decide +kernel) (by decide) (fun z => absurd z q13) (fun _ => ?_)
              refine go_blk rfl [(.iconst 1, 1, 0, 0, 0, .inl 1)] 94 95 _ _ _ (by decide +kernel) ?_
              show Go _ _ _ _ _ _ 95 [(0, rm 0), (1, vi l1)] [vi 1, vi (S.1 6 l1.toNatClampNeg), vi l1, rm 6] (Y, (S, T)) _
              refine go_goto (off := 4) (tgt := 99) (by decide +kernel) (by decide) ?_
              refine go_pick [0, 1] rfl ?_; exact key _ (by rw [if_neg q13])
theorem ret11_leaves {S : jS} {T : jT} {Y : jS × jT} {S1 : jS} {x : Unit} (hT : LayM T) (h : f11_leaves S = some (S1, x)) : Ret M11_leaves 2 0 0 [rm 0] (Y, (S, T)) (none) (Y, (S1, T)) := by
  refine Ret.of (by decide +kernel) (Nat.le_of_ble_eq_true rfl) ?_
  unfold f11_leaves at h
  show Go _ _ _ _ _ _ 0 [(0, rm 0)] [] (Y, (S, T)) _
  refine go_blk rfl [(.iconst 0, 1, 0, 0, 0, .inl 0), (.istore_n 1, 1, 1, 0, 0, .inl 0)] 0 2 _ _ _ (by decide +kernel) ?_
  show Go _ _ _ _ _ _ 2 [(1, vi 0), (0, rm 0)] [] (Y, (S, T)) _
  refine go_pick [1, 0] rfl ?_
  obtain ⟨y7, hy7, h⟩ := bind_el h
  refine f11_leaves_L1_ok hT _ _ _ _ hy7 ?_
  show Go _ _ _ _ _ _ 169 [] [] (Y, (y7, T)) _
  obtain ⟨rfl, rfl⟩ := Prod.mk.inj (Option.some.inj h)
  exact go_return (by decide +kernel) rfl ⟨rfl, rfl⟩
def f11_goes_L1  : Nat → jS → Int32 → Option jS
  | 0, _, _ => none
  | n + 1, S, l1 => (if (S.1 1 2) ≤ l1 then some S else Option.bind (f11_has (S.1 1 6) l1) (fun r3 => Option.bind (if r3 = 0 then (if inb l1 7 then some (S.1 2 l1.toNatClampNeg) else none) else Option.bind (f11_placeIn S l1 (S.1 1 4)) (fun r4 => some r4)) (fun (y5 : Int32) => (if inb l1 7 then f11_goes_L1 n (wI S 2 l1.toNatClampNeg y5) (l1 + 1) else none))))
def f11_goes (S : jS) : Option (jS × Int32) := Option.bind (f11_isDone S) (fun r1 => (if r1 = 0 then Option.bind (f11_beatsWanted S) (fun r2 => Option.bind (f11_goes_L1 jF (wI r2.1 1 4 r2.2) 0) (fun y6 => Option.bind (f11_sits y6) (fun r7 => Option.bind (f11_leaves r7.1) (fun r8 => some (wI (wI r8.1 1 7 ((r8.1.1 1 7) &&& (((1 : Int32) <<< ((r8.1.1 0 41) &&& 31)) ^^^ ((-1))))) 1 3 (((wI r8.1 1 7 ((r8.1.1 1 7) &&& (((1 : Int32) <<< ((r8.1.1 0 41) &&& 31)) ^^^ ((-1))))).1 1 3) + 1), (wI (wI r8.1 1 7 ((r8.1.1 1 7) &&& (((1 : Int32) <<< ((r8.1.1 0 41) &&& 31)) ^^^ ((-1))))) 1 3 (((wI r8.1 1 7 ((r8.1.1 1 7) &&& (((1 : Int32) <<< ((r8.1.1 0 41) &&& 31)) ^^^ ((-1))))).1 1 3) + 1)).1 1 6))))) else some (wI (wI S 1 4 0) 1 3 (((wI S 1 4 0).1 1 3) + 1), 0)))
theorem f11_goes_L1_ok {T : jT} {Y : jS × jT} {Q : Option jV → jMem → Prop} (hT : LayM T) : ∀ (n : Nat) (S : jS) (l1 : Int32) (r : jS), f11_goes_L1 n S l1 = some r → Go M11_goes 6 0 0 0 0 94 [(0, rm 0)] [] (Y, (r, T)) Q → Go M11_goes 6 0 0 0 0 38 [(0, rm 0), (1, vi l1)] [] (Y, (S, T)) Q := by
  intro n
  induction n with
  | zero => intro S l1 r h k; exact absurd h (by intro z; cases z)
  | succ n ih =>
    intro S l1 r h k
    rw [f11_goes_L1] at h
    refine go_blk rfl [(.iload_n 1, 1, 1, 0, 0, .inl 0), (.aload_n 0, 1, 0, 0, 0, .inl 0), (.getfield 9, 3, 11, 1, 1, .inl 0), (.iconst 2, 1, 0, 0, 0, .inl 2), (.iaload, 1, 20, 0, 0, .inl 0)] 38 45 _ _ _ (by decide +kernel) ?_
    refine And.intro (lm_t0 hT) (Exists.intro _ (And.intro (gRm (lm_r1 hT)) ?_))
    refine And.intro (lm_t1 hT) (Exists.intro _ (And.intro (lm_n1 hT) (And.intro (inb_in (by decide)) ?_)))
    show Go _ _ _ _ _ _ 45 [(0, rm 0), (1, vi l1)] [vi (S.1 1 2), vi l1] (Y, (S, T)) _
    refine ite_el h (fun q2 h => ?_) (fun q2 h => ?_)
    · refine go_icmp_ge (off := 49) (tgt := 94) (by decide +kernel) (by decide) (fun _ => ?_) (fun z => absurd q2 z)
      obtain rfl := Option.some.inj h
      refine go_pick [0] rfl ?_
      exact k
    · refine go_icmp_ge (off := 49) (tgt := 94) (by decide +kernel) (by decide) (fun z => absurd z q2) (fun _ => ?_)
      refine go_blk rfl [(.aload_n 0, 1, 0, 0, 0, .inl 0), (.getfield 13, 3, 11, 2, 1, .inl 0), (.iload_n 1, 1, 1, 0, 0, .inl 0), (.aload_n 0, 1, 0, 0, 0, .inl 0), (.getfield 9, 3, 11, 1, 1, .inl 0), (.bipush 6, 2, 0, 0, 0, .inl 6), (.iaload, 1, 20, 0, 0, .inl 0), (.iload_n 1, 1, 1, 0, 0, .inl 0)] 48 61 _ _ _ (by decide +kernel) ?_
      refine And.intro (lm_t0 hT) (Exists.intro _ (And.intro (gRm (lm_r2 hT)) ?_))
      refine And.intro (lm_t0 hT) (Exists.intro _ (And.intro (gRm (lm_r1 hT)) ?_))
      refine And.intro (lm_t1 hT) (Exists.intro _ (And.intro (lm_n1 hT) (And.intro (inb_in (by decide)) ?_)))
      show Go _ _ _ _ _ _ 61 [(0, rm 0), (1, vi l1)] [vi l1, vi (S.1 1 6), vi l1, rm 2] (Y, (S, T)) _
      obtain ⟨r3, hr3, h⟩ := bind_el h
      refine go_callS (idx := 148) (z := 0) (M' := M11_has) (n := 2) (A := [vi (S.1 1 6), vi l1]) (v' := some (vi r3)) (μ' := (Y, (S, T))) (d' := 1) (mc' := 0) (ms' := 0) (kc' := 0) (ks' := 0) (by decide +kernel) ml_11_148 rfl ws11_has rfl (ret11_has hr3) (by decide) rfl rfl (Nat.le_of_ble_eq_true rfl) rfl (jag rfl rfl) ?_
      show Go _ _ _ _ _ _ 64 [(0, rm 0), (1, vi l1)] [vi r3, vi l1, rm 2] (Y, (S, T)) _
      obtain ⟨y5, hy5, h⟩ := bind_el h
      have key : Go M11_goes 6 0 0 0 0 87 [(0, rm 0), (1, vi l1)] [vi y5, vi l1, rm 2] (Y, (S, T)) Q := by
        refine gd_el h (fun q5 h => ?_)
        refine go_blk rfl [(.iastore, 1, 20, 0, 0, .inl 0)] 87 88 _ _ _ (by decide +kernel) ?_
        refine And.intro (lm_t2 hT) (Exists.intro _ (And.intro (lm_n2 hT) (And.intro (inb_in q5) ?_)))
        show Go _ _ _ _ _ _ 88 [(0, rm 0), (1, vi l1)] [] (Y, (wI S 2 l1.toNatClampNeg y5, T)) _
        refine go_blk rfl [(.iinc 1 1, 3, 1, 0, 0, .inl 1)] 88 91 _ _ _ (by decide +kernel) ?_
        show Go _ _ _ _ _ _ 91 [(1, vi (l1 + 1)), (0, rm 0)] [] (Y, (wI S 2 l1.toNatClampNeg y5, T)) _
        refine go_goto (off := (-53)) (tgt := 38) (by decide +kernel) (by decide) ?_
        refine go_pick [1, 0] rfl ?_
        exact ih _ _ _ h k
      replace h := hy5
      refine ite_el h (fun q3 h => ?_) (fun q3 h => ?_)
      · refine go_if_eq (off := 17) (tgt := 81) (by decide +kernel) (by decide) (fun _ => ?_) (fun z => absurd q3 z)
        refine gd_el h (fun q4 h => ?_)
        refine go_blk rfl [(.aload_n 0, 1, 0, 0, 0, .inl 0), (.getfield 13, 3, 11, 2, 1, .inl 0), (.iload_n 1, 1, 1, 0, 0, .inl 0), (.iaload, 1, 20, 0, 0, .inl 0)] 81 87 _ _ _ (by decide +kernel) ?_
        refine And.intro (lm_t0 hT) (Exists.intro _ (And.intro (gRm (lm_r2 hT)) ?_))
        refine And.intro (lm_t2 hT) (Exists.intro _ (And.intro (lm_n2 hT) (And.intro (inb_in q4) ?_)))
        show Go _ _ _ _ _ _ 87 [(0, rm 0), (1, vi l1)] [vi (S.1 2 l1.toNatClampNeg), vi l1, rm 2] (Y, (S, T)) _
        obtain rfl := Option.some.inj h
        refine go_pick [0, 1] rfl ?_
        exact key
      · refine go_if_eq (off := 17) (tgt := 81) (by decide +kernel) (by decide) (fun z => absurd z q3) (fun _ => ?_)
        refine go_blk rfl [(.aload_n 0, 1, 0, 0, 0, .inl 0), (.iload_n 1, 1, 1, 0, 0, .inl 0), (.aload_n 0, 1, 0, 0, 0, .inl 0), (.getfield 9, 3, 11, 1, 1, .inl 0), (.iconst 4, 1, 0, 0, 0, .inl 4), (.iaload, 1, 20, 0, 0, .inl 0)] 67 75 _ _ _ (by decide +kernel) ?_
        refine And.intro (lm_t0 hT) (Exists.intro _ (And.intro (gRm (lm_r1 hT)) ?_))
        refine And.intro (lm_t1 hT) (Exists.intro _ (And.intro (lm_n1 hT) (And.intro (inb_in (by decide)) ?_)))
        show Go _ _ _ _ _ _ 75 [(0, rm 0), (1, vi l1)] [vi (S.1 1 4), vi l1, rm 0, vi l1, rm 2] (Y, (S, T)) _
        obtain ⟨r4, hr4, h⟩ := bind_el h
        refine go_callV (idx := 390) (z := 0) (M' := M11_placeIn) (n := 2) (A := [vi l1, vi (S.1 1 4)]) (v' := some (vi r4)) (μ' := (Y, (S, T))) (d' := 1) (mc' := 0) (ms' := 0) (kc' := 0) (ks' := 0) (ci := 11) (x := .inr (.inl 0)) (by decide +kernel) ml_11_390 rfl wv11_placeIn rfl (by decide) rfl (lm_t0 hT) (ret11_placeIn hT hr4) (by decide) rfl rfl (Nat.le_of_ble_eq_true rfl) rfl (jag rfl rfl) ?_
        show Go _ _ _ _ _ _ 78 [(0, rm 0), (1, vi l1)] [vi r4, vi l1, rm 2] (Y, (S, T)) _
        refine go_goto (off := 9) (tgt := 87) (by decide +kernel) (by decide) ?_
        obtain rfl := Option.some.inj h
        refine go_pick [0, 1] rfl ?_
        exact key
theorem ret11_goes {S : jS} {T : jT} {Y : jS × jT} {S1 : jS} {x : Int32} (hT : LayM T) (h : f11_goes S = some (S1, x)) : Ret M11_goes 6 0 0 [rm 0] (Y, (S, T)) (some (vi x)) (Y, (S1, T)) := by
  refine Ret.of (by decide +kernel) (Nat.le_of_ble_eq_true rfl) ?_
  unfold f11_goes at h
  show Go _ _ _ _ _ _ 0 [(0, rm 0)] [] (Y, (S, T)) _
  refine go_blk rfl [(.aload_n 0, 1, 0, 0, 0, .inl 0)] 0 1 _ _ _ (by decide +kernel) ?_
  show Go _ _ _ _ _ _ 1 [(0, rm 0)] [rm 0] (Y, (S, T)) _
  obtain ⟨r1, hr1, h⟩ := bind_el h
  refine go_callV (idx := 384) (z := 0) (M' := M11_isDone) (n := 0) (A := []) (v' := some (vi r1)) (μ' := (Y, (S, T))) (d' := 2) (mc' := 0) (ms' := 0) (kc' := 0) (ks' := 0) (ci := 11) (x := .inr (.inl 0)) (by decide +kernel) ml_11_384 rfl wv11_isDone rfl (by decide) rfl (lm_t0 hT) (ret11_isDone hT hr1) (by decide) rfl rfl (Nat.le_of_ble_eq_true rfl) rfl (jag rfl rfl) ?_
  show Go _ _ _ _ _ _ 4 [(0, rm 0)] [vi r1] (Y, (S, T)) _
  refine ite_el h (fun q1 h => ?_) (fun q1 h => ?_)
  · refine go_if_eq (off := 22) (tgt := 26) (by decide +kernel) (by decide) (fun _ => ?_) (fun z => absurd q1 z)
    refine go_blk rfl [(.aload_n 0, 1, 0, 0, 0, .inl 0), (.getfield 9, 3, 11, 1, 1, .inl 0), (.iconst 4, 1, 0, 0, 0, .inl 4), (.aload_n 0, 1, 0, 0, 0, .inl 0)] 26 32 _ _ _ (by decide +kernel) ?_
    refine And.intro (lm_t0 hT) (Exists.intro _ (And.intro (gRm (lm_r1 hT)) ?_))
    show Go _ _ _ _ _ _ 32 [(0, rm 0)] [rm 0, vi 4, rm 1] (Y, (S, T)) _
    obtain ⟨r2, hr2, h⟩ := bind_el h
    refine go_callV (idx := 387) (z := 0) (M' := M11_beatsWanted) (n := 0) (A := []) (v' := some (vi r2.2)) (μ' := (Y, (r2.1, T))) (d' := 5) (mc' := 0) (ms' := 0) (kc' := 0) (ks' := 0) (ci := 11) (x := .inr (.inl 0)) (by decide +kernel) ml_11_387 rfl wv11_beatsWanted rfl (by decide) rfl (lm_t0 hT) (ret11_beatsWanted hT hr2) (by decide) rfl rfl (Nat.le_of_ble_eq_true rfl) rfl (jag rfl rfl) ?_
    show Go _ _ _ _ _ _ 35 [(0, rm 0)] [vi r2.2, vi 4, rm 1] (Y, (r2.1, T)) _
    refine go_blk rfl [(.iastore, 1, 20, 0, 0, .inl 0)] 35 36 _ _ _ (by decide +kernel) ?_
    refine And.intro (lm_t1 hT) (Exists.intro _ (And.intro (lm_n1 hT) (And.intro (inb_in (by decide)) ?_)))
    show Go _ _ _ _ _ _ 36 [(0, rm 0)] [] (Y, (wI r2.1 1 4 r2.2, T)) _
    refine go_blk rfl [(.iconst 0, 1, 0, 0, 0, .inl 0), (.istore_n 1, 1, 1, 0, 0, .inl 0)] 36 38 _ _ _ (by decide +kernel) ?_
    show Go _ _ _ _ _ _ 38 [(1, vi 0), (0, rm 0)] [] (Y, (wI r2.1 1 4 r2.2, T)) _
    refine go_pick [1, 0] rfl ?_
    obtain ⟨y6, hy6, h⟩ := bind_el h
    refine f11_goes_L1_ok hT _ _ _ _ hy6 ?_
    show Go _ _ _ _ _ _ 94 [(0, rm 0)] [] (Y, (y6, T)) _
    refine go_blk rfl [(.aload_n 0, 1, 0, 0, 0, .inl 0)] 94 95 _ _ _ (by decide +kernel) ?_
    show Go _ _ _ _ _ _ 95 [(0, rm 0)] [rm 0] (Y, (y6, T)) _
    obtain ⟨r7, hr7, h⟩ := bind_el h
    refine go_callV (idx := 393) (z := 0) (M' := M11_sits) (n := 0) (A := []) (v' := none) (μ' := (Y, (r7.1, T))) (d' := 3) (mc' := 0) (ms' := 0) (kc' := 0) (ks' := 0) (ci := 11) (x := .inr (.inl 0)) (by decide +kernel) ml_11_393 rfl wv11_sits rfl (by decide) rfl (lm_t0 hT) (ret11_sits hT hr7) (by decide) rfl rfl (Nat.le_of_ble_eq_true rfl) rfl (jag rfl rfl) ?_
    show Go _ _ _ _ _ _ 98 [(0, rm 0)] [] (Y, (r7.1, T)) _
    refine go_blk rfl [(.aload_n 0, 1, 0, 0, 0, .inl 0)] 98 99 _ _ _ (by decide +kernel) ?_
    show Go _ _ _ _ _ _ 99 [(0, rm 0)] [rm 0] (Y, (r7.1, T)) _
    obtain ⟨r8, hr8, h⟩ := bind_el h
    refine go_callV (idx := 396) (z := 0) (M' := M11_leaves) (n := 0) (A := []) (v' := none) (μ' := (Y, (r8.1, T))) (d' := 2) (mc' := 0) (ms' := 0) (kc' := 0) (ks' := 0) (ci := 11) (x := .inr (.inl 0)) (by decide +kernel) ml_11_396 rfl wv11_leaves rfl (by decide) rfl (lm_t0 hT) (ret11_leaves hT hr8) (by decide) rfl rfl (Nat.le_of_ble_eq_true rfl) rfl (jag rfl rfl) ?_
    show Go _ _ _ _ _ _ 102 [(0, rm 0)] [] (Y, (r8.1, T)) _
    refine go_blk rfl [(.aload_n 0, 1, 0, 0, 0, .inl 0), (.getfield 9, 3, 11, 1, 1, .inl 0), (.bipush 7, 2, 0, 0, 0, .inl 7), (.dup2, 1, 0, 0, 0, .inl 0), (.iaload, 1, 20, 0, 0, .inl 0), (.iconst 1, 1, 0, 0, 0, .inl 1), (.aload_n 0, 1, 0, 0, 0, .inl 0), (.getfield 378, 3, 11, 41, 0, .inl 0), (.ishl, 1, 0, 0, 0, .inl 0), (.iconst (-1), 1, 0, 0, 0, .inl (-1)), (.ixor, 1, 0, 0, 0, .inl 0), (.iand, 1, 0, 0, 0, .inl 0), (.iastore, 1, 20, 0, 0, .inl 0)] 102 120 _ _ _ (by decide +kernel) ?_
    refine And.intro (lm_t0 hT) (Exists.intro _ (And.intro (gRm (lm_r1 hT)) ?_))
    refine And.intro (lm_t1 hT) (Exists.intro _ (And.intro (lm_n1 hT) (And.intro (inb_in (by decide)) ?_)))
    refine And.intro (lm_t0 hT) ?_
    refine And.intro (lm_t1 hT) (Exists.intro _ (And.intro (lm_n1 hT) (And.intro (inb_in (by decide)) ?_)))
    show Go _ _ _ _ _ _ 120 [(0, rm 0)] [] (Y, (wI r8.1 1 7 ((r8.1.1 1 7) &&& (((1 : Int32) <<< ((r8.1.1 0 41) &&& 31)) ^^^ ((-1)))), T)) _
    refine go_blk rfl [(.aload_n 0, 1, 0, 0, 0, .inl 0), (.getfield 9, 3, 11, 1, 1, .inl 0), (.iconst 3, 1, 0, 0, 0, .inl 3), (.dup2, 1, 0, 0, 0, .inl 0), (.iaload, 1, 20, 0, 0, .inl 0), (.iconst 1, 1, 0, 0, 0, .inl 1), (.iadd, 1, 0, 0, 0, .inl 0), (.iastore, 1, 20, 0, 0, .inl 0)] 120 130 _ _ _ (by decide +kernel) ?_
    refine And.intro (lm_t0 hT) (Exists.intro _ (And.intro (gRm (lm_r1 hT)) ?_))
    refine And.intro (lm_t1 hT) (Exists.intro _ (And.intro (lm_n1 hT) (And.intro (inb_in (by decide)) ?_)))
    refine And.intro (lm_t1 hT) (Exists.intro _ (And.intro (lm_n1 hT) (And.intro (inb_in (by decide)) ?_)))
    show Go _ _ _ _ _ _ 130 [(0, rm 0)] [] (Y, (wI (wI r8.1 1 7 ((r8.1.1 1 7) &&& (((1 : Int32) <<< ((r8.1.1 0 41) &&& 31)) ^^^ ((-1))))) 1 3 (((wI r8.1 1 7 ((r8.1.1 1 7) &&& (((1 : Int32) <<< ((r8.1.1 0 41) &&& 31)) ^^^ ((-1))))).1 1 3) + 1), T)) _
    refine go_blk rfl [(.aload_n 0, 1, 0, 0, 0, .inl 0), (.getfield 9, 3, 11, 1, 1, .inl 0), (.bipush 6, 2, 0, 0, 0, .inl 6), (.iaload, 1, 20, 0, 0, .inl 0)] 130 137 _ _ _ (by decide +kernel) ?_
    refine And.intro (lm_t0 hT) (Exists.intro _ (And.intro (gRm (lm_r1 hT)) ?_))
    refine And.intro (lm_t1 hT) (Exists.intro _ (And.intro (lm_n1 hT) (And.intro (inb_in (by decide)) ?_)))
    show Go _ _ _ _ _ _ 137 [(0, rm 0)] [vi ((wI (wI r8.1 1 7 ((r8.1.1 1 7) &&& (((1 : Int32) <<< ((r8.1.1 0 41) &&& 31)) ^^^ ((-1))))) 1 3 (((wI r8.1 1 7 ((r8.1.1 1 7) &&& (((1 : Int32) <<< ((r8.1.1 0 41) &&& 31)) ^^^ ((-1))))).1 1 3) + 1)).1 1 6)] (Y, (wI (wI r8.1 1 7 ((r8.1.1 1 7) &&& (((1 : Int32) <<< ((r8.1.1 0 41) &&& 31)) ^^^ ((-1))))) 1 3 (((wI r8.1 1 7 ((r8.1.1 1 7) &&& (((1 : Int32) <<< ((r8.1.1 0 41) &&& 31)) ^^^ ((-1))))).1 1 3) + 1), T)) _
    obtain ⟨rfl, rfl⟩ := Prod.mk.inj (Option.some.inj h)
    exact go_ireturn (by decide +kernel) rfl rfl ⟨rfl, rfl⟩
  · refine go_if_eq (off := 22) (tgt := 26) (by decide +kernel) (by decide) (fun z => absurd z q1) (fun _ => ?_)
    refine go_blk rfl [(.aload_n 0, 1, 0, 0, 0, .inl 0), (.getfield 9, 3, 11, 1, 1, .inl 0), (.iconst 4, 1, 0, 0, 0, .inl 4), (.iconst 0, 1, 0, 0, 0, .inl 0), (.iastore, 1, 20, 0, 0, .inl 0)] 7 14 _ _ _ (by decide +kernel) ?_
    refine And.intro (lm_t0 hT) (Exists.intro _ (And.intro (gRm (lm_r1 hT)) ?_))
    refine And.intro (lm_t1 hT) (Exists.intro _ (And.intro (lm_n1 hT) (And.intro (inb_in (by decide)) ?_)))
    show Go _ _ _ _ _ _ 14 [(0, rm 0)] [] (Y, (wI S 1 4 0, T)) _
    refine go_blk rfl [(.aload_n 0, 1, 0, 0, 0, .inl 0), (.getfield 9, 3, 11, 1, 1, .inl 0), (.iconst 3, 1, 0, 0, 0, .inl 3), (.dup2, 1, 0, 0, 0, .inl 0), (.iaload, 1, 20, 0, 0, .inl 0), (.iconst 1, 1, 0, 0, 0, .inl 1), (.iadd, 1, 0, 0, 0, .inl 0), (.iastore, 1, 20, 0, 0, .inl 0)] 14 24 _ _ _ (by decide +kernel) ?_
    refine And.intro (lm_t0 hT) (Exists.intro _ (And.intro (gRm (lm_r1 hT)) ?_))
    refine And.intro (lm_t1 hT) (Exists.intro _ (And.intro (lm_n1 hT) (And.intro (inb_in (by decide)) ?_)))
    refine And.intro (lm_t1 hT) (Exists.intro _ (And.intro (lm_n1 hT) (And.intro (inb_in (by decide)) ?_)))
    show Go _ _ _ _ _ _ 24 [(0, rm 0)] [] (Y, (wI (wI S 1 4 0) 1 3 (((wI S 1 4 0).1 1 3) + 1), T)) _
    refine go_blk rfl [(.iconst 0, 1, 0, 0, 0, .inl 0)] 24 25 _ _ _ (by decide +kernel) ?_
    show Go _ _ _ _ _ _ 25 [(0, rm 0)] [vi 0] (Y, (wI (wI S 1 4 0) 1 3 (((wI S 1 4 0).1 1 3) + 1), T)) _
    obtain ⟨rfl, rfl⟩ := Prod.mk.inj (Option.some.inj h)
    exact go_ireturn (by decide +kernel) rfl rfl ⟨rfl, rfl⟩
def f11_goFor_L1 (l1 : Int32) : Nat → jS → Int32 → Option jS
  | 0, _, _ => none
  | n + 1, S, l2 => (if l1 ≤ l2 then some S else Option.bind (f11_goes S) (fun r1 => f11_goFor_L1 l1 n r1.1 (l2 + 1)))
def f11_goFor (S : jS) (a0 : Int32) : Option (jS × Unit) := Option.bind (f11_goFor_L1 a0 jF S 0) (fun y2 => some (y2, ()))
theorem f11_goFor_L1_ok {T : jT} {Y : jS × jT} {l1 : Int32} {Q : Option jV → jMem → Prop} (hT : LayM T) : ∀ (n : Nat) (S : jS) (l2 : Int32) (r : jS), f11_goFor_L1 l1 n S l2 = some r → Go M11_goFor 7 0 0 0 0 18 [] [] (Y, (r, T)) Q → Go M11_goFor 7 0 0 0 0 2 [(0, rm 0), (1, vi l1), (2, vi l2)] [] (Y, (S, T)) Q := by
  intro n
  induction n with
  | zero => intro S l2 r h k; exact absurd h (by intro z; cases z)
  | succ n ih =>
    intro S l2 r h k
    rw [f11_goFor_L1] at h
    refine go_blk rfl [(.iload_n 2, 1, 2, 0, 0, .inl 0), (.iload_n 1, 1, 1, 0, 0, .inl 0)] 2 4 _ _ _ (by decide +kernel) ?_
    show Go _ _ _ _ _ _ 4 [(0, rm 0), (1, vi l1), (2, vi l2)] [vi l1, vi l2] (Y, (S, T)) _
    refine ite_el h (fun q1 h => ?_) (fun q1 h => ?_)
    · refine go_icmp_ge (off := 14) (tgt := 18) (by decide +kernel) (by decide) (fun _ => ?_) (fun z => absurd q1 z)
      obtain rfl := Option.some.inj h
      refine go_pick [] rfl ?_
      exact k
    · refine go_icmp_ge (off := 14) (tgt := 18) (by decide +kernel) (by decide) (fun z => absurd z q1) (fun _ => ?_)
      refine go_blk rfl [(.aload_n 0, 1, 0, 0, 0, .inl 0)] 7 8 _ _ _ (by decide +kernel) ?_
      show Go _ _ _ _ _ _ 8 [(0, rm 0), (1, vi l1), (2, vi l2)] [rm 0] (Y, (S, T)) _
      obtain ⟨r1, hr1, h⟩ := bind_el h
      refine go_callV (idx := 399) (z := 0) (M' := M11_goes) (n := 0) (A := []) (v' := some (vi r1.2)) (μ' := (Y, (r1.1, T))) (d' := 6) (mc' := 0) (ms' := 0) (kc' := 0) (ks' := 0) (ci := 11) (x := .inr (.inl 0)) (by decide +kernel) ml_11_399 rfl wv11_goes rfl (by decide) rfl (lm_t0 hT) (ret11_goes hT hr1) (by decide) rfl rfl (Nat.le_of_ble_eq_true rfl) rfl (jag rfl rfl) ?_
      show Go _ _ _ _ _ _ 11 [(0, rm 0), (1, vi l1), (2, vi l2)] [vi r1.2] (Y, (r1.1, T)) _
      refine go_blk rfl [(.pop, 1, 0, 0, 0, .inl 0), (.iinc 2 1, 3, 2, 0, 0, .inl 1)] 11 15 _ _ _ (by decide +kernel) ?_
      show Go _ _ _ _ _ _ 15 [(2, vi (l2 + 1)), (0, rm 0), (1, vi l1)] [] (Y, (r1.1, T)) _
      refine go_goto (off := (-13)) (tgt := 2) (by decide +kernel) (by decide) ?_
      refine go_pick [1, 2, 0] rfl ?_
      exact ih _ _ _ h k
theorem ret11_goFor {S : jS} {T : jT} {Y : jS × jT} {a0 : Int32} {S1 : jS} {x : Unit} (hT : LayM T) (h : f11_goFor S a0 = some (S1, x)) : Ret M11_goFor 7 0 0 [rm 0, vi a0] (Y, (S, T)) (none) (Y, (S1, T)) := by
  refine Ret.of (by decide +kernel) (Nat.le_of_ble_eq_true rfl) ?_
  unfold f11_goFor at h
  show Go _ _ _ _ _ _ 0 [(0, rm 0), (1, vi a0)] [] (Y, (S, T)) _
  refine go_blk rfl [(.iconst 0, 1, 0, 0, 0, .inl 0), (.istore_n 2, 1, 2, 0, 0, .inl 0)] 0 2 _ _ _ (by decide +kernel) ?_
  show Go _ _ _ _ _ _ 2 [(2, vi 0), (0, rm 0), (1, vi a0)] [] (Y, (S, T)) _
  refine go_pick [1, 2, 0] rfl ?_
  obtain ⟨y2, hy2, h⟩ := bind_el h
  refine f11_goFor_L1_ok hT _ _ _ _ hy2 ?_
  show Go _ _ _ _ _ _ 18 [] [] (Y, (y2, T)) _
  obtain ⟨rfl, rfl⟩ := Prod.mk.inj (Option.some.inj h)
  exact go_return (by decide +kernel) rfl ⟨rfl, rfl⟩
def f11_moves (S : jS) (a0 : Int32) : Option (jS × Int32) := Option.bind (if (S.1 0 46) = 0 then some a0 else (if inb (S.1 0 45) 800 then some (S.1 42 (S.1 0 45).toNatClampNeg) else none)) (fun (y1 : Int32) => (if inb (S.1 0 45) 800 then some (wI (wI S 42 (S.1 0 45).toNatClampNeg y1) 0 45 (((wI S 42 (S.1 0 45).toNatClampNeg y1).1 0 45) + 1), y1) else none))
theorem ret11_moves {S : jS} {T : jT} {Y : jS × jT} {a0 : Int32} {S1 : jS} {x : Int32} (hT : LayM T) (h : f11_moves S a0 = some (S1, x)) : Ret M11_moves 1 0 0 [rm 0, vi a0] (Y, (S, T)) (some (vi x)) (Y, (S1, T)) := by
  refine Ret.of (by decide +kernel) (Nat.le_of_ble_eq_true rfl) ?_
  unfold f11_moves at h
  show Go _ _ _ _ _ _ 0 [(0, rm 0), (1, vi a0)] [] (Y, (S, T)) _
  refine go_blk rfl [(.aload_n 0, 1, 0, 0, 0, .inl 0), (.getfield 402, 3, 11, 46, 2, .inl 0)] 0 4 _ _ _ (by decide +kernel) ?_
  refine And.intro (lm_t0 hT) ?_
  show Go _ _ _ _ _ _ 4 [(0, rm 0), (1, vi a0)] [vi (S.1 0 46)] (Y, (S, T)) _
  obtain ⟨y1, hy1, h⟩ := bind_el h
  have key : Go M11_moves 1 0 0 0 0 20 [(0, rm 0)] [vi y1] (Y, (S, T)) (eqQ (some (vi x)) (Y, (S1, T))) := by
    refine gd_el h (fun q3 h => ?_)
    refine go_blk rfl [(.istore_n 2, 1, 2, 0, 0, .inl 0), (.aload_n 0, 1, 0, 0, 0, .inl 0), (.getfield 106, 3, 11, 42, 1, .inl 0), (.aload_n 0, 1, 0, 0, 0, .inl 0), (.getfield 406, 3, 11, 45, 0, .inl 0), (.iload_n 2, 1, 2, 0, 0, .inl 0), (.iastore, 1, 20, 0, 0, .inl 0)] 20 31 _ _ _ (by decide +kernel) ?_
    refine And.intro (lm_t0 hT) (Exists.intro _ (And.intro (gRm (lm_r42 hT)) ?_))
    refine And.intro (lm_t0 hT) ?_
    refine And.intro (lm_t42 hT) (Exists.intro _ (And.intro (lm_n42 hT) (And.intro (inb_in q3) ?_)))
    show Go _ _ _ _ _ _ 31 [(2, vi y1), (0, rm 0)] [] (Y, (wI S 42 (S.1 0 45).toNatClampNeg y1, T)) _
    refine go_blk rfl [(.aload_n 0, 1, 0, 0, 0, .inl 0), (.dup, 1, 0, 0, 0, .inl 0), (.getfield 406, 3, 11, 45, 0, .inl 0), (.iconst 1, 1, 0, 0, 0, .inl 1), (.iadd, 1, 0, 0, 0, .inl 0), (.putfield 406, 3, 11, 45, 0, .inl 0)] 31 41 _ _ _ (by decide +kernel) ?_
    refine And.intro (lm_t0 hT) ?_
    refine And.intro (lm_t0 hT) (And.intro trivial ?_)
    show Go _ _ _ _ _ _ 41 [(2, vi y1), (0, rm 0)] [] (Y, (wI (wI S 42 (S.1 0 45).toNatClampNeg y1) 0 45 (((wI S 42 (S.1 0 45).toNatClampNeg y1).1 0 45) + 1), T)) _
    refine go_blk rfl [(.iload_n 2, 1, 2, 0, 0, .inl 0)] 41 42 _ _ _ (by decide +kernel) ?_
    show Go _ _ _ _ _ _ 42 [(2, vi y1), (0, rm 0)] [vi y1] (Y, (wI (wI S 42 (S.1 0 45).toNatClampNeg y1) 0 45 (((wI S 42 (S.1 0 45).toNatClampNeg y1).1 0 45) + 1), T)) _
    obtain ⟨rfl, rfl⟩ := Prod.mk.inj (Option.some.inj h)
    exact go_ireturn (by decide +kernel) rfl rfl ⟨rfl, rfl⟩
  replace h := hy1
  refine ite_el h (fun q1 h => ?_) (fun q1 h => ?_)
  · refine go_if_eq (off := 15) (tgt := 19) (by decide +kernel) (by decide) (fun _ => ?_) (fun z => absurd q1 z)
    refine go_blk rfl [(.iload_n 1, 1, 1, 0, 0, .inl 0)] 19 20 _ _ _ (by decide +kernel) ?_
    show Go _ _ _ _ _ _ 20 [(0, rm 0), (1, vi a0)] [vi a0] (Y, (S, T)) _
    obtain rfl := Option.some.inj h
    refine go_pick [0] rfl ?_
    exact key
  · refine go_if_eq (off := 15) (tgt := 19) (by decide +kernel) (by decide) (fun z => absurd z q1) (fun _ => ?_)
    refine gd_el h (fun q2 h => ?_)
    refine go_blk rfl [(.aload_n 0, 1, 0, 0, 0, .inl 0), (.getfield 106, 3, 11, 42, 1, .inl 0), (.aload_n 0, 1, 0, 0, 0, .inl 0), (.getfield 406, 3, 11, 45, 0, .inl 0), (.iaload, 1, 20, 0, 0, .inl 0)] 7 16 _ _ _ (by decide +kernel) ?_
    refine And.intro (lm_t0 hT) (Exists.intro _ (And.intro (gRm (lm_r42 hT)) ?_))
    refine And.intro (lm_t0 hT) ?_
    refine And.intro (lm_t42 hT) (Exists.intro _ (And.intro (lm_n42 hT) (And.intro (inb_in q2) ?_)))
    show Go _ _ _ _ _ _ 16 [(0, rm 0), (1, vi a0)] [vi (S.1 42 (S.1 0 45).toNatClampNeg)] (Y, (S, T)) _
    refine go_goto (off := 4) (tgt := 20) (by decide +kernel) (by decide) ?_
    obtain rfl := Option.some.inj h
    refine go_pick [0] rfl ?_
    exact key
def f11_movesRow_L1 (a0 : Nat) (n0 : Nat) : Nat → jS → Int32 → Option jS
  | 0, _, _ => none
  | n + 1, S, l2 => (if (nI n0) ≤ l2 then some S else (if inb l2 n0 then Option.bind (f11_moves S (S.1 a0 l2.toNatClampNeg)) (fun r1 => f11_movesRow_L1 a0 n0 n (wI r1.1 a0 l2.toNatClampNeg r1.2) (l2 + 1)) else none))
def f11_movesRow (S : jS) (a0 : Nat) (n0 : Nat) : Option (jS × Unit) := Option.bind (f11_movesRow_L1 a0 n0 jF S 0) (fun y2 => some (y2, ()))
theorem f11_movesRow_L1_ok {T : jT} {Y : jS × jT} {a0 : Nat} {n0 : Nat} {Q : Option jV → jMem → Prop} (hT : LayM T) (h0 : T.2.1 a0 = 20 ∧ T.2.2.1 a0 = n0) : ∀ (n : Nat) (S : jS) (l2 : Int32) (r : jS), f11_movesRow_L1 a0 n0 n S l2 = some r → Go M11_movesRow 2 0 0 0 0 24 [] [] (Y, (r, T)) Q → Go M11_movesRow 2 0 0 0 0 2 [(0, rm 0), (1, rm a0), (2, vi l2)] [] (Y, (S, T)) Q := by
  intro n
  induction n with
  | zero => intro S l2 r h k; exact absurd h (by intro z; cases z)
  | succ n ih =>
    intro S l2 r h k
    rw [f11_movesRow_L1] at h
    refine go_blk rfl [(.iload_n 2, 1, 2, 0, 0, .inl 0), (.aload_n 1, 1, 1, 0, 0, .inl 0), (.arraylength, 1, 20, 0, 0, .inl 0)] 2 5 _ _ _ (by decide +kernel) ?_
    refine And.intro h0.1 (Exists.intro _ (And.intro h0.2 ?_))
    show Go _ _ _ _ _ _ 5 [(0, rm 0), (1, rm a0), (2, vi l2)] [vi (nI n0), vi l2] (Y, (S, T)) _
    refine ite_el h (fun q1 h => ?_) (fun q1 h => ?_)
    · refine go_icmp_ge (off := 19) (tgt := 24) (by decide +kernel) (by decide) (fun _ => ?_) (fun z => absurd q1 z)
      obtain rfl := Option.some.inj h
      refine go_pick [] rfl ?_
      exact k
    · refine go_icmp_ge (off := 19) (tgt := 24) (by decide +kernel) (by decide) (fun z => absurd z q1) (fun _ => ?_)
      refine gd_el h (fun q2 h => ?_)
      refine go_blk rfl [(.aload_n 1, 1, 1, 0, 0, .inl 0), (.iload_n 2, 1, 2, 0, 0, .inl 0), (.aload_n 0, 1, 0, 0, 0, .inl 0), (.aload_n 1, 1, 1, 0, 0, .inl 0), (.iload_n 2, 1, 2, 0, 0, .inl 0), (.iaload, 1, 20, 0, 0, .inl 0)] 8 14 _ _ _ (by decide +kernel) ?_
      refine And.intro h0.1 (Exists.intro _ (And.intro h0.2 (And.intro (inb_in q2) ?_)))
      show Go _ _ _ _ _ _ 14 [(0, rm 0), (1, rm a0), (2, vi l2)] [vi (S.1 a0 l2.toNatClampNeg), rm 0, vi l2, rm a0] (Y, (S, T)) _
      obtain ⟨r1, hr1, h⟩ := bind_el h
      refine go_callV (idx := 409) (z := 0) (M' := M11_moves) (n := 1) (A := [vi (S.1 a0 l2.toNatClampNeg)]) (v' := some (vi r1.2)) (μ' := (Y, (r1.1, T))) (d' := 1) (mc' := 0) (ms' := 0) (kc' := 0) (ks' := 0) (ci := 11) (x := .inr (.inl 0)) (by decide +kernel) ml_11_409 rfl wv11_moves rfl (by decide) rfl (lm_t0 hT) (ret11_moves hT hr1) (by decide) rfl rfl (Nat.le_of_ble_eq_true rfl) rfl (jag rfl rfl) ?_
      show Go _ _ _ _ _ _ 17 [(0, rm 0), (1, rm a0), (2, vi l2)] [vi r1.2, vi l2, rm a0] (Y, (r1.1, T)) _
      refine go_blk rfl [(.iastore, 1, 20, 0, 0, .inl 0)] 17 18 _ _ _ (by decide +kernel) ?_
      refine And.intro h0.1 (Exists.intro _ (And.intro h0.2 (And.intro (inb_in q2) ?_)))
      show Go _ _ _ _ _ _ 18 [(0, rm 0), (1, rm a0), (2, vi l2)] [] (Y, (wI r1.1 a0 l2.toNatClampNeg r1.2, T)) _
      refine go_blk rfl [(.iinc 2 1, 3, 2, 0, 0, .inl 1)] 18 21 _ _ _ (by decide +kernel) ?_
      show Go _ _ _ _ _ _ 21 [(2, vi (l2 + 1)), (0, rm 0), (1, rm a0)] [] (Y, (wI r1.1 a0 l2.toNatClampNeg r1.2, T)) _
      refine go_goto (off := (-19)) (tgt := 2) (by decide +kernel) (by decide) ?_
      refine go_pick [1, 2, 0] rfl ?_
      exact ih _ _ _ h k
theorem ret11_movesRow {S : jS} {T : jT} {Y : jS × jT} {a0 : Nat} {n0 : Nat} {S1 : jS} {x : Unit} (hT : LayM T) (h0 : T.2.1 a0 = 20 ∧ T.2.2.1 a0 = n0) (h : f11_movesRow S a0 n0 = some (S1, x)) : Ret M11_movesRow 2 0 0 [rm 0, rm a0] (Y, (S, T)) (none) (Y, (S1, T)) := by
  refine Ret.of (by decide +kernel) (Nat.le_of_ble_eq_true rfl) ?_
  unfold f11_movesRow at h
  show Go _ _ _ _ _ _ 0 [(0, rm 0), (1, rm a0)] [] (Y, (S, T)) _
  refine go_blk rfl [(.iconst 0, 1, 0, 0, 0, .inl 0), (.istore_n 2, 1, 2, 0, 0, .inl 0)] 0 2 _ _ _ (by decide +kernel) ?_
  show Go _ _ _ _ _ _ 2 [(2, vi 0), (0, rm 0), (1, rm a0)] [] (Y, (S, T)) _
  refine go_pick [1, 2, 0] rfl ?_
  obtain ⟨y2, hy2, h⟩ := bind_el h
  refine f11_movesRow_L1_ok hT h0 _ _ _ _ hy2 ?_
  show Go _ _ _ _ _ _ 24 [] [] (Y, (y2, T)) _
  obtain ⟨rfl, rfl⟩ := Prod.mk.inj (Option.some.inj h)
  exact go_return (by decide +kernel) rfl ⟨rfl, rfl⟩
def f11_movesAll_L1  : Nat → jS → Int32 → Option jS
  | 0, _, _ => none
  | n + 1, S, l3 => (if 7 < l3 then some S else (if inb l3 11 then Option.bind (f11_moves S (S.1 1 l3.toNatClampNeg)) (fun r1 => f11_movesAll_L1 n (wI r1.1 1 l3.toNatClampNeg r1.2) (l3 + 1)) else none))
def f11_movesAll (S : jS) (a0 : Int32) (a1 : Int32) : Option (jS × Unit) := (if a1 = 0 ∨ a1 = 1 then Option.bind (f11_movesAll_L1 jF (wI (wI S 0 45 (40 * a0)) 0 46 a1) 3) (fun y2 => Option.bind (f11_movesRow y2 2 7) (fun r3 => Option.bind (f11_movesRow r3.1 3 7) (fun r4 => Option.bind (f11_movesRow r4.1 4 7) (fun r5 => Option.bind (f11_movesRow r5.1 5 7) (fun r6 => Option.bind (f11_movesRow r6.1 6 7) (fun r7 => some (r7.1, ()))))))) else none)
theorem f11_movesAll_L1_ok {T : jT} {Y : jS × jT} {Q : Option jV → jMem → Prop} (hT : LayM T) : ∀ (n : Nat) (S : jS) (l3 : Int32) (r : jS), f11_movesAll_L1 n S l3 = some r → Go M11_movesAll 3 0 0 0 0 43 [(0, rm 0)] [] (Y, (r, T)) Q → Go M11_movesAll 3 0 0 0 0 15 [(0, rm 0), (3, vi l3)] [] (Y, (S, T)) Q := by
  intro n
  induction n with
  | zero => intro S l3 r h k; exact absurd h (by intro z; cases z)
  | succ n ih =>
    intro S l3 r h k
    rw [f11_movesAll_L1] at h
    refine go_blk rfl [(.iload_n 3, 1, 3, 0, 0, .inl 0), (.bipush 7, 2, 0, 0, 0, .inl 7)] 15 18 _ _ _ (by decide +kernel) ?_
    show Go _ _ _ _ _ _ 18 [(0, rm 0), (3, vi l3)] [vi 7, vi l3] (Y, (S, T)) _
    refine ite_el h (fun q2 h => ?_) (fun q2 h => ?_)
    · refine go_icmp_gt (off := 25) (tgt := 43) (by decide +kernel) (by decide) (fun _ => ?_) (fun z => absurd q2 z)
      obtain rfl := Option.some.inj h
      refine go_pick [0] rfl ?_
      exact k
    · refine go_icmp_gt (off := 25) (tgt := 43) (by decide +kernel) (by decide) (fun z => absurd z q2) (fun _ => ?_)
      refine gd_el h (fun q3 h => ?_)
      refine go_blk rfl [(.aload_n 0, 1, 0, 0, 0, .inl 0), (.getfield 9, 3, 11, 1, 1, .inl 0), (.iload_n 3, 1, 3, 0, 0, .inl 0), (.aload_n 0, 1, 0, 0, 0, .inl 0), (.aload_n 0, 1, 0, 0, 0, .inl 0), (.getfield 9, 3, 11, 1, 1, .inl 0), (.iload_n 3, 1, 3, 0, 0, .inl 0), (.iaload, 1, 20, 0, 0, .inl 0)] 21 33 _ _ _ (by decide +kernel) ?_
      refine And.intro (lm_t0 hT) (Exists.intro _ (And.intro (gRm (lm_r1 hT)) ?_))
      refine And.intro (lm_t0 hT) (Exists.intro _ (And.intro (gRm (lm_r1 hT)) ?_))
      refine And.intro (lm_t1 hT) (Exists.intro _ (And.intro (lm_n1 hT) (And.intro (inb_in q3) ?_)))
      show Go _ _ _ _ _ _ 33 [(0, rm 0), (3, vi l3)] [vi (S.1 1 l3.toNatClampNeg), rm 0, vi l3, rm 1] (Y, (S, T)) _
      obtain ⟨r1, hr1, h⟩ := bind_el h
      refine go_callV (idx := 409) (z := 0) (M' := M11_moves) (n := 1) (A := [vi (S.1 1 l3.toNatClampNeg)]) (v' := some (vi r1.2)) (μ' := (Y, (r1.1, T))) (d' := 1) (mc' := 0) (ms' := 0) (kc' := 0) (ks' := 0) (ci := 11) (x := .inr (.inl 0)) (by decide +kernel) ml_11_409 rfl wv11_moves rfl (by decide) rfl (lm_t0 hT) (ret11_moves hT hr1) (by decide) rfl rfl (Nat.le_of_ble_eq_true rfl) rfl (jag rfl rfl) ?_
      show Go _ _ _ _ _ _ 36 [(0, rm 0), (3, vi l3)] [vi r1.2, vi l3, rm 1] (Y, (r1.1, T)) _
      refine go_blk rfl [(.iastore, 1, 20, 0, 0, .inl 0)] 36 37 _ _ _ (by decide +kernel) ?_
      refine And.intro (lm_t1 hT) (Exists.intro _ (And.intro (lm_n1 hT) (And.intro (inb_in q3) ?_)))
      show Go _ _ _ _ _ _ 37 [(0, rm 0), (3, vi l3)] [] (Y, (wI r1.1 1 l3.toNatClampNeg r1.2, T)) _
      refine go_blk rfl [(.iinc 3 1, 3, 3, 0, 0, .inl 1)] 37 40 _ _ _ (by decide +kernel) ?_
      show Go _ _ _ _ _ _ 40 [(3, vi (l3 + 1)), (0, rm 0)] [] (Y, (wI r1.1 1 l3.toNatClampNeg r1.2, T)) _
      refine go_goto (off := (-25)) (tgt := 15) (by decide +kernel) (by decide) ?_
      refine go_pick [1, 0] rfl ?_
      exact ih _ _ _ h k
theorem ret11_movesAll {S : jS} {T : jT} {Y : jS × jT} {a0 : Int32} {a1 : Int32} {S1 : jS} {x : Unit} (hT : LayM T) (h : f11_movesAll S a0 a1 = some (S1, x)) : Ret M11_movesAll 3 0 0 [rm 0, vi a0, vi a1] (Y, (S, T)) (none) (Y, (S1, T)) := by
  refine Ret.of (by decide +kernel) (Nat.le_of_ble_eq_true rfl) ?_
  unfold f11_movesAll at h
  show Go _ _ _ _ _ _ 0 [(0, rm 0), (1, vi a0), (2, vi a1)] [] (Y, (S, T)) _
  refine go_blk rfl [(.aload_n 0, 1, 0, 0, 0, .inl 0), (.bipush 40, 2, 0, 0, 0, .inl 40), (.iload_n 1, 1, 1, 0, 0, .inl 0), (.imul, 1, 0, 0, 0, .inl 0), (.putfield 406, 3, 11, 45, 0, .inl 0)] 0 8 _ _ _ (by decide +kernel) ?_
  refine And.intro (lm_t0 hT) (And.intro trivial ?_)
  show Go _ _ _ _ _ _ 8 [(0, rm 0), (1, vi a0), (2, vi a1)] [] (Y, (wI S 0 45 (40 * a0), T)) _
  refine gd_el h (fun q1 h => ?_)
  refine go_blk rfl [(.aload_n 0, 1, 0, 0, 0, .inl 0), (.iload_n 2, 1, 2, 0, 0, .inl 0), (.putfield 402, 3, 11, 46, 2, .inl 0)] 8 13 _ _ _ (by decide +kernel) ?_
  refine And.intro (lm_t0 hT) (And.intro ⟨rfl, q1⟩ ?_)
  show Go _ _ _ _ _ _ 13 [(0, rm 0), (1, vi a0), (2, vi a1)] [] (Y, (wI (wI S 0 45 (40 * a0)) 0 46 a1, T)) _
  refine go_blk rfl [(.iconst 3, 1, 0, 0, 0, .inl 3), (.istore_n 3, 1, 3, 0, 0, .inl 0)] 13 15 _ _ _ (by decide +kernel) ?_
  show Go _ _ _ _ _ _ 15 [(3, vi 3), (0, rm 0), (1, vi a0), (2, vi a1)] [] (Y, (wI (wI S 0 45 (40 * a0)) 0 46 a1, T)) _
  refine go_pick [1, 0] rfl ?_
  obtain ⟨y2, hy2, h⟩ := bind_el h
  refine f11_movesAll_L1_ok hT _ _ _ _ hy2 ?_
  show Go _ _ _ _ _ _ 43 [(0, rm 0)] [] (Y, (y2, T)) _
  refine go_blk rfl [(.aload_n 0, 1, 0, 0, 0, .inl 0), (.aload_n 0, 1, 0, 0, 0, .inl 0), (.getfield 13, 3, 11, 2, 1, .inl 0)] 43 48 _ _ _ (by decide +kernel) ?_
  refine And.intro (lm_t0 hT) (Exists.intro _ (And.intro (gRm (lm_r2 hT)) ?_))
  show Go _ _ _ _ _ _ 48 [(0, rm 0)] [rm 2, rm 0] (Y, (y2, T)) _
  obtain ⟨r3, hr3, h⟩ := bind_el h
  refine go_callV (idx := 412) (z := 0) (M' := M11_movesRow) (n := 1) (A := [rm 2]) (v' := none) (μ' := (Y, (r3.1, T))) (d' := 2) (mc' := 0) (ms' := 0) (kc' := 0) (ks' := 0) (ci := 11) (x := .inr (.inl 0)) (by decide +kernel) ml_11_412 rfl wv11_movesRow rfl (by decide) rfl (lm_t0 hT) (ret11_movesRow hT ⟨(lm_t2 hT), (lm_n2 hT)⟩ hr3) (by decide) rfl rfl (Nat.le_of_ble_eq_true rfl) rfl (jag rfl rfl) ?_
  show Go _ _ _ _ _ _ 51 [(0, rm 0)] [] (Y, (r3.1, T)) _
  refine go_blk rfl [(.aload_n 0, 1, 0, 0, 0, .inl 0), (.aload_n 0, 1, 0, 0, 0, .inl 0), (.getfield 16, 3, 11, 3, 1, .inl 0)] 51 56 _ _ _ (by decide +kernel) ?_
  refine And.intro (lm_t0 hT) (Exists.intro _ (And.intro (gRm (lm_r3 hT)) ?_))
  show Go _ _ _ _ _ _ 56 [(0, rm 0)] [rm 3, rm 0] (Y, (r3.1, T)) _
  obtain ⟨r4, hr4, h⟩ := bind_el h
  refine go_callV (idx := 412) (z := 0) (M' := M11_movesRow) (n := 1) (A := [rm 3]) (v' := none) (μ' := (Y, (r4.1, T))) (d' := 2) (mc' := 0) (ms' := 0) (kc' := 0) (ks' := 0) (ci := 11) (x := .inr (.inl 0)) (by decide +kernel) ml_11_412 rfl wv11_movesRow rfl (by decide) rfl (lm_t0 hT) (ret11_movesRow hT ⟨(lm_t3 hT), (lm_n3 hT)⟩ hr4) (by decide) rfl rfl (Nat.le_of_ble_eq_true rfl) rfl (jag rfl rfl) ?_
  show Go _ _ _ _ _ _ 59 [(0, rm 0)] [] (Y, (r4.1, T)) _
  refine go_blk rfl [(.aload_n 0, 1, 0, 0, 0, .inl 0), (.aload_n 0, 1, 0, 0, 0, .inl 0), (.getfield 19, 3, 11, 4, 1, .inl 0)] 59 64 _ _ _ (by decide +kernel) ?_
  refine And.intro (lm_t0 hT) (Exists.intro _ (And.intro (gRm (lm_r4 hT)) ?_))
  show Go _ _ _ _ _ _ 64 [(0, rm 0)] [rm 4, rm 0] (Y, (r4.1, T)) _
  obtain ⟨r5, hr5, h⟩ := bind_el h
  refine go_callV (idx := 412) (z := 0) (M' := M11_movesRow) (n := 1) (A := [rm 4]) (v' := none) (μ' := (Y, (r5.1, T))) (d' := 2) (mc' := 0) (ms' := 0) (kc' := 0) (ks' := 0) (ci := 11) (x := .inr (.inl 0)) (by decide +kernel) ml_11_412 rfl wv11_movesRow rfl (by decide) rfl (lm_t0 hT) (ret11_movesRow hT ⟨(lm_t4 hT), (lm_n4 hT)⟩ hr5) (by decide) rfl rfl (Nat.le_of_ble_eq_true rfl) rfl (jag rfl rfl) ?_
  show Go _ _ _ _ _ _ 67 [(0, rm 0)] [] (Y, (r5.1, T)) _
  refine go_blk rfl [(.aload_n 0, 1, 0, 0, 0, .inl 0), (.aload_n 0, 1, 0, 0, 0, .inl 0), (.getfield 22, 3, 11, 5, 1, .inl 0)] 67 72 _ _ _ (by decide +kernel) ?_
  refine And.intro (lm_t0 hT) (Exists.intro _ (And.intro (gRm (lm_r5 hT)) ?_))
  show Go _ _ _ _ _ _ 72 [(0, rm 0)] [rm 5, rm 0] (Y, (r5.1, T)) _
  obtain ⟨r6, hr6, h⟩ := bind_el h
  refine go_callV (idx := 412) (z := 0) (M' := M11_movesRow) (n := 1) (A := [rm 5]) (v' := none) (μ' := (Y, (r6.1, T))) (d' := 2) (mc' := 0) (ms' := 0) (kc' := 0) (ks' := 0) (ci := 11) (x := .inr (.inl 0)) (by decide +kernel) ml_11_412 rfl wv11_movesRow rfl (by decide) rfl (lm_t0 hT) (ret11_movesRow hT ⟨(lm_t5 hT), (lm_n5 hT)⟩ hr6) (by decide) rfl rfl (Nat.le_of_ble_eq_true rfl) rfl (jag rfl rfl) ?_
  show Go _ _ _ _ _ _ 75 [(0, rm 0)] [] (Y, (r6.1, T)) _
  refine go_blk rfl [(.aload_n 0, 1, 0, 0, 0, .inl 0), (.aload_n 0, 1, 0, 0, 0, .inl 0), (.getfield 25, 3, 11, 6, 1, .inl 0)] 75 80 _ _ _ (by decide +kernel) ?_
  refine And.intro (lm_t0 hT) (Exists.intro _ (And.intro (gRm (lm_r6 hT)) ?_))
  show Go _ _ _ _ _ _ 80 [(0, rm 0)] [rm 6, rm 0] (Y, (r6.1, T)) _
  obtain ⟨r7, hr7, h⟩ := bind_el h
  refine go_callV (idx := 412) (z := 0) (M' := M11_movesRow) (n := 1) (A := [rm 6]) (v' := none) (μ' := (Y, (r7.1, T))) (d' := 2) (mc' := 0) (ms' := 0) (kc' := 0) (ks' := 0) (ci := 11) (x := .inr (.inl 0)) (by decide +kernel) ml_11_412 rfl wv11_movesRow rfl (by decide) rfl (lm_t0 hT) (ret11_movesRow hT ⟨(lm_t6 hT), (lm_n6 hT)⟩ hr7) (by decide) rfl rfl (Nat.le_of_ble_eq_true rfl) rfl (jag rfl rfl) ?_
  show Go _ _ _ _ _ _ 83 [(0, rm 0)] [] (Y, (r7.1, T)) _
  obtain ⟨rfl, rfl⟩ := Prod.mk.inj (Option.some.inj h)
  exact go_return (by decide +kernel) rfl ⟨rfl, rfl⟩
def f11_keepsAct_L1  : Nat → jS → Int32 → Option jS
  | 0, _, _ => none
  | n + 1, S, l1 => (if 800 ≤ l1 then some S else (if inb l1 800 then (if inb (l1 - 40) 800 then f11_keepsAct_L1 n (wI S 42 (l1 - 40).toNatClampNeg (S.1 42 l1.toNatClampNeg)) (l1 + 1) else none) else none))
def f11_keepsAct (S : jS) : Option (jS × Unit) := Option.bind (if (S.1 0 44) = 20 then Option.bind (f11_keepsAct_L1 jF S 40) (fun y1 => some (wI y1 0 44 ((y1.1 0 44) - 1))) else some S) (fun (y2 : jS) => Option.bind (f11_movesAll y2 (y2.1 0 44) 0) (fun r3 => some (wI r3.1 0 44 ((r3.1.1 0 44) + 1), ())))
theorem f11_keepsAct_L1_ok {T : jT} {Y : jS × jT} {Q : Option jV → jMem → Prop} (hT : LayM T) : ∀ (n : Nat) (S : jS) (l1 : Int32) (r : jS), f11_keepsAct_L1 n S l1 = some r → Go M11_keepsAct 4 0 0 0 0 40 [(0, rm 0)] [] (Y, (r, T)) Q → Go M11_keepsAct 4 0 0 0 0 12 [(0, rm 0), (1, vi l1)] [] (Y, (S, T)) Q := by
  intro n
  induction n with
  | zero => intro S l1 r h k; exact absurd h (by intro z; cases z)
  | succ n ih =>
    intro S l1 r h k
    rw [f11_keepsAct_L1] at h
    refine go_blk rfl [(.iload_n 1, 1, 1, 0, 0, .inl 0), (.sipush 800, 3, 0, 0, 0, .inl 800)] 12 16 _ _ _ (by decide +kernel) ?_
    show Go _ _ _ _ _ _ 16 [(0, rm 0), (1, vi l1)] [vi 800, vi l1] (Y, (S, T)) _
    refine ite_el h (fun q2 h => ?_) (fun q2 h => ?_)
    · refine go_icmp_ge (off := 24) (tgt := 40) (by decide +kernel) (by decide) (fun _ => ?_) (fun z => absurd q2 z)
      obtain rfl := Option.some.inj h
      refine go_pick [0] rfl ?_
      exact k
    · refine go_icmp_ge (off := 24) (tgt := 40) (by decide +kernel) (by decide) (fun z => absurd z q2) (fun _ => ?_)
      refine gd_el h (fun q3 h => ?_)
      refine gd_el h (fun q4 h => ?_)
      refine go_blk rfl [(.aload_n 0, 1, 0, 0, 0, .inl 0), (.getfield 106, 3, 11, 42, 1, .inl 0), (.iload_n 1, 1, 1, 0, 0, .inl 0), (.bipush 40, 2, 0, 0, 0, .inl 40), (.isub, 1, 0, 0, 0, .inl 0), (.aload_n 0, 1, 0, 0, 0, .inl 0), (.getfield 106, 3, 11, 42, 1, .inl 0), (.iload_n 1, 1, 1, 0, 0, .inl 0), (.iaload, 1, 20, 0, 0, .inl 0), (.iastore, 1, 20, 0, 0, .inl 0)] 19 34 _ _ _ (by decide +kernel) ?_
      refine And.intro (lm_t0 hT) (Exists.intro _ (And.intro (gRm (lm_r42 hT)) ?_))
      refine And.intro (lm_t0 hT) (Exists.intro _ (And.intro (gRm (lm_r42 hT)) ?_))
      refine And.intro (lm_t42 hT) (Exists.intro _ (And.intro (lm_n42 hT) (And.intro (inb_in q3) ?_)))
      refine And.intro (lm_t42 hT) (Exists.intro _ (And.intro (lm_n42 hT) (And.intro (inb_in q4) ?_)))
      show Go _ _ _ _ _ _ 34 [(0, rm 0), (1, vi l1)] [] (Y, (wI S 42 (l1 - 40).toNatClampNeg (S.1 42 l1.toNatClampNeg), T)) _
      refine go_blk rfl [(.iinc 1 1, 3, 1, 0, 0, .inl 1)] 34 37 _ _ _ (by decide +kernel) ?_
      show Go _ _ _ _ _ _ 37 [(1, vi (l1 + 1)), (0, rm 0)] [] (Y, (wI S 42 (l1 - 40).toNatClampNeg (S.1 42 l1.toNatClampNeg), T)) _
      refine go_goto (off := (-25)) (tgt := 12) (by decide +kernel) (by decide) ?_
      refine go_pick [1, 0] rfl ?_
      exact ih _ _ _ h k
theorem ret11_keepsAct {S : jS} {T : jT} {Y : jS × jT} {S1 : jS} {x : Unit} (hT : LayM T) (h : f11_keepsAct S = some (S1, x)) : Ret M11_keepsAct 4 0 0 [rm 0] (Y, (S, T)) (none) (Y, (S1, T)) := by
  refine Ret.of (by decide +kernel) (Nat.le_of_ble_eq_true rfl) ?_
  unfold f11_keepsAct at h
  show Go _ _ _ _ _ _ 0 [(0, rm 0)] [] (Y, (S, T)) _
  refine go_blk rfl [(.aload_n 0, 1, 0, 0, 0, .inl 0), (.getfield 320, 3, 11, 44, 0, .inl 0), (.bipush 20, 2, 0, 0, 0, .inl 20)] 0 6 _ _ _ (by decide +kernel) ?_
  refine And.intro (lm_t0 hT) ?_
  show Go _ _ _ _ _ _ 6 [(0, rm 0)] [vi 20, vi (S.1 0 44)] (Y, (S, T)) _
  obtain ⟨y2, hy2, h⟩ := bind_el h
  have key : Go M11_keepsAct 4 0 0 0 0 50 [(0, rm 0)] [] (Y, (y2, T)) (eqQ none (Y, (S1, T))) := by
    refine go_blk rfl [(.aload_n 0, 1, 0, 0, 0, .inl 0), (.aload_n 0, 1, 0, 0, 0, .inl 0), (.getfield 320, 3, 11, 44, 0, .inl 0), (.iconst 0, 1, 0, 0, 0, .inl 0)] 50 56 _ _ _ (by decide +kernel) ?_
    refine And.intro (lm_t0 hT) ?_
    show Go _ _ _ _ _ _ 56 [(0, rm 0)] [vi 0, vi (y2.1 0 44), rm 0] (Y, (y2, T)) _
    obtain ⟨r3, hr3, h⟩ := bind_el h
    refine go_callV (idx := 416) (z := 0) (M' := M11_movesAll) (n := 2) (A := [vi (y2.1 0 44), vi 0]) (v' := none) (μ' := (Y, (r3.1, T))) (d' := 3) (mc' := 0) (ms' := 0) (kc' := 0) (ks' := 0) (ci := 11) (x := .inr (.inl 0)) (by decide +kernel) ml_11_416 rfl wv11_movesAll rfl (by decide) rfl (lm_t0 hT) (ret11_movesAll hT hr3) (by decide) rfl rfl (Nat.le_of_ble_eq_true rfl) rfl (jag rfl rfl) ?_
    show Go _ _ _ _ _ _ 59 [(0, rm 0)] [] (Y, (r3.1, T)) _
    refine go_blk rfl [(.aload_n 0, 1, 0, 0, 0, .inl 0), (.dup, 1, 0, 0, 0, .inl 0), (.getfield 320, 3, 11, 44, 0, .inl 0), (.iconst 1, 1, 0, 0, 0, .inl 1), (.iadd, 1, 0, 0, 0, .inl 0), (.putfield 320, 3, 11, 44, 0, .inl 0)] 59 69 _ _ _ (by decide +kernel) ?_
    refine And.intro (lm_t0 hT) ?_
    refine And.intro (lm_t0 hT) (And.intro trivial ?_)
    show Go _ _ _ _ _ _ 69 [(0, rm 0)] [] (Y, (wI r3.1 0 44 ((r3.1.1 0 44) + 1), T)) _
    obtain ⟨rfl, rfl⟩ := Prod.mk.inj (Option.some.inj h)
    exact go_return (by decide +kernel) rfl ⟨rfl, rfl⟩
  replace h := hy2
  refine ite_el h (fun q1 h => ?_) (fun q1 h => ?_)
  · refine go_icmp_ne (off := 44) (tgt := 50) (by decide +kernel) (by decide) (fun z => absurd q1 z) (fun _ => ?_)
    refine go_blk rfl [(.bipush 40, 2, 0, 0, 0, .inl 40), (.istore_n 1, 1, 1, 0, 0, .inl 0)] 9 12 _ _ _ (by decide +kernel) ?_
    show Go _ _ _ _ _ _ 12 [(1, vi 40), (0, rm 0)] [] (Y, (S, T)) _
    refine go_pick [1, 0] rfl ?_
    obtain ⟨y1, hy1, h⟩ := bind_el h
    refine f11_keepsAct_L1_ok hT _ _ _ _ hy1 ?_
    show Go _ _ _ _ _ _ 40 [(0, rm 0)] [] (Y, (y1, T)) _
    refine go_blk rfl [(.aload_n 0, 1, 0, 0, 0, .inl 0), (.dup, 1, 0, 0, 0, .inl 0), (.getfield 320, 3, 11, 44, 0, .inl 0), (.iconst 1, 1, 0, 0, 0, .inl 1), (.isub, 1, 0, 0, 0, .inl 0), (.putfield 320, 3, 11, 44, 0, .inl 0)] 40 50 _ _ _ (by decide +kernel) ?_
    refine And.intro (lm_t0 hT) ?_
    refine And.intro (lm_t0 hT) (And.intro trivial ?_)
    show Go _ _ _ _ _ _ 50 [(0, rm 0)] [] (Y, (wI y1 0 44 ((y1.1 0 44) - 1), T)) _
    obtain rfl := Option.some.inj h
    refine go_pick [0] rfl ?_
    exact key
  · refine go_icmp_ne (off := 44) (tgt := 50) (by decide +kernel) (by decide) (fun _ => ?_) (fun z => absurd z q1)
    obtain rfl := Option.some.inj h
    refine go_pick [0] rfl ?_
    exact key
def f11_undo (S : jS) : Option (jS × Int32) := (if (S.1 0 44) = 0 then some (S, (-2)) else Option.bind (f11_movesAll (wI S 0 44 ((S.1 0 44) - 1)) ((wI S 0 44 ((S.1 0 44) - 1)).1 0 44) 1) (fun r1 => some (r1.1, r1.1.1 0 44)))
theorem ret11_undo {S : jS} {T : jT} {Y : jS × jT} {S1 : jS} {x : Int32} (hT : LayM T) (h : f11_undo S = some (S1, x)) : Ret M11_undo 4 0 0 [rm 0] (Y, (S, T)) (some (vi x)) (Y, (S1, T)) := by
  refine Ret.of (by decide +kernel) (Nat.le_of_ble_eq_true rfl) ?_
  unfold f11_undo at h
  show Go _ _ _ _ _ _ 0 [(0, rm 0)] [] (Y, (S, T)) _
  refine go_blk rfl [(.aload_n 0, 1, 0, 0, 0, .inl 0), (.getfield 320, 3, 11, 44, 0, .inl 0)] 0 4 _ _ _ (by decide +kernel) ?_
  refine And.intro (lm_t0 hT) ?_
  show Go _ _ _ _ _ _ 4 [(0, rm 0)] [vi (S.1 0 44)] (Y, (S, T)) _
  refine ite_el h (fun q1 h => ?_) (fun q1 h => ?_)
  · refine go_if_ne (off := 6) (tgt := 10) (by decide +kernel) (by decide) (fun z => absurd q1 z) (fun _ => ?_)
    refine go_blk rfl [(.bipush (-2), 2, 0, 0, 0, .inl (-2))] 7 9 _ _ _ (by decide +kernel) ?_
    show Go _ _ _ _ _ _ 9 [(0, rm 0)] [vi ((-2))] (Y, (S, T)) _
    obtain ⟨rfl, rfl⟩ := Prod.mk.inj (Option.some.inj h)
    exact go_ireturn (by decide +kernel) rfl rfl ⟨rfl, rfl⟩
  · refine go_if_ne (off := 6) (tgt := 10) (by decide +kernel) (by decide) (fun _ => ?_) (fun z => absurd z q1)
    refine go_blk rfl [(.aload_n 0, 1, 0, 0, 0, .inl 0), (.dup, 1, 0, 0, 0, .inl 0), (.getfield 320, 3, 11, 44, 0, .inl 0), (.iconst 1, 1, 0, 0, 0, .inl 1), (.isub, 1, 0, 0, 0, .inl 0), (.putfield 320, 3, 11, 44, 0, .inl 0)] 10 20 _ _ _ (by decide +kernel) ?_
    refine And.intro (lm_t0 hT) ?_
    refine And.intro (lm_t0 hT) (And.intro trivial ?_)
    show Go _ _ _ _ _ _ 20 [(0, rm 0)] [] (Y, (wI S 0 44 ((S.1 0 44) - 1), T)) _
    refine go_blk rfl [(.aload_n 0, 1, 0, 0, 0, .inl 0), (.aload_n 0, 1, 0, 0, 0, .inl 0), (.getfield 320, 3, 11, 44, 0, .inl 0), (.iconst 1, 1, 0, 0, 0, .inl 1)] 20 26 _ _ _ (by decide +kernel) ?_
    refine And.intro (lm_t0 hT) ?_
    show Go _ _ _ _ _ _ 26 [(0, rm 0)] [vi 1, vi ((wI S 0 44 ((S.1 0 44) - 1)).1 0 44), rm 0] (Y, (wI S 0 44 ((S.1 0 44) - 1), T)) _
    obtain ⟨r1, hr1, h⟩ := bind_el h
    refine go_callV (idx := 416) (z := 0) (M' := M11_movesAll) (n := 2) (A := [vi ((wI S 0 44 ((S.1 0 44) - 1)).1 0 44), vi 1]) (v' := none) (μ' := (Y, (r1.1, T))) (d' := 3) (mc' := 0) (ms' := 0) (kc' := 0) (ks' := 0) (ci := 11) (x := .inr (.inl 0)) (by decide +kernel) ml_11_416 rfl wv11_movesAll rfl (by decide) rfl (lm_t0 hT) (ret11_movesAll hT hr1) (by decide) rfl rfl (Nat.le_of_ble_eq_true rfl) rfl (jag rfl rfl) ?_
    show Go _ _ _ _ _ _ 29 [(0, rm 0)] [] (Y, (r1.1, T)) _
    refine go_blk rfl [(.aload_n 0, 1, 0, 0, 0, .inl 0), (.getfield 320, 3, 11, 44, 0, .inl 0)] 29 33 _ _ _ (by decide +kernel) ?_
    refine And.intro (lm_t0 hT) ?_
    show Go _ _ _ _ _ _ 33 [(0, rm 0)] [vi (r1.1.1 0 44)] (Y, (r1.1, T)) _
    obtain ⟨rfl, rfl⟩ := Prod.mk.inj (Option.some.inj h)
    exact go_ireturn (by decide +kernel) rfl rfl ⟨rfl, rfl⟩
