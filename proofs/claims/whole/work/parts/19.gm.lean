def f11_round (S : jS) : Option (jS × Int32) := Option.bind (f11_isParty S) (fun r1 => (if r1 = 0 then some (S, (-1)) else (if (S.1 1 3) = 999 then some (S, (-1)) else Option.bind (f11_keepsAct S) (fun r2 => Option.bind (f11_goes r2.1) (fun r3 => some (r3.1, r3.1.1 1 4))))))
theorem ret11_round {S : jS} {T : jT} {Y : jS × jT} {S1 : jS} {x : Int32} (hT : LayM T) (h : f11_round S = some (S1, x)) : Ret M11_round 7 0 0 [rm 0] (Y, (S, T)) (some (vi x)) (Y, (S1, T)) := by
  refine Ret.of (by decide +kernel) (Nat.le_of_ble_eq_true rfl) ?_
  unfold f11_round at h
  show Go _ _ _ _ _ _ 0 [(0, rm 0)] [] (Y, (S, T)) _
  refine go_blk rfl [(.aload_n 0, 1, 0, 0, 0, .inl 0)] 0 1 _ _ _ (by decide +kernel) ?_
  show Go _ _ _ _ _ _ 1 [(0, rm 0)] [rm 0] (Y, (S, T)) _
  obtain ⟨r1, hr1, h⟩ := bind_el h
  refine go_callV (idx := 420) (z := 0) (M' := M11_isParty) (n := 0) (A := []) (v' := some (vi r1)) (μ' := (Y, (S, T))) (d' := 1) (mc' := 0) (ms' := 0) (kc' := 0) (ks' := 0) (ci := 11) (x := .inr (.inl 0)) (by decide +kernel) ml_11_420 rfl wv11_isParty rfl (by decide) rfl (lm_t0 hT) (ret11_isParty hT hr1) (by decide) rfl rfl (Nat.le_of_ble_eq_true rfl) rfl (jag rfl rfl) ?_
  show Go _ _ _ _ _ _ 4 [(0, rm 0)] [vi r1] (Y, (S, T)) _
  refine ite_el h (fun q1 h => ?_) (fun q1 h => ?_)
  · refine go_if_eq (off := 15) (tgt := 19) (by decide +kernel) (by decide) (fun _ => ?_) (fun z => absurd q1 z)
    refine go_blk rfl [(.iconst (-1), 1, 0, 0, 0, .inl (-1))] 19 20 _ _ _ (by decide +kernel) ?_
    show Go _ _ _ _ _ _ 20 [(0, rm 0)] [vi ((-1))] (Y, (S, T)) _
    obtain ⟨rfl, rfl⟩ := Prod.mk.inj (Option.some.inj h)
    exact go_ireturn (by decide +kernel) rfl rfl ⟨rfl, rfl⟩
  · refine go_if_eq (off := 15) (tgt := 19) (by decide +kernel) (by decide) (fun z => absurd z q1) (fun _ => ?_)
    refine go_blk rfl [(.aload_n 0, 1, 0, 0, 0, .inl 0), (.getfield 9, 3, 11, 1, 1, .inl 0), (.iconst 3, 1, 0, 0, 0, .inl 3), (.iaload, 1, 20, 0, 0, .inl 0), (.sipush 999, 3, 0, 0, 0, .inl 999)] 7 16 _ _ _ (by decide +kernel) ?_
    refine And.intro (lm_t0 hT) (Exists.intro _ (And.intro (gRm (lm_r1 hT)) ?_))
    refine And.intro (lm_t1 hT) (Exists.intro _ (And.intro (lm_n1 hT) (And.intro (inb_in (by decide)) ?_)))
    show Go _ _ _ _ _ _ 16 [(0, rm 0)] [vi 999, vi (S.1 1 3)] (Y, (S, T)) _
    refine ite_el h (fun q2 h => ?_) (fun q2 h => ?_)
    · refine go_icmp_ne (off := 5) (tgt := 21) (by decide +kernel) (by decide) (fun z => absurd q2 z) (fun _ => ?_)
      refine go_blk rfl [(.iconst (-1), 1, 0, 0, 0, .inl (-1))] 19 20 _ _ _ (by decide +kernel) ?_
      show Go _ _ _ _ _ _ 20 [(0, rm 0)] [vi ((-1))] (Y, (S, T)) _
      obtain ⟨rfl, rfl⟩ := Prod.mk.inj (Option.some.inj h)
      exact go_ireturn (by decide +kernel) rfl rfl ⟨rfl, rfl⟩
    · refine go_icmp_ne (off := 5) (tgt := 21) (by decide +kernel) (by decide) (fun _ => ?_) (fun z => absurd z q2)
      refine go_blk rfl [(.aload_n 0, 1, 0, 0, 0, .inl 0)] 21 22 _ _ _ (by decide +kernel) ?_
      show Go _ _ _ _ _ _ 22 [(0, rm 0)] [rm 0] (Y, (S, T)) _
      obtain ⟨r2, hr2, h⟩ := bind_el h
      refine go_callV (idx := 423) (z := 0) (M' := M11_keepsAct) (n := 0) (A := []) (v' := none) (μ' := (Y, (r2.1, T))) (d' := 4) (mc' := 0) (ms' := 0) (kc' := 0) (ks' := 0) (ci := 11) (x := .inr (.inl 0)) (by decide +kernel) ml_11_423 rfl wv11_keepsAct rfl (by decide) rfl (lm_t0 hT) (ret11_keepsAct hT hr2) (by decide) rfl rfl (Nat.le_of_ble_eq_true rfl) rfl (jag rfl rfl) ?_
      show Go _ _ _ _ _ _ 25 [(0, rm 0)] [] (Y, (r2.1, T)) _
      refine go_blk rfl [(.aload_n 0, 1, 0, 0, 0, .inl 0)] 25 26 _ _ _ (by decide +kernel) ?_
      show Go _ _ _ _ _ _ 26 [(0, rm 0)] [rm 0] (Y, (r2.1, T)) _
      obtain ⟨r3, hr3, h⟩ := bind_el h
      refine go_callV (idx := 399) (z := 0) (M' := M11_goes) (n := 0) (A := []) (v' := some (vi r3.2)) (μ' := (Y, (r3.1, T))) (d' := 6) (mc' := 0) (ms' := 0) (kc' := 0) (ks' := 0) (ci := 11) (x := .inr (.inl 0)) (by decide +kernel) ml_11_399 rfl wv11_goes rfl (by decide) rfl (lm_t0 hT) (ret11_goes hT hr3) (by decide) rfl rfl (Nat.le_of_ble_eq_true rfl) rfl (jag rfl rfl) ?_
      show Go _ _ _ _ _ _ 29 [(0, rm 0)] [vi r3.2] (Y, (r3.1, T)) _
      refine go_blk rfl [(.pop, 1, 0, 0, 0, .inl 0), (.aload_n 0, 1, 0, 0, 0, .inl 0), (.getfield 9, 3, 11, 1, 1, .inl 0), (.iconst 4, 1, 0, 0, 0, .inl 4), (.iaload, 1, 20, 0, 0, .inl 0)] 29 36 _ _ _ (by decide +kernel) ?_
      refine And.intro (lm_t0 hT) (Exists.intro _ (And.intro (gRm (lm_r1 hT)) ?_))
      refine And.intro (lm_t1 hT) (Exists.intro _ (And.intro (lm_n1 hT) (And.intro (inb_in (by decide)) ?_)))
      show Go _ _ _ _ _ _ 36 [(0, rm 0)] [vi (r3.1.1 1 4)] (Y, (r3.1, T)) _
      obtain ⟨rfl, rfl⟩ := Prod.mk.inj (Option.some.inj h)
      exact go_ireturn (by decide +kernel) rfl rfl ⟨rfl, rfl⟩
def f11_play (S : jS) (a0 : Int32) : Option (jS × Int32) := Option.bind (f11_isParty S) (fun r1 => (if r1 = 0 then some (S, (-1)) else (if (S.1 1 3) = 999 then some (S, (-1)) else Option.bind (f11_isDone S) (fun r2 => (if r2 = 0 then Option.bind (f11_in a0.toInt64 1 60) (fun r3 => (if r3 = 0 then some (S, (-1)) else Option.bind (f11_keepsAct S) (fun r4 => Option.bind (f11_goes (wI r4.1 0 40 a0)) (fun r5 => some (wI r5.1 0 40 ((-1)), r5.2))))) else some (S, (-1)))))))
theorem ret11_play {S : jS} {T : jT} {Y : jS × jT} {a0 : Int32} {S1 : jS} {x : Int32} (hT : LayM T) (h : f11_play S a0 = some (S1, x)) : Ret M11_play 7 0 0 [rm 0, vi a0] (Y, (S, T)) (some (vi x)) (Y, (S1, T)) := by
  refine Ret.of (by decide +kernel) (Nat.le_of_ble_eq_true rfl) ?_
  unfold f11_play at h
  show Go _ _ _ _ _ _ 0 [(0, rm 0), (1, vi a0)] [] (Y, (S, T)) _
  refine go_blk rfl [(.aload_n 0, 1, 0, 0, 0, .inl 0)] 0 1 _ _ _ (by decide +kernel) ?_
  show Go _ _ _ _ _ _ 1 [(0, rm 0), (1, vi a0)] [rm 0] (Y, (S, T)) _
  obtain ⟨r1, hr1, h⟩ := bind_el h
  refine go_callV (idx := 420) (z := 0) (M' := M11_isParty) (n := 0) (A := []) (v' := some (vi r1)) (μ' := (Y, (S, T))) (d' := 1) (mc' := 0) (ms' := 0) (kc' := 0) (ks' := 0) (ci := 11) (x := .inr (.inl 0)) (by decide +kernel) ml_11_420 rfl wv11_isParty rfl (by decide) rfl (lm_t0 hT) (ret11_isParty hT hr1) (by decide) rfl rfl (Nat.le_of_ble_eq_true rfl) rfl (jag rfl rfl) ?_
  show Go _ _ _ _ _ _ 4 [(0, rm 0), (1, vi a0)] [vi r1] (Y, (S, T)) _
  refine ite_el h (fun q1 h => ?_) (fun q1 h => ?_)
  · refine go_if_eq (off := 34) (tgt := 38) (by decide +kernel) (by decide) (fun _ => ?_) (fun z => absurd q1 z)
    refine go_blk rfl [(.iconst (-1), 1, 0, 0, 0, .inl (-1))] 38 39 _ _ _ (by decide +kernel) ?_
    show Go _ _ _ _ _ _ 39 [(0, rm 0), (1, vi a0)] [vi ((-1))] (Y, (S, T)) _
    obtain ⟨rfl, rfl⟩ := Prod.mk.inj (Option.some.inj h)
    exact go_ireturn (by decide +kernel) rfl rfl ⟨rfl, rfl⟩
  · refine go_if_eq (off := 34) (tgt := 38) (by decide +kernel) (by decide) (fun z => absurd z q1) (fun _ => ?_)
    refine go_blk rfl [(.aload_n 0, 1, 0, 0, 0, .inl 0), (.getfield 9, 3, 11, 1, 1, .inl 0), (.iconst 3, 1, 0, 0, 0, .inl 3), (.iaload, 1, 20, 0, 0, .inl 0), (.sipush 999, 3, 0, 0, 0, .inl 999)] 7 16 _ _ _ (by decide +kernel) ?_
    refine And.intro (lm_t0 hT) (Exists.intro _ (And.intro (gRm (lm_r1 hT)) ?_))
    refine And.intro (lm_t1 hT) (Exists.intro _ (And.intro (lm_n1 hT) (And.intro (inb_in (by decide)) ?_)))
    show Go _ _ _ _ _ _ 16 [(0, rm 0), (1, vi a0)] [vi 999, vi (S.1 1 3)] (Y, (S, T)) _
    refine ite_el h (fun q2 h => ?_) (fun q2 h => ?_)
    · refine go_icmp_eq (off := 22) (tgt := 38) (by decide +kernel) (by decide) (fun _ => ?_) (fun z => absurd q2 z)
      refine go_blk rfl [(.iconst (-1), 1, 0, 0, 0, .inl (-1))] 38 39 _ _ _ (by decide +kernel) ?_
      show Go _ _ _ _ _ _ 39 [(0, rm 0), (1, vi a0)] [vi ((-1))] (Y, (S, T)) _
      obtain ⟨rfl, rfl⟩ := Prod.mk.inj (Option.some.inj h)
      exact go_ireturn (by decide +kernel) rfl rfl ⟨rfl, rfl⟩
    · refine go_icmp_eq (off := 22) (tgt := 38) (by decide +kernel) (by decide) (fun z => absurd z q2) (fun _ => ?_)
      refine go_blk rfl [(.aload_n 0, 1, 0, 0, 0, .inl 0)] 19 20 _ _ _ (by decide +kernel) ?_
      show Go _ _ _ _ _ _ 20 [(0, rm 0), (1, vi a0)] [rm 0] (Y, (S, T)) _
      obtain ⟨r2, hr2, h⟩ := bind_el h
      refine go_callV (idx := 384) (z := 0) (M' := M11_isDone) (n := 0) (A := []) (v' := some (vi r2)) (μ' := (Y, (S, T))) (d' := 2) (mc' := 0) (ms' := 0) (kc' := 0) (ks' := 0) (ci := 11) (x := .inr (.inl 0)) (by decide +kernel) ml_11_384 rfl wv11_isDone rfl (by decide) rfl (lm_t0 hT) (ret11_isDone hT hr2) (by decide) rfl rfl (Nat.le_of_ble_eq_true rfl) rfl (jag rfl rfl) ?_
      show Go _ _ _ _ _ _ 23 [(0, rm 0), (1, vi a0)] [vi r2] (Y, (S, T)) _
      refine ite_el h (fun q3 h => ?_) (fun q3 h => ?_)
      · refine go_if_ne (off := 15) (tgt := 38) (by decide +kernel) (by decide) (fun z => absurd q3 z) (fun _ => ?_)
        refine go_blk rfl [(.iload_n 1, 1, 1, 0, 0, .inl 0), (.i2l, 1, 0, 0, 0, .inl 0), (.lconst 1, 1, 0, 0, 0, .inr (.inl 1)), (.ldc2_w 376, 3, 0, 0, 0, .inr (.inl 60))] 26 32 _ _ _ (by decide +kernel) ?_
        show Go _ _ _ _ _ _ 32 [(0, rm 0), (1, vi a0)] [vl 60, vl 1, vl a0.toInt64] (Y, (S, T)) _
        obtain ⟨r3, hr3, h⟩ := bind_el h
        refine go_callS (idx := 140) (z := 0) (M' := M11_in) (n := 3) (A := [vl a0.toInt64, vl 1, vl 60]) (v' := some (vi r3)) (μ' := (Y, (S, T))) (d' := 1) (mc' := 0) (ms' := 0) (kc' := 0) (ks' := 0) (by decide +kernel) ml_11_140 rfl ws11_in rfl (ret11_in hr3) (by decide) rfl rfl (Nat.le_of_ble_eq_true rfl) rfl (jag rfl rfl) ?_
        show Go _ _ _ _ _ _ 35 [(0, rm 0), (1, vi a0)] [vi r3] (Y, (S, T)) _
        refine ite_el h (fun q4 h => ?_) (fun q4 h => ?_)
        · refine go_if_ne (off := 5) (tgt := 40) (by decide +kernel) (by decide) (fun z => absurd q4 z) (fun _ => ?_)
          refine go_blk rfl [(.iconst (-1), 1, 0, 0, 0, .inl (-1))] 38 39 _ _ _ (by decide +kernel) ?_
          show Go _ _ _ _ _ _ 39 [(0, rm 0), (1, vi a0)] [vi ((-1))] (Y, (S, T)) _
          obtain ⟨rfl, rfl⟩ := Prod.mk.inj (Option.some.inj h)
          exact go_ireturn (by decide +kernel) rfl rfl ⟨rfl, rfl⟩
        · refine go_if_ne (off := 5) (tgt := 40) (by decide +kernel) (by decide) (fun _ => ?_) (fun z => absurd z q4)
          refine go_blk rfl [(.aload_n 0, 1, 0, 0, 0, .inl 0)] 40 41 _ _ _ (by decide +kernel) ?_
          show Go _ _ _ _ _ _ 41 [(0, rm 0), (1, vi a0)] [rm 0] (Y, (S, T)) _
          obtain ⟨r4, hr4, h⟩ := bind_el h
          refine go_callV (idx := 423) (z := 0) (M' := M11_keepsAct) (n := 0) (A := []) (v' := none) (μ' := (Y, (r4.1, T))) (d' := 4) (mc' := 0) (ms' := 0) (kc' := 0) (ks' := 0) (ci := 11) (x := .inr (.inl 0)) (by decide +kernel) ml_11_423 rfl wv11_keepsAct rfl (by decide) rfl (lm_t0 hT) (ret11_keepsAct hT hr4) (by decide) rfl rfl (Nat.le_of_ble_eq_true rfl) rfl (jag rfl rfl) ?_
          show Go _ _ _ _ _ _ 44 [(0, rm 0), (1, vi a0)] [] (Y, (r4.1, T)) _
          refine go_blk rfl [(.aload_n 0, 1, 0, 0, 0, .inl 0), (.iload_n 1, 1, 1, 0, 0, .inl 0), (.putfield 103, 3, 11, 40, 0, .inl 0)] 44 49 _ _ _ (by decide +kernel) ?_
          refine And.intro (lm_t0 hT) (And.intro trivial ?_)
          show Go _ _ _ _ _ _ 49 [(0, rm 0), (1, vi a0)] [] (Y, (wI r4.1 0 40 a0, T)) _
          refine go_blk rfl [(.aload_n 0, 1, 0, 0, 0, .inl 0)] 49 50 _ _ _ (by decide +kernel) ?_
          show Go _ _ _ _ _ _ 50 [(0, rm 0), (1, vi a0)] [rm 0] (Y, (wI r4.1 0 40 a0, T)) _
          obtain ⟨r5, hr5, h⟩ := bind_el h
          refine go_callV (idx := 399) (z := 0) (M' := M11_goes) (n := 0) (A := []) (v' := some (vi r5.2)) (μ' := (Y, (r5.1, T))) (d' := 6) (mc' := 0) (ms' := 0) (kc' := 0) (ks' := 0) (ci := 11) (x := .inr (.inl 0)) (by decide +kernel) ml_11_399 rfl wv11_goes rfl (by decide) rfl (lm_t0 hT) (ret11_goes hT hr5) (by decide) rfl rfl (Nat.le_of_ble_eq_true rfl) rfl (jag rfl rfl) ?_
          show Go _ _ _ _ _ _ 53 [(0, rm 0), (1, vi a0)] [vi r5.2] (Y, (r5.1, T)) _
          refine go_blk rfl [(.istore_n 2, 1, 2, 0, 0, .inl 0), (.aload_n 0, 1, 0, 0, 0, .inl 0), (.iconst (-1), 1, 0, 0, 0, .inl (-1)), (.putfield 103, 3, 11, 40, 0, .inl 0)] 53 59 _ _ _ (by decide +kernel) ?_
          refine And.intro (lm_t0 hT) (And.intro trivial ?_)
          show Go _ _ _ _ _ _ 59 [(2, vi r5.2), (0, rm 0), (1, vi a0)] [] (Y, (wI r5.1 0 40 ((-1)), T)) _
          refine go_blk rfl [(.iload_n 2, 1, 2, 0, 0, .inl 0)] 59 60 _ _ _ (by decide +kernel) ?_
          show Go _ _ _ _ _ _ 60 [(2, vi r5.2), (0, rm 0), (1, vi a0)] [vi r5.2] (Y, (wI r5.1 0 40 ((-1)), T)) _
          obtain ⟨rfl, rfl⟩ := Prod.mk.inj (Option.some.inj h)
          exact go_ireturn (by decide +kernel) rfl rfl ⟨rfl, rfl⟩
      · refine go_if_ne (off := 15) (tgt := 38) (by decide +kernel) (by decide) (fun _ => ?_) (fun z => absurd z q3)
        refine go_blk rfl [(.iconst (-1), 1, 0, 0, 0, .inl (-1))] 38 39 _ _ _ (by decide +kernel) ?_
        show Go _ _ _ _ _ _ 39 [(0, rm 0), (1, vi a0)] [vi ((-1))] (Y, (S, T)) _
        obtain ⟨rfl, rfl⟩ := Prod.mk.inj (Option.some.inj h)
        exact go_ireturn (by decide +kernel) rfl rfl ⟨rfl, rfl⟩
def f11_swap (S : jS) (a0 : Int32) (a1 : Int32) : Option (jS × Int32) := Option.bind (f11_isStill S a0) (fun r1 => (if r1 = 0 then some (S, (-1)) else Option.bind (f11_isStill S a1) (fun r2 => (if r2 = 0 then some (S, (-1)) else (if a0 = a1 then some (S, (-1)) else Option.bind (f11_keepsAct S) (fun r3 => (if inb a0 7 then (if inb a1 7 then some (wI (wI r3.1 2 a0.toNatClampNeg (r3.1.1 2 a1.toNatClampNeg)) 2 a1.toNatClampNeg (r3.1.1 2 a0.toNatClampNeg), (wI (wI r3.1 2 a0.toNatClampNeg (r3.1.1 2 a1.toNatClampNeg)) 2 a1.toNatClampNeg (r3.1.1 2 a0.toNatClampNeg)).1 2 a0.toNatClampNeg) else none) else none)))))))
theorem ret11_swap {S : jS} {T : jT} {Y : jS × jT} {a0 : Int32} {a1 : Int32} {S1 : jS} {x : Int32} (hT : LayM T) (h : f11_swap S a0 a1 = some (S1, x)) : Ret M11_swap 5 0 0 [rm 0, vi a0, vi a1] (Y, (S, T)) (some (vi x)) (Y, (S1, T)) := by
  refine Ret.of (by decide +kernel) (Nat.le_of_ble_eq_true rfl) ?_
  unfold f11_swap at h
  show Go _ _ _ _ _ _ 0 [(0, rm 0), (1, vi a0), (2, vi a1)] [] (Y, (S, T)) _
  refine go_blk rfl [(.aload_n 0, 1, 0, 0, 0, .inl 0), (.iload_n 1, 1, 1, 0, 0, .inl 0)] 0 2 _ _ _ (by decide +kernel) ?_
  show Go _ _ _ _ _ _ 2 [(0, rm 0), (1, vi a0), (2, vi a1)] [vi a0, rm 0] (Y, (S, T)) _
  obtain ⟨r1, hr1, h⟩ := bind_el h
  refine go_callV (idx := 426) (z := 0) (M' := M11_isStill) (n := 1) (A := [vi a0]) (v' := some (vi r1)) (μ' := (Y, (S, T))) (d' := 3) (mc' := 0) (ms' := 0) (kc' := 0) (ks' := 0) (ci := 11) (x := .inr (.inl 0)) (by decide +kernel) ml_11_426 rfl wv11_isStill rfl (by decide) rfl (lm_t0 hT) (ret11_isStill hT hr1) (by decide) rfl rfl (Nat.le_of_ble_eq_true rfl) rfl (jag rfl rfl) ?_
  show Go _ _ _ _ _ _ 5 [(0, rm 0), (1, vi a0), (2, vi a1)] [vi r1] (Y, (S, T)) _
  refine ite_el h (fun q1 h => ?_) (fun q1 h => ?_)
  · refine go_if_eq (off := 16) (tgt := 21) (by decide +kernel) (by decide) (fun _ => ?_) (fun z => absurd q1 z)
    refine go_blk rfl [(.iconst (-1), 1, 0, 0, 0, .inl (-1))] 21 22 _ _ _ (by decide +kernel) ?_
    show Go _ _ _ _ _ _ 22 [(0, rm 0), (1, vi a0), (2, vi a1)] [vi ((-1))] (Y, (S, T)) _
    obtain ⟨rfl, rfl⟩ := Prod.mk.inj (Option.some.inj h)
    exact go_ireturn (by decide +kernel) rfl rfl ⟨rfl, rfl⟩
  · refine go_if_eq (off := 16) (tgt := 21) (by decide +kernel) (by decide) (fun z => absurd z q1) (fun _ => ?_)
    refine go_blk rfl [(.aload_n 0, 1, 0, 0, 0, .inl 0), (.iload_n 2, 1, 2, 0, 0, .inl 0)] 8 10 _ _ _ (by decide +kernel) ?_
    show Go _ _ _ _ _ _ 10 [(0, rm 0), (1, vi a0), (2, vi a1)] [vi a1, rm 0] (Y, (S, T)) _
    obtain ⟨r2, hr2, h⟩ := bind_el h
    refine go_callV (idx := 426) (z := 0) (M' := M11_isStill) (n := 1) (A := [vi a1]) (v' := some (vi r2)) (μ' := (Y, (S, T))) (d' := 3) (mc' := 0) (ms' := 0) (kc' := 0) (ks' := 0) (ci := 11) (x := .inr (.inl 0)) (by decide +kernel) ml_11_426 rfl wv11_isStill rfl (by decide) rfl (lm_t0 hT) (ret11_isStill hT hr2) (by decide) rfl rfl (Nat.le_of_ble_eq_true rfl) rfl (jag rfl rfl) ?_
    show Go _ _ _ _ _ _ 13 [(0, rm 0), (1, vi a0), (2, vi a1)] [vi r2] (Y, (S, T)) _
    refine ite_el h (fun q2 h => ?_) (fun q2 h => ?_)
    · refine go_if_eq (off := 8) (tgt := 21) (by decide +kernel) (by decide) (fun _ => ?_) (fun z => absurd q2 z)
      refine go_blk rfl [(.iconst (-1), 1, 0, 0, 0, .inl (-1))] 21 22 _ _ _ (by decide +kernel) ?_
      show Go _ _ _ _ _ _ 22 [(0, rm 0), (1, vi a0), (2, vi a1)] [vi ((-1))] (Y, (S, T)) _
      obtain ⟨rfl, rfl⟩ := Prod.mk.inj (Option.some.inj h)
      exact go_ireturn (by decide +kernel) rfl rfl ⟨rfl, rfl⟩
    · refine go_if_eq (off := 8) (tgt := 21) (by decide +kernel) (by decide) (fun z => absurd z q2) (fun _ => ?_)
      refine go_blk rfl [(.iload_n 1, 1, 1, 0, 0, .inl 0), (.iload_n 2, 1, 2, 0, 0, .inl 0)] 16 18 _ _ _ (by decide +kernel) ?_
      show Go _ _ _ _ _ _ 18 [(0, rm 0), (1, vi a0), (2, vi a1)] [vi a1, vi a0] (Y, (S, T)) _
      refine ite_el h (fun q3 h => ?_) (fun q3 h => ?_)
      · refine go_icmp_ne (off := 5) (tgt := 23) (by decide +kernel) (by decide) (fun z => absurd q3 z) (fun _ => ?_)
        refine go_blk rfl [(.iconst (-1), 1, 0, 0, 0, .inl (-1))] 21 22 _ _ _ (by decide +kernel) ?_
        show Go _ _ _ _ _ _ 22 [(0, rm 0), (1, vi a0), (2, vi a1)] [vi ((-1))] (Y, (S, T)) _
        obtain ⟨rfl, rfl⟩ := Prod.mk.inj (Option.some.inj h)
        exact go_ireturn (by decide +kernel) rfl rfl ⟨rfl, rfl⟩
      · refine go_icmp_ne (off := 5) (tgt := 23) (by decide +kernel) (by decide) (fun _ => ?_) (fun z => absurd z q3)
        refine go_blk rfl [(.aload_n 0, 1, 0, 0, 0, .inl 0)] 23 24 _ _ _ (by decide +kernel) ?_
        show Go _ _ _ _ _ _ 24 [(0, rm 0), (1, vi a0), (2, vi a1)] [rm 0] (Y, (S, T)) _
        obtain ⟨r3, hr3, h⟩ := bind_el h
        refine go_callV (idx := 423) (z := 0) (M' := M11_keepsAct) (n := 0) (A := []) (v' := none) (μ' := (Y, (r3.1, T))) (d' := 4) (mc' := 0) (ms' := 0) (kc' := 0) (ks' := 0) (ci := 11) (x := .inr (.inl 0)) (by decide +kernel) ml_11_423 rfl wv11_keepsAct rfl (by decide) rfl (lm_t0 hT) (ret11_keepsAct hT hr3) (by decide) rfl rfl (Nat.le_of_ble_eq_true rfl) rfl (jag rfl rfl) ?_
        show Go _ _ _ _ _ _ 27 [(0, rm 0), (1, vi a0), (2, vi a1)] [] (Y, (r3.1, T)) _
        refine gd_el h (fun q4 h => ?_)
        refine gd_el h (fun q5 h => ?_)
        refine go_blk rfl [(.aload_n 0, 1, 0, 0, 0, .inl 0), (.getfield 13, 3, 11, 2, 1, .inl 0), (.iload_n 1, 1, 1, 0, 0, .inl 0), (.iaload, 1, 20, 0, 0, .inl 0), (.istore_n 3, 1, 3, 0, 0, .inl 0), (.aload_n 0, 1, 0, 0, 0, .inl 0), (.getfield 13, 3, 11, 2, 1, .inl 0), (.iload_n 1, 1, 1, 0, 0, .inl 0), (.aload_n 0, 1, 0, 0, 0, .inl 0), (.getfield 13, 3, 11, 2, 1, .inl 0), (.iload_n 2, 1, 2, 0, 0, .inl 0), (.iaload, 1, 20, 0, 0, .inl 0), (.iastore, 1, 20, 0, 0, .inl 0)] 27 46 _ _ _ (by decide +kernel) ?_
        refine And.intro (lm_t0 hT) (Exists.intro _ (And.intro (gRm (lm_r2 hT)) ?_))
        refine And.intro (lm_t2 hT) (Exists.intro _ (And.intro (lm_n2 hT) (And.intro (inb_in q4) ?_)))
        refine And.intro (lm_t0 hT) (Exists.intro _ (And.intro (gRm (lm_r2 hT)) ?_))
        refine And.intro (lm_t0 hT) (Exists.intro _ (And.intro (gRm (lm_r2 hT)) ?_))
        refine And.intro (lm_t2 hT) (Exists.intro _ (And.intro (lm_n2 hT) (And.intro (inb_in q5) ?_)))
        refine And.intro (lm_t2 hT) (Exists.intro _ (And.intro (lm_n2 hT) (And.intro (inb_in q4) ?_)))
        show Go _ _ _ _ _ _ 46 [(3, vi (r3.1.1 2 a0.toNatClampNeg)), (0, rm 0), (1, vi a0), (2, vi a1)] [] (Y, (wI r3.1 2 a0.toNatClampNeg (r3.1.1 2 a1.toNatClampNeg), T)) _
        refine go_blk rfl [(.aload_n 0, 1, 0, 0, 0, .inl 0), (.getfield 13, 3, 11, 2, 1, .inl 0), (.iload_n 2, 1, 2, 0, 0, .inl 0), (.iload_n 3, 1, 3, 0, 0, .inl 0), (.iastore, 1, 20, 0, 0, .inl 0)] 46 53 _ _ _ (by decide +kernel) ?_
        refine And.intro (lm_t0 hT) (Exists.intro _ (And.intro (gRm (lm_r2 hT)) ?_))
        refine And.intro (lm_t2 hT) (Exists.intro _ (And.intro (lm_n2 hT) (And.intro (inb_in q5) ?_)))
        show Go _ _ _ _ _ _ 53 [(3, vi (r3.1.1 2 a0.toNatClampNeg)), (0, rm 0), (1, vi a0), (2, vi a1)] [] (Y, (wI (wI r3.1 2 a0.toNatClampNeg (r3.1.1 2 a1.toNatClampNeg)) 2 a1.toNatClampNeg (r3.1.1 2 a0.toNatClampNeg), T)) _
        refine go_blk rfl [(.aload_n 0, 1, 0, 0, 0, .inl 0), (.getfield 13, 3, 11, 2, 1, .inl 0), (.iload_n 1, 1, 1, 0, 0, .inl 0), (.iaload, 1, 20, 0, 0, .inl 0)] 53 59 _ _ _ (by decide +kernel) ?_
        refine And.intro (lm_t0 hT) (Exists.intro _ (And.intro (gRm (lm_r2 hT)) ?_))
        refine And.intro (lm_t2 hT) (Exists.intro _ (And.intro (lm_n2 hT) (And.intro (inb_in q4) ?_)))
        show Go _ _ _ _ _ _ 59 [(3, vi (r3.1.1 2 a0.toNatClampNeg)), (0, rm 0), (1, vi a0), (2, vi a1)] [vi ((wI (wI r3.1 2 a0.toNatClampNeg (r3.1.1 2 a1.toNatClampNeg)) 2 a1.toNatClampNeg (r3.1.1 2 a0.toNatClampNeg)).1 2 a0.toNatClampNeg)] (Y, (wI (wI r3.1 2 a0.toNatClampNeg (r3.1.1 2 a1.toNatClampNeg)) 2 a1.toNatClampNeg (r3.1.1 2 a0.toNatClampNeg), T)) _
        obtain ⟨rfl, rfl⟩ := Prod.mk.inj (Option.some.inj h)
        exact go_ireturn (by decide +kernel) rfl rfl ⟨rfl, rfl⟩
def f11_pace (S : jS) (a0 : Int32) (a1 : Int32) : Option (jS × Int32) := Option.bind (f11_isGuest S a0) (fun r1 => (if r1 = 0 then some (S, (-1)) else Option.bind (f11_in a1.toInt64 0 5) (fun r2 => (if r2 = 0 then some (S, (-1)) else (if inb a0 7 then (if (S.1 3 a0.toNatClampNeg) = a1 then some (S, (-1)) else Option.bind (f11_keepsAct S) (fun r3 => some (wI r3.1 3 a0.toNatClampNeg a1, r3.1.1 3 a0.toNatClampNeg))) else none)))))
theorem ret11_pace {S : jS} {T : jT} {Y : jS × jT} {a0 : Int32} {a1 : Int32} {S1 : jS} {x : Int32} (hT : LayM T) (h : f11_pace S a0 a1 = some (S1, x)) : Ret M11_pace 5 0 0 [rm 0, vi a0, vi a1] (Y, (S, T)) (some (vi x)) (Y, (S1, T)) := by
  refine Ret.of (by decide +kernel) (Nat.le_of_ble_eq_true rfl) ?_
  unfold f11_pace at h
  show Go _ _ _ _ _ _ 0 [(0, rm 0), (1, vi a0), (2, vi a1)] [] (Y, (S, T)) _
  refine go_blk rfl [(.aload_n 0, 1, 0, 0, 0, .inl 0), (.iload_n 1, 1, 1, 0, 0, .inl 0)] 0 2 _ _ _ (by decide +kernel) ?_
  show Go _ _ _ _ _ _ 2 [(0, rm 0), (1, vi a0), (2, vi a1)] [vi a0, rm 0] (Y, (S, T)) _
  obtain ⟨r1, hr1, h⟩ := bind_el h
  refine go_callV (idx := 144) (z := 0) (M' := M11_isGuest) (n := 1) (A := [vi a0]) (v' := some (vi r1)) (μ' := (Y, (S, T))) (d' := 2) (mc' := 0) (ms' := 0) (kc' := 0) (ks' := 0) (ci := 11) (x := .inr (.inl 0)) (by decide +kernel) ml_11_144 rfl wv11_isGuest rfl (by decide) rfl (lm_t0 hT) (ret11_isGuest hT hr1) (by decide) rfl rfl (Nat.le_of_ble_eq_true rfl) rfl (jag rfl rfl) ?_
  show Go _ _ _ _ _ _ 5 [(0, rm 0), (1, vi a0), (2, vi a1)] [vi r1] (Y, (S, T)) _
  refine ite_el h (fun q1 h => ?_) (fun q1 h => ?_)
  · refine go_if_eq (off := 25) (tgt := 30) (by decide +kernel) (by decide) (fun _ => ?_) (fun z => absurd q1 z)
    refine go_blk rfl [(.iconst (-1), 1, 0, 0, 0, .inl (-1))] 30 31 _ _ _ (by decide +kernel) ?_
    show Go _ _ _ _ _ _ 31 [(0, rm 0), (1, vi a0), (2, vi a1)] [vi ((-1))] (Y, (S, T)) _
    obtain ⟨rfl, rfl⟩ := Prod.mk.inj (Option.some.inj h)
    exact go_ireturn (by decide +kernel) rfl rfl ⟨rfl, rfl⟩
  · refine go_if_eq (off := 25) (tgt := 30) (by decide +kernel) (by decide) (fun z => absurd z q1) (fun _ => ?_)
    refine go_blk rfl [(.iload_n 2, 1, 2, 0, 0, .inl 0), (.i2l, 1, 0, 0, 0, .inl 0), (.lconst 0, 1, 0, 0, 0, .inr (.inl 0)), (.ldc2_w 429, 3, 0, 0, 0, .inr (.inl 5))] 8 14 _ _ _ (by decide +kernel) ?_
    show Go _ _ _ _ _ _ 14 [(0, rm 0), (1, vi a0), (2, vi a1)] [vl 5, vl 0, vl a1.toInt64] (Y, (S, T)) _
    obtain ⟨r2, hr2, h⟩ := bind_el h
    refine go_callS (idx := 140) (z := 0) (M' := M11_in) (n := 3) (A := [vl a1.toInt64, vl 0, vl 5]) (v' := some (vi r2)) (μ' := (Y, (S, T))) (d' := 1) (mc' := 0) (ms' := 0) (kc' := 0) (ks' := 0) (by decide +kernel) ml_11_140 rfl ws11_in rfl (ret11_in hr2) (by decide) rfl rfl (Nat.le_of_ble_eq_true rfl) rfl (jag rfl rfl) ?_
    show Go _ _ _ _ _ _ 17 [(0, rm 0), (1, vi a0), (2, vi a1)] [vi r2] (Y, (S, T)) _
    refine ite_el h (fun q2 h => ?_) (fun q2 h => ?_)
    · refine go_if_eq (off := 13) (tgt := 30) (by decide +kernel) (by decide) (fun _ => ?_) (fun z => absurd q2 z)
      refine go_blk rfl [(.iconst (-1), 1, 0, 0, 0, .inl (-1))] 30 31 _ _ _ (by decide +kernel) ?_
      show Go _ _ _ _ _ _ 31 [(0, rm 0), (1, vi a0), (2, vi a1)] [vi ((-1))] (Y, (S, T)) _
      obtain ⟨rfl, rfl⟩ := Prod.mk.inj (Option.some.inj h)
      exact go_ireturn (by decide +kernel) rfl rfl ⟨rfl, rfl⟩
    · refine go_if_eq (off := 13) (tgt := 30) (by decide +kernel) (by decide) (fun z => absurd z q2) (fun _ => ?_)
      refine gd_el h (fun q3 h => ?_)
      refine go_blk rfl [(.aload_n 0, 1, 0, 0, 0, .inl 0), (.getfield 16, 3, 11, 3, 1, .inl 0), (.iload_n 1, 1, 1, 0, 0, .inl 0), (.iaload, 1, 20, 0, 0, .inl 0), (.iload_n 2, 1, 2, 0, 0, .inl 0)] 20 27 _ _ _ (by decide +kernel) ?_
      refine And.intro (lm_t0 hT) (Exists.intro _ (And.intro (gRm (lm_r3 hT)) ?_))
      refine And.intro (lm_t3 hT) (Exists.intro _ (And.intro (lm_n3 hT) (And.intro (inb_in q3) ?_)))
      show Go _ _ _ _ _ _ 27 [(0, rm 0), (1, vi a0), (2, vi a1)] [vi a1, vi (S.1 3 a0.toNatClampNeg)] (Y, (S, T)) _
      refine ite_el h (fun q4 h => ?_) (fun q4 h => ?_)
      · refine go_icmp_ne (off := 5) (tgt := 32) (by decide +kernel) (by decide) (fun z => absurd q4 z) (fun _ => ?_)
        refine go_blk rfl [(.iconst (-1), 1, 0, 0, 0, .inl (-1))] 30 31 _ _ _ (by decide +kernel) ?_
        show Go _ _ _ _ _ _ 31 [(0, rm 0), (1, vi a0), (2, vi a1)] [vi ((-1))] (Y, (S, T)) _
        obtain ⟨rfl, rfl⟩ := Prod.mk.inj (Option.some.inj h)
        exact go_ireturn (by decide +kernel) rfl rfl ⟨rfl, rfl⟩
      · refine go_icmp_ne (off := 5) (tgt := 32) (by decide +kernel) (by decide) (fun _ => ?_) (fun z => absurd z q4)
        refine go_blk rfl [(.aload_n 0, 1, 0, 0, 0, .inl 0)] 32 33 _ _ _ (by decide +kernel) ?_
        show Go _ _ _ _ _ _ 33 [(0, rm 0), (1, vi a0), (2, vi a1)] [rm 0] (Y, (S, T)) _
        obtain ⟨r3, hr3, h⟩ := bind_el h
        refine go_callV (idx := 423) (z := 0) (M' := M11_keepsAct) (n := 0) (A := []) (v' := none) (μ' := (Y, (r3.1, T))) (d' := 4) (mc' := 0) (ms' := 0) (kc' := 0) (ks' := 0) (ci := 11) (x := .inr (.inl 0)) (by decide +kernel) ml_11_423 rfl wv11_keepsAct rfl (by decide) rfl (lm_t0 hT) (ret11_keepsAct hT hr3) (by decide) rfl rfl (Nat.le_of_ble_eq_true rfl) rfl (jag rfl rfl) ?_
        show Go _ _ _ _ _ _ 36 [(0, rm 0), (1, vi a0), (2, vi a1)] [] (Y, (r3.1, T)) _
        refine go_blk rfl [(.aload_n 0, 1, 0, 0, 0, .inl 0), (.getfield 16, 3, 11, 3, 1, .inl 0), (.iload_n 1, 1, 1, 0, 0, .inl 0), (.iaload, 1, 20, 0, 0, .inl 0), (.istore_n 3, 1, 3, 0, 0, .inl 0), (.aload_n 0, 1, 0, 0, 0, .inl 0), (.getfield 16, 3, 11, 3, 1, .inl 0), (.iload_n 1, 1, 1, 0, 0, .inl 0), (.iload_n 2, 1, 2, 0, 0, .inl 0), (.iastore, 1, 20, 0, 0, .inl 0)] 36 50 _ _ _ (by decide +kernel) ?_
        refine And.intro (lm_t0 hT) (Exists.intro _ (And.intro (gRm (lm_r3 hT)) ?_))
        refine And.intro (lm_t3 hT) (Exists.intro _ (And.intro (lm_n3 hT) (And.intro (inb_in q3) ?_)))
        refine And.intro (lm_t0 hT) (Exists.intro _ (And.intro (gRm (lm_r3 hT)) ?_))
        refine And.intro (lm_t3 hT) (Exists.intro _ (And.intro (lm_n3 hT) (And.intro (inb_in q3) ?_)))
        show Go _ _ _ _ _ _ 50 [(3, vi (r3.1.1 3 a0.toNatClampNeg)), (0, rm 0), (1, vi a0), (2, vi a1)] [] (Y, (wI r3.1 3 a0.toNatClampNeg a1, T)) _
        refine go_blk rfl [(.iload_n 3, 1, 3, 0, 0, .inl 0)] 50 51 _ _ _ (by decide +kernel) ?_
        show Go _ _ _ _ _ _ 51 [(3, vi (r3.1.1 3 a0.toNatClampNeg)), (0, rm 0), (1, vi a0), (2, vi a1)] [vi (r3.1.1 3 a0.toNatClampNeg)] (Y, (wI r3.1 3 a0.toNatClampNeg a1, T)) _
        obtain ⟨rfl, rfl⟩ := Prod.mk.inj (Option.some.inj h)
        exact go_ireturn (by decide +kernel) rfl rfl ⟨rfl, rfl⟩
def f11_bring (S : jS) (a0 : Int32) : Option (jS × Int32) := Option.bind (f11_isChair S a0) (fun r1 => (if r1 = 0 then some (S, (-1)) else Option.bind (f11_has (S.1 1 7) a0) (fun r2 => (if r2 = 0 then Option.bind (f11_keepsAct S) (fun r3 => Option.bind (f11_bits ((wI r3.1 1 7 ((r3.1.1 1 7) ||| ((1 : Int32) <<< (a0 &&& 31)))).1 1 7)) (fun r4 => some (wI r3.1 1 7 ((r3.1.1 1 7) ||| ((1 : Int32) <<< (a0 &&& 31))), r4))) else some (S, (-1))))))
theorem ret11_bring {S : jS} {T : jT} {Y : jS × jT} {a0 : Int32} {S1 : jS} {x : Int32} (hT : LayM T) (h : f11_bring S a0 = some (S1, x)) : Ret M11_bring 5 0 0 [rm 0, vi a0] (Y, (S, T)) (some (vi x)) (Y, (S1, T)) := by
  refine Ret.of (by decide +kernel) (Nat.le_of_ble_eq_true rfl) ?_
  unfold f11_bring at h
  show Go _ _ _ _ _ _ 0 [(0, rm 0), (1, vi a0)] [] (Y, (S, T)) _
  refine go_blk rfl [(.aload_n 0, 1, 0, 0, 0, .inl 0), (.iload_n 1, 1, 1, 0, 0, .inl 0)] 0 2 _ _ _ (by decide +kernel) ?_
  show Go _ _ _ _ _ _ 2 [(0, rm 0), (1, vi a0)] [vi a0, rm 0] (Y, (S, T)) _
  obtain ⟨r1, hr1, h⟩ := bind_el h
  refine go_callV (idx := 353) (z := 0) (M' := M11_isChair) (n := 1) (A := [vi a0]) (v' := some (vi r1)) (μ' := (Y, (S, T))) (d' := 2) (mc' := 0) (ms' := 0) (kc' := 0) (ks' := 0) (ci := 11) (x := .inr (.inl 0)) (by decide +kernel) ml_11_353 rfl wv11_isChair rfl (by decide) rfl (lm_t0 hT) (ret11_isChair hT hr1) (by decide) rfl rfl (Nat.le_of_ble_eq_true rfl) rfl (jag rfl rfl) ?_
  show Go _ _ _ _ _ _ 5 [(0, rm 0), (1, vi a0)] [vi r1] (Y, (S, T)) _
  refine ite_el h (fun q1 h => ?_) (fun q1 h => ?_)
  · refine go_if_eq (off := 17) (tgt := 22) (by decide +kernel) (by decide) (fun _ => ?_) (fun z => absurd q1 z)
    refine go_blk rfl [(.iconst (-1), 1, 0, 0, 0, .inl (-1))] 22 23 _ _ _ (by decide +kernel) ?_
    show Go _ _ _ _ _ _ 23 [(0, rm 0), (1, vi a0)] [vi ((-1))] (Y, (S, T)) _
    obtain ⟨rfl, rfl⟩ := Prod.mk.inj (Option.some.inj h)
    exact go_ireturn (by decide +kernel) rfl rfl ⟨rfl, rfl⟩
  · refine go_if_eq (off := 17) (tgt := 22) (by decide +kernel) (by decide) (fun z => absurd z q1) (fun _ => ?_)
    refine go_blk rfl [(.aload_n 0, 1, 0, 0, 0, .inl 0), (.getfield 9, 3, 11, 1, 1, .inl 0), (.bipush 7, 2, 0, 0, 0, .inl 7), (.iaload, 1, 20, 0, 0, .inl 0), (.iload_n 1, 1, 1, 0, 0, .inl 0)] 8 16 _ _ _ (by decide +kernel) ?_
    refine And.intro (lm_t0 hT) (Exists.intro _ (And.intro (gRm (lm_r1 hT)) ?_))
    refine And.intro (lm_t1 hT) (Exists.intro _ (And.intro (lm_n1 hT) (And.intro (inb_in (by decide)) ?_)))
    show Go _ _ _ _ _ _ 16 [(0, rm 0), (1, vi a0)] [vi a0, vi (S.1 1 7)] (Y, (S, T)) _
    obtain ⟨r2, hr2, h⟩ := bind_el h
    refine go_callS (idx := 148) (z := 0) (M' := M11_has) (n := 2) (A := [vi (S.1 1 7), vi a0]) (v' := some (vi r2)) (μ' := (Y, (S, T))) (d' := 1) (mc' := 0) (ms' := 0) (kc' := 0) (ks' := 0) (by decide +kernel) ml_11_148 rfl ws11_has rfl (ret11_has hr2) (by decide) rfl rfl (Nat.le_of_ble_eq_true rfl) rfl (jag rfl rfl) ?_
    show Go _ _ _ _ _ _ 19 [(0, rm 0), (1, vi a0)] [vi r2] (Y, (S, T)) _
    refine ite_el h (fun q2 h => ?_) (fun q2 h => ?_)
    · refine go_if_eq (off := 5) (tgt := 24) (by decide +kernel) (by decide) (fun _ => ?_) (fun z => absurd q2 z)
      refine go_blk rfl [(.aload_n 0, 1, 0, 0, 0, .inl 0)] 24 25 _ _ _ (by decide +kernel) ?_
      show Go _ _ _ _ _ _ 25 [(0, rm 0), (1, vi a0)] [rm 0] (Y, (S, T)) _
      obtain ⟨r3, hr3, h⟩ := bind_el h
      refine go_callV (idx := 423) (z := 0) (M' := M11_keepsAct) (n := 0) (A := []) (v' := none) (μ' := (Y, (r3.1, T))) (d' := 4) (mc' := 0) (ms' := 0) (kc' := 0) (ks' := 0) (ci := 11) (x := .inr (.inl 0)) (by decide +kernel) ml_11_423 rfl wv11_keepsAct rfl (by decide) rfl (lm_t0 hT) (ret11_keepsAct hT hr3) (by decide) rfl rfl (Nat.le_of_ble_eq_true rfl) rfl (jag rfl rfl) ?_
      show Go _ _ _ _ _ _ 28 [(0, rm 0), (1, vi a0)] [] (Y, (r3.1, T)) _
      refine go_blk rfl [(.aload_n 0, 1, 0, 0, 0, .inl 0), (.getfield 9, 3, 11, 1, 1, .inl 0), (.bipush 7, 2, 0, 0, 0, .inl 7), (.dup2, 1, 0, 0, 0, .inl 0), (.iaload, 1, 20, 0, 0, .inl 0), (.iconst 1, 1, 0, 0, 0, .inl 1), (.iload_n 1, 1, 1, 0, 0, .inl 0), (.ishl, 1, 0, 0, 0, .inl 0), (.ior, 1, 0, 0, 0, .inl 0), (.iastore, 1, 20, 0, 0, .inl 0)] 28 41 _ _ _ (by decide +kernel) ?_
      refine And.intro (lm_t0 hT) (Exists.intro _ (And.intro (gRm (lm_r1 hT)) ?_))
      refine And.intro (lm_t1 hT) (Exists.intro _ (And.intro (lm_n1 hT) (And.intro (inb_in (by decide)) ?_)))
      refine And.intro (lm_t1 hT) (Exists.intro _ (And.intro (lm_n1 hT) (And.intro (inb_in (by decide)) ?_)))
      show Go _ _ _ _ _ _ 41 [(0, rm 0), (1, vi a0)] [] (Y, (wI r3.1 1 7 ((r3.1.1 1 7) ||| ((1 : Int32) <<< (a0 &&& 31))), T)) _
      refine go_blk rfl [(.aload_n 0, 1, 0, 0, 0, .inl 0), (.getfield 9, 3, 11, 1, 1, .inl 0), (.bipush 7, 2, 0, 0, 0, .inl 7), (.iaload, 1, 20, 0, 0, .inl 0)] 41 48 _ _ _ (by decide +kernel) ?_
      refine And.intro (lm_t0 hT) (Exists.intro _ (And.intro (gRm (lm_r1 hT)) ?_))
      refine And.intro (lm_t1 hT) (Exists.intro _ (And.intro (lm_n1 hT) (And.intro (inb_in (by decide)) ?_)))
      show Go _ _ _ _ _ _ 48 [(0, rm 0), (1, vi a0)] [vi ((wI r3.1 1 7 ((r3.1.1 1 7) ||| ((1 : Int32) <<< (a0 &&& 31)))).1 1 7)] (Y, (wI r3.1 1 7 ((r3.1.1 1 7) ||| ((1 : Int32) <<< (a0 &&& 31))), T)) _
      obtain ⟨r4, hr4, h⟩ := bind_el h
      refine go_callS (idx := 359) (z := 0) (M' := M11_bits) (n := 1) (A := [vi ((wI r3.1 1 7 ((r3.1.1 1 7) ||| ((1 : Int32) <<< (a0 &&& 31)))).1 1 7)]) (v' := some (vi r4)) (μ' := (Y, (wI r3.1 1 7 ((r3.1.1 1 7) ||| ((1 : Int32) <<< (a0 &&& 31))), T))) (d' := 1) (mc' := 0) (ms' := 0) (kc' := 0) (ks' := 0) (by decide +kernel) ml_11_359 rfl ws11_bits rfl (ret11_bits hr4) (by decide) rfl rfl (Nat.le_of_ble_eq_true rfl) rfl (jag rfl rfl) ?_
      show Go _ _ _ _ _ _ 51 [(0, rm 0), (1, vi a0)] [vi r4] (Y, (wI r3.1 1 7 ((r3.1.1 1 7) ||| ((1 : Int32) <<< (a0 &&& 31))), T)) _
      obtain ⟨rfl, rfl⟩ := Prod.mk.inj (Option.some.inj h)
      exact go_ireturn (by decide +kernel) rfl rfl ⟨rfl, rfl⟩
    · refine go_if_eq (off := 5) (tgt := 24) (by decide +kernel) (by decide) (fun z => absurd z q2) (fun _ => ?_)
      refine go_blk rfl [(.iconst (-1), 1, 0, 0, 0, .inl (-1))] 22 23 _ _ _ (by decide +kernel) ?_
      show Go _ _ _ _ _ _ 23 [(0, rm 0), (1, vi a0)] [vi ((-1))] (Y, (S, T)) _
      obtain ⟨rfl, rfl⟩ := Prod.mk.inj (Option.some.inj h)
      exact go_ireturn (by decide +kernel) rfl rfl ⟨rfl, rfl⟩
def f11_carryRow_L1 (a0 : Nat) (n0 : Nat) : Nat → jS → Int32 → Option jS
  | 0, _, _ => none
  | n + 1, S, l2 => (if (nI n0) ≤ l2 then some S else Option.bind (if (S.1 0 56) = 0 then (if inb l2 n0 then (if inb (S.1 0 55) 4750 then some (wI S 53 (S.1 0 55).toNatClampNeg (S.1 a0 l2.toNatClampNeg)) else none) else none) else (if inb (S.1 0 55) 4750 then (if inb l2 n0 then some (wI S a0 l2.toNatClampNeg (S.1 53 (S.1 0 55).toNatClampNeg)) else none) else none)) (fun (y1 : jS) => f11_carryRow_L1 a0 n0 n (wI y1 0 55 ((y1.1 0 55) + 1)) (l2 + 1)))
def f11_carryRow (S : jS) (a0 : Nat) (n0 : Nat) : Option (jS × Unit) := Option.bind (f11_carryRow_L1 a0 n0 jF S 0) (fun y2 => some (y2, ()))
theorem f11_carryRow_L1_ok {T : jT} {Y : jS × jT} {a0 : Nat} {n0 : Nat} {Q : Option jV → jMem → Prop} (hT : LayM T) (h0 : T.2.1 a0 = 20 ∧ T.2.2.1 a0 = n0) : ∀ (n : Nat) (S : jS) (l2 : Int32) (r : jS), f11_carryRow_L1 a0 n0 n S l2 = some r → Go M11_carryRow 1 0 0 0 0 58 [] [] (Y, (r, T)) Q → Go M11_carryRow 1 0 0 0 0 2 [(0, rm 0), (1, rm a0), (2, vi l2)] [] (Y, (S, T)) Q := by
  intro n
  induction n with
  | zero => intro S l2 r h k; exact absurd h (by intro z; cases z)
  | succ n ih =>
    intro S l2 r h k
    rw [f11_carryRow_L1] at h
    refine go_blk rfl [(.iload_n 2, 1, 2, 0, 0, .inl 0), (.aload_n 1, 1, 1, 0, 0, .inl 0), (.arraylength, 1, 20, 0, 0, .inl 0)] 2 5 _ _ _ (by decide +kernel) ?_
    refine And.intro h0.1 (Exists.intro _ (And.intro h0.2 ?_))
    show Go _ _ _ _ _ _ 5 [(0, rm 0), (1, rm a0), (2, vi l2)] [vi (nI n0), vi l2] (Y, (S, T)) _
    refine ite_el h (fun q1 h => ?_) (fun q1 h => ?_)
    · refine go_icmp_ge (off := 53) (tgt := 58) (by decide +kernel) (by decide) (fun _ => ?_) (fun z => absurd q1 z)
      obtain rfl := Option.some.inj h
      refine go_pick [] rfl ?_
      exact k
    · refine go_icmp_ge (off := 53) (tgt := 58) (by decide +kernel) (by decide) (fun z => absurd z q1) (fun _ => ?_)
      refine go_blk rfl [(.aload_n 0, 1, 0, 0, 0, .inl 0), (.getfield 511, 3, 11, 56, 2, .inl 0)] 8 12 _ _ _ (by decide +kernel) ?_
      refine And.intro (lm_t0 hT) ?_
      show Go _ _ _ _ _ _ 12 [(0, rm 0), (1, rm a0), (2, vi l2)] [vi (S.1 0 56)] (Y, (S, T)) _
      obtain ⟨y1, hy1, h⟩ := bind_el h
      have key : Go M11_carryRow 1 0 0 0 0 42 [(0, rm 0), (1, rm a0), (2, vi l2)] [] (Y, (y1, T)) Q := by
        refine go_blk rfl [(.aload_n 0, 1, 0, 0, 0, .inl 0), (.dup, 1, 0, 0, 0, .inl 0), (.getfield 514, 3, 11, 55, 0, .inl 0), (.iconst 1, 1, 0, 0, 0, .inl 1), (.iadd, 1, 0, 0, 0, .inl 0), (.putfield 514, 3, 11, 55, 0, .inl 0)] 42 52 _ _ _ (by decide +kernel) ?_
        refine And.intro (lm_t0 hT) ?_
        refine And.intro (lm_t0 hT) (And.intro trivial ?_)
        show Go _ _ _ _ _ _ 52 [(0, rm 0), (1, rm a0), (2, vi l2)] [] (Y, (wI y1 0 55 ((y1.1 0 55) + 1), T)) _
        refine go_blk rfl [(.iinc 2 1, 3, 2, 0, 0, .inl 1)] 52 55 _ _ _ (by decide +kernel) ?_
        show Go _ _ _ _ _ _ 55 [(2, vi (l2 + 1)), (0, rm 0), (1, rm a0)] [] (Y, (wI y1 0 55 ((y1.1 0 55) + 1), T)) _
        refine go_goto (off := (-53)) (tgt := 2) (by decide +kernel) (by decide) ?_
        refine go_pick [1, 2, 0] rfl ?_
        exact ih _ _ _ h k
      replace h := hy1
      refine ite_el h (fun q2 h => ?_) (fun q2 h => ?_)
      · refine go_if_eq (off := 18) (tgt := 30) (by decide +kernel) (by decide) (fun _ => ?_) (fun z => absurd q2 z)
        refine gd_el h (fun q3 h => ?_)
        refine gd_el h (fun q4 h => ?_)
        refine go_blk rfl [(.aload_n 0, 1, 0, 0, 0, .inl 0), (.getfield 130, 3, 11, 53, 1, .inl 0), (.aload_n 0, 1, 0, 0, 0, .inl 0), (.getfield 514, 3, 11, 55, 0, .inl 0), (.aload_n 1, 1, 1, 0, 0, .inl 0), (.iload_n 2, 1, 2, 0, 0, .inl 0), (.iaload, 1, 20, 0, 0, .inl 0), (.iastore, 1, 20, 0, 0, .inl 0)] 30 42 _ _ _ (by decide +kernel) ?_
        refine And.intro (lm_t0 hT) (Exists.intro _ (And.intro (gRm (lm_r53 hT)) ?_))
        refine And.intro (lm_t0 hT) ?_
        refine And.intro h0.1 (Exists.intro _ (And.intro h0.2 (And.intro (inb_in q3) ?_)))
        refine And.intro (lm_t53 hT) (Exists.intro _ (And.intro (lm_n53 hT) (And.intro (inb_in q4) ?_)))
        show Go _ _ _ _ _ _ 42 [(0, rm 0), (1, rm a0), (2, vi l2)] [] (Y, (wI S 53 (S.1 0 55).toNatClampNeg (S.1 a0 l2.toNatClampNeg), T)) _
        obtain rfl := Option.some.inj h
        refine go_pick [0, 1, 2] rfl ?_
        exact key
      · refine go_if_eq (off := 18) (tgt := 30) (by decide +kernel) (by decide) (fun z => absurd z q2) (fun _ => ?_)
        refine gd_el h (fun q5 h => ?_)
        refine gd_el h (fun q6 h => ?_)
        refine go_blk rfl [(.aload_n 1, 1, 1, 0, 0, .inl 0), (.iload_n 2, 1, 2, 0, 0, .inl 0), (.aload_n 0, 1, 0, 0, 0, .inl 0), (.getfield 130, 3, 11, 53, 1, .inl 0), (.aload_n 0, 1, 0, 0, 0, .inl 0), (.getfield 514, 3, 11, 55, 0, .inl 0), (.iaload, 1, 20, 0, 0, .inl 0), (.iastore, 1, 20, 0, 0, .inl 0)] 15 27 _ _ _ (by decide +kernel) ?_
        refine And.intro (lm_t0 hT) (Exists.intro _ (And.intro (gRm (lm_r53 hT)) ?_))
        refine And.intro (lm_t0 hT) ?_
        refine And.intro (lm_t53 hT) (Exists.intro _ (And.intro (lm_n53 hT) (And.intro (inb_in q5) ?_)))
        refine And.intro h0.1 (Exists.intro _ (And.intro h0.2 (And.intro (inb_in q6) ?_)))
        show Go _ _ _ _ _ _ 27 [(0, rm 0), (1, rm a0), (2, vi l2)] [] (Y, (wI S a0 l2.toNatClampNeg (S.1 53 (S.1 0 55).toNatClampNeg), T)) _
        refine go_goto (off := 15) (tgt := 42) (by decide +kernel) (by decide) ?_
        obtain rfl := Option.some.inj h
        refine go_pick [0, 1, 2] rfl ?_
        exact key
theorem ret11_carryRow {S : jS} {T : jT} {Y : jS × jT} {a0 : Nat} {n0 : Nat} {S1 : jS} {x : Unit} (hT : LayM T) (h0 : T.2.1 a0 = 20 ∧ T.2.2.1 a0 = n0) (h : f11_carryRow S a0 n0 = some (S1, x)) : Ret M11_carryRow 1 0 0 [rm 0, rm a0] (Y, (S, T)) (none) (Y, (S1, T)) := by
  refine Ret.of (by decide +kernel) (Nat.le_of_ble_eq_true rfl) ?_
  unfold f11_carryRow at h
  show Go _ _ _ _ _ _ 0 [(0, rm 0), (1, rm a0)] [] (Y, (S, T)) _
  refine go_blk rfl [(.iconst 0, 1, 0, 0, 0, .inl 0), (.istore_n 2, 1, 2, 0, 0, .inl 0)] 0 2 _ _ _ (by decide +kernel) ?_
  show Go _ _ _ _ _ _ 2 [(2, vi 0), (0, rm 0), (1, rm a0)] [] (Y, (S, T)) _
  refine go_pick [1, 2, 0] rfl ?_
  obtain ⟨y2, hy2, h⟩ := bind_el h
  refine f11_carryRow_L1_ok hT h0 _ _ _ _ hy2 ?_
  show Go _ _ _ _ _ _ 58 [] [] (Y, (y2, T)) _
  obtain ⟨rfl, rfl⟩ := Prod.mk.inj (Option.some.inj h)
  exact go_return (by decide +kernel) rfl ⟨rfl, rfl⟩
def f11_carriesAll (S : jS) (a0 : Int32) (a1 : Int32) : Option (jS × Unit) := (if a1 = 0 ∨ a1 = 1 then Option.bind (f11_carryRow (wI (wI S 0 55 (950 * a0)) 0 56 a1) 1 11) (fun r1 => Option.bind (f11_carryRow r1.1 2 7) (fun r2 => Option.bind (f11_carryRow r2.1 3 7) (fun r3 => Option.bind (f11_carryRow r3.1 4 7) (fun r4 => Option.bind (f11_carryRow r4.1 5 7) (fun r5 => Option.bind (f11_carryRow r5.1 6 7) (fun r6 => (if a0 = 4 then some (r6.1, ()) else Option.bind (f11_carryRow (wI r6.1 43 0 (r6.1.1 0 44)) 43 1) (fun r7 => Option.bind (f11_carryRow (wI r7.1 0 44 (r7.1.1 43 0)) 7 6) (fun r8 => Option.bind (f11_carryRow r8.1 8 10) (fun r9 => Option.bind (f11_carryRow r9.1 9 10) (fun r10 => Option.bind (f11_carryRow r10.1 10 10) (fun r11 => Option.bind (f11_carryRow r11.1 11 7) (fun r12 => Option.bind (f11_carryRow r12.1 12 7) (fun r13 => Option.bind (f11_carryRow r13.1 13 7) (fun r14 => Option.bind (f11_carryRow r14.1 42 800) (fun r15 => some (r15.1, ()))))))))))))))))) else none)
theorem ret11_carriesAll {S : jS} {T : jT} {Y : jS × jT} {a0 : Int32} {a1 : Int32} {S1 : jS} {x : Unit} (hT : LayM T) (h : f11_carriesAll S a0 a1 = some (S1, x)) : Ret M11_carriesAll 2 0 0 [rm 0, vi a0, vi a1] (Y, (S, T)) (none) (Y, (S1, T)) := by
  refine Ret.of (by decide +kernel) (Nat.le_of_ble_eq_true rfl) ?_
  unfold f11_carriesAll at h
  show Go _ _ _ _ _ _ 0 [(0, rm 0), (1, vi a0), (2, vi a1)] [] (Y, (S, T)) _
  refine go_blk rfl [(.aload_n 0, 1, 0, 0, 0, .inl 0), (.sipush 950, 3, 0, 0, 0, .inl 950), (.iload_n 1, 1, 1, 0, 0, .inl 0), (.imul, 1, 0, 0, 0, .inl 0), (.putfield 514, 3, 11, 55, 0, .inl 0)] 0 9 _ _ _ (by decide +kernel) ?_
  refine And.intro (lm_t0 hT) (And.intro trivial ?_)
  show Go _ _ _ _ _ _ 9 [(0, rm 0), (1, vi a0), (2, vi a1)] [] (Y, (wI S 0 55 (950 * a0), T)) _
  refine gd_el h (fun q1 h => ?_)
  refine go_blk rfl [(.aload_n 0, 1, 0, 0, 0, .inl 0), (.iload_n 2, 1, 2, 0, 0, .inl 0), (.putfield 511, 3, 11, 56, 2, .inl 0)] 9 14 _ _ _ (by decide +kernel) ?_
  refine And.intro (lm_t0 hT) (And.intro ⟨rfl, q1⟩ ?_)
  show Go _ _ _ _ _ _ 14 [(0, rm 0), (1, vi a0), (2, vi a1)] [] (Y, (wI (wI S 0 55 (950 * a0)) 0 56 a1, T)) _
  refine go_blk rfl [(.aload_n 0, 1, 0, 0, 0, .inl 0), (.aload_n 0, 1, 0, 0, 0, .inl 0), (.getfield 9, 3, 11, 1, 1, .inl 0)] 14 19 _ _ _ (by decide +kernel) ?_
  refine And.intro (lm_t0 hT) (Exists.intro _ (And.intro (gRm (lm_r1 hT)) ?_))
  show Go _ _ _ _ _ _ 19 [(0, rm 0), (1, vi a0), (2, vi a1)] [rm 1, rm 0] (Y, (wI (wI S 0 55 (950 * a0)) 0 56 a1, T)) _
  obtain ⟨r1, hr1, h⟩ := bind_el h
  refine go_callV (idx := 517) (z := 0) (M' := M11_carryRow) (n := 1) (A := [rm 1]) (v' := none) (μ' := (Y, (r1.1, T))) (d' := 1) (mc' := 0) (ms' := 0) (kc' := 0) (ks' := 0) (ci := 11) (x := .inr (.inl 0)) (by decide +kernel) ml_11_517 rfl wv11_carryRow rfl (by decide) rfl (lm_t0 hT) (ret11_carryRow hT ⟨(lm_t1 hT), (lm_n1 hT)⟩ hr1) (by decide) rfl rfl (Nat.le_of_ble_eq_true rfl) rfl (jag rfl rfl) ?_
  show Go _ _ _ _ _ _ 22 [(0, rm 0), (1, vi a0), (2, vi a1)] [] (Y, (r1.1, T)) _
  refine go_blk rfl [(.aload_n 0, 1, 0, 0, 0, .inl 0), (.aload_n 0, 1, 0, 0, 0, .inl 0), (.getfield 13, 3, 11, 2, 1, .inl 0)] 22 27 _ _ _ (by decide +kernel) ?_
  refine And.intro (lm_t0 hT) (Exists.intro _ (And.intro (gRm (lm_r2 hT)) ?_))
  show Go _ _ _ _ _ _ 27 [(0, rm 0), (1, vi a0), (2, vi a1)] [rm 2, rm 0] (Y, (r1.1, T)) _
  obtain ⟨r2, hr2, h⟩ := bind_el h
  refine go_callV (idx := 517) (z := 0) (M' := M11_carryRow) (n := 1) (A := [rm 2]) (v' := none) (μ' := (Y, (r2.1, T))) (d' := 1) (mc' := 0) (ms' := 0) (kc' := 0) (ks' := 0) (ci := 11) (x := .inr (.inl 0)) (by decide +kernel) ml_11_517 rfl wv11_carryRow rfl (by decide) rfl (lm_t0 hT) (ret11_carryRow hT ⟨(lm_t2 hT), (lm_n2 hT)⟩ hr2) (by decide) rfl rfl (Nat.le_of_ble_eq_true rfl) rfl (jag rfl rfl) ?_
  show Go _ _ _ _ _ _ 30 [(0, rm 0), (1, vi a0), (2, vi a1)] [] (Y, (r2.1, T)) _
  refine go_blk rfl [(.aload_n 0, 1, 0, 0, 0, .inl 0), (.aload_n 0, 1, 0, 0, 0, .inl 0), (.getfield 16, 3, 11, 3, 1, .inl 0)] 30 35 _ _ _ (by decide +kernel) ?_
  refine And.intro (lm_t0 hT) (Exists.intro _ (And.intro (gRm (lm_r3 hT)) ?_))
  show Go _ _ _ _ _ _ 35 [(0, rm 0), (1, vi a0), (2, vi a1)] [rm 3, rm 0] (Y, (r2.1, T)) _
  obtain ⟨r3, hr3, h⟩ := bind_el h
  refine go_callV (idx := 517) (z := 0) (M' := M11_carryRow) (n := 1) (A := [rm 3]) (v' := none) (μ' := (Y, (r3.1, T))) (d' := 1) (mc' := 0) (ms' := 0) (kc' := 0) (ks' := 0) (ci := 11) (x := .inr (.inl 0)) (by decide +kernel) ml_11_517 rfl wv11_carryRow rfl (by decide) rfl (lm_t0 hT) (ret11_carryRow hT ⟨(lm_t3 hT), (lm_n3 hT)⟩ hr3) (by decide) rfl rfl (Nat.le_of_ble_eq_true rfl) rfl (jag rfl rfl) ?_
  show Go _ _ _ _ _ _ 38 [(0, rm 0), (1, vi a0), (2, vi a1)] [] (Y, (r3.1, T)) _
  refine go_blk rfl [(.aload_n 0, 1, 0, 0, 0, .inl 0), (.aload_n 0, 1, 0, 0, 0, .inl 0), (.getfield 19, 3, 11, 4, 1, .inl 0)] 38 43 _ _ _ (by decide +kernel) ?_
  refine And.intro (lm_t0 hT) (Exists.intro _ (And.intro (gRm (lm_r4 hT)) ?_))
  show Go _ _ _ _ _ _ 43 [(0, rm 0), (1, vi a0), (2, vi a1)] [rm 4, rm 0] (Y, (r3.1, T)) _
  obtain ⟨r4, hr4, h⟩ := bind_el h
  refine go_callV (idx := 517) (z := 0) (M' := M11_carryRow) (n := 1) (A := [rm 4]) (v' := none) (μ' := (Y, (r4.1, T))) (d' := 1) (mc' := 0) (ms' := 0) (kc' := 0) (ks' := 0) (ci := 11) (x := .inr (.inl 0)) (by decide +kernel) ml_11_517 rfl wv11_carryRow rfl (by decide) rfl (lm_t0 hT) (ret11_carryRow hT ⟨(lm_t4 hT), (lm_n4 hT)⟩ hr4) (by decide) rfl rfl (Nat.le_of_ble_eq_true rfl) rfl (jag rfl rfl) ?_
  show Go _ _ _ _ _ _ 46 [(0, rm 0), (1, vi a0), (2, vi a1)] [] (Y, (r4.1, T)) _
  refine go_blk rfl [(.aload_n 0, 1, 0, 0, 0, .inl 0), (.aload_n 0, 1, 0, 0, 0, .inl 0), (.getfield 22, 3, 11, 5, 1, .inl 0)] 46 51 _ _ _ (by decide +kernel) ?_
  refine And.intro (lm_t0 hT) (Exists.intro _ (And.intro (gRm (lm_r5 hT)) ?_))
  show Go _ _ _ _ _ _ 51 [(0, rm 0), (1, vi a0), (2, vi a1)] [rm 5, rm 0] (Y, (r4.1, T)) _
  obtain ⟨r5, hr5, h⟩ := bind_el h
  refine go_callV (idx := 517) (z := 0) (M' := M11_carryRow) (n := 1) (A := [rm 5]) (v' := none) (μ' := (Y, (r5.1, T))) (d' := 1) (mc' := 0) (ms' := 0) (kc' := 0) (ks' := 0) (ci := 11) (x := .inr (.inl 0)) (by decide +kernel) ml_11_517 rfl wv11_carryRow rfl (by decide) rfl (lm_t0 hT) (ret11_carryRow hT ⟨(lm_t5 hT), (lm_n5 hT)⟩ hr5) (by decide) rfl rfl (Nat.le_of_ble_eq_true rfl) rfl (jag rfl rfl) ?_
  show Go _ _ _ _ _ _ 54 [(0, rm 0), (1, vi a0), (2, vi a1)] [] (Y, (r5.1, T)) _
  refine go_blk rfl [(.aload_n 0, 1, 0, 0, 0, .inl 0), (.aload_n 0, 1, 0, 0, 0, .inl 0), (.getfield 25, 3, 11, 6, 1, .inl 0)] 54 59 _ _ _ (by decide +kernel) ?_
  refine And.intro (lm_t0 hT) (Exists.intro _ (And.intro (gRm (lm_r6 hT)) ?_))
  show Go _ _ _ _ _ _ 59 [(0, rm 0), (1, vi a0), (2, vi a1)] [rm 6, rm 0] (Y, (r5.1, T)) _
  obtain ⟨r6, hr6, h⟩ := bind_el h
  refine go_callV (idx := 517) (z := 0) (M' := M11_carryRow) (n := 1) (A := [rm 6]) (v' := none) (μ' := (Y, (r6.1, T))) (d' := 1) (mc' := 0) (ms' := 0) (kc' := 0) (ks' := 0) (ci := 11) (x := .inr (.inl 0)) (by decide +kernel) ml_11_517 rfl wv11_carryRow rfl (by decide) rfl (lm_t0 hT) (ret11_carryRow hT ⟨(lm_t6 hT), (lm_n6 hT)⟩ hr6) (by decide) rfl rfl (Nat.le_of_ble_eq_true rfl) rfl (jag rfl rfl) ?_
  show Go _ _ _ _ _ _ 62 [(0, rm 0), (1, vi a0), (2, vi a1)] [] (Y, (r6.1, T)) _
  refine go_blk rfl [(.iload_n 1, 1, 1, 0, 0, .inl 0), (.iconst 4, 1, 0, 0, 0, .inl 4)] 62 64 _ _ _ (by decide +kernel) ?_
  show Go _ _ _ _ _ _ 64 [(0, rm 0), (1, vi a0), (2, vi a1)] [vi 4, vi a0] (Y, (r6.1, T)) _
  refine ite_el h (fun q2 h => ?_) (fun q2 h => ?_)
  · refine go_icmp_ne (off := 4) (tgt := 68) (by decide +kernel) (by decide) (fun z => absurd q2 z) (fun _ => ?_)
    obtain ⟨rfl, rfl⟩ := Prod.mk.inj (Option.some.inj h)
    exact go_return (by decide +kernel) rfl ⟨rfl, rfl⟩
  · refine go_icmp_ne (off := 4) (tgt := 68) (by decide +kernel) (by decide) (fun _ => ?_) (fun z => absurd z q2)
    refine go_blk rfl [(.aload_n 0, 1, 0, 0, 0, .inl 0), (.getfield 109, 3, 11, 43, 1, .inl 0), (.iconst 0, 1, 0, 0, 0, .inl 0), (.aload_n 0, 1, 0, 0, 0, .inl 0), (.getfield 320, 3, 11, 44, 0, .inl 0), (.iastore, 1, 20, 0, 0, .inl 0)] 68 78 _ _ _ (by decide +kernel) ?_
    refine And.intro (lm_t0 hT) (Exists.intro _ (And.intro (gRm (lm_r43 hT)) ?_))
    refine And.intro (lm_t0 hT) ?_
    refine And.intro (lm_t43 hT) (Exists.intro _ (And.intro (lm_n43 hT) (And.intro (inb_in (by decide)) ?_)))
    show Go _ _ _ _ _ _ 78 [(0, rm 0), (1, vi a0), (2, vi a1)] [] (Y, (wI r6.1 43 0 (r6.1.1 0 44), T)) _
    refine go_blk rfl [(.aload_n 0, 1, 0, 0, 0, .inl 0), (.aload_n 0, 1, 0, 0, 0, .inl 0), (.getfield 109, 3, 11, 43, 1, .inl 0)] 78 83 _ _ _ (by decide +kernel) ?_
    refine And.intro (lm_t0 hT) (Exists.intro _ (And.intro (gRm (lm_r43 hT)) ?_))
    show Go _ _ _ _ _ _ 83 [(0, rm 0), (1, vi a0), (2, vi a1)] [rm 43, rm 0] (Y, (wI r6.1 43 0 (r6.1.1 0 44), T)) _
    obtain ⟨r7, hr7, h⟩ := bind_el h
    refine go_callV (idx := 517) (z := 0) (M' := M11_carryRow) (n := 1) (A := [rm 43]) (v' := none) (μ' := (Y, (r7.1, T))) (d' := 1) (mc' := 0) (ms' := 0) (kc' := 0) (ks' := 0) (ci := 11) (x := .inr (.inl 0)) (by decide +kernel) ml_11_517 rfl wv11_carryRow rfl (by decide) rfl (lm_t0 hT) (ret11_carryRow hT ⟨(lm_t43 hT), (lm_n43 hT)⟩ hr7) (by decide) rfl rfl (Nat.le_of_ble_eq_true rfl) rfl (jag rfl rfl) ?_
    show Go _ _ _ _ _ _ 86 [(0, rm 0), (1, vi a0), (2, vi a1)] [] (Y, (r7.1, T)) _
    refine go_blk rfl [(.aload_n 0, 1, 0, 0, 0, .inl 0), (.aload_n 0, 1, 0, 0, 0, .inl 0), (.getfield 109, 3, 11, 43, 1, .inl 0), (.iconst 0, 1, 0, 0, 0, .inl 0), (.iaload, 1, 20, 0, 0, .inl 0), (.putfield 320, 3, 11, 44, 0, .inl 0)] 86 96 _ _ _ (by decide +kernel) ?_
    refine And.intro (lm_t0 hT) (Exists.intro _ (And.intro (gRm (lm_r43 hT)) ?_))
    refine And.intro (lm_t43 hT) (Exists.intro _ (And.intro (lm_n43 hT) (And.intro (inb_in (by decide)) ?_)))
    refine And.intro (lm_t0 hT) (And.intro trivial ?_)
    show Go _ _ _ _ _ _ 96 [(0, rm 0), (1, vi a0), (2, vi a1)] [] (Y, (wI r7.1 0 44 (r7.1.1 43 0), T)) _
    refine go_blk rfl [(.aload_n 0, 1, 0, 0, 0, .inl 0), (.aload_n 0, 1, 0, 0, 0, .inl 0), (.getfield 28, 3, 11, 7, 1, .inl 0)] 96 101 _ _ _ (by decide +kernel) ?_
    refine And.intro (lm_t0 hT) (Exists.intro _ (And.intro (gRm (lm_r7 hT)) ?_))
    show Go _ _ _ _ _ _ 101 [(0, rm 0), (1, vi a0), (2, vi a1)] [rm 7, rm 0] (Y, (wI r7.1 0 44 (r7.1.1 43 0), T)) _
    obtain ⟨r8, hr8, h⟩ := bind_el h
    refine go_callV (idx := 517) (z := 0) (M' := M11_carryRow) (n := 1) (A := [rm 7]) (v' := none) (μ' := (Y, (r8.1, T))) (d' := 1) (mc' := 0) (ms' := 0) (kc' := 0) (ks' := 0) (ci := 11) (x := .inr (.inl 0)) (by decide +kernel) ml_11_517 rfl wv11_carryRow rfl (by decide) rfl (lm_t0 hT) (ret11_carryRow hT ⟨(lm_t7 hT), (lm_n7 hT)⟩ hr8) (by decide) rfl rfl (Nat.le_of_ble_eq_true rfl) rfl (jag rfl rfl) ?_
    show Go _ _ _ _ _ _ 104 [(0, rm 0), (1, vi a0), (2, vi a1)] [] (Y, (r8.1, T)) _
    refine go_blk rfl [(.aload_n 0, 1, 0, 0, 0, .inl 0), (.aload_n 0, 1, 0, 0, 0, .inl 0), (.getfield 31, 3, 11, 8, 1, .inl 0)] 104 109 _ _ _ (by decide +kernel) ?_
    refine And.intro (lm_t0 hT) (Exists.intro _ (And.intro (gRm (lm_r8 hT)) ?_))
    show Go _ _ _ _ _ _ 109 [(0, rm 0), (1, vi a0), (2, vi a1)] [rm 8, rm 0] (Y, (r8.1, T)) _
    obtain ⟨r9, hr9, h⟩ := bind_el h
    refine go_callV (idx := 517) (z := 0) (M' := M11_carryRow) (n := 1) (A := [rm 8]) (v' := none) (μ' := (Y, (r9.1, T))) (d' := 1) (mc' := 0) (ms' := 0) (kc' := 0) (ks' := 0) (ci := 11) (x := .inr (.inl 0)) (by decide +kernel) ml_11_517 rfl wv11_carryRow rfl (by decide) rfl (lm_t0 hT) (ret11_carryRow hT ⟨(lm_t8 hT), (lm_n8 hT)⟩ hr9) (by decide) rfl rfl (Nat.le_of_ble_eq_true rfl) rfl (jag rfl rfl) ?_
    show Go _ _ _ _ _ _ 112 [(0, rm 0), (1, vi a0), (2, vi a1)] [] (Y, (r9.1, T)) _
    refine go_blk rfl [(.aload_n 0, 1, 0, 0, 0, .inl 0), (.aload_n 0, 1, 0, 0, 0, .inl 0), (.getfield 34, 3, 11, 9, 1, .inl 0)] 112 117 _ _ _ (by decide +kernel) ?_
    refine And.intro (lm_t0 hT) (Exists.intro _ (And.intro (gRm (lm_r9 hT)) ?_))
    show Go _ _ _ _ _ _ 117 [(0, rm 0), (1, vi a0), (2, vi a1)] [rm 9, rm 0] (Y, (r9.1, T)) _
    obtain ⟨r10, hr10, h⟩ := bind_el h
    refine go_callV (idx := 517) (z := 0) (M' := M11_carryRow) (n := 1) (A := [rm 9]) (v' := none) (μ' := (Y, (r10.1, T))) (d' := 1) (mc' := 0) (ms' := 0) (kc' := 0) (ks' := 0) (ci := 11) (x := .inr (.inl 0)) (by decide +kernel) ml_11_517 rfl wv11_carryRow rfl (by decide) rfl (lm_t0 hT) (ret11_carryRow hT ⟨(lm_t9 hT), (lm_n9 hT)⟩ hr10) (by decide) rfl rfl (Nat.le_of_ble_eq_true rfl) rfl (jag rfl rfl) ?_
    show Go _ _ _ _ _ _ 120 [(0, rm 0), (1, vi a0), (2, vi a1)] [] (Y, (r10.1, T)) _
    refine go_blk rfl [(.aload_n 0, 1, 0, 0, 0, .inl 0), (.aload_n 0, 1, 0, 0, 0, .inl 0), (.getfield 37, 3, 11, 10, 1, .inl 0)] 120 125 _ _ _ (by decide +kernel) ?_
    refine And.intro (lm_t0 hT) (Exists.intro _ (And.intro (gRm (lm_r10 hT)) ?_))
    show Go _ _ _ _ _ _ 125 [(0, rm 0), (1, vi a0), (2, vi a1)] [rm 10, rm 0] (Y, (r10.1, T)) _
    obtain ⟨r11, hr11, h⟩ := bind_el h
    refine go_callV (idx := 517) (z := 0) (M' := M11_carryRow) (n := 1) (A := [rm 10]) (v' := none) (μ' := (Y, (r11.1, T))) (d' := 1) (mc' := 0) (ms' := 0) (kc' := 0) (ks' := 0) (ci := 11) (x := .inr (.inl 0)) (by decide +kernel) ml_11_517 rfl wv11_carryRow rfl (by decide) rfl (lm_t0 hT) (ret11_carryRow hT ⟨(lm_t10 hT), (lm_n10 hT)⟩ hr11) (by decide) rfl rfl (Nat.le_of_ble_eq_true rfl) rfl (jag rfl rfl) ?_
    show Go _ _ _ _ _ _ 128 [(0, rm 0), (1, vi a0), (2, vi a1)] [] (Y, (r11.1, T)) _
    refine go_blk rfl [(.aload_n 0, 1, 0, 0, 0, .inl 0), (.aload_n 0, 1, 0, 0, 0, .inl 0), (.getfield 40, 3, 11, 11, 1, .inl 0)] 128 133 _ _ _ (by decide +kernel) ?_
    refine And.intro (lm_t0 hT) (Exists.intro _ (And.intro (gRm (lm_r11 hT)) ?_))
    show Go _ _ _ _ _ _ 133 [(0, rm 0), (1, vi a0), (2, vi a1)] [rm 11, rm 0] (Y, (r11.1, T)) _
    obtain ⟨r12, hr12, h⟩ := bind_el h
    refine go_callV (idx := 517) (z := 0) (M' := M11_carryRow) (n := 1) (A := [rm 11]) (v' := none) (μ' := (Y, (r12.1, T))) (d' := 1) (mc' := 0) (ms' := 0) (kc' := 0) (ks' := 0) (ci := 11) (x := .inr (.inl 0)) (by decide +kernel) ml_11_517 rfl wv11_carryRow rfl (by decide) rfl (lm_t0 hT) (ret11_carryRow hT ⟨(lm_t11 hT), (lm_n11 hT)⟩ hr12) (by decide) rfl rfl (Nat.le_of_ble_eq_true rfl) rfl (jag rfl rfl) ?_
    show Go _ _ _ _ _ _ 136 [(0, rm 0), (1, vi a0), (2, vi a1)] [] (Y, (r12.1, T)) _
    refine go_blk rfl [(.aload_n 0, 1, 0, 0, 0, .inl 0), (.aload_n 0, 1, 0, 0, 0, .inl 0), (.getfield 43, 3, 11, 12, 1, .inl 0)] 136 141 _ _ _ (by decide +kernel) ?_
    refine And.intro (lm_t0 hT) (Exists.intro _ (And.intro (gRm (lm_r12 hT)) ?_))
    show Go _ _ _ _ _ _ 141 [(0, rm 0), (1, vi a0), (2, vi a1)] [rm 12, rm 0] (Y, (r12.1, T)) _
    obtain ⟨r13, hr13, h⟩ := bind_el h
    refine go_callV (idx := 517) (z := 0) (M' := M11_carryRow) (n := 1) (A := [rm 12]) (v' := none) (μ' := (Y, (r13.1, T))) (d' := 1) (mc' := 0) (ms' := 0) (kc' := 0) (ks' := 0) (ci := 11) (x := .inr (.inl 0)) (by decide +kernel) ml_11_517 rfl wv11_carryRow rfl (by decide) rfl (lm_t0 hT) (ret11_carryRow hT ⟨(lm_t12 hT), (lm_n12 hT)⟩ hr13) (by decide) rfl rfl (Nat.le_of_ble_eq_true rfl) rfl (jag rfl rfl) ?_
    show Go _ _ _ _ _ _ 144 [(0, rm 0), (1, vi a0), (2, vi a1)] [] (Y, (r13.1, T)) _
    refine go_blk rfl [(.aload_n 0, 1, 0, 0, 0, .inl 0), (.aload_n 0, 1, 0, 0, 0, .inl 0), (.getfield 46, 3, 11, 13, 1, .inl 0)] 144 149 _ _ _ (by decide +kernel) ?_
    refine And.intro (lm_t0 hT) (Exists.intro _ (And.intro (gRm (lm_r13 hT)) ?_))
    show Go _ _ _ _ _ _ 149 [(0, rm 0), (1, vi a0), (2, vi a1)] [rm 13, rm 0] (Y, (r13.1, T)) _
    obtain ⟨r14, hr14, h⟩ := bind_el h
    refine go_callV (idx := 517) (z := 0) (M' := M11_carryRow) (n := 1) (A := [rm 13]) (v' := none) (μ' := (Y, (r14.1, T))) (d' := 1) (mc' := 0) (ms' := 0) (kc' := 0) (ks' := 0) (ci := 11) (x := .inr (.inl 0)) (by decide +kernel) ml_11_517 rfl wv11_carryRow rfl (by decide) rfl (lm_t0 hT) (ret11_carryRow hT ⟨(lm_t13 hT), (lm_n13 hT)⟩ hr14) (by decide) rfl rfl (Nat.le_of_ble_eq_true rfl) rfl (jag rfl rfl) ?_
    show Go _ _ _ _ _ _ 152 [(0, rm 0), (1, vi a0), (2, vi a1)] [] (Y, (r14.1, T)) _
    refine go_blk rfl [(.aload_n 0, 1, 0, 0, 0, .inl 0), (.aload_n 0, 1, 0, 0, 0, .inl 0), (.getfield 106, 3, 11, 42, 1, .inl 0)] 152 157 _ _ _ (by decide +kernel) ?_
    refine And.intro (lm_t0 hT) (Exists.intro _ (And.intro (gRm (lm_r42 hT)) ?_))
    show Go _ _ _ _ _ _ 157 [(0, rm 0), (1, vi a0), (2, vi a1)] [rm 42, rm 0] (Y, (r14.1, T)) _
    obtain ⟨r15, hr15, h⟩ := bind_el h
    refine go_callV (idx := 517) (z := 0) (M' := M11_carryRow) (n := 1) (A := [rm 42]) (v' := none) (μ' := (Y, (r15.1, T))) (d' := 1) (mc' := 0) (ms' := 0) (kc' := 0) (ks' := 0) (ci := 11) (x := .inr (.inl 0)) (by decide +kernel) ml_11_517 rfl wv11_carryRow rfl (by decide) rfl (lm_t0 hT) (ret11_carryRow hT ⟨(lm_t42 hT), (lm_n42 hT)⟩ hr15) (by decide) rfl rfl (Nat.le_of_ble_eq_true rfl) rfl (jag rfl rfl) ?_
    show Go _ _ _ _ _ _ 160 [(0, rm 0), (1, vi a0), (2, vi a1)] [] (Y, (r15.1, T)) _
    obtain ⟨rfl, rfl⟩ := Prod.mk.inj (Option.some.inj h)
    exact go_return (by decide +kernel) rfl ⟨rfl, rfl⟩
def f11_keepsAll (S : jS) : Option (jS × Unit) := Option.bind (f11_carriesAll S 4 0) (fun r1 => some (r1.1, ()))
theorem ret11_keepsAll {S : jS} {T : jT} {Y : jS × jT} {S1 : jS} {x : Unit} (hT : LayM T) (h : f11_keepsAll S = some (S1, x)) : Ret M11_keepsAll 3 0 0 [rm 0] (Y, (S, T)) (none) (Y, (S1, T)) := by
  refine Ret.of (by decide +kernel) (Nat.le_of_ble_eq_true rfl) ?_
  unfold f11_keepsAll at h
  show Go _ _ _ _ _ _ 0 [(0, rm 0)] [] (Y, (S, T)) _
  refine go_blk rfl [(.aload_n 0, 1, 0, 0, 0, .inl 0), (.iconst 4, 1, 0, 0, 0, .inl 4), (.iconst 0, 1, 0, 0, 0, .inl 0)] 0 3 _ _ _ (by decide +kernel) ?_
  show Go _ _ _ _ _ _ 3 [(0, rm 0)] [vi 0, vi 4, rm 0] (Y, (S, T)) _
  obtain ⟨r1, hr1, h⟩ := bind_el h
  refine go_callV (idx := 431) (z := 0) (M' := M11_carriesAll) (n := 2) (A := [vi 4, vi 0]) (v' := none) (μ' := (Y, (r1.1, T))) (d' := 2) (mc' := 0) (ms' := 0) (kc' := 0) (ks' := 0) (ci := 11) (x := .inr (.inl 0)) (by decide +kernel) ml_11_431 rfl wv11_carriesAll rfl (by decide) rfl (lm_t0 hT) (ret11_carriesAll hT hr1) (by decide) rfl rfl (Nat.le_of_ble_eq_true rfl) rfl (jag rfl rfl) ?_
  show Go _ _ _ _ _ _ 6 [(0, rm 0)] [] (Y, (r1.1, T)) _
  obtain ⟨rfl, rfl⟩ := Prod.mk.inj (Option.some.inj h)
  exact go_return (by decide +kernel) rfl ⟨rfl, rfl⟩
def f11_laysBack (S : jS) : Option (jS × Unit) := Option.bind (f11_carriesAll S 4 1) (fun r1 => some (r1.1, ()))
theorem ret11_laysBack {S : jS} {T : jT} {Y : jS × jT} {S1 : jS} {x : Unit} (hT : LayM T) (h : f11_laysBack S = some (S1, x)) : Ret M11_laysBack 3 0 0 [rm 0] (Y, (S, T)) (none) (Y, (S1, T)) := by
  refine Ret.of (by decide +kernel) (Nat.le_of_ble_eq_true rfl) ?_
  unfold f11_laysBack at h
  show Go _ _ _ _ _ _ 0 [(0, rm 0)] [] (Y, (S, T)) _
  refine go_blk rfl [(.aload_n 0, 1, 0, 0, 0, .inl 0), (.iconst 4, 1, 0, 0, 0, .inl 4), (.iconst 1, 1, 0, 0, 0, .inl 1)] 0 3 _ _ _ (by decide +kernel) ?_
  show Go _ _ _ _ _ _ 3 [(0, rm 0)] [vi 1, vi 4, rm 0] (Y, (S, T)) _
  obtain ⟨r1, hr1, h⟩ := bind_el h
  refine go_callV (idx := 431) (z := 0) (M' := M11_carriesAll) (n := 2) (A := [vi 4, vi 1]) (v' := none) (μ' := (Y, (r1.1, T))) (d' := 2) (mc' := 0) (ms' := 0) (kc' := 0) (ks' := 0) (ci := 11) (x := .inr (.inl 0)) (by decide +kernel) ml_11_431 rfl wv11_carriesAll rfl (by decide) rfl (lm_t0 hT) (ret11_carriesAll hT hr1) (by decide) rfl rfl (Nat.le_of_ble_eq_true rfl) rfl (jag rfl rfl) ?_
  show Go _ _ _ _ _ _ 6 [(0, rm 0)] [] (Y, (r1.1, T)) _
  obtain ⟨rfl, rfl⟩ := Prod.mk.inj (Option.some.inj h)
  exact go_return (by decide +kernel) rfl ⟨rfl, rfl⟩
def f11_ahead (S : jS) (a0 : Int32) (a1 : Int32) (a2 : Int32) : Option (jS × Int32) := Option.bind (f11_isParty S) (fun r1 => (if r1 = 0 then some (S, (-1)) else Option.bind (f11_in a2.toInt64 0 2) (fun r2 => (if r2 = 0 then some (S, (-1)) else (if a2 = 0 then Option.bind (f11_isGuest S a0) (fun r3 => (if r3 = 0 then some (S, (-1)) else Option.bind (f11_in a1.toInt64 0 40) (fun r4 => (if r4 = 0 then some (S, (-1)) else Option.bind (f11_keepsAll S) (fun r5 => Option.bind (f11_goFor r5.1 a1) (fun r6 => Option.bind (if a2 = 0 then (if inb a0 7 then some (r6.1.1 2 a0.toNatClampNeg) else none) else (if a2 = 1 then some (r6.1.1 1 6) else some (r6.1.1 1 7))) (fun (y7 : Int32) => Option.bind (f11_laysBack r6.1) (fun r8 => some (r8.1, y7))))))))) else Option.bind (f11_in a1.toInt64 0 40) (fun r9 => (if r9 = 0 then some (S, (-1)) else Option.bind (f11_keepsAll S) (fun r10 => Option.bind (f11_goFor r10.1 a1) (fun r11 => Option.bind (if a2 = 0 then (if inb a0 7 then some (r11.1.1 2 a0.toNatClampNeg) else none) else (if a2 = 1 then some (r11.1.1 1 6) else some (r11.1.1 1 7))) (fun (y12 : Int32) => Option.bind (f11_laysBack r11.1) (fun r13 => some (r13.1, y12))))))))))))
theorem ret11_ahead {S : jS} {T : jT} {Y : jS × jT} {a0 : Int32} {a1 : Int32} {a2 : Int32} {S1 : jS} {x : Int32} (hT : LayM T) (h : f11_ahead S a0 a1 a2 = some (S1, x)) : Ret M11_ahead 8 0 0 [rm 0, vi a0, vi a1, vi a2] (Y, (S, T)) (some (vi x)) (Y, (S1, T)) := by
  refine Ret.of (by decide +kernel) (Nat.le_of_ble_eq_true rfl) ?_
  unfold f11_ahead at h
  show Go _ _ _ _ _ _ 0 [(0, rm 0), (1, vi a0), (2, vi a1), (3, vi a2)] [] (Y, (S, T)) _
  refine go_blk rfl [(.aload_n 0, 1, 0, 0, 0, .inl 0)] 0 1 _ _ _ (by decide +kernel) ?_
  show Go _ _ _ _ _ _ 1 [(0, rm 0), (1, vi a0), (2, vi a1), (3, vi a2)] [rm 0] (Y, (S, T)) _
  obtain ⟨r1, hr1, h⟩ := bind_el h
  refine go_callV (idx := 420) (z := 0) (M' := M11_isParty) (n := 0) (A := []) (v' := some (vi r1)) (μ' := (Y, (S, T))) (d' := 1) (mc' := 0) (ms' := 0) (kc' := 0) (ks' := 0) (ci := 11) (x := .inr (.inl 0)) (by decide +kernel) ml_11_420 rfl wv11_isParty rfl (by decide) rfl (lm_t0 hT) (ret11_isParty hT hr1) (by decide) rfl rfl (Nat.le_of_ble_eq_true rfl) rfl (jag rfl rfl) ?_
  show Go _ _ _ _ _ _ 4 [(0, rm 0), (1, vi a0), (2, vi a1), (3, vi a2)] [vi r1] (Y, (S, T)) _
  refine ite_el h (fun q1 h => ?_) (fun q1 h => ?_)
  · refine go_if_eq (off := 39) (tgt := 43) (by decide +kernel) (by decide) (fun _ => ?_) (fun z => absurd q1 z)
    refine go_blk rfl [(.iconst (-1), 1, 0, 0, 0, .inl (-1))] 43 44 _ _ _ (by decide +kernel) ?_
    show Go _ _ _ _ _ _ 44 [(0, rm 0), (1, vi a0), (2, vi a1), (3, vi a2)] [vi ((-1))] (Y, (S, T)) _
    obtain ⟨rfl, rfl⟩ := Prod.mk.inj (Option.some.inj h)
    exact go_ireturn (by decide +kernel) rfl rfl ⟨rfl, rfl⟩
  · refine go_if_eq (off := 39) (tgt := 43) (by decide +kernel) (by decide) (fun z => absurd z q1) (fun _ => ?_)
    refine go_blk rfl [(.iload_n 3, 1, 3, 0, 0, .inl 0), (.i2l, 1, 0, 0, 0, .inl 0), (.lconst 0, 1, 0, 0, 0, .inr (.inl 0)), (.ldc2_w 434, 3, 0, 0, 0, .inr (.inl 2))] 7 13 _ _ _ (by decide +kernel) ?_
    show Go _ _ _ _ _ _ 13 [(0, rm 0), (1, vi a0), (2, vi a1), (3, vi a2)] [vl 2, vl 0, vl a2.toInt64] (Y, (S, T)) _
    obtain ⟨r2, hr2, h⟩ := bind_el h
    refine go_callS (idx := 140) (z := 0) (M' := M11_in) (n := 3) (A := [vl a2.toInt64, vl 0, vl 2]) (v' := some (vi r2)) (μ' := (Y, (S, T))) (d' := 1) (mc' := 0) (ms' := 0) (kc' := 0) (ks' := 0) (by decide +kernel) ml_11_140 rfl ws11_in rfl (ret11_in hr2) (by decide) rfl rfl (Nat.le_of_ble_eq_true rfl) rfl (jag rfl rfl) ?_
    show Go _ _ _ _ _ _ 16 [(0, rm 0), (1, vi a0), (2, vi a1), (3, vi a2)] [vi r2] (Y, (S, T)) _
    refine ite_el h (fun q2 h => ?_) (fun q2 h => ?_)
    · refine go_if_eq (off := 27) (tgt := 43) (by decide +kernel) (by decide) (fun _ => ?_) (fun z => absurd q2 z)
      refine go_blk rfl [(.iconst (-1), 1, 0, 0, 0, .inl (-1))] 43 44 _ _ _ (by decide +kernel) ?_
      show Go _ _ _ _ _ _ 44 [(0, rm 0), (1, vi a0), (2, vi a1), (3, vi a2)] [vi ((-1))] (Y, (S, T)) _
      obtain ⟨rfl, rfl⟩ := Prod.mk.inj (Option.some.inj h)
      exact go_ireturn (by decide +kernel) rfl rfl ⟨rfl, rfl⟩
    · refine go_if_eq (off := 27) (tgt := 43) (by decide +kernel) (by decide) (fun z => absurd z q2) (fun _ => ?_)
      refine go_blk rfl [(.iload_n 3, 1, 3, 0, 0, .inl 0)] 19 20 _ _ _ (by decide +kernel) ?_
      show Go _ _ _ _ _ _ 20 [(0, rm 0), (1, vi a0), (2, vi a1), (3, vi a2)] [vi a2] (Y, (S, T)) _
      refine ite_el h (fun q3 h => ?_) (fun q3 h => ?_)
      · refine go_if_ne (off := 11) (tgt := 31) (by decide +kernel) (by decide) (fun z => absurd q3 z) (fun _ => ?_)
        refine go_blk rfl [(.aload_n 0, 1, 0, 0, 0, .inl 0), (.iload_n 1, 1, 1, 0, 0, .inl 0)] 23 25 _ _ _ (by decide +kernel) ?_
        show Go _ _ _ _ _ _ 25 [(0, rm 0), (1, vi a0), (2, vi a1), (3, vi a2)] [vi a0, rm 0] (Y, (S, T)) _
        obtain ⟨r3, hr3, h⟩ := bind_el h
        refine go_callV (idx := 144) (z := 0) (M' := M11_isGuest) (n := 1) (A := [vi a0]) (v' := some (vi r3)) (μ' := (Y, (S, T))) (d' := 2) (mc' := 0) (ms' := 0) (kc' := 0) (ks' := 0) (ci := 11) (x := .inr (.inl 0)) (by decide +kernel) ml_11_144 rfl wv11_isGuest rfl (by decide) rfl (lm_t0 hT) (ret11_isGuest hT hr3) (by decide) rfl rfl (Nat.le_of_ble_eq_true rfl) rfl (jag rfl rfl) ?_
        show Go _ _ _ _ _ _ 28 [(0, rm 0), (1, vi a0), (2, vi a1), (3, vi a2)] [vi r3] (Y, (S, T)) _
        refine ite_el h (fun q4 h => ?_) (fun q4 h => ?_)
        · refine go_if_eq (off := 15) (tgt := 43) (by decide +kernel) (by decide) (fun _ => ?_) (fun z => absurd q4 z)
          refine go_blk rfl [(.iconst (-1), 1, 0, 0, 0, .inl (-1))] 43 44 _ _ _ (by decide +kernel) ?_
          show Go _ _ _ _ _ _ 44 [(0, rm 0), (1, vi a0), (2, vi a1), (3, vi a2)] [vi ((-1))] (Y, (S, T)) _
          obtain ⟨rfl, rfl⟩ := Prod.mk.inj (Option.some.inj h)
          exact go_ireturn (by decide +kernel) rfl rfl ⟨rfl, rfl⟩
        · refine go_if_eq (off := 15) (tgt := 43) (by decide +kernel) (by decide) (fun z => absurd z q4) (fun _ => ?_)
          refine go_blk rfl [(.iload_n 2, 1, 2, 0, 0, .inl 0), (.i2l, 1, 0, 0, 0, .inl 0), (.lconst 0, 1, 0, 0, 0, .inr (.inl 0)), (.ldc2_w 436, 3, 0, 0, 0, .inr (.inl 40))] 31 37 _ _ _ (by decide +kernel) ?_
          show Go _ _ _ _ _ _ 37 [(0, rm 0), (1, vi a0), (2, vi a1), (3, vi a2)] [vl 40, vl 0, vl a1.toInt64] (Y, (S, T)) _
          obtain ⟨r4, hr4, h⟩ := bind_el h
          refine go_callS (idx := 140) (z := 0) (M' := M11_in) (n := 3) (A := [vl a1.toInt64, vl 0, vl 40]) (v' := some (vi r4)) (μ' := (Y, (S, T))) (d' := 1) (mc' := 0) (ms' := 0) (kc' := 0) (ks' := 0) (by decide +kernel) ml_11_140 rfl ws11_in rfl (ret11_in hr4) (by decide) rfl rfl (Nat.le_of_ble_eq_true rfl) rfl (jag rfl rfl) ?_
          show Go _ _ _ _ _ _ 40 [(0, rm 0), (1, vi a0), (2, vi a1), (3, vi a2)] [vi r4] (Y, (S, T)) _
          refine ite_el h (fun q5 h => ?_) (fun q5 h => ?_)
          · refine go_if_ne (off := 5) (tgt := 45) (by decide +kernel) (by decide) (fun z => absurd q5 z) (fun _ => ?_)
            refine go_blk rfl [(.iconst (-1), 1, 0, 0, 0, .inl (-1))] 43 44 _ _ _ (by decide +kernel) ?_
            show Go _ _ _ _ _ _ 44 [(0, rm 0), (1, vi a0), (2, vi a1), (3, vi a2)] [vi ((-1))] (Y, (S, T)) _
            obtain ⟨rfl, rfl⟩ := Prod.mk.inj (Option.some.inj h)
            exact go_ireturn (by decide +kernel) rfl rfl ⟨rfl, rfl⟩
          · refine go_if_ne (off := 5) (tgt := 45) (by decide +kernel) (by decide) (fun _ => ?_) (fun z => absurd z q5)
            refine go_blk rfl [(.aload_n 0, 1, 0, 0, 0, .inl 0)] 45 46 _ _ _ (by decide +kernel) ?_
            show Go _ _ _ _ _ _ 46 [(0, rm 0), (1, vi a0), (2, vi a1), (3, vi a2)] [rm 0] (Y, (S, T)) _
            obtain ⟨r5, hr5, h⟩ := bind_el h
            refine go_callV (idx := 438) (z := 0) (M' := M11_keepsAll) (n := 0) (A := []) (v' := none) (μ' := (Y, (r5.1, T))) (d' := 3) (mc' := 0) (ms' := 0) (kc' := 0) (ks' := 0) (ci := 11) (x := .inr (.inl 0)) (by decide +kernel) ml_11_438 rfl wv11_keepsAll rfl (by decide) rfl (lm_t0 hT) (ret11_keepsAll hT hr5) (by decide) rfl rfl (Nat.le_of_ble_eq_true rfl) rfl (jag rfl rfl) ?_
            show Go _ _ _ _ _ _ 49 [(0, rm 0), (1, vi a0), (2, vi a1), (3, vi a2)] [] (Y, (r5.1, T)) _
            refine go_blk rfl [(.aload_n 0, 1, 0, 0, 0, .inl 0), (.iload_n 2, 1, 2, 0, 0, .inl 0)] 49 51 _ _ _ (by decide +kernel) ?_
            show Go _ _ _ _ _ _ 51 [(0, rm 0), (1, vi a0), (2, vi a1), (3, vi a2)] [vi a1, rm 0] (Y, (r5.1, T)) _
            obtain ⟨r6, hr6, h⟩ := bind_el h
            refine go_callV (idx := 441) (z := 0) (M' := M11_goFor) (n := 1) (A := [vi a1]) (v' := none) (μ' := (Y, (r6.1, T))) (d' := 7) (mc' := 0) (ms' := 0) (kc' := 0) (ks' := 0) (ci := 11) (x := .inr (.inl 0)) (by decide +kernel) ml_11_441 rfl wv11_goFor rfl (by decide) rfl (lm_t0 hT) (ret11_goFor hT hr6) (by decide) rfl rfl (Nat.le_of_ble_eq_true rfl) rfl (jag rfl rfl) ?_
            show Go _ _ _ _ _ _ 54 [(0, rm 0), (1, vi a0), (2, vi a1), (3, vi a2)] [] (Y, (r6.1, T)) _
            refine go_blk rfl [(.iload_n 3, 1, 3, 0, 0, .inl 0)] 54 55 _ _ _ (by decide +kernel) ?_
            show Go _ _ _ _ _ _ 55 [(0, rm 0), (1, vi a0), (2, vi a1), (3, vi a2)] [vi a2] (Y, (r6.1, T)) _
            obtain ⟨y7, hy7, h⟩ := bind_el h
            have key : Go M11_ahead 8 0 0 0 0 89 [(0, rm 0)] [vi y7] (Y, (r6.1, T)) (eqQ (some (vi x)) (Y, (S1, T))) := by
              refine go_blk rfl [(.istore 4, 2, 4, 0, 0, .inl 0), (.aload_n 0, 1, 0, 0, 0, .inl 0)] 89 92 _ _ _ (by decide +kernel) ?_
              show Go _ _ _ _ _ _ 92 [(4, vi y7), (0, rm 0)] [rm 0] (Y, (r6.1, T)) _
              obtain ⟨r8, hr8, h⟩ := bind_el h
              refine go_callV (idx := 444) (z := 0) (M' := M11_laysBack) (n := 0) (A := []) (v' := none) (μ' := (Y, (r8.1, T))) (d' := 3) (mc' := 0) (ms' := 0) (kc' := 0) (ks' := 0) (ci := 11) (x := .inr (.inl 0)) (by decide +kernel) ml_11_444 rfl wv11_laysBack rfl (by decide) rfl (lm_t0 hT) (ret11_laysBack hT hr8) (by decide) rfl rfl (Nat.le_of_ble_eq_true rfl) rfl (jag rfl rfl) ?_
              show Go _ _ _ _ _ _ 95 [(4, vi y7), (0, rm 0)] [] (Y, (r8.1, T)) _
              refine go_blk rfl [(.iload 4, 2, 4, 0, 0, .inl 0)] 95 97 _ _ _ (by decide +kernel) ?_
              show Go _ _ _ _ _ _ 97 [(4, vi y7), (0, rm 0)] [vi y7] (Y, (r8.1, T)) _
              obtain ⟨rfl, rfl⟩ := Prod.mk.inj (Option.some.inj h)
              exact go_ireturn (by decide +kernel) rfl rfl ⟨rfl, rfl⟩
            replace h := hy7
            refine ite_el h (fun q6 h => ?_) (fun q6 h => ?_)
            · refine go_if_ne (off := 12) (tgt := 67) (by decide +kernel) (by decide) (fun z => absurd q6 z) (fun _ => ?_)
              refine gd_el h (fun q7 h => ?_)
              refine go_blk rfl [(.aload_n 0, 1, 0, 0, 0, .inl 0), (.getfield 13, 3, 11, 2, 1, .inl 0), (.iload_n 1, 1, 1, 0, 0, .inl 0), (.iaload, 1, 20, 0, 0, .inl 0)] 58 64 _ _ _ (by decide +kernel) ?_
              refine And.intro (lm_t0 hT) (Exists.intro _ (And.intro (gRm (lm_r2 hT)) ?_))
              refine And.intro (lm_t2 hT) (Exists.intro _ (And.intro (lm_n2 hT) (And.intro (inb_in q7) ?_)))
              show Go _ _ _ _ _ _ 64 [(0, rm 0), (1, vi a0), (2, vi a1), (3, vi a2)] [vi (r6.1.1 2 a0.toNatClampNeg)] (Y, (r6.1, T)) _
              refine go_goto (off := 25) (tgt := 89) (by decide +kernel) (by decide) ?_
              obtain rfl := Option.some.inj h
              refine go_pick [0] rfl ?_
              exact key
            · refine go_if_ne (off := 12) (tgt := 67) (by decide +kernel) (by decide) (fun _ => ?_) (fun z => absurd z q6)
              refine go_blk rfl [(.iload_n 3, 1, 3, 0, 0, .inl 0), (.iconst 1, 1, 0, 0, 0, .inl 1)] 67 69 _ _ _ (by decide +kernel) ?_
              show Go _ _ _ _ _ _ 69 [(0, rm 0), (1, vi a0), (2, vi a1), (3, vi a2)] [vi 1, vi a2] (Y, (r6.1, T)) _
              refine ite_el h (fun q8 h => ?_) (fun q8 h => ?_)
              · refine go_icmp_ne (off := 13) (tgt := 82) (by decide +kernel) (by decide) (fun z => absurd q8 z) (fun _ => ?_)
                refine go_blk rfl [(.aload_n 0, 1, 0, 0, 0, .inl 0), (.getfield 9, 3, 11, 1, 1, .inl 0), (.bipush 6, 2, 0, 0, 0, .inl 6), (.iaload, 1, 20, 0, 0, .inl 0)] 72 79 _ _ _ (by decide +kernel) ?_
                refine And.intro (lm_t0 hT) (Exists.intro _ (And.intro (gRm (lm_r1 hT)) ?_))
                refine And.intro (lm_t1 hT) (Exists.intro _ (And.intro (lm_n1 hT) (And.intro (inb_in (by decide)) ?_)))
                show Go _ _ _ _ _ _ 79 [(0, rm 0), (1, vi a0), (2, vi a1), (3, vi a2)] [vi (r6.1.1 1 6)] (Y, (r6.1, T)) _
                refine go_goto (off := 10) (tgt := 89) (by decide +kernel) (by decide) ?_
                obtain rfl := Option.some.inj h
                refine go_pick [0] rfl ?_
                exact key
              · refine go_icmp_ne (off := 13) (tgt := 82) (by decide +kernel) (by decide) (fun _ => ?_) (fun z => absurd z q8)
                refine go_blk rfl [(.aload_n 0, 1, 0, 0, 0, .inl 0), (.getfield 9, 3, 11, 1, 1, .inl 0), (.bipush 7, 2, 0, 0, 0, .inl 7), (.iaload, 1, 20, 0, 0, .inl 0)] 82 89 _ _ _ (by decide +kernel) ?_
                refine And.intro (lm_t0 hT) (Exists.intro _ (And.intro (gRm (lm_r1 hT)) ?_))
                refine And.intro (lm_t1 hT) (Exists.intro _ (And.intro (lm_n1 hT) (And.intro (inb_in (by decide)) ?_)))
                show Go _ _ _ _ _ _ 89 [(0, rm 0), (1, vi a0), (2, vi a1), (3, vi a2)] [vi (r6.1.1 1 7)] (Y, (r6.1, T)) _
                obtain rfl := Option.some.inj h
                refine go_pick [0] rfl ?_
                exact key
      · refine go_if_ne (off := 11) (tgt := 31) (by decide +kernel) (by decide) (fun _ => ?_) (fun z => absurd z q3)
        refine go_blk rfl [(.iload_n 2, 1, 2, 0, 0, .inl 0), (.i2l, 1, 0, 0, 0, .inl 0), (.lconst 0, 1, 0, 0, 0, .inr (.inl 0)), (.ldc2_w 436, 3, 0, 0, 0, .inr (.inl 40))] 31 37 _ _ _ (by decide +kernel) ?_
        show Go _ _ _ _ _ _ 37 [(0, rm 0), (1, vi a0), (2, vi a1), (3, vi a2)] [vl 40, vl 0, vl a1.toInt64] (Y, (S, T)) _
        obtain ⟨r9, hr9, h⟩ := bind_el h
        refine go_callS (idx := 140) (z := 0) (M' := M11_in) (n := 3) (A := [vl a1.toInt64, vl 0, vl 40]) (v' := some (vi r9)) (μ' := (Y, (S, T))) (d' := 1) (mc' := 0) (ms' := 0) (kc' := 0) (ks' := 0) (by decide +kernel) ml_11_140 rfl ws11_in rfl (ret11_in hr9) (by decide) rfl rfl (Nat.le_of_ble_eq_true rfl) rfl (jag rfl rfl) ?_
        show Go _ _ _ _ _ _ 40 [(0, rm 0), (1, vi a0), (2, vi a1), (3, vi a2)] [vi r9] (Y, (S, T)) _
        refine ite_el h (fun q9 h => ?_) (fun q9 h => ?_)
        · refine go_if_ne (off := 5) (tgt := 45) (by decide +kernel) (by decide) (fun z => absurd q9 z) (fun _ => ?_)
          refine go_blk rfl [(.iconst (-1), 1, 0, 0, 0, .inl (-1))] 43 44 _ _ _ (by decide +kernel) ?_
          show Go _ _ _ _ _ _ 44 [(0, rm 0), (1, vi a0), (2, vi a1), (3, vi a2)] [vi ((-1))] (Y, (S, T)) _
          obtain ⟨rfl, rfl⟩ := Prod.mk.inj (Option.some.inj h)
          exact go_ireturn (by decide +kernel) rfl rfl ⟨rfl, rfl⟩
        · refine go_if_ne (off := 5) (tgt := 45) (by decide +kernel) (by decide) (fun _ => ?_) (fun z => absurd z q9)
          refine go_blk rfl [(.aload_n 0, 1, 0, 0, 0, .inl 0)] 45 46 _ _ _ (by decide +kernel) ?_
          show Go _ _ _ _ _ _ 46 [(0, rm 0), (1, vi a0), (2, vi a1), (3, vi a2)] [rm 0] (Y, (S, T)) _
          obtain ⟨r10, hr10, h⟩ := bind_el h
          refine go_callV (idx := 438) (z := 0) (M' := M11_keepsAll) (n := 0) (A := []) (v' := none) (μ' := (Y, (r10.1, T))) (d' := 3) (mc' := 0) (ms' := 0) (kc' := 0) (ks' := 0) (ci := 11) (x := .inr (.inl 0)) (by decide +kernel) ml_11_438 rfl wv11_keepsAll rfl (by decide) rfl (lm_t0 hT) (ret11_keepsAll hT hr10) (by decide) rfl rfl (Nat.le_of_ble_eq_true rfl) rfl (jag rfl rfl) ?_
          show Go _ _ _ _ _ _ 49 [(0, rm 0), (1, vi a0), (2, vi a1), (3, vi a2)] [] (Y, (r10.1, T)) _
          refine go_blk rfl [(.aload_n 0, 1, 0, 0, 0, .inl 0), (.iload_n 2, 1, 2, 0, 0, .inl 0)] 49 51 _ _ _ (by decide +kernel) ?_
          show Go _ _ _ _ _ _ 51 [(0, rm 0), (1, vi a0), (2, vi a1), (3, vi a2)] [vi a1, rm 0] (Y, (r10.1, T)) _
          obtain ⟨r11, hr11, h⟩ := bind_el h
          refine go_callV (idx := 441) (z := 0) (M' := M11_goFor) (n := 1) (A := [vi a1]) (v' := none) (μ' := (Y, (r11.1, T))) (d' := 7) (mc' := 0) (ms' := 0) (kc' := 0) (ks' := 0) (ci := 11) (x := .inr (.inl 0)) (by decide +kernel) ml_11_441 rfl wv11_goFor rfl (by decide) rfl (lm_t0 hT) (ret11_goFor hT hr11) (by decide) rfl rfl (Nat.le_of_ble_eq_true rfl) rfl (jag rfl rfl) ?_
          show Go _ _ _ _ _ _ 54 [(0, rm 0), (1, vi a0), (2, vi a1), (3, vi a2)] [] (Y, (r11.1, T)) _
          refine go_blk rfl [(.iload_n 3, 1, 3, 0, 0, .inl 0)] 54 55 _ _ _ (by decide +kernel) ?_
          show Go _ _ _ _ _ _ 55 [(0, rm 0), (1, vi a0), (2, vi a1), (3, vi a2)] [vi a2] (Y, (r11.1, T)) _
          obtain ⟨y12, hy12, h⟩ := bind_el h
          have key : Go M11_ahead 8 0 0 0 0 89 [(0, rm 0)] [vi y12] (Y, (r11.1, T)) (eqQ (some (vi x)) (Y, (S1, T))) := by
            refine go_blk rfl [(.istore 4, 2, 4, 0, 0, .inl 0), (.aload_n 0, 1, 0, 0, 0, .inl 0)] 89 92 _ _ _ (by decide +kernel) ?_
            show Go _ _ _ _ _ _ 92 [(4, vi y12), (0, rm 0)] [rm 0] (Y, (r11.1, T)) _
            obtain ⟨r13, hr13, h⟩ := bind_el h
            refine go_callV (idx := 444) (z := 0) (M' := M11_laysBack) (n := 0) (A := []) (v' := none) (μ' := (Y, (r13.1, T))) (d' := 3) (mc' := 0) (ms' := 0) (kc' := 0) (ks' := 0) (ci := 11) (x := .inr (.inl 0)) (by decide +kernel) ml_11_444 rfl wv11_laysBack rfl (by decide) rfl (lm_t0 hT) (ret11_laysBack hT hr13) (by decide) rfl rfl (Nat.le_of_ble_eq_true rfl) rfl (jag rfl rfl) ?_
            show Go _ _ _ _ _ _ 95 [(4, vi y12), (0, rm 0)] [] (Y, (r13.1, T)) _
            refine go_blk rfl [(.iload 4, 2, 4, 0, 0, .inl 0)] 95 97 _ _ _ (by decide +kernel) ?_
            show Go _ _ _ _ _ _ 97 [(4, vi y12), (0, rm 0)] [vi y12] (Y, (r13.1, T)) _
            obtain ⟨rfl, rfl⟩ := Prod.mk.inj (Option.some.inj h)
            exact go_ireturn (by decide +kernel) rfl rfl ⟨rfl, rfl⟩
          replace h := hy12
          refine ite_el h (fun q10 h => ?_) (fun q10 h => ?_)
          · refine go_if_ne (off := 12) (tgt := 67) (by decide +kernel) (by decide) (fun z => absurd q10 z) (fun _ => ?_)
            refine gd_el h (fun q11 h => ?_)
            refine go_blk rfl [(.aload_n 0, 1, 0, 0, 0, .inl 0), (.getfield 13, 3, 11, 2, 1, .inl 0), (.iload_n 1, 1, 1, 0, 0, .inl 0), (.iaload, 1, 20, 0, 0, .inl 0)] 58 64 _ _ _ (by decide +kernel) ?_
            refine And.intro (lm_t0 hT) (Exists.intro _ (And.intro (gRm (lm_r2 hT)) ?_))
            refine And.intro (lm_t2 hT) (Exists.intro _ (And.intro (lm_n2 hT) (And.intro (inb_in q11) ?_)))
            show Go _ _ _ _ _ _ 64 [(0, rm 0), (1, vi a0), (2, vi a1), (3, vi a2)] [vi (r11.1.1 2 a0.toNatClampNeg)] (Y, (r11.1, T)) _
            refine go_goto (off := 25) (tgt := 89) (by decide +kernel) (by decide) ?_
            obtain rfl := Option.some.inj h
            refine go_pick [0] rfl ?_
            exact key
          · refine go_if_ne (off := 12) (tgt := 67) (by decide +kernel) (by decide) (fun _ => ?_) (fun z => absurd z q10)
            refine go_blk rfl [(.iload_n 3, 1, 3, 0, 0, .inl 0), (.iconst 1, 1, 0, 0, 0, .inl 1)] 67 69 _ _ _ (by decide +kernel) ?_
            show Go _ _ _ _ _ _ 69 [(0, rm 0), (1, vi a0), (2, vi a1), (3, vi a2)] [vi 1, vi a2] (Y, (r11.1, T)) _
            refine ite_el h (fun q12 h => ?_) (fun q12 h => ?_)
            · refine go_icmp_ne (off := 13) (tgt := 82) (by decide +kernel) (by decide) (fun z => absurd q12 z) (fun _ => ?_)
              refine go_blk rfl [(.aload_n 0, 1, 0, 0, 0, .inl 0), (.getfield 9, 3, 11, 1, 1, .inl 0), (.bipush 6, 2, 0, 0, 0, .inl 6), (.iaload, 1, 20, 0, 0, .inl 0)] 72 79 _ _ _ (by decide +kernel) ?_
              refine And.intro (lm_t0 hT) (Exists.intro _ (And.intro (gRm (lm_r1 hT)) ?_))
              refine And.intro (lm_t1 hT) (Exists.intro _ (And.intro (lm_n1 hT) (And.intro (inb_in (by decide)) ?_)))
              show Go _ _ _ _ _ _ 79 [(0, rm 0), (1, vi a0), (2, vi a1), (3, vi a2)] [vi (r11.1.1 1 6)] (Y, (r11.1, T)) _
              refine go_goto (off := 10) (tgt := 89) (by decide +kernel) (by decide) ?_
              obtain rfl := Option.some.inj h
              refine go_pick [0] rfl ?_
              exact key
            · refine go_icmp_ne (off := 13) (tgt := 82) (by decide +kernel) (by decide) (fun _ => ?_) (fun z => absurd z q12)
              refine go_blk rfl [(.aload_n 0, 1, 0, 0, 0, .inl 0), (.getfield 9, 3, 11, 1, 1, .inl 0), (.bipush 7, 2, 0, 0, 0, .inl 7), (.iaload, 1, 20, 0, 0, .inl 0)] 82 89 _ _ _ (by decide +kernel) ?_
              refine And.intro (lm_t0 hT) (Exists.intro _ (And.intro (gRm (lm_r1 hT)) ?_))
              refine And.intro (lm_t1 hT) (Exists.intro _ (And.intro (lm_n1 hT) (And.intro (inb_in (by decide)) ?_)))
              show Go _ _ _ _ _ _ 89 [(0, rm 0), (1, vi a0), (2, vi a1), (3, vi a2)] [vi (r11.1.1 1 7)] (Y, (r11.1, T)) _
              obtain rfl := Option.some.inj h
              refine go_pick [0] rfl ?_
              exact key
def f11_alone_L1 (S : jS) (l1 : Int32) : Nat → Int32 → Option Int32
  | 0, _ => none
  | n + 1, l2 => (if (S.1 1 2) ≤ l2 then some ((-2)) else (if l1 = ((1 : Int32) <<< (l2 &&& 31)) then some l2 else f11_alone_L1 S l1 n (l2 + 1)))
def f11_alone (S : jS) : Option Int32 := f11_alone_L1 S (S.1 1 6) jF 0
theorem f11_alone_L1_ok {T : jT} {Y : jS × jT} {S : jS} {l1 : Int32} {x : Int32} (hT : LayM T) : ∀ (n : Nat) (l2 : Int32), f11_alone_L1 S l1 n l2 = some x → Go M11_alone 1 0 0 0 0 10 [(0, rm 0), (1, vi l1), (2, vi l2)] [] (Y, (S, T)) (eqQ (some (vi x)) (Y, (S, T))) := by
  intro n
  induction n with
  | zero => intro l2 h; exact absurd h (by intro z; cases z)
  | succ n ih =>
    intro l2 h
    rw [f11_alone_L1] at h
    refine go_blk rfl [(.iload_n 2, 1, 2, 0, 0, .inl 0), (.aload_n 0, 1, 0, 0, 0, .inl 0), (.getfield 9, 3, 11, 1, 1, .inl 0), (.iconst 2, 1, 0, 0, 0, .inl 2), (.iaload, 1, 20, 0, 0, .inl 0)] 10 17 _ _ _ (by decide +kernel) ?_
    refine And.intro (lm_t0 hT) (Exists.intro _ (And.intro (gRm (lm_r1 hT)) ?_))
    refine And.intro (lm_t1 hT) (Exists.intro _ (And.intro (lm_n1 hT) (And.intro (inb_in (by decide)) ?_)))
    show Go _ _ _ _ _ _ 17 [(0, rm 0), (1, vi l1), (2, vi l2)] [vi (S.1 1 2), vi l2] (Y, (S, T)) _
    refine ite_el h (fun q1 h => ?_) (fun q1 h => ?_)
    · refine go_icmp_ge (off := 18) (tgt := 35) (by decide +kernel) (by decide) (fun _ => ?_) (fun z => absurd q1 z)
      refine go_blk rfl [(.bipush (-2), 2, 0, 0, 0, .inl (-2))] 35 37 _ _ _ (by decide +kernel) ?_
      show Go _ _ _ _ _ _ 37 [(0, rm 0), (1, vi l1), (2, vi l2)] [vi ((-2))] (Y, (S, T)) _
      obtain rfl := Option.some.inj h
      exact go_ireturn (by decide +kernel) rfl rfl ⟨rfl, rfl⟩
    · refine go_icmp_ge (off := 18) (tgt := 35) (by decide +kernel) (by decide) (fun z => absurd z q1) (fun _ => ?_)
      refine go_blk rfl [(.iload_n 1, 1, 1, 0, 0, .inl 0), (.iconst 1, 1, 0, 0, 0, .inl 1), (.iload_n 2, 1, 2, 0, 0, .inl 0), (.ishl, 1, 0, 0, 0, .inl 0)] 20 24 _ _ _ (by decide +kernel) ?_
      show Go _ _ _ _ _ _ 24 [(0, rm 0), (1, vi l1), (2, vi l2)] [vi ((1 : Int32) <<< (l2 &&& 31)), vi l1] (Y, (S, T)) _
      refine ite_el h (fun q2 h => ?_) (fun q2 h => ?_)
      · refine go_icmp_ne (off := 5) (tgt := 29) (by decide +kernel) (by decide) (fun z => absurd q2 z) (fun _ => ?_)
        refine go_blk rfl [(.iload_n 2, 1, 2, 0, 0, .inl 0)] 27 28 _ _ _ (by decide +kernel) ?_
        show Go _ _ _ _ _ _ 28 [(0, rm 0), (1, vi l1), (2, vi l2)] [vi l2] (Y, (S, T)) _
        obtain rfl := Option.some.inj h
        exact go_ireturn (by decide +kernel) rfl rfl ⟨rfl, rfl⟩
      · refine go_icmp_ne (off := 5) (tgt := 29) (by decide +kernel) (by decide) (fun _ => ?_) (fun z => absurd z q2)
        refine go_blk rfl [(.iinc 2 1, 3, 2, 0, 0, .inl 1)] 29 32 _ _ _ (by decide +kernel) ?_
        show Go _ _ _ _ _ _ 32 [(2, vi (l2 + 1)), (0, rm 0), (1, vi l1)] [] (Y, (S, T)) _
        refine go_goto (off := (-22)) (tgt := 10) (by decide +kernel) (by decide) ?_
        refine go_pick [1, 2, 0] rfl ?_
        exact ih _ h
theorem ret11_alone {S : jS} {T : jT} {Y : jS × jT} {x : Int32} (hT : LayM T) (h : f11_alone S = some x) : Ret M11_alone 1 0 0 [rm 0] (Y, (S, T)) (some (vi x)) (Y, (S, T)) := by
  refine Ret.of (by decide +kernel) (Nat.le_of_ble_eq_true rfl) ?_
  unfold f11_alone at h
  show Go _ _ _ _ _ _ 0 [(0, rm 0)] [] (Y, (S, T)) _
  refine go_blk rfl [(.aload_n 0, 1, 0, 0, 0, .inl 0), (.getfield 9, 3, 11, 1, 1, .inl 0), (.bipush 6, 2, 0, 0, 0, .inl 6), (.iaload, 1, 20, 0, 0, .inl 0), (.istore_n 1, 1, 1, 0, 0, .inl 0), (.iconst 0, 1, 0, 0, 0, .inl 0), (.istore_n 2, 1, 2, 0, 0, .inl 0)] 0 10 _ _ _ (by decide +kernel) ?_
  refine And.intro (lm_t0 hT) (Exists.intro _ (And.intro (gRm (lm_r1 hT)) ?_))
  refine And.intro (lm_t1 hT) (Exists.intro _ (And.intro (lm_n1 hT) (And.intro (inb_in (by decide)) ?_)))
  show Go _ _ _ _ _ _ 10 [(2, vi 0), (1, vi (S.1 1 6)), (0, rm 0)] [] (Y, (S, T)) _
  refine go_pick [2, 1, 0] rfl ?_
  exact f11_alone_L1_ok hT _ _ h
