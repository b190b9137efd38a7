def f11_winner_L1 (l1 : Int32) : Nat → jS → Option jS
  | 0, _ => none
  | n + 1, S => Option.bind (f11_isDone S) (fun r4 => (if r4 = 0 then Option.bind (f11_goes S) (fun r5 => f11_winner_L1 l1 n r5.1) else some S))
def f11_winner (S : jS) (a0 : Int32) : Option (jS × Int32) := Option.bind (f11_isParty S) (fun r1 => (if r1 = 0 then some (S, (-1)) else Option.bind (f11_in a0.toInt64 0 1) (fun r2 => (if r2 = 0 then some (S, (-1)) else Option.bind (f11_keepsAll S) (fun r3 => Option.bind (f11_winner_L1 a0 jF r3.1) (fun y6 => Option.bind (if a0 = 0 then Option.bind (f11_alone y6) (fun r7 => some r7) else some (y6.1 1 3)) (fun (y8 : Int32) => Option.bind (f11_laysBack y6) (fun r9 => some (r9.1, y8)))))))))
theorem f11_winner_L1_ok {T : jT} {Y : jS × jT} {l1 : Int32} {Q : Option jV → jMem → Prop} (hT : LayM T) : ∀ (n : Nat) (S : jS) (r : jS), f11_winner_L1 l1 n S = some r → Go M11_winner 7 0 0 0 0 38 [(0, rm 0), (1, vi l1)] [] (Y, (r, T)) Q → Go M11_winner 7 0 0 0 0 23 [(0, rm 0), (1, vi l1)] [] (Y, (S, T)) Q := by
  intro n
  induction n with
  | zero => intro S r h k; exact absurd h (by intro z; cases z)
  | succ n ih =>
    intro S r h k
    rw [f11_winner_L1] at h
    refine go_blk rfl [(.aload_n 0, 1, 0, 0, 0, .inl 0)] 23 24 _ _ _ (by decide +kernel) ?_
    show Go _ _ _ _ _ _ 24 [(0, rm 0), (1, vi l1)] [rm 0] (Y, (S, T)) _
    obtain ⟨r4, hr4, h⟩ := bind_el h
    refine go_callV (idx := 384) (z := 0) (M' := M11_isDone) (n := 0) (A := []) (v' := some (vi r4)) (μ' := (Y, (S, T))) (d' := 2) (mc' := 0) (ms' := 0) (kc' := 0) (ks' := 0) (ci := 11) (x := .inr (.inl 0)) (by decide +kernel) ml_11_384 rfl wv11_isDone rfl (by decide) rfl (lm_t0 hT) (ret11_isDone hT hr4) (by decide) rfl rfl (Nat.le_of_ble_eq_true rfl) rfl (jag rfl rfl) ?_
    show Go _ _ _ _ _ _ 27 [(0, rm 0), (1, vi l1)] [vi r4] (Y, (S, T)) _
    refine ite_el h (fun q3 h => ?_) (fun q3 h => ?_)
    · refine go_if_ne (off := 11) (tgt := 38) (by decide +kernel) (by decide) (fun z => absurd q3 z) (fun _ => ?_)
      refine go_blk rfl [(.aload_n 0, 1, 0, 0, 0, .inl 0)] 30 31 _ _ _ (by decide +kernel) ?_
      show Go _ _ _ _ _ _ 31 [(0, rm 0), (1, vi l1)] [rm 0] (Y, (S, T)) _
      obtain ⟨r5, hr5, h⟩ := bind_el h
      refine go_callV (idx := 399) (z := 0) (M' := M11_goes) (n := 0) (A := []) (v' := some (vi r5.2)) (μ' := (Y, (r5.1, T))) (d' := 6) (mc' := 0) (ms' := 0) (kc' := 0) (ks' := 0) (ci := 11) (x := .inr (.inl 0)) (by decide +kernel) ml_11_399 rfl wv11_goes rfl (by decide) rfl (lm_t0 hT) (ret11_goes hT hr5) (by decide) rfl rfl (Nat.le_of_ble_eq_true rfl) rfl (jag rfl rfl) ?_
      show Go _ _ _ _ _ _ 34 [(0, rm 0), (1, vi l1)] [vi r5.2] (Y, (r5.1, T)) _
      refine go_blk rfl [(.pop, 1, 0, 0, 0, .inl 0)] 34 35 _ _ _ (by decide +kernel) ?_
      show Go _ _ _ _ _ _ 35 [(0, rm 0), (1, vi l1)] [] (Y, (r5.1, T)) _
      refine go_goto (off := (-12)) (tgt := 23) (by decide +kernel) (by decide) ?_
      refine go_pick [0, 1] rfl ?_
      exact ih _ _ h k
    · refine go_if_ne (off := 11) (tgt := 38) (by decide +kernel) (by decide) (fun _ => ?_) (fun z => absurd z q3)
      obtain rfl := Option.some.inj h
      refine go_pick [0, 1] rfl ?_
      exact k
theorem ret11_winner {S : jS} {T : jT} {Y : jS × jT} {a0 : Int32} {S1 : jS} {x : Int32} (hT : LayM T) (h : f11_winner S a0 = some (S1, x)) : Ret M11_winner 7 0 0 [rm 0, vi a0] (Y, (S, T)) (some (vi x)) (Y, (S1, T)) := by
  refine Ret.of (by decide +kernel) (Nat.le_of_ble_eq_true rfl) ?_
  unfold f11_winner at h
  show Go _ _ _ _ _ _ 0 [(0, rm 0), (1, vi a0)] [] (Y, (S, T)) _
  refine go_blk rfl [(.aload_n 0, 1, 0, 0, 0, .inl 0)] 0 1 _ _ _ (by decide +kernel) ?_
  show Go _ _ _ _ _ _ 1 [(0, rm 0), (1, vi a0)] [rm 0] (Y, (S, T)) _
  obtain ⟨r1, hr1, h⟩ := bind_el h
  refine go_callV (idx := 420) (z := 0) (M' := M11_isParty) (n := 0) (A := []) (v' := some (vi r1)) (μ' := (Y, (S, T))) (d' := 1) (mc' := 0) (ms' := 0) (kc' := 0) (ks' := 0) (ci := 11) (x := .inr (.inl 0)) (by decide +kernel) ml_11_420 rfl wv11_isParty rfl (by decide) rfl (lm_t0 hT) (ret11_isParty hT hr1) (by decide) rfl rfl (Nat.le_of_ble_eq_true rfl) rfl (jag rfl rfl) ?_
  show Go _ _ _ _ _ _ 4 [(0, rm 0), (1, vi a0)] [vi r1] (Y, (S, T)) _
  refine ite_el h (fun q1 h => ?_) (fun q1 h => ?_)
  · refine go_if_eq (off := 13) (tgt := 17) (by decide +kernel) (by decide) (fun _ => ?_) (fun z => absurd q1 z)
    refine go_blk rfl [(.iconst (-1), 1, 0, 0, 0, .inl (-1))] 17 18 _ _ _ (by decide +kernel) ?_
    show Go _ _ _ _ _ _ 18 [(0, rm 0), (1, vi a0)] [vi ((-1))] (Y, (S, T)) _
    obtain ⟨rfl, rfl⟩ := Prod.mk.inj (Option.some.inj h)
    exact go_ireturn (by decide +kernel) rfl rfl ⟨rfl, rfl⟩
  · refine go_if_eq (off := 13) (tgt := 17) (by decide +kernel) (by decide) (fun z => absurd z q1) (fun _ => ?_)
    refine go_blk rfl [(.iload_n 1, 1, 1, 0, 0, .inl 0), (.i2l, 1, 0, 0, 0, .inl 0), (.lconst 0, 1, 0, 0, 0, .inr (.inl 0)), (.lconst 1, 1, 0, 0, 0, .inr (.inl 1))] 7 11 _ _ _ (by decide +kernel) ?_
    show Go _ _ _ _ _ _ 11 [(0, rm 0), (1, vi a0)] [vl 1, vl 0, vl a0.toInt64] (Y, (S, T)) _
    obtain ⟨r2, hr2, h⟩ := bind_el h
    refine go_callS (idx := 140) (z := 0) (M' := M11_in) (n := 3) (A := [vl a0.toInt64, vl 0, vl 1]) (v' := some (vi r2)) (μ' := (Y, (S, T))) (d' := 1) (mc' := 0) (ms' := 0) (kc' := 0) (ks' := 0) (by decide +kernel) ml_11_140 rfl ws11_in rfl (ret11_in hr2) (by decide) rfl rfl (Nat.le_of_ble_eq_true rfl) rfl (jag rfl rfl) ?_
    show Go _ _ _ _ _ _ 14 [(0, rm 0), (1, vi a0)] [vi r2] (Y, (S, T)) _
    refine ite_el h (fun q2 h => ?_) (fun q2 h => ?_)
    · refine go_if_ne (off := 5) (tgt := 19) (by decide +kernel) (by decide) (fun z => absurd q2 z) (fun _ => ?_)
      refine go_blk rfl [(.iconst (-1), 1, 0, 0, 0, .inl (-1))] 17 18 _ _ _ (by decide +kernel) ?_
      show Go _ _ _ _ _ _ 18 [(0, rm 0), (1, vi a0)] [vi ((-1))] (Y, (S, T)) _
      obtain ⟨rfl, rfl⟩ := Prod.mk.inj (Option.some.inj h)
      exact go_ireturn (by decide +kernel) rfl rfl ⟨rfl, rfl⟩
    · refine go_if_ne (off := 5) (tgt := 19) (by decide +kernel) (by decide) (fun _ => ?_) (fun z => absurd z q2)
      refine go_blk rfl [(.aload_n 0, 1, 0, 0, 0, .inl 0)] 19 20 _ _ _ (by decide +kernel) ?_
      show Go _ _ _ _ _ _ 20 [(0, rm 0), (1, vi a0)] [rm 0] (Y, (S, T)) _
      obtain ⟨r3, hr3, h⟩ := bind_el h
      refine go_callV (idx := 438) (z := 0) (M' := M11_keepsAll) (n := 0) (A := []) (v' := none) (μ' := (Y, (r3.1, T))) (d' := 3) (mc' := 0) (ms' := 0) (kc' := 0) (ks' := 0) (ci := 11) (x := .inr (.inl 0)) (by decide +kernel) ml_11_438 rfl wv11_keepsAll rfl (by decide) rfl (lm_t0 hT) (ret11_keepsAll hT hr3) (by decide) rfl rfl (Nat.le_of_ble_eq_true rfl) rfl (jag rfl rfl) ?_
      show Go _ _ _ _ _ _ 23 [(0, rm 0), (1, vi a0)] [] (Y, (r3.1, T)) _
      refine go_pick [0, 1] rfl ?_
      obtain ⟨y6, hy6, h⟩ := bind_el h
      refine f11_winner_L1_ok hT _ _ _ hy6 ?_
      show Go _ _ _ _ _ _ 38 [(0, rm 0), (1, vi a0)] [] (Y, (y6, T)) _
      refine go_blk rfl [(.iload_n 1, 1, 1, 0, 0, .inl 0)] 38 39 _ _ _ (by decide +kernel) ?_
      show Go _ _ _ _ _ _ 39 [(0, rm 0), (1, vi a0)] [vi a0] (Y, (y6, T)) _
      obtain ⟨y8, hy8, h⟩ := bind_el h
      have key : Go M11_winner 7 0 0 0 0 55 [(0, rm 0)] [vi y8] (Y, (y6, T)) (eqQ (some (vi x)) (Y, (S1, T))) := by
        refine go_blk rfl [(.istore_n 2, 1, 2, 0, 0, .inl 0), (.aload_n 0, 1, 0, 0, 0, .inl 0)] 55 57 _ _ _ (by decide +kernel) ?_
        show Go _ _ _ _ _ _ 57 [(2, vi y8), (0, rm 0)] [rm 0] (Y, (y6, T)) _
        obtain ⟨r9, hr9, h⟩ := bind_el h
        refine go_callV (idx := 444) (z := 0) (M' := M11_laysBack) (n := 0) (A := []) (v' := none) (μ' := (Y, (r9.1, T))) (d' := 3) (mc' := 0) (ms' := 0) (kc' := 0) (ks' := 0) (ci := 11) (x := .inr (.inl 0)) (by decide +kernel) ml_11_444 rfl wv11_laysBack rfl (by decide) rfl (lm_t0 hT) (ret11_laysBack hT hr9) (by decide) rfl rfl (Nat.le_of_ble_eq_true rfl) rfl (jag rfl rfl) ?_
        show Go _ _ _ _ _ _ 60 [(2, vi y8), (0, rm 0)] [] (Y, (r9.1, T)) _
        refine go_blk rfl [(.iload_n 2, 1, 2, 0, 0, .inl 0)] 60 61 _ _ _ (by decide +kernel) ?_
        show Go _ _ _ _ _ _ 61 [(2, vi y8), (0, rm 0)] [vi y8] (Y, (r9.1, T)) _
        obtain ⟨rfl, rfl⟩ := Prod.mk.inj (Option.some.inj h)
        exact go_ireturn (by decide +kernel) rfl rfl ⟨rfl, rfl⟩
      replace h := hy8
      refine ite_el h (fun q4 h => ?_) (fun q4 h => ?_)
      · refine go_if_ne (off := 10) (tgt := 49) (by decide +kernel) (by decide) (fun z => absurd q4 z) (fun _ => ?_)
        refine go_blk rfl [(.aload_n 0, 1, 0, 0, 0, .inl 0)] 42 43 _ _ _ (by decide +kernel) ?_
        show Go _ _ _ _ _ _ 43 [(0, rm 0), (1, vi a0)] [rm 0] (Y, (y6, T)) _
        obtain ⟨r7, hr7, h⟩ := bind_el h
        refine go_callV (idx := 447) (z := 0) (M' := M11_alone) (n := 0) (A := []) (v' := some (vi r7)) (μ' := (Y, (y6, T))) (d' := 1) (mc' := 0) (ms' := 0) (kc' := 0) (ks' := 0) (ci := 11) (x := .inr (.inl 0)) (by decide +kernel) ml_11_447 rfl wv11_alone rfl (by decide) rfl (lm_t0 hT) (ret11_alone hT hr7) (by decide) rfl rfl (Nat.le_of_ble_eq_true rfl) rfl (jag rfl rfl) ?_
        show Go _ _ _ _ _ _ 46 [(0, rm 0), (1, vi a0)] [vi r7] (Y, (y6, T)) _
        refine go_goto (off := 9) (tgt := 55) (by decide +kernel) (by decide) ?_
        obtain rfl := Option.some.inj h
        refine go_pick [0] rfl ?_
        exact key
      · refine go_if_ne (off := 10) (tgt := 49) (by decide +kernel) (by decide) (fun _ => ?_) (fun z => absurd z q4)
        refine go_blk rfl [(.aload_n 0, 1, 0, 0, 0, .inl 0), (.getfield 9, 3, 11, 1, 1, .inl 0), (.iconst 3, 1, 0, 0, 0, .inl 3), (.iaload, 1, 20, 0, 0, .inl 0)] 49 55 _ _ _ (by decide +kernel) ?_
        refine And.intro (lm_t0 hT) (Exists.intro _ (And.intro (gRm (lm_r1 hT)) ?_))
        refine And.intro (lm_t1 hT) (Exists.intro _ (And.intro (lm_n1 hT) (And.intro (inb_in (by decide)) ?_)))
        show Go _ _ _ _ _ _ 55 [(0, rm 0), (1, vi a0)] [vi (y6.1 1 3)] (Y, (y6, T)) _
        obtain rfl := Option.some.inj h
        refine go_pick [0] rfl ?_
        exact key
def f11_gone_L1 (l1 : Int32) : Nat → jS → Option jS
  | 0, _ => none
  | n + 1, S => Option.bind (f11_isDone S) (fun r3 => (if r3 = 0 then Option.bind (f11_has (S.1 1 6) l1) (fun r4 => (if r4 = 0 then some S else Option.bind (f11_goes S) (fun r5 => f11_gone_L1 l1 n r5.1))) else some S))
def f11_gone (S : jS) (a0 : Int32) : Option (jS × Int32) := Option.bind (f11_isStill S a0) (fun r1 => (if r1 = 0 then some (S, (-1)) else Option.bind (f11_keepsAll S) (fun r2 => Option.bind (f11_gone_L1 a0 jF r2.1) (fun y6 => Option.bind (f11_has (y6.1 1 6) a0) (fun r7 => Option.bind (if r7 = 0 then some ((y6.1 1 3) - 1) else some ((-2))) (fun (y8 : Int32) => Option.bind (f11_laysBack y6) (fun r9 => some (r9.1, y8))))))))
theorem f11_gone_L1_ok {T : jT} {Y : jS × jT} {l1 : Int32} {Q : Option jV → jMem → Prop} (hT : LayM T) : ∀ (n : Nat) (S : jS) (r : jS), f11_gone_L1 l1 n S = some r → Go M11_gone 7 0 0 0 0 43 [(0, rm 0), (1, vi l1)] [] (Y, (r, T)) Q → Go M11_gone 7 0 0 0 0 14 [(0, rm 0), (1, vi l1)] [] (Y, (S, T)) Q := by
  intro n
  induction n with
  | zero => intro S r h k; exact absurd h (by intro z; cases z)
  | succ n ih =>
    intro S r h k
    rw [f11_gone_L1] at h
    refine go_blk rfl [(.aload_n 0, 1, 0, 0, 0, .inl 0)] 14 15 _ _ _ (by decide +kernel) ?_
    show Go _ _ _ _ _ _ 15 [(0, rm 0), (1, vi l1)] [rm 0] (Y, (S, T)) _
    obtain ⟨r3, hr3, h⟩ := bind_el h
    refine go_callV (idx := 384) (z := 0) (M' := M11_isDone) (n := 0) (A := []) (v' := some (vi r3)) (μ' := (Y, (S, T))) (d' := 2) (mc' := 0) (ms' := 0) (kc' := 0) (ks' := 0) (ci := 11) (x := .inr (.inl 0)) (by decide +kernel) ml_11_384 rfl wv11_isDone rfl (by decide) rfl (lm_t0 hT) (ret11_isDone hT hr3) (by decide) rfl rfl (Nat.le_of_ble_eq_true rfl) rfl (jag rfl rfl) ?_
    show Go _ _ _ _ _ _ 18 [(0, rm 0), (1, vi l1)] [vi r3] (Y, (S, T)) _
    refine ite_el h (fun q2 h => ?_) (fun q2 h => ?_)
    · refine go_if_ne (off := 25) (tgt := 43) (by decide +kernel) (by decide) (fun z => absurd q2 z) (fun _ => ?_)
      refine go_blk rfl [(.aload_n 0, 1, 0, 0, 0, .inl 0), (.getfield 9, 3, 11, 1, 1, .inl 0), (.bipush 6, 2, 0, 0, 0, .inl 6), (.iaload, 1, 20, 0, 0, .inl 0), (.iload_n 1, 1, 1, 0, 0, .inl 0)] 21 29 _ _ _ (by decide +kernel) ?_
      refine And.intro (lm_t0 hT) (Exists.intro _ (And.intro (gRm (lm_r1 hT)) ?_))
      refine And.intro (lm_t1 hT) (Exists.intro _ (And.intro (lm_n1 hT) (And.intro (inb_in (by decide)) ?_)))
      show Go _ _ _ _ _ _ 29 [(0, rm 0), (1, vi l1)] [vi l1, vi (S.1 1 6)] (Y, (S, T)) _
      obtain ⟨r4, hr4, h⟩ := bind_el h
      refine go_callS (idx := 148) (z := 0) (M' := M11_has) (n := 2) (A := [vi (S.1 1 6), vi l1]) (v' := some (vi r4)) (μ' := (Y, (S, T))) (d' := 1) (mc' := 0) (ms' := 0) (kc' := 0) (ks' := 0) (by decide +kernel) ml_11_148 rfl ws11_has rfl (ret11_has hr4) (by decide) rfl rfl (Nat.le_of_ble_eq_true rfl) rfl (jag rfl rfl) ?_
      show Go _ _ _ _ _ _ 32 [(0, rm 0), (1, vi l1)] [vi r4] (Y, (S, T)) _
      refine ite_el h (fun q3 h => ?_) (fun q3 h => ?_)
      · refine go_if_eq (off := 11) (tgt := 43) (by decide +kernel) (by decide) (fun _ => ?_) (fun z => absurd q3 z)
        obtain rfl := Option.some.inj h
        refine go_pick [0, 1] rfl ?_
        exact k
      · refine go_if_eq (off := 11) (tgt := 43) (by decide +kernel) (by decide) (fun z => absurd z q3) (fun _ => ?_)
        refine go_blk rfl [(.aload_n 0, 1, 0, 0, 0, .inl 0)] 35 36 _ _ _ (by decide +kernel) ?_
        show Go _ _ _ _ _ _ 36 [(0, rm 0), (1, vi l1)] [rm 0] (Y, (S, T)) _
        obtain ⟨r5, hr5, h⟩ := bind_el h
        refine go_callV (idx := 399) (z := 0) (M' := M11_goes) (n := 0) (A := []) (v' := some (vi r5.2)) (μ' := (Y, (r5.1, T))) (d' := 6) (mc' := 0) (ms' := 0) (kc' := 0) (ks' := 0) (ci := 11) (x := .inr (.inl 0)) (by decide +kernel) ml_11_399 rfl wv11_goes rfl (by decide) rfl (lm_t0 hT) (ret11_goes hT hr5) (by decide) rfl rfl (Nat.le_of_ble_eq_true rfl) rfl (jag rfl rfl) ?_
        show Go _ _ _ _ _ _ 39 [(0, rm 0), (1, vi l1)] [vi r5.2] (Y, (r5.1, T)) _
        refine go_blk rfl [(.pop, 1, 0, 0, 0, .inl 0)] 39 40 _ _ _ (by decide +kernel) ?_
        show Go _ _ _ _ _ _ 40 [(0, rm 0), (1, vi l1)] [] (Y, (r5.1, T)) _
        refine go_goto (off := (-26)) (tgt := 14) (by decide +kernel) (by decide) ?_
        refine go_pick [0, 1] rfl ?_
        exact ih _ _ h k
    · refine go_if_ne (off := 25) (tgt := 43) (by decide +kernel) (by decide) (fun _ => ?_) (fun z => absurd z q2)
      obtain rfl := Option.some.inj h
      refine go_pick [0, 1] rfl ?_
      exact k
theorem ret11_gone {S : jS} {T : jT} {Y : jS × jT} {a0 : Int32} {S1 : jS} {x : Int32} (hT : LayM T) (h : f11_gone S a0 = some (S1, x)) : Ret M11_gone 7 0 0 [rm 0, vi a0] (Y, (S, T)) (some (vi x)) (Y, (S1, T)) := by
  refine Ret.of (by decide +kernel) (Nat.le_of_ble_eq_true rfl) ?_
  unfold f11_gone at h
  show Go _ _ _ _ _ _ 0 [(0, rm 0), (1, vi a0)] [] (Y, (S, T)) _
  refine go_blk rfl [(.aload_n 0, 1, 0, 0, 0, .inl 0), (.iload_n 1, 1, 1, 0, 0, .inl 0)] 0 2 _ _ _ (by decide +kernel) ?_
  show Go _ _ _ _ _ _ 2 [(0, rm 0), (1, vi a0)] [vi a0, rm 0] (Y, (S, T)) _
  obtain ⟨r1, hr1, h⟩ := bind_el h
  refine go_callV (idx := 426) (z := 0) (M' := M11_isStill) (n := 1) (A := [vi a0]) (v' := some (vi r1)) (μ' := (Y, (S, T))) (d' := 3) (mc' := 0) (ms' := 0) (kc' := 0) (ks' := 0) (ci := 11) (x := .inr (.inl 0)) (by decide +kernel) ml_11_426 rfl wv11_isStill rfl (by decide) rfl (lm_t0 hT) (ret11_isStill hT hr1) (by decide) rfl rfl (Nat.le_of_ble_eq_true rfl) rfl (jag rfl rfl) ?_
  show Go _ _ _ _ _ _ 5 [(0, rm 0), (1, vi a0)] [vi r1] (Y, (S, T)) _
  refine ite_el h (fun q1 h => ?_) (fun q1 h => ?_)
  · refine go_if_ne (off := 5) (tgt := 10) (by decide +kernel) (by decide) (fun z => absurd q1 z) (fun _ => ?_)
    refine go_blk rfl [(.iconst (-1), 1, 0, 0, 0, .inl (-1))] 8 9 _ _ _ (by decide +kernel) ?_
    show Go _ _ _ _ _ _ 9 [(0, rm 0), (1, vi a0)] [vi ((-1))] (Y, (S, T)) _
    obtain ⟨rfl, rfl⟩ := Prod.mk.inj (Option.some.inj h)
    exact go_ireturn (by decide +kernel) rfl rfl ⟨rfl, rfl⟩
  · refine go_if_ne (off := 5) (tgt := 10) (by decide +kernel) (by decide) (fun _ => ?_) (fun z => absurd z q1)
    refine go_blk rfl [(.aload_n 0, 1, 0, 0, 0, .inl 0)] 10 11 _ _ _ (by decide +kernel) ?_
    show Go _ _ _ _ _ _ 11 [(0, rm 0), (1, vi a0)] [rm 0] (Y, (S, T)) _
    obtain ⟨r2, hr2, h⟩ := bind_el h
    refine go_callV (idx := 438) (z := 0) (M' := M11_keepsAll) (n := 0) (A := []) (v' := none) (μ' := (Y, (r2.1, T))) (d' := 3) (mc' := 0) (ms' := 0) (kc' := 0) (ks' := 0) (ci := 11) (x := .inr (.inl 0)) (by decide +kernel) ml_11_438 rfl wv11_keepsAll rfl (by decide) rfl (lm_t0 hT) (ret11_keepsAll hT hr2) (by decide) rfl rfl (Nat.le_of_ble_eq_true rfl) rfl (jag rfl rfl) ?_
    show Go _ _ _ _ _ _ 14 [(0, rm 0), (1, vi a0)] [] (Y, (r2.1, T)) _
    refine go_pick [0, 1] rfl ?_
    obtain ⟨y6, hy6, h⟩ := bind_el h
    refine f11_gone_L1_ok hT _ _ _ hy6 ?_
    show Go _ _ _ _ _ _ 43 [(0, rm 0), (1, vi a0)] [] (Y, (y6, T)) _
    refine go_blk rfl [(.aload_n 0, 1, 0, 0, 0, .inl 0), (.getfield 9, 3, 11, 1, 1, .inl 0), (.bipush 6, 2, 0, 0, 0, .inl 6), (.iaload, 1, 20, 0, 0, .inl 0), (.iload_n 1, 1, 1, 0, 0, .inl 0)] 43 51 _ _ _ (by decide +kernel) ?_
    refine And.intro (lm_t0 hT) (Exists.intro _ (And.intro (gRm (lm_r1 hT)) ?_))
    refine And.intro (lm_t1 hT) (Exists.intro _ (And.intro (lm_n1 hT) (And.intro (inb_in (by decide)) ?_)))
    show Go _ _ _ _ _ _ 51 [(0, rm 0), (1, vi a0)] [vi a0, vi (y6.1 1 6)] (Y, (y6, T)) _
    obtain ⟨r7, hr7, h⟩ := bind_el h
    refine go_callS (idx := 148) (z := 0) (M' := M11_has) (n := 2) (A := [vi (y6.1 1 6), vi a0]) (v' := some (vi r7)) (μ' := (Y, (y6, T))) (d' := 1) (mc' := 0) (ms' := 0) (kc' := 0) (ks' := 0) (by decide +kernel) ml_11_148 rfl ws11_has rfl (ret11_has hr7) (by decide) rfl rfl (Nat.le_of_ble_eq_true rfl) rfl (jag rfl rfl) ?_
    show Go _ _ _ _ _ _ 54 [(0, rm 0), (1, vi a0)] [vi r7] (Y, (y6, T)) _
    obtain ⟨y8, hy8, h⟩ := bind_el h
    have key : Go M11_gone 7 0 0 0 0 70 [(0, rm 0)] [vi y8] (Y, (y6, T)) (eqQ (some (vi x)) (Y, (S1, T))) := by
      refine go_blk rfl [(.istore_n 2, 1, 2, 0, 0, .inl 0), (.aload_n 0, 1, 0, 0, 0, .inl 0)] 70 72 _ _ _ (by decide +kernel) ?_
      show Go _ _ _ _ _ _ 72 [(2, vi y8), (0, rm 0)] [rm 0] (Y, (y6, T)) _
      obtain ⟨r9, hr9, h⟩ := bind_el h
      refine go_callV (idx := 444) (z := 0) (M' := M11_laysBack) (n := 0) (A := []) (v' := none) (μ' := (Y, (r9.1, T))) (d' := 3) (mc' := 0) (ms' := 0) (kc' := 0) (ks' := 0) (ci := 11) (x := .inr (.inl 0)) (by decide +kernel) ml_11_444 rfl wv11_laysBack rfl (by decide) rfl (lm_t0 hT) (ret11_laysBack hT hr9) (by decide) rfl rfl (Nat.le_of_ble_eq_true rfl) rfl (jag rfl rfl) ?_
      show Go _ _ _ _ _ _ 75 [(2, vi y8), (0, rm 0)] [] (Y, (r9.1, T)) _
      refine go_blk rfl [(.iload_n 2, 1, 2, 0, 0, .inl 0)] 75 76 _ _ _ (by decide +kernel) ?_
      show Go _ _ _ _ _ _ 76 [(2, vi y8), (0, rm 0)] [vi y8] (Y, (r9.1, T)) _
      obtain ⟨rfl, rfl⟩ := Prod.mk.inj (Option.some.inj h)
      exact go_ireturn (by decide +kernel) rfl rfl ⟨rfl, rfl⟩
    replace h := hy8
    refine ite_el h (fun q4 h => ?_) (fun q4 h => ?_)
    · refine go_if_eq (off := 8) (tgt := 62) (by decide +kernel) (by decide) (fun _ => ?_) (fun z => absurd q4 z)
      refine go_blk rfl [(.aload_n 0, 1, 0, 0, 0, .inl 0), (.getfield 9, 3, 11, 1, 1, .inl 0), (.iconst 3, 1, 0, 0, 0, .inl 3), (.iaload, 1, 20, 0, 0, .inl 0), (.iconst 1, 1, 0, 0, 0, .inl 1), (.isub, 1, 0, 0, 0, .inl 0)] 62 70 _ _ _ (by decide +kernel) ?_
      refine And.intro (lm_t0 hT) (Exists.intro _ (And.intro (gRm (lm_r1 hT)) ?_))
      refine And.intro (lm_t1 hT) (Exists.intro _ (And.intro (lm_n1 hT) (And.intro (inb_in (by decide)) ?_)))
      show Go _ _ _ _ _ _ 70 [(0, rm 0), (1, vi a0)] [vi ((y6.1 1 3) - 1)] (Y, (y6, T)) _
      obtain rfl := Option.some.inj h
      refine go_pick [0] rfl ?_
      exact key
    · refine go_if_eq (off := 8) (tgt := 62) (by decide +kernel) (by decide) (fun z => absurd z q4) (fun _ => ?_)
      refine go_blk rfl [(.bipush (-2), 2, 0, 0, 0, .inl (-2))] 57 59 _ _ _ (by decide +kernel) ?_
      show Go _ _ _ _ _ _ 59 [(0, rm 0), (1, vi a0)] [vi ((-2))] (Y, (y6, T)) _
      refine go_goto (off := 11) (tgt := 70) (by decide +kernel) (by decide) ?_
      obtain rfl := Option.some.inj h
      refine go_pick [0] rfl ?_
      exact key
def f11_safe_L1 (l1 : Int32) (l2 : Int32) : Nat → jS → Int32 → Int32 → Int32 → Option (jS × Int32 × Int32)
  | 0, _, _, _, _ => none
  | n + 1, S, l3, l4, l5 => (if 60 < l5 then some (S, l3, l4) else Option.bind (f11_goes (wI S 0 40 l5)) (fun r5 => Option.bind (f11_has r5.2 l1) (fun r6 => Option.bind (f11_laysBack r5.1) (fun r7 => f11_safe_L1 l1 l2 n r7.1 (l3 + (((if r6 = 0 then 0 else 1) : Int32))) (((if r6 = 0 then l4 else (if l3 = 0 then l5 else l4)) : Int32)) (l5 + 1)))))
def f11_safe (S : jS) (a0 : Int32) (a1 : Int32) : Option (jS × Int32) := Option.bind (f11_isStill S a0) (fun r1 => (if r1 = 0 then some (S, (-1)) else Option.bind (f11_isDone S) (fun r2 => (if r2 = 0 then Option.bind (f11_in a1.toInt64 0 1) (fun r3 => (if r3 = 0 then some (S, (-1)) else Option.bind (f11_keepsAll S) (fun r4 => Option.bind (f11_safe_L1 a0 a1 jF r4.1 0 ((-2)) 1) (fun y8 => (if a1 = 0 then some (wI y8.1 0 40 ((-1)), y8.2.1) else some (wI y8.1 0 40 ((-1)), y8.2.2)))))) else some (S, (-1))))))
theorem f11_safe_L1_ok {T : jT} {Y : jS × jT} {l1 : Int32} {l2 : Int32} {Q : Option jV → jMem → Prop} (hT : LayM T) : ∀ (n : Nat) (S : jS) (l3 : Int32) (l4 : Int32) (l5 : Int32) (r : (jS × Int32 × Int32)), f11_safe_L1 l1 l2 n S l3 l4 l5 = some r → Go M11_safe 7 0 0 0 0 104 [(0, rm 0), (2, vi l2), (3, vi r.2.1), (4, vi r.2.2)] [] (Y, (r.1, T)) Q → Go M11_safe 7 0 0 0 0 40 [(0, rm 0), (1, vi l1), (2, vi l2), (3, vi l3), (4, vi l4), (5, vi l5)] [] (Y, (S, T)) Q := by
  intro n
  induction n with
  | zero => intro S l3 l4 l5 r h k; exact absurd h (by intro z; cases z)
  | succ n ih =>
    intro S l3 l4 l5 r h k
    rw [f11_safe_L1] at h
    refine go_blk rfl [(.iload 5, 2, 5, 0, 0, .inl 0), (.bipush 60, 2, 0, 0, 0, .inl 60)] 40 44 _ _ _ (by decide +kernel) ?_
    show Go _ _ _ _ _ _ 44 [(0, rm 0), (1, vi l1), (2, vi l2), (3, vi l3), (4, vi l4), (5, vi l5)] [vi 60, vi l5] (Y, (S, T)) _
    refine ite_el h (fun q4 h => ?_) (fun q4 h => ?_)
    · refine go_icmp_gt (off := 60) (tgt := 104) (by decide +kernel) (by decide) (fun _ => ?_) (fun z => absurd q4 z)
      obtain rfl := Option.some.inj h
      refine go_pick [0, 2, 3, 4] rfl ?_
      exact k
    · refine go_icmp_gt (off := 60) (tgt := 104) (by decide +kernel) (by decide) (fun z => absurd z q4) (fun _ => ?_)
      refine go_blk rfl [(.aload_n 0, 1, 0, 0, 0, .inl 0), (.iload 5, 2, 5, 0, 0, .inl 0), (.putfield 103, 3, 11, 40, 0, .inl 0)] 47 53 _ _ _ (by decide +kernel) ?_
      refine And.intro (lm_t0 hT) (And.intro trivial ?_)
      show Go _ _ _ _ _ _ 53 [(0, rm 0), (1, vi l1), (2, vi l2), (3, vi l3), (4, vi l4), (5, vi l5)] [] (Y, (wI S 0 40 l5, T)) _
      refine go_blk rfl [(.aload_n 0, 1, 0, 0, 0, .inl 0)] 53 54 _ _ _ (by decide +kernel) ?_
      show Go _ _ _ _ _ _ 54 [(0, rm 0), (1, vi l1), (2, vi l2), (3, vi l3), (4, vi l4), (5, vi l5)] [rm 0] (Y, (wI S 0 40 l5, T)) _
      obtain ⟨r5, hr5, h⟩ := bind_el h
      refine go_callV (idx := 399) (z := 0) (M' := M11_goes) (n := 0) (A := []) (v' := some (vi r5.2)) (μ' := (Y, (r5.1, T))) (d' := 6) (mc' := 0) (ms' := 0) (kc' := 0) (ks' := 0) (ci := 11) (x := .inr (.inl 0)) (by decide +kernel) ml_11_399 rfl wv11_goes rfl (by decide) rfl (lm_t0 hT) (ret11_goes hT hr5) (by decide) rfl rfl (Nat.le_of_ble_eq_true rfl) rfl (jag rfl rfl) ?_
      show Go _ _ _ _ _ _ 57 [(0, rm 0), (1, vi l1), (2, vi l2), (3, vi l3), (4, vi l4), (5, vi l5)] [vi r5.2] (Y, (r5.1, T)) _
      refine go_blk rfl [(.iload_n 1, 1, 1, 0, 0, .inl 0)] 57 58 _ _ _ (by decide +kernel) ?_
      show Go _ _ _ _ _ _ 58 [(0, rm 0), (1, vi l1), (2, vi l2), (3, vi l3), (4, vi l4), (5, vi l5)] [vi l1, vi r5.2] (Y, (r5.1, T)) _
      obtain ⟨r6, hr6, h⟩ := bind_el h
      refine go_callS (idx := 148) (z := 0) (M' := M11_has) (n := 2) (A := [vi r5.2, vi l1]) (v' := some (vi r6)) (μ' := (Y, (r5.1, T))) (d' := 1) (mc' := 0) (ms' := 0) (kc' := 0) (ks' := 0) (by decide +kernel) ml_11_148 rfl ws11_has rfl (ret11_has hr6) (by decide) rfl rfl (Nat.le_of_ble_eq_true rfl) rfl (jag rfl rfl) ?_
      show Go _ _ _ _ _ _ 61 [(0, rm 0), (1, vi l1), (2, vi l2), (3, vi l3), (4, vi l4), (5, vi l5)] [vi r6] (Y, (r5.1, T)) _
      refine go_blk rfl [(.istore 6, 2, 6, 0, 0, .inl 0), (.aload_n 0, 1, 0, 0, 0, .inl 0)] 61 64 _ _ _ (by decide +kernel) ?_
      show Go _ _ _ _ _ _ 64 [(6, vi r6), (0, rm 0), (1, vi l1), (2, vi l2), (3, vi l3), (4, vi l4), (5, vi l5)] [rm 0] (Y, (r5.1, T)) _
      obtain ⟨r7, hr7, h⟩ := bind_el h
      refine go_callV (idx := 444) (z := 0) (M' := M11_laysBack) (n := 0) (A := []) (v' := none) (μ' := (Y, (r7.1, T))) (d' := 3) (mc' := 0) (ms' := 0) (kc' := 0) (ks' := 0) (ci := 11) (x := .inr (.inl 0)) (by decide +kernel) ml_11_444 rfl wv11_laysBack rfl (by decide) rfl (lm_t0 hT) (ret11_laysBack hT hr7) (by decide) rfl rfl (Nat.le_of_ble_eq_true rfl) rfl (jag rfl rfl) ?_
      show Go _ _ _ _ _ _ 67 [(6, vi r6), (0, rm 0), (1, vi l1), (2, vi l2), (3, vi l3), (4, vi l4), (5, vi l5)] [] (Y, (r7.1, T)) _
      refine go_blk rfl [(.iload 6, 2, 6, 0, 0, .inl 0)] 67 69 _ _ _ (by decide +kernel) ?_
      show Go _ _ _ _ _ _ 69 [(6, vi r6), (0, rm 0), (1, vi l1), (2, vi l2), (3, vi l3), (4, vi l4), (5, vi l5)] [vi r6] (Y, (r7.1, T)) _
      have key : ∀ z0 : Int32, z0 = ((if r6 = 0 then l4 else (if l3 = 0 then l5 else l4)) : Int32) → Go M11_safe 7 0 0 0 0 83 [(0, rm 0), (1, vi l1), (2, vi l2), (3, vi l3), (5, vi l5), (6, vi r6)] [vi z0] (Y, (r7.1, T)) Q := by
        intro z0 ez0
        subst ez0
        refine go_blk rfl [(.istore 4, 2, 4, 0, 0, .inl 0), (.iload_n 3, 1, 3, 0, 0, .inl 0), (.iload 6, 2, 6, 0, 0, .inl 0)] 83 88 _ _ _ (by decide +kernel) ?_
        show Go _ _ _ _ _ _ 88 [(4, vi (((if r6 = 0 then l4 else (if l3 = 0 then l5 else l4)) : Int32))), (0, rm 0), (1, vi l1), (2, vi l2), (3, vi l3), (5, vi l5), (6, vi r6)] [vi r6, vi l3] (Y, (r7.1, T)) _
        have key : ∀ z0 : Int32, z0 = ((if r6 = 0 then 0 else 1) : Int32) → Go M11_safe 7 0 0 0 0 96 [(0, rm 0), (1, vi l1), (2, vi l2), (4, vi (((if r6 = 0 then l4 else (if l3 = 0 then l5 else l4)) : Int32))), (5, vi l5)] [vi z0, vi l3] (Y, (r7.1, T)) Q := by
          intro z0 ez0
          subst ez0
          refine go_blk rfl [(.iadd, 1, 0, 0, 0, .inl 0), (.istore_n 3, 1, 3, 0, 0, .inl 0), (.iinc 5 1, 3, 5, 0, 0, .inl 1)] 96 101 _ _ _ (by decide +kernel) ?_
          show Go _ _ _ _ _ _ 101 [(5, vi (l5 + 1)), (3, vi (l3 + (((if r6 = 0 then 0 else 1) : Int32)))), (0, rm 0), (1, vi l1), (2, vi l2), (4, vi (((if r6 = 0 then l4 else (if l3 = 0 then l5 else l4)) : Int32)))] [] (Y, (r7.1, T)) _
          refine go_goto (off := (-61)) (tgt := 40) (by decide +kernel) (by decide) ?_
          refine go_pick [2, 3, 4, 1, 5, 0] rfl ?_
          exact ih _ _ _ _ _ h k
        clear h
        by_cases q7 : r6 = 0
        · refine go_if_eq (off := 7) (tgt := 95) (by decide +kernel) (by decide) (fun _ => ?_) (fun z => absurd q7 z)
          refine go_blk rfl [(.iconst 0, 1, 0, 0, 0, .inl 0)] 95 96 _ _ _ (by decide +kernel) ?_
          show Go _ _ _ _ _ _ 96 [(4, vi (((if r6 = 0 then l4 else (if l3 = 0 then l5 else l4)) : Int32))), (0, rm 0), (1, vi l1), (2, vi l2), (3, vi l3), (5, vi l5), (6, vi r6)] [vi 0, vi l3] (Y, (r7.1, T)) _
          refine go_pick [1, 2, 3, 0, 5] rfl ?_; exact key _ (by rw [if_pos q7])
        · refine go_if_eq (off := 7) (tgt := 95) (by decide +kernel) (by decide) (fun z => absurd z q7) (fun _ => ?_)
          refine go_blk rfl [(.iconst 1, 1, 0, 0, 0, .inl 1)] 91 92 _ _ _ (by decide +kernel) ?_
          show Go _ _ _ _ _ _ 92 [(4, vi (((if r6 = 0 then l4 else (if l3 = 0 then l5 else l4)) : Int32))), (0, rm 0), (1, vi l1), (2, vi l2), (3, vi l3), (5, vi l5), (6, vi r6)] [vi 1, vi l3] (Y, (r7.1, T)) _
          refine go_goto (off := 4) (tgt := 96) (by decide +kernel) (by decide) ?_
          refine go_pick [1, 2, 3, 0, 5] rfl ?_; exact key _ (by rw [if_neg q7])
      clear h
      by_cases q5 : r6 = 0
      · refine go_if_eq (off := 12) (tgt := 81) (by decide +kernel) (by decide) (fun _ => ?_) (fun z => absurd q5 z)
        refine go_blk rfl [(.iload 4, 2, 4, 0, 0, .inl 0)] 81 83 _ _ _ (by decide +kernel) ?_
        show Go _ _ _ _ _ _ 83 [(6, vi r6), (0, rm 0), (1, vi l1), (2, vi l2), (3, vi l3), (4, vi l4), (5, vi l5)] [vi l4] (Y, (r7.1, T)) _
        refine go_pick [1, 2, 3, 4, 6, 0] rfl ?_; exact key _ (by rw [if_pos q5])
      · refine go_if_eq (off := 12) (tgt := 81) (by decide +kernel) (by decide) (fun z => absurd z q5) (fun _ => ?_)
        refine go_blk rfl [(.iload_n 3, 1, 3, 0, 0, .inl 0)] 72 73 _ _ _ (by decide +kernel) ?_
        show Go _ _ _ _ _ _ 73 [(6, vi r6), (0, rm 0), (1, vi l1), (2, vi l2), (3, vi l3), (4, vi l4), (5, vi l5)] [vi l3] (Y, (r7.1, T)) _
        by_cases q6 : l3 = 0
        · refine go_if_ne (off := 8) (tgt := 81) (by decide +kernel) (by decide) (fun z => absurd q6 z) (fun _ => ?_)
          refine go_blk rfl [(.iload 5, 2, 5, 0, 0, .inl 0)] 76 78 _ _ _ (by decide +kernel) ?_
          show Go _ _ _ _ _ _ 78 [(6, vi r6), (0, rm 0), (1, vi l1), (2, vi l2), (3, vi l3), (4, vi l4), (5, vi l5)] [vi l5] (Y, (r7.1, T)) _
          refine go_goto (off := 5) (tgt := 83) (by decide +kernel) (by decide) ?_
          refine go_pick [1, 2, 3, 4, 6, 0] rfl ?_; exact key _ (by rw [if_neg q5, if_pos q6])
        · refine go_if_ne (off := 8) (tgt := 81) (by decide +kernel) (by decide) (fun _ => ?_) (fun z => absurd z q6)
          refine go_blk rfl [(.iload 4, 2, 4, 0, 0, .inl 0)] 81 83 _ _ _ (by decide +kernel) ?_
          show Go _ _ _ _ _ _ 83 [(6, vi r6), (0, rm 0), (1, vi l1), (2, vi l2), (3, vi l3), (4, vi l4), (5, vi l5)] [vi l4] (Y, (r7.1, T)) _
          refine go_pick [1, 2, 3, 4, 6, 0] rfl ?_; exact key _ (by rw [if_neg q5, if_neg q6])
theorem ret11_safe {S : jS} {T : jT} {Y : jS × jT} {a0 : Int32} {a1 : Int32} {S1 : jS} {x : Int32} (hT : LayM T) (h : f11_safe S a0 a1 = some (S1, x)) : Ret M11_safe 7 0 0 [rm 0, vi a0, vi a1] (Y, (S, T)) (some (vi x)) (Y, (S1, T)) := by
  refine Ret.of (by decide +kernel) (Nat.le_of_ble_eq_true rfl) ?_
  unfold f11_safe at h
  show Go _ _ _ _ _ _ 0 [(0, rm 0), (1, vi a0), (2, vi a1)] [] (Y, (S, T)) _
  refine go_blk rfl [(.aload_n 0, 1, 0, 0, 0, .inl 0), (.iload_n 1, 1, 1, 0, 0, .inl 0)] 0 2 _ _ _ (by decide +kernel) ?_
  show Go _ _ _ _ _ _ 2 [(0, rm 0), (1, vi a0), (2, vi a1)] [vi a0, rm 0] (Y, (S, T)) _
  obtain ⟨r1, hr1, h⟩ := bind_el h
  refine go_callV (idx := 426) (z := 0) (M' := M11_isStill) (n := 1) (A := [vi a0]) (v' := some (vi r1)) (μ' := (Y, (S, T))) (d' := 3) (mc' := 0) (ms' := 0) (kc' := 0) (ks' := 0) (ci := 11) (x := .inr (.inl 0)) (by decide +kernel) ml_11_426 rfl wv11_isStill rfl (by decide) rfl (lm_t0 hT) (ret11_isStill hT hr1) (by decide) rfl rfl (Nat.le_of_ble_eq_true rfl) rfl (jag rfl rfl) ?_
  show Go _ _ _ _ _ _ 5 [(0, rm 0), (1, vi a0), (2, vi a1)] [vi r1] (Y, (S, T)) _
  refine ite_el h (fun q1 h => ?_) (fun q1 h => ?_)
  · refine go_if_eq (off := 20) (tgt := 25) (by decide +kernel) (by decide) (fun _ => ?_) (fun z => absurd q1 z)
    refine go_blk rfl [(.iconst (-1), 1, 0, 0, 0, .inl (-1))] 25 26 _ _ _ (by decide +kernel) ?_
    show Go _ _ _ _ _ _ 26 [(0, rm 0), (1, vi a0), (2, vi a1)] [vi ((-1))] (Y, (S, T)) _
    obtain ⟨rfl, rfl⟩ := Prod.mk.inj (Option.some.inj h)
    exact go_ireturn (by decide +kernel) rfl rfl ⟨rfl, rfl⟩
  · refine go_if_eq (off := 20) (tgt := 25) (by decide +kernel) (by decide) (fun z => absurd z q1) (fun _ => ?_)
    refine go_blk rfl [(.aload_n 0, 1, 0, 0, 0, .inl 0)] 8 9 _ _ _ (by decide +kernel) ?_
    show Go _ _ _ _ _ _ 9 [(0, rm 0), (1, vi a0), (2, vi a1)] [rm 0] (Y, (S, T)) _
    obtain ⟨r2, hr2, h⟩ := bind_el h
    refine go_callV (idx := 384) (z := 0) (M' := M11_isDone) (n := 0) (A := []) (v' := some (vi r2)) (μ' := (Y, (S, T))) (d' := 2) (mc' := 0) (ms' := 0) (kc' := 0) (ks' := 0) (ci := 11) (x := .inr (.inl 0)) (by decide +kernel) ml_11_384 rfl wv11_isDone rfl (by decide) rfl (lm_t0 hT) (ret11_isDone hT hr2) (by decide) rfl rfl (Nat.le_of_ble_eq_true rfl) rfl (jag rfl rfl) ?_
    show Go _ _ _ _ _ _ 12 [(0, rm 0), (1, vi a0), (2, vi a1)] [vi r2] (Y, (S, T)) _
    refine ite_el h (fun q2 h => ?_) (fun q2 h => ?_)
    · refine go_if_ne (off := 13) (tgt := 25) (by decide +kernel) (by decide) (fun z => absurd q2 z) (fun _ => ?_)
      refine go_blk rfl [(.iload_n 2, 1, 2, 0, 0, .inl 0), (.i2l, 1, 0, 0, 0, .inl 0), (.lconst 0, 1, 0, 0, 0, .inr (.inl 0)), (.lconst 1, 1, 0, 0, 0, .inr (.inl 1))] 15 19 _ _ _ (by decide +kernel) ?_
      show Go _ _ _ _ _ _ 19 [(0, rm 0), (1, vi a0), (2, vi a1)] [vl 1, vl 0, vl a1.toInt64] (Y, (S, T)) _
      obtain ⟨r3, hr3, h⟩ := bind_el h
      refine go_callS (idx := 140) (z := 0) (M' := M11_in) (n := 3) (A := [vl a1.toInt64, vl 0, vl 1]) (v' := some (vi r3)) (μ' := (Y, (S, T))) (d' := 1) (mc' := 0) (ms' := 0) (kc' := 0) (ks' := 0) (by decide +kernel) ml_11_140 rfl ws11_in rfl (ret11_in hr3) (by decide) rfl rfl (Nat.le_of_ble_eq_true rfl) rfl (jag rfl rfl) ?_
      show Go _ _ _ _ _ _ 22 [(0, rm 0), (1, vi a0), (2, vi a1)] [vi r3] (Y, (S, T)) _
      refine ite_el h (fun q3 h => ?_) (fun q3 h => ?_)
      · refine go_if_ne (off := 5) (tgt := 27) (by decide +kernel) (by decide) (fun z => absurd q3 z) (fun _ => ?_)
        refine go_blk rfl [(.iconst (-1), 1, 0, 0, 0, .inl (-1))] 25 26 _ _ _ (by decide +kernel) ?_
        show Go _ _ _ _ _ _ 26 [(0, rm 0), (1, vi a0), (2, vi a1)] [vi ((-1))] (Y, (S, T)) _
        obtain ⟨rfl, rfl⟩ := Prod.mk.inj (Option.some.inj h)
        exact go_ireturn (by decide +kernel) rfl rfl ⟨rfl, rfl⟩
      · refine go_if_ne (off := 5) (tgt := 27) (by decide +kernel) (by decide) (fun _ => ?_) (fun z => absurd z q3)
        refine go_blk rfl [(.aload_n 0, 1, 0, 0, 0, .inl 0)] 27 28 _ _ _ (by decide +kernel) ?_
        show Go _ _ _ _ _ _ 28 [(0, rm 0), (1, vi a0), (2, vi a1)] [rm 0] (Y, (S, T)) _
        obtain ⟨r4, hr4, h⟩ := bind_el h
        refine go_callV (idx := 438) (z := 0) (M' := M11_keepsAll) (n := 0) (A := []) (v' := none) (μ' := (Y, (r4.1, T))) (d' := 3) (mc' := 0) (ms' := 0) (kc' := 0) (ks' := 0) (ci := 11) (x := .inr (.inl 0)) (by decide +kernel) ml_11_438 rfl wv11_keepsAll rfl (by decide) rfl (lm_t0 hT) (ret11_keepsAll hT hr4) (by decide) rfl rfl (Nat.le_of_ble_eq_true rfl) rfl (jag rfl rfl) ?_
        show Go _ _ _ _ _ _ 31 [(0, rm 0), (1, vi a0), (2, vi a1)] [] (Y, (r4.1, T)) _
        refine go_blk rfl [(.iconst 0, 1, 0, 0, 0, .inl 0), (.istore_n 3, 1, 3, 0, 0, .inl 0), (.bipush (-2), 2, 0, 0, 0, .inl (-2)), (.istore 4, 2, 4, 0, 0, .inl 0), (.iconst 1, 1, 0, 0, 0, .inl 1), (.istore 5, 2, 5, 0, 0, .inl 0)] 31 40 _ _ _ (by decide +kernel) ?_
        show Go _ _ _ _ _ _ 40 [(5, vi 1), (4, vi ((-2))), (3, vi 0), (0, rm 0), (1, vi a0), (2, vi a1)] [] (Y, (r4.1, T)) _
        refine go_pick [3, 4, 5, 2, 1, 0] rfl ?_
        obtain ⟨y8, hy8, h⟩ := bind_el h
        refine f11_safe_L1_ok hT _ _ _ _ _ _ hy8 ?_
        show Go _ _ _ _ _ _ 104 [(0, rm 0), (2, vi a1), (3, vi y8.2.1), (4, vi y8.2.2)] [] (Y, (y8.1, T)) _
        refine go_blk rfl [(.aload_n 0, 1, 0, 0, 0, .inl 0), (.iconst (-1), 1, 0, 0, 0, .inl (-1)), (.putfield 103, 3, 11, 40, 0, .inl 0)] 104 109 _ _ _ (by decide +kernel) ?_
        refine And.intro (lm_t0 hT) (And.intro trivial ?_)
        show Go _ _ _ _ _ _ 109 [(0, rm 0), (2, vi a1), (3, vi y8.2.1), (4, vi y8.2.2)] [] (Y, (wI y8.1 0 40 ((-1)), T)) _
        refine go_blk rfl [(.iload_n 2, 1, 2, 0, 0, .inl 0)] 109 110 _ _ _ (by decide +kernel) ?_
        show Go _ _ _ _ _ _ 110 [(0, rm 0), (2, vi a1), (3, vi y8.2.1), (4, vi y8.2.2)] [vi a1] (Y, (wI y8.1 0 40 ((-1)), T)) _
        refine ite_el h (fun q8 h => ?_) (fun q8 h => ?_)
        · refine go_if_ne (off := 7) (tgt := 117) (by decide +kernel) (by decide) (fun z => absurd q8 z) (fun _ => ?_)
          refine go_blk rfl [(.iload_n 3, 1, 3, 0, 0, .inl 0)] 113 114 _ _ _ (by decide +kernel) ?_
          show Go _ _ _ _ _ _ 114 [(0, rm 0), (2, vi a1), (3, vi y8.2.1), (4, vi y8.2.2)] [vi y8.2.1] (Y, (wI y8.1 0 40 ((-1)), T)) _
          refine go_goto (off := 5) (tgt := 119) (by decide +kernel) (by decide) ?_
          obtain ⟨rfl, rfl⟩ := Prod.mk.inj (Option.some.inj h)
          exact go_ireturn (by decide +kernel) rfl rfl ⟨rfl, rfl⟩
        · refine go_if_ne (off := 7) (tgt := 117) (by decide +kernel) (by decide) (fun _ => ?_) (fun z => absurd z q8)
          refine go_blk rfl [(.iload 4, 2, 4, 0, 0, .inl 0)] 117 119 _ _ _ (by decide +kernel) ?_
          show Go _ _ _ _ _ _ 119 [(0, rm 0), (2, vi a1), (3, vi y8.2.1), (4, vi y8.2.2)] [vi y8.2.2] (Y, (wI y8.1 0 40 ((-1)), T)) _
          obtain ⟨rfl, rfl⟩ := Prod.mk.inj (Option.some.inj h)
          exact go_ireturn (by decide +kernel) rfl rfl ⟨rfl, rfl⟩
    · refine go_if_ne (off := 13) (tgt := 25) (by decide +kernel) (by decide) (fun _ => ?_) (fun z => absurd z q2)
      refine go_blk rfl [(.iconst (-1), 1, 0, 0, 0, .inl (-1))] 25 26 _ _ _ (by decide +kernel) ?_
      show Go _ _ _ _ _ _ 26 [(0, rm 0), (1, vi a0), (2, vi a1)] [vi ((-1))] (Y, (S, T)) _
      obtain ⟨rfl, rfl⟩ := Prod.mk.inj (Option.some.inj h)
      exact go_ireturn (by decide +kernel) rfl rfl ⟨rfl, rfl⟩
def f11_power_L1 (l0 : Int32) (l1 : Int32) : Nat → Int32 → Int32 → Option Int32
  | 0, _, _ => none
  | n + 1, l2, l3 => (if l1 ≤ l3 then some l2 else f11_power_L1 l0 l1 n (l2 * l0) (l3 + 1))
def f11_power (a0 : Int32) (a1 : Int32) : Option Int32 := Option.bind (f11_power_L1 a0 a1 jF 1 0) (fun y1 => some y1)
theorem f11_power_L1_ok {μ : jMem} {l0 : Int32} {l1 : Int32} {Q : Option jV → jMem → Prop} : ∀ (n : Nat) (l2 : Int32) (l3 : Int32) (r : Int32), f11_power_L1 l0 l1 n l2 l3 = some r → Go M11_power 1 0 0 0 0 19 [(2, vi r)] [] μ Q → Go M11_power 1 0 0 0 0 4 [(0, vi l0), (1, vi l1), (2, vi l2), (3, vi l3)] [] μ Q := by
  intro n
  induction n with
  | zero => intro l2 l3 r h k; exact absurd h (by intro z; cases z)
  | succ n ih =>
    intro l2 l3 r h k
    rw [f11_power_L1] at h
    refine go_blk rfl [(.iload_n 3, 1, 3, 0, 0, .inl 0), (.iload_n 1, 1, 1, 0, 0, .inl 0)] 4 6 _ _ _ (by decide +kernel) ?_
    show Go _ _ _ _ _ _ 6 [(0, vi l0), (1, vi l1), (2, vi l2), (3, vi l3)] [vi l1, vi l3] μ _
    refine ite_el h (fun q1 h => ?_) (fun q1 h => ?_)
    · refine go_icmp_ge (off := 13) (tgt := 19) (by decide +kernel) (by decide) (fun _ => ?_) (fun z => absurd q1 z)
      obtain rfl := Option.some.inj h
      refine go_pick [2] rfl ?_
      exact k
    · refine go_icmp_ge (off := 13) (tgt := 19) (by decide +kernel) (by decide) (fun z => absurd z q1) (fun _ => ?_)
      refine go_blk rfl [(.iload_n 2, 1, 2, 0, 0, .inl 0), (.iload_n 0, 1, 0, 0, 0, .inl 0), (.imul, 1, 0, 0, 0, .inl 0), (.istore_n 2, 1, 2, 0, 0, .inl 0), (.iinc 3 1, 3, 3, 0, 0, .inl 1)] 9 16 _ _ _ (by decide +kernel) ?_
      show Go _ _ _ _ _ _ 16 [(3, vi (l3 + 1)), (2, vi (l2 * l0)), (0, vi l0), (1, vi l1)] [] μ _
      refine go_goto (off := (-12)) (tgt := 4) (by decide +kernel) (by decide) ?_
      refine go_pick [2, 3, 1, 0] rfl ?_
      exact ih _ _ _ h k
theorem ret11_power {μ : jMem} {a0 : Int32} {a1 : Int32} {x : Int32} (h : f11_power a0 a1 = some x) : Ret M11_power 1 0 0 [vi a0, vi a1] μ (some (vi x)) μ := by
  refine Ret.of (by decide +kernel) (Nat.le_of_ble_eq_true rfl) ?_
  unfold f11_power at h
  show Go _ _ _ _ _ _ 0 [(0, vi a0), (1, vi a1)] [] μ _
  refine go_blk rfl [(.iconst 1, 1, 0, 0, 0, .inl 1), (.istore_n 2, 1, 2, 0, 0, .inl 0), (.iconst 0, 1, 0, 0, 0, .inl 0), (.istore_n 3, 1, 3, 0, 0, .inl 0)] 0 4 _ _ _ (by decide +kernel) ?_
  show Go _ _ _ _ _ _ 4 [(3, vi 0), (2, vi 1), (0, vi a0), (1, vi a1)] [] μ _
  refine go_pick [2, 3, 1, 0] rfl ?_
  obtain ⟨y1, hy1, h⟩ := bind_el h
  refine f11_power_L1_ok _ _ _ _ hy1 ?_
  show Go _ _ _ _ _ _ 19 [(2, vi y1)] [] μ _
  refine go_blk rfl [(.iload_n 2, 1, 2, 0, 0, .inl 0)] 19 20 _ _ _ (by decide +kernel) ?_
  show Go _ _ _ _ _ _ 20 [(2, vi y1)] [vi y1] μ _
  obtain rfl := Option.some.inj h
  exact go_ireturn (by decide +kernel) rfl rfl ⟨rfl, rfl⟩
def f11_staysBy_L1 (l1 : Int32) (l2 : Int32) (l3 : Int32) : Nat → jS → Int32 → Int32 → Option jS
  | 0, _, _, _ => none
  | n + 1, S, l4, l5 => (if l2 ≤ l5 then some S else (if ¬ (l4 / 6) = 0 then Option.bind (f11_goes (wI S 0 40 (1 + (irm (l3 / (l4 / 6)) 6)))) (fun r2 => f11_staysBy_L1 l1 l2 l3 n r2.1 (l4 / 6) (l5 + 1)) else none))
def f11_staysBy (S : jS) (a0 : Int32) (a1 : Int32) (a2 : Int32) : Option (jS × Int32) := Option.bind (f11_power 6 a1) (fun r1 => Option.bind (f11_staysBy_L1 a0 a1 a2 jF S r1 0) (fun y3 => Option.bind (f11_has (y3.1 1 6) a0) (fun r4 => Option.bind (f11_laysBack (wI y3 0 40 ((-1)))) (fun r5 => (if r4 = 0 ∨ r4 = 1 then some (r5.1, r4) else none)))))
theorem f11_staysBy_L1_ok {T : jT} {Y : jS × jT} {l1 : Int32} {l2 : Int32} {l3 : Int32} {Q : Option jV → jMem → Prop} (hT : LayM T) : ∀ (n : Nat) (S : jS) (l4 : Int32) (l5 : Int32) (r : jS), f11_staysBy_L1 l1 l2 l3 n S l4 l5 = some r → Go M11_staysBy 7 0 0 0 0 48 [(0, rm 0), (1, vi l1)] [] (Y, (r, T)) Q → Go M11_staysBy 7 0 0 0 0 11 [(0, rm 0), (1, vi l1), (2, vi l2), (3, vi l3), (4, vi l4), (5, vi l5)] [] (Y, (S, T)) Q := by
  intro n
  induction n with
  | zero => intro S l4 l5 r h k; exact absurd h (by intro z; cases z)
  | succ n ih =>
    intro S l4 l5 r h k
    rw [f11_staysBy_L1] at h
    refine go_blk rfl [(.iload 5, 2, 5, 0, 0, .inl 0), (.iload_n 2, 1, 2, 0, 0, .inl 0)] 11 14 _ _ _ (by decide +kernel) ?_
    show Go _ _ _ _ _ _ 14 [(0, rm 0), (1, vi l1), (2, vi l2), (3, vi l3), (4, vi l4), (5, vi l5)] [vi l2, vi l5] (Y, (S, T)) _
    refine ite_el h (fun q1 h => ?_) (fun q1 h => ?_)
    · refine go_icmp_ge (off := 34) (tgt := 48) (by decide +kernel) (by decide) (fun _ => ?_) (fun z => absurd q1 z)
      obtain rfl := Option.some.inj h
      refine go_pick [0, 1] rfl ?_
      exact k
    · refine go_icmp_ge (off := 34) (tgt := 48) (by decide +kernel) (by decide) (fun z => absurd z q1) (fun _ => ?_)
      refine gd_el h (fun q2 h => ?_)
      refine go_blk rfl [(.iload 4, 2, 4, 0, 0, .inl 0), (.bipush 6, 2, 0, 0, 0, .inl 6), (.idiv, 1, 0, 0, 0, .inl 0), (.istore 4, 2, 4, 0, 0, .inl 0), (.aload_n 0, 1, 0, 0, 0, .inl 0), (.iconst 1, 1, 0, 0, 0, .inl 1), (.iload_n 3, 1, 3, 0, 0, .inl 0), (.iload 4, 2, 4, 0, 0, .inl 0), (.idiv, 1, 0, 0, 0, .inl 0), (.bipush 6, 2, 0, 0, 0, .inl 6), (.irem, 1, 0, 0, 0, .inl 0), (.iadd, 1, 0, 0, 0, .inl 0), (.putfield 103, 3, 11, 40, 0, .inl 0)] 17 37 _ _ _ (by decide +kernel) ?_
      refine And.intro (by decide) ?_
      refine And.intro q2 ?_
      refine And.intro (by decide) ?_
      refine And.intro (lm_t0 hT) (And.intro trivial ?_)
      show Go _ _ _ _ _ _ 37 [(4, vi (l4 / 6)), (0, rm 0), (1, vi l1), (2, vi l2), (3, vi l3), (5, vi l5)] [] (Y, (wI S 0 40 (1 + (irm (l3 / (l4 / 6)) 6)), T)) _
      refine go_blk rfl [(.aload_n 0, 1, 0, 0, 0, .inl 0)] 37 38 _ _ _ (by decide +kernel) ?_
      show Go _ _ _ _ _ _ 38 [(4, vi (l4 / 6)), (0, rm 0), (1, vi l1), (2, vi l2), (3, vi l3), (5, vi l5)] [rm 0] (Y, (wI S 0 40 (1 + (irm (l3 / (l4 / 6)) 6)), T)) _
      obtain ⟨r2, hr2, h⟩ := bind_el h
      refine go_callV (idx := 399) (z := 0) (M' := M11_goes) (n := 0) (A := []) (v' := some (vi r2.2)) (μ' := (Y, (r2.1, T))) (d' := 6) (mc' := 0) (ms' := 0) (kc' := 0) (ks' := 0) (ci := 11) (x := .inr (.inl 0)) (by decide +kernel) ml_11_399 rfl wv11_goes rfl (by decide) rfl (lm_t0 hT) (ret11_goes hT hr2) (by decide) rfl rfl (Nat.le_of_ble_eq_true rfl) rfl (jag rfl rfl) ?_
      show Go _ _ _ _ _ _ 41 [(4, vi (l4 / 6)), (0, rm 0), (1, vi l1), (2, vi l2), (3, vi l3), (5, vi l5)] [vi r2.2] (Y, (r2.1, T)) _
      refine go_blk rfl [(.pop, 1, 0, 0, 0, .inl 0), (.iinc 5 1, 3, 5, 0, 0, .inl 1)] 41 45 _ _ _ (by decide +kernel) ?_
      show Go _ _ _ _ _ _ 45 [(5, vi (l5 + 1)), (4, vi (l4 / 6)), (0, rm 0), (1, vi l1), (2, vi l2), (3, vi l3)] [] (Y, (r2.1, T)) _
      refine go_goto (off := (-34)) (tgt := 11) (by decide +kernel) (by decide) ?_
      refine go_pick [2, 3, 4, 5, 1, 0] rfl ?_
      exact ih _ _ _ _ h k
theorem ret11_staysBy {S : jS} {T : jT} {Y : jS × jT} {a0 : Int32} {a1 : Int32} {a2 : Int32} {S1 : jS} {x : Int32} (hT : LayM T) (h : f11_staysBy S a0 a1 a2 = some (S1, x)) : Ret M11_staysBy 7 0 0 [rm 0, vi a0, vi a1, vi a2] (Y, (S, T)) (some (vi x)) (Y, (S1, T)) := by
  refine Ret.of (by decide +kernel) (Nat.le_of_ble_eq_true rfl) ?_
  unfold f11_staysBy at h
  show Go _ _ _ _ _ _ 0 [(0, rm 0), (1, vi a0), (2, vi a1), (3, vi a2)] [] (Y, (S, T)) _
  refine go_blk rfl [(.bipush 6, 2, 0, 0, 0, .inl 6), (.iload_n 2, 1, 2, 0, 0, .inl 0)] 0 3 _ _ _ (by decide +kernel) ?_
  show Go _ _ _ _ _ _ 3 [(0, rm 0), (1, vi a0), (2, vi a1), (3, vi a2)] [vi a1, vi 6] (Y, (S, T)) _
  obtain ⟨r1, hr1, h⟩ := bind_el h
  refine go_callS (idx := 450) (z := 0) (M' := M11_power) (n := 2) (A := [vi 6, vi a1]) (v' := some (vi r1)) (μ' := (Y, (S, T))) (d' := 1) (mc' := 0) (ms' := 0) (kc' := 0) (ks' := 0) (by decide +kernel) ml_11_450 rfl ws11_power rfl (ret11_power hr1) (by decide) rfl rfl (Nat.le_of_ble_eq_true rfl) rfl (jag rfl rfl) ?_
  show Go _ _ _ _ _ _ 6 [(0, rm 0), (1, vi a0), (2, vi a1), (3, vi a2)] [vi r1] (Y, (S, T)) _
  refine go_blk rfl [(.istore 4, 2, 4, 0, 0, .inl 0), (.iconst 0, 1, 0, 0, 0, .inl 0), (.istore 5, 2, 5, 0, 0, .inl 0)] 6 11 _ _ _ (by decide +kernel) ?_
  show Go _ _ _ _ _ _ 11 [(5, vi 0), (4, vi r1), (0, rm 0), (1, vi a0), (2, vi a1), (3, vi a2)] [] (Y, (S, T)) _
  refine go_pick [2, 3, 4, 5, 1, 0] rfl ?_
  obtain ⟨y3, hy3, h⟩ := bind_el h
  refine f11_staysBy_L1_ok hT _ _ _ _ _ hy3 ?_
  show Go _ _ _ _ _ _ 48 [(0, rm 0), (1, vi a0)] [] (Y, (y3, T)) _
  refine go_blk rfl [(.aload_n 0, 1, 0, 0, 0, .inl 0), (.getfield 9, 3, 11, 1, 1, .inl 0), (.bipush 6, 2, 0, 0, 0, .inl 6), (.iaload, 1, 20, 0, 0, .inl 0), (.iload_n 1, 1, 1, 0, 0, .inl 0)] 48 56 _ _ _ (by decide +kernel) ?_
  refine And.intro (lm_t0 hT) (Exists.intro _ (And.intro (gRm (lm_r1 hT)) ?_))
  refine And.intro (lm_t1 hT) (Exists.intro _ (And.intro (lm_n1 hT) (And.intro (inb_in (by decide)) ?_)))
  show Go _ _ _ _ _ _ 56 [(0, rm 0), (1, vi a0)] [vi a0, vi (y3.1 1 6)] (Y, (y3, T)) _
  obtain ⟨r4, hr4, h⟩ := bind_el h
  refine go_callS (idx := 148) (z := 0) (M' := M11_has) (n := 2) (A := [vi (y3.1 1 6), vi a0]) (v' := some (vi r4)) (μ' := (Y, (y3, T))) (d' := 1) (mc' := 0) (ms' := 0) (kc' := 0) (ks' := 0) (by decide +kernel) ml_11_148 rfl ws11_has rfl (ret11_has hr4) (by decide) rfl rfl (Nat.le_of_ble_eq_true rfl) rfl (jag rfl rfl) ?_
  show Go _ _ _ _ _ _ 59 [(0, rm 0), (1, vi a0)] [vi r4] (Y, (y3, T)) _
  refine go_blk rfl [(.istore 5, 2, 5, 0, 0, .inl 0), (.aload_n 0, 1, 0, 0, 0, .inl 0), (.iconst (-1), 1, 0, 0, 0, .inl (-1)), (.putfield 103, 3, 11, 40, 0, .inl 0)] 59 66 _ _ _ (by decide +kernel) ?_
  refine And.intro (lm_t0 hT) (And.intro trivial ?_)
  show Go _ _ _ _ _ _ 66 [(5, vi r4), (0, rm 0), (1, vi a0)] [] (Y, (wI y3 0 40 ((-1)), T)) _
  refine go_blk rfl [(.aload_n 0, 1, 0, 0, 0, .inl 0)] 66 67 _ _ _ (by decide +kernel) ?_
  show Go _ _ _ _ _ _ 67 [(5, vi r4), (0, rm 0), (1, vi a0)] [rm 0] (Y, (wI y3 0 40 ((-1)), T)) _
  obtain ⟨r5, hr5, h⟩ := bind_el h
  refine go_callV (idx := 444) (z := 0) (M' := M11_laysBack) (n := 0) (A := []) (v' := none) (μ' := (Y, (r5.1, T))) (d' := 3) (mc' := 0) (ms' := 0) (kc' := 0) (ks' := 0) (ci := 11) (x := .inr (.inl 0)) (by decide +kernel) ml_11_444 rfl wv11_laysBack rfl (by decide) rfl (lm_t0 hT) (ret11_laysBack hT hr5) (by decide) rfl rfl (Nat.le_of_ble_eq_true rfl) rfl (jag rfl rfl) ?_
  show Go _ _ _ _ _ _ 70 [(5, vi r4), (0, rm 0), (1, vi a0)] [] (Y, (r5.1, T)) _
  refine go_blk rfl [(.iload 5, 2, 5, 0, 0, .inl 0)] 70 72 _ _ _ (by decide +kernel) ?_
  show Go _ _ _ _ _ _ 72 [(5, vi r4), (0, rm 0), (1, vi a0)] [vi r4] (Y, (r5.1, T)) _
  refine gd_el h (fun q h => ?_)
  obtain ⟨rfl, rfl⟩ := Prod.mk.inj (Option.some.inj h)
  exact go_ireturn (by decide +kernel) rfl (by rcases q with q | q <;> rw [q] <;> rfl) ⟨rfl, rfl⟩
def f11_row_L1 (l1 : Int32) (l2 : Int32) (l3 : Int32) : Nat → jS → Int32 → Int32 → Int32 → Option (jS × Int32 × Int32)
  | 0, _, _, _, _ => none
  | n + 1, S, l4, l5, l6 => Option.bind (f11_power 6 l2) (fun r5 => (if r5 ≤ l6 then some (S, l4, l5) else Option.bind (f11_staysBy S l1 l2 l6) (fun r6 => f11_row_L1 l1 l2 l3 n r6.1 (((if r6.2 = 0 then l4 else (if l4 = 0 then (l4 + 1) else (l4 + 1))) : Int32)) (((if r6.2 = 0 then l5 else (if l4 = 0 then l6 else l5)) : Int32)) (l6 + 1))))
def f11_row (S : jS) (a0 : Int32) (a1 : Int32) (a2 : Int32) : Option (jS × Int32) := Option.bind (f11_isStill S a0) (fun r1 => (if r1 = 0 then some (S, (-3)) else Option.bind (f11_in a1.toInt64 1 4) (fun r2 => (if r2 = 0 then some (S, (-3)) else Option.bind (f11_in a2.toInt64 0 4) (fun r3 => (if r3 = 0 then some (S, (-3)) else Option.bind (f11_keepsAll S) (fun r4 => Option.bind (f11_row_L1 a0 a1 a2 jF r4.1 0 ((-1)) 0) (fun y7 => (if a2 = 0 then some (y7.1, y7.2.1) else (if a2 ≤ a1 then (if y7.2.2 = ((-1)) then some (y7.1, (-2)) else Option.bind (f11_power 6 (a1 - a2)) (fun r8 => (if ¬ r8 = 0 then some (y7.1, 1 + (irm (y7.2.2 / r8) 6)) else none))) else some (y7.1, (-1))))))))))))
theorem f11_row_L1_ok {T : jT} {Y : jS × jT} {l1 : Int32} {l2 : Int32} {l3 : Int32} {Q : Option jV → jMem → Prop} (hT : LayM T) : ∀ (n : Nat) (S : jS) (l4 : Int32) (l5 : Int32) (l6 : Int32) (r : (jS × Int32 × Int32)), f11_row_L1 l1 l2 l3 n S l4 l5 l6 = some r → Go M11_row 8 0 0 0 0 93 [(2, vi l2), (3, vi l3), (4, vi r.2.1), (5, vi r.2.2)] [] (Y, (r.1, T)) Q → Go M11_row 8 0 0 0 0 48 [(0, rm 0), (1, vi l1), (2, vi l2), (3, vi l3), (4, vi l4), (5, vi l5), (6, vi l6)] [] (Y, (S, T)) Q := by
  intro n
  induction n with
  | zero => intro S l4 l5 l6 r h k; exact absurd h (by intro z; cases z)
  | succ n ih =>
    intro S l4 l5 l6 r h k
    rw [f11_row_L1] at h
    refine go_blk rfl [(.iload 6, 2, 6, 0, 0, .inl 0), (.bipush 6, 2, 0, 0, 0, .inl 6), (.iload_n 2, 1, 2, 0, 0, .inl 0)] 48 53 _ _ _ (by decide +kernel) ?_
    show Go _ _ _ _ _ _ 53 [(0, rm 0), (1, vi l1), (2, vi l2), (3, vi l3), (4, vi l4), (5, vi l5), (6, vi l6)] [vi l2, vi 6, vi l6] (Y, (S, T)) _
    obtain ⟨r5, hr5, h⟩ := bind_el h
    refine go_callS (idx := 450) (z := 0) (M' := M11_power) (n := 2) (A := [vi 6, vi l2]) (v' := some (vi r5)) (μ' := (Y, (S, T))) (d' := 1) (mc' := 0) (ms' := 0) (kc' := 0) (ks' := 0) (by decide +kernel) ml_11_450 rfl ws11_power rfl (ret11_power hr5) (by decide) rfl rfl (Nat.le_of_ble_eq_true rfl) rfl (jag rfl rfl) ?_
    show Go _ _ _ _ _ _ 56 [(0, rm 0), (1, vi l1), (2, vi l2), (3, vi l3), (4, vi l4), (5, vi l5), (6, vi l6)] [vi r5, vi l6] (Y, (S, T)) _
    refine ite_el h (fun q4 h => ?_) (fun q4 h => ?_)
    · refine go_icmp_ge (off := 37) (tgt := 93) (by decide +kernel) (by decide) (fun _ => ?_) (fun z => absurd q4 z)
      obtain rfl := Option.some.inj h
      refine go_pick [2, 3, 4, 5] rfl ?_
      exact k
    · refine go_icmp_ge (off := 37) (tgt := 93) (by decide +kernel) (by decide) (fun z => absurd z q4) (fun _ => ?_)
      refine go_blk rfl [(.aload_n 0, 1, 0, 0, 0, .inl 0), (.iload_n 1, 1, 1, 0, 0, .inl 0), (.iload_n 2, 1, 2, 0, 0, .inl 0), (.iload 6, 2, 6, 0, 0, .inl 0)] 59 64 _ _ _ (by decide +kernel) ?_
      show Go _ _ _ _ _ _ 64 [(0, rm 0), (1, vi l1), (2, vi l2), (3, vi l3), (4, vi l4), (5, vi l5), (6, vi l6)] [vi l6, vi l2, vi l1, rm 0] (Y, (S, T)) _
      obtain ⟨r6, hr6, h⟩ := bind_el h
      refine go_callV (idx := 455) (z := 0) (M' := M11_staysBy) (n := 3) (A := [vi l1, vi l2, vi l6]) (v' := some (vi r6.2)) (μ' := (Y, (r6.1, T))) (d' := 7) (mc' := 0) (ms' := 0) (kc' := 0) (ks' := 0) (ci := 11) (x := .inr (.inl 0)) (by decide +kernel) ml_11_455 rfl wv11_staysBy rfl (by decide) rfl (lm_t0 hT) (ret11_staysBy hT hr6) (by decide) rfl rfl (Nat.le_of_ble_eq_true rfl) rfl (jag rfl rfl) ?_
      show Go _ _ _ _ _ _ 67 [(0, rm 0), (1, vi l1), (2, vi l2), (3, vi l3), (4, vi l4), (5, vi l5), (6, vi l6)] [vi r6.2] (Y, (r6.1, T)) _
      have key : ∀ z0 : Int32, z0 = ((if r6.2 = 0 then l4 else (if l4 = 0 then (l4 + 1) else (l4 + 1))) : Int32) → ∀ z1 : Int32, z1 = ((if r6.2 = 0 then l5 else (if l4 = 0 then l6 else l5)) : Int32) → Go M11_row 8 0 0 0 0 87 [(0, rm 0), (1, vi l1), (2, vi l2), (3, vi l3), (4, vi z0), (5, vi z1), (6, vi l6)] [] (Y, (r6.1, T)) Q := by
        intro z0 ez0 z1 ez1
        subst ez0
        subst ez1
        refine go_blk rfl [(.iinc 6 1, 3, 6, 0, 0, .inl 1)] 87 90 _ _ _ (by decide +kernel) ?_
        show Go _ _ _ _ _ _ 90 [(6, vi (l6 + 1)), (0, rm 0), (1, vi l1), (2, vi l2), (3, vi l3), (4, vi (((if r6.2 = 0 then l4 else (if l4 = 0 then (l4 + 1) else (l4 + 1))) : Int32))), (5, vi (((if r6.2 = 0 then l5 else (if l4 = 0 then l6 else l5)) : Int32)))] [] (Y, (r6.1, T)) _
        refine go_goto (off := (-42)) (tgt := 48) (by decide +kernel) (by decide) ?_
        refine go_pick [1, 2, 3, 4, 5, 6, 0] rfl ?_
        exact ih _ _ _ _ _ h k
      clear h
      by_cases q5 : r6.2 = 0
      · refine go_if_eq (off := 20) (tgt := 87) (by decide +kernel) (by decide) (fun _ => ?_) (fun z => absurd q5 z)
        refine go_pick [0, 1, 2, 3, 4, 5, 6] rfl ?_; exact key _ (by rw [if_pos q5]) _ (by rw [if_pos q5])
      · refine go_if_eq (off := 20) (tgt := 87) (by decide +kernel) (by decide) (fun z => absurd z q5) (fun _ => ?_)
        refine go_blk rfl [(.iload 4, 2, 4, 0, 0, .inl 0)] 70 72 _ _ _ (by decide +kernel) ?_
        show Go _ _ _ _ _ _ 72 [(0, rm 0), (1, vi l1), (2, vi l2), (3, vi l3), (4, vi l4), (5, vi l5), (6, vi l6)] [vi l4] (Y, (r6.1, T)) _
        by_cases q6 : l4 = 0
        · refine go_if_ne (off := 8) (tgt := 80) (by decide +kernel) (by decide) (fun z => absurd q6 z) (fun _ => ?_)
          refine go_blk rfl [(.iload 6, 2, 6, 0, 0, .inl 0)] 75 77 _ _ _ (by decide +kernel) ?_
          show Go _ _ _ _ _ _ 77 [(0, rm 0), (1, vi l1), (2, vi l2), (3, vi l3), (4, vi l4), (5, vi l5), (6, vi l6)] [vi l6] (Y, (r6.1, T)) _
          refine go_goto (off := 5) (tgt := 82) (by decide +kernel) (by decide) ?_
          refine go_blk rfl [(.istore 5, 2, 5, 0, 0, .inl 0), (.iinc 4 1, 3, 4, 0, 0, .inl 1)] 82 87 _ _ _ (by decide +kernel) ?_
          show Go _ _ _ _ _ _ 87 [(4, vi (l4 + 1)), (5, vi l6), (0, rm 0), (1, vi l1), (2, vi l2), (3, vi l3), (6, vi l6)] [] (Y, (r6.1, T)) _
          refine go_pick [2, 3, 4, 5, 0, 1, 6] rfl ?_; exact key _ (by rw [if_neg q5, if_pos q6]) _ (by rw [if_neg q5, if_pos q6])
        · refine go_if_ne (off := 8) (tgt := 80) (by decide +kernel) (by decide) (fun _ => ?_) (fun z => absurd z q6)
          refine go_blk rfl [(.iload 5, 2, 5, 0, 0, .inl 0), (.istore 5, 2, 5, 0, 0, .inl 0), (.iinc 4 1, 3, 4, 0, 0, .inl 1)] 80 87 _ _ _ (by decide +kernel) ?_
          show Go _ _ _ _ _ _ 87 [(4, vi (l4 + 1)), (5, vi l5), (0, rm 0), (1, vi l1), (2, vi l2), (3, vi l3), (6, vi l6)] [] (Y, (r6.1, T)) _
          refine go_pick [2, 3, 4, 5, 0, 1, 6] rfl ?_; exact key _ (by rw [if_neg q5, if_neg q6]) _ (by rw [if_neg q5, if_neg q6])
theorem ret11_row {S : jS} {T : jT} {Y : jS × jT} {a0 : Int32} {a1 : Int32} {a2 : Int32} {S1 : jS} {x : Int32} (hT : LayM T) (h : f11_row S a0 a1 a2 = some (S1, x)) : Ret M11_row 8 0 0 [rm 0, vi a0, vi a1, vi a2] (Y, (S, T)) (some (vi x)) (Y, (S1, T)) := by
  refine Ret.of (by decide +kernel) (Nat.le_of_ble_eq_true rfl) ?_
  unfold f11_row at h
  show Go _ _ _ _ _ _ 0 [(0, rm 0), (1, vi a0), (2, vi a1), (3, vi a2)] [] (Y, (S, T)) _
  refine go_blk rfl [(.aload_n 0, 1, 0, 0, 0, .inl 0), (.iload_n 1, 1, 1, 0, 0, .inl 0)] 0 2 _ _ _ (by decide +kernel) ?_
  show Go _ _ _ _ _ _ 2 [(0, rm 0), (1, vi a0), (2, vi a1), (3, vi a2)] [vi a0, rm 0] (Y, (S, T)) _
  obtain ⟨r1, hr1, h⟩ := bind_el h
  refine go_callV (idx := 426) (z := 0) (M' := M11_isStill) (n := 1) (A := [vi a0]) (v' := some (vi r1)) (μ' := (Y, (S, T))) (d' := 3) (mc' := 0) (ms' := 0) (kc' := 0) (ks' := 0) (ci := 11) (x := .inr (.inl 0)) (by decide +kernel) ml_11_426 rfl wv11_isStill rfl (by decide) rfl (lm_t0 hT) (ret11_isStill hT hr1) (by decide) rfl rfl (Nat.le_of_ble_eq_true rfl) rfl (jag rfl rfl) ?_
  show Go _ _ _ _ _ _ 5 [(0, rm 0), (1, vi a0), (2, vi a1), (3, vi a2)] [vi r1] (Y, (S, T)) _
  refine ite_el h (fun q1 h => ?_) (fun q1 h => ?_)
  · refine go_if_eq (off := 27) (tgt := 32) (by decide +kernel) (by decide) (fun _ => ?_) (fun z => absurd q1 z)
    refine go_blk rfl [(.bipush (-3), 2, 0, 0, 0, .inl (-3))] 32 34 _ _ _ (by decide +kernel) ?_
    show Go _ _ _ _ _ _ 34 [(0, rm 0), (1, vi a0), (2, vi a1), (3, vi a2)] [vi ((-3))] (Y, (S, T)) _
    obtain ⟨rfl, rfl⟩ := Prod.mk.inj (Option.some.inj h)
    exact go_ireturn (by decide +kernel) rfl rfl ⟨rfl, rfl⟩
  · refine go_if_eq (off := 27) (tgt := 32) (by decide +kernel) (by decide) (fun z => absurd z q1) (fun _ => ?_)
    refine go_blk rfl [(.iload_n 2, 1, 2, 0, 0, .inl 0), (.i2l, 1, 0, 0, 0, .inl 0), (.lconst 1, 1, 0, 0, 0, .inr (.inl 1)), (.ldc2_w 453, 3, 0, 0, 0, .inr (.inl 4))] 8 14 _ _ _ (by decide +kernel) ?_
    show Go _ _ _ _ _ _ 14 [(0, rm 0), (1, vi a0), (2, vi a1), (3, vi a2)] [vl 4, vl 1, vl a1.toInt64] (Y, (S, T)) _
    obtain ⟨r2, hr2, h⟩ := bind_el h
    refine go_callS (idx := 140) (z := 0) (M' := M11_in) (n := 3) (A := [vl a1.toInt64, vl 1, vl 4]) (v' := some (vi r2)) (μ' := (Y, (S, T))) (d' := 1) (mc' := 0) (ms' := 0) (kc' := 0) (ks' := 0) (by decide +kernel) ml_11_140 rfl ws11_in rfl (ret11_in hr2) (by decide) rfl rfl (Nat.le_of_ble_eq_true rfl) rfl (jag rfl rfl) ?_
    show Go _ _ _ _ _ _ 17 [(0, rm 0), (1, vi a0), (2, vi a1), (3, vi a2)] [vi r2] (Y, (S, T)) _
    refine ite_el h (fun q2 h => ?_) (fun q2 h => ?_)
    · refine go_if_eq (off := 15) (tgt := 32) (by decide +kernel) (by decide) (fun _ => ?_) (fun z => absurd q2 z)
      refine go_blk rfl [(.bipush (-3), 2, 0, 0, 0, .inl (-3))] 32 34 _ _ _ (by decide +kernel) ?_
      show Go _ _ _ _ _ _ 34 [(0, rm 0), (1, vi a0), (2, vi a1), (3, vi a2)] [vi ((-3))] (Y, (S, T)) _
      obtain ⟨rfl, rfl⟩ := Prod.mk.inj (Option.some.inj h)
      exact go_ireturn (by decide +kernel) rfl rfl ⟨rfl, rfl⟩
    · refine go_if_eq (off := 15) (tgt := 32) (by decide +kernel) (by decide) (fun z => absurd z q2) (fun _ => ?_)
      refine go_blk rfl [(.iload_n 3, 1, 3, 0, 0, .inl 0), (.i2l, 1, 0, 0, 0, .inl 0), (.lconst 0, 1, 0, 0, 0, .inr (.inl 0)), (.ldc2_w 453, 3, 0, 0, 0, .inr (.inl 4))] 20 26 _ _ _ (by decide +kernel) ?_
      show Go _ _ _ _ _ _ 26 [(0, rm 0), (1, vi a0), (2, vi a1), (3, vi a2)] [vl 4, vl 0, vl a2.toInt64] (Y, (S, T)) _
      obtain ⟨r3, hr3, h⟩ := bind_el h
      refine go_callS (idx := 140) (z := 0) (M' := M11_in) (n := 3) (A := [vl a2.toInt64, vl 0, vl 4]) (v' := some (vi r3)) (μ' := (Y, (S, T))) (d' := 1) (mc' := 0) (ms' := 0) (kc' := 0) (ks' := 0) (by decide +kernel) ml_11_140 rfl ws11_in rfl (ret11_in hr3) (by decide) rfl rfl (Nat.le_of_ble_eq_true rfl) rfl (jag rfl rfl) ?_
      show Go _ _ _ _ _ _ 29 [(0, rm 0), (1, vi a0), (2, vi a1), (3, vi a2)] [vi r3] (Y, (S, T)) _
      refine ite_el h (fun q3 h => ?_) (fun q3 h => ?_)
      · refine go_if_ne (off := 6) (tgt := 35) (by decide +kernel) (by decide) (fun z => absurd q3 z) (fun _ => ?_)
        refine go_blk rfl [(.bipush (-3), 2, 0, 0, 0, .inl (-3))] 32 34 _ _ _ (by decide +kernel) ?_
        show Go _ _ _ _ _ _ 34 [(0, rm 0), (1, vi a0), (2, vi a1), (3, vi a2)] [vi ((-3))] (Y, (S, T)) _
        obtain ⟨rfl, rfl⟩ := Prod.mk.inj (Option.some.inj h)
        exact go_ireturn (by decide +kernel) rfl rfl ⟨rfl, rfl⟩
      · refine go_if_ne (off := 6) (tgt := 35) (by decide +kernel) (by decide) (fun _ => ?_) (fun z => absurd z q3)
        refine go_blk rfl [(.aload_n 0, 1, 0, 0, 0, .inl 0)] 35 36 _ _ _ (by decide +kernel) ?_
        show Go _ _ _ _ _ _ 36 [(0, rm 0), (1, vi a0), (2, vi a1), (3, vi a2)] [rm 0] (Y, (S, T)) _
        obtain ⟨r4, hr4, h⟩ := bind_el h
        refine go_callV (idx := 438) (z := 0) (M' := M11_keepsAll) (n := 0) (A := []) (v' := none) (μ' := (Y, (r4.1, T))) (d' := 3) (mc' := 0) (ms' := 0) (kc' := 0) (ks' := 0) (ci := 11) (x := .inr (.inl 0)) (by decide +kernel) ml_11_438 rfl wv11_keepsAll rfl (by decide) rfl (lm_t0 hT) (ret11_keepsAll hT hr4) (by decide) rfl rfl (Nat.le_of_ble_eq_true rfl) rfl (jag rfl rfl) ?_
        show Go _ _ _ _ _ _ 39 [(0, rm 0), (1, vi a0), (2, vi a1), (3, vi a2)] [] (Y, (r4.1, T)) _
        refine go_blk rfl [(.iconst 0, 1, 0, 0, 0, .inl 0), (.istore 4, 2, 4, 0, 0, .inl 0), (.iconst (-1), 1, 0, 0, 0, .inl (-1)), (.istore 5, 2, 5, 0, 0, .inl 0), (.iconst 0, 1, 0, 0, 0, .inl 0), (.istore 6, 2, 6, 0, 0, .inl 0)] 39 48 _ _ _ (by decide +kernel) ?_
        show Go _ _ _ _ _ _ 48 [(6, vi 0), (5, vi ((-1))), (4, vi 0), (0, rm 0), (1, vi a0), (2, vi a1), (3, vi a2)] [] (Y, (r4.1, T)) _
        refine go_pick [3, 4, 5, 6, 2, 1, 0] rfl ?_
        obtain ⟨y7, hy7, h⟩ := bind_el h
        refine f11_row_L1_ok hT _ _ _ _ _ _ hy7 ?_
        show Go _ _ _ _ _ _ 93 [(2, vi a1), (3, vi a2), (4, vi y7.2.1), (5, vi y7.2.2)] [] (Y, (y7.1, T)) _
        refine go_blk rfl [(.iload_n 3, 1, 3, 0, 0, .inl 0)] 93 94 _ _ _ (by decide +kernel) ?_
        show Go _ _ _ _ _ _ 94 [(2, vi a1), (3, vi a2), (4, vi y7.2.1), (5, vi y7.2.2)] [vi a2] (Y, (y7.1, T)) _
        refine ite_el h (fun q7 h => ?_) (fun q7 h => ?_)
        · refine go_if_ne (off := 6) (tgt := 100) (by decide +kernel) (by decide) (fun z => absurd q7 z) (fun _ => ?_)
          refine go_blk rfl [(.iload 4, 2, 4, 0, 0, .inl 0)] 97 99 _ _ _ (by decide +kernel) ?_
          show Go _ _ _ _ _ _ 99 [(2, vi a1), (3, vi a2), (4, vi y7.2.1), (5, vi y7.2.2)] [vi y7.2.1] (Y, (y7.1, T)) _
          obtain ⟨rfl, rfl⟩ := Prod.mk.inj (Option.some.inj h)
          exact go_ireturn (by decide +kernel) rfl rfl ⟨rfl, rfl⟩
        · refine go_if_ne (off := 6) (tgt := 100) (by decide +kernel) (by decide) (fun _ => ?_) (fun z => absurd z q7)
          refine go_blk rfl [(.iload_n 3, 1, 3, 0, 0, .inl 0), (.iload_n 2, 1, 2, 0, 0, .inl 0)] 100 102 _ _ _ (by decide +kernel) ?_
          show Go _ _ _ _ _ _ 102 [(2, vi a1), (3, vi a2), (4, vi y7.2.1), (5, vi y7.2.2)] [vi a1, vi a2] (Y, (y7.1, T)) _
          refine ite_el h (fun q8 h => ?_) (fun q8 h => ?_)
          · refine go_icmp_le (off := 5) (tgt := 107) (by decide +kernel) (by decide) (fun _ => ?_) (fun z => absurd q8 z)
            refine go_blk rfl [(.iload 5, 2, 5, 0, 0, .inl 0), (.iconst (-1), 1, 0, 0, 0, .inl (-1))] 107 110 _ _ _ (by decide +kernel) ?_
            show Go _ _ _ _ _ _ 110 [(2, vi a1), (3, vi a2), (4, vi y7.2.1), (5, vi y7.2.2)] [vi ((-1)), vi y7.2.2] (Y, (y7.1, T)) _
            refine ite_el h (fun q9 h => ?_) (fun q9 h => ?_)
            · refine go_icmp_ne (off := 8) (tgt := 118) (by decide +kernel) (by decide) (fun z => absurd q9 z) (fun _ => ?_)
              refine go_blk rfl [(.bipush (-2), 2, 0, 0, 0, .inl (-2))] 113 115 _ _ _ (by decide +kernel) ?_
              show Go _ _ _ _ _ _ 115 [(2, vi a1), (3, vi a2), (4, vi y7.2.1), (5, vi y7.2.2)] [vi ((-2))] (Y, (y7.1, T)) _
              refine go_goto (off := 19) (tgt := 134) (by decide +kernel) (by decide) ?_
              obtain ⟨rfl, rfl⟩ := Prod.mk.inj (Option.some.inj h)
              exact go_ireturn (by decide +kernel) rfl rfl ⟨rfl, rfl⟩
            · refine go_icmp_ne (off := 8) (tgt := 118) (by decide +kernel) (by decide) (fun _ => ?_) (fun z => absurd z q9)
              refine go_blk rfl [(.iconst 1, 1, 0, 0, 0, .inl 1), (.iload 5, 2, 5, 0, 0, .inl 0), (.bipush 6, 2, 0, 0, 0, .inl 6), (.iload_n 2, 1, 2, 0, 0, .inl 0), (.iload_n 3, 1, 3, 0, 0, .inl 0), (.isub, 1, 0, 0, 0, .inl 0)] 118 126 _ _ _ (by decide +kernel) ?_
              show Go _ _ _ _ _ _ 126 [(2, vi a1), (3, vi a2), (4, vi y7.2.1), (5, vi y7.2.2)] [vi (a1 - a2), vi 6, vi y7.2.2, vi 1] (Y, (y7.1, T)) _
              obtain ⟨r8, hr8, h⟩ := bind_el h
              refine go_callS (idx := 450) (z := 0) (M' := M11_power) (n := 2) (A := [vi 6, vi (a1 - a2)]) (v' := some (vi r8)) (μ' := (Y, (y7.1, T))) (d' := 1) (mc' := 0) (ms' := 0) (kc' := 0) (ks' := 0) (by decide +kernel) ml_11_450 rfl ws11_power rfl (ret11_power hr8) (by decide) rfl rfl (Nat.le_of_ble_eq_true rfl) rfl (jag rfl rfl) ?_
              show Go _ _ _ _ _ _ 129 [(2, vi a1), (3, vi a2), (4, vi y7.2.1), (5, vi y7.2.2)] [vi r8, vi y7.2.2, vi 1] (Y, (y7.1, T)) _
              refine gd_el h (fun q10 h => ?_)
              refine go_blk rfl [(.idiv, 1, 0, 0, 0, .inl 0), (.bipush 6, 2, 0, 0, 0, .inl 6), (.irem, 1, 0, 0, 0, .inl 0), (.iadd, 1, 0, 0, 0, .inl 0)] 129 134 _ _ _ (by decide +kernel) ?_
              refine And.intro q10 ?_
              refine And.intro (by decide) ?_
              show Go _ _ _ _ _ _ 134 [(2, vi a1), (3, vi a2), (4, vi y7.2.1), (5, vi y7.2.2)] [vi (1 + (irm (y7.2.2 / r8) 6))] (Y, (y7.1, T)) _
              obtain ⟨rfl, rfl⟩ := Prod.mk.inj (Option.some.inj h)
              exact go_ireturn (by decide +kernel) rfl rfl ⟨rfl, rfl⟩
          · refine go_icmp_le (off := 5) (tgt := 107) (by decide +kernel) (by decide) (fun z => absurd z q8) (fun _ => ?_)
            refine go_blk rfl [(.iconst (-1), 1, 0, 0, 0, .inl (-1))] 105 106 _ _ _ (by decide +kernel) ?_
            show Go _ _ _ _ _ _ 106 [(2, vi a1), (3, vi a2), (4, vi y7.2.1), (5, vi y7.2.2)] [vi ((-1))] (Y, (y7.1, T)) _
            obtain ⟨rfl, rfl⟩ := Prod.mk.inj (Option.some.inj h)
            exact go_ireturn (by decide +kernel) rfl rfl ⟨rfl, rfl⟩
def f11_joins (a0 : Int32) (a1 : Int32) (a2 : Int32) : Option Int32 := (if a2 = 0 then (if a0 ≤ a1 then some a1 else some a0) else some (a0 + a1))
theorem ret11_joins {μ : jMem} {a0 : Int32} {a1 : Int32} {a2 : Int32} {x : Int32} (h : f11_joins a0 a1 a2 = some x) : Ret M11_joins 1 0 0 [rm 0, vi a0, vi a1, vi a2] μ (some (vi x)) μ := by
  refine Ret.of (by decide +kernel) (Nat.le_of_ble_eq_true rfl) ?_
  unfold f11_joins at h
  show Go _ _ _ _ _ _ 0 [(0, rm 0), (1, vi a0), (2, vi a1), (3, vi a2)] [] μ _
  refine go_blk rfl [(.iload_n 3, 1, 3, 0, 0, .inl 0)] 0 1 _ _ _ (by decide +kernel) ?_
  show Go _ _ _ _ _ _ 1 [(0, rm 0), (1, vi a0), (2, vi a1), (3, vi a2)] [vi a2] μ _
  refine ite_el h (fun q1 h => ?_) (fun q1 h => ?_)
  · refine go_if_eq (off := 9) (tgt := 10) (by decide +kernel) (by decide) (fun _ => ?_) (fun z => absurd q1 z)
    refine go_blk rfl [(.iload_n 1, 1, 1, 0, 0, .inl 0), (.iload_n 2, 1, 2, 0, 0, .inl 0)] 10 12 _ _ _ (by decide +kernel) ?_
    show Go _ _ _ _ _ _ 12 [(0, rm 0), (1, vi a0), (2, vi a1), (3, vi a2)] [vi a1, vi a0] μ _
    refine ite_el h (fun q2 h => ?_) (fun q2 h => ?_)
    · refine go_icmp_le (off := 7) (tgt := 19) (by decide +kernel) (by decide) (fun _ => ?_) (fun z => absurd q2 z)
      refine go_blk rfl [(.iload_n 2, 1, 2, 0, 0, .inl 0)] 19 20 _ _ _ (by decide +kernel) ?_
      show Go _ _ _ _ _ _ 20 [(0, rm 0), (1, vi a0), (2, vi a1), (3, vi a2)] [vi a1] μ _
      obtain rfl := Option.some.inj h
      exact go_ireturn (by decide +kernel) rfl rfl ⟨rfl, rfl⟩
    · refine go_icmp_le (off := 7) (tgt := 19) (by decide +kernel) (by decide) (fun z => absurd z q2) (fun _ => ?_)
      refine go_blk rfl [(.iload_n 1, 1, 1, 0, 0, .inl 0)] 15 16 _ _ _ (by decide +kernel) ?_
      show Go _ _ _ _ _ _ 16 [(0, rm 0), (1, vi a0), (2, vi a1), (3, vi a2)] [vi a0] μ _
      refine go_goto (off := 4) (tgt := 20) (by decide +kernel) (by decide) ?_
      obtain rfl := Option.some.inj h
      exact go_ireturn (by decide +kernel) rfl rfl ⟨rfl, rfl⟩
  · refine go_if_eq (off := 9) (tgt := 10) (by decide +kernel) (by decide) (fun z => absurd z q1) (fun _ => ?_)
    refine go_blk rfl [(.iload_n 1, 1, 1, 0, 0, .inl 0), (.iload_n 2, 1, 2, 0, 0, .inl 0), (.iadd, 1, 0, 0, 0, .inl 0)] 4 7 _ _ _ (by decide +kernel) ?_
    show Go _ _ _ _ _ _ 7 [(0, rm 0), (1, vi a0), (2, vi a1), (3, vi a2)] [vi (a0 + a1)] μ _
    refine go_goto (off := 13) (tgt := 20) (by decide +kernel) (by decide) ?_
    obtain rfl := Option.some.inj h
    exact go_ireturn (by decide +kernel) rfl rfl ⟨rfl, rfl⟩
def f11_leastFrom_L1 (S : jS) (l1 : Int32) (l2 : Int32) (l3 : Int32) : Nat → Int32 → Int32 → Option Int32
  | 0, _, _ => none
  | n + 1, l4, l5 => (if (S.1 1 1) ≤ l5 then some l4 else Option.bind (f11_has (S.1 1 6) l1) (fun r1 => (if r1 = 0 then some l4 else Option.bind (f11_has ((S.1 1 7) &&& (l2 ^^^ ((-1)))) l5) (fun r2 => Option.bind (if r2 = 0 then some l4 else (if inb ((64 * (l1 + 1)) + (l2 ||| ((1 : Int32) <<< (l5 &&& 31)))) 512 then (if 99999 ≤ (S.1 47 ((64 * (l1 + 1)) + (l2 ||| ((1 : Int32) <<< (l5 &&& 31)))).toNatClampNeg) then some l4 else Option.bind (f11_timeOf S l1 l5) (fun r3 => Option.bind (f11_joins r3 (S.1 47 ((64 * (l1 + 1)) + (l2 ||| ((1 : Int32) <<< (l5 &&& 31)))).toNatClampNeg) l3) (fun r4 => some (((if l4 ≤ r4 then l4 else r4) : Int32))))) else none)) (fun (y5 : Int32) => f11_leastFrom_L1 S l1 l2 l3 n y5 (l5 + 1))))))
def f11_leastFrom (S : jS) (a0 : Int32) (a1 : Int32) (a2 : Int32) : Option Int32 := (if inb ((64 * (a0 + 1)) + a1) 512 then Option.bind (f11_leastFrom_L1 S a0 a1 a2 jF (S.1 47 ((64 * (a0 + 1)) + a1).toNatClampNeg) 0) (fun y6 => some y6) else none)
theorem f11_leastFrom_L1_ok {T : jT} {Y : jS × jT} {S : jS} {l1 : Int32} {l2 : Int32} {l3 : Int32} {Q : Option jV → jMem → Prop} (hT : LayM T) : ∀ (n : Nat) (l4 : Int32) (l5 : Int32) (r : Int32), f11_leastFrom_L1 S l1 l2 l3 n l4 l5 = some r → Go M11_leastFrom 2 0 0 0 0 139 [(4, vi r)] [] (Y, (S, T)) Q → Go M11_leastFrom 2 0 0 0 0 18 [(0, rm 0), (1, vi l1), (2, vi l2), (3, vi l3), (4, vi l4), (5, vi l5)] [] (Y, (S, T)) Q := by
  intro n
  induction n with
  | zero => intro l4 l5 r h k; exact absurd h (by intro z; cases z)
  | succ n ih =>
    intro l4 l5 r h k
    rw [f11_leastFrom_L1] at h
    refine go_blk rfl [(.iload 5, 2, 5, 0, 0, .inl 0), (.aload_n 0, 1, 0, 0, 0, .inl 0), (.getfield 9, 3, 11, 1, 1, .inl 0), (.iconst 1, 1, 0, 0, 0, .inl 1), (.iaload, 1, 20, 0, 0, .inl 0)] 18 26 _ _ _ (by decide +kernel) ?_
    refine And.intro (lm_t0 hT) (Exists.intro _ (And.intro (gRm (lm_r1 hT)) ?_))
    refine And.intro (lm_t1 hT) (Exists.intro _ (And.intro (lm_n1 hT) (And.intro (inb_in (by decide)) ?_)))
    show Go _ _ _ _ _ _ 26 [(0, rm 0), (1, vi l1), (2, vi l2), (3, vi l3), (4, vi l4), (5, vi l5)] [vi (S.1 1 1), vi l5] (Y, (S, T)) _
    refine ite_el h (fun q2 h => ?_) (fun q2 h => ?_)
    · refine go_icmp_ge (off := 113) (tgt := 139) (by decide +kernel) (by decide) (fun _ => ?_) (fun z => absurd q2 z)
      obtain rfl := Option.some.inj h
      refine go_pick [4] rfl ?_
      exact k
    · refine go_icmp_ge (off := 113) (tgt := 139) (by decide +kernel) (by decide) (fun z => absurd z q2) (fun _ => ?_)
      refine go_blk rfl [(.aload_n 0, 1, 0, 0, 0, .inl 0), (.getfield 9, 3, 11, 1, 1, .inl 0), (.bipush 6, 2, 0, 0, 0, .inl 6), (.iaload, 1, 20, 0, 0, .inl 0), (.iload_n 1, 1, 1, 0, 0, .inl 0)] 29 37 _ _ _ (by decide +kernel) ?_
      refine And.intro (lm_t0 hT) (Exists.intro _ (And.intro (gRm (lm_r1 hT)) ?_))
      refine And.intro (lm_t1 hT) (Exists.intro _ (And.intro (lm_n1 hT) (And.intro (inb_in (by decide)) ?_)))
      show Go _ _ _ _ _ _ 37 [(0, rm 0), (1, vi l1), (2, vi l2), (3, vi l3), (4, vi l4), (5, vi l5)] [vi l1, vi (S.1 1 6)] (Y, (S, T)) _
      obtain ⟨r1, hr1, h⟩ := bind_el h
      refine go_callS (idx := 148) (z := 0) (M' := M11_has) (n := 2) (A := [vi (S.1 1 6), vi l1]) (v' := some (vi r1)) (μ' := (Y, (S, T))) (d' := 1) (mc' := 0) (ms' := 0) (kc' := 0) (ks' := 0) (by decide +kernel) ml_11_148 rfl ws11_has rfl (ret11_has hr1) (by decide) rfl rfl (Nat.le_of_ble_eq_true rfl) rfl (jag rfl rfl) ?_
      show Go _ _ _ _ _ _ 40 [(0, rm 0), (1, vi l1), (2, vi l2), (3, vi l3), (4, vi l4), (5, vi l5)] [vi r1] (Y, (S, T)) _
      refine ite_el h (fun q3 h => ?_) (fun q3 h => ?_)
      · refine go_if_eq (off := 99) (tgt := 139) (by decide +kernel) (by decide) (fun _ => ?_) (fun z => absurd q3 z)
        obtain rfl := Option.some.inj h
        refine go_pick [4] rfl ?_
        exact k
      · refine go_if_eq (off := 99) (tgt := 139) (by decide +kernel) (by decide) (fun z => absurd z q3) (fun _ => ?_)
        refine go_blk rfl [(.aload_n 0, 1, 0, 0, 0, .inl 0), (.getfield 9, 3, 11, 1, 1, .inl 0), (.bipush 7, 2, 0, 0, 0, .inl 7), (.iaload, 1, 20, 0, 0, .inl 0), (.iload_n 2, 1, 2, 0, 0, .inl 0), (.iconst (-1), 1, 0, 0, 0, .inl (-1)), (.ixor, 1, 0, 0, 0, .inl 0), (.iand, 1, 0, 0, 0, .inl 0), (.iload 5, 2, 5, 0, 0, .inl 0)] 43 56 _ _ _ (by decide +kernel) ?_
        refine And.intro (lm_t0 hT) (Exists.intro _ (And.intro (gRm (lm_r1 hT)) ?_))
        refine And.intro (lm_t1 hT) (Exists.intro _ (And.intro (lm_n1 hT) (And.intro (inb_in (by decide)) ?_)))
        show Go _ _ _ _ _ _ 56 [(0, rm 0), (1, vi l1), (2, vi l2), (3, vi l3), (4, vi l4), (5, vi l5)] [vi l5, vi ((S.1 1 7) &&& (l2 ^^^ ((-1))))] (Y, (S, T)) _
        obtain ⟨r2, hr2, h⟩ := bind_el h
        refine go_callS (idx := 148) (z := 0) (M' := M11_has) (n := 2) (A := [vi ((S.1 1 7) &&& (l2 ^^^ ((-1)))), vi l5]) (v' := some (vi r2)) (μ' := (Y, (S, T))) (d' := 1) (mc' := 0) (ms' := 0) (kc' := 0) (ks' := 0) (by decide +kernel) ml_11_148 rfl ws11_has rfl (ret11_has hr2) (by decide) rfl rfl (Nat.le_of_ble_eq_true rfl) rfl (jag rfl rfl) ?_
        show Go _ _ _ _ _ _ 59 [(0, rm 0), (1, vi l1), (2, vi l2), (3, vi l3), (4, vi l4), (5, vi l5)] [vi r2] (Y, (S, T)) _
        obtain ⟨y5, hy5, h⟩ := bind_el h
        have key : Go M11_leastFrom 2 0 0 0 0 133 [(0, rm 0), (1, vi l1), (2, vi l2), (3, vi l3), (4, vi y5), (5, vi l5)] [] (Y, (S, T)) Q := by
          refine go_blk rfl [(.iinc 5 1, 3, 5, 0, 0, .inl 1)] 133 136 _ _ _ (by decide +kernel) ?_
          show Go _ _ _ _ _ _ 136 [(5, vi (l5 + 1)), (0, rm 0), (1, vi l1), (2, vi l2), (3, vi l3), (4, vi y5)] [] (Y, (S, T)) _
          refine go_goto (off := (-118)) (tgt := 18) (by decide +kernel) (by decide) ?_
          refine go_pick [1, 2, 3, 4, 5, 0] rfl ?_
          exact ih _ _ _ h k
        replace h := hy5
        refine ite_el h (fun q4 h => ?_) (fun q4 h => ?_)
        · refine go_if_eq (off := 74) (tgt := 133) (by decide +kernel) (by decide) (fun _ => ?_) (fun z => absurd q4 z)
          obtain rfl := Option.some.inj h
          refine go_pick [0, 1, 2, 3, 4, 5] rfl ?_
          exact key
        · refine go_if_eq (off := 74) (tgt := 133) (by decide +kernel) (by decide) (fun z => absurd z q4) (fun _ => ?_)
          refine gd_el h (fun q5 h => ?_)
          refine go_blk rfl [(.aload_n 0, 1, 0, 0, 0, .inl 0), (.getfield 112, 3, 11, 47, 1, .inl 0), (.bipush 64, 2, 0, 0, 0, .inl 64), (.iload_n 1, 1, 1, 0, 0, .inl 0), (.iconst 1, 1, 0, 0, 0, .inl 1), (.iadd, 1, 0, 0, 0, .inl 0), (.imul, 1, 0, 0, 0, .inl 0), (.iload_n 2, 1, 2, 0, 0, .inl 0), (.iconst 1, 1, 0, 0, 0, .inl 1), (.iload 5, 2, 5, 0, 0, .inl 0), (.ishl, 1, 0, 0, 0, .inl 0), (.ior, 1, 0, 0, 0, .inl 0), (.iadd, 1, 0, 0, 0, .inl 0), (.iaload, 1, 20, 0, 0, .inl 0), (.ldc 225, 2, 0, 0, 0, .inl 99999)] 62 82 _ _ _ (by decide +kernel) ?_
          refine And.intro (lm_t0 hT) (Exists.intro _ (And.intro (gRm (lm_r47 hT)) ?_))
          refine And.intro (lm_t47 hT) (Exists.intro _ (And.intro (lm_n47 hT) (And.intro (inb_in q5) ?_)))
          show Go _ _ _ _ _ _ 82 [(0, rm 0), (1, vi l1), (2, vi l2), (3, vi l3), (4, vi l4), (5, vi l5)] [vi 99999, vi (S.1 47 ((64 * (l1 + 1)) + (l2 ||| ((1 : Int32) <<< (l5 &&& 31)))).toNatClampNeg)] (Y, (S, T)) _
          refine ite_el h (fun q6 h => ?_) (fun q6 h => ?_)
          · refine go_icmp_ge (off := 51) (tgt := 133) (by decide +kernel) (by decide) (fun _ => ?_) (fun z => absurd q6 z)
            obtain rfl := Option.some.inj h
            refine go_pick [0, 1, 2, 3, 4, 5] rfl ?_
            exact key
          · refine go_icmp_ge (off := 51) (tgt := 133) (by decide +kernel) (by decide) (fun z => absurd z q6) (fun _ => ?_)
            refine go_blk rfl [(.aload_n 0, 1, 0, 0, 0, .inl 0), (.aload_n 0, 1, 0, 0, 0, .inl 0), (.iload_n 1, 1, 1, 0, 0, .inl 0), (.iload 5, 2, 5, 0, 0, .inl 0)] 85 90 _ _ _ (by decide +kernel) ?_
            show Go _ _ _ _ _ _ 90 [(0, rm 0), (1, vi l1), (2, vi l2), (3, vi l3), (4, vi l4), (5, vi l5)] [vi l5, vi l1, rm 0, rm 0] (Y, (S, T)) _
            obtain ⟨r3, hr3, h⟩ := bind_el h
            refine go_callV (idx := 356) (z := 0) (M' := M11_timeOf) (n := 2) (A := [vi l1, vi l5]) (v' := some (vi r3)) (μ' := (Y, (S, T))) (d' := 1) (mc' := 0) (ms' := 0) (kc' := 0) (ks' := 0) (ci := 11) (x := .inr (.inl 0)) (by decide +kernel) ml_11_356 rfl wv11_timeOf rfl (by decide) rfl (lm_t0 hT) (ret11_timeOf hT hr3) (by decide) rfl rfl (Nat.le_of_ble_eq_true rfl) rfl (jag rfl rfl) ?_
            show Go _ _ _ _ _ _ 93 [(0, rm 0), (1, vi l1), (2, vi l2), (3, vi l3), (4, vi l4), (5, vi l5)] [vi r3, rm 0] (Y, (S, T)) _
            refine go_blk rfl [(.aload_n 0, 1, 0, 0, 0, .inl 0), (.getfield 112, 3, 11, 47, 1, .inl 0), (.bipush 64, 2, 0, 0, 0, .inl 64), (.iload_n 1, 1, 1, 0, 0, .inl 0), (.iconst 1, 1, 0, 0, 0, .inl 1), (.iadd, 1, 0, 0, 0, .inl 0), (.imul, 1, 0, 0, 0, .inl 0), (.iload_n 2, 1, 2, 0, 0, .inl 0), (.iconst 1, 1, 0, 0, 0, .inl 1), (.iload 5, 2, 5, 0, 0, .inl 0), (.ishl, 1, 0, 0, 0, .inl 0), (.ior, 1, 0, 0, 0, .inl 0), (.iadd, 1, 0, 0, 0, .inl 0), (.iaload, 1, 20, 0, 0, .inl 0), (.iload_n 3, 1, 3, 0, 0, .inl 0)] 93 112 _ _ _ (by decide +kernel) ?_
            refine And.intro (lm_t0 hT) (Exists.intro _ (And.intro (gRm (lm_r47 hT)) ?_))
            refine And.intro (lm_t47 hT) (Exists.intro _ (And.intro (lm_n47 hT) (And.intro (inb_in q5) ?_)))
            show Go _ _ _ _ _ _ 112 [(0, rm 0), (1, vi l1), (2, vi l2), (3, vi l3), (4, vi l4), (5, vi l5)] [vi l3, vi (S.1 47 ((64 * (l1 + 1)) + (l2 ||| ((1 : Int32) <<< (l5 &&& 31)))).toNatClampNeg), vi r3, rm 0] (Y, (S, T)) _
            obtain ⟨r4, hr4, h⟩ := bind_el h
            refine go_callV (idx := 463) (z := 0) (M' := M11_joins) (n := 3) (A := [vi r3, vi (S.1 47 ((64 * (l1 + 1)) + (l2 ||| ((1 : Int32) <<< (l5 &&& 31)))).toNatClampNeg), vi l3]) (v' := some (vi r4)) (μ' := (Y, (S, T))) (d' := 1) (mc' := 0) (ms' := 0) (kc' := 0) (ks' := 0) (ci := 11) (x := .inr (.inl 0)) (by decide +kernel) ml_11_463 rfl wv11_joins rfl (by decide) rfl (lm_t0 hT) (ret11_joins hr4) (by decide) rfl rfl (Nat.le_of_ble_eq_true rfl) rfl (jag rfl rfl) ?_
            show Go _ _ _ _ _ _ 115 [(0, rm 0), (1, vi l1), (2, vi l2), (3, vi l3), (4, vi l4), (5, vi l5)] [vi r4] (Y, (S, T)) _
            refine go_blk rfl [(.istore 6, 2, 6, 0, 0, .inl 0), (.iload 6, 2, 6, 0, 0, .inl 0), (.iload 4, 2, 4, 0, 0, .inl 0)] 115 121 _ _ _ (by decide +kernel) ?_
            show Go _ _ _ _ _ _ 121 [(6, vi r4), (0, rm 0), (1, vi l1), (2, vi l2), (3, vi l3), (4, vi l4), (5, vi l5)] [vi l4, vi r4] (Y, (S, T)) _
            have key : ∀ z0 : Int32, z0 = ((if l4 ≤ r4 then l4 else r4) : Int32) → Go M11_leastFrom 2 0 0 0 0 131 [(0, rm 0), (1, vi l1), (2, vi l2), (3, vi l3), (5, vi l5)] [vi z0] (Y, (S, T)) Q := by
              intro z0 ez0
              subst ez0
              refine go_blk rfl [(.istore 4, 2, 4, 0, 0, .inl 0)] 131 133 _ _ _ (by decide +kernel) ?_
              show Go _ _ _ _ _ _ 133 [(4, vi (((if l4 ≤ r4 then l4 else r4) : Int32))), (0, rm 0), (1, vi l1), (2, vi l2), (3, vi l3), (5, vi l5)] [] (Y, (S, T)) _
              obtain rfl := Option.some.inj h
              refine go_pick [1, 2, 3, 4, 0, 5] rfl ?_
              exact key
            clear h
            by_cases q7 : l4 ≤ r4
            · refine go_icmp_ge (off := 8) (tgt := 129) (by decide +kernel) (by decide) (fun _ => ?_) (fun z => absurd q7 z)
              refine go_blk rfl [(.iload 4, 2, 4, 0, 0, .inl 0)] 129 131 _ _ _ (by decide +kernel) ?_
              show Go _ _ _ _ _ _ 131 [(6, vi r4), (0, rm 0), (1, vi l1), (2, vi l2), (3, vi l3), (4, vi l4), (5, vi l5)] [vi l4] (Y, (S, T)) _
              refine go_pick [1, 2, 3, 4, 6] rfl ?_; exact key _ (by rw [if_pos q7])
            · refine go_icmp_ge (off := 8) (tgt := 129) (by decide +kernel) (by decide) (fun z => absurd z q7) (fun _ => ?_)
              refine go_blk rfl [(.iload 6, 2, 6, 0, 0, .inl 0)] 124 126 _ _ _ (by decide +kernel) ?_
              show Go _ _ _ _ _ _ 126 [(6, vi r4), (0, rm 0), (1, vi l1), (2, vi l2), (3, vi l3), (4, vi l4), (5, vi l5)] [vi r4] (Y, (S, T)) _
              refine go_goto (off := 5) (tgt := 131) (by decide +kernel) (by decide) ?_
              refine go_pick [1, 2, 3, 4, 6] rfl ?_; exact key _ (by rw [if_neg q7])
theorem ret11_leastFrom {S : jS} {T : jT} {Y : jS × jT} {a0 : Int32} {a1 : Int32} {a2 : Int32} {x : Int32} (hT : LayM T) (h : f11_leastFrom S a0 a1 a2 = some x) : Ret M11_leastFrom 2 0 0 [rm 0, vi a0, vi a1, vi a2] (Y, (S, T)) (some (vi x)) (Y, (S, T)) := by
  refine Ret.of (by decide +kernel) (Nat.le_of_ble_eq_true rfl) ?_
  unfold f11_leastFrom at h
  show Go _ _ _ _ _ _ 0 [(0, rm 0), (1, vi a0), (2, vi a1), (3, vi a2)] [] (Y, (S, T)) _
  refine gd_el h (fun q1 h => ?_)
  refine go_blk rfl [(.aload_n 0, 1, 0, 0, 0, .inl 0), (.getfield 112, 3, 11, 47, 1, .inl 0), (.bipush 64, 2, 0, 0, 0, .inl 64), (.iload_n 1, 1, 1, 0, 0, .inl 0), (.iconst 1, 1, 0, 0, 0, .inl 1), (.iadd, 1, 0, 0, 0, .inl 0), (.imul, 1, 0, 0, 0, .inl 0), (.iload_n 2, 1, 2, 0, 0, .inl 0), (.iadd, 1, 0, 0, 0, .inl 0), (.iaload, 1, 20, 0, 0, .inl 0), (.istore 4, 2, 4, 0, 0, .inl 0), (.iconst 0, 1, 0, 0, 0, .inl 0), (.istore 5, 2, 5, 0, 0, .inl 0)] 0 18 _ _ _ (by decide +kernel) ?_
  refine And.intro (lm_t0 hT) (Exists.intro _ (And.intro (gRm (lm_r47 hT)) ?_))
  refine And.intro (lm_t47 hT) (Exists.intro _ (And.intro (lm_n47 hT) (And.intro (inb_in q1) ?_)))
  show Go _ _ _ _ _ _ 18 [(5, vi 0), (4, vi (S.1 47 ((64 * (a0 + 1)) + a1).toNatClampNeg)), (0, rm 0), (1, vi a0), (2, vi a1), (3, vi a2)] [] (Y, (S, T)) _
  refine go_pick [2, 3, 4, 5, 1, 0] rfl ?_
  obtain ⟨y6, hy6, h⟩ := bind_el h
  refine f11_leastFrom_L1_ok hT _ _ _ _ hy6 ?_
  show Go _ _ _ _ _ _ 139 [(4, vi y6)] [] (Y, (S, T)) _
  refine go_blk rfl [(.iload 4, 2, 4, 0, 0, .inl 0)] 139 141 _ _ _ (by decide +kernel) ?_
  show Go _ _ _ _ _ _ 141 [(4, vi y6)] [vi y6] (Y, (S, T)) _
  obtain rfl := Option.some.inj h
  exact go_ireturn (by decide +kernel) rfl rfl ⟨rfl, rfl⟩
