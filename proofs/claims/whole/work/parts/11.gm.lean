def f11_in (a0 : Int64) (a1 : Int64) (a2 : Int64) : Option Int32 := (if (lg_cmp a0 a1) < 0 then some 0 else (if 0 < (lg_cmp a0 a2) then some 0 else some 1))
theorem ret11_in {μ : jMem} {a0 : Int64} {a1 : Int64} {a2 : Int64} {x : Int32} (h : f11_in a0 a1 a2 = some x) : Ret M11_in 1 0 0 [vl a0, vl a1, vl a2] μ (some (vi x)) μ := by
  refine Ret.of (by decide +kernel) (Nat.le_of_ble_eq_true rfl) ?_
  unfold f11_in at h
  show Go _ _ _ _ _ _ 0 [(0, vl a0), (2, vl a1), (4, vl a2)] [] μ _
  refine go_blk rfl [(.lload_n 0, 1, 0, 0, 0, .inl 0), (.lload_n 2, 1, 2, 0, 0, .inl 0), (.lcmp, 1, 0, 0, 0, .inl 0)] 0 3 _ _ _ (by decide +kernel) ?_
  show Go _ _ _ _ _ _ 3 [(0, vl a0), (2, vl a1), (4, vl a2)] [vi (lg_cmp a0 a1)] μ _
  refine ite_el h (fun q1 h => ?_) (fun q1 h => ?_)
  · refine go_if_lt (off := 14) (tgt := 17) (by decide +kernel) (by decide) (fun _ => ?_) (fun z => absurd q1 z)
    refine go_blk rfl [(.iconst 0, 1, 0, 0, 0, .inl 0)] 17 18 _ _ _ (by decide +kernel) ?_
    show Go _ _ _ _ _ _ 18 [(0, vl a0), (2, vl a1), (4, vl a2)] [vi 0] μ _
    obtain rfl := Option.some.inj h
    exact go_ireturn (by decide +kernel) rfl rfl ⟨rfl, rfl⟩
  · refine go_if_lt (off := 14) (tgt := 17) (by decide +kernel) (by decide) (fun z => absurd z q1) (fun _ => ?_)
    refine go_blk rfl [(.lload_n 0, 1, 0, 0, 0, .inl 0), (.lload 4, 2, 4, 0, 0, .inl 0), (.lcmp, 1, 0, 0, 0, .inl 0)] 6 10 _ _ _ (by decide +kernel) ?_
    show Go _ _ _ _ _ _ 10 [(0, vl a0), (2, vl a1), (4, vl a2)] [vi (lg_cmp a0 a2)] μ _
    refine ite_el h (fun q2 h => ?_) (fun q2 h => ?_)
    · refine go_if_gt (off := 7) (tgt := 17) (by decide +kernel) (by decide) (fun _ => ?_) (fun z => absurd q2 z)
      refine go_blk rfl [(.iconst 0, 1, 0, 0, 0, .inl 0)] 17 18 _ _ _ (by decide +kernel) ?_
      show Go _ _ _ _ _ _ 18 [(0, vl a0), (2, vl a1), (4, vl a2)] [vi 0] μ _
      obtain rfl := Option.some.inj h
      exact go_ireturn (by decide +kernel) rfl rfl ⟨rfl, rfl⟩
    · refine go_if_gt (off := 7) (tgt := 17) (by decide +kernel) (by decide) (fun z => absurd z q2) (fun _ => ?_)
      refine go_blk rfl [(.iconst 1, 1, 0, 0, 0, .inl 1)] 13 14 _ _ _ (by decide +kernel) ?_
      show Go _ _ _ _ _ _ 14 [(0, vl a0), (2, vl a1), (4, vl a2)] [vi 1] μ _
      refine go_goto (off := 4) (tgt := 18) (by decide +kernel) (by decide) ?_
      obtain rfl := Option.some.inj h
      exact go_ireturn (by decide +kernel) rfl rfl ⟨rfl, rfl⟩
def f11_bits_L1 (l0 : Int32) : Nat → Int32 → Int32 → Option Int32
  | 0, _, _ => none
  | n + 1, l1, l2 => (if 16 ≤ l2 then some l1 else f11_bits_L1 l0 n (l1 + ((l0 >>> (l2 &&& 31)) &&& 1)) (l2 + 1))
def f11_bits (a0 : Int32) : Option Int32 := Option.bind (f11_bits_L1 a0 jF 0 0) (fun y1 => some y1)
theorem f11_bits_L1_ok {μ : jMem} {l0 : Int32} {Q : Option jV → jMem → Prop} : ∀ (n : Nat) (l1 : Int32) (l2 : Int32) (r : Int32), f11_bits_L1 l0 n l1 l2 = some r → Go M11_bits 1 0 0 0 0 24 [(1, vi r)] [] μ Q → Go M11_bits 1 0 0 0 0 4 [(0, vi l0), (1, vi l1), (2, vi l2)] [] μ Q := by
  intro n
  induction n with
  | zero => intro l1 l2 r h k; exact absurd h (by intro z; cases z)
  | succ n ih =>
    intro l1 l2 r h k
    rw [f11_bits_L1] at h
    refine go_blk rfl [(.iload_n 2, 1, 2, 0, 0, .inl 0), (.bipush 16, 2, 0, 0, 0, .inl 16)] 4 7 _ _ _ (by decide +kernel) ?_
    show Go _ _ _ _ _ _ 7 [(0, vi l0), (1, vi l1), (2, vi l2)] [vi 16, vi l2] μ _
    refine ite_el h (fun q1 h => ?_) (fun q1 h => ?_)
    · refine go_icmp_ge (off := 17) (tgt := 24) (by decide +kernel) (by decide) (fun _ => ?_) (fun z => absurd q1 z)
      obtain rfl := Option.some.inj h
      refine go_pick [1] rfl ?_
      exact k
    · refine go_icmp_ge (off := 17) (tgt := 24) (by decide +kernel) (by decide) (fun z => absurd z q1) (fun _ => ?_)
      refine go_blk rfl [(.iload_n 1, 1, 1, 0, 0, .inl 0), (.iload_n 0, 1, 0, 0, 0, .inl 0), (.iload_n 2, 1, 2, 0, 0, .inl 0), (.ishr, 1, 0, 0, 0, .inl 0), (.iconst 1, 1, 0, 0, 0, .inl 1), (.iand, 1, 0, 0, 0, .inl 0), (.iadd, 1, 0, 0, 0, .inl 0), (.istore_n 1, 1, 1, 0, 0, .inl 0), (.iinc 2 1, 3, 2, 0, 0, .inl 1)] 10 21 _ _ _ (by decide +kernel) ?_
      show Go _ _ _ _ _ _ 21 [(2, vi (l2 + 1)), (1, vi (l1 + ((l0 >>> (l2 &&& 31)) &&& 1))), (0, vi l0)] [] μ _
      refine go_goto (off := (-17)) (tgt := 4) (by decide +kernel) (by decide) ?_
      refine go_pick [2, 1, 0] rfl ?_
      exact ih _ _ _ h k
theorem ret11_bits {μ : jMem} {a0 : Int32} {x : Int32} (h : f11_bits a0 = some x) : Ret M11_bits 1 0 0 [vi a0] μ (some (vi x)) μ := by
  refine Ret.of (by decide +kernel) (Nat.le_of_ble_eq_true rfl) ?_
  unfold f11_bits at h
  show Go _ _ _ _ _ _ 0 [(0, vi a0)] [] μ _
  refine go_blk rfl [(.iconst 0, 1, 0, 0, 0, .inl 0), (.istore_n 1, 1, 1, 0, 0, .inl 0), (.iconst 0, 1, 0, 0, 0, .inl 0), (.istore_n 2, 1, 2, 0, 0, .inl 0)] 0 4 _ _ _ (by decide +kernel) ?_
  show Go _ _ _ _ _ _ 4 [(2, vi 0), (1, vi 0), (0, vi a0)] [] μ _
  refine go_pick [2, 1, 0] rfl ?_
  obtain ⟨y1, hy1, h⟩ := bind_el h
  refine f11_bits_L1_ok _ _ _ _ hy1 ?_
  show Go _ _ _ _ _ _ 24 [(1, vi y1)] [] μ _
  refine go_blk rfl [(.iload_n 1, 1, 1, 0, 0, .inl 0)] 24 25 _ _ _ (by decide +kernel) ?_
  show Go _ _ _ _ _ _ 25 [(1, vi y1)] [vi y1] μ _
  obtain rfl := Option.some.inj h
  exact go_ireturn (by decide +kernel) rfl rfl ⟨rfl, rfl⟩
def f11_has (a0 : Int32) (a1 : Int32) : Option Int32 := (if ((a0 >>> (a1 &&& 31)) &&& 1) = 1 then some 1 else some 0)
theorem ret11_has {μ : jMem} {a0 : Int32} {a1 : Int32} {x : Int32} (h : f11_has a0 a1 = some x) : Ret M11_has 1 0 0 [vi a0, vi a1] μ (some (vi x)) μ := by
  refine Ret.of (by decide +kernel) (Nat.le_of_ble_eq_true rfl) ?_
  unfold f11_has at h
  show Go _ _ _ _ _ _ 0 [(0, vi a0), (1, vi a1)] [] μ _
  refine go_blk rfl [(.iload_n 0, 1, 0, 0, 0, .inl 0), (.iload_n 1, 1, 1, 0, 0, .inl 0), (.ishr, 1, 0, 0, 0, .inl 0), (.iconst 1, 1, 0, 0, 0, .inl 1), (.iand, 1, 0, 0, 0, .inl 0), (.iconst 1, 1, 0, 0, 0, .inl 1)] 0 6 _ _ _ (by decide +kernel) ?_
  show Go _ _ _ _ _ _ 6 [(0, vi a0), (1, vi a1)] [vi 1, vi ((a0 >>> (a1 &&& 31)) &&& 1)] μ _
  refine ite_el h (fun q1 h => ?_) (fun q1 h => ?_)
  · refine go_icmp_ne (off := 7) (tgt := 13) (by decide +kernel) (by decide) (fun z => absurd q1 z) (fun _ => ?_)
    refine go_blk rfl [(.iconst 1, 1, 0, 0, 0, .inl 1)] 9 10 _ _ _ (by decide +kernel) ?_
    show Go _ _ _ _ _ _ 10 [(0, vi a0), (1, vi a1)] [vi 1] μ _
    refine go_goto (off := 4) (tgt := 14) (by decide +kernel) (by decide) ?_
    obtain rfl := Option.some.inj h
    exact go_ireturn (by decide +kernel) rfl rfl ⟨rfl, rfl⟩
  · refine go_icmp_ne (off := 7) (tgt := 13) (by decide +kernel) (by decide) (fun _ => ?_) (fun z => absurd z q1)
    refine go_blk rfl [(.iconst 0, 1, 0, 0, 0, .inl 0)] 13 14 _ _ _ (by decide +kernel) ?_
    show Go _ _ _ _ _ _ 14 [(0, vi a0), (1, vi a1)] [vi 0] μ _
    obtain rfl := Option.some.inj h
    exact go_ireturn (by decide +kernel) rfl rfl ⟨rfl, rfl⟩
def f11_isParty (S : jS) : Option Int32 := (if (S.1 1 0) ≤ 0 then some 0 else some 1)
theorem ret11_isParty {S : jS} {T : jT} {Y : jS × jT} {x : Int32} (hT : LayM T) (h : f11_isParty S = some x) : Ret M11_isParty 1 0 0 [rm 0] (Y, (S, T)) (some (vi x)) (Y, (S, T)) := by
  refine Ret.of (by decide +kernel) (Nat.le_of_ble_eq_true rfl) ?_
  unfold f11_isParty at h
  show Go _ _ _ _ _ _ 0 [(0, rm 0)] [] (Y, (S, T)) _
  refine go_blk rfl [(.aload_n 0, 1, 0, 0, 0, .inl 0), (.getfield 9, 3, 11, 1, 1, .inl 0), (.iconst 0, 1, 0, 0, 0, .inl 0), (.iaload, 1, 20, 0, 0, .inl 0)] 0 6 _ _ _ (by decide +kernel) ?_
  refine And.intro (lm_t0 hT) (Exists.intro _ (And.intro (gRm (lm_r1 hT)) ?_))
  refine And.intro (lm_t1 hT) (Exists.intro _ (And.intro (lm_n1 hT) (And.intro (inb_in (by decide)) ?_)))
  show Go _ _ _ _ _ _ 6 [(0, rm 0)] [vi (S.1 1 0)] (Y, (S, T)) _
  refine ite_el h (fun q1 h => ?_) (fun q1 h => ?_)
  · refine go_if_le (off := 7) (tgt := 13) (by decide +kernel) (by decide) (fun _ => ?_) (fun z => absurd q1 z)
    refine go_blk rfl [(.iconst 0, 1, 0, 0, 0, .inl 0)] 13 14 _ _ _ (by decide +kernel) ?_
    show Go _ _ _ _ _ _ 14 [(0, rm 0)] [vi 0] (Y, (S, T)) _
    obtain rfl := Option.some.inj h
    exact go_ireturn (by decide +kernel) rfl rfl ⟨rfl, rfl⟩
  · refine go_if_le (off := 7) (tgt := 13) (by decide +kernel) (by decide) (fun z => absurd z q1) (fun _ => ?_)
    refine go_blk rfl [(.iconst 1, 1, 0, 0, 0, .inl 1)] 9 10 _ _ _ (by decide +kernel) ?_
    show Go _ _ _ _ _ _ 10 [(0, rm 0)] [vi 1] (Y, (S, T)) _
    refine go_goto (off := 4) (tgt := 14) (by decide +kernel) (by decide) ?_
    obtain rfl := Option.some.inj h
    exact go_ireturn (by decide +kernel) rfl rfl ⟨rfl, rfl⟩
def f11_isChair (S : jS) (a0 : Int32) : Option Int32 := Option.bind (f11_in a0.toInt64 0 (((S.1 1 1) - 1).toInt64)) (fun r1 => (if r1 = 0 ∨ r1 = 1 then some r1 else none))
theorem ret11_isChair {S : jS} {T : jT} {Y : jS × jT} {a0 : Int32} {x : Int32} (hT : LayM T) (h : f11_isChair S a0 = some x) : Ret M11_isChair 2 0 0 [rm 0, vi a0] (Y, (S, T)) (some (vi x)) (Y, (S, T)) := by
  refine Ret.of (by decide +kernel) (Nat.le_of_ble_eq_true rfl) ?_
  unfold f11_isChair at h
  show Go _ _ _ _ _ _ 0 [(0, rm 0), (1, vi a0)] [] (Y, (S, T)) _
  refine go_blk rfl [(.iload_n 1, 1, 1, 0, 0, .inl 0), (.i2l, 1, 0, 0, 0, .inl 0), (.lconst 0, 1, 0, 0, 0, .inr (.inl 0)), (.aload_n 0, 1, 0, 0, 0, .inl 0), (.getfield 9, 3, 11, 1, 1, .inl 0), (.iconst 1, 1, 0, 0, 0, .inl 1), (.iaload, 1, 20, 0, 0, .inl 0), (.iconst 1, 1, 0, 0, 0, .inl 1), (.isub, 1, 0, 0, 0, .inl 0), (.i2l, 1, 0, 0, 0, .inl 0)] 0 12 _ _ _ (by decide +kernel) ?_
  refine And.intro (lm_t0 hT) (Exists.intro _ (And.intro (gRm (lm_r1 hT)) ?_))
  refine And.intro (lm_t1 hT) (Exists.intro _ (And.intro (lm_n1 hT) (And.intro (inb_in (by decide)) ?_)))
  show Go _ _ _ _ _ _ 12 [(0, rm 0), (1, vi a0)] [vl (((S.1 1 1) - 1).toInt64), vl 0, vl a0.toInt64] (Y, (S, T)) _
  obtain ⟨r1, hr1, h⟩ := bind_el h
  refine go_callS (idx := 140) (z := 0) (M' := M11_in) (n := 3) (A := [vl a0.toInt64, vl 0, vl (((S.1 1 1) - 1).toInt64)]) (v' := some (vi r1)) (μ' := (Y, (S, T))) (d' := 1) (mc' := 0) (ms' := 0) (kc' := 0) (ks' := 0) (by decide +kernel) ml_11_140 rfl ws11_in rfl (ret11_in hr1) (by decide) rfl rfl (Nat.le_of_ble_eq_true rfl) rfl (jag rfl rfl) ?_
  show Go _ _ _ _ _ _ 15 [(0, rm 0), (1, vi a0)] [vi r1] (Y, (S, T)) _
  refine gd_el h (fun q h => ?_)
  obtain rfl := Option.some.inj h
  exact go_ireturn (by decide +kernel) rfl (by rcases q with q | q <;> rw [q] <;> rfl) ⟨rfl, rfl⟩
def f11_isGuest (S : jS) (a0 : Int32) : Option Int32 := Option.bind (f11_in a0.toInt64 0 (((S.1 1 2) - 1).toInt64)) (fun r1 => (if r1 = 0 ∨ r1 = 1 then some r1 else none))
theorem ret11_isGuest {S : jS} {T : jT} {Y : jS × jT} {a0 : Int32} {x : Int32} (hT : LayM T) (h : f11_isGuest S a0 = some x) : Ret M11_isGuest 2 0 0 [rm 0, vi a0] (Y, (S, T)) (some (vi x)) (Y, (S, T)) := by
  refine Ret.of (by decide +kernel) (Nat.le_of_ble_eq_true rfl) ?_
  unfold f11_isGuest at h
  show Go _ _ _ _ _ _ 0 [(0, rm 0), (1, vi a0)] [] (Y, (S, T)) _
  refine go_blk rfl [(.iload_n 1, 1, 1, 0, 0, .inl 0), (.i2l, 1, 0, 0, 0, .inl 0), (.lconst 0, 1, 0, 0, 0, .inr (.inl 0)), (.aload_n 0, 1, 0, 0, 0, .inl 0), (.getfield 9, 3, 11, 1, 1, .inl 0), (.iconst 2, 1, 0, 0, 0, .inl 2), (.iaload, 1, 20, 0, 0, .inl 0), (.iconst 1, 1, 0, 0, 0, .inl 1), (.isub, 1, 0, 0, 0, .inl 0), (.i2l, 1, 0, 0, 0, .inl 0)] 0 12 _ _ _ (by decide +kernel) ?_
  refine And.intro (lm_t0 hT) (Exists.intro _ (And.intro (gRm (lm_r1 hT)) ?_))
  refine And.intro (lm_t1 hT) (Exists.intro _ (And.intro (lm_n1 hT) (And.intro (inb_in (by decide)) ?_)))
  show Go _ _ _ _ _ _ 12 [(0, rm 0), (1, vi a0)] [vl (((S.1 1 2) - 1).toInt64), vl 0, vl a0.toInt64] (Y, (S, T)) _
  obtain ⟨r1, hr1, h⟩ := bind_el h
  refine go_callS (idx := 140) (z := 0) (M' := M11_in) (n := 3) (A := [vl a0.toInt64, vl 0, vl (((S.1 1 2) - 1).toInt64)]) (v' := some (vi r1)) (μ' := (Y, (S, T))) (d' := 1) (mc' := 0) (ms' := 0) (kc' := 0) (ks' := 0) (by decide +kernel) ml_11_140 rfl ws11_in rfl (ret11_in hr1) (by decide) rfl rfl (Nat.le_of_ble_eq_true rfl) rfl (jag rfl rfl) ?_
  show Go _ _ _ _ _ _ 15 [(0, rm 0), (1, vi a0)] [vi r1] (Y, (S, T)) _
  refine gd_el h (fun q h => ?_)
  obtain rfl := Option.some.inj h
  exact go_ireturn (by decide +kernel) rfl (by rcases q with q | q <;> rw [q] <;> rfl) ⟨rfl, rfl⟩
def f11_isStill (S : jS) (a0 : Int32) : Option Int32 := Option.bind (f11_isGuest S a0) (fun r1 => (if r1 = 0 then some 0 else Option.bind (f11_has (S.1 1 6) a0) (fun r2 => (if r2 = 0 then some 0 else some 1))))
theorem ret11_isStill {S : jS} {T : jT} {Y : jS × jT} {a0 : Int32} {x : Int32} (hT : LayM T) (h : f11_isStill S a0 = some x) : Ret M11_isStill 3 0 0 [rm 0, vi a0] (Y, (S, T)) (some (vi x)) (Y, (S, T)) := by
  refine Ret.of (by decide +kernel) (Nat.le_of_ble_eq_true rfl) ?_
  unfold f11_isStill at h
  show Go _ _ _ _ _ _ 0 [(0, rm 0), (1, vi a0)] [] (Y, (S, T)) _
  refine go_blk rfl [(.aload_n 0, 1, 0, 0, 0, .inl 0), (.iload_n 1, 1, 1, 0, 0, .inl 0)] 0 2 _ _ _ (by decide +kernel) ?_
  show Go _ _ _ _ _ _ 2 [(0, rm 0), (1, vi a0)] [vi a0, rm 0] (Y, (S, T)) _
  obtain ⟨r1, hr1, h⟩ := bind_el h
  refine go_callV (idx := 144) (z := 0) (M' := M11_isGuest) (n := 1) (A := [vi a0]) (v' := some (vi r1)) (μ' := (Y, (S, T))) (d' := 2) (mc' := 0) (ms' := 0) (kc' := 0) (ks' := 0) (ci := 11) (x := .inr (.inl 0)) (by decide +kernel) ml_11_144 rfl wv11_isGuest rfl (by decide) rfl (lm_t0 hT) (ret11_isGuest hT hr1) (by decide) rfl rfl (Nat.le_of_ble_eq_true rfl) rfl (jag rfl rfl) ?_
  show Go _ _ _ _ _ _ 5 [(0, rm 0), (1, vi a0)] [vi r1] (Y, (S, T)) _
  refine ite_el h (fun q1 h => ?_) (fun q1 h => ?_)
  · refine go_if_eq (off := 21) (tgt := 26) (by decide +kernel) (by decide) (fun _ => ?_) (fun z => absurd q1 z)
    refine go_blk rfl [(.iconst 0, 1, 0, 0, 0, .inl 0)] 26 27 _ _ _ (by decide +kernel) ?_
    show Go _ _ _ _ _ _ 27 [(0, rm 0), (1, vi a0)] [vi 0] (Y, (S, T)) _
    obtain rfl := Option.some.inj h
    exact go_ireturn (by decide +kernel) rfl rfl ⟨rfl, rfl⟩
  · refine go_if_eq (off := 21) (tgt := 26) (by decide +kernel) (by decide) (fun z => absurd z q1) (fun _ => ?_)
    refine go_blk rfl [(.aload_n 0, 1, 0, 0, 0, .inl 0), (.getfield 9, 3, 11, 1, 1, .inl 0), (.bipush 6, 2, 0, 0, 0, .inl 6), (.iaload, 1, 20, 0, 0, .inl 0), (.iload_n 1, 1, 1, 0, 0, .inl 0)] 8 16 _ _ _ (by decide +kernel) ?_
    refine And.intro (lm_t0 hT) (Exists.intro _ (And.intro (gRm (lm_r1 hT)) ?_))
    refine And.intro (lm_t1 hT) (Exists.intro _ (And.intro (lm_n1 hT) (And.intro (inb_in (by decide)) ?_)))
    show Go _ _ _ _ _ _ 16 [(0, rm 0), (1, vi a0)] [vi a0, vi (S.1 1 6)] (Y, (S, T)) _
    obtain ⟨r2, hr2, h⟩ := bind_el h
    refine go_callS (idx := 148) (z := 0) (M' := M11_has) (n := 2) (A := [vi (S.1 1 6), vi a0]) (v' := some (vi r2)) (μ' := (Y, (S, T))) (d' := 1) (mc' := 0) (ms' := 0) (kc' := 0) (ks' := 0) (by decide +kernel) ml_11_148 rfl ws11_has rfl (ret11_has hr2) (by decide) rfl rfl (Nat.le_of_ble_eq_true rfl) rfl (jag rfl rfl) ?_
    show Go _ _ _ _ _ _ 19 [(0, rm 0), (1, vi a0)] [vi r2] (Y, (S, T)) _
    refine ite_el h (fun q2 h => ?_) (fun q2 h => ?_)
    · refine go_if_eq (off := 7) (tgt := 26) (by decide +kernel) (by decide) (fun _ => ?_) (fun z => absurd q2 z)
      refine go_blk rfl [(.iconst 0, 1, 0, 0, 0, .inl 0)] 26 27 _ _ _ (by decide +kernel) ?_
      show Go _ _ _ _ _ _ 27 [(0, rm 0), (1, vi a0)] [vi 0] (Y, (S, T)) _
      obtain rfl := Option.some.inj h
      exact go_ireturn (by decide +kernel) rfl rfl ⟨rfl, rfl⟩
    · refine go_if_eq (off := 7) (tgt := 26) (by decide +kernel) (by decide) (fun z => absurd z q2) (fun _ => ?_)
      refine go_blk rfl [(.iconst 1, 1, 0, 0, 0, .inl 1)] 22 23 _ _ _ (by decide +kernel) ?_
      show Go _ _ _ _ _ _ 23 [(0, rm 0), (1, vi a0)] [vi 1] (Y, (S, T)) _
      refine go_goto (off := 4) (tgt := 27) (by decide +kernel) (by decide) ?_
      obtain rfl := Option.some.inj h
      exact go_ireturn (by decide +kernel) rfl rfl ⟨rfl, rfl⟩
def f11_put_L1 (l1 : Int32) : Nat → jS → Int32 → Option jS
  | 0, _, _ => none
  | n + 1, S, l2 => (if l2 < 0 then some S else (if inb (S.1 0 19) 400 then f11_put_L1 l1 n (wI (wI S 29 (S.1 0 19).toNatClampNeg (vp_nar .byte ((l1 >>> (l2 &&& 31)).toInt8.toInt32))) 0 19 (((wI S 29 (S.1 0 19).toNatClampNeg (vp_nar .byte ((l1 >>> (l2 &&& 31)).toInt8.toInt32))).1 0 19) + 1)) (l2 + (-8)) else none))
def f11_put (S : jS) (a0 : Int32) : Option (jS × Unit) := Option.bind (f11_put_L1 a0 jF S 24) (fun y1 => some (y1, ()))
theorem f11_put_L1_ok {T : jT} {Y : jS × jT} {l1 : Int32} {Q : Option jV → jMem → Prop} (hT : LayM T) : ∀ (n : Nat) (S : jS) (l2 : Int32) (r : jS), f11_put_L1 l1 n S l2 = some r → Go M11_put 1 0 0 0 0 36 [] [] (Y, (r, T)) Q → Go M11_put 1 0 0 0 0 3 [(0, rm 0), (1, vi l1), (2, vi l2)] [] (Y, (S, T)) Q := by
  intro n
  induction n with
  | zero => intro S l2 r h k; exact absurd h (by intro z; cases z)
  | succ n ih =>
    intro S l2 r h k
    rw [f11_put_L1] at h
    refine go_blk rfl [(.iload_n 2, 1, 2, 0, 0, .inl 0)] 3 4 _ _ _ (by decide +kernel) ?_
    show Go _ _ _ _ _ _ 4 [(0, rm 0), (1, vi l1), (2, vi l2)] [vi l2] (Y, (S, T)) _
    refine ite_el h (fun q1 h => ?_) (fun q1 h => ?_)
    · refine go_if_lt (off := 32) (tgt := 36) (by decide +kernel) (by decide) (fun _ => ?_) (fun z => absurd q1 z)
      obtain rfl := Option.some.inj h
      refine go_pick [] rfl ?_
      exact k
    · refine go_if_lt (off := 32) (tgt := 36) (by decide +kernel) (by decide) (fun z => absurd z q1) (fun _ => ?_)
      refine gd_el h (fun q2 h => ?_)
      refine go_blk rfl [(.aload_n 0, 1, 0, 0, 0, .inl 0), (.getfield 68, 3, 11, 29, 1, .inl 0), (.aload_n 0, 1, 0, 0, 0, .inl 0), (.getfield 152, 3, 11, 19, 0, .inl 0), (.iload_n 1, 1, 1, 0, 0, .inl 0), (.iload_n 2, 1, 2, 0, 0, .inl 0), (.ishr, 1, 0, 0, 0, .inl 0), (.i2b, 1, 0, 0, 0, .inl 0), (.bastore, 1, 21, 0, 0, .inl 0)] 7 20 _ _ _ (by decide +kernel) ?_
      refine And.intro (lm_t0 hT) (Exists.intro _ (And.intro (gRm (lm_r29 hT)) ?_))
      refine And.intro (lm_t0 hT) ?_
      refine And.intro (lm_t29 hT) (Exists.intro _ (And.intro (lm_n29 hT) (And.intro (inb_in q2) ?_)))
      show Go _ _ _ _ _ _ 20 [(0, rm 0), (1, vi l1), (2, vi l2)] [] (Y, (wI S 29 (S.1 0 19).toNatClampNeg (vp_nar .byte ((l1 >>> (l2 &&& 31)).toInt8.toInt32)), T)) _
      refine go_blk rfl [(.aload_n 0, 1, 0, 0, 0, .inl 0), (.dup, 1, 0, 0, 0, .inl 0), (.getfield 152, 3, 11, 19, 0, .inl 0), (.iconst 1, 1, 0, 0, 0, .inl 1), (.iadd, 1, 0, 0, 0, .inl 0), (.putfield 152, 3, 11, 19, 0, .inl 0)] 20 30 _ _ _ (by decide +kernel) ?_
      refine And.intro (lm_t0 hT) ?_
      refine And.intro (lm_t0 hT) (And.intro trivial ?_)
      show Go _ _ _ _ _ _ 30 [(0, rm 0), (1, vi l1), (2, vi l2)] [] (Y, (wI (wI S 29 (S.1 0 19).toNatClampNeg (vp_nar .byte ((l1 >>> (l2 &&& 31)).toInt8.toInt32))) 0 19 (((wI S 29 (S.1 0 19).toNatClampNeg (vp_nar .byte ((l1 >>> (l2 &&& 31)).toInt8.toInt32))).1 0 19) + 1), T)) _
      refine go_blk rfl [(.iinc 2 (-8), 3, 2, 0, 0, .inl (-8))] 30 33 _ _ _ (by decide +kernel) ?_
      show Go _ _ _ _ _ _ 33 [(2, vi (l2 + (-8))), (0, rm 0), (1, vi l1)] [] (Y, (wI (wI S 29 (S.1 0 19).toNatClampNeg (vp_nar .byte ((l1 >>> (l2 &&& 31)).toInt8.toInt32))) 0 19 (((wI S 29 (S.1 0 19).toNatClampNeg (vp_nar .byte ((l1 >>> (l2 &&& 31)).toInt8.toInt32))).1 0 19) + 1), T)) _
      refine go_goto (off := (-30)) (tgt := 3) (by decide +kernel) (by decide) ?_
      refine go_pick [1, 2, 0] rfl ?_
      exact ih _ _ _ h k
theorem ret11_put {S : jS} {T : jT} {Y : jS × jT} {a0 : Int32} {S1 : jS} {x : Unit} (hT : LayM T) (h : f11_put S a0 = some (S1, x)) : Ret M11_put 1 0 0 [rm 0, vi a0] (Y, (S, T)) (none) (Y, (S1, T)) := by
  refine Ret.of (by decide +kernel) (Nat.le_of_ble_eq_true rfl) ?_
  unfold f11_put at h
  show Go _ _ _ _ _ _ 0 [(0, rm 0), (1, vi a0)] [] (Y, (S, T)) _
  refine go_blk rfl [(.bipush 24, 2, 0, 0, 0, .inl 24), (.istore_n 2, 1, 2, 0, 0, .inl 0)] 0 3 _ _ _ (by decide +kernel) ?_
  show Go _ _ _ _ _ _ 3 [(2, vi 24), (0, rm 0), (1, vi a0)] [] (Y, (S, T)) _
  refine go_pick [1, 2, 0] rfl ?_
  obtain ⟨y1, hy1, h⟩ := bind_el h
  refine f11_put_L1_ok hT _ _ _ _ hy1 ?_
  show Go _ _ _ _ _ _ 36 [] [] (Y, (y1, T)) _
  obtain ⟨rfl, rfl⟩ := Prod.mk.inj (Option.some.inj h)
  exact go_return (by decide +kernel) rfl ⟨rfl, rfl⟩
def f11_feed (S : jS) (a0 : Int32) (a1 : Int32) (a2 : Int32) (a3 : Int32) (a4 : Int32) : Option (jS × Int32) := (if ((S.1 0 19) + 20) ≤ 400 then Option.bind (f11_put S a0) (fun r1 => Option.bind (f11_put r1.1 a1) (fun r2 => Option.bind (f11_put r2.1 a2) (fun r3 => Option.bind (f11_put r3.1 a3) (fun r4 => Option.bind (f11_put r4.1 a4) (fun r5 => some (r5.1, r5.1.1 0 19)))))) else some (S, (-1)))
theorem ret11_feed {S : jS} {T : jT} {Y : jS × jT} {a0 : Int32} {a1 : Int32} {a2 : Int32} {a3 : Int32} {a4 : Int32} {S1 : jS} {x : Int32} (hT : LayM T) (h : f11_feed S a0 a1 a2 a3 a4 = some (S1, x)) : Ret M11_feed 2 0 0 [rm 0, vi a0, vi a1, vi a2, vi a3, vi a4] (Y, (S, T)) (some (vi x)) (Y, (S1, T)) := by
  refine Ret.of (by decide +kernel) (Nat.le_of_ble_eq_true rfl) ?_
  unfold f11_feed at h
  show Go _ _ _ _ _ _ 0 [(0, rm 0), (1, vi a0), (2, vi a1), (3, vi a2), (4, vi a3), (5, vi a4)] [] (Y, (S, T)) _
  refine go_blk rfl [(.aload_n 0, 1, 0, 0, 0, .inl 0), (.getfield 152, 3, 11, 19, 0, .inl 0), (.bipush 20, 2, 0, 0, 0, .inl 20), (.iadd, 1, 0, 0, 0, .inl 0), (.sipush 400, 3, 0, 0, 0, .inl 400)] 0 10 _ _ _ (by decide +kernel) ?_
  refine And.intro (lm_t0 hT) ?_
  show Go _ _ _ _ _ _ 10 [(0, rm 0), (1, vi a0), (2, vi a1), (3, vi a2), (4, vi a3), (5, vi a4)] [vi 400, vi ((S.1 0 19) + 20)] (Y, (S, T)) _
  refine ite_el h (fun q1 h => ?_) (fun q1 h => ?_)
  · refine go_icmp_le (off := 5) (tgt := 15) (by decide +kernel) (by decide) (fun _ => ?_) (fun z => absurd q1 z)
    refine go_blk rfl [(.aload_n 0, 1, 0, 0, 0, .inl 0), (.iload_n 1, 1, 1, 0, 0, .inl 0)] 15 17 _ _ _ (by decide +kernel) ?_
    show Go _ _ _ _ _ _ 17 [(0, rm 0), (1, vi a0), (2, vi a1), (3, vi a2), (4, vi a3), (5, vi a4)] [vi a0, rm 0] (Y, (S, T)) _
    obtain ⟨r1, hr1, h⟩ := bind_el h
    refine go_callV (idx := 155) (z := 0) (M' := M11_put) (n := 1) (A := [vi a0]) (v' := none) (μ' := (Y, (r1.1, T))) (d' := 1) (mc' := 0) (ms' := 0) (kc' := 0) (ks' := 0) (ci := 11) (x := .inr (.inl 0)) (by decide +kernel) ml_11_155 rfl wv11_put rfl (by decide) rfl (lm_t0 hT) (ret11_put hT hr1) (by decide) rfl rfl (Nat.le_of_ble_eq_true rfl) rfl (jag rfl rfl) ?_
    show Go _ _ _ _ _ _ 20 [(0, rm 0), (1, vi a0), (2, vi a1), (3, vi a2), (4, vi a3), (5, vi a4)] [] (Y, (r1.1, T)) _
    refine go_blk rfl [(.aload_n 0, 1, 0, 0, 0, .inl 0), (.iload_n 2, 1, 2, 0, 0, .inl 0)] 20 22 _ _ _ (by decide +kernel) ?_
    show Go _ _ _ _ _ _ 22 [(0, rm 0), (1, vi a0), (2, vi a1), (3, vi a2), (4, vi a3), (5, vi a4)] [vi a1, rm 0] (Y, (r1.1, T)) _
    obtain ⟨r2, hr2, h⟩ := bind_el h
    refine go_callV (idx := 155) (z := 0) (M' := M11_put) (n := 1) (A := [vi a1]) (v' := none) (μ' := (Y, (r2.1, T))) (d' := 1) (mc' := 0) (ms' := 0) (kc' := 0) (ks' := 0) (ci := 11) (x := .inr (.inl 0)) (by decide +kernel) ml_11_155 rfl wv11_put rfl (by decide) rfl (lm_t0 hT) (ret11_put hT hr2) (by decide) rfl rfl (Nat.le_of_ble_eq_true rfl) rfl (jag rfl rfl) ?_
    show Go _ _ _ _ _ _ 25 [(0, rm 0), (1, vi a0), (2, vi a1), (3, vi a2), (4, vi a3), (5, vi a4)] [] (Y, (r2.1, T)) _
    refine go_blk rfl [(.aload_n 0, 1, 0, 0, 0, .inl 0), (.iload_n 3, 1, 3, 0, 0, .inl 0)] 25 27 _ _ _ (by decide +kernel) ?_
    show Go _ _ _ _ _ _ 27 [(0, rm 0), (1, vi a0), (2, vi a1), (3, vi a2), (4, vi a3), (5, vi a4)] [vi a2, rm 0] (Y, (r2.1, T)) _
    obtain ⟨r3, hr3, h⟩ := bind_el h
    refine go_callV (idx := 155) (z := 0) (M' := M11_put) (n := 1) (A := [vi a2]) (v' := none) (μ' := (Y, (r3.1, T))) (d' := 1) (mc' := 0) (ms' := 0) (kc' := 0) (ks' := 0) (ci := 11) (x := .inr (.inl 0)) (by decide +kernel) ml_11_155 rfl wv11_put rfl (by decide) rfl (lm_t0 hT) (ret11_put hT hr3) (by decide) rfl rfl (Nat.le_of_ble_eq_true rfl) rfl (jag rfl rfl) ?_
    show Go _ _ _ _ _ _ 30 [(0, rm 0), (1, vi a0), (2, vi a1), (3, vi a2), (4, vi a3), (5, vi a4)] [] (Y, (r3.1, T)) _
    refine go_blk rfl [(.aload_n 0, 1, 0, 0, 0, .inl 0), (.iload 4, 2, 4, 0, 0, .inl 0)] 30 33 _ _ _ (by decide +kernel) ?_
    show Go _ _ _ _ _ _ 33 [(0, rm 0), (1, vi a0), (2, vi a1), (3, vi a2), (4, vi a3), (5, vi a4)] [vi a3, rm 0] (Y, (r3.1, T)) _
    obtain ⟨r4, hr4, h⟩ := bind_el h
    refine go_callV (idx := 155) (z := 0) (M' := M11_put) (n := 1) (A := [vi a3]) (v' := none) (μ' := (Y, (r4.1, T))) (d' := 1) (mc' := 0) (ms' := 0) (kc' := 0) (ks' := 0) (ci := 11) (x := .inr (.inl 0)) (by decide +kernel) ml_11_155 rfl wv11_put rfl (by decide) rfl (lm_t0 hT) (ret11_put hT hr4) (by decide) rfl rfl (Nat.le_of_ble_eq_true rfl) rfl (jag rfl rfl) ?_
    show Go _ _ _ _ _ _ 36 [(0, rm 0), (1, vi a0), (2, vi a1), (3, vi a2), (4, vi a3), (5, vi a4)] [] (Y, (r4.1, T)) _
    refine go_blk rfl [(.aload_n 0, 1, 0, 0, 0, .inl 0), (.iload 5, 2, 5, 0, 0, .inl 0)] 36 39 _ _ _ (by decide +kernel) ?_
    show Go _ _ _ _ _ _ 39 [(0, rm 0), (1, vi a0), (2, vi a1), (3, vi a2), (4, vi a3), (5, vi a4)] [vi a4, rm 0] (Y, (r4.1, T)) _
    obtain ⟨r5, hr5, h⟩ := bind_el h
    refine go_callV (idx := 155) (z := 0) (M' := M11_put) (n := 1) (A := [vi a4]) (v' := none) (μ' := (Y, (r5.1, T))) (d' := 1) (mc' := 0) (ms' := 0) (kc' := 0) (ks' := 0) (ci := 11) (x := .inr (.inl 0)) (by decide +kernel) ml_11_155 rfl wv11_put rfl (by decide) rfl (lm_t0 hT) (ret11_put hT hr5) (by decide) rfl rfl (Nat.le_of_ble_eq_true rfl) rfl (jag rfl rfl) ?_
    show Go _ _ _ _ _ _ 42 [(0, rm 0), (1, vi a0), (2, vi a1), (3, vi a2), (4, vi a3), (5, vi a4)] [] (Y, (r5.1, T)) _
    refine go_blk rfl [(.aload_n 0, 1, 0, 0, 0, .inl 0), (.getfield 152, 3, 11, 19, 0, .inl 0)] 42 46 _ _ _ (by decide +kernel) ?_
    refine And.intro (lm_t0 hT) ?_
    show Go _ _ _ _ _ _ 46 [(0, rm 0), (1, vi a0), (2, vi a1), (3, vi a2), (4, vi a3), (5, vi a4)] [vi (r5.1.1 0 19)] (Y, (r5.1, T)) _
    obtain ⟨rfl, rfl⟩ := Prod.mk.inj (Option.some.inj h)
    exact go_ireturn (by decide +kernel) rfl rfl ⟨rfl, rfl⟩
  · refine go_icmp_le (off := 5) (tgt := 15) (by decide +kernel) (by decide) (fun z => absurd z q1) (fun _ => ?_)
    refine go_blk rfl [(.iconst (-1), 1, 0, 0, 0, .inl (-1))] 13 14 _ _ _ (by decide +kernel) ?_
    show Go _ _ _ _ _ _ 14 [(0, rm 0), (1, vi a0), (2, vi a1), (3, vi a2), (4, vi a3), (5, vi a4)] [vi ((-1))] (Y, (S, T)) _
    obtain ⟨rfl, rfl⟩ := Prod.mk.inj (Option.some.inj h)
    exact go_ireturn (by decide +kernel) rfl rfl ⟨rfl, rfl⟩
def f11_end (S : jS) (a0 : Int32) : Option (jS × Int32) := (if a0 < 0 then some (S, (-1)) else (if a0 ≤ (S.1 0 19) then some (wI S 0 19 a0, a0) else some (S, (-1))))
theorem ret11_end {S : jS} {T : jT} {Y : jS × jT} {a0 : Int32} {S1 : jS} {x : Int32} (hT : LayM T) (h : f11_end S a0 = some (S1, x)) : Ret M11_end 1 0 0 [rm 0, vi a0] (Y, (S, T)) (some (vi x)) (Y, (S1, T)) := by
  refine Ret.of (by decide +kernel) (Nat.le_of_ble_eq_true rfl) ?_
  unfold f11_end at h
  show Go _ _ _ _ _ _ 0 [(0, rm 0), (1, vi a0)] [] (Y, (S, T)) _
  refine go_blk rfl [(.iload_n 1, 1, 1, 0, 0, .inl 0)] 0 1 _ _ _ (by decide +kernel) ?_
  show Go _ _ _ _ _ _ 1 [(0, rm 0), (1, vi a0)] [vi a0] (Y, (S, T)) _
  refine ite_el h (fun q1 h => ?_) (fun q1 h => ?_)
  · refine go_if_lt (off := 11) (tgt := 12) (by decide +kernel) (by decide) (fun _ => ?_) (fun z => absurd q1 z)
    refine go_blk rfl [(.iconst (-1), 1, 0, 0, 0, .inl (-1))] 12 13 _ _ _ (by decide +kernel) ?_
    show Go _ _ _ _ _ _ 13 [(0, rm 0), (1, vi a0)] [vi ((-1))] (Y, (S, T)) _
    obtain ⟨rfl, rfl⟩ := Prod.mk.inj (Option.some.inj h)
    exact go_ireturn (by decide +kernel) rfl rfl ⟨rfl, rfl⟩
  · refine go_if_lt (off := 11) (tgt := 12) (by decide +kernel) (by decide) (fun z => absurd z q1) (fun _ => ?_)
    refine go_blk rfl [(.iload_n 1, 1, 1, 0, 0, .inl 0), (.aload_n 0, 1, 0, 0, 0, .inl 0), (.getfield 152, 3, 11, 19, 0, .inl 0)] 4 9 _ _ _ (by decide +kernel) ?_
    refine And.intro (lm_t0 hT) ?_
    show Go _ _ _ _ _ _ 9 [(0, rm 0), (1, vi a0)] [vi (S.1 0 19), vi a0] (Y, (S, T)) _
    refine ite_el h (fun q2 h => ?_) (fun q2 h => ?_)
    · refine go_icmp_le (off := 5) (tgt := 14) (by decide +kernel) (by decide) (fun _ => ?_) (fun z => absurd q2 z)
      refine go_blk rfl [(.aload_n 0, 1, 0, 0, 0, .inl 0), (.iload_n 1, 1, 1, 0, 0, .inl 0), (.putfield 152, 3, 11, 19, 0, .inl 0)] 14 19 _ _ _ (by decide +kernel) ?_
      refine And.intro (lm_t0 hT) (And.intro trivial ?_)
      show Go _ _ _ _ _ _ 19 [(0, rm 0), (1, vi a0)] [] (Y, (wI S 0 19 a0, T)) _
      refine go_blk rfl [(.iload_n 1, 1, 1, 0, 0, .inl 0)] 19 20 _ _ _ (by decide +kernel) ?_
      show Go _ _ _ _ _ _ 20 [(0, rm 0), (1, vi a0)] [vi a0] (Y, (wI S 0 19 a0, T)) _
      obtain ⟨rfl, rfl⟩ := Prod.mk.inj (Option.some.inj h)
      exact go_ireturn (by decide +kernel) rfl rfl ⟨rfl, rfl⟩
    · refine go_icmp_le (off := 5) (tgt := 14) (by decide +kernel) (by decide) (fun z => absurd z q2) (fun _ => ?_)
      refine go_blk rfl [(.iconst (-1), 1, 0, 0, 0, .inl (-1))] 12 13 _ _ _ (by decide +kernel) ?_
      show Go _ _ _ _ _ _ 13 [(0, rm 0), (1, vi a0)] [vi ((-1))] (Y, (S, T)) _
      obtain ⟨rfl, rfl⟩ := Prod.mk.inj (Option.some.inj h)
      exact go_ireturn (by decide +kernel) rfl rfl ⟨rfl, rfl⟩
def f11_wordOf (a0 : Int32) : Option Nat := (if a0 = 0 then some 13 else (if a0 = 1 then some 15 else (if a0 = 2 then some 6 else (if a0 = 3 then some 3 else (if a0 = 4 then some 8 else (if a0 = 5 then some 1 else (if a0 = 6 then some 4 else (if a0 = 7 then some 16 else (if a0 = 8 then some 9 else some 17)))))))))
theorem f11_wordOf_lt {a0 : Int32} {x : Nat} (h : f11_wordOf a0 = some x) : x < 18 := by
  unfold f11_wordOf at h
  repeat' (refine ite_el h (fun _ h => ?_) (fun _ h => ?_))
  all_goals (obtain rfl := Option.some.inj h; decide)
theorem ret11_wordOf {μ : jMem} {a0 : Int32} {x : Nat} (h : f11_wordOf a0 = some x) : Ret M11_wordOf 1 0 0 [vi a0] μ (some (rs x)) μ := by
  refine Ret.of (by decide +kernel) (Nat.le_of_ble_eq_true rfl) ?_
  unfold f11_wordOf at h
  show Go _ _ _ _ _ _ 0 [(0, vi a0)] [] μ _
  refine go_blk rfl [(.iload_n 0, 1, 0, 0, 0, .inl 0)] 0 1 _ _ _ (by decide +kernel) ?_
  show Go _ _ _ _ _ _ 1 [(0, vi a0)] [vi a0] μ _
  refine ite_el h (fun q1 h => ?_) (fun q1 h => ?_)
  · refine go_tableIn (dflt := 78) (lo := 0) (hi := 8) (offs := #[51, 54, 57, 60, 63, 66, 69, 72, 75]) (len := 51) (off := 51) (tgt := 52) (by decide +kernel) (by rw [q1]; decide) (by rw [q1]; decide) (by rw [q1]; decide) (by decide) ?_
    refine go_blk rfl [(.ldc 159, 2, 0, 0, 0, .inr (.inr (some (.inr (.inr 13)))))] 52 54 _ _ _ (by decide +kernel) ?_
    show Go _ _ _ _ _ _ 54 [(0, vi a0)] [rs 13] μ _
    obtain rfl := Option.some.inj h
    exact go_areturn (by decide +kernel) rfl rfl ⟨rfl, rfl⟩
  refine ite_el h (fun q2 h => ?_) (fun q2 h => ?_)
  · refine go_tableIn (dflt := 78) (lo := 0) (hi := 8) (offs := #[51, 54, 57, 60, 63, 66, 69, 72, 75]) (len := 51) (off := 54) (tgt := 55) (by decide +kernel) (by rw [q2]; decide) (by rw [q2]; decide) (by rw [q2]; decide) (by decide) ?_
    refine go_blk rfl [(.ldc 161, 2, 0, 0, 0, .inr (.inr (some (.inr (.inr 15)))))] 55 57 _ _ _ (by decide +kernel) ?_
    show Go _ _ _ _ _ _ 57 [(0, vi a0)] [rs 15] μ _
    obtain rfl := Option.some.inj h
    exact go_areturn (by decide +kernel) rfl rfl ⟨rfl, rfl⟩
  refine ite_el h (fun q3 h => ?_) (fun q3 h => ?_)
  · refine go_tableIn (dflt := 78) (lo := 0) (hi := 8) (offs := #[51, 54, 57, 60, 63, 66, 69, 72, 75]) (len := 51) (off := 57) (tgt := 58) (by decide +kernel) (by rw [q3]; decide) (by rw [q3]; decide) (by rw [q3]; decide) (by decide) ?_
    refine go_blk rfl [(.ldc 163, 2, 0, 0, 0, .inr (.inr (some (.inr (.inr 6)))))] 58 60 _ _ _ (by decide +kernel) ?_
    show Go _ _ _ _ _ _ 60 [(0, vi a0)] [rs 6] μ _
    obtain rfl := Option.some.inj h
    exact go_areturn (by decide +kernel) rfl rfl ⟨rfl, rfl⟩
  refine ite_el h (fun q4 h => ?_) (fun q4 h => ?_)
  · refine go_tableIn (dflt := 78) (lo := 0) (hi := 8) (offs := #[51, 54, 57, 60, 63, 66, 69, 72, 75]) (len := 51) (off := 60) (tgt := 61) (by decide +kernel) (by rw [q4]; decide) (by rw [q4]; decide) (by rw [q4]; decide) (by decide) ?_
    refine go_blk rfl [(.ldc 165, 2, 0, 0, 0, .inr (.inr (some (.inr (.inr 3)))))] 61 63 _ _ _ (by decide +kernel) ?_
    show Go _ _ _ _ _ _ 63 [(0, vi a0)] [rs 3] μ _
    obtain rfl := Option.some.inj h
    exact go_areturn (by decide +kernel) rfl rfl ⟨rfl, rfl⟩
  refine ite_el h (fun q5 h => ?_) (fun q5 h => ?_)
  · refine go_tableIn (dflt := 78) (lo := 0) (hi := 8) (offs := #[51, 54, 57, 60, 63, 66, 69, 72, 75]) (len := 51) (off := 63) (tgt := 64) (by decide +kernel) (by rw [q5]; decide) (by rw [q5]; decide) (by rw [q5]; decide) (by decide) ?_
    refine go_blk rfl [(.ldc 167, 2, 0, 0, 0, .inr (.inr (some (.inr (.inr 8)))))] 64 66 _ _ _ (by decide +kernel) ?_
    show Go _ _ _ _ _ _ 66 [(0, vi a0)] [rs 8] μ _
    obtain rfl := Option.some.inj h
    exact go_areturn (by decide +kernel) rfl rfl ⟨rfl, rfl⟩
  refine ite_el h (fun q6 h => ?_) (fun q6 h => ?_)
  · refine go_tableIn (dflt := 78) (lo := 0) (hi := 8) (offs := #[51, 54, 57, 60, 63, 66, 69, 72, 75]) (len := 51) (off := 66) (tgt := 67) (by decide +kernel) (by rw [q6]; decide) (by rw [q6]; decide) (by rw [q6]; decide) (by decide) ?_
    refine go_blk rfl [(.ldc 169, 2, 0, 0, 0, .inr (.inr (some (.inr (.inr 1)))))] 67 69 _ _ _ (by decide +kernel) ?_
    show Go _ _ _ _ _ _ 69 [(0, vi a0)] [rs 1] μ _
    obtain rfl := Option.some.inj h
    exact go_areturn (by decide +kernel) rfl rfl ⟨rfl, rfl⟩
  refine ite_el h (fun q7 h => ?_) (fun q7 h => ?_)
  · refine go_tableIn (dflt := 78) (lo := 0) (hi := 8) (offs := #[51, 54, 57, 60, 63, 66, 69, 72, 75]) (len := 51) (off := 69) (tgt := 70) (by decide +kernel) (by rw [q7]; decide) (by rw [q7]; decide) (by rw [q7]; decide) (by decide) ?_
    refine go_blk rfl [(.ldc 171, 2, 0, 0, 0, .inr (.inr (some (.inr (.inr 4)))))] 70 72 _ _ _ (by decide +kernel) ?_
    show Go _ _ _ _ _ _ 72 [(0, vi a0)] [rs 4] μ _
    obtain rfl := Option.some.inj h
    exact go_areturn (by decide +kernel) rfl rfl ⟨rfl, rfl⟩
  refine ite_el h (fun q8 h => ?_) (fun q8 h => ?_)
  · refine go_tableIn (dflt := 78) (lo := 0) (hi := 8) (offs := #[51, 54, 57, 60, 63, 66, 69, 72, 75]) (len := 51) (off := 72) (tgt := 73) (by decide +kernel) (by rw [q8]; decide) (by rw [q8]; decide) (by rw [q8]; decide) (by decide) ?_
    refine go_blk rfl [(.ldc 173, 2, 0, 0, 0, .inr (.inr (some (.inr (.inr 16)))))] 73 75 _ _ _ (by decide +kernel) ?_
    show Go _ _ _ _ _ _ 75 [(0, vi a0)] [rs 16] μ _
    obtain rfl := Option.some.inj h
    exact go_areturn (by decide +kernel) rfl rfl ⟨rfl, rfl⟩
  refine ite_el h (fun q9 h => ?_) (fun q9 h => ?_)
  · refine go_tableIn (dflt := 78) (lo := 0) (hi := 8) (offs := #[51, 54, 57, 60, 63, 66, 69, 72, 75]) (len := 51) (off := 75) (tgt := 76) (by decide +kernel) (by rw [q9]; decide) (by rw [q9]; decide) (by rw [q9]; decide) (by decide) ?_
    refine go_blk rfl [(.ldc 175, 2, 0, 0, 0, .inr (.inr (some (.inr (.inr 9)))))] 76 78 _ _ _ (by decide +kernel) ?_
    show Go _ _ _ _ _ _ 78 [(0, vi a0)] [rs 9] μ _
    obtain rfl := Option.some.inj h
    exact go_areturn (by decide +kernel) rfl rfl ⟨rfl, rfl⟩
  refine go_tableOut (dflt := 78) (lo := 0) (hi := 8) (offs := #[51, 54, 57, 60, 63, 66, 69, 72, 75]) (len := 51) (tgt := 79) (by decide +kernel) (by have z0 : a0.toInt ≠ 0 := tb_ne q1 (by decide); have z1 : a0.toInt ≠ 1 := tb_ne q2 (by decide); have z2 : a0.toInt ≠ 2 := tb_ne q3 (by decide); have z3 : a0.toInt ≠ 3 := tb_ne q4 (by decide); have z4 : a0.toInt ≠ 4 := tb_ne q5 (by decide); have z5 : a0.toInt ≠ 5 := tb_ne q6 (by decide); have z6 : a0.toInt ≠ 6 := tb_ne q7 (by decide); have z7 : a0.toInt ≠ 7 := tb_ne q8 (by decide); have z8 : a0.toInt ≠ 8 := tb_ne q9 (by decide); omega) (by decide) ?_
  refine go_blk rfl [(.ldc 177, 2, 0, 0, 0, .inr (.inr (some (.inr (.inr 17)))))] 79 81 _ _ _ (by decide +kernel) ?_
  show Go _ _ _ _ _ _ 81 [(0, vi a0)] [rs 17] μ _
  obtain rfl := Option.some.inj h
  exact go_areturn (by decide +kernel) rfl rfl ⟨rfl, rfl⟩
def f11_fails (S : jS) (a0 : Int32) (a1 : Int32) : Option (jS × Unit) := some (wI S 0 21 (((if (S.1 0 21) = 0 then ((1 + (8 * a1)) + a0) else (S.1 0 21)) : Int32)), ())
theorem ret11_fails {S : jS} {T : jT} {Y : jS × jT} {a0 : Int32} {a1 : Int32} {S1 : jS} {x : Unit} (hT : LayM T) (h : f11_fails S a0 a1 = some (S1, x)) : Ret M11_fails 1 0 0 [rm 0, vi a0, vi a1] (Y, (S, T)) (none) (Y, (S1, T)) := by
  refine Ret.of (by decide +kernel) (Nat.le_of_ble_eq_true rfl) ?_
  unfold f11_fails at h
  show Go _ _ _ _ _ _ 0 [(0, rm 0), (1, vi a0), (2, vi a1)] [] (Y, (S, T)) _
  refine go_blk rfl [(.aload_n 0, 1, 0, 0, 0, .inl 0), (.aload_n 0, 1, 0, 0, 0, .inl 0), (.getfield 178, 3, 11, 21, 0, .inl 0)] 0 5 _ _ _ (by decide +kernel) ?_
  refine And.intro (lm_t0 hT) ?_
  show Go _ _ _ _ _ _ 5 [(0, rm 0), (1, vi a0), (2, vi a1)] [vi (S.1 0 21), rm 0] (Y, (S, T)) _
  have key : ∀ z0 : Int32, z0 = ((if (S.1 0 21) = 0 then ((1 + (8 * a1)) + a0) else (S.1 0 21)) : Int32) → Go M11_fails 1 0 0 0 0 23 [] [vi z0, rm 0] (Y, (S, T)) (eqQ none (Y, (S1, T))) := by
    intro z0 ez0
    subst ez0
    refine go_blk rfl [(.putfield 178, 3, 11, 21, 0, .inl 0)] 23 26 _ _ _ (by decide +kernel) ?_
    refine And.intro (lm_t0 hT) (And.intro trivial ?_)
    show Go _ _ _ _ _ _ 26 [] [] (Y, (wI S 0 21 (((if (S.1 0 21) = 0 then ((1 + (8 * a1)) + a0) else (S.1 0 21)) : Int32)), T)) _
    obtain ⟨rfl, rfl⟩ := Prod.mk.inj (Option.some.inj h)
    exact go_return (by decide +kernel) rfl ⟨rfl, rfl⟩
  clear h
  by_cases q1 : (S.1 0 21) = 0
  · refine go_if_ne (off := 14) (tgt := 19) (by decide +kernel) (by decide) (fun z => absurd q1 z) (fun _ => ?_)
    refine go_blk rfl [(.iconst 1, 1, 0, 0, 0, .inl 1), (.bipush 8, 2, 0, 0, 0, .inl 8), (.iload_n 2, 1, 2, 0, 0, .inl 0), (.imul, 1, 0, 0, 0, .inl 0), (.iadd, 1, 0, 0, 0, .inl 0), (.iload_n 1, 1, 1, 0, 0, .inl 0), (.iadd, 1, 0, 0, 0, .inl 0)] 8 16 _ _ _ (by decide +kernel) ?_
    show Go _ _ _ _ _ _ 16 [(0, rm 0), (1, vi a0), (2, vi a1)] [vi ((1 + (8 * a1)) + a0), rm 0] (Y, (S, T)) _
    refine go_goto (off := 7) (tgt := 23) (by decide +kernel) (by decide) ?_
    refine go_pick [] rfl ?_; exact key _ (by rw [if_pos q1])
  · refine go_if_ne (off := 14) (tgt := 19) (by decide +kernel) (by decide) (fun _ => ?_) (fun z => absurd z q1)
    refine go_blk rfl [(.aload_n 0, 1, 0, 0, 0, .inl 0), (.getfield 178, 3, 11, 21, 0, .inl 0)] 19 23 _ _ _ (by decide +kernel) ?_
    refine And.intro (lm_t0 hT) ?_
    show Go _ _ _ _ _ _ 23 [(0, rm 0), (1, vi a0), (2, vi a1)] [vi (S.1 0 21), rm 0] (Y, (S, T)) _
    refine go_pick [] rfl ?_; exact key _ (by rw [if_neg q1])
def f11_sign (S : jS) : Option Int32 := (if (S.1 0 19) ≤ (S.1 0 20) then some ((-1)) else (if inb (S.1 0 20) 400 then some ((S.1 29 (S.1 0 20).toNatClampNeg) &&& 255) else none))
theorem ret11_sign {S : jS} {T : jT} {Y : jS × jT} {x : Int32} (hT : LayM T) (h : f11_sign S = some x) : Ret M11_sign 1 0 0 [rm 0] (Y, (S, T)) (some (vi x)) (Y, (S, T)) := by
  refine Ret.of (by decide +kernel) (Nat.le_of_ble_eq_true rfl) ?_
  unfold f11_sign at h
  show Go _ _ _ _ _ _ 0 [(0, rm 0)] [] (Y, (S, T)) _
  refine go_blk rfl [(.aload_n 0, 1, 0, 0, 0, .inl 0), (.getfield 181, 3, 11, 20, 0, .inl 0), (.aload_n 0, 1, 0, 0, 0, .inl 0), (.getfield 152, 3, 11, 19, 0, .inl 0)] 0 8 _ _ _ (by decide +kernel) ?_
  refine And.intro (lm_t0 hT) ?_
  refine And.intro (lm_t0 hT) ?_
  show Go _ _ _ _ _ _ 8 [(0, rm 0)] [vi (S.1 0 19), vi (S.1 0 20)] (Y, (S, T)) _
  refine ite_el h (fun q1 h => ?_) (fun q1 h => ?_)
  · refine go_icmp_ge (off := 19) (tgt := 27) (by decide +kernel) (by decide) (fun _ => ?_) (fun z => absurd q1 z)
    refine go_blk rfl [(.iconst (-1), 1, 0, 0, 0, .inl (-1))] 27 28 _ _ _ (by decide +kernel) ?_
    show Go _ _ _ _ _ _ 28 [(0, rm 0)] [vi ((-1))] (Y, (S, T)) _
    obtain rfl := Option.some.inj h
    exact go_ireturn (by decide +kernel) rfl rfl ⟨rfl, rfl⟩
  · refine go_icmp_ge (off := 19) (tgt := 27) (by decide +kernel) (by decide) (fun z => absurd z q1) (fun _ => ?_)
    refine gd_el h (fun q2 h => ?_)
    refine go_blk rfl [(.aload_n 0, 1, 0, 0, 0, .inl 0), (.getfield 68, 3, 11, 29, 1, .inl 0), (.aload_n 0, 1, 0, 0, 0, .inl 0), (.getfield 181, 3, 11, 20, 0, .inl 0), (.baload, 1, 21, 0, 0, .inl 0), (.sipush 255, 3, 0, 0, 0, .inl 255), (.iand, 1, 0, 0, 0, .inl 0)] 11 24 _ _ _ (by decide +kernel) ?_
    refine And.intro (lm_t0 hT) (Exists.intro _ (And.intro (gRm (lm_r29 hT)) ?_))
    refine And.intro (lm_t0 hT) ?_
    refine And.intro (lm_t29 hT) (Exists.intro _ (And.intro (lm_n29 hT) (And.intro (inb_in q2) ?_)))
    show Go _ _ _ _ _ _ 24 [(0, rm 0)] [vi ((S.1 29 (S.1 0 20).toNatClampNeg) &&& 255)] (Y, (S, T)) _
    refine go_goto (off := 4) (tgt := 28) (by decide +kernel) (by decide) ?_
    obtain rfl := Option.some.inj h
    exact go_ireturn (by decide +kernel) rfl rfl ⟨rfl, rfl⟩
def f11_blanks_L1  : Nat → jS → Option jS
  | 0, _ => none
  | n + 1, S => Option.bind (f11_sign S) (fun r2 => (if r2 = 32 then f11_blanks_L1 n (wI S 0 20 ((S.1 0 20) + 1)) else some S))
def f11_blanks (S : jS) : Option (jS × Unit) := Option.bind (f11_sign S) (fun r1 => (if r1 = 32 then Option.bind (f11_blanks_L1 jF (wI S 0 20 ((S.1 0 20) + 1))) (fun y3 => some (y3, ())) else some (S, ())))
theorem f11_blanks_L1_ok {T : jT} {Y : jS × jT} {Q : Option jV → jMem → Prop} (hT : LayM T) : ∀ (n : Nat) (S : jS) (r : jS), f11_blanks_L1 n S = some r → Go M11_blanks 2 0 0 0 0 22 [] [] (Y, (r, T)) Q → Go M11_blanks 2 0 0 0 0 0 [(0, rm 0)] [] (Y, (S, T)) Q := by
  intro n
  induction n with
  | zero => intro S r h k; exact absurd h (by intro z; cases z)
  | succ n ih =>
    intro S r h k
    rw [f11_blanks_L1] at h
    refine go_blk rfl [(.aload_n 0, 1, 0, 0, 0, .inl 0)] 0 1 _ _ _ (by decide +kernel) ?_
    show Go _ _ _ _ _ _ 1 [(0, rm 0)] [rm 0] (Y, (S, T)) _
    obtain ⟨r2, hr2, h⟩ := bind_el h
    refine go_callV (idx := 184) (z := 0) (M' := M11_sign) (n := 0) (A := []) (v' := some (vi r2)) (μ' := (Y, (S, T))) (d' := 1) (mc' := 0) (ms' := 0) (kc' := 0) (ks' := 0) (ci := 11) (x := .inr (.inl 0)) (by decide +kernel) ml_11_184 rfl wv11_sign rfl (by decide) rfl (lm_t0 hT) (ret11_sign hT hr2) (by decide) rfl rfl (Nat.le_of_ble_eq_true rfl) rfl (jag rfl rfl) ?_
    show Go _ _ _ _ _ _ 4 [(0, rm 0)] [vi r2] (Y, (S, T)) _
    refine go_blk rfl [(.bipush 32, 2, 0, 0, 0, .inl 32)] 4 6 _ _ _ (by decide +kernel) ?_
    show Go _ _ _ _ _ _ 6 [(0, rm 0)] [vi 32, vi r2] (Y, (S, T)) _
    refine ite_el h (fun q2 h => ?_) (fun q2 h => ?_)
    · refine go_icmp_ne (off := 16) (tgt := 22) (by decide +kernel) (by decide) (fun z => absurd q2 z) (fun _ => ?_)
      refine go_blk rfl [(.aload_n 0, 1, 0, 0, 0, .inl 0), (.dup, 1, 0, 0, 0, .inl 0), (.getfield 181, 3, 11, 20, 0, .inl 0), (.iconst 1, 1, 0, 0, 0, .inl 1), (.iadd, 1, 0, 0, 0, .inl 0), (.putfield 181, 3, 11, 20, 0, .inl 0)] 9 19 _ _ _ (by decide +kernel) ?_
      refine And.intro (lm_t0 hT) ?_
      refine And.intro (lm_t0 hT) (And.intro trivial ?_)
      show Go _ _ _ _ _ _ 19 [(0, rm 0)] [] (Y, (wI S 0 20 ((S.1 0 20) + 1), T)) _
      refine go_goto (off := (-19)) (tgt := 0) (by decide +kernel) (by decide) ?_
      refine go_pick [0] rfl ?_
      exact ih _ _ h k
    · refine go_icmp_ne (off := 16) (tgt := 22) (by decide +kernel) (by decide) (fun _ => ?_) (fun z => absurd z q2)
      obtain rfl := Option.some.inj h
      refine go_pick [] rfl ?_
      exact k
theorem ret11_blanks {S : jS} {T : jT} {Y : jS × jT} {S1 : jS} {x : Unit} (hT : LayM T) (h : f11_blanks S = some (S1, x)) : Ret M11_blanks 2 0 0 [rm 0] (Y, (S, T)) (none) (Y, (S1, T)) := by
  refine Ret.of (by decide +kernel) (Nat.le_of_ble_eq_true rfl) ?_
  unfold f11_blanks at h
  show Go _ _ _ _ _ _ 0 [(0, rm 0)] [] (Y, (S, T)) _
  refine go_blk rfl [(.aload_n 0, 1, 0, 0, 0, .inl 0)] 0 1 _ _ _ (by decide +kernel) ?_
  show Go _ _ _ _ _ _ 1 [(0, rm 0)] [rm 0] (Y, (S, T)) _
  obtain ⟨r1, hr1, h⟩ := bind_el h
  refine go_callV (idx := 184) (z := 0) (M' := M11_sign) (n := 0) (A := []) (v' := some (vi r1)) (μ' := (Y, (S, T))) (d' := 1) (mc' := 0) (ms' := 0) (kc' := 0) (ks' := 0) (ci := 11) (x := .inr (.inl 0)) (by decide +kernel) ml_11_184 rfl wv11_sign rfl (by decide) rfl (lm_t0 hT) (ret11_sign hT hr1) (by decide) rfl rfl (Nat.le_of_ble_eq_true rfl) rfl (jag rfl rfl) ?_
  show Go _ _ _ _ _ _ 4 [(0, rm 0)] [vi r1] (Y, (S, T)) _
  refine go_blk rfl [(.bipush 32, 2, 0, 0, 0, .inl 32)] 4 6 _ _ _ (by decide +kernel) ?_
  show Go _ _ _ _ _ _ 6 [(0, rm 0)] [vi 32, vi r1] (Y, (S, T)) _
  refine ite_el h (fun q1 h => ?_) (fun q1 h => ?_)
  · refine go_icmp_ne (off := 16) (tgt := 22) (by decide +kernel) (by decide) (fun z => absurd q1 z) (fun _ => ?_)
    refine go_blk rfl [(.aload_n 0, 1, 0, 0, 0, .inl 0), (.dup, 1, 0, 0, 0, .inl 0), (.getfield 181, 3, 11, 20, 0, .inl 0), (.iconst 1, 1, 0, 0, 0, .inl 1), (.iadd, 1, 0, 0, 0, .inl 0), (.putfield 181, 3, 11, 20, 0, .inl 0)] 9 19 _ _ _ (by decide +kernel) ?_
    refine And.intro (lm_t0 hT) ?_
    refine And.intro (lm_t0 hT) (And.intro trivial ?_)
    show Go _ _ _ _ _ _ 19 [(0, rm 0)] [] (Y, (wI S 0 20 ((S.1 0 20) + 1), T)) _
    refine go_goto (off := (-19)) (tgt := 0) (by decide +kernel) (by decide) ?_
    refine go_pick [0] rfl ?_
    obtain ⟨y3, hy3, h⟩ := bind_el h
    refine f11_blanks_L1_ok hT _ _ _ hy3 ?_
    show Go _ _ _ _ _ _ 22 [] [] (Y, (y3, T)) _
    obtain ⟨rfl, rfl⟩ := Prod.mk.inj (Option.some.inj h)
    exact go_return (by decide +kernel) rfl ⟨rfl, rfl⟩
  · refine go_icmp_ne (off := 16) (tgt := 22) (by decide +kernel) (by decide) (fun _ => ?_) (fun z => absurd z q1)
    obtain ⟨rfl, rfl⟩ := Prod.mk.inj (Option.some.inj h)
    exact go_return (by decide +kernel) rfl ⟨rfl, rfl⟩
def f11_isDigit (S : jS) : Option Int32 := Option.bind (f11_sign S) (fun r1 => Option.bind (f11_in r1.toInt64 48 57) (fun r2 => (if r2 = 0 ∨ r2 = 1 then some r2 else none)))
theorem ret11_isDigit {S : jS} {T : jT} {Y : jS × jT} {x : Int32} (hT : LayM T) (h : f11_isDigit S = some x) : Ret M11_isDigit 2 0 0 [rm 0] (Y, (S, T)) (some (vi x)) (Y, (S, T)) := by
  refine Ret.of (by decide +kernel) (Nat.le_of_ble_eq_true rfl) ?_
  unfold f11_isDigit at h
  show Go _ _ _ _ _ _ 0 [(0, rm 0)] [] (Y, (S, T)) _
  refine go_blk rfl [(.aload_n 0, 1, 0, 0, 0, .inl 0)] 0 1 _ _ _ (by decide +kernel) ?_
  show Go _ _ _ _ _ _ 1 [(0, rm 0)] [rm 0] (Y, (S, T)) _
  obtain ⟨r1, hr1, h⟩ := bind_el h
  refine go_callV (idx := 184) (z := 0) (M' := M11_sign) (n := 0) (A := []) (v' := some (vi r1)) (μ' := (Y, (S, T))) (d' := 1) (mc' := 0) (ms' := 0) (kc' := 0) (ks' := 0) (ci := 11) (x := .inr (.inl 0)) (by decide +kernel) ml_11_184 rfl wv11_sign rfl (by decide) rfl (lm_t0 hT) (ret11_sign hT hr1) (by decide) rfl rfl (Nat.le_of_ble_eq_true rfl) rfl (jag rfl rfl) ?_
  show Go _ _ _ _ _ _ 4 [(0, rm 0)] [vi r1] (Y, (S, T)) _
  refine go_blk rfl [(.i2l, 1, 0, 0, 0, .inl 0), (.ldc2_w 188, 3, 0, 0, 0, .inr (.inl 48)), (.ldc2_w 190, 3, 0, 0, 0, .inr (.inl 57))] 4 11 _ _ _ (by decide +kernel) ?_
  show Go _ _ _ _ _ _ 11 [(0, rm 0)] [vl 57, vl 48, vl r1.toInt64] (Y, (S, T)) _
  obtain ⟨r2, hr2, h⟩ := bind_el h
  refine go_callS (idx := 140) (z := 0) (M' := M11_in) (n := 3) (A := [vl r1.toInt64, vl 48, vl 57]) (v' := some (vi r2)) (μ' := (Y, (S, T))) (d' := 1) (mc' := 0) (ms' := 0) (kc' := 0) (ks' := 0) (by decide +kernel) ml_11_140 rfl ws11_in rfl (ret11_in hr2) (by decide) rfl rfl (Nat.le_of_ble_eq_true rfl) rfl (jag rfl rfl) ?_
  show Go _ _ _ _ _ _ 14 [(0, rm 0)] [vi r2] (Y, (S, T)) _
  refine gd_el h (fun q h => ?_)
  obtain rfl := Option.some.inj h
  exact go_ireturn (by decide +kernel) rfl (by rcases q with q | q <;> rw [q] <;> rfl) ⟨rfl, rfl⟩
def f11_stood_L1 (S : jS) (a0 : Nat) : Nat → Int32 → Option Int32
  | 0, _ => none
  | n + 1, l2 => (if (S.1 0 19) ≤ l2 then some l2 else (if inb l2 400 then (if (S.1 29 l2.toNatClampNeg) < 97 then some l2 else (if 122 < (S.1 29 l2.toNatClampNeg) then some l2 else f11_stood_L1 S a0 n (l2 + 1))) else none))
def f11_stood_L2 (S : jS) (a0 : Nat) : Nat → Int32 → Int32 → Option Int32
  | 0, _, _ => none
  | n + 1, l3, l4 => (if (slen a0) ≤ l4 then some l3 else (if l3 = 0 then some l3 else (if inb ((S.1 0 20) + l4) 400 then (if inb l4 (jlen.getD a0 0) then f11_stood_L2 S a0 n (((if (S.1 29 ((S.1 0 20) + l4).toNatClampNeg) = (sch a0 l4) then 1 else 0) : Int32)) (l4 + 1) else none) else none)))
def f11_stood (S : jS) (a0 : Nat) : Option Int32 := Option.bind (f11_stood_L1 S a0 jF (S.1 0 20)) (fun y1 => Option.bind (f11_stood_L2 S a0 jF (((if (y1 - (S.1 0 20)) = (slen a0) then 1 else 0) : Int32)) 0) (fun y2 => (if y2 = 0 ∨ y2 = 1 then some y2 else none)))
theorem f11_stood_L1_ok {T : jT} {Y : jS × jT} {S : jS} {a0 : Nat} {Q : Option jV → jMem → Prop} (hT : LayM T) (h0 : a0 < 18) : ∀ (n : Nat) (l2 : Int32) (r : Int32), f11_stood_L1 S a0 n l2 = some r → Go M11_stood 5 0 0 0 0 41 [(0, rm 0), (1, rs a0), (2, vi r)] [] (Y, (S, T)) Q → Go M11_stood 5 0 0 0 0 5 [(0, rm 0), (1, rs a0), (2, vi l2)] [] (Y, (S, T)) Q := by
  intro n
  induction n with
  | zero => intro l2 r h k; exact absurd h (by intro z; cases z)
  | succ n ih =>
    intro l2 r h k
    rw [f11_stood_L1] at h
    refine go_blk rfl [(.iload_n 2, 1, 2, 0, 0, .inl 0), (.aload_n 0, 1, 0, 0, 0, .inl 0), (.getfield 152, 3, 11, 19, 0, .inl 0)] 5 10 _ _ _ (by decide +kernel) ?_
    refine And.intro (lm_t0 hT) ?_
    show Go _ _ _ _ _ _ 10 [(0, rm 0), (1, rs a0), (2, vi l2)] [vi (S.1 0 19), vi l2] (Y, (S, T)) _
    refine ite_el h (fun q1 h => ?_) (fun q1 h => ?_)
    · refine go_icmp_ge (off := 31) (tgt := 41) (by decide +kernel) (by decide) (fun _ => ?_) (fun z => absurd q1 z)
      obtain rfl := Option.some.inj h
      refine go_pick [0, 1, 2] rfl ?_
      exact k
    · refine go_icmp_ge (off := 31) (tgt := 41) (by decide +kernel) (by decide) (fun z => absurd z q1) (fun _ => ?_)
      refine gd_el h (fun q2 h => ?_)
      refine go_blk rfl [(.aload_n 0, 1, 0, 0, 0, .inl 0), (.getfield 68, 3, 11, 29, 1, .inl 0), (.iload_n 2, 1, 2, 0, 0, .inl 0), (.baload, 1, 21, 0, 0, .inl 0), (.bipush 97, 2, 0, 0, 0, .inl 97)] 13 21 _ _ _ (by decide +kernel) ?_
      refine And.intro (lm_t0 hT) (Exists.intro _ (And.intro (gRm (lm_r29 hT)) ?_))
      refine And.intro (lm_t29 hT) (Exists.intro _ (And.intro (lm_n29 hT) (And.intro (inb_in q2) ?_)))
      show Go _ _ _ _ _ _ 21 [(0, rm 0), (1, rs a0), (2, vi l2)] [vi 97, vi (S.1 29 l2.toNatClampNeg)] (Y, (S, T)) _
      refine ite_el h (fun q3 h => ?_) (fun q3 h => ?_)
      · refine go_icmp_lt (off := 20) (tgt := 41) (by decide +kernel) (by decide) (fun _ => ?_) (fun z => absurd q3 z)
        obtain rfl := Option.some.inj h
        refine go_pick [0, 1, 2] rfl ?_
        exact k
      · refine go_icmp_lt (off := 20) (tgt := 41) (by decide +kernel) (by decide) (fun z => absurd z q3) (fun _ => ?_)
        refine go_blk rfl [(.aload_n 0, 1, 0, 0, 0, .inl 0), (.getfield 68, 3, 11, 29, 1, .inl 0), (.iload_n 2, 1, 2, 0, 0, .inl 0), (.baload, 1, 21, 0, 0, .inl 0), (.bipush 122, 2, 0, 0, 0, .inl 122)] 24 32 _ _ _ (by decide +kernel) ?_
        refine And.intro (lm_t0 hT) (Exists.intro _ (And.intro (gRm (lm_r29 hT)) ?_))
        refine And.intro (lm_t29 hT) (Exists.intro _ (And.intro (lm_n29 hT) (And.intro (inb_in q2) ?_)))
        show Go _ _ _ _ _ _ 32 [(0, rm 0), (1, rs a0), (2, vi l2)] [vi 122, vi (S.1 29 l2.toNatClampNeg)] (Y, (S, T)) _
        refine ite_el h (fun q4 h => ?_) (fun q4 h => ?_)
        · refine go_icmp_gt (off := 9) (tgt := 41) (by decide +kernel) (by decide) (fun _ => ?_) (fun z => absurd q4 z)
          obtain rfl := Option.some.inj h
          refine go_pick [0, 1, 2] rfl ?_
          exact k
        · refine go_icmp_gt (off := 9) (tgt := 41) (by decide +kernel) (by decide) (fun z => absurd z q4) (fun _ => ?_)
          refine go_blk rfl [(.iinc 2 1, 3, 2, 0, 0, .inl 1)] 35 38 _ _ _ (by decide +kernel) ?_
          show Go _ _ _ _ _ _ 38 [(2, vi (l2 + 1)), (0, rm 0), (1, rs a0)] [] (Y, (S, T)) _
          refine go_goto (off := (-33)) (tgt := 5) (by decide +kernel) (by decide) ?_
          refine go_pick [1, 2, 0] rfl ?_
          exact ih _ _ h k
theorem f11_stood_L2_ok {T : jT} {Y : jS × jT} {S : jS} {a0 : Nat} {Q : Option jV → jMem → Prop} (hT : LayM T) (h0 : a0 < 18) : ∀ (n : Nat) (l3 : Int32) (l4 : Int32) (r : Int32), f11_stood_L2 S a0 n l3 l4 = some r → Go M11_stood 5 0 0 0 0 109 [(3, vi r)] [] (Y, (S, T)) Q → Go M11_stood 5 0 0 0 0 63 [(0, rm 0), (1, rs a0), (3, vi l3), (4, vi l4)] [] (Y, (S, T)) Q := by
  intro n
  induction n with
  | zero => intro l3 l4 r h k; exact absurd h (by intro z; cases z)
  | succ n ih =>
    intro l3 l4 r h k
    rw [f11_stood_L2] at h
    refine go_blk rfl [(.iload 4, 2, 4, 0, 0, .inl 0), (.aload_n 1, 1, 1, 0, 0, .inl 0)] 63 66 _ _ _ (by decide +kernel) ?_
    show Go _ _ _ _ _ _ 66 [(0, rm 0), (1, rs a0), (3, vi l3), (4, vi l4)] [rs a0, vi l4] (Y, (S, T)) _
    refine go_slen (idx := 192) (by decide +kernel) ml_11_192 rfl h0 (by decide) (Nat.le_of_ble_eq_true rfl) ?_
    show Go _ _ _ _ _ _ 69 [(0, rm 0), (1, rs a0), (3, vi l3), (4, vi l4)] [vi (slen a0), vi l4] (Y, (S, T)) _
    refine ite_el h (fun q6 h => ?_) (fun q6 h => ?_)
    · refine go_icmp_ge (off := 40) (tgt := 109) (by decide +kernel) (by decide) (fun _ => ?_) (fun z => absurd q6 z)
      obtain rfl := Option.some.inj h
      refine go_pick [2] rfl ?_
      exact k
    · refine go_icmp_ge (off := 40) (tgt := 109) (by decide +kernel) (by decide) (fun z => absurd z q6) (fun _ => ?_)
      refine go_blk rfl [(.iload_n 3, 1, 3, 0, 0, .inl 0)] 72 73 _ _ _ (by decide +kernel) ?_
      show Go _ _ _ _ _ _ 73 [(0, rm 0), (1, rs a0), (3, vi l3), (4, vi l4)] [vi l3] (Y, (S, T)) _
      refine ite_el h (fun q7 h => ?_) (fun q7 h => ?_)
      · refine go_if_eq (off := 36) (tgt := 109) (by decide +kernel) (by decide) (fun _ => ?_) (fun z => absurd q7 z)
        obtain rfl := Option.some.inj h
        refine go_pick [2] rfl ?_
        exact k
      · refine go_if_eq (off := 36) (tgt := 109) (by decide +kernel) (by decide) (fun z => absurd z q7) (fun _ => ?_)
        refine gd_el h (fun q8 h => ?_)
        refine go_blk rfl [(.aload_n 0, 1, 0, 0, 0, .inl 0), (.getfield 68, 3, 11, 29, 1, .inl 0), (.aload_n 0, 1, 0, 0, 0, .inl 0), (.getfield 181, 3, 11, 20, 0, .inl 0), (.iload 4, 2, 4, 0, 0, .inl 0), (.iadd, 1, 0, 0, 0, .inl 0), (.baload, 1, 21, 0, 0, .inl 0), (.aload_n 1, 1, 1, 0, 0, .inl 0), (.iload 4, 2, 4, 0, 0, .inl 0)] 76 91 _ _ _ (by decide +kernel) ?_
        refine And.intro (lm_t0 hT) (Exists.intro _ (And.intro (gRm (lm_r29 hT)) ?_))
        refine And.intro (lm_t0 hT) ?_
        refine And.intro (lm_t29 hT) (Exists.intro _ (And.intro (lm_n29 hT) (And.intro (inb_in q8) ?_)))
        show Go _ _ _ _ _ _ 91 [(0, rm 0), (1, rs a0), (3, vi l3), (4, vi l4)] [vi l4, rs a0, vi (S.1 29 ((S.1 0 20) + l4).toNatClampNeg)] (Y, (S, T)) _
        refine gd_el h (fun q9 h => ?_)
        refine go_sch (idx := 197) (by decide +kernel) ml_11_197 rfl h0 (inb_in q9) (by decide) (Nat.le_of_ble_eq_true rfl) ?_
        show Go _ _ _ _ _ _ 94 [(0, rm 0), (1, rs a0), (3, vi l3), (4, vi l4)] [vi (sch a0 l4), vi (S.1 29 ((S.1 0 20) + l4).toNatClampNeg)] (Y, (S, T)) _
        have key : ∀ z0 : Int32, z0 = ((if (S.1 29 ((S.1 0 20) + l4).toNatClampNeg) = (sch a0 l4) then 1 else 0) : Int32) → Go M11_stood 5 0 0 0 0 102 [(0, rm 0), (1, rs a0), (4, vi l4)] [vi z0] (Y, (S, T)) Q := by
          intro z0 ez0
          subst ez0
          refine go_blk rfl [(.istore_n 3, 1, 3, 0, 0, .inl 0), (.iinc 4 1, 3, 4, 0, 0, .inl 1)] 102 106 _ _ _ (by decide +kernel) ?_
          show Go _ _ _ _ _ _ 106 [(4, vi (l4 + 1)), (3, vi (((if (S.1 29 ((S.1 0 20) + l4).toNatClampNeg) = (sch a0 l4) then 1 else 0) : Int32))), (0, rm 0), (1, rs a0)] [] (Y, (S, T)) _
          refine go_goto (off := (-43)) (tgt := 63) (by decide +kernel) (by decide) ?_
          refine go_pick [2, 3, 1, 0] rfl ?_
          exact ih _ _ _ h k
        clear h
        by_cases q10 : (S.1 29 ((S.1 0 20) + l4).toNatClampNeg) = (sch a0 l4)
        · refine go_icmp_ne (off := 7) (tgt := 101) (by decide +kernel) (by decide) (fun z => absurd q10 z) (fun _ => ?_)
          refine go_blk rfl [(.iconst 1, 1, 0, 0, 0, .inl 1)] 97 98 _ _ _ (by decide +kernel) ?_
          show Go _ _ _ _ _ _ 98 [(0, rm 0), (1, rs a0), (3, vi l3), (4, vi l4)] [vi 1] (Y, (S, T)) _
          refine go_goto (off := 4) (tgt := 102) (by decide +kernel) (by decide) ?_
          refine go_pick [0, 1, 3] rfl ?_; exact key _ (by rw [if_pos q10])
        · refine go_icmp_ne (off := 7) (tgt := 101) (by decide +kernel) (by decide) (fun _ => ?_) (fun z => absurd z q10)
          refine go_blk rfl [(.iconst 0, 1, 0, 0, 0, .inl 0)] 101 102 _ _ _ (by decide +kernel) ?_
          show Go _ _ _ _ _ _ 102 [(0, rm 0), (1, rs a0), (3, vi l3), (4, vi l4)] [vi 0] (Y, (S, T)) _
          refine go_pick [0, 1, 3] rfl ?_; exact key _ (by rw [if_neg q10])
theorem ret11_stood {S : jS} {T : jT} {Y : jS × jT} {a0 : Nat} {x : Int32} (hT : LayM T) (h0 : a0 < 18) (h : f11_stood S a0 = some x) : Ret M11_stood 5 0 0 [rm 0, rs a0] (Y, (S, T)) (some (vi x)) (Y, (S, T)) := by
  refine Ret.of (by decide +kernel) (Nat.le_of_ble_eq_true rfl) ?_
  unfold f11_stood at h
  show Go _ _ _ _ _ _ 0 [(0, rm 0), (1, rs a0)] [] (Y, (S, T)) _
  refine go_blk rfl [(.aload_n 0, 1, 0, 0, 0, .inl 0), (.getfield 181, 3, 11, 20, 0, .inl 0), (.istore_n 2, 1, 2, 0, 0, .inl 0)] 0 5 _ _ _ (by decide +kernel) ?_
  refine And.intro (lm_t0 hT) ?_
  show Go _ _ _ _ _ _ 5 [(2, vi (S.1 0 20)), (0, rm 0), (1, rs a0)] [] (Y, (S, T)) _
  refine go_pick [1, 2, 0] rfl ?_
  obtain ⟨y1, hy1, h⟩ := bind_el h
  refine f11_stood_L1_ok hT h0 _ _ _ hy1 ?_
  show Go _ _ _ _ _ _ 41 [(0, rm 0), (1, rs a0), (2, vi y1)] [] (Y, (S, T)) _
  refine go_blk rfl [(.iload_n 2, 1, 2, 0, 0, .inl 0), (.aload_n 0, 1, 0, 0, 0, .inl 0), (.getfield 181, 3, 11, 20, 0, .inl 0), (.isub, 1, 0, 0, 0, .inl 0), (.aload_n 1, 1, 1, 0, 0, .inl 0)] 41 48 _ _ _ (by decide +kernel) ?_
  refine And.intro (lm_t0 hT) ?_
  show Go _ _ _ _ _ _ 48 [(0, rm 0), (1, rs a0), (2, vi y1)] [rs a0, vi (y1 - (S.1 0 20))] (Y, (S, T)) _
  refine go_slen (idx := 192) (by decide +kernel) ml_11_192 rfl h0 (by decide) (Nat.le_of_ble_eq_true rfl) ?_
  show Go _ _ _ _ _ _ 51 [(0, rm 0), (1, rs a0), (2, vi y1)] [vi (slen a0), vi (y1 - (S.1 0 20))] (Y, (S, T)) _
  have key : ∀ z0 : Int32, z0 = ((if (y1 - (S.1 0 20)) = (slen a0) then 1 else 0) : Int32) → Go M11_stood 5 0 0 0 0 59 [(0, rm 0), (1, rs a0)] [vi z0] (Y, (S, T)) (eqQ (some (vi x)) (Y, (S, T))) := by
    intro z0 ez0
    subst ez0
    refine go_blk rfl [(.istore_n 3, 1, 3, 0, 0, .inl 0), (.iconst 0, 1, 0, 0, 0, .inl 0), (.istore 4, 2, 4, 0, 0, .inl 0)] 59 63 _ _ _ (by decide +kernel) ?_
    show Go _ _ _ _ _ _ 63 [(4, vi 0), (3, vi (((if (y1 - (S.1 0 20)) = (slen a0) then 1 else 0) : Int32))), (0, rm 0), (1, rs a0)] [] (Y, (S, T)) _
    refine go_pick [2, 3, 1, 0] rfl ?_
    obtain ⟨y2, hy2, h⟩ := bind_el h
    refine f11_stood_L2_ok hT h0 _ _ _ _ hy2 ?_
    show Go _ _ _ _ _ _ 109 [(3, vi y2)] [] (Y, (S, T)) _
    refine go_blk rfl [(.iload_n 3, 1, 3, 0, 0, .inl 0)] 109 110 _ _ _ (by decide +kernel) ?_
    show Go _ _ _ _ _ _ 110 [(3, vi y2)] [vi y2] (Y, (S, T)) _
    refine gd_el h (fun q h => ?_)
    obtain rfl := Option.some.inj h
    exact go_ireturn (by decide +kernel) rfl (by rcases q with q | q <;> rw [q] <;> rfl) ⟨rfl, rfl⟩
  clear h
  by_cases q5 : (y1 - (S.1 0 20)) = (slen a0)
  · refine go_icmp_ne (off := 7) (tgt := 58) (by decide +kernel) (by decide) (fun z => absurd q5 z) (fun _ => ?_)
    refine go_blk rfl [(.iconst 1, 1, 0, 0, 0, .inl 1)] 54 55 _ _ _ (by decide +kernel) ?_
    show Go _ _ _ _ _ _ 55 [(0, rm 0), (1, rs a0), (2, vi y1)] [vi 1] (Y, (S, T)) _
    refine go_goto (off := 4) (tgt := 59) (by decide +kernel) (by decide) ?_
    refine go_pick [0, 1] rfl ?_; exact key _ (by rw [if_pos q5])
  · refine go_icmp_ne (off := 7) (tgt := 58) (by decide +kernel) (by decide) (fun _ => ?_) (fun z => absurd z q5)
    refine go_blk rfl [(.iconst 0, 1, 0, 0, 0, .inl 0)] 58 59 _ _ _ (by decide +kernel) ?_
    show Go _ _ _ _ _ _ 59 [(0, rm 0), (1, rs a0), (2, vi y1)] [vi 0] (Y, (S, T)) _
    refine go_pick [0, 1] rfl ?_; exact key _ (by rw [if_neg q5])
def f11_takes (S : jS) (a0 : Nat) : Option (jS × Int32) := Option.bind (f11_blanks S) (fun r1 => Option.bind (f11_stood r1.1 a0) (fun r2 => Option.bind (if r2 = 0 then some 0 else some (slen a0)) (fun (y3 : Int32) => (if r2 = 0 ∨ r2 = 1 then some (wI r1.1 0 20 ((r1.1.1 0 20) + y3), r2) else none))))
theorem ret11_takes {S : jS} {T : jT} {Y : jS × jT} {a0 : Nat} {S1 : jS} {x : Int32} (hT : LayM T) (h0 : a0 < 18) (h : f11_takes S a0 = some (S1, x)) : Ret M11_takes 6 0 0 [rm 0, rs a0] (Y, (S, T)) (some (vi x)) (Y, (S1, T)) := by
  refine Ret.of (by decide +kernel) (Nat.le_of_ble_eq_true rfl) ?_
  unfold f11_takes at h
  show Go _ _ _ _ _ _ 0 [(0, rm 0), (1, rs a0)] [] (Y, (S, T)) _
  refine go_blk rfl [(.aload_n 0, 1, 0, 0, 0, .inl 0)] 0 1 _ _ _ (by decide +kernel) ?_
  show Go _ _ _ _ _ _ 1 [(0, rm 0), (1, rs a0)] [rm 0] (Y, (S, T)) _
  obtain ⟨r1, hr1, h⟩ := bind_el h
  refine go_callV (idx := 201) (z := 0) (M' := M11_blanks) (n := 0) (A := []) (v' := none) (μ' := (Y, (r1.1, T))) (d' := 2) (mc' := 0) (ms' := 0) (kc' := 0) (ks' := 0) (ci := 11) (x := .inr (.inl 0)) (by decide +kernel) ml_11_201 rfl wv11_blanks rfl (by decide) rfl (lm_t0 hT) (ret11_blanks hT hr1) (by decide) rfl rfl (Nat.le_of_ble_eq_true rfl) rfl (jag rfl rfl) ?_
  show Go _ _ _ _ _ _ 4 [(0, rm 0), (1, rs a0)] [] (Y, (r1.1, T)) _
  refine go_blk rfl [(.aload_n 0, 1, 0, 0, 0, .inl 0), (.aload_n 1, 1, 1, 0, 0, .inl 0)] 4 6 _ _ _ (by decide +kernel) ?_
  show Go _ _ _ _ _ _ 6 [(0, rm 0), (1, rs a0)] [rs a0, rm 0] (Y, (r1.1, T)) _
  obtain ⟨r2, hr2, h⟩ := bind_el h
  refine go_callV (idx := 204) (z := 0) (M' := M11_stood) (n := 1) (A := [rs a0]) (v' := some (vi r2)) (μ' := (Y, (r1.1, T))) (d' := 5) (mc' := 0) (ms' := 0) (kc' := 0) (ks' := 0) (ci := 11) (x := .inr (.inl 0)) (by decide +kernel) ml_11_204 rfl wv11_stood rfl (by decide) rfl (lm_t0 hT) (ret11_stood hT h0 hr2) (by decide) rfl rfl (Nat.le_of_ble_eq_true rfl) rfl (jag rfl rfl) ?_
  show Go _ _ _ _ _ _ 9 [(0, rm 0), (1, rs a0)] [vi r2] (Y, (r1.1, T)) _
  refine go_blk rfl [(.istore_n 2, 1, 2, 0, 0, .inl 0), (.aload_n 0, 1, 0, 0, 0, .inl 0), (.dup, 1, 0, 0, 0, .inl 0), (.getfield 181, 3, 11, 20, 0, .inl 0), (.iload_n 2, 1, 2, 0, 0, .inl 0)] 9 16 _ _ _ (by decide +kernel) ?_
  refine And.intro (lm_t0 hT) ?_
  show Go _ _ _ _ _ _ 16 [(2, vi r2), (0, rm 0), (1, rs a0)] [vi r2, vi (r1.1.1 0 20), rm 0] (Y, (r1.1, T)) _
  obtain ⟨y3, hy3, h⟩ := bind_el h
  have key : Go M11_takes 6 0 0 0 0 27 [(2, vi r2)] [vi y3, vi (r1.1.1 0 20), rm 0] (Y, (r1.1, T)) (eqQ (some (vi x)) (Y, (S1, T))) := by
    refine go_blk rfl [(.iadd, 1, 0, 0, 0, .inl 0), (.putfield 181, 3, 11, 20, 0, .inl 0)] 27 31 _ _ _ (by decide +kernel) ?_
    refine And.intro (lm_t0 hT) (And.intro trivial ?_)
    show Go _ _ _ _ _ _ 31 [(2, vi r2)] [] (Y, (wI r1.1 0 20 ((r1.1.1 0 20) + y3), T)) _
    refine go_blk rfl [(.iload_n 2, 1, 2, 0, 0, .inl 0)] 31 32 _ _ _ (by decide +kernel) ?_
    show Go _ _ _ _ _ _ 32 [(2, vi r2)] [vi r2] (Y, (wI r1.1 0 20 ((r1.1.1 0 20) + y3), T)) _
    refine gd_el h (fun q h => ?_)
    obtain ⟨rfl, rfl⟩ := Prod.mk.inj (Option.some.inj h)
    exact go_ireturn (by decide +kernel) rfl (by rcases q with q | q <;> rw [q] <;> rfl) ⟨rfl, rfl⟩
  replace h := hy3
  refine ite_el h (fun q1 h => ?_) (fun q1 h => ?_)
  · refine go_if_eq (off := 10) (tgt := 26) (by decide +kernel) (by decide) (fun _ => ?_) (fun z => absurd q1 z)
    refine go_blk rfl [(.iconst 0, 1, 0, 0, 0, .inl 0)] 26 27 _ _ _ (by decide +kernel) ?_
    show Go _ _ _ _ _ _ 27 [(2, vi r2), (0, rm 0), (1, rs a0)] [vi 0, vi (r1.1.1 0 20), rm 0] (Y, (r1.1, T)) _
    obtain rfl := Option.some.inj h
    refine go_pick [0] rfl ?_
    exact key
  · refine go_if_eq (off := 10) (tgt := 26) (by decide +kernel) (by decide) (fun z => absurd z q1) (fun _ => ?_)
    refine go_blk rfl [(.aload_n 1, 1, 1, 0, 0, .inl 0)] 19 20 _ _ _ (by decide +kernel) ?_
    show Go _ _ _ _ _ _ 20 [(2, vi r2), (0, rm 0), (1, rs a0)] [rs a0, vi (r1.1.1 0 20), rm 0] (Y, (r1.1, T)) _
    refine go_slen (idx := 192) (by decide +kernel) ml_11_192 rfl h0 (by decide) (Nat.le_of_ble_eq_true rfl) ?_
    show Go _ _ _ _ _ _ 23 [(2, vi r2), (0, rm 0), (1, rs a0)] [vi (slen a0), vi (r1.1.1 0 20), rm 0] (Y, (r1.1, T)) _
    refine go_goto (off := 4) (tgt := 27) (by decide +kernel) (by decide) ?_
    obtain rfl := Option.some.inj h
    refine go_pick [0] rfl ?_
    exact key
def f11_entry (S : jS) (a0 : Int32) (a1 : Int32) : Option (jS × Unit) := (if (S.1 0 21) = 0 then (if inb ((300 * (S.1 0 22)) + (S.1 0 24)) 1800 then (if inb ((300 * ((wI S 30 ((300 * (S.1 0 22)) + (S.1 0 24)).toNatClampNeg a0).1 0 22)) + ((wI S 30 ((300 * (S.1 0 22)) + (S.1 0 24)).toNatClampNeg a0).1 0 24)) 1800 then some (wI (wI (wI S 30 ((300 * (S.1 0 22)) + (S.1 0 24)).toNatClampNeg a0) 31 ((300 * ((wI S 30 ((300 * (S.1 0 22)) + (S.1 0 24)).toNatClampNeg a0).1 0 22)) + ((wI S 30 ((300 * (S.1 0 22)) + (S.1 0 24)).toNatClampNeg a0).1 0 24)).toNatClampNeg a1) 0 24 (((wI (wI S 30 ((300 * (S.1 0 22)) + (S.1 0 24)).toNatClampNeg a0) 31 ((300 * ((wI S 30 ((300 * (S.1 0 22)) + (S.1 0 24)).toNatClampNeg a0).1 0 22)) + ((wI S 30 ((300 * (S.1 0 22)) + (S.1 0 24)).toNatClampNeg a0).1 0 24)).toNatClampNeg a1).1 0 24) + 1), ()) else none) else none) else some (S, ()))
theorem ret11_entry {S : jS} {T : jT} {Y : jS × jT} {a0 : Int32} {a1 : Int32} {S1 : jS} {x : Unit} (hT : LayM T) (h : f11_entry S a0 a1 = some (S1, x)) : Ret M11_entry 1 0 0 [rm 0, vi a0, vi a1] (Y, (S, T)) (none) (Y, (S1, T)) := by
  refine Ret.of (by decide +kernel) (Nat.le_of_ble_eq_true rfl) ?_
  unfold f11_entry at h
  show Go _ _ _ _ _ _ 0 [(0, rm 0), (1, vi a0), (2, vi a1)] [] (Y, (S, T)) _
  refine go_blk rfl [(.aload_n 0, 1, 0, 0, 0, .inl 0), (.getfield 178, 3, 11, 21, 0, .inl 0)] 0 4 _ _ _ (by decide +kernel) ?_
  refine And.intro (lm_t0 hT) ?_
  show Go _ _ _ _ _ _ 4 [(0, rm 0), (1, vi a0), (2, vi a1)] [vi (S.1 0 21)] (Y, (S, T)) _
  refine ite_el h (fun q1 h => ?_) (fun q1 h => ?_)
  · refine go_if_ne (off := 51) (tgt := 55) (by decide +kernel) (by decide) (fun z => absurd q1 z) (fun _ => ?_)
    refine gd_el h (fun q2 h => ?_)
    refine go_blk rfl [(.aload_n 0, 1, 0, 0, 0, .inl 0), (.getfield 72, 3, 11, 30, 1, .inl 0), (.sipush 300, 3, 0, 0, 0, .inl 300), (.aload_n 0, 1, 0, 0, 0, .inl 0), (.getfield 208, 3, 11, 22, 0, .inl 0), (.imul, 1, 0, 0, 0, .inl 0), (.aload_n 0, 1, 0, 0, 0, .inl 0), (.getfield 211, 3, 11, 24, 0, .inl 0), (.iadd, 1, 0, 0, 0, .inl 0), (.iload_n 1, 1, 1, 0, 0, .inl 0), (.iastore, 1, 20, 0, 0, .inl 0)] 7 26 _ _ _ (by decide +kernel) ?_
    refine And.intro (lm_t0 hT) (Exists.intro _ (And.intro (gRm (lm_r30 hT)) ?_))
    refine And.intro (lm_t0 hT) ?_
    refine And.intro (lm_t0 hT) ?_
    refine And.intro (lm_t30 hT) (Exists.intro _ (And.intro (lm_n30 hT) (And.intro (inb_in q2) ?_)))
    show Go _ _ _ _ _ _ 26 [(0, rm 0), (1, vi a0), (2, vi a1)] [] (Y, (wI S 30 ((300 * (S.1 0 22)) + (S.1 0 24)).toNatClampNeg a0, T)) _
    refine gd_el h (fun q3 h => ?_)
    refine go_blk rfl [(.aload_n 0, 1, 0, 0, 0, .inl 0), (.getfield 75, 3, 11, 31, 1, .inl 0), (.sipush 300, 3, 0, 0, 0, .inl 300), (.aload_n 0, 1, 0, 0, 0, .inl 0), (.getfield 208, 3, 11, 22, 0, .inl 0), (.imul, 1, 0, 0, 0, .inl 0), (.aload_n 0, 1, 0, 0, 0, .inl 0), (.getfield 211, 3, 11, 24, 0, .inl 0), (.iadd, 1, 0, 0, 0, .inl 0), (.iload_n 2, 1, 2, 0, 0, .inl 0), (.iastore, 1, 20, 0, 0, .inl 0)] 26 45 _ _ _ (by decide +kernel) ?_
    refine And.intro (lm_t0 hT) (Exists.intro _ (And.intro (gRm (lm_r31 hT)) ?_))
    refine And.intro (lm_t0 hT) ?_
    refine And.intro (lm_t0 hT) ?_
    refine And.intro (lm_t31 hT) (Exists.intro _ (And.intro (lm_n31 hT) (And.intro (inb_in q3) ?_)))
    show Go _ _ _ _ _ _ 45 [(0, rm 0), (1, vi a0), (2, vi a1)] [] (Y, (wI (wI S 30 ((300 * (S.1 0 22)) + (S.1 0 24)).toNatClampNeg a0) 31 ((300 * ((wI S 30 ((300 * (S.1 0 22)) + (S.1 0 24)).toNatClampNeg a0).1 0 22)) + ((wI S 30 ((300 * (S.1 0 22)) + (S.1 0 24)).toNatClampNeg a0).1 0 24)).toNatClampNeg a1, T)) _
    refine go_blk rfl [(.aload_n 0, 1, 0, 0, 0, .inl 0), (.dup, 1, 0, 0, 0, .inl 0), (.getfield 211, 3, 11, 24, 0, .inl 0), (.iconst 1, 1, 0, 0, 0, .inl 1), (.iadd, 1, 0, 0, 0, .inl 0), (.putfield 211, 3, 11, 24, 0, .inl 0)] 45 55 _ _ _ (by decide +kernel) ?_
    refine And.intro (lm_t0 hT) ?_
    refine And.intro (lm_t0 hT) (And.intro trivial ?_)
    show Go _ _ _ _ _ _ 55 [(0, rm 0), (1, vi a0), (2, vi a1)] [] (Y, (wI (wI (wI S 30 ((300 * (S.1 0 22)) + (S.1 0 24)).toNatClampNeg a0) 31 ((300 * ((wI S 30 ((300 * (S.1 0 22)) + (S.1 0 24)).toNatClampNeg a0).1 0 22)) + ((wI S 30 ((300 * (S.1 0 22)) + (S.1 0 24)).toNatClampNeg a0).1 0 24)).toNatClampNeg a1) 0 24 (((wI (wI S 30 ((300 * (S.1 0 22)) + (S.1 0 24)).toNatClampNeg a0) 31 ((300 * ((wI S 30 ((300 * (S.1 0 22)) + (S.1 0 24)).toNatClampNeg a0).1 0 22)) + ((wI S 30 ((300 * (S.1 0 22)) + (S.1 0 24)).toNatClampNeg a0).1 0 24)).toNatClampNeg a1).1 0 24) + 1), T)) _
    obtain ⟨rfl, rfl⟩ := Prod.mk.inj (Option.some.inj h)
    exact go_return (by decide +kernel) rfl ⟨rfl, rfl⟩
  · refine go_if_ne (off := 51) (tgt := 55) (by decide +kernel) (by decide) (fun _ => ?_) (fun z => absurd z q1)
    obtain ⟨rfl, rfl⟩ := Prod.mk.inj (Option.some.inj h)
    exact go_return (by decide +kernel) rfl ⟨rfl, rfl⟩
def f11_isCounted (S : jS) (a0 : Int32) : Option (jS × Unit) := Option.bind (if (S.1 0 26) = 60 then Option.bind (f11_fails S 3 a0) (fun r1 => some r1.1) else some S) (fun (y2 : jS) => some (wI y2 0 26 ((y2.1 0 26) + 1), ()))
theorem ret11_isCounted {S : jS} {T : jT} {Y : jS × jT} {a0 : Int32} {S1 : jS} {x : Unit} (hT : LayM T) (h : f11_isCounted S a0 = some (S1, x)) : Ret M11_isCounted 2 0 0 [rm 0, vi a0] (Y, (S, T)) (none) (Y, (S1, T)) := by
  refine Ret.of (by decide +kernel) (Nat.le_of_ble_eq_true rfl) ?_
  unfold f11_isCounted at h
  show Go _ _ _ _ _ _ 0 [(0, rm 0), (1, vi a0)] [] (Y, (S, T)) _
  refine go_blk rfl [(.aload_n 0, 1, 0, 0, 0, .inl 0), (.getfield 214, 3, 11, 26, 0, .inl 0), (.bipush 60, 2, 0, 0, 0, .inl 60)] 0 6 _ _ _ (by decide +kernel) ?_
  refine And.intro (lm_t0 hT) ?_
  show Go _ _ _ _ _ _ 6 [(0, rm 0), (1, vi a0)] [vi 60, vi (S.1 0 26)] (Y, (S, T)) _
  obtain ⟨y2, hy2, h⟩ := bind_el h
  have key : Go M11_isCounted 2 0 0 0 0 15 [(0, rm 0)] [] (Y, (y2, T)) (eqQ none (Y, (S1, T))) := by
    refine go_blk rfl [(.aload_n 0, 1, 0, 0, 0, .inl 0), (.dup, 1, 0, 0, 0, .inl 0), (.getfield 214, 3, 11, 26, 0, .inl 0), (.iconst 1, 1, 0, 0, 0, .inl 1), (.iadd, 1, 0, 0, 0, .inl 0), (.putfield 214, 3, 11, 26, 0, .inl 0)] 15 25 _ _ _ (by decide +kernel) ?_
    refine And.intro (lm_t0 hT) ?_
    refine And.intro (lm_t0 hT) (And.intro trivial ?_)
    show Go _ _ _ _ _ _ 25 [(0, rm 0)] [] (Y, (wI y2 0 26 ((y2.1 0 26) + 1), T)) _
    obtain ⟨rfl, rfl⟩ := Prod.mk.inj (Option.some.inj h)
    exact go_return (by decide +kernel) rfl ⟨rfl, rfl⟩
  replace h := hy2
  refine ite_el h (fun q1 h => ?_) (fun q1 h => ?_)
  · refine go_icmp_ne (off := 9) (tgt := 15) (by decide +kernel) (by decide) (fun z => absurd q1 z) (fun _ => ?_)
    refine go_blk rfl [(.aload_n 0, 1, 0, 0, 0, .inl 0), (.iconst 3, 1, 0, 0, 0, .inl 3), (.iload_n 1, 1, 1, 0, 0, .inl 0)] 9 12 _ _ _ (by decide +kernel) ?_
    show Go _ _ _ _ _ _ 12 [(0, rm 0), (1, vi a0)] [vi a0, vi 3, rm 0] (Y, (S, T)) _
    obtain ⟨r1, hr1, h⟩ := bind_el h
    refine go_callV (idx := 217) (z := 0) (M' := M11_fails) (n := 2) (A := [vi 3, vi a0]) (v' := none) (μ' := (Y, (r1.1, T))) (d' := 1) (mc' := 0) (ms' := 0) (kc' := 0) (ks' := 0) (ci := 11) (x := .inr (.inl 0)) (by decide +kernel) ml_11_217 rfl wv11_fails rfl (by decide) rfl (lm_t0 hT) (ret11_fails hT hr1) (by decide) rfl rfl (Nat.le_of_ble_eq_true rfl) rfl (jag rfl rfl) ?_
    show Go _ _ _ _ _ _ 15 [(0, rm 0), (1, vi a0)] [] (Y, (r1.1, T)) _
    obtain rfl := Option.some.inj h
    refine go_pick [0] rfl ?_
    exact key
  · refine go_icmp_ne (off := 9) (tgt := 15) (by decide +kernel) (by decide) (fun _ => ?_) (fun z => absurd z q1)
    obtain rfl := Option.some.inj h
    refine go_pick [0] rfl ?_
    exact key
def f11_digits_L1 (l1 : Int32) (l2 : Int32) : Nat → jS → Int32 → Option (jS × Int32)
  | 0, _, _ => none
  | n + 1, S, l3 => Option.bind (f11_isDigit S) (fun r3 => (if r3 = 0 then some (S, l3) else Option.bind (if 5 ≤ ((S.1 0 20) - l2) then some l3 else Option.bind (f11_sign S) (fun r4 => some (((10 * l3) + r4) - 48))) (fun (y5 : Int32) => f11_digits_L1 l1 l2 n (wI S 0 20 ((S.1 0 20) + 1)) y5)))
def f11_digits (S : jS) (a0 : Int32) : Option (jS × Int32) := Option.bind (f11_isDigit S) (fun r1 => (if r1 = 0 then Option.bind (f11_fails S 0 (S.1 0 20)) (fun r2 => some (r2.1, 0)) else Option.bind (f11_digits_L1 a0 (S.1 0 20) jF S 0) (fun y6 => Option.bind (if 5 < ((y6.1.1 0 20) - (S.1 0 20)) then Option.bind (f11_fails y6.1 1 (S.1 0 20)) (fun r7 => some r7.1) else (if y6.2 ≤ a0 then some y6.1 else Option.bind (f11_fails y6.1 1 (S.1 0 20)) (fun r8 => some r8.1))) (fun (y9 : jS) => some (y9, y6.2)))))
theorem f11_digits_L1_ok {T : jT} {Y : jS × jT} {l1 : Int32} {l2 : Int32} {Q : Option jV → jMem → Prop} (hT : LayM T) : ∀ (n : Nat) (S : jS) (l3 : Int32) (r : (jS × Int32)), f11_digits_L1 l1 l2 n S l3 = some r → Go M11_digits 3 0 0 0 0 72 [(0, rm 0), (1, vi l1), (2, vi l2), (3, vi r.2)] [] (Y, (r.1, T)) Q → Go M11_digits 3 0 0 0 0 25 [(0, rm 0), (1, vi l1), (2, vi l2), (3, vi l3)] [] (Y, (S, T)) Q := by
  intro n
  induction n with
  | zero => intro S l3 r h k; exact absurd h (by intro z; cases z)
  | succ n ih =>
    intro S l3 r h k
    rw [f11_digits_L1] at h
    refine go_blk rfl [(.aload_n 0, 1, 0, 0, 0, .inl 0)] 25 26 _ _ _ (by decide +kernel) ?_
    show Go _ _ _ _ _ _ 26 [(0, rm 0), (1, vi l1), (2, vi l2), (3, vi l3)] [rm 0] (Y, (S, T)) _
    obtain ⟨r3, hr3, h⟩ := bind_el h
    refine go_callV (idx := 221) (z := 0) (M' := M11_isDigit) (n := 0) (A := []) (v' := some (vi r3)) (μ' := (Y, (S, T))) (d' := 2) (mc' := 0) (ms' := 0) (kc' := 0) (ks' := 0) (ci := 11) (x := .inr (.inl 0)) (by decide +kernel) ml_11_221 rfl wv11_isDigit rfl (by decide) rfl (lm_t0 hT) (ret11_isDigit hT hr3) (by decide) rfl rfl (Nat.le_of_ble_eq_true rfl) rfl (jag rfl rfl) ?_
    show Go _ _ _ _ _ _ 29 [(0, rm 0), (1, vi l1), (2, vi l2), (3, vi l3)] [vi r3] (Y, (S, T)) _
    refine ite_el h (fun q2 h => ?_) (fun q2 h => ?_)
    · refine go_if_eq (off := 43) (tgt := 72) (by decide +kernel) (by decide) (fun _ => ?_) (fun z => absurd q2 z)
      obtain rfl := Option.some.inj h
      refine go_pick [0, 1, 2, 3] rfl ?_
      exact k
    · refine go_if_eq (off := 43) (tgt := 72) (by decide +kernel) (by decide) (fun z => absurd z q2) (fun _ => ?_)
      refine go_blk rfl [(.aload_n 0, 1, 0, 0, 0, .inl 0), (.getfield 181, 3, 11, 20, 0, .inl 0), (.iload_n 2, 1, 2, 0, 0, .inl 0), (.isub, 1, 0, 0, 0, .inl 0), (.iconst 5, 1, 0, 0, 0, .inl 5)] 32 39 _ _ _ (by decide +kernel) ?_
      refine And.intro (lm_t0 hT) ?_
      show Go _ _ _ _ _ _ 39 [(0, rm 0), (1, vi l1), (2, vi l2), (3, vi l3)] [vi 5, vi ((S.1 0 20) - l2)] (Y, (S, T)) _
      obtain ⟨y5, hy5, h⟩ := bind_el h
      have key : Go M11_digits 3 0 0 0 0 58 [(0, rm 0), (1, vi l1), (2, vi l2)] [vi y5] (Y, (S, T)) Q := by
        refine go_blk rfl [(.istore_n 3, 1, 3, 0, 0, .inl 0), (.aload_n 0, 1, 0, 0, 0, .inl 0), (.dup, 1, 0, 0, 0, .inl 0), (.getfield 181, 3, 11, 20, 0, .inl 0), (.iconst 1, 1, 0, 0, 0, .inl 1), (.iadd, 1, 0, 0, 0, .inl 0), (.putfield 181, 3, 11, 20, 0, .inl 0)] 58 69 _ _ _ (by decide +kernel) ?_
        refine And.intro (lm_t0 hT) ?_
        refine And.intro (lm_t0 hT) (And.intro trivial ?_)
        show Go _ _ _ _ _ _ 69 [(3, vi y5), (0, rm 0), (1, vi l1), (2, vi l2)] [] (Y, (wI S 0 20 ((S.1 0 20) + 1), T)) _
        refine go_goto (off := (-44)) (tgt := 25) (by decide +kernel) (by decide) ?_
        refine go_pick [1, 2, 3, 0] rfl ?_
        exact ih _ _ _ h k
      replace h := hy5
      refine ite_el h (fun q3 h => ?_) (fun q3 h => ?_)
      · refine go_icmp_ge (off := 18) (tgt := 57) (by decide +kernel) (by decide) (fun _ => ?_) (fun z => absurd q3 z)
        refine go_blk rfl [(.iload_n 3, 1, 3, 0, 0, .inl 0)] 57 58 _ _ _ (by decide +kernel) ?_
        show Go _ _ _ _ _ _ 58 [(0, rm 0), (1, vi l1), (2, vi l2), (3, vi l3)] [vi l3] (Y, (S, T)) _
        obtain rfl := Option.some.inj h
        refine go_pick [0, 1, 2] rfl ?_
        exact key
      · refine go_icmp_ge (off := 18) (tgt := 57) (by decide +kernel) (by decide) (fun z => absurd z q3) (fun _ => ?_)
        refine go_blk rfl [(.bipush 10, 2, 0, 0, 0, .inl 10), (.iload_n 3, 1, 3, 0, 0, .inl 0), (.imul, 1, 0, 0, 0, .inl 0), (.aload_n 0, 1, 0, 0, 0, .inl 0)] 42 47 _ _ _ (by decide +kernel) ?_
        show Go _ _ _ _ _ _ 47 [(0, rm 0), (1, vi l1), (2, vi l2), (3, vi l3)] [rm 0, vi (10 * l3)] (Y, (S, T)) _
        obtain ⟨r4, hr4, h⟩ := bind_el h
        refine go_callV (idx := 184) (z := 0) (M' := M11_sign) (n := 0) (A := []) (v' := some (vi r4)) (μ' := (Y, (S, T))) (d' := 1) (mc' := 0) (ms' := 0) (kc' := 0) (ks' := 0) (ci := 11) (x := .inr (.inl 0)) (by decide +kernel) ml_11_184 rfl wv11_sign rfl (by decide) rfl (lm_t0 hT) (ret11_sign hT hr4) (by decide) rfl rfl (Nat.le_of_ble_eq_true rfl) rfl (jag rfl rfl) ?_
        show Go _ _ _ _ _ _ 50 [(0, rm 0), (1, vi l1), (2, vi l2), (3, vi l3)] [vi r4, vi (10 * l3)] (Y, (S, T)) _
        refine go_blk rfl [(.iadd, 1, 0, 0, 0, .inl 0), (.bipush 48, 2, 0, 0, 0, .inl 48), (.isub, 1, 0, 0, 0, .inl 0)] 50 54 _ _ _ (by decide +kernel) ?_
        show Go _ _ _ _ _ _ 54 [(0, rm 0), (1, vi l1), (2, vi l2), (3, vi l3)] [vi (((10 * l3) + r4) - 48)] (Y, (S, T)) _
        refine go_goto (off := 4) (tgt := 58) (by decide +kernel) (by decide) ?_
        obtain rfl := Option.some.inj h
        refine go_pick [0, 1, 2] rfl ?_
        exact key
theorem ret11_digits {S : jS} {T : jT} {Y : jS × jT} {a0 : Int32} {S1 : jS} {x : Int32} (hT : LayM T) (h : f11_digits S a0 = some (S1, x)) : Ret M11_digits 3 0 0 [rm 0, vi a0] (Y, (S, T)) (some (vi x)) (Y, (S1, T)) := by
  refine Ret.of (by decide +kernel) (Nat.le_of_ble_eq_true rfl) ?_
  unfold f11_digits at h
  show Go _ _ _ _ _ _ 0 [(0, rm 0), (1, vi a0)] [] (Y, (S, T)) _
  refine go_blk rfl [(.aload_n 0, 1, 0, 0, 0, .inl 0)] 0 1 _ _ _ (by decide +kernel) ?_
  show Go _ _ _ _ _ _ 1 [(0, rm 0), (1, vi a0)] [rm 0] (Y, (S, T)) _
  obtain ⟨r1, hr1, h⟩ := bind_el h
  refine go_callV (idx := 221) (z := 0) (M' := M11_isDigit) (n := 0) (A := []) (v' := some (vi r1)) (μ' := (Y, (S, T))) (d' := 2) (mc' := 0) (ms' := 0) (kc' := 0) (ks' := 0) (ci := 11) (x := .inr (.inl 0)) (by decide +kernel) ml_11_221 rfl wv11_isDigit rfl (by decide) rfl (lm_t0 hT) (ret11_isDigit hT hr1) (by decide) rfl rfl (Nat.le_of_ble_eq_true rfl) rfl (jag rfl rfl) ?_
  show Go _ _ _ _ _ _ 4 [(0, rm 0), (1, vi a0)] [vi r1] (Y, (S, T)) _
  refine ite_el h (fun q1 h => ?_) (fun q1 h => ?_)
  · refine go_if_ne (off := 14) (tgt := 18) (by decide +kernel) (by decide) (fun z => absurd q1 z) (fun _ => ?_)
    refine go_blk rfl [(.aload_n 0, 1, 0, 0, 0, .inl 0), (.iconst 0, 1, 0, 0, 0, .inl 0), (.aload_n 0, 1, 0, 0, 0, .inl 0), (.getfield 181, 3, 11, 20, 0, .inl 0)] 7 13 _ _ _ (by decide +kernel) ?_
    refine And.intro (lm_t0 hT) ?_
    show Go _ _ _ _ _ _ 13 [(0, rm 0), (1, vi a0)] [vi (S.1 0 20), vi 0, rm 0] (Y, (S, T)) _
    obtain ⟨r2, hr2, h⟩ := bind_el h
    refine go_callV (idx := 217) (z := 0) (M' := M11_fails) (n := 2) (A := [vi 0, vi (S.1 0 20)]) (v' := none) (μ' := (Y, (r2.1, T))) (d' := 1) (mc' := 0) (ms' := 0) (kc' := 0) (ks' := 0) (ci := 11) (x := .inr (.inl 0)) (by decide +kernel) ml_11_217 rfl wv11_fails rfl (by decide) rfl (lm_t0 hT) (ret11_fails hT hr2) (by decide) rfl rfl (Nat.le_of_ble_eq_true rfl) rfl (jag rfl rfl) ?_
    show Go _ _ _ _ _ _ 16 [(0, rm 0), (1, vi a0)] [] (Y, (r2.1, T)) _
    refine go_blk rfl [(.iconst 0, 1, 0, 0, 0, .inl 0)] 16 17 _ _ _ (by decide +kernel) ?_
    show Go _ _ _ _ _ _ 17 [(0, rm 0), (1, vi a0)] [vi 0] (Y, (r2.1, T)) _
    obtain ⟨rfl, rfl⟩ := Prod.mk.inj (Option.some.inj h)
    exact go_ireturn (by decide +kernel) rfl rfl ⟨rfl, rfl⟩
  · refine go_if_ne (off := 14) (tgt := 18) (by decide +kernel) (by decide) (fun _ => ?_) (fun z => absurd z q1)
    refine go_blk rfl [(.aload_n 0, 1, 0, 0, 0, .inl 0), (.getfield 181, 3, 11, 20, 0, .inl 0), (.istore_n 2, 1, 2, 0, 0, .inl 0), (.iconst 0, 1, 0, 0, 0, .inl 0), (.istore_n 3, 1, 3, 0, 0, .inl 0)] 18 25 _ _ _ (by decide +kernel) ?_
    refine And.intro (lm_t0 hT) ?_
    show Go _ _ _ _ _ _ 25 [(3, vi 0), (2, vi (S.1 0 20)), (0, rm 0), (1, vi a0)] [] (Y, (S, T)) _
    refine go_pick [2, 3, 1, 0] rfl ?_
    obtain ⟨y6, hy6, h⟩ := bind_el h
    refine f11_digits_L1_ok hT _ _ _ _ hy6 ?_
    show Go _ _ _ _ _ _ 72 [(0, rm 0), (1, vi a0), (2, vi (S.1 0 20)), (3, vi y6.2)] [] (Y, (y6.1, T)) _
    refine go_blk rfl [(.aload_n 0, 1, 0, 0, 0, .inl 0), (.getfield 181, 3, 11, 20, 0, .inl 0), (.iload_n 2, 1, 2, 0, 0, .inl 0), (.isub, 1, 0, 0, 0, .inl 0), (.iconst 5, 1, 0, 0, 0, .inl 5)] 72 79 _ _ _ (by decide +kernel) ?_
    refine And.intro (lm_t0 hT) ?_
    show Go _ _ _ _ _ _ 79 [(0, rm 0), (1, vi a0), (2, vi (S.1 0 20)), (3, vi y6.2)] [vi 5, vi ((y6.1.1 0 20) - (S.1 0 20))] (Y, (y6.1, T)) _
    obtain ⟨y9, hy9, h⟩ := bind_el h
    have key : Go M11_digits 3 0 0 0 0 93 [(3, vi y6.2)] [] (Y, (y9, T)) (eqQ (some (vi x)) (Y, (S1, T))) := by
      refine go_blk rfl [(.iload_n 3, 1, 3, 0, 0, .inl 0)] 93 94 _ _ _ (by decide +kernel) ?_
      show Go _ _ _ _ _ _ 94 [(3, vi y6.2)] [vi y6.2] (Y, (y9, T)) _
      obtain ⟨rfl, rfl⟩ := Prod.mk.inj (Option.some.inj h)
      exact go_ireturn (by decide +kernel) rfl rfl ⟨rfl, rfl⟩
    replace h := hy9
    refine ite_el h (fun q4 h => ?_) (fun q4 h => ?_)
    · refine go_icmp_gt (off := 8) (tgt := 87) (by decide +kernel) (by decide) (fun _ => ?_) (fun z => absurd q4 z)
      refine go_blk rfl [(.aload_n 0, 1, 0, 0, 0, .inl 0), (.iconst 1, 1, 0, 0, 0, .inl 1), (.iload_n 2, 1, 2, 0, 0, .inl 0)] 87 90 _ _ _ (by decide +kernel) ?_
      show Go _ _ _ _ _ _ 90 [(0, rm 0), (1, vi a0), (2, vi (S.1 0 20)), (3, vi y6.2)] [vi (S.1 0 20), vi 1, rm 0] (Y, (y6.1, T)) _
      obtain ⟨r7, hr7, h⟩ := bind_el h
      refine go_callV (idx := 217) (z := 0) (M' := M11_fails) (n := 2) (A := [vi 1, vi (S.1 0 20)]) (v' := none) (μ' := (Y, (r7.1, T))) (d' := 1) (mc' := 0) (ms' := 0) (kc' := 0) (ks' := 0) (ci := 11) (x := .inr (.inl 0)) (by decide +kernel) ml_11_217 rfl wv11_fails rfl (by decide) rfl (lm_t0 hT) (ret11_fails hT hr7) (by decide) rfl rfl (Nat.le_of_ble_eq_true rfl) rfl (jag rfl rfl) ?_
      show Go _ _ _ _ _ _ 93 [(0, rm 0), (1, vi a0), (2, vi (S.1 0 20)), (3, vi y6.2)] [] (Y, (r7.1, T)) _
      obtain rfl := Option.some.inj h
      refine go_pick [3] rfl ?_
      exact key
    · refine go_icmp_gt (off := 8) (tgt := 87) (by decide +kernel) (by decide) (fun z => absurd z q4) (fun _ => ?_)
      refine go_blk rfl [(.iload_n 3, 1, 3, 0, 0, .inl 0), (.iload_n 1, 1, 1, 0, 0, .inl 0)] 82 84 _ _ _ (by decide +kernel) ?_
      show Go _ _ _ _ _ _ 84 [(0, rm 0), (1, vi a0), (2, vi (S.1 0 20)), (3, vi y6.2)] [vi a0, vi y6.2] (Y, (y6.1, T)) _
      refine ite_el h (fun q5 h => ?_) (fun q5 h => ?_)
      · refine go_icmp_le (off := 9) (tgt := 93) (by decide +kernel) (by decide) (fun _ => ?_) (fun z => absurd q5 z)
        obtain rfl := Option.some.inj h
        refine go_pick [3] rfl ?_
        exact key
      · refine go_icmp_le (off := 9) (tgt := 93) (by decide +kernel) (by decide) (fun z => absurd z q5) (fun _ => ?_)
        refine go_blk rfl [(.aload_n 0, 1, 0, 0, 0, .inl 0), (.iconst 1, 1, 0, 0, 0, .inl 1), (.iload_n 2, 1, 2, 0, 0, .inl 0)] 87 90 _ _ _ (by decide +kernel) ?_
        show Go _ _ _ _ _ _ 90 [(0, rm 0), (1, vi a0), (2, vi (S.1 0 20)), (3, vi y6.2)] [vi (S.1 0 20), vi 1, rm 0] (Y, (y6.1, T)) _
        obtain ⟨r8, hr8, h⟩ := bind_el h
        refine go_callV (idx := 217) (z := 0) (M' := M11_fails) (n := 2) (A := [vi 1, vi (S.1 0 20)]) (v' := none) (μ' := (Y, (r8.1, T))) (d' := 1) (mc' := 0) (ms' := 0) (kc' := 0) (ks' := 0) (ci := 11) (x := .inr (.inl 0)) (by decide +kernel) ml_11_217 rfl wv11_fails rfl (by decide) rfl (lm_t0 hT) (ret11_fails hT hr8) (by decide) rfl rfl (Nat.le_of_ble_eq_true rfl) rfl (jag rfl rfl) ?_
        show Go _ _ _ _ _ _ 93 [(0, rm 0), (1, vi a0), (2, vi (S.1 0 20)), (3, vi y6.2)] [] (Y, (r8.1, T)) _
        obtain rfl := Option.some.inj h
        refine go_pick [3] rfl ?_
        exact key
