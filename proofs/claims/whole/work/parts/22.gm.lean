def f11_tour_L1 (S : jS) : Nat → Int32 → Option Int32
  | 0, _ => none
  | n + 1, l1 => Option.bind (f11_areAllBack S l1) (fun r2 => (if r2 = 0 then f11_tour_L1 S n (l1 + 1) else some l1))
def f11_tour (S : jS) : Option Int32 := Option.bind (f11_isParty S) (fun r1 => (if r1 = 0 then some ((-1)) else Option.bind (f11_tour_L1 S jF 1) (fun y3 => some y3)))
theorem f11_tour_L1_ok {T : jT} {Y : jS × jT} {S : jS} {Q : Option jV → jMem → Prop} (hT : LayM T) : ∀ (n : Nat) (l1 : Int32) (r : Int32), f11_tour_L1 S n l1 = some r → Go M11_tour 3 0 0 0 0 25 [(1, vi r)] [] (Y, (S, T)) Q → Go M11_tour 3 0 0 0 0 11 [(0, rm 0), (1, vi l1)] [] (Y, (S, T)) Q := by
  intro n
  induction n with
  | zero => intro l1 r h k; exact absurd h (by intro z; cases z)
  | succ n ih =>
    intro l1 r h k
    rw [f11_tour_L1] at h
    refine go_blk rfl [(.aload_n 0, 1, 0, 0, 0, .inl 0), (.iload_n 1, 1, 1, 0, 0, .inl 0)] 11 13 _ _ _ (by decide +kernel) ?_
    show Go _ _ _ _ _ _ 13 [(0, rm 0), (1, vi l1)] [vi l1, rm 0] (Y, (S, T)) _
    obtain ⟨r2, hr2, h⟩ := bind_el h
    refine go_callV (idx := 475) (z := 0) (M' := M11_areAllBack) (n := 1) (A := [vi l1]) (v' := some (vi r2)) (μ' := (Y, (S, T))) (d' := 2) (mc' := 0) (ms' := 0) (kc' := 0) (ks' := 0) (ci := 11) (x := .inr (.inl 0)) (by decide +kernel) ml_11_475 rfl wv11_areAllBack rfl (by decide) rfl (lm_t0 hT) (ret11_areAllBack hT hr2) (by decide) rfl rfl (Nat.le_of_ble_eq_true rfl) rfl (jag rfl rfl) ?_
    show Go _ _ _ _ _ _ 16 [(0, rm 0), (1, vi l1)] [vi r2] (Y, (S, T)) _
    refine ite_el h (fun q2 h => ?_) (fun q2 h => ?_)
    · refine go_if_ne (off := 9) (tgt := 25) (by decide +kernel) (by decide) (fun z => absurd q2 z) (fun _ => ?_)
      refine go_blk rfl [(.iinc 1 1, 3, 1, 0, 0, .inl 1)] 19 22 _ _ _ (by decide +kernel) ?_
      show Go _ _ _ _ _ _ 22 [(1, vi (l1 + 1)), (0, rm 0)] [] (Y, (S, T)) _
      refine go_goto (off := (-11)) (tgt := 11) (by decide +kernel) (by decide) ?_
      refine go_pick [1, 0] rfl ?_
      exact ih _ _ h k
    · refine go_if_ne (off := 9) (tgt := 25) (by decide +kernel) (by decide) (fun _ => ?_) (fun z => absurd z q2)
      obtain rfl := Option.some.inj h
      refine go_pick [1] rfl ?_
      exact k
theorem ret11_tour {S : jS} {T : jT} {Y : jS × jT} {x : Int32} (hT : LayM T) (h : f11_tour S = some x) : Ret M11_tour 3 0 0 [rm 0] (Y, (S, T)) (some (vi x)) (Y, (S, T)) := by
  refine Ret.of (by decide +kernel) (Nat.le_of_ble_eq_true rfl) ?_
  unfold f11_tour at h
  show Go _ _ _ _ _ _ 0 [(0, rm 0)] [] (Y, (S, T)) _
  refine go_blk rfl [(.aload_n 0, 1, 0, 0, 0, .inl 0)] 0 1 _ _ _ (by decide +kernel) ?_
  show Go _ _ _ _ _ _ 1 [(0, rm 0)] [rm 0] (Y, (S, T)) _
  obtain ⟨r1, hr1, h⟩ := bind_el h
  refine go_callV (idx := 420) (z := 0) (M' := M11_isParty) (n := 0) (A := []) (v' := some (vi r1)) (μ' := (Y, (S, T))) (d' := 1) (mc' := 0) (ms' := 0) (kc' := 0) (ks' := 0) (ci := 11) (x := .inr (.inl 0)) (by decide +kernel) ml_11_420 rfl wv11_isParty rfl (by decide) rfl (lm_t0 hT) (ret11_isParty hT hr1) (by decide) rfl rfl (Nat.le_of_ble_eq_true rfl) rfl (jag rfl rfl) ?_
  show Go _ _ _ _ _ _ 4 [(0, rm 0)] [vi r1] (Y, (S, T)) _
  refine ite_el h (fun q1 h => ?_) (fun q1 h => ?_)
  · refine go_if_ne (off := 5) (tgt := 9) (by decide +kernel) (by decide) (fun z => absurd q1 z) (fun _ => ?_)
    refine go_blk rfl [(.iconst (-1), 1, 0, 0, 0, .inl (-1))] 7 8 _ _ _ (by decide +kernel) ?_
    show Go _ _ _ _ _ _ 8 [(0, rm 0)] [vi ((-1))] (Y, (S, T)) _
    obtain rfl := Option.some.inj h
    exact go_ireturn (by decide +kernel) rfl rfl ⟨rfl, rfl⟩
  · refine go_if_ne (off := 5) (tgt := 9) (by decide +kernel) (by decide) (fun _ => ?_) (fun z => absurd z q1)
    refine go_blk rfl [(.iconst 1, 1, 0, 0, 0, .inl 1), (.istore_n 1, 1, 1, 0, 0, .inl 0)] 9 11 _ _ _ (by decide +kernel) ?_
    show Go _ _ _ _ _ _ 11 [(1, vi 1), (0, rm 0)] [] (Y, (S, T)) _
    refine go_pick [1, 0] rfl ?_
    obtain ⟨y3, hy3, h⟩ := bind_el h
    refine f11_tour_L1_ok hT _ _ _ hy3 ?_
    show Go _ _ _ _ _ _ 25 [(1, vi y3)] [] (Y, (S, T)) _
    refine go_blk rfl [(.iload_n 1, 1, 1, 0, 0, .inl 0)] 25 26 _ _ _ (by decide +kernel) ?_
    show Go _ _ _ _ _ _ 26 [(1, vi y3)] [vi y3] (Y, (S, T)) _
    obtain rfl := Option.some.inj h
    exact go_ireturn (by decide +kernel) rfl rfl ⟨rfl, rfl⟩
def f11_satIn_L1 (l1 : Int32) (l2 : Int32) : Nat → jS → Int32 → Int32 → Option (jS × Int32)
  | 0, _, _, _ => none
  | n + 1, S, l3, l4 => (if l2 ≤ l4 then some (S, l3) else Option.bind (f11_goes S) (fun r1 => Option.bind (f11_has r1.2 l1) (fun r2 => f11_satIn_L1 l1 l2 n r1.1 (l3 + (((if r2 = 0 then 0 else 1) : Int32))) (l4 + 1))))
def f11_satIn (S : jS) (a0 : Int32) (a1 : Int32) : Option (jS × Int32) := Option.bind (f11_satIn_L1 a0 a1 jF S 0 0) (fun y3 => Option.bind (f11_laysBack y3.1) (fun r4 => some (r4.1, y3.2)))
theorem f11_satIn_L1_ok {T : jT} {Y : jS × jT} {l1 : Int32} {l2 : Int32} {Q : Option jV → jMem → Prop} (hT : LayM T) : ∀ (n : Nat) (S : jS) (l3 : Int32) (l4 : Int32) (r : (jS × Int32)), f11_satIn_L1 l1 l2 n S l3 l4 = some r → Go M11_satIn 7 0 0 0 0 36 [(0, rm 0), (3, vi r.2)] [] (Y, (r.1, T)) Q → Go M11_satIn 7 0 0 0 0 5 [(0, rm 0), (1, vi l1), (2, vi l2), (3, vi l3), (4, vi l4)] [] (Y, (S, T)) Q := by
  intro n
  induction n with
  | zero => intro S l3 l4 r h k; exact absurd h (by intro z; cases z)
  | succ n ih =>
    intro S l3 l4 r h k
    rw [f11_satIn_L1] at h
    refine go_blk rfl [(.iload 4, 2, 4, 0, 0, .inl 0), (.iload_n 2, 1, 2, 0, 0, .inl 0)] 5 8 _ _ _ (by decide +kernel) ?_
    show Go _ _ _ _ _ _ 8 [(0, rm 0), (1, vi l1), (2, vi l2), (3, vi l3), (4, vi l4)] [vi l2, vi l4] (Y, (S, T)) _
    refine ite_el h (fun q1 h => ?_) (fun q1 h => ?_)
    · refine go_icmp_ge (off := 28) (tgt := 36) (by decide +kernel) (by decide) (fun _ => ?_) (fun z => absurd q1 z)
      obtain rfl := Option.some.inj h
      refine go_pick [0, 3] rfl ?_
      exact k
    · refine go_icmp_ge (off := 28) (tgt := 36) (by decide +kernel) (by decide) (fun z => absurd z q1) (fun _ => ?_)
      refine go_blk rfl [(.iload_n 3, 1, 3, 0, 0, .inl 0), (.aload_n 0, 1, 0, 0, 0, .inl 0)] 11 13 _ _ _ (by decide +kernel) ?_
      show Go _ _ _ _ _ _ 13 [(0, rm 0), (1, vi l1), (2, vi l2), (3, vi l3), (4, vi l4)] [rm 0, vi l3] (Y, (S, T)) _
      obtain ⟨r1, hr1, h⟩ := bind_el h
      refine go_callV (idx := 399) (z := 0) (M' := M11_goes) (n := 0) (A := []) (v' := some (vi r1.2)) (μ' := (Y, (r1.1, T))) (d' := 6) (mc' := 0) (ms' := 0) (kc' := 0) (ks' := 0) (ci := 11) (x := .inr (.inl 0)) (by decide +kernel) ml_11_399 rfl wv11_goes rfl (by decide) rfl (lm_t0 hT) (ret11_goes hT hr1) (by decide) rfl rfl (Nat.le_of_ble_eq_true rfl) rfl (jag rfl rfl) ?_
      show Go _ _ _ _ _ _ 16 [(0, rm 0), (1, vi l1), (2, vi l2), (3, vi l3), (4, vi l4)] [vi r1.2, vi l3] (Y, (r1.1, T)) _
      refine go_blk rfl [(.iload_n 1, 1, 1, 0, 0, .inl 0)] 16 17 _ _ _ (by decide +kernel) ?_
      show Go _ _ _ _ _ _ 17 [(0, rm 0), (1, vi l1), (2, vi l2), (3, vi l3), (4, vi l4)] [vi l1, vi r1.2, vi l3] (Y, (r1.1, T)) _
      obtain ⟨r2, hr2, h⟩ := bind_el h
      refine go_callS (idx := 148) (z := 0) (M' := M11_has) (n := 2) (A := [vi r1.2, vi l1]) (v' := some (vi r2)) (μ' := (Y, (r1.1, T))) (d' := 1) (mc' := 0) (ms' := 0) (kc' := 0) (ks' := 0) (by decide +kernel) ml_11_148 rfl ws11_has rfl (ret11_has hr2) (by decide) rfl rfl (Nat.le_of_ble_eq_true rfl) rfl (jag rfl rfl) ?_
      show Go _ _ _ _ _ _ 20 [(0, rm 0), (1, vi l1), (2, vi l2), (3, vi l3), (4, vi l4)] [vi r2, vi l3] (Y, (r1.1, T)) _
      have key : ∀ z0 : Int32, z0 = ((if r2 = 0 then 0 else 1) : Int32) → Go M11_satIn 7 0 0 0 0 28 [(0, rm 0), (1, vi l1), (2, vi l2), (4, vi l4)] [vi z0, vi l3] (Y, (r1.1, T)) Q := by
        intro z0 ez0
        subst ez0
        refine go_blk rfl [(.iadd, 1, 0, 0, 0, .inl 0), (.istore_n 3, 1, 3, 0, 0, .inl 0), (.iinc 4 1, 3, 4, 0, 0, .inl 1)] 28 33 _ _ _ (by decide +kernel) ?_
        show Go _ _ _ _ _ _ 33 [(4, vi (l4 + 1)), (3, vi (l3 + (((if r2 = 0 then 0 else 1) : Int32)))), (0, rm 0), (1, vi l1), (2, vi l2)] [] (Y, (r1.1, T)) _
        refine go_goto (off := (-28)) (tgt := 5) (by decide +kernel) (by decide) ?_
        refine go_pick [2, 3, 4, 1, 0] rfl ?_
        exact ih _ _ _ _ h k
      clear h
      by_cases q2 : r2 = 0
      · refine go_if_eq (off := 7) (tgt := 27) (by decide +kernel) (by decide) (fun _ => ?_) (fun z => absurd q2 z)
        refine go_blk rfl [(.iconst 0, 1, 0, 0, 0, .inl 0)] 27 28 _ _ _ (by decide +kernel) ?_
        show Go _ _ _ _ _ _ 28 [(0, rm 0), (1, vi l1), (2, vi l2), (3, vi l3), (4, vi l4)] [vi 0, vi l3] (Y, (r1.1, T)) _
        refine go_pick [0, 1, 2, 4] rfl ?_; exact key _ (by rw [if_pos q2])
      · refine go_if_eq (off := 7) (tgt := 27) (by decide +kernel) (by decide) (fun z => absurd z q2) (fun _ => ?_)
        refine go_blk rfl [(.iconst 1, 1, 0, 0, 0, .inl 1)] 23 24 _ _ _ (by decide +kernel) ?_
        show Go _ _ _ _ _ _ 24 [(0, rm 0), (1, vi l1), (2, vi l2), (3, vi l3), (4, vi l4)] [vi 1, vi l3] (Y, (r1.1, T)) _
        refine go_goto (off := 4) (tgt := 28) (by decide +kernel) (by decide) ?_
        refine go_pick [0, 1, 2, 4] rfl ?_; exact key _ (by rw [if_neg q2])
theorem ret11_satIn {S : jS} {T : jT} {Y : jS × jT} {a0 : Int32} {a1 : Int32} {S1 : jS} {x : Int32} (hT : LayM T) (h : f11_satIn S a0 a1 = some (S1, x)) : Ret M11_satIn 7 0 0 [rm 0, vi a0, vi a1] (Y, (S, T)) (some (vi x)) (Y, (S1, T)) := by
  refine Ret.of (by decide +kernel) (Nat.le_of_ble_eq_true rfl) ?_
  unfold f11_satIn at h
  show Go _ _ _ _ _ _ 0 [(0, rm 0), (1, vi a0), (2, vi a1)] [] (Y, (S, T)) _
  refine go_blk rfl [(.iconst 0, 1, 0, 0, 0, .inl 0), (.istore_n 3, 1, 3, 0, 0, .inl 0), (.iconst 0, 1, 0, 0, 0, .inl 0), (.istore 4, 2, 4, 0, 0, .inl 0)] 0 5 _ _ _ (by decide +kernel) ?_
  show Go _ _ _ _ _ _ 5 [(4, vi 0), (3, vi 0), (0, rm 0), (1, vi a0), (2, vi a1)] [] (Y, (S, T)) _
  refine go_pick [2, 3, 4, 1, 0] rfl ?_
  obtain ⟨y3, hy3, h⟩ := bind_el h
  refine f11_satIn_L1_ok hT _ _ _ _ _ hy3 ?_
  show Go _ _ _ _ _ _ 36 [(0, rm 0), (3, vi y3.2)] [] (Y, (y3.1, T)) _
  refine go_blk rfl [(.aload_n 0, 1, 0, 0, 0, .inl 0)] 36 37 _ _ _ (by decide +kernel) ?_
  show Go _ _ _ _ _ _ 37 [(0, rm 0), (3, vi y3.2)] [rm 0] (Y, (y3.1, T)) _
  obtain ⟨r4, hr4, h⟩ := bind_el h
  refine go_callV (idx := 444) (z := 0) (M' := M11_laysBack) (n := 0) (A := []) (v' := none) (μ' := (Y, (r4.1, T))) (d' := 3) (mc' := 0) (ms' := 0) (kc' := 0) (ks' := 0) (ci := 11) (x := .inr (.inl 0)) (by decide +kernel) ml_11_444 rfl wv11_laysBack rfl (by decide) rfl (lm_t0 hT) (ret11_laysBack hT hr4) (by decide) rfl rfl (Nat.le_of_ble_eq_true rfl) rfl (jag rfl rfl) ?_
  show Go _ _ _ _ _ _ 40 [(0, rm 0), (3, vi y3.2)] [] (Y, (r4.1, T)) _
  refine go_blk rfl [(.iload_n 3, 1, 3, 0, 0, .inl 0)] 40 41 _ _ _ (by decide +kernel) ?_
  show Go _ _ _ _ _ _ 41 [(0, rm 0), (3, vi y3.2)] [vi y3.2] (Y, (r4.1, T)) _
  obtain ⟨rfl, rfl⟩ := Prod.mk.inj (Option.some.inj h)
  exact go_ireturn (by decide +kernel) rfl rfl ⟨rfl, rfl⟩
def f11_away_L1 (l1 : Int32) (l2 : Int32) (l3 : Int32) (l6 : Int32) : Nat → jS → Int32 → Int32 → Int32 → Option (jS × Int32 × Int32)
  | 0, _, _, _, _ => none
  | n + 1, S, l4, l5, l7 => (if (S.1 1 1) ≤ l7 then some (S, l4, l5) else Option.bind (if l7 = ((-1)) then Option.bind (f11_satIn (wI S 1 7 (((if l7 = ((-1)) then l6 else (l6 &&& (((1 : Int32) <<< (l7 &&& 31)) ^^^ ((-1))))) : Int32))) l1 l2) (fun r5 => some (((if r5.2 ≤ l5 then l4 else l7) : Int32), ((if r5.2 ≤ l5 then l5 else r5.2) : Int32), r5.1)) else Option.bind (f11_has l6 l7) (fun r6 => (if r6 = 0 then some (l4, l5, S) else Option.bind (f11_satIn (wI S 1 7 (((if l7 = ((-1)) then l6 else (l6 &&& (((1 : Int32) <<< (l7 &&& 31)) ^^^ ((-1))))) : Int32))) l1 l2) (fun r7 => some (((if r7.2 ≤ l5 then l4 else l7) : Int32), ((if r7.2 ≤ l5 then l5 else r7.2) : Int32), r7.1))))) (fun (y8 : Int32 × Int32 × jS) => f11_away_L1 l1 l2 l3 l6 n y8.2.2 y8.1 y8.2.1 (l7 + 1)))
def f11_away (S : jS) (a0 : Int32) (a1 : Int32) (a2 : Int32) : Option (jS × Int32) := Option.bind (f11_isStill S a0) (fun r1 => (if r1 = 0 then some (S, (-2)) else Option.bind (f11_in a1.toInt64 1 20) (fun r2 => (if r2 = 0 then some (S, (-2)) else Option.bind (f11_in a2.toInt64 0 1) (fun r3 => (if r3 = 0 then some (S, (-2)) else Option.bind (f11_keepsAll S) (fun r4 => Option.bind (f11_away_L1 a0 a1 a2 (r4.1.1 1 7) jF r4.1 ((-1)) ((-1)) ((-1))) (fun y9 => (if a2 = 0 then some (y9.1, y9.2.1) else some (y9.1, y9.2.2))))))))))
theorem f11_away_L1_ok {T : jT} {Y : jS × jT} {l1 : Int32} {l2 : Int32} {l3 : Int32} {l6 : Int32} {Q : Option jV → jMem → Prop} (hT : LayM T) : ∀ (n : Nat) (S : jS) (l4 : Int32) (l5 : Int32) (l7 : Int32) (r : (jS × Int32 × Int32)), f11_away_L1 l1 l2 l3 l6 n S l4 l5 l7 = some r → Go M11_away 8 0 0 0 0 155 [(3, vi l3), (4, vi r.2.1), (5, vi r.2.2)] [] (Y, (r.1, T)) Q → Go M11_away 8 0 0 0 0 55 [(0, rm 0), (1, vi l1), (2, vi l2), (3, vi l3), (4, vi l4), (5, vi l5), (6, vi l6), (7, vi l7)] [] (Y, (S, T)) Q := by
  intro n
  induction n with
  | zero => intro S l4 l5 l7 r h k; exact absurd h (by intro z; cases z)
  | succ n ih =>
    intro S l4 l5 l7 r h k
    rw [f11_away_L1] at h
    refine go_blk rfl [(.iload 7, 2, 7, 0, 0, .inl 0), (.aload_n 0, 1, 0, 0, 0, .inl 0), (.getfield 9, 3, 11, 1, 1, .inl 0), (.iconst 1, 1, 0, 0, 0, .inl 1), (.iaload, 1, 20, 0, 0, .inl 0)] 55 63 _ _ _ (by decide +kernel) ?_
    refine And.intro (lm_t0 hT) (Exists.intro _ (And.intro (gRm (lm_r1 hT)) ?_))
    refine And.intro (lm_t1 hT) (Exists.intro _ (And.intro (lm_n1 hT) (And.intro (inb_in (by decide)) ?_)))
    show Go _ _ _ _ _ _ 63 [(0, rm 0), (1, vi l1), (2, vi l2), (3, vi l3), (4, vi l4), (5, vi l5), (6, vi l6), (7, vi l7)] [vi (S.1 1 1), vi l7] (Y, (S, T)) _
    refine ite_el h (fun q4 h => ?_) (fun q4 h => ?_)
    · refine go_icmp_ge (off := 92) (tgt := 155) (by decide +kernel) (by decide) (fun _ => ?_) (fun z => absurd q4 z)
      obtain rfl := Option.some.inj h
      refine go_pick [3, 4, 5] rfl ?_
      exact k
    · refine go_icmp_ge (off := 92) (tgt := 155) (by decide +kernel) (by decide) (fun z => absurd z q4) (fun _ => ?_)
      refine go_blk rfl [(.iload 7, 2, 7, 0, 0, .inl 0), (.iconst (-1), 1, 0, 0, 0, .inl (-1))] 66 69 _ _ _ (by decide +kernel) ?_
      show Go _ _ _ _ _ _ 69 [(0, rm 0), (1, vi l1), (2, vi l2), (3, vi l3), (4, vi l4), (5, vi l5), (6, vi l6), (7, vi l7)] [vi ((-1)), vi l7] (Y, (S, T)) _
      obtain ⟨y8, hy8, h⟩ := bind_el h
      have key : Go M11_away 8 0 0 0 0 149 [(0, rm 0), (1, vi l1), (2, vi l2), (3, vi l3), (4, vi y8.1), (5, vi y8.2.1), (6, vi l6), (7, vi l7)] [] (Y, (y8.2.2, T)) Q := by
        refine go_blk rfl [(.iinc 7 1, 3, 7, 0, 0, .inl 1)] 149 152 _ _ _ (by decide +kernel) ?_
        show Go _ _ _ _ _ _ 152 [(7, vi (l7 + 1)), (0, rm 0), (1, vi l1), (2, vi l2), (3, vi l3), (4, vi y8.1), (5, vi y8.2.1), (6, vi l6)] [] (Y, (y8.2.2, T)) _
        refine go_goto (off := (-97)) (tgt := 55) (by decide +kernel) (by decide) ?_
        refine go_pick [1, 2, 3, 4, 5, 6, 7, 0] rfl ?_
        exact ih _ _ _ _ _ h k
      replace h := hy8
      refine ite_el h (fun q5 h => ?_) (fun q5 h => ?_)
      · refine go_icmp_eq (off := 13) (tgt := 82) (by decide +kernel) (by decide) (fun _ => ?_) (fun z => absurd q5 z)
        refine go_blk rfl [(.aload_n 0, 1, 0, 0, 0, .inl 0), (.getfield 9, 3, 11, 1, 1, .inl 0), (.bipush 7, 2, 0, 0, 0, .inl 7), (.iload 7, 2, 7, 0, 0, .inl 0), (.iconst (-1), 1, 0, 0, 0, .inl (-1))] 82 91 _ _ _ (by decide +kernel) ?_
        refine And.intro (lm_t0 hT) (Exists.intro _ (And.intro (gRm (lm_r1 hT)) ?_))
        show Go _ _ _ _ _ _ 91 [(0, rm 0), (1, vi l1), (2, vi l2), (3, vi l3), (4, vi l4), (5, vi l5), (6, vi l6), (7, vi l7)] [vi ((-1)), vi l7, vi 7, rm 1] (Y, (S, T)) _
        have key : ∀ z0 : Int32, z0 = ((if l7 = ((-1)) then l6 else (l6 &&& (((1 : Int32) <<< (l7 &&& 31)) ^^^ ((-1))))) : Int32) → Go M11_away 8 0 0 0 0 108 [(0, rm 0), (1, vi l1), (2, vi l2), (3, vi l3), (4, vi l4), (5, vi l5), (6, vi l6), (7, vi l7)] [vi z0, vi 7, rm 1] (Y, (S, T)) Q := by
          intro z0 ez0
          subst ez0
          refine go_blk rfl [(.iastore, 1, 20, 0, 0, .inl 0)] 108 109 _ _ _ (by decide +kernel) ?_
          refine And.intro (lm_t1 hT) (Exists.intro _ (And.intro (lm_n1 hT) (And.intro (inb_in (by decide)) ?_)))
          show Go _ _ _ _ _ _ 109 [(0, rm 0), (1, vi l1), (2, vi l2), (3, vi l3), (4, vi l4), (5, vi l5), (6, vi l6), (7, vi l7)] [] (Y, (wI S 1 7 (((if l7 = ((-1)) then l6 else (l6 &&& (((1 : Int32) <<< (l7 &&& 31)) ^^^ ((-1))))) : Int32)), T)) _
          refine go_blk rfl [(.aload_n 0, 1, 0, 0, 0, .inl 0), (.iload_n 1, 1, 1, 0, 0, .inl 0), (.iload_n 2, 1, 2, 0, 0, .inl 0)] 109 112 _ _ _ (by decide +kernel) ?_
          show Go _ _ _ _ _ _ 112 [(0, rm 0), (1, vi l1), (2, vi l2), (3, vi l3), (4, vi l4), (5, vi l5), (6, vi l6), (7, vi l7)] [vi l2, vi l1, rm 0] (Y, (wI S 1 7 (((if l7 = ((-1)) then l6 else (l6 &&& (((1 : Int32) <<< (l7 &&& 31)) ^^^ ((-1))))) : Int32)), T)) _
          obtain ⟨r5, hr5, h⟩ := bind_el h
          refine go_callV (idx := 480) (z := 0) (M' := M11_satIn) (n := 2) (A := [vi l1, vi l2]) (v' := some (vi r5.2)) (μ' := (Y, (r5.1, T))) (d' := 7) (mc' := 0) (ms' := 0) (kc' := 0) (ks' := 0) (ci := 11) (x := .inr (.inl 0)) (by decide +kernel) ml_11_480 rfl wv11_satIn rfl (by decide) rfl (lm_t0 hT) (ret11_satIn hT hr5) (by decide) rfl rfl (Nat.le_of_ble_eq_true rfl) rfl (jag rfl rfl) ?_
          show Go _ _ _ _ _ _ 115 [(0, rm 0), (1, vi l1), (2, vi l2), (3, vi l3), (4, vi l4), (5, vi l5), (6, vi l6), (7, vi l7)] [vi r5.2] (Y, (r5.1, T)) _
          refine go_blk rfl [(.istore 8, 2, 8, 0, 0, .inl 0), (.iload 8, 2, 8, 0, 0, .inl 0), (.iload 5, 2, 5, 0, 0, .inl 0)] 115 121 _ _ _ (by decide +kernel) ?_
          show Go _ _ _ _ _ _ 121 [(8, vi r5.2), (0, rm 0), (1, vi l1), (2, vi l2), (3, vi l3), (4, vi l4), (5, vi l5), (6, vi l6), (7, vi l7)] [vi l5, vi r5.2] (Y, (r5.1, T)) _
          have key : ∀ z0 : Int32, z0 = ((if r5.2 ≤ l5 then l4 else l7) : Int32) → Go M11_away 8 0 0 0 0 131 [(0, rm 0), (1, vi l1), (2, vi l2), (3, vi l3), (5, vi l5), (6, vi l6), (7, vi l7), (8, vi r5.2)] [vi z0] (Y, (r5.1, T)) Q := by
            intro z0 ez0
            subst ez0
            refine go_blk rfl [(.istore 4, 2, 4, 0, 0, .inl 0), (.iload 8, 2, 8, 0, 0, .inl 0), (.iload 5, 2, 5, 0, 0, .inl 0)] 131 137 _ _ _ (by decide +kernel) ?_
            show Go _ _ _ _ _ _ 137 [(4, vi (((if r5.2 ≤ l5 then l4 else l7) : Int32))), (0, rm 0), (1, vi l1), (2, vi l2), (3, vi l3), (5, vi l5), (6, vi l6), (7, vi l7), (8, vi r5.2)] [vi l5, vi r5.2] (Y, (r5.1, T)) _
            have key : ∀ z0 : Int32, z0 = ((if r5.2 ≤ l5 then l5 else r5.2) : Int32) → Go M11_away 8 0 0 0 0 147 [(0, rm 0), (1, vi l1), (2, vi l2), (3, vi l3), (4, vi (((if r5.2 ≤ l5 then l4 else l7) : Int32))), (6, vi l6), (7, vi l7)] [vi z0] (Y, (r5.1, T)) Q := by
              intro z0 ez0
              subst ez0
              refine go_blk rfl [(.istore 5, 2, 5, 0, 0, .inl 0)] 147 149 _ _ _ (by decide +kernel) ?_
              show Go _ _ _ _ _ _ 149 [(5, vi (((if r5.2 ≤ l5 then l5 else r5.2) : Int32))), (0, rm 0), (1, vi l1), (2, vi l2), (3, vi l3), (4, vi (((if r5.2 ≤ l5 then l4 else l7) : Int32))), (6, vi l6), (7, vi l7)] [] (Y, (r5.1, T)) _
              obtain rfl := Option.some.inj h
              refine go_pick [1, 2, 3, 4, 5, 0, 6, 7] rfl ?_
              exact key
            clear h
            by_cases q8 : r5.2 ≤ l5
            · refine go_icmp_le (off := 8) (tgt := 145) (by decide +kernel) (by decide) (fun _ => ?_) (fun z => absurd q8 z)
              refine go_blk rfl [(.iload 5, 2, 5, 0, 0, .inl 0)] 145 147 _ _ _ (by decide +kernel) ?_
              show Go _ _ _ _ _ _ 147 [(4, vi (((if r5.2 ≤ l5 then l4 else l7) : Int32))), (0, rm 0), (1, vi l1), (2, vi l2), (3, vi l3), (5, vi l5), (6, vi l6), (7, vi l7), (8, vi r5.2)] [vi l5] (Y, (r5.1, T)) _
              refine go_pick [1, 2, 3, 4, 0, 6, 7] rfl ?_; exact key _ (by rw [if_pos q8])
            · refine go_icmp_le (off := 8) (tgt := 145) (by decide +kernel) (by decide) (fun z => absurd z q8) (fun _ => ?_)
              refine go_blk rfl [(.iload 8, 2, 8, 0, 0, .inl 0)] 140 142 _ _ _ (by decide +kernel) ?_
              show Go _ _ _ _ _ _ 142 [(4, vi (((if r5.2 ≤ l5 then l4 else l7) : Int32))), (0, rm 0), (1, vi l1), (2, vi l2), (3, vi l3), (5, vi l5), (6, vi l6), (7, vi l7), (8, vi r5.2)] [vi r5.2] (Y, (r5.1, T)) _
              refine go_goto (off := 5) (tgt := 147) (by decide +kernel) (by decide) ?_
              refine go_pick [1, 2, 3, 4, 0, 6, 7] rfl ?_; exact key _ (by rw [if_neg q8])
          clear h
          by_cases q7 : r5.2 ≤ l5
          · refine go_icmp_le (off := 8) (tgt := 129) (by decide +kernel) (by decide) (fun _ => ?_) (fun z => absurd q7 z)
            refine go_blk rfl [(.iload 4, 2, 4, 0, 0, .inl 0)] 129 131 _ _ _ (by decide +kernel) ?_
            show Go _ _ _ _ _ _ 131 [(8, vi r5.2), (0, rm 0), (1, vi l1), (2, vi l2), (3, vi l3), (4, vi l4), (5, vi l5), (6, vi l6), (7, vi l7)] [vi l4] (Y, (r5.1, T)) _
            refine go_pick [1, 2, 3, 4, 6, 7, 8, 0] rfl ?_; exact key _ (by rw [if_pos q7])
          · refine go_icmp_le (off := 8) (tgt := 129) (by decide +kernel) (by decide) (fun z => absurd z q7) (fun _ => ?_)
            refine go_blk rfl [(.iload 7, 2, 7, 0, 0, .inl 0)] 124 126 _ _ _ (by decide +kernel) ?_
            show Go _ _ _ _ _ _ 126 [(8, vi r5.2), (0, rm 0), (1, vi l1), (2, vi l2), (3, vi l3), (4, vi l4), (5, vi l5), (6, vi l6), (7, vi l7)] [vi l7] (Y, (r5.1, T)) _
            refine go_goto (off := 5) (tgt := 131) (by decide +kernel) (by decide) ?_
            refine go_pick [1, 2, 3, 4, 6, 7, 8, 0] rfl ?_; exact key _ (by rw [if_neg q7])
        clear h
        by_cases q6 : l7 = ((-1))
        · refine go_icmp_ne (off := 8) (tgt := 99) (by decide +kernel) (by decide) (fun z => absurd q6 z) (fun _ => ?_)
          refine go_blk rfl [(.iload 6, 2, 6, 0, 0, .inl 0)] 94 96 _ _ _ (by decide +kernel) ?_
          show Go _ _ _ _ _ _ 96 [(0, rm 0), (1, vi l1), (2, vi l2), (3, vi l3), (4, vi l4), (5, vi l5), (6, vi l6), (7, vi l7)] [vi l6, vi 7, rm 1] (Y, (S, T)) _
          refine go_goto (off := 12) (tgt := 108) (by decide +kernel) (by decide) ?_
          refine go_pick [0, 1, 2, 3, 4, 5, 6, 7] rfl ?_; exact key _ (by rw [if_pos q6])
        · refine go_icmp_ne (off := 8) (tgt := 99) (by decide +kernel) (by decide) (fun _ => ?_) (fun z => absurd z q6)
          refine go_blk rfl [(.iload 6, 2, 6, 0, 0, .inl 0), (.iconst 1, 1, 0, 0, 0, .inl 1), (.iload 7, 2, 7, 0, 0, .inl 0), (.ishl, 1, 0, 0, 0, .inl 0), (.iconst (-1), 1, 0, 0, 0, .inl (-1)), (.ixor, 1, 0, 0, 0, .inl 0), (.iand, 1, 0, 0, 0, .inl 0)] 99 108 _ _ _ (by decide +kernel) ?_
          show Go _ _ _ _ _ _ 108 [(0, rm 0), (1, vi l1), (2, vi l2), (3, vi l3), (4, vi l4), (5, vi l5), (6, vi l6), (7, vi l7)] [vi (l6 &&& (((1 : Int32) <<< (l7 &&& 31)) ^^^ ((-1)))), vi 7, rm 1] (Y, (S, T)) _
          refine go_pick [0, 1, 2, 3, 4, 5, 6, 7] rfl ?_; exact key _ (by rw [if_neg q6])
      · refine go_icmp_eq (off := 13) (tgt := 82) (by decide +kernel) (by decide) (fun z => absurd z q5) (fun _ => ?_)
        refine go_blk rfl [(.iload 6, 2, 6, 0, 0, .inl 0), (.iload 7, 2, 7, 0, 0, .inl 0)] 72 76 _ _ _ (by decide +kernel) ?_
        show Go _ _ _ _ _ _ 76 [(0, rm 0), (1, vi l1), (2, vi l2), (3, vi l3), (4, vi l4), (5, vi l5), (6, vi l6), (7, vi l7)] [vi l7, vi l6] (Y, (S, T)) _
        obtain ⟨r6, hr6, h⟩ := bind_el h
        refine go_callS (idx := 148) (z := 0) (M' := M11_has) (n := 2) (A := [vi l6, vi l7]) (v' := some (vi r6)) (μ' := (Y, (S, T))) (d' := 1) (mc' := 0) (ms' := 0) (kc' := 0) (ks' := 0) (by decide +kernel) ml_11_148 rfl ws11_has rfl (ret11_has hr6) (by decide) rfl rfl (Nat.le_of_ble_eq_true rfl) rfl (jag rfl rfl) ?_
        show Go _ _ _ _ _ _ 79 [(0, rm 0), (1, vi l1), (2, vi l2), (3, vi l3), (4, vi l4), (5, vi l5), (6, vi l6), (7, vi l7)] [vi r6] (Y, (S, T)) _
        refine ite_el h (fun q9 h => ?_) (fun q9 h => ?_)
        · refine go_if_eq (off := 70) (tgt := 149) (by decide +kernel) (by decide) (fun _ => ?_) (fun z => absurd q9 z)
          obtain rfl := Option.some.inj h
          refine go_pick [0, 1, 2, 3, 4, 5, 6, 7] rfl ?_
          exact key
        · refine go_if_eq (off := 70) (tgt := 149) (by decide +kernel) (by decide) (fun z => absurd z q9) (fun _ => ?_)
          refine go_blk rfl [(.aload_n 0, 1, 0, 0, 0, .inl 0), (.getfield 9, 3, 11, 1, 1, .inl 0), (.bipush 7, 2, 0, 0, 0, .inl 7), (.iload 7, 2, 7, 0, 0, .inl 0), (.iconst (-1), 1, 0, 0, 0, .inl (-1))] 82 91 _ _ _ (by decide +kernel) ?_
          refine And.intro (lm_t0 hT) (Exists.intro _ (And.intro (gRm (lm_r1 hT)) ?_))
          show Go _ _ _ _ _ _ 91 [(0, rm 0), (1, vi l1), (2, vi l2), (3, vi l3), (4, vi l4), (5, vi l5), (6, vi l6), (7, vi l7)] [vi ((-1)), vi l7, vi 7, rm 1] (Y, (S, T)) _
          have key : ∀ z0 : Int32, z0 = ((if l7 = ((-1)) then l6 else (l6 &&& (((1 : Int32) <<< (l7 &&& 31)) ^^^ ((-1))))) : Int32) → Go M11_away 8 0 0 0 0 108 [(0, rm 0), (1, vi l1), (2, vi l2), (3, vi l3), (4, vi l4), (5, vi l5), (6, vi l6), (7, vi l7)] [vi z0, vi 7, rm 1] (Y, (S, T)) Q := by
            intro z0 ez0
            subst ez0
            refine go_blk rfl [(.iastore, 1, 20, 0, 0, .inl 0)] 108 109 _ _ _ (by decide +kernel) ?_
            refine And.intro (lm_t1 hT) (Exists.intro _ (And.intro (lm_n1 hT) (And.intro (inb_in (by decide)) ?_)))
            show Go _ _ _ _ _ _ 109 [(0, rm 0), (1, vi l1), (2, vi l2), (3, vi l3), (4, vi l4), (5, vi l5), (6, vi l6), (7, vi l7)] [] (Y, (wI S 1 7 (((if l7 = ((-1)) then l6 else (l6 &&& (((1 : Int32) <<< (l7 &&& 31)) ^^^ ((-1))))) : Int32)), T)) _
            refine go_blk rfl [(.aload_n 0, 1, 0, 0, 0, .inl 0), (.iload_n 1, 1, 1, 0, 0, .inl 0), (.iload_n 2, 1, 2, 0, 0, .inl 0)] 109 112 _ _ _ (by decide +kernel) ?_
            show Go _ _ _ _ _ _ 112 [(0, rm 0), (1, vi l1), (2, vi l2), (3, vi l3), (4, vi l4), (5, vi l5), (6, vi l6), (7, vi l7)] [vi l2, vi l1, rm 0] (Y, (wI S 1 7 (((if l7 = ((-1)) then l6 else (l6 &&& (((1 : Int32) <<< (l7 &&& 31)) ^^^ ((-1))))) : Int32)), T)) _
            obtain ⟨r7, hr7, h⟩ := bind_el h
            refine go_callV (idx := 480) (z := 0) (M' := M11_satIn) (n := 2) (A := [vi l1, vi l2]) (v' := some (vi r7.2)) (μ' := (Y, (r7.1, T))) (d' := 7) (mc' := 0) (ms' := 0) (kc' := 0) (ks' := 0) (ci := 11) (x := .inr (.inl 0)) (by decide +kernel) ml_11_480 rfl wv11_satIn rfl (by decide) rfl (lm_t0 hT) (ret11_satIn hT hr7) (by decide) rfl rfl (Nat.le_of_ble_eq_true rfl) rfl (jag rfl rfl) ?_
            show Go _ _ _ _ _ _ 115 [(0, rm 0), (1, vi l1), (2, vi l2), (3, vi l3), (4, vi l4), (5, vi l5), (6, vi l6), (7, vi l7)] [vi r7.2] (Y, (r7.1, T)) _
            refine go_blk rfl [(.istore 8, 2, 8, 0, 0, .inl 0), (.iload 8, 2, 8, 0, 0, .inl 0), (.iload 5, 2, 5, 0, 0, .inl 0)] 115 121 _ _ _ (by decide +kernel) ?_
            show Go _ _ _ _ _ _ 121 [(8, vi r7.2), (0, rm 0), (1, vi l1), (2, vi l2), (3, vi l3), (4, vi l4), (5, vi l5), (6, vi l6), (7, vi l7)] [vi l5, vi r7.2] (Y, (r7.1, T)) _
            have key : ∀ z0 : Int32, z0 = ((if r7.2 ≤ l5 then l4 else l7) : Int32) → Go M11_away 8 0 0 0 0 131 [(0, rm 0), (1, vi l1), (2, vi l2), (3, vi l3), (5, vi l5), (6, vi l6), (7, vi l7), (8, vi r7.2)] [vi z0] (Y, (r7.1, T)) Q := by
              intro z0 ez0
              subst ez0
              refine go_blk rfl [(.istore 4, 2, 4, 0, 0, .inl 0), (.iload 8, 2, 8, 0, 0, .inl 0), (.iload 5, 2, 5, 0, 0, .inl 0)] 131 137 _ _ _ (by decide +kernel) ?_
              show Go _ _ _ _ _ _ 137 [(4, vi (((if r7.2 ≤ l5 then l4 else l7) : Int32))), (0, rm 0), (1, vi l1), (2, vi l2), (3, vi l3), (5, vi l5), (6, vi l6), (7, vi l7), (8, vi r7.2)] [vi l5, vi r7.2] (Y, (r7.1, T)) _
              have key : ∀ z0 : Int32, z0 = ((if r7.2 ≤ l5 then l5 else r7.2) : Int32) → Go M11_away 8 0 0 0 0 147 [(0, rm 0), (1, vi l1), (2, vi l2), (3, vi l3), (4, vi (((if r7.2 ≤ l5 then l4 else l7) : Int32))), (6, vi l6), (7, vi l7)] [vi z0] (Y, (r7.1, T)) Q := by
                intro z0 ez0
                subst ez0
                refine go_blk rfl [(.istore 5, 2, 5, 0, 0, .inl 0)] 147 149 _ _ _ (by decide +kernel) ?_
                show Go _ _ _ _ _ _ 149 [(5, vi (((if r7.2 ≤ l5 then l5 else r7.2) : Int32))), (0, rm 0), (1, vi l1), (2, vi l2), (3, vi l3), (4, vi (((if r7.2 ≤ l5 then l4 else l7) : Int32))), (6, vi l6), (7, vi l7)] [] (Y, (r7.1, T)) _
                obtain rfl := Option.some.inj h
                refine go_pick [1, 2, 3, 4, 5, 0, 6, 7] rfl ?_
                exact key
              clear h
              by_cases q12 : r7.2 ≤ l5
              · refine go_icmp_le (off := 8) (tgt := 145) (by decide +kernel) (by decide) (fun _ => ?_) (fun z => absurd q12 z)
                refine go_blk rfl [(.iload 5, 2, 5, 0, 0, .inl 0)] 145 147 _ _ _ (by decide +kernel) ?_
                show Go _ _ _ _ _ _ 147 [(4, vi (((if r7.2 ≤ l5 then l4 else l7) : Int32))), (0, rm 0), (1, vi l1), (2, vi l2), (3, vi l3), (5, vi l5), (6, vi l6), (7, vi l7), (8, vi r7.2)] [vi l5] (Y, (r7.1, T)) _
                refine go_pick [1, 2, 3, 4, 0, 6, 7] rfl ?_; exact key _ (by rw [if_pos q12])
              · refine go_icmp_le (off := 8) (tgt := 145) (by decide +kernel) (by decide) (fun z => absurd z q12) (fun _ => ?_)
                refine go_blk rfl [(.iload 8, 2, 8, 0, 0, .inl 0)] 140 142 _ _ _ (by decide +kernel) ?_
                show Go _ _ _ _ _ _ 142 [(4, vi (((if r7.2 ≤ l5 then l4 else l7) : Int32))), (0, rm 0), (1, vi l1), (2, vi l2), (3, vi l3), (5, vi l5), (6, vi l6), (7, vi l7), (8, vi r7.2)] [vi r7.2] (Y, (r7.1, T)) _
                refine go_goto (off := 5) (tgt := 147) (by decide +kernel) (by decide) ?_
                refine go_pick [1, 2, 3, 4, 0, 6, 7] rfl ?_; exact key _ (by rw [if_neg q12])
            clear h
            by_cases q11 : r7.2 ≤ l5
            · refine go_icmp_le (off := 8) (tgt := 129) (by decide +kernel) (by decide) (fun _ => ?_) (fun z => absurd q11 z)
              refine go_blk rfl [(.iload 4, 2, 4, 0, 0, .inl 0)] 129 131 _ _ _ (by decide +kernel) ?_
              show Go _ _ _ _ _ _ 131 [(8, vi r7.2), (0, rm 0), (1, vi l1), (2, vi l2), (3, vi l3), (4, vi l4), (5, vi l5), (6, vi l6), (7, vi l7)] [vi l4] (Y, (r7.1, T)) _
              refine go_pick [1, 2, 3, 4, 6, 7, 8, 0] rfl ?_; exact key _ (by rw [if_pos q11])
            · refine go_icmp_le (off := 8) (tgt := 129) (by decide +kernel) (by decide) (fun z => absurd z q11) (fun _ => ?_)
              refine go_blk rfl [(.iload 7, 2, 7, 0, 0, .inl 0)] 124 126 _ _ _ (by decide +kernel) ?_
              show Go _ _ _ _ _ _ 126 [(8, vi r7.2), (0, rm 0), (1, vi l1), (2, vi l2), (3, vi l3), (4, vi l4), (5, vi l5), (6, vi l6), (7, vi l7)] [vi l7] (Y, (r7.1, T)) _
              refine go_goto (off := 5) (tgt := 131) (by decide +kernel) (by decide) ?_
              refine go_pick [1, 2, 3, 4, 6, 7, 8, 0] rfl ?_; exact key _ (by rw [if_neg q11])
          clear h
          by_cases q10 : l7 = ((-1))
          · refine go_icmp_ne (off := 8) (tgt := 99) (by decide +kernel) (by decide) (fun z => absurd q10 z) (fun _ => ?_)
            refine go_blk rfl [(.iload 6, 2, 6, 0, 0, .inl 0)] 94 96 _ _ _ (by decide +kernel) ?_
            show Go _ _ _ _ _ _ 96 [(0, rm 0), (1, vi l1), (2, vi l2), (3, vi l3), (4, vi l4), (5, vi l5), (6, vi l6), (7, vi l7)] [vi l6, vi 7, rm 1] (Y, (S, T)) _
            refine go_goto (off := 12) (tgt := 108) (by decide +kernel) (by decide) ?_
            refine go_pick [0, 1, 2, 3, 4, 5, 6, 7] rfl ?_; exact key _ (by rw [if_pos q10])
          · refine go_icmp_ne (off := 8) (tgt := 99) (by decide +kernel) (by decide) (fun _ => ?_) (fun z => absurd z q10)
            refine go_blk rfl [(.iload 6, 2, 6, 0, 0, .inl 0), (.iconst 1, 1, 0, 0, 0, .inl 1), (.iload 7, 2, 7, 0, 0, .inl 0), (.ishl, 1, 0, 0, 0, .inl 0), (.iconst (-1), 1, 0, 0, 0, .inl (-1)), (.ixor, 1, 0, 0, 0, .inl 0), (.iand, 1, 0, 0, 0, .inl 0)] 99 108 _ _ _ (by decide +kernel) ?_
            show Go _ _ _ _ _ _ 108 [(0, rm 0), (1, vi l1), (2, vi l2), (3, vi l3), (4, vi l4), (5, vi l5), (6, vi l6), (7, vi l7)] [vi (l6 &&& (((1 : Int32) <<< (l7 &&& 31)) ^^^ ((-1)))), vi 7, rm 1] (Y, (S, T)) _
            refine go_pick [0, 1, 2, 3, 4, 5, 6, 7] rfl ?_; exact key _ (by rw [if_neg q10])
theorem ret11_away {S : jS} {T : jT} {Y : jS × jT} {a0 : Int32} {a1 : Int32} {a2 : Int32} {S1 : jS} {x : Int32} (hT : LayM T) (h : f11_away S a0 a1 a2 = some (S1, x)) : Ret M11_away 8 0 0 [rm 0, vi a0, vi a1, vi a2] (Y, (S, T)) (some (vi x)) (Y, (S1, T)) := by
  refine Ret.of (by decide +kernel) (Nat.le_of_ble_eq_true rfl) ?_
  unfold f11_away at h
  show Go _ _ _ _ _ _ 0 [(0, rm 0), (1, vi a0), (2, vi a1), (3, vi a2)] [] (Y, (S, T)) _
  refine go_blk rfl [(.aload_n 0, 1, 0, 0, 0, .inl 0), (.iload_n 1, 1, 1, 0, 0, .inl 0)] 0 2 _ _ _ (by decide +kernel) ?_
  show Go _ _ _ _ _ _ 2 [(0, rm 0), (1, vi a0), (2, vi a1), (3, vi a2)] [vi a0, rm 0] (Y, (S, T)) _
  obtain ⟨r1, hr1, h⟩ := bind_el h
  refine go_callV (idx := 426) (z := 0) (M' := M11_isStill) (n := 1) (A := [vi a0]) (v' := some (vi r1)) (μ' := (Y, (S, T))) (d' := 3) (mc' := 0) (ms' := 0) (kc' := 0) (ks' := 0) (ci := 11) (x := .inr (.inl 0)) (by decide +kernel) ml_11_426 rfl wv11_isStill rfl (by decide) rfl (lm_t0 hT) (ret11_isStill hT hr1) (by decide) rfl rfl (Nat.le_of_ble_eq_true rfl) rfl (jag rfl rfl) ?_
  show Go _ _ _ _ _ _ 5 [(0, rm 0), (1, vi a0), (2, vi a1), (3, vi a2)] [vi r1] (Y, (S, T)) _
  refine ite_el h (fun q1 h => ?_) (fun q1 h => ?_)
  · refine go_if_eq (off := 25) (tgt := 30) (by decide +kernel) (by decide) (fun _ => ?_) (fun z => absurd q1 z)
    refine go_blk rfl [(.bipush (-2), 2, 0, 0, 0, .inl (-2))] 30 32 _ _ _ (by decide +kernel) ?_
    show Go _ _ _ _ _ _ 32 [(0, rm 0), (1, vi a0), (2, vi a1), (3, vi a2)] [vi ((-2))] (Y, (S, T)) _
    obtain ⟨rfl, rfl⟩ := Prod.mk.inj (Option.some.inj h)
    exact go_ireturn (by decide +kernel) rfl rfl ⟨rfl, rfl⟩
  · refine go_if_eq (off := 25) (tgt := 30) (by decide +kernel) (by decide) (fun z => absurd z q1) (fun _ => ?_)
    refine go_blk rfl [(.iload_n 2, 1, 2, 0, 0, .inl 0), (.i2l, 1, 0, 0, 0, .inl 0), (.lconst 1, 1, 0, 0, 0, .inr (.inl 1)), (.ldc2_w 478, 3, 0, 0, 0, .inr (.inl 20))] 8 14 _ _ _ (by decide +kernel) ?_
    show Go _ _ _ _ _ _ 14 [(0, rm 0), (1, vi a0), (2, vi a1), (3, vi a2)] [vl 20, vl 1, vl a1.toInt64] (Y, (S, T)) _
    obtain ⟨r2, hr2, h⟩ := bind_el h
    refine go_callS (idx := 140) (z := 0) (M' := M11_in) (n := 3) (A := [vl a1.toInt64, vl 1, vl 20]) (v' := some (vi r2)) (μ' := (Y, (S, T))) (d' := 1) (mc' := 0) (ms' := 0) (kc' := 0) (ks' := 0) (by decide +kernel) ml_11_140 rfl ws11_in rfl (ret11_in hr2) (by decide) rfl rfl (Nat.le_of_ble_eq_true rfl) rfl (jag rfl rfl) ?_
    show Go _ _ _ _ _ _ 17 [(0, rm 0), (1, vi a0), (2, vi a1), (3, vi a2)] [vi r2] (Y, (S, T)) _
    refine ite_el h (fun q2 h => ?_) (fun q2 h => ?_)
    · refine go_if_eq (off := 13) (tgt := 30) (by decide +kernel) (by decide) (fun _ => ?_) (fun z => absurd q2 z)
      refine go_blk rfl [(.bipush (-2), 2, 0, 0, 0, .inl (-2))] 30 32 _ _ _ (by decide +kernel) ?_
      show Go _ _ _ _ _ _ 32 [(0, rm 0), (1, vi a0), (2, vi a1), (3, vi a2)] [vi ((-2))] (Y, (S, T)) _
      obtain ⟨rfl, rfl⟩ := Prod.mk.inj (Option.some.inj h)
      exact go_ireturn (by decide +kernel) rfl rfl ⟨rfl, rfl⟩
    · refine go_if_eq (off := 13) (tgt := 30) (by decide +kernel) (by decide) (fun z => absurd z q2) (fun _ => ?_)
      refine go_blk rfl [(.iload_n 3, 1, 3, 0, 0, .inl 0), (.i2l, 1, 0, 0, 0, .inl 0), (.lconst 0, 1, 0, 0, 0, .inr (.inl 0)), (.lconst 1, 1, 0, 0, 0, .inr (.inl 1))] 20 24 _ _ _ (by decide +kernel) ?_
      show Go _ _ _ _ _ _ 24 [(0, rm 0), (1, vi a0), (2, vi a1), (3, vi a2)] [vl 1, vl 0, vl a2.toInt64] (Y, (S, T)) _
      obtain ⟨r3, hr3, h⟩ := bind_el h
      refine go_callS (idx := 140) (z := 0) (M' := M11_in) (n := 3) (A := [vl a2.toInt64, vl 0, vl 1]) (v' := some (vi r3)) (μ' := (Y, (S, T))) (d' := 1) (mc' := 0) (ms' := 0) (kc' := 0) (ks' := 0) (by decide +kernel) ml_11_140 rfl ws11_in rfl (ret11_in hr3) (by decide) rfl rfl (Nat.le_of_ble_eq_true rfl) rfl (jag rfl rfl) ?_
      show Go _ _ _ _ _ _ 27 [(0, rm 0), (1, vi a0), (2, vi a1), (3, vi a2)] [vi r3] (Y, (S, T)) _
      refine ite_el h (fun q3 h => ?_) (fun q3 h => ?_)
      · refine go_if_ne (off := 6) (tgt := 33) (by decide +kernel) (by decide) (fun z => absurd q3 z) (fun _ => ?_)
        refine go_blk rfl [(.bipush (-2), 2, 0, 0, 0, .inl (-2))] 30 32 _ _ _ (by decide +kernel) ?_
        show Go _ _ _ _ _ _ 32 [(0, rm 0), (1, vi a0), (2, vi a1), (3, vi a2)] [vi ((-2))] (Y, (S, T)) _
        obtain ⟨rfl, rfl⟩ := Prod.mk.inj (Option.some.inj h)
        exact go_ireturn (by decide +kernel) rfl rfl ⟨rfl, rfl⟩
      · refine go_if_ne (off := 6) (tgt := 33) (by decide +kernel) (by decide) (fun _ => ?_) (fun z => absurd z q3)
        refine go_blk rfl [(.aload_n 0, 1, 0, 0, 0, .inl 0)] 33 34 _ _ _ (by decide +kernel) ?_
        show Go _ _ _ _ _ _ 34 [(0, rm 0), (1, vi a0), (2, vi a1), (3, vi a2)] [rm 0] (Y, (S, T)) _
        obtain ⟨r4, hr4, h⟩ := bind_el h
        refine go_callV (idx := 438) (z := 0) (M' := M11_keepsAll) (n := 0) (A := []) (v' := none) (μ' := (Y, (r4.1, T))) (d' := 3) (mc' := 0) (ms' := 0) (kc' := 0) (ks' := 0) (ci := 11) (x := .inr (.inl 0)) (by decide +kernel) ml_11_438 rfl wv11_keepsAll rfl (by decide) rfl (lm_t0 hT) (ret11_keepsAll hT hr4) (by decide) rfl rfl (Nat.le_of_ble_eq_true rfl) rfl (jag rfl rfl) ?_
        show Go _ _ _ _ _ _ 37 [(0, rm 0), (1, vi a0), (2, vi a1), (3, vi a2)] [] (Y, (r4.1, T)) _
        refine go_blk rfl [(.iconst (-1), 1, 0, 0, 0, .inl (-1)), (.istore 4, 2, 4, 0, 0, .inl 0), (.iconst (-1), 1, 0, 0, 0, .inl (-1)), (.istore 5, 2, 5, 0, 0, .inl 0), (.aload_n 0, 1, 0, 0, 0, .inl 0), (.getfield 9, 3, 11, 1, 1, .inl 0), (.bipush 7, 2, 0, 0, 0, .inl 7), (.iaload, 1, 20, 0, 0, .inl 0), (.istore 6, 2, 6, 0, 0, .inl 0), (.iconst (-1), 1, 0, 0, 0, .inl (-1)), (.istore 7, 2, 7, 0, 0, .inl 0)] 37 55 _ _ _ (by decide +kernel) ?_
        refine And.intro (lm_t0 hT) (Exists.intro _ (And.intro (gRm (lm_r1 hT)) ?_))
        refine And.intro (lm_t1 hT) (Exists.intro _ (And.intro (lm_n1 hT) (And.intro (inb_in (by decide)) ?_)))
        show Go _ _ _ _ _ _ 55 [(7, vi ((-1))), (6, vi (r4.1.1 1 7)), (5, vi ((-1))), (4, vi ((-1))), (0, rm 0), (1, vi a0), (2, vi a1), (3, vi a2)] [] (Y, (r4.1, T)) _
        refine go_pick [4, 5, 6, 7, 3, 2, 1, 0] rfl ?_
        obtain ⟨y9, hy9, h⟩ := bind_el h
        refine f11_away_L1_ok hT _ _ _ _ _ _ hy9 ?_
        show Go _ _ _ _ _ _ 155 [(3, vi a2), (4, vi y9.2.1), (5, vi y9.2.2)] [] (Y, (y9.1, T)) _
        refine go_blk rfl [(.iload_n 3, 1, 3, 0, 0, .inl 0)] 155 156 _ _ _ (by decide +kernel) ?_
        show Go _ _ _ _ _ _ 156 [(3, vi a2), (4, vi y9.2.1), (5, vi y9.2.2)] [vi a2] (Y, (y9.1, T)) _
        refine ite_el h (fun q13 h => ?_) (fun q13 h => ?_)
        · refine go_if_ne (off := 8) (tgt := 164) (by decide +kernel) (by decide) (fun z => absurd q13 z) (fun _ => ?_)
          refine go_blk rfl [(.iload 4, 2, 4, 0, 0, .inl 0)] 159 161 _ _ _ (by decide +kernel) ?_
          show Go _ _ _ _ _ _ 161 [(3, vi a2), (4, vi y9.2.1), (5, vi y9.2.2)] [vi y9.2.1] (Y, (y9.1, T)) _
          refine go_goto (off := 5) (tgt := 166) (by decide +kernel) (by decide) ?_
          obtain ⟨rfl, rfl⟩ := Prod.mk.inj (Option.some.inj h)
          exact go_ireturn (by decide +kernel) rfl rfl ⟨rfl, rfl⟩
        · refine go_if_ne (off := 8) (tgt := 164) (by decide +kernel) (by decide) (fun _ => ?_) (fun z => absurd z q13)
          refine go_blk rfl [(.iload 5, 2, 5, 0, 0, .inl 0)] 164 166 _ _ _ (by decide +kernel) ?_
          show Go _ _ _ _ _ _ 166 [(3, vi a2), (4, vi y9.2.1), (5, vi y9.2.2)] [vi y9.2.2] (Y, (y9.1, T)) _
          obtain ⟨rfl, rfl⟩ := Prod.mk.inj (Option.some.inj h)
          exact go_ireturn (by decide +kernel) rfl rfl ⟨rfl, rfl⟩
def f11_begin_L1 (l1 : Int32) (l2 : Int32) (l3 : Int32) : Nat → jS → Int32 → Int32 → Int32 → Option (jS × Int32 × Int32)
  | 0, _, _, _, _ => none
  | n + 1, S, l4, l5, l6 => (if (S.1 1 0) ≤ l6 then some (S, l4, l5) else (if inb l1 7 then Option.bind (f11_satIn (wI S 2 l1.toNatClampNeg l6) l1 l2) (fun r6 => f11_begin_L1 l1 l2 l3 n r6.1 (((if r6.2 ≤ l5 then l4 else l6) : Int32)) (((if r6.2 ≤ l5 then l5 else r6.2) : Int32)) (l6 + 1)) else none))
def f11_begin (S : jS) (a0 : Int32) (a1 : Int32) (a2 : Int32) : Option (jS × Int32) := Option.bind (f11_isStill S a0) (fun r1 => (if r1 = 0 then some (S, (-1)) else Option.bind (f11_in a1.toInt64 1 20) (fun r2 => (if r2 = 0 then some (S, (-1)) else Option.bind (f11_in a2.toInt64 0 1) (fun r3 => (if r3 = 0 then some (S, (-1)) else Option.bind (f11_keepsAll S) (fun r4 => (if inb a0 7 then Option.bind (f11_satIn r4.1 a0 a1) (fun r5 => Option.bind (f11_begin_L1 a0 a1 a2 jF r5.1 (r4.1.1 2 a0.toNatClampNeg) r5.2 0) (fun y7 => (if a2 = 0 then some (y7.1, y7.2.1) else some (y7.1, y7.2.2)))) else none))))))))
theorem f11_begin_L1_ok {T : jT} {Y : jS × jT} {l1 : Int32} {l2 : Int32} {l3 : Int32} {Q : Option jV → jMem → Prop} (hT : LayM T) : ∀ (n : Nat) (S : jS) (l4 : Int32) (l5 : Int32) (l6 : Int32) (r : (jS × Int32 × Int32)), f11_begin_L1 l1 l2 l3 n S l4 l5 l6 = some r → Go M11_begin 8 0 0 0 0 120 [(3, vi l3), (4, vi r.2.1), (5, vi r.2.2)] [] (Y, (r.1, T)) Q → Go M11_begin 8 0 0 0 0 55 [(0, rm 0), (1, vi l1), (2, vi l2), (3, vi l3), (4, vi l4), (5, vi l5), (6, vi l6)] [] (Y, (S, T)) Q := by
  intro n
  induction n with
  | zero => intro S l4 l5 l6 r h k; exact absurd h (by intro z; cases z)
  | succ n ih =>
    intro S l4 l5 l6 r h k
    rw [f11_begin_L1] at h
    refine go_blk rfl [(.iload 6, 2, 6, 0, 0, .inl 0), (.aload_n 0, 1, 0, 0, 0, .inl 0), (.getfield 9, 3, 11, 1, 1, .inl 0), (.iconst 0, 1, 0, 0, 0, .inl 0), (.iaload, 1, 20, 0, 0, .inl 0)] 55 63 _ _ _ (by decide +kernel) ?_
    refine And.intro (lm_t0 hT) (Exists.intro _ (And.intro (gRm (lm_r1 hT)) ?_))
    refine And.intro (lm_t1 hT) (Exists.intro _ (And.intro (lm_n1 hT) (And.intro (inb_in (by decide)) ?_)))
    show Go _ _ _ _ _ _ 63 [(0, rm 0), (1, vi l1), (2, vi l2), (3, vi l3), (4, vi l4), (5, vi l5), (6, vi l6)] [vi (S.1 1 0), vi l6] (Y, (S, T)) _
    refine ite_el h (fun q5 h => ?_) (fun q5 h => ?_)
    · refine go_icmp_ge (off := 57) (tgt := 120) (by decide +kernel) (by decide) (fun _ => ?_) (fun z => absurd q5 z)
      obtain rfl := Option.some.inj h
      refine go_pick [3, 4, 5] rfl ?_
      exact k
    · refine go_icmp_ge (off := 57) (tgt := 120) (by decide +kernel) (by decide) (fun z => absurd z q5) (fun _ => ?_)
      refine gd_el h (fun q6 h => ?_)
      refine go_blk rfl [(.aload_n 0, 1, 0, 0, 0, .inl 0), (.getfield 13, 3, 11, 2, 1, .inl 0), (.iload_n 1, 1, 1, 0, 0, .inl 0), (.iload 6, 2, 6, 0, 0, .inl 0), (.iastore, 1, 20, 0, 0, .inl 0)] 66 74 _ _ _ (by decide +kernel) ?_
      refine And.intro (lm_t0 hT) (Exists.intro _ (And.intro (gRm (lm_r2 hT)) ?_))
      refine And.intro (lm_t2 hT) (Exists.intro _ (And.intro (lm_n2 hT) (And.intro (inb_in q6) ?_)))
      show Go _ _ _ _ _ _ 74 [(0, rm 0), (1, vi l1), (2, vi l2), (3, vi l3), (4, vi l4), (5, vi l5), (6, vi l6)] [] (Y, (wI S 2 l1.toNatClampNeg l6, T)) _
      refine go_blk rfl [(.aload_n 0, 1, 0, 0, 0, .inl 0), (.iload_n 1, 1, 1, 0, 0, .inl 0), (.iload_n 2, 1, 2, 0, 0, .inl 0)] 74 77 _ _ _ (by decide +kernel) ?_
      show Go _ _ _ _ _ _ 77 [(0, rm 0), (1, vi l1), (2, vi l2), (3, vi l3), (4, vi l4), (5, vi l5), (6, vi l6)] [vi l2, vi l1, rm 0] (Y, (wI S 2 l1.toNatClampNeg l6, T)) _
      obtain ⟨r6, hr6, h⟩ := bind_el h
      refine go_callV (idx := 480) (z := 0) (M' := M11_satIn) (n := 2) (A := [vi l1, vi l2]) (v' := some (vi r6.2)) (μ' := (Y, (r6.1, T))) (d' := 7) (mc' := 0) (ms' := 0) (kc' := 0) (ks' := 0) (ci := 11) (x := .inr (.inl 0)) (by decide +kernel) ml_11_480 rfl wv11_satIn rfl (by decide) rfl (lm_t0 hT) (ret11_satIn hT hr6) (by decide) rfl rfl (Nat.le_of_ble_eq_true rfl) rfl (jag rfl rfl) ?_
      show Go _ _ _ _ _ _ 80 [(0, rm 0), (1, vi l1), (2, vi l2), (3, vi l3), (4, vi l4), (5, vi l5), (6, vi l6)] [vi r6.2] (Y, (r6.1, T)) _
      refine go_blk rfl [(.istore 7, 2, 7, 0, 0, .inl 0), (.iload 7, 2, 7, 0, 0, .inl 0), (.iload 5, 2, 5, 0, 0, .inl 0)] 80 86 _ _ _ (by decide +kernel) ?_
      show Go _ _ _ _ _ _ 86 [(7, vi r6.2), (0, rm 0), (1, vi l1), (2, vi l2), (3, vi l3), (4, vi l4), (5, vi l5), (6, vi l6)] [vi l5, vi r6.2] (Y, (r6.1, T)) _
      have key : ∀ z0 : Int32, z0 = ((if r6.2 ≤ l5 then l4 else l6) : Int32) → Go M11_begin 8 0 0 0 0 96 [(0, rm 0), (1, vi l1), (2, vi l2), (3, vi l3), (5, vi l5), (6, vi l6), (7, vi r6.2)] [vi z0] (Y, (r6.1, T)) Q := by
        intro z0 ez0
        subst ez0
        refine go_blk rfl [(.istore 4, 2, 4, 0, 0, .inl 0), (.iload 7, 2, 7, 0, 0, .inl 0), (.iload 5, 2, 5, 0, 0, .inl 0)] 96 102 _ _ _ (by decide +kernel) ?_
        show Go _ _ _ _ _ _ 102 [(4, vi (((if r6.2 ≤ l5 then l4 else l6) : Int32))), (0, rm 0), (1, vi l1), (2, vi l2), (3, vi l3), (5, vi l5), (6, vi l6), (7, vi r6.2)] [vi l5, vi r6.2] (Y, (r6.1, T)) _
        have key : ∀ z0 : Int32, z0 = ((if r6.2 ≤ l5 then l5 else r6.2) : Int32) → Go M11_begin 8 0 0 0 0 112 [(0, rm 0), (1, vi l1), (2, vi l2), (3, vi l3), (4, vi (((if r6.2 ≤ l5 then l4 else l6) : Int32))), (6, vi l6)] [vi z0] (Y, (r6.1, T)) Q := by
          intro z0 ez0
          subst ez0
          refine go_blk rfl [(.istore 5, 2, 5, 0, 0, .inl 0), (.iinc 6 1, 3, 6, 0, 0, .inl 1)] 112 117 _ _ _ (by decide +kernel) ?_
          show Go _ _ _ _ _ _ 117 [(6, vi (l6 + 1)), (5, vi (((if r6.2 ≤ l5 then l5 else r6.2) : Int32))), (0, rm 0), (1, vi l1), (2, vi l2), (3, vi l3), (4, vi (((if r6.2 ≤ l5 then l4 else l6) : Int32)))] [] (Y, (r6.1, T)) _
          refine go_goto (off := (-62)) (tgt := 55) (by decide +kernel) (by decide) ?_
          refine go_pick [2, 3, 4, 5, 6, 1, 0] rfl ?_
          exact ih _ _ _ _ _ h k
        clear h
        by_cases q8 : r6.2 ≤ l5
        · refine go_icmp_le (off := 8) (tgt := 110) (by decide +kernel) (by decide) (fun _ => ?_) (fun z => absurd q8 z)
          refine go_blk rfl [(.iload 5, 2, 5, 0, 0, .inl 0)] 110 112 _ _ _ (by decide +kernel) ?_
          show Go _ _ _ _ _ _ 112 [(4, vi (((if r6.2 ≤ l5 then l4 else l6) : Int32))), (0, rm 0), (1, vi l1), (2, vi l2), (3, vi l3), (5, vi l5), (6, vi l6), (7, vi r6.2)] [vi l5] (Y, (r6.1, T)) _
          refine go_pick [1, 2, 3, 4, 0, 6] rfl ?_; exact key _ (by rw [if_pos q8])
        · refine go_icmp_le (off := 8) (tgt := 110) (by decide +kernel) (by decide) (fun z => absurd z q8) (fun _ => ?_)
          refine go_blk rfl [(.iload 7, 2, 7, 0, 0, .inl 0)] 105 107 _ _ _ (by decide +kernel) ?_
          show Go _ _ _ _ _ _ 107 [(4, vi (((if r6.2 ≤ l5 then l4 else l6) : Int32))), (0, rm 0), (1, vi l1), (2, vi l2), (3, vi l3), (5, vi l5), (6, vi l6), (7, vi r6.2)] [vi r6.2] (Y, (r6.1, T)) _
          refine go_goto (off := 5) (tgt := 112) (by decide +kernel) (by decide) ?_
          refine go_pick [1, 2, 3, 4, 0, 6] rfl ?_; exact key _ (by rw [if_neg q8])
      clear h
      by_cases q7 : r6.2 ≤ l5
      · refine go_icmp_le (off := 8) (tgt := 94) (by decide +kernel) (by decide) (fun _ => ?_) (fun z => absurd q7 z)
        refine go_blk rfl [(.iload 4, 2, 4, 0, 0, .inl 0)] 94 96 _ _ _ (by decide +kernel) ?_
        show Go _ _ _ _ _ _ 96 [(7, vi r6.2), (0, rm 0), (1, vi l1), (2, vi l2), (3, vi l3), (4, vi l4), (5, vi l5), (6, vi l6)] [vi l4] (Y, (r6.1, T)) _
        refine go_pick [1, 2, 3, 4, 6, 7, 0] rfl ?_; exact key _ (by rw [if_pos q7])
      · refine go_icmp_le (off := 8) (tgt := 94) (by decide +kernel) (by decide) (fun z => absurd z q7) (fun _ => ?_)
        refine go_blk rfl [(.iload 6, 2, 6, 0, 0, .inl 0)] 89 91 _ _ _ (by decide +kernel) ?_
        show Go _ _ _ _ _ _ 91 [(7, vi r6.2), (0, rm 0), (1, vi l1), (2, vi l2), (3, vi l3), (4, vi l4), (5, vi l5), (6, vi l6)] [vi l6] (Y, (r6.1, T)) _
        refine go_goto (off := 5) (tgt := 96) (by decide +kernel) (by decide) ?_
        refine go_pick [1, 2, 3, 4, 6, 7, 0] rfl ?_; exact key _ (by rw [if_neg q7])
theorem ret11_begin {S : jS} {T : jT} {Y : jS × jT} {a0 : Int32} {a1 : Int32} {a2 : Int32} {S1 : jS} {x : Int32} (hT : LayM T) (h : f11_begin S a0 a1 a2 = some (S1, x)) : Ret M11_begin 8 0 0 [rm 0, vi a0, vi a1, vi a2] (Y, (S, T)) (some (vi x)) (Y, (S1, T)) := by
  refine Ret.of (by decide +kernel) (Nat.le_of_ble_eq_true rfl) ?_
  unfold f11_begin at h
  show Go _ _ _ _ _ _ 0 [(0, rm 0), (1, vi a0), (2, vi a1), (3, vi a2)] [] (Y, (S, T)) _
  refine go_blk rfl [(.aload_n 0, 1, 0, 0, 0, .inl 0), (.iload_n 1, 1, 1, 0, 0, .inl 0)] 0 2 _ _ _ (by decide +kernel) ?_
  show Go _ _ _ _ _ _ 2 [(0, rm 0), (1, vi a0), (2, vi a1), (3, vi a2)] [vi a0, rm 0] (Y, (S, T)) _
  obtain ⟨r1, hr1, h⟩ := bind_el h
  refine go_callV (idx := 426) (z := 0) (M' := M11_isStill) (n := 1) (A := [vi a0]) (v' := some (vi r1)) (μ' := (Y, (S, T))) (d' := 3) (mc' := 0) (ms' := 0) (kc' := 0) (ks' := 0) (ci := 11) (x := .inr (.inl 0)) (by decide +kernel) ml_11_426 rfl wv11_isStill rfl (by decide) rfl (lm_t0 hT) (ret11_isStill hT hr1) (by decide) rfl rfl (Nat.le_of_ble_eq_true rfl) rfl (jag rfl rfl) ?_
  show Go _ _ _ _ _ _ 5 [(0, rm 0), (1, vi a0), (2, vi a1), (3, vi a2)] [vi r1] (Y, (S, T)) _
  refine ite_el h (fun q1 h => ?_) (fun q1 h => ?_)
  · refine go_if_eq (off := 25) (tgt := 30) (by decide +kernel) (by decide) (fun _ => ?_) (fun z => absurd q1 z)
    refine go_blk rfl [(.iconst (-1), 1, 0, 0, 0, .inl (-1))] 30 31 _ _ _ (by decide +kernel) ?_
    show Go _ _ _ _ _ _ 31 [(0, rm 0), (1, vi a0), (2, vi a1), (3, vi a2)] [vi ((-1))] (Y, (S, T)) _
    obtain ⟨rfl, rfl⟩ := Prod.mk.inj (Option.some.inj h)
    exact go_ireturn (by decide +kernel) rfl rfl ⟨rfl, rfl⟩
  · refine go_if_eq (off := 25) (tgt := 30) (by decide +kernel) (by decide) (fun z => absurd z q1) (fun _ => ?_)
    refine go_blk rfl [(.iload_n 2, 1, 2, 0, 0, .inl 0), (.i2l, 1, 0, 0, 0, .inl 0), (.lconst 1, 1, 0, 0, 0, .inr (.inl 1)), (.ldc2_w 478, 3, 0, 0, 0, .inr (.inl 20))] 8 14 _ _ _ (by decide +kernel) ?_
    show Go _ _ _ _ _ _ 14 [(0, rm 0), (1, vi a0), (2, vi a1), (3, vi a2)] [vl 20, vl 1, vl a1.toInt64] (Y, (S, T)) _
    obtain ⟨r2, hr2, h⟩ := bind_el h
    refine go_callS (idx := 140) (z := 0) (M' := M11_in) (n := 3) (A := [vl a1.toInt64, vl 1, vl 20]) (v' := some (vi r2)) (μ' := (Y, (S, T))) (d' := 1) (mc' := 0) (ms' := 0) (kc' := 0) (ks' := 0) (by decide +kernel) ml_11_140 rfl ws11_in rfl (ret11_in hr2) (by decide) rfl rfl (Nat.le_of_ble_eq_true rfl) rfl (jag rfl rfl) ?_
    show Go _ _ _ _ _ _ 17 [(0, rm 0), (1, vi a0), (2, vi a1), (3, vi a2)] [vi r2] (Y, (S, T)) _
    refine ite_el h (fun q2 h => ?_) (fun q2 h => ?_)
    · refine go_if_eq (off := 13) (tgt := 30) (by decide +kernel) (by decide) (fun _ => ?_) (fun z => absurd q2 z)
      refine go_blk rfl [(.iconst (-1), 1, 0, 0, 0, .inl (-1))] 30 31 _ _ _ (by decide +kernel) ?_
      show Go _ _ _ _ _ _ 31 [(0, rm 0), (1, vi a0), (2, vi a1), (3, vi a2)] [vi ((-1))] (Y, (S, T)) _
      obtain ⟨rfl, rfl⟩ := Prod.mk.inj (Option.some.inj h)
      exact go_ireturn (by decide +kernel) rfl rfl ⟨rfl, rfl⟩
    · refine go_if_eq (off := 13) (tgt := 30) (by decide +kernel) (by decide) (fun z => absurd z q2) (fun _ => ?_)
      refine go_blk rfl [(.iload_n 3, 1, 3, 0, 0, .inl 0), (.i2l, 1, 0, 0, 0, .inl 0), (.lconst 0, 1, 0, 0, 0, .inr (.inl 0)), (.lconst 1, 1, 0, 0, 0, .inr (.inl 1))] 20 24 _ _ _ (by decide +kernel) ?_
      show Go _ _ _ _ _ _ 24 [(0, rm 0), (1, vi a0), (2, vi a1), (3, vi a2)] [vl 1, vl 0, vl a2.toInt64] (Y, (S, T)) _
      obtain ⟨r3, hr3, h⟩ := bind_el h
      refine go_callS (idx := 140) (z := 0) (M' := M11_in) (n := 3) (A := [vl a2.toInt64, vl 0, vl 1]) (v' := some (vi r3)) (μ' := (Y, (S, T))) (d' := 1) (mc' := 0) (ms' := 0) (kc' := 0) (ks' := 0) (by decide +kernel) ml_11_140 rfl ws11_in rfl (ret11_in hr3) (by decide) rfl rfl (Nat.le_of_ble_eq_true rfl) rfl (jag rfl rfl) ?_
      show Go _ _ _ _ _ _ 27 [(0, rm 0), (1, vi a0), (2, vi a1), (3, vi a2)] [vi r3] (Y, (S, T)) _
      refine ite_el h (fun q3 h => ?_) (fun q3 h => ?_)
      · refine go_if_ne (off := 5) (tgt := 32) (by decide +kernel) (by decide) (fun z => absurd q3 z) (fun _ => ?_)
        refine go_blk rfl [(.iconst (-1), 1, 0, 0, 0, .inl (-1))] 30 31 _ _ _ (by decide +kernel) ?_
        show Go _ _ _ _ _ _ 31 [(0, rm 0), (1, vi a0), (2, vi a1), (3, vi a2)] [vi ((-1))] (Y, (S, T)) _
        obtain ⟨rfl, rfl⟩ := Prod.mk.inj (Option.some.inj h)
        exact go_ireturn (by decide +kernel) rfl rfl ⟨rfl, rfl⟩
      · refine go_if_ne (off := 5) (tgt := 32) (by decide +kernel) (by decide) (fun _ => ?_) (fun z => absurd z q3)
        refine go_blk rfl [(.aload_n 0, 1, 0, 0, 0, .inl 0)] 32 33 _ _ _ (by decide +kernel) ?_
        show Go _ _ _ _ _ _ 33 [(0, rm 0), (1, vi a0), (2, vi a1), (3, vi a2)] [rm 0] (Y, (S, T)) _
        obtain ⟨r4, hr4, h⟩ := bind_el h
        refine go_callV (idx := 438) (z := 0) (M' := M11_keepsAll) (n := 0) (A := []) (v' := none) (μ' := (Y, (r4.1, T))) (d' := 3) (mc' := 0) (ms' := 0) (kc' := 0) (ks' := 0) (ci := 11) (x := .inr (.inl 0)) (by decide +kernel) ml_11_438 rfl wv11_keepsAll rfl (by decide) rfl (lm_t0 hT) (ret11_keepsAll hT hr4) (by decide) rfl rfl (Nat.le_of_ble_eq_true rfl) rfl (jag rfl rfl) ?_
        show Go _ _ _ _ _ _ 36 [(0, rm 0), (1, vi a0), (2, vi a1), (3, vi a2)] [] (Y, (r4.1, T)) _
        refine gd_el h (fun q4 h => ?_)
        refine go_blk rfl [(.aload_n 0, 1, 0, 0, 0, .inl 0), (.getfield 13, 3, 11, 2, 1, .inl 0), (.iload_n 1, 1, 1, 0, 0, .inl 0), (.iaload, 1, 20, 0, 0, .inl 0), (.istore 4, 2, 4, 0, 0, .inl 0), (.aload_n 0, 1, 0, 0, 0, .inl 0), (.iload_n 1, 1, 1, 0, 0, .inl 0), (.iload_n 2, 1, 2, 0, 0, .inl 0)] 36 47 _ _ _ (by decide +kernel) ?_
        refine And.intro (lm_t0 hT) (Exists.intro _ (And.intro (gRm (lm_r2 hT)) ?_))
        refine And.intro (lm_t2 hT) (Exists.intro _ (And.intro (lm_n2 hT) (And.intro (inb_in q4) ?_)))
        show Go _ _ _ _ _ _ 47 [(4, vi (r4.1.1 2 a0.toNatClampNeg)), (0, rm 0), (1, vi a0), (2, vi a1), (3, vi a2)] [vi a1, vi a0, rm 0] (Y, (r4.1, T)) _
        obtain ⟨r5, hr5, h⟩ := bind_el h
        refine go_callV (idx := 480) (z := 0) (M' := M11_satIn) (n := 2) (A := [vi a0, vi a1]) (v' := some (vi r5.2)) (μ' := (Y, (r5.1, T))) (d' := 7) (mc' := 0) (ms' := 0) (kc' := 0) (ks' := 0) (ci := 11) (x := .inr (.inl 0)) (by decide +kernel) ml_11_480 rfl wv11_satIn rfl (by decide) rfl (lm_t0 hT) (ret11_satIn hT hr5) (by decide) rfl rfl (Nat.le_of_ble_eq_true rfl) rfl (jag rfl rfl) ?_
        show Go _ _ _ _ _ _ 50 [(4, vi (r4.1.1 2 a0.toNatClampNeg)), (0, rm 0), (1, vi a0), (2, vi a1), (3, vi a2)] [vi r5.2] (Y, (r5.1, T)) _
        refine go_blk rfl [(.istore 5, 2, 5, 0, 0, .inl 0), (.iconst 0, 1, 0, 0, 0, .inl 0), (.istore 6, 2, 6, 0, 0, .inl 0)] 50 55 _ _ _ (by decide +kernel) ?_
        show Go _ _ _ _ _ _ 55 [(6, vi 0), (5, vi r5.2), (4, vi (r4.1.1 2 a0.toNatClampNeg)), (0, rm 0), (1, vi a0), (2, vi a1), (3, vi a2)] [] (Y, (r5.1, T)) _
        refine go_pick [3, 4, 5, 6, 2, 1, 0] rfl ?_
        obtain ⟨y7, hy7, h⟩ := bind_el h
        refine f11_begin_L1_ok hT _ _ _ _ _ _ hy7 ?_
        show Go _ _ _ _ _ _ 120 [(3, vi a2), (4, vi y7.2.1), (5, vi y7.2.2)] [] (Y, (y7.1, T)) _
        refine go_blk rfl [(.iload_n 3, 1, 3, 0, 0, .inl 0)] 120 121 _ _ _ (by decide +kernel) ?_
        show Go _ _ _ _ _ _ 121 [(3, vi a2), (4, vi y7.2.1), (5, vi y7.2.2)] [vi a2] (Y, (y7.1, T)) _
        refine ite_el h (fun q9 h => ?_) (fun q9 h => ?_)
        · refine go_if_ne (off := 8) (tgt := 129) (by decide +kernel) (by decide) (fun z => absurd q9 z) (fun _ => ?_)
          refine go_blk rfl [(.iload 4, 2, 4, 0, 0, .inl 0)] 124 126 _ _ _ (by decide +kernel) ?_
          show Go _ _ _ _ _ _ 126 [(3, vi a2), (4, vi y7.2.1), (5, vi y7.2.2)] [vi y7.2.1] (Y, (y7.1, T)) _
          refine go_goto (off := 5) (tgt := 131) (by decide +kernel) (by decide) ?_
          obtain ⟨rfl, rfl⟩ := Prod.mk.inj (Option.some.inj h)
          exact go_ireturn (by decide +kernel) rfl rfl ⟨rfl, rfl⟩
        · refine go_if_ne (off := 8) (tgt := 129) (by decide +kernel) (by decide) (fun _ => ?_) (fun z => absurd z q9)
          refine go_blk rfl [(.iload 5, 2, 5, 0, 0, .inl 0)] 129 131 _ _ _ (by decide +kernel) ?_
          show Go _ _ _ _ _ _ 131 [(3, vi a2), (4, vi y7.2.1), (5, vi y7.2.2)] [vi y7.2.2] (Y, (y7.1, T)) _
          obtain ⟨rfl, rfl⟩ := Prod.mk.inj (Option.some.inj h)
          exact go_ireturn (by decide +kernel) rfl rfl ⟨rfl, rfl⟩
def f11_laysPaces_L2 (l1 : Int32) (l2 : Int32) (l3 : Int32) (l4 : Int32) : Nat → jS → Int32 → Option jS
  | 0, _, _ => none
  | n + 1, S, l5 => (if l3 ≤ l5 then some S else Option.bind (f11_goes S) (fun r2 => (if inb l4 36 then f11_laysPaces_L2 l1 l2 l3 l4 n (wI (wI r2.1 49 l4.toNatClampNeg ((r2.1.1 49 l4.toNatClampNeg) + ((r2.2 >>> (l1 &&& 31)) &&& 1))) 50 l4.toNatClampNeg (((wI r2.1 49 l4.toNatClampNeg ((r2.1.1 49 l4.toNatClampNeg) + ((r2.2 >>> (l1 &&& 31)) &&& 1))).1 50 l4.toNatClampNeg) + ((r2.2 >>> (l2 &&& 31)) &&& 1))) (l5 + 1) else none)))
def f11_laysPaces_L1 (l1 : Int32) (l2 : Int32) (l3 : Int32) : Nat → jS → Int32 → Option jS
  | 0, _, _ => none
  | n + 1, S, l4 => (if 36 ≤ l4 then some S else (if inb l1 7 then (if inb l2 7 then (if inb l4 36 then Option.bind (f11_laysPaces_L2 l1 l2 l3 l4 jF (wI (wI (wI (wI S 3 l1.toNatClampNeg (l4 / 6)) 3 l2.toNatClampNeg (irm l4 6)) 49 l4.toNatClampNeg 0) 50 l4.toNatClampNeg 0) 0) (fun y3 => Option.bind (f11_laysBack y3) (fun r4 => f11_laysPaces_L1 l1 l2 l3 n r4.1 (l4 + 1))) else none) else none) else none))
def f11_laysPaces (S : jS) (a0 : Int32) (a1 : Int32) (a2 : Int32) : Option (jS × Unit) := Option.bind (f11_keepsAll S) (fun r1 => Option.bind (f11_laysPaces_L1 a0 a1 a2 jF r1.1 0) (fun y5 => some (y5, ())))
theorem f11_laysPaces_L2_ok {T : jT} {Y : jS × jT} {l1 : Int32} {l2 : Int32} {l3 : Int32} {l4 : Int32} {Q : Option jV → jMem → Prop} (hT : LayM T) : ∀ (n : Nat) (S : jS) (l5 : Int32) (r : jS), f11_laysPaces_L2 l1 l2 l3 l4 n S l5 = some r → Go M11_laysPaces 7 0 0 0 0 105 [(0, rm 0), (1, vi l1), (2, vi l2), (3, vi l3), (4, vi l4)] [] (Y, (r, T)) Q → Go M11_laysPaces 7 0 0 0 0 55 [(0, rm 0), (1, vi l1), (2, vi l2), (3, vi l3), (4, vi l4), (5, vi l5)] [] (Y, (S, T)) Q := by
  intro n
  induction n with
  | zero => intro S l5 r h k; exact absurd h (by intro z; cases z)
  | succ n ih =>
    intro S l5 r h k
    rw [f11_laysPaces_L2] at h
    refine go_blk rfl [(.iload 5, 2, 5, 0, 0, .inl 0), (.iload_n 3, 1, 3, 0, 0, .inl 0)] 55 58 _ _ _ (by decide +kernel) ?_
    show Go _ _ _ _ _ _ 58 [(0, rm 0), (1, vi l1), (2, vi l2), (3, vi l3), (4, vi l4), (5, vi l5)] [vi l3, vi l5] (Y, (S, T)) _
    refine ite_el h (fun q5 h => ?_) (fun q5 h => ?_)
    · refine go_icmp_ge (off := 47) (tgt := 105) (by decide +kernel) (by decide) (fun _ => ?_) (fun z => absurd q5 z)
      obtain rfl := Option.some.inj h
      refine go_pick [0, 1, 2, 3, 4] rfl ?_
      exact k
    · refine go_icmp_ge (off := 47) (tgt := 105) (by decide +kernel) (by decide) (fun z => absurd z q5) (fun _ => ?_)
      refine go_blk rfl [(.aload_n 0, 1, 0, 0, 0, .inl 0)] 61 62 _ _ _ (by decide +kernel) ?_
      show Go _ _ _ _ _ _ 62 [(0, rm 0), (1, vi l1), (2, vi l2), (3, vi l3), (4, vi l4), (5, vi l5)] [rm 0] (Y, (S, T)) _
      obtain ⟨r2, hr2, h⟩ := bind_el h
      refine go_callV (idx := 399) (z := 0) (M' := M11_goes) (n := 0) (A := []) (v' := some (vi r2.2)) (μ' := (Y, (r2.1, T))) (d' := 6) (mc' := 0) (ms' := 0) (kc' := 0) (ks' := 0) (ci := 11) (x := .inr (.inl 0)) (by decide +kernel) ml_11_399 rfl wv11_goes rfl (by decide) rfl (lm_t0 hT) (ret11_goes hT hr2) (by decide) rfl rfl (Nat.le_of_ble_eq_true rfl) rfl (jag rfl rfl) ?_
      show Go _ _ _ _ _ _ 65 [(0, rm 0), (1, vi l1), (2, vi l2), (3, vi l3), (4, vi l4), (5, vi l5)] [vi r2.2] (Y, (r2.1, T)) _
      refine gd_el h (fun q6 h => ?_)
      refine go_blk rfl [(.istore 6, 2, 6, 0, 0, .inl 0), (.aload_n 0, 1, 0, 0, 0, .inl 0), (.getfield 118, 3, 11, 49, 1, .inl 0), (.iload 4, 2, 4, 0, 0, .inl 0), (.dup2, 1, 0, 0, 0, .inl 0), (.iaload, 1, 20, 0, 0, .inl 0), (.iload 6, 2, 6, 0, 0, .inl 0), (.iload_n 1, 1, 1, 0, 0, .inl 0), (.ishr, 1, 0, 0, 0, .inl 0), (.iconst 1, 1, 0, 0, 0, .inl 1), (.iand, 1, 0, 0, 0, .inl 0), (.iadd, 1, 0, 0, 0, .inl 0), (.iastore, 1, 20, 0, 0, .inl 0)] 65 83 _ _ _ (by decide +kernel) ?_
      refine And.intro (lm_t0 hT) (Exists.intro _ (And.intro (gRm (lm_r49 hT)) ?_))
      refine And.intro (lm_t49 hT) (Exists.intro _ (And.intro (lm_n49 hT) (And.intro (inb_in q6) ?_)))
      refine And.intro (lm_t49 hT) (Exists.intro _ (And.intro (lm_n49 hT) (And.intro (inb_in q6) ?_)))
      show Go _ _ _ _ _ _ 83 [(6, vi r2.2), (0, rm 0), (1, vi l1), (2, vi l2), (3, vi l3), (4, vi l4), (5, vi l5)] [] (Y, (wI r2.1 49 l4.toNatClampNeg ((r2.1.1 49 l4.toNatClampNeg) + ((r2.2 >>> (l1 &&& 31)) &&& 1)), T)) _
      refine go_blk rfl [(.aload_n 0, 1, 0, 0, 0, .inl 0), (.getfield 121, 3, 11, 50, 1, .inl 0), (.iload 4, 2, 4, 0, 0, .inl 0), (.dup2, 1, 0, 0, 0, .inl 0), (.iaload, 1, 20, 0, 0, .inl 0), (.iload 6, 2, 6, 0, 0, .inl 0), (.iload_n 2, 1, 2, 0, 0, .inl 0), (.ishr, 1, 0, 0, 0, .inl 0), (.iconst 1, 1, 0, 0, 0, .inl 1), (.iand, 1, 0, 0, 0, .inl 0), (.iadd, 1, 0, 0, 0, .inl 0), (.iastore, 1, 20, 0, 0, .inl 0)] 83 99 _ _ _ (by decide +kernel) ?_
      refine And.intro (lm_t0 hT) (Exists.intro _ (And.intro (gRm (lm_r50 hT)) ?_))
      refine And.intro (lm_t50 hT) (Exists.intro _ (And.intro (lm_n50 hT) (And.intro (inb_in q6) ?_)))
      refine And.intro (lm_t50 hT) (Exists.intro _ (And.intro (lm_n50 hT) (And.intro (inb_in q6) ?_)))
      show Go _ _ _ _ _ _ 99 [(6, vi r2.2), (0, rm 0), (1, vi l1), (2, vi l2), (3, vi l3), (4, vi l4), (5, vi l5)] [] (Y, (wI (wI r2.1 49 l4.toNatClampNeg ((r2.1.1 49 l4.toNatClampNeg) + ((r2.2 >>> (l1 &&& 31)) &&& 1))) 50 l4.toNatClampNeg (((wI r2.1 49 l4.toNatClampNeg ((r2.1.1 49 l4.toNatClampNeg) + ((r2.2 >>> (l1 &&& 31)) &&& 1))).1 50 l4.toNatClampNeg) + ((r2.2 >>> (l2 &&& 31)) &&& 1)), T)) _
      refine go_blk rfl [(.iinc 5 1, 3, 5, 0, 0, .inl 1)] 99 102 _ _ _ (by decide +kernel) ?_
      show Go _ _ _ _ _ _ 102 [(5, vi (l5 + 1)), (6, vi r2.2), (0, rm 0), (1, vi l1), (2, vi l2), (3, vi l3), (4, vi l4)] [] (Y, (wI (wI r2.1 49 l4.toNatClampNeg ((r2.1.1 49 l4.toNatClampNeg) + ((r2.2 >>> (l1 &&& 31)) &&& 1))) 50 l4.toNatClampNeg (((wI r2.1 49 l4.toNatClampNeg ((r2.1.1 49 l4.toNatClampNeg) + ((r2.2 >>> (l1 &&& 31)) &&& 1))).1 50 l4.toNatClampNeg) + ((r2.2 >>> (l2 &&& 31)) &&& 1)), T)) _
      refine go_goto (off := (-47)) (tgt := 55) (by decide +kernel) (by decide) ?_
      refine go_pick [2, 3, 4, 5, 6, 0] rfl ?_
      exact ih _ _ _ h k
theorem f11_laysPaces_L1_ok {T : jT} {Y : jS × jT} {l1 : Int32} {l2 : Int32} {l3 : Int32} {Q : Option jV → jMem → Prop} (hT : LayM T) : ∀ (n : Nat) (S : jS) (l4 : Int32) (r : jS), f11_laysPaces_L1 l1 l2 l3 n S l4 = some r → Go M11_laysPaces 7 0 0 0 0 115 [] [] (Y, (r, T)) Q → Go M11_laysPaces 7 0 0 0 0 7 [(0, rm 0), (1, vi l1), (2, vi l2), (3, vi l3), (4, vi l4)] [] (Y, (S, T)) Q := by
  intro n
  induction n with
  | zero => intro S l4 r h k; exact absurd h (by intro z; cases z)
  | succ n ih =>
    intro S l4 r h k
    rw [f11_laysPaces_L1] at h
    refine go_blk rfl [(.iload 4, 2, 4, 0, 0, .inl 0), (.bipush 36, 2, 0, 0, 0, .inl 36)] 7 11 _ _ _ (by decide +kernel) ?_
    show Go _ _ _ _ _ _ 11 [(0, rm 0), (1, vi l1), (2, vi l2), (3, vi l3), (4, vi l4)] [vi 36, vi l4] (Y, (S, T)) _
    refine ite_el h (fun q1 h => ?_) (fun q1 h => ?_)
    · refine go_icmp_ge (off := 104) (tgt := 115) (by decide +kernel) (by decide) (fun _ => ?_) (fun z => absurd q1 z)
      obtain rfl := Option.some.inj h
      refine go_pick [] rfl ?_
      exact k
    · refine go_icmp_ge (off := 104) (tgt := 115) (by decide +kernel) (by decide) (fun z => absurd z q1) (fun _ => ?_)
      refine gd_el h (fun q2 h => ?_)
      refine go_blk rfl [(.aload_n 0, 1, 0, 0, 0, .inl 0), (.getfield 16, 3, 11, 3, 1, .inl 0), (.iload_n 1, 1, 1, 0, 0, .inl 0), (.iload 4, 2, 4, 0, 0, .inl 0), (.bipush 6, 2, 0, 0, 0, .inl 6), (.idiv, 1, 0, 0, 0, .inl 0), (.iastore, 1, 20, 0, 0, .inl 0)] 14 25 _ _ _ (by decide +kernel) ?_
      refine And.intro (lm_t0 hT) (Exists.intro _ (And.intro (gRm (lm_r3 hT)) ?_))
      refine And.intro (by decide) ?_
      refine And.intro (lm_t3 hT) (Exists.intro _ (And.intro (lm_n3 hT) (And.intro (inb_in q2) ?_)))
      show Go _ _ _ _ _ _ 25 [(0, rm 0), (1, vi l1), (2, vi l2), (3, vi l3), (4, vi l4)] [] (Y, (wI S 3 l1.toNatClampNeg (l4 / 6), T)) _
      refine gd_el h (fun q3 h => ?_)
      refine go_blk rfl [(.aload_n 0, 1, 0, 0, 0, .inl 0), (.getfield 16, 3, 11, 3, 1, .inl 0), (.iload_n 2, 1, 2, 0, 0, .inl 0), (.iload 4, 2, 4, 0, 0, .inl 0), (.bipush 6, 2, 0, 0, 0, .inl 6), (.irem, 1, 0, 0, 0, .inl 0), (.iastore, 1, 20, 0, 0, .inl 0)] 25 36 _ _ _ (by decide +kernel) ?_
      refine And.intro (lm_t0 hT) (Exists.intro _ (And.intro (gRm (lm_r3 hT)) ?_))
      refine And.intro (by decide) ?_
      refine And.intro (lm_t3 hT) (Exists.intro _ (And.intro (lm_n3 hT) (And.intro (inb_in q3) ?_)))
      show Go _ _ _ _ _ _ 36 [(0, rm 0), (1, vi l1), (2, vi l2), (3, vi l3), (4, vi l4)] [] (Y, (wI (wI S 3 l1.toNatClampNeg (l4 / 6)) 3 l2.toNatClampNeg (irm l4 6), T)) _
      refine gd_el h (fun q4 h => ?_)
      refine go_blk rfl [(.aload_n 0, 1, 0, 0, 0, .inl 0), (.getfield 118, 3, 11, 49, 1, .inl 0), (.iload 4, 2, 4, 0, 0, .inl 0), (.iconst 0, 1, 0, 0, 0, .inl 0), (.iastore, 1, 20, 0, 0, .inl 0)] 36 44 _ _ _ (by decide +kernel) ?_
      refine And.intro (lm_t0 hT) (Exists.intro _ (And.intro (gRm (lm_r49 hT)) ?_))
      refine And.intro (lm_t49 hT) (Exists.intro _ (And.intro (lm_n49 hT) (And.intro (inb_in q4) ?_)))
      show Go _ _ _ _ _ _ 44 [(0, rm 0), (1, vi l1), (2, vi l2), (3, vi l3), (4, vi l4)] [] (Y, (wI (wI (wI S 3 l1.toNatClampNeg (l4 / 6)) 3 l2.toNatClampNeg (irm l4 6)) 49 l4.toNatClampNeg 0, T)) _
      refine go_blk rfl [(.aload_n 0, 1, 0, 0, 0, .inl 0), (.getfield 121, 3, 11, 50, 1, .inl 0), (.iload 4, 2, 4, 0, 0, .inl 0), (.iconst 0, 1, 0, 0, 0, .inl 0), (.iastore, 1, 20, 0, 0, .inl 0)] 44 52 _ _ _ (by decide +kernel) ?_
      refine And.intro (lm_t0 hT) (Exists.intro _ (And.intro (gRm (lm_r50 hT)) ?_))
      refine And.intro (lm_t50 hT) (Exists.intro _ (And.intro (lm_n50 hT) (And.intro (inb_in q4) ?_)))
      show Go _ _ _ _ _ _ 52 [(0, rm 0), (1, vi l1), (2, vi l2), (3, vi l3), (4, vi l4)] [] (Y, (wI (wI (wI (wI S 3 l1.toNatClampNeg (l4 / 6)) 3 l2.toNatClampNeg (irm l4 6)) 49 l4.toNatClampNeg 0) 50 l4.toNatClampNeg 0, T)) _
      refine go_blk rfl [(.iconst 0, 1, 0, 0, 0, .inl 0), (.istore 5, 2, 5, 0, 0, .inl 0)] 52 55 _ _ _ (by decide +kernel) ?_
      show Go _ _ _ _ _ _ 55 [(5, vi 0), (0, rm 0), (1, vi l1), (2, vi l2), (3, vi l3), (4, vi l4)] [] (Y, (wI (wI (wI (wI S 3 l1.toNatClampNeg (l4 / 6)) 3 l2.toNatClampNeg (irm l4 6)) 49 l4.toNatClampNeg 0) 50 l4.toNatClampNeg 0, T)) _
      refine go_pick [1, 2, 3, 4, 5, 0] rfl ?_
      obtain ⟨y3, hy3, h⟩ := bind_el h
      refine f11_laysPaces_L2_ok hT _ _ _ _ hy3 ?_
      show Go _ _ _ _ _ _ 105 [(0, rm 0), (1, vi l1), (2, vi l2), (3, vi l3), (4, vi l4)] [] (Y, (y3, T)) _
      refine go_blk rfl [(.aload_n 0, 1, 0, 0, 0, .inl 0)] 105 106 _ _ _ (by decide +kernel) ?_
      show Go _ _ _ _ _ _ 106 [(0, rm 0), (1, vi l1), (2, vi l2), (3, vi l3), (4, vi l4)] [rm 0] (Y, (y3, T)) _
      obtain ⟨r4, hr4, h⟩ := bind_el h
      refine go_callV (idx := 444) (z := 0) (M' := M11_laysBack) (n := 0) (A := []) (v' := none) (μ' := (Y, (r4.1, T))) (d' := 3) (mc' := 0) (ms' := 0) (kc' := 0) (ks' := 0) (ci := 11) (x := .inr (.inl 0)) (by decide +kernel) ml_11_444 rfl wv11_laysBack rfl (by decide) rfl (lm_t0 hT) (ret11_laysBack hT hr4) (by decide) rfl rfl (Nat.le_of_ble_eq_true rfl) rfl (jag rfl rfl) ?_
      show Go _ _ _ _ _ _ 109 [(0, rm 0), (1, vi l1), (2, vi l2), (3, vi l3), (4, vi l4)] [] (Y, (r4.1, T)) _
      refine go_blk rfl [(.iinc 4 1, 3, 4, 0, 0, .inl 1)] 109 112 _ _ _ (by decide +kernel) ?_
      show Go _ _ _ _ _ _ 112 [(4, vi (l4 + 1)), (0, rm 0), (1, vi l1), (2, vi l2), (3, vi l3)] [] (Y, (r4.1, T)) _
      refine go_goto (off := (-105)) (tgt := 7) (by decide +kernel) (by decide) ?_
      refine go_pick [1, 2, 3, 4, 0] rfl ?_
      exact ih _ _ _ h k
theorem ret11_laysPaces {S : jS} {T : jT} {Y : jS × jT} {a0 : Int32} {a1 : Int32} {a2 : Int32} {S1 : jS} {x : Unit} (hT : LayM T) (h : f11_laysPaces S a0 a1 a2 = some (S1, x)) : Ret M11_laysPaces 7 0 0 [rm 0, vi a0, vi a1, vi a2] (Y, (S, T)) (none) (Y, (S1, T)) := by
  refine Ret.of (by decide +kernel) (Nat.le_of_ble_eq_true rfl) ?_
  unfold f11_laysPaces at h
  show Go _ _ _ _ _ _ 0 [(0, rm 0), (1, vi a0), (2, vi a1), (3, vi a2)] [] (Y, (S, T)) _
  refine go_blk rfl [(.aload_n 0, 1, 0, 0, 0, .inl 0)] 0 1 _ _ _ (by decide +kernel) ?_
  show Go _ _ _ _ _ _ 1 [(0, rm 0), (1, vi a0), (2, vi a1), (3, vi a2)] [rm 0] (Y, (S, T)) _
  obtain ⟨r1, hr1, h⟩ := bind_el h
  refine go_callV (idx := 438) (z := 0) (M' := M11_keepsAll) (n := 0) (A := []) (v' := none) (μ' := (Y, (r1.1, T))) (d' := 3) (mc' := 0) (ms' := 0) (kc' := 0) (ks' := 0) (ci := 11) (x := .inr (.inl 0)) (by decide +kernel) ml_11_438 rfl wv11_keepsAll rfl (by decide) rfl (lm_t0 hT) (ret11_keepsAll hT hr1) (by decide) rfl rfl (Nat.le_of_ble_eq_true rfl) rfl (jag rfl rfl) ?_
  show Go _ _ _ _ _ _ 4 [(0, rm 0), (1, vi a0), (2, vi a1), (3, vi a2)] [] (Y, (r1.1, T)) _
  refine go_blk rfl [(.iconst 0, 1, 0, 0, 0, .inl 0), (.istore 4, 2, 4, 0, 0, .inl 0)] 4 7 _ _ _ (by decide +kernel) ?_
  show Go _ _ _ _ _ _ 7 [(4, vi 0), (0, rm 0), (1, vi a0), (2, vi a1), (3, vi a2)] [] (Y, (r1.1, T)) _
  refine go_pick [1, 2, 3, 4, 0] rfl ?_
  obtain ⟨y5, hy5, h⟩ := bind_el h
  refine f11_laysPaces_L1_ok hT _ _ _ _ hy5 ?_
  show Go _ _ _ _ _ _ 115 [] [] (Y, (y5, T)) _
  obtain ⟨rfl, rfl⟩ := Prod.mk.inj (Option.some.inj h)
  exact go_return (by decide +kernel) rfl ⟨rfl, rfl⟩
def f11_isRest_L1 (S : jS) (l1 : Int32) (l2 : Int32) (l3 : Int32) : Nat → Int32 → Option Int32
  | 0, _ => none
  | n + 1, l4 => (if l3 ≤ l4 then some 1 else (if inb ((l3 * l4) + l2) 36 then (if inb ((l3 * l1) + l2) 36 then (if (S.1 49 ((l3 * l1) + l2).toNatClampNeg) < (S.1 49 ((l3 * l4) + l2).toNatClampNeg) then some 0 else (if inb ((l3 * l1) + l4) 36 then (if (S.1 50 ((l3 * l1) + l4).toNatClampNeg) ≤ (S.1 50 ((l3 * l1) + l2).toNatClampNeg) then f11_isRest_L1 S l1 l2 l3 n (l4 + 1) else some 0) else none)) else none) else none))
def f11_isRest (S : jS) (a0 : Int32) (a1 : Int32) : Option Int32 := f11_isRest_L1 S a0 a1 6 jF 0
theorem f11_isRest_L1_ok {T : jT} {Y : jS × jT} {S : jS} {l1 : Int32} {l2 : Int32} {l3 : Int32} {x : Int32} (hT : LayM T) : ∀ (n : Nat) (l4 : Int32), f11_isRest_L1 S l1 l2 l3 n l4 = some x → Go M11_isRest 1 0 0 0 0 6 [(0, rm 0), (1, vi l1), (2, vi l2), (3, vi l3), (4, vi l4)] [] (Y, (S, T)) (eqQ (some (vi x)) (Y, (S, T))) := by
  intro n
  induction n with
  | zero => intro l4 h; exact absurd h (by intro z; cases z)
  | succ n ih =>
    intro l4 h
    rw [f11_isRest_L1] at h
    refine go_blk rfl [(.iload 4, 2, 4, 0, 0, .inl 0), (.iload_n 3, 1, 3, 0, 0, .inl 0)] 6 9 _ _ _ (by decide +kernel) ?_
    show Go _ _ _ _ _ _ 9 [(0, rm 0), (1, vi l1), (2, vi l2), (3, vi l3), (4, vi l4)] [vi l3, vi l4] (Y, (S, T)) _
    refine ite_el h (fun q1 h => ?_) (fun q1 h => ?_)
    · refine go_icmp_ge (off := 59) (tgt := 68) (by decide +kernel) (by decide) (fun _ => ?_) (fun z => absurd q1 z)
      refine go_blk rfl [(.iconst 1, 1, 0, 0, 0, .inl 1)] 68 69 _ _ _ (by decide +kernel) ?_
      show Go _ _ _ _ _ _ 69 [(0, rm 0), (1, vi l1), (2, vi l2), (3, vi l3), (4, vi l4)] [vi 1] (Y, (S, T)) _
      obtain rfl := Option.some.inj h
      exact go_ireturn (by decide +kernel) rfl rfl ⟨rfl, rfl⟩
    · refine go_icmp_ge (off := 59) (tgt := 68) (by decide +kernel) (by decide) (fun z => absurd z q1) (fun _ => ?_)
      refine gd_el h (fun q2 h => ?_)
      refine gd_el h (fun q3 h => ?_)
      refine go_blk rfl [(.aload_n 0, 1, 0, 0, 0, .inl 0), (.getfield 118, 3, 11, 49, 1, .inl 0), (.iload_n 3, 1, 3, 0, 0, .inl 0), (.iload 4, 2, 4, 0, 0, .inl 0), (.imul, 1, 0, 0, 0, .inl 0), (.iload_n 2, 1, 2, 0, 0, .inl 0), (.iadd, 1, 0, 0, 0, .inl 0), (.iaload, 1, 20, 0, 0, .inl 0), (.aload_n 0, 1, 0, 0, 0, .inl 0), (.getfield 118, 3, 11, 49, 1, .inl 0), (.iload_n 3, 1, 3, 0, 0, .inl 0), (.iload_n 1, 1, 1, 0, 0, .inl 0), (.imul, 1, 0, 0, 0, .inl 0), (.iload_n 2, 1, 2, 0, 0, .inl 0), (.iadd, 1, 0, 0, 0, .inl 0), (.iaload, 1, 20, 0, 0, .inl 0)] 12 33 _ _ _ (by decide +kernel) ?_
      refine And.intro (lm_t0 hT) (Exists.intro _ (And.intro (gRm (lm_r49 hT)) ?_))
      refine And.intro (lm_t49 hT) (Exists.intro _ (And.intro (lm_n49 hT) (And.intro (inb_in q2) ?_)))
      refine And.intro (lm_t0 hT) (Exists.intro _ (And.intro (gRm (lm_r49 hT)) ?_))
      refine And.intro (lm_t49 hT) (Exists.intro _ (And.intro (lm_n49 hT) (And.intro (inb_in q3) ?_)))
      show Go _ _ _ _ _ _ 33 [(0, rm 0), (1, vi l1), (2, vi l2), (3, vi l3), (4, vi l4)] [vi (S.1 49 ((l3 * l1) + l2).toNatClampNeg), vi (S.1 49 ((l3 * l4) + l2).toNatClampNeg)] (Y, (S, T)) _
      refine ite_el h (fun q4 h => ?_) (fun q4 h => ?_)
      · refine go_icmp_gt (off := 27) (tgt := 60) (by decide +kernel) (by decide) (fun _ => ?_) (fun z => absurd q4 z)
        refine go_blk rfl [(.iconst 0, 1, 0, 0, 0, .inl 0)] 60 61 _ _ _ (by decide +kernel) ?_
        show Go _ _ _ _ _ _ 61 [(0, rm 0), (1, vi l1), (2, vi l2), (3, vi l3), (4, vi l4)] [vi 0] (Y, (S, T)) _
        obtain rfl := Option.some.inj h
        exact go_ireturn (by decide +kernel) rfl rfl ⟨rfl, rfl⟩
      · refine go_icmp_gt (off := 27) (tgt := 60) (by decide +kernel) (by decide) (fun z => absurd z q4) (fun _ => ?_)
        refine gd_el h (fun q5 h => ?_)
        refine go_blk rfl [(.aload_n 0, 1, 0, 0, 0, .inl 0), (.getfield 121, 3, 11, 50, 1, .inl 0), (.iload_n 3, 1, 3, 0, 0, .inl 0), (.iload_n 1, 1, 1, 0, 0, .inl 0), (.imul, 1, 0, 0, 0, .inl 0), (.iload 4, 2, 4, 0, 0, .inl 0), (.iadd, 1, 0, 0, 0, .inl 0), (.iaload, 1, 20, 0, 0, .inl 0), (.aload_n 0, 1, 0, 0, 0, .inl 0), (.getfield 121, 3, 11, 50, 1, .inl 0), (.iload_n 3, 1, 3, 0, 0, .inl 0), (.iload_n 1, 1, 1, 0, 0, .inl 0), (.imul, 1, 0, 0, 0, .inl 0), (.iload_n 2, 1, 2, 0, 0, .inl 0), (.iadd, 1, 0, 0, 0, .inl 0), (.iaload, 1, 20, 0, 0, .inl 0)] 36 57 _ _ _ (by decide +kernel) ?_
        refine And.intro (lm_t0 hT) (Exists.intro _ (And.intro (gRm (lm_r50 hT)) ?_))
        refine And.intro (lm_t50 hT) (Exists.intro _ (And.intro (lm_n50 hT) (And.intro (inb_in q5) ?_)))
        refine And.intro (lm_t0 hT) (Exists.intro _ (And.intro (gRm (lm_r50 hT)) ?_))
        refine And.intro (lm_t50 hT) (Exists.intro _ (And.intro (lm_n50 hT) (And.intro (inb_in q3) ?_)))
        show Go _ _ _ _ _ _ 57 [(0, rm 0), (1, vi l1), (2, vi l2), (3, vi l3), (4, vi l4)] [vi (S.1 50 ((l3 * l1) + l2).toNatClampNeg), vi (S.1 50 ((l3 * l1) + l4).toNatClampNeg)] (Y, (S, T)) _
        refine ite_el h (fun q6 h => ?_) (fun q6 h => ?_)
        · refine go_icmp_le (off := 5) (tgt := 62) (by decide +kernel) (by decide) (fun _ => ?_) (fun z => absurd q6 z)
          refine go_blk rfl [(.iinc 4 1, 3, 4, 0, 0, .inl 1)] 62 65 _ _ _ (by decide +kernel) ?_
          show Go _ _ _ _ _ _ 65 [(4, vi (l4 + 1)), (0, rm 0), (1, vi l1), (2, vi l2), (3, vi l3)] [] (Y, (S, T)) _
          refine go_goto (off := (-59)) (tgt := 6) (by decide +kernel) (by decide) ?_
          refine go_pick [1, 2, 3, 4, 0] rfl ?_
          exact ih _ h
        · refine go_icmp_le (off := 5) (tgt := 62) (by decide +kernel) (by decide) (fun z => absurd z q6) (fun _ => ?_)
          refine go_blk rfl [(.iconst 0, 1, 0, 0, 0, .inl 0)] 60 61 _ _ _ (by decide +kernel) ?_
          show Go _ _ _ _ _ _ 61 [(0, rm 0), (1, vi l1), (2, vi l2), (3, vi l3), (4, vi l4)] [vi 0] (Y, (S, T)) _
          obtain rfl := Option.some.inj h
          exact go_ireturn (by decide +kernel) rfl rfl ⟨rfl, rfl⟩
theorem ret11_isRest {S : jS} {T : jT} {Y : jS × jT} {a0 : Int32} {a1 : Int32} {x : Int32} (hT : LayM T) (h : f11_isRest S a0 a1 = some x) : Ret M11_isRest 1 0 0 [rm 0, vi a0, vi a1] (Y, (S, T)) (some (vi x)) (Y, (S, T)) := by
  refine Ret.of (by decide +kernel) (Nat.le_of_ble_eq_true rfl) ?_
  unfold f11_isRest at h
  show Go _ _ _ _ _ _ 0 [(0, rm 0), (1, vi a0), (2, vi a1)] [] (Y, (S, T)) _
  refine go_blk rfl [(.bipush 6, 2, 0, 0, 0, .inl 6), (.istore_n 3, 1, 3, 0, 0, .inl 0), (.iconst 0, 1, 0, 0, 0, .inl 0), (.istore 4, 2, 4, 0, 0, .inl 0)] 0 6 _ _ _ (by decide +kernel) ?_
  show Go _ _ _ _ _ _ 6 [(4, vi 0), (3, vi 6), (0, rm 0), (1, vi a0), (2, vi a1)] [] (Y, (S, T)) _
  refine go_pick [2, 3, 4, 1, 0] rfl ?_
  exact f11_isRest_L1_ok hT _ _ h
