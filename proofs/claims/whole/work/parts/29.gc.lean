def f1_trialFits_L1 (T : jT) (a0 : Nat) (a1 : Option Nat) : Nat → jS → Int32 → Option jS
  | 0, _, _ => none
  | n + 1, S, l3 => (if 20 < l3 then some S else Option.bind (f3_roundBy T S 71 a1) (fun r1 => (if inb l3 21 then f1_trialFits_L1 T a0 a1 n (wI r1.1 78 l3.toNatClampNeg (r1.1.1 71 4)) (l3 + 1) else none)))
def f1_trialFits_L2 (T : jT) (S : jS) (a0 : Nat) : Nat → Int32 → Option (jS × Int32)
  | 0, _ => none
  | n + 1, l3 => (if (S.1 a0 8) ≤ l3 then some (S, 1) else (if 10 ≤ l3 then some (S, 1) else (if inb l3 10 then (if (S.1 (a0 + 16) l3.toNatClampNeg) < 0 then some (S, 0) else (if 20 < (S.1 (a0 + 16) l3.toNatClampNeg) then some (S, 0) else (if inb (S.1 (a0 + 16) l3.toNatClampNeg) 21 then (if (((S.1 78 (S.1 (a0 + 16) l3.toNatClampNeg).toNatClampNeg) >>> ((S.1 (a0 + 17) l3.toNatClampNeg) &&& 31)) &&& 1) = (S.1 (a0 + 18) l3.toNatClampNeg) then f1_trialFits_L2 T S a0 n (l3 + 1) else some (S, 0)) else none))) else none)))
def f1_trialFits (T : jT) (S : jS) (a0 : Nat) (a1 : Option Nat) : Option (jS × Int32) := Option.bind (f1_trialFits_L1 T a0 a1 jF S 0) (fun y2 => f1_trialFits_L2 T y2 a0 jF 0)
theorem f1_trialFits_L1_ok {T : jT} {Y : jS × jT} {a0 : Nat} {a1 : Option Nat} {Q : Option jV → jMem → Prop} (hT : LayC T) (h0 : LayBook T a0) (h1 : ∀ q, a1 = some q → LayRule T q) : ∀ (n : Nat) (S : jS) (l3 : Int32) (r : jS), f1_trialFits_L1 T a0 a1 n S l3 = some r → Go M1_trialFits 6 0 0 0 0 40 [(0, rc 70), (1, rc a0)] [] ((r, T), Y) Q → Go M1_trialFits 6 0 0 0 0 2 [(0, rc 70), (1, rc a0), (2, vo a1), (3, vi l3)] [] ((S, T), Y) Q := by
  intro n
  induction n with
  | zero => intro S l3 r h k; exact absurd h (by intro z; cases z)
  | succ n ih =>
    intro S l3 r h k
    rw [f1_trialFits_L1] at h
    refine go_blk rfl [(.iload_n 3, 1, 3, 0, 0, .inl 0), (.bipush 20, 2, 0, 0, 0, .inl 20)] 2 5 _ _ _ (by decide +kernel) ?_
    show Go _ _ _ _ _ _ 5 [(0, rc 70), (1, rc a0), (2, vo a1), (3, vi l3)] [vi 20, vi l3] ((S, T), Y) _
    refine ite_el h (fun q1 h => ?_) (fun q1 h => ?_)
    · refine go_icmp_gt (off := 35) (tgt := 40) (by decide +kernel) (by decide) (fun _ => ?_) (fun z => absurd q1 z)
      obtain rfl := Option.some.inj h
      refine go_pick [0, 1] rfl ?_
      exact k
    · refine go_icmp_gt (off := 35) (tgt := 40) (by decide +kernel) (by decide) (fun z => absurd z q1) (fun _ => ?_)
      refine go_blk rfl [(.aload_n 0, 1, 0, 0, 0, .inl 0), (.getfield 29, 3, 1, 0, 1, .inl 0), (.aload_n 0, 1, 0, 0, 0, .inl 0), (.getfield 12, 3, 1, 1, 1, .inl 0), (.aload_n 2, 1, 2, 0, 0, .inl 0)] 8 17 _ _ _ (by decide +kernel) ?_
      refine And.intro (lc_t70 hT) (Exists.intro _ (And.intro (gRc (lc_r1_0 hT)) ?_))
      refine And.intro (lc_t70 hT) (Exists.intro _ (And.intro (gRc (lc_r1_1 hT)) ?_))
      show Go _ _ _ _ _ _ 17 [(0, rc 70), (1, rc a0), (2, vo a1), (3, vi l3)] [vo a1, rc 71, rc 17] ((S, T), Y) _
      obtain ⟨r1, hr1, h⟩ := bind_el h
      refine go_callV (idx := 33) (z := 1) (M' := M3_roundBy) (n := 2) (A := [rc 71, vo a1]) (v' := some (vi r1.2)) (μ' := ((r1.1, T), Y)) (d' := 5) (mc' := 0) (ms' := 0) (kc' := 0) (ks' := 0) (ci := 3) (x := .inl 17) (by decide +kernel) ml_1_33 rfl wv3_roundBy rfl (by decide) rfl (lc_t17 hT) (ret3_roundBy hT (lc_h71 hT) h1 hr1) (by decide) rfl rfl (Nat.le_of_ble_eq_true rfl) rfl (jag rfl rfl) ?_
      show Go _ _ _ _ _ _ 20 [(0, rc 70), (1, rc a0), (2, vo a1), (3, vi l3)] [vi r1.2] ((r1.1, T), Y) _
      refine gd_el h (fun q2 h => ?_)
      refine go_blk rfl [(.pop, 1, 0, 0, 0, .inl 0), (.aload_n 0, 1, 0, 0, 0, .inl 0), (.getfield 18, 3, 1, 2, 1, .inl 0), (.iload_n 3, 1, 3, 0, 0, .inl 0), (.aload_n 0, 1, 0, 0, 0, .inl 0), (.getfield 12, 3, 1, 1, 1, .inl 0), (.getfield 39, 3, 4, 4, 0, .inl 0), (.iastore, 1, 20, 0, 0, .inl 0)] 20 34 _ _ _ (by decide +kernel) ?_
      refine And.intro (lc_t70 hT) (Exists.intro _ (And.intro (gRc (lc_r1_2 hT)) ?_))
      refine And.intro (lc_t70 hT) (Exists.intro _ (And.intro (gRc (lc_r1_1 hT)) ?_))
      refine And.intro (lc_h71 hT).1 ?_
      refine And.intro (lc_t78 hT) (Exists.intro _ (And.intro (lc_n78 hT) (And.intro (inb_in q2) ?_)))
      show Go _ _ _ _ _ _ 34 [(0, rc 70), (1, rc a0), (2, vo a1), (3, vi l3)] [] ((wI r1.1 78 l3.toNatClampNeg (r1.1.1 71 4), T), Y) _
      refine go_blk rfl [(.iinc 3 1, 3, 3, 0, 0, .inl 1)] 34 37 _ _ _ (by decide +kernel) ?_
      show Go _ _ _ _ _ _ 37 [(3, vi (l3 + 1)), (0, rc 70), (1, rc a0), (2, vo a1)] [] ((wI r1.1 78 l3.toNatClampNeg (r1.1.1 71 4), T), Y) _
      refine go_goto (off := (-35)) (tgt := 2) (by decide +kernel) (by decide) ?_
      refine go_pick [1, 2, 3, 0] rfl ?_
      exact ih _ _ _ h k
theorem f1_trialFits_L2_ok {T : jT} {Y : jS × jT} {S : jS} {a0 : Nat} {a1 : Option Nat} {S1 : jS} {x : Int32} (hT : LayC T) (h0 : LayBook T a0) (h1 : ∀ q, a1 = some q → LayRule T q) : ∀ (n : Nat) (l3 : Int32), f1_trialFits_L2 T S a0 n l3 = some (S1, x) → Go M1_trialFits 6 0 0 0 0 42 [(0, rc 70), (1, rc a0), (3, vi l3)] [] ((S, T), Y) (eqQ (some (vi x)) ((S1, T), Y)) := by
  intro n
  induction n with
  | zero => intro l3 h; exact absurd h (by intro z; cases z)
  | succ n ih =>
    intro l3 h
    rw [f1_trialFits_L2] at h
    refine go_blk rfl [(.iload_n 3, 1, 3, 0, 0, .inl 0), (.aload_n 1, 1, 1, 0, 0, .inl 0), (.getfield 42, 3, 0, 8, 0, .inl 0)] 42 47 _ _ _ (by decide +kernel) ?_
    refine And.intro h0.1 ?_
    show Go _ _ _ _ _ _ 47 [(0, rc 70), (1, rc a0), (3, vi l3)] [vi (S.1 a0 8), vi l3] ((S, T), Y) _
    refine ite_el h (fun q3 h => ?_) (fun q3 h => ?_)
    · refine go_icmp_ge (off := 62) (tgt := 109) (by decide +kernel) (by decide) (fun _ => ?_) (fun z => absurd q3 z)
      refine go_blk rfl [(.iconst 1, 1, 0, 0, 0, .inl 1)] 109 110 _ _ _ (by decide +kernel) ?_
      show Go _ _ _ _ _ _ 110 [(0, rc 70), (1, rc a0), (3, vi l3)] [vi 1] ((S, T), Y) _
      obtain ⟨rfl, rfl⟩ := Prod.mk.inj (Option.some.inj h)
      exact go_ireturn (by decide +kernel) rfl rfl ⟨rfl, rfl⟩
    · refine go_icmp_ge (off := 62) (tgt := 109) (by decide +kernel) (by decide) (fun z => absurd z q3) (fun _ => ?_)
      refine go_blk rfl [(.iload_n 3, 1, 3, 0, 0, .inl 0), (.bipush 10, 2, 0, 0, 0, .inl 10)] 50 53 _ _ _ (by decide +kernel) ?_
      show Go _ _ _ _ _ _ 53 [(0, rc 70), (1, rc a0), (3, vi l3)] [vi 10, vi l3] ((S, T), Y) _
      refine ite_el h (fun q4 h => ?_) (fun q4 h => ?_)
      · refine go_icmp_ge (off := 56) (tgt := 109) (by decide +kernel) (by decide) (fun _ => ?_) (fun z => absurd q4 z)
        refine go_blk rfl [(.iconst 1, 1, 0, 0, 0, .inl 1)] 109 110 _ _ _ (by decide +kernel) ?_
        show Go _ _ _ _ _ _ 110 [(0, rc 70), (1, rc a0), (3, vi l3)] [vi 1] ((S, T), Y) _
        obtain ⟨rfl, rfl⟩ := Prod.mk.inj (Option.some.inj h)
        exact go_ireturn (by decide +kernel) rfl rfl ⟨rfl, rfl⟩
      · refine go_icmp_ge (off := 56) (tgt := 109) (by decide +kernel) (by decide) (fun z => absurd z q4) (fun _ => ?_)
        refine gd_el h (fun q5 h => ?_)
        refine go_blk rfl [(.aload_n 1, 1, 1, 0, 0, .inl 0), (.getfield 47, 3, 0, 5, 1, .inl 0), (.iload_n 3, 1, 3, 0, 0, .inl 0), (.iaload, 1, 20, 0, 0, .inl 0), (.istore 4, 2, 4, 0, 0, .inl 0), (.iload 4, 2, 4, 0, 0, .inl 0)] 56 66 _ _ _ (by decide +kernel) ?_
        refine And.intro h0.1 (Exists.intro _ (And.intro (gRc h0.2.2.2.2.1.1) ?_))
        refine And.intro h0.2.2.2.2.1.2.1 (Exists.intro _ (And.intro h0.2.2.2.2.1.2.2 (And.intro (inb_in q5) ?_)))
        show Go _ _ _ _ _ _ 66 [(4, vi (S.1 (a0 + 16) l3.toNatClampNeg)), (0, rc 70), (1, rc a0), (3, vi l3)] [vi (S.1 (a0 + 16) l3.toNatClampNeg)] ((S, T), Y) _
        refine ite_el h (fun q6 h => ?_) (fun q6 h => ?_)
        · refine go_if_lt (off := 35) (tgt := 101) (by decide +kernel) (by decide) (fun _ => ?_) (fun z => absurd q6 z)
          refine go_blk rfl [(.iconst 0, 1, 0, 0, 0, .inl 0)] 101 102 _ _ _ (by decide +kernel) ?_
          show Go _ _ _ _ _ _ 102 [(4, vi (S.1 (a0 + 16) l3.toNatClampNeg)), (0, rc 70), (1, rc a0), (3, vi l3)] [vi 0] ((S, T), Y) _
          obtain ⟨rfl, rfl⟩ := Prod.mk.inj (Option.some.inj h)
          exact go_ireturn (by decide +kernel) rfl rfl ⟨rfl, rfl⟩
        · refine go_if_lt (off := 35) (tgt := 101) (by decide +kernel) (by decide) (fun z => absurd z q6) (fun _ => ?_)
          refine go_blk rfl [(.iload 4, 2, 4, 0, 0, .inl 0), (.bipush 20, 2, 0, 0, 0, .inl 20)] 69 73 _ _ _ (by decide +kernel) ?_
          show Go _ _ _ _ _ _ 73 [(4, vi (S.1 (a0 + 16) l3.toNatClampNeg)), (0, rc 70), (1, rc a0), (3, vi l3)] [vi 20, vi (S.1 (a0 + 16) l3.toNatClampNeg)] ((S, T), Y) _
          refine ite_el h (fun q7 h => ?_) (fun q7 h => ?_)
          · refine go_icmp_gt (off := 28) (tgt := 101) (by decide +kernel) (by decide) (fun _ => ?_) (fun z => absurd q7 z)
            refine go_blk rfl [(.iconst 0, 1, 0, 0, 0, .inl 0)] 101 102 _ _ _ (by decide +kernel) ?_
            show Go _ _ _ _ _ _ 102 [(4, vi (S.1 (a0 + 16) l3.toNatClampNeg)), (0, rc 70), (1, rc a0), (3, vi l3)] [vi 0] ((S, T), Y) _
            obtain ⟨rfl, rfl⟩ := Prod.mk.inj (Option.some.inj h)
            exact go_ireturn (by decide +kernel) rfl rfl ⟨rfl, rfl⟩
          · refine go_icmp_gt (off := 28) (tgt := 101) (by decide +kernel) (by decide) (fun z => absurd z q7) (fun _ => ?_)
            refine gd_el h (fun q8 h => ?_)
            refine go_blk rfl [(.aload_n 0, 1, 0, 0, 0, .inl 0), (.getfield 18, 3, 1, 2, 1, .inl 0), (.iload 4, 2, 4, 0, 0, .inl 0), (.iaload, 1, 20, 0, 0, .inl 0), (.aload_n 1, 1, 1, 0, 0, .inl 0), (.getfield 50, 3, 0, 6, 1, .inl 0), (.iload_n 3, 1, 3, 0, 0, .inl 0), (.iaload, 1, 20, 0, 0, .inl 0), (.ishr, 1, 0, 0, 0, .inl 0), (.iconst 1, 1, 0, 0, 0, .inl 1), (.iand, 1, 0, 0, 0, .inl 0), (.aload_n 1, 1, 1, 0, 0, .inl 0), (.getfield 53, 3, 0, 7, 1, .inl 0), (.iload_n 3, 1, 3, 0, 0, .inl 0), (.iaload, 1, 20, 0, 0, .inl 0)] 76 98 _ _ _ (by decide +kernel) ?_
            refine And.intro (lc_t70 hT) (Exists.intro _ (And.intro (gRc (lc_r1_2 hT)) ?_))
            refine And.intro (lc_t78 hT) (Exists.intro _ (And.intro (lc_n78 hT) (And.intro (inb_in q8) ?_)))
            refine And.intro h0.1 (Exists.intro _ (And.intro (gRc h0.2.2.2.2.2.1.1) ?_))
            refine And.intro h0.2.2.2.2.2.1.2.1 (Exists.intro _ (And.intro h0.2.2.2.2.2.1.2.2 (And.intro (inb_in q5) ?_)))
            refine And.intro h0.1 (Exists.intro _ (And.intro (gRc h0.2.2.2.2.2.2.1.1) ?_))
            refine And.intro h0.2.2.2.2.2.2.1.2.1 (Exists.intro _ (And.intro h0.2.2.2.2.2.2.1.2.2 (And.intro (inb_in q5) ?_)))
            show Go _ _ _ _ _ _ 98 [(4, vi (S.1 (a0 + 16) l3.toNatClampNeg)), (0, rc 70), (1, rc a0), (3, vi l3)] [vi (S.1 (a0 + 18) l3.toNatClampNeg), vi (((S.1 78 (S.1 (a0 + 16) l3.toNatClampNeg).toNatClampNeg) >>> ((S.1 (a0 + 17) l3.toNatClampNeg) &&& 31)) &&& 1)] ((S, T), Y) _
            refine ite_el h (fun q9 h => ?_) (fun q9 h => ?_)
            · refine go_icmp_eq (off := 5) (tgt := 103) (by decide +kernel) (by decide) (fun _ => ?_) (fun z => absurd q9 z)
              refine go_blk rfl [(.iinc 3 1, 3, 3, 0, 0, .inl 1)] 103 106 _ _ _ (by decide +kernel) ?_
              show Go _ _ _ _ _ _ 106 [(3, vi (l3 + 1)), (4, vi (S.1 (a0 + 16) l3.toNatClampNeg)), (0, rc 70), (1, rc a0)] [] ((S, T), Y) _
              refine go_goto (off := (-64)) (tgt := 42) (by decide +kernel) (by decide) ?_
              refine go_pick [2, 3, 0] rfl ?_
              exact ih _ h
            · refine go_icmp_eq (off := 5) (tgt := 103) (by decide +kernel) (by decide) (fun z => absurd z q9) (fun _ => ?_)
              refine go_blk rfl [(.iconst 0, 1, 0, 0, 0, .inl 0)] 101 102 _ _ _ (by decide +kernel) ?_
              show Go _ _ _ _ _ _ 102 [(4, vi (S.1 (a0 + 16) l3.toNatClampNeg)), (0, rc 70), (1, rc a0), (3, vi l3)] [vi 0] ((S, T), Y) _
              obtain ⟨rfl, rfl⟩ := Prod.mk.inj (Option.some.inj h)
              exact go_ireturn (by decide +kernel) rfl rfl ⟨rfl, rfl⟩
theorem ret1_trialFits {S : jS} {T : jT} {Y : jS × jT} {a0 : Nat} {a1 : Option Nat} {S1 : jS} {x : Int32} (hT : LayC T) (h0 : LayBook T a0) (h1 : ∀ q, a1 = some q → LayRule T q) (h : f1_trialFits T S a0 a1 = some (S1, x)) : Ret M1_trialFits 6 0 0 [rc 70, rc a0, vo a1] ((S, T), Y) (some (vi x)) ((S1, T), Y) := by
  refine Ret.of (by decide +kernel) (Nat.le_of_ble_eq_true rfl) ?_
  unfold f1_trialFits at h
  show Go _ _ _ _ _ _ 0 [(0, rc 70), (1, rc a0), (2, vo a1)] [] ((S, T), Y) _
  refine go_blk rfl [(.iconst 0, 1, 0, 0, 0, .inl 0), (.istore_n 3, 1, 3, 0, 0, .inl 0)] 0 2 _ _ _ (by decide +kernel) ?_
  show Go _ _ _ _ _ _ 2 [(3, vi 0), (0, rc 70), (1, rc a0), (2, vo a1)] [] ((S, T), Y) _
  refine go_pick [1, 2, 3, 0] rfl ?_
  obtain ⟨y2, hy2, h⟩ := bind_el h
  refine f1_trialFits_L1_ok hT h0 h1 _ _ _ _ hy2 ?_
  show Go _ _ _ _ _ _ 40 [(0, rc 70), (1, rc a0)] [] ((y2, T), Y) _
  refine go_blk rfl [(.iconst 0, 1, 0, 0, 0, .inl 0), (.istore_n 3, 1, 3, 0, 0, .inl 0)] 40 42 _ _ _ (by decide +kernel) ?_
  show Go _ _ _ _ _ _ 42 [(3, vi 0), (0, rc 70), (1, rc a0)] [] ((y2, T), Y) _
  refine go_pick [1, 2, 0] rfl ?_
  exact f1_trialFits_L2_ok hT h0 h1 _ _ h
def f1_ruleFits (T : jT) (S : jS) (a0 : Nat) (a1 : Option Nat) : Option (jS × Int32) := Option.bind (f4_copyFrom S 71 (a0 + 1)) (fun r1 => Option.bind (f1_trialFits T r1.1 a0 a1) (fun r2 => (if r2.2 = 0 ∨ r2.2 = 1 then some (r2.1, r2.2) else none)))
theorem ret1_ruleFits {S : jS} {T : jT} {Y : jS × jT} {a0 : Nat} {a1 : Option Nat} {S1 : jS} {x : Int32} (hT : LayC T) (h0 : LayBook T a0) (h1 : ∀ q, a1 = some q → LayRule T q) (h : f1_ruleFits T S a0 a1 = some (S1, x)) : Ret M1_ruleFits 7 0 0 [rc 70, rc a0, vo a1] ((S, T), Y) (some (vi x)) ((S1, T), Y) := by
  refine Ret.of (by decide +kernel) (Nat.le_of_ble_eq_true rfl) ?_
  unfold f1_ruleFits at h
  show Go _ _ _ _ _ _ 0 [(0, rc 70), (1, rc a0), (2, vo a1)] [] ((S, T), Y) _
  refine go_blk rfl [(.aload_n 0, 1, 0, 0, 0, .inl 0), (.getfield 12, 3, 1, 1, 1, .inl 0), (.aload_n 1, 1, 1, 0, 0, .inl 0), (.getfield 56, 3, 0, 0, 1, .inl 0)] 0 8 _ _ _ (by decide +kernel) ?_
  refine And.intro (lc_t70 hT) (Exists.intro _ (And.intro (gRc (lc_r1_1 hT)) ?_))
  refine And.intro h0.1 (Exists.intro _ (And.intro (gRc h0.2.1.1) ?_))
  show Go _ _ _ _ _ _ 8 [(0, rc 70), (1, rc a0), (2, vo a1)] [rc (a0 + 1), rc 71] ((S, T), Y) _
  obtain ⟨r1, hr1, h⟩ := bind_el h
  refine go_callV (idx := 59) (z := 1) (M' := M4_copyFrom) (n := 1) (A := [rc (a0 + 1)]) (v' := none) (μ' := ((r1.1, T), Y)) (d' := 2) (mc' := 0) (ms' := 0) (kc' := 0) (ks' := 0) (ci := 4) (x := .inl 71) (by decide +kernel) ml_1_59 rfl wv4_copyFrom rfl (by decide) rfl (lc_h71 hT).1 (ret4_copyFrom (lc_h71 hT) (h0.2.1.2) hr1) (by decide) rfl rfl (Nat.le_of_ble_eq_true rfl) rfl (jag rfl rfl) ?_
  show Go _ _ _ _ _ _ 11 [(0, rc 70), (1, rc a0), (2, vo a1)] [] ((r1.1, T), Y) _
  refine go_blk rfl [(.aload_n 0, 1, 0, 0, 0, .inl 0), (.aload_n 1, 1, 1, 0, 0, .inl 0), (.aload_n 2, 1, 2, 0, 0, .inl 0)] 11 14 _ _ _ (by decide +kernel) ?_
  show Go _ _ _ _ _ _ 14 [(0, rc 70), (1, rc a0), (2, vo a1)] [vo a1, rc a0, rc 70] ((r1.1, T), Y) _
  obtain ⟨r2, hr2, h⟩ := bind_el h
  refine go_callV (idx := 63) (z := 0) (M' := M1_trialFits) (n := 2) (A := [rc a0, vo a1]) (v' := some (vi r2.2)) (μ' := ((r2.1, T), Y)) (d' := 6) (mc' := 0) (ms' := 0) (kc' := 0) (ks' := 0) (ci := 1) (x := .inl 70) (by decide +kernel) ml_1_63 rfl wv1_trialFits rfl (by decide) rfl (lc_t70 hT) (ret1_trialFits hT h0 h1 hr2) (by decide) rfl rfl (Nat.le_of_ble_eq_true rfl) rfl (jag rfl rfl) ?_
  show Go _ _ _ _ _ _ 17 [(0, rc 70), (1, rc a0), (2, vo a1)] [vi r2.2] ((r2.1, T), Y) _
  refine gd_el h (fun q h => ?_)
  obtain ⟨rfl, rfl⟩ := Prod.mk.inj (Option.some.inj h)
  exact go_ireturn (by decide +kernel) rfl (by rcases q with q | q <;> rw [q] <;> rfl) ⟨rfl, rfl⟩
def f1_fittingSteps_L1 (T : jT) (a0 : Nat) (a1 : Option Nat) (l3 : Int32) : Nat → jS → Int32 → Int32 → Option (jS × Int32)
  | 0, _, _, _ => none
  | n + 1, S, l4, l5 => (if 6 ≤ l5 then some (S, l4) else Option.bind (f4_copyFrom S 71 (a0 + 1)) (fun r1 => (if inb l3 7 then Option.bind (f1_trialFits T (wI r1.1 (71 + 3) l3.toNatClampNeg l5) a0 a1) (fun r2 => f1_fittingSteps_L1 T a0 a1 l3 n r2.1 (((if r2.2 = 0 then l4 else (l4 ||| ((1 : Int32) <<< (l5 &&& 31)))) : Int32)) (l5 + 1)) else none)))
def f1_fittingSteps (T : jT) (S : jS) (a0 : Nat) (a1 : Option Nat) (a2 : Int32) : Option (jS × Int32) := Option.bind (f1_fittingSteps_L1 T a0 a1 a2 jF S 0 0) (fun y3 => some (y3.1, y3.2))
theorem f1_fittingSteps_L1_ok {T : jT} {Y : jS × jT} {a0 : Nat} {a1 : Option Nat} {l3 : Int32} {Q : Option jV → jMem → Prop} (hT : LayC T) (h0 : LayBook T a0) (h1 : ∀ q, a1 = some q → LayRule T q) : ∀ (n : Nat) (S : jS) (l4 : Int32) (l5 : Int32) (r : (jS × Int32)), f1_fittingSteps_L1 T a0 a1 l3 n S l4 l5 = some r → Go M1_fittingSteps 7 0 0 0 0 59 [(4, vi r.2)] [] ((r.1, T), Y) Q → Go M1_fittingSteps 7 0 0 0 0 6 [(0, rc 70), (1, rc a0), (2, vo a1), (3, vi l3), (4, vi l4), (5, vi l5)] [] ((S, T), Y) Q := by
  intro n
  induction n with
  | zero => intro S l4 l5 r h k; exact absurd h (by intro z; cases z)
  | succ n ih =>
    intro S l4 l5 r h k
    rw [f1_fittingSteps_L1] at h
    refine go_blk rfl [(.iload 5, 2, 5, 0, 0, .inl 0), (.bipush 6, 2, 0, 0, 0, .inl 6)] 6 10 _ _ _ (by decide +kernel) ?_
    show Go _ _ _ _ _ _ 10 [(0, rc 70), (1, rc a0), (2, vo a1), (3, vi l3), (4, vi l4), (5, vi l5)] [vi 6, vi l5] ((S, T), Y) _
    refine ite_el h (fun q1 h => ?_) (fun q1 h => ?_)
    · refine go_icmp_ge (off := 49) (tgt := 59) (by decide +kernel) (by decide) (fun _ => ?_) (fun z => absurd q1 z)
      obtain rfl := Option.some.inj h
      refine go_pick [4] rfl ?_
      exact k
    · refine go_icmp_ge (off := 49) (tgt := 59) (by decide +kernel) (by decide) (fun z => absurd z q1) (fun _ => ?_)
      refine go_blk rfl [(.aload_n 0, 1, 0, 0, 0, .inl 0), (.getfield 12, 3, 1, 1, 1, .inl 0), (.aload_n 1, 1, 1, 0, 0, .inl 0), (.getfield 56, 3, 0, 0, 1, .inl 0)] 13 21 _ _ _ (by decide +kernel) ?_
      refine And.intro (lc_t70 hT) (Exists.intro _ (And.intro (gRc (lc_r1_1 hT)) ?_))
      refine And.intro h0.1 (Exists.intro _ (And.intro (gRc h0.2.1.1) ?_))
      show Go _ _ _ _ _ _ 21 [(0, rc 70), (1, rc a0), (2, vo a1), (3, vi l3), (4, vi l4), (5, vi l5)] [rc (a0 + 1), rc 71] ((S, T), Y) _
      obtain ⟨r1, hr1, h⟩ := bind_el h
      refine go_callV (idx := 59) (z := 1) (M' := M4_copyFrom) (n := 1) (A := [rc (a0 + 1)]) (v' := none) (μ' := ((r1.1, T), Y)) (d' := 2) (mc' := 0) (ms' := 0) (kc' := 0) (ks' := 0) (ci := 4) (x := .inl 71) (by decide +kernel) ml_1_59 rfl wv4_copyFrom rfl (by decide) rfl (lc_h71 hT).1 (ret4_copyFrom (lc_h71 hT) (h0.2.1.2) hr1) (by decide) rfl rfl (Nat.le_of_ble_eq_true rfl) rfl (jag rfl rfl) ?_
      show Go _ _ _ _ _ _ 24 [(0, rc 70), (1, rc a0), (2, vo a1), (3, vi l3), (4, vi l4), (5, vi l5)] [] ((r1.1, T), Y) _
      refine gd_el h (fun q2 h => ?_)
      refine go_blk rfl [(.aload_n 0, 1, 0, 0, 0, .inl 0), (.getfield 12, 3, 1, 1, 1, .inl 0), (.getfield 67, 3, 4, 10, 1, .inl 0), (.iload_n 3, 1, 3, 0, 0, .inl 0), (.iload 5, 2, 5, 0, 0, .inl 0), (.iastore, 1, 20, 0, 0, .inl 0)] 24 35 _ _ _ (by decide +kernel) ?_
      refine And.intro (lc_t70 hT) (Exists.intro _ (And.intro (gRc (lc_r1_1 hT)) ?_))
      refine And.intro (lc_h71 hT).1 (Exists.intro _ (And.intro (gRc (lc_h71 hT).2.2.2.1.1) ?_))
      refine And.intro (lc_h71 hT).2.2.2.1.2.1 (Exists.intro _ (And.intro (lc_h71 hT).2.2.2.1.2.2 (And.intro (inb_in q2) ?_)))
      show Go _ _ _ _ _ _ 35 [(0, rc 70), (1, rc a0), (2, vo a1), (3, vi l3), (4, vi l4), (5, vi l5)] [] ((wI r1.1 (71 + 3) l3.toNatClampNeg l5, T), Y) _
      refine go_blk rfl [(.aload_n 0, 1, 0, 0, 0, .inl 0), (.aload_n 1, 1, 1, 0, 0, .inl 0), (.aload_n 2, 1, 2, 0, 0, .inl 0)] 35 38 _ _ _ (by decide +kernel) ?_
      show Go _ _ _ _ _ _ 38 [(0, rc 70), (1, rc a0), (2, vo a1), (3, vi l3), (4, vi l4), (5, vi l5)] [vo a1, rc a0, rc 70] ((wI r1.1 (71 + 3) l3.toNatClampNeg l5, T), Y) _
      obtain ⟨r2, hr2, h⟩ := bind_el h
      refine go_callV (idx := 63) (z := 0) (M' := M1_trialFits) (n := 2) (A := [rc a0, vo a1]) (v' := some (vi r2.2)) (μ' := ((r2.1, T), Y)) (d' := 6) (mc' := 0) (ms' := 0) (kc' := 0) (ks' := 0) (ci := 1) (x := .inl 70) (by decide +kernel) ml_1_63 rfl wv1_trialFits rfl (by decide) rfl (lc_t70 hT) (ret1_trialFits hT h0 h1 hr2) (by decide) rfl rfl (Nat.le_of_ble_eq_true rfl) rfl (jag rfl rfl) ?_
      show Go _ _ _ _ _ _ 41 [(0, rc 70), (1, rc a0), (2, vo a1), (3, vi l3), (4, vi l4), (5, vi l5)] [vi r2.2] ((r2.1, T), Y) _
      have key : ∀ z0 : Int32, z0 = ((if r2.2 = 0 then l4 else (l4 ||| ((1 : Int32) <<< (l5 &&& 31)))) : Int32) → Go M1_fittingSteps 7 0 0 0 0 53 [(0, rc 70), (1, rc a0), (2, vo a1), (3, vi l3), (4, vi z0), (5, vi l5)] [] ((r2.1, T), Y) Q := by
        intro z0 ez0
        subst ez0
        refine go_blk rfl [(.iinc 5 1, 3, 5, 0, 0, .inl 1)] 53 56 _ _ _ (by decide +kernel) ?_
        show Go _ _ _ _ _ _ 56 [(5, vi (l5 + 1)), (0, rc 70), (1, rc a0), (2, vo a1), (3, vi l3), (4, vi (((if r2.2 = 0 then l4 else (l4 ||| ((1 : Int32) <<< (l5 &&& 31)))) : Int32)))] [] ((r2.1, T), Y) _
        refine go_goto (off := (-50)) (tgt := 6) (by decide +kernel) (by decide) ?_
        refine go_pick [1, 2, 3, 4, 5, 0] rfl ?_
        exact ih _ _ _ _ h k
      clear h
      by_cases q3 : r2.2 = 0
      · refine go_if_eq (off := 12) (tgt := 53) (by decide +kernel) (by decide) (fun _ => ?_) (fun z => absurd q3 z)
        refine go_pick [0, 1, 2, 3, 4, 5] rfl ?_; exact key _ (by rw [if_pos q3])
      · refine go_if_eq (off := 12) (tgt := 53) (by decide +kernel) (by decide) (fun z => absurd z q3) (fun _ => ?_)
        refine go_blk rfl [(.iload 4, 2, 4, 0, 0, .inl 0), (.iconst 1, 1, 0, 0, 0, .inl 1), (.iload 5, 2, 5, 0, 0, .inl 0), (.ishl, 1, 0, 0, 0, .inl 0), (.ior, 1, 0, 0, 0, .inl 0), (.istore 4, 2, 4, 0, 0, .inl 0)] 44 53 _ _ _ (by decide +kernel) ?_
        show Go _ _ _ _ _ _ 53 [(4, vi (l4 ||| ((1 : Int32) <<< (l5 &&& 31)))), (0, rc 70), (1, rc a0), (2, vo a1), (3, vi l3), (5, vi l5)] [] ((r2.1, T), Y) _
        refine go_pick [1, 2, 3, 4, 0, 5] rfl ?_; exact key _ (by rw [if_neg q3])
theorem ret1_fittingSteps {S : jS} {T : jT} {Y : jS × jT} {a0 : Nat} {a1 : Option Nat} {a2 : Int32} {S1 : jS} {x : Int32} (hT : LayC T) (h0 : LayBook T a0) (h1 : ∀ q, a1 = some q → LayRule T q) (h : f1_fittingSteps T S a0 a1 a2 = some (S1, x)) : Ret M1_fittingSteps 7 0 0 [rc 70, rc a0, vo a1, vi a2] ((S, T), Y) (some (vi x)) ((S1, T), Y) := by
  refine Ret.of (by decide +kernel) (Nat.le_of_ble_eq_true rfl) ?_
  unfold f1_fittingSteps at h
  show Go _ _ _ _ _ _ 0 [(0, rc 70), (1, rc a0), (2, vo a1), (3, vi a2)] [] ((S, T), Y) _
  refine go_blk rfl [(.iconst 0, 1, 0, 0, 0, .inl 0), (.istore 4, 2, 4, 0, 0, .inl 0), (.iconst 0, 1, 0, 0, 0, .inl 0), (.istore 5, 2, 5, 0, 0, .inl 0)] 0 6 _ _ _ (by decide +kernel) ?_
  show Go _ _ _ _ _ _ 6 [(5, vi 0), (4, vi 0), (0, rc 70), (1, rc a0), (2, vo a1), (3, vi a2)] [] ((S, T), Y) _
  refine go_pick [2, 3, 4, 5, 1, 0] rfl ?_
  obtain ⟨y3, hy3, h⟩ := bind_el h
  refine f1_fittingSteps_L1_ok hT h0 h1 _ _ _ _ _ hy3 ?_
  show Go _ _ _ _ _ _ 59 [(4, vi y3.2)] [] ((y3.1, T), Y) _
  refine go_blk rfl [(.iload 4, 2, 4, 0, 0, .inl 0)] 59 61 _ _ _ (by decide +kernel) ?_
  show Go _ _ _ _ _ _ 61 [(4, vi y3.2)] [vi y3.2] ((y3.1, T), Y) _
  obtain ⟨rfl, rfl⟩ := Prod.mk.inj (Option.some.inj h)
  exact go_ireturn (by decide +kernel) rfl rfl ⟨rfl, rfl⟩
def f1_fittingQuicks_L1 (T : jT) (a0 : Nat) (a1 : Option Nat) (l3 : Int32) : Nat → jS → Int32 → Int32 → Option (jS × Int32)
  | 0, _, _, _ => none
  | n + 1, S, l4, l5 => (if 9 < l5 then some (S, l4) else Option.bind (f4_copyFrom S 71 (a0 + 1)) (fun r1 => (if inb l3 7 then Option.bind (f1_trialFits T (wI r1.1 (71 + 4) l3.toNatClampNeg l5) a0 a1) (fun r2 => f1_fittingQuicks_L1 T a0 a1 l3 n r2.1 (((if r2.2 = 0 then l4 else (l4 ||| ((1 : Int32) <<< (l5 &&& 31)))) : Int32)) (l5 + 1)) else none)))
def f1_fittingQuicks (T : jT) (S : jS) (a0 : Nat) (a1 : Option Nat) (a2 : Int32) : Option (jS × Int32) := Option.bind (f1_fittingQuicks_L1 T a0 a1 a2 jF S 0 1) (fun y3 => some (y3.1, y3.2))
theorem f1_fittingQuicks_L1_ok {T : jT} {Y : jS × jT} {a0 : Nat} {a1 : Option Nat} {l3 : Int32} {Q : Option jV → jMem → Prop} (hT : LayC T) (h0 : LayBook T a0) (h1 : ∀ q, a1 = some q → LayRule T q) : ∀ (n : Nat) (S : jS) (l4 : Int32) (l5 : Int32) (r : (jS × Int32)), f1_fittingQuicks_L1 T a0 a1 l3 n S l4 l5 = some r → Go M1_fittingQuicks 7 0 0 0 0 59 [(4, vi r.2)] [] ((r.1, T), Y) Q → Go M1_fittingQuicks 7 0 0 0 0 6 [(0, rc 70), (1, rc a0), (2, vo a1), (3, vi l3), (4, vi l4), (5, vi l5)] [] ((S, T), Y) Q := by
  intro n
  induction n with
  | zero => intro S l4 l5 r h k; exact absurd h (by intro z; cases z)
  | succ n ih =>
    intro S l4 l5 r h k
    rw [f1_fittingQuicks_L1] at h
    refine go_blk rfl [(.iload 5, 2, 5, 0, 0, .inl 0), (.bipush 9, 2, 0, 0, 0, .inl 9)] 6 10 _ _ _ (by decide +kernel) ?_
    show Go _ _ _ _ _ _ 10 [(0, rc 70), (1, rc a0), (2, vo a1), (3, vi l3), (4, vi l4), (5, vi l5)] [vi 9, vi l5] ((S, T), Y) _
    refine ite_el h (fun q1 h => ?_) (fun q1 h => ?_)
    · refine go_icmp_gt (off := 49) (tgt := 59) (by decide +kernel) (by decide) (fun _ => ?_) (fun z => absurd q1 z)
      obtain rfl := Option.some.inj h
      refine go_pick [4] rfl ?_
      exact k
    · refine go_icmp_gt (off := 49) (tgt := 59) (by decide +kernel) (by decide) (fun z => absurd z q1) (fun _ => ?_)
      refine go_blk rfl [(.aload_n 0, 1, 0, 0, 0, .inl 0), (.getfield 12, 3, 1, 1, 1, .inl 0), (.aload_n 1, 1, 1, 0, 0, .inl 0), (.getfield 56, 3, 0, 0, 1, .inl 0)] 13 21 _ _ _ (by decide +kernel) ?_
      refine And.intro (lc_t70 hT) (Exists.intro _ (And.intro (gRc (lc_r1_1 hT)) ?_))
      refine And.intro h0.1 (Exists.intro _ (And.intro (gRc h0.2.1.1) ?_))
      show Go _ _ _ _ _ _ 21 [(0, rc 70), (1, rc a0), (2, vo a1), (3, vi l3), (4, vi l4), (5, vi l5)] [rc (a0 + 1), rc 71] ((S, T), Y) _
      obtain ⟨r1, hr1, h⟩ := bind_el h
      refine go_callV (idx := 59) (z := 1) (M' := M4_copyFrom) (n := 1) (A := [rc (a0 + 1)]) (v' := none) (μ' := ((r1.1, T), Y)) (d' := 2) (mc' := 0) (ms' := 0) (kc' := 0) (ks' := 0) (ci := 4) (x := .inl 71) (by decide +kernel) ml_1_59 rfl wv4_copyFrom rfl (by decide) rfl (lc_h71 hT).1 (ret4_copyFrom (lc_h71 hT) (h0.2.1.2) hr1) (by decide) rfl rfl (Nat.le_of_ble_eq_true rfl) rfl (jag rfl rfl) ?_
      show Go _ _ _ _ _ _ 24 [(0, rc 70), (1, rc a0), (2, vo a1), (3, vi l3), (4, vi l4), (5, vi l5)] [] ((r1.1, T), Y) _
      refine gd_el h (fun q2 h => ?_)
      refine go_blk rfl [(.aload_n 0, 1, 0, 0, 0, .inl 0), (.getfield 12, 3, 1, 1, 1, .inl 0), (.getfield 70, 3, 4, 11, 1, .inl 0), (.iload_n 3, 1, 3, 0, 0, .inl 0), (.iload 5, 2, 5, 0, 0, .inl 0), (.iastore, 1, 20, 0, 0, .inl 0)] 24 35 _ _ _ (by decide +kernel) ?_
      refine And.intro (lc_t70 hT) (Exists.intro _ (And.intro (gRc (lc_r1_1 hT)) ?_))
      refine And.intro (lc_h71 hT).1 (Exists.intro _ (And.intro (gRc (lc_h71 hT).2.2.2.2.1.1) ?_))
      refine And.intro (lc_h71 hT).2.2.2.2.1.2.1 (Exists.intro _ (And.intro (lc_h71 hT).2.2.2.2.1.2.2 (And.intro (inb_in q2) ?_)))
      show Go _ _ _ _ _ _ 35 [(0, rc 70), (1, rc a0), (2, vo a1), (3, vi l3), (4, vi l4), (5, vi l5)] [] ((wI r1.1 (71 + 4) l3.toNatClampNeg l5, T), Y) _
      refine go_blk rfl [(.aload_n 0, 1, 0, 0, 0, .inl 0), (.aload_n 1, 1, 1, 0, 0, .inl 0), (.aload_n 2, 1, 2, 0, 0, .inl 0)] 35 38 _ _ _ (by decide +kernel) ?_
      show Go _ _ _ _ _ _ 38 [(0, rc 70), (1, rc a0), (2, vo a1), (3, vi l3), (4, vi l4), (5, vi l5)] [vo a1, rc a0, rc 70] ((wI r1.1 (71 + 4) l3.toNatClampNeg l5, T), Y) _
      obtain ⟨r2, hr2, h⟩ := bind_el h
      refine go_callV (idx := 63) (z := 0) (M' := M1_trialFits) (n := 2) (A := [rc a0, vo a1]) (v' := some (vi r2.2)) (μ' := ((r2.1, T), Y)) (d' := 6) (mc' := 0) (ms' := 0) (kc' := 0) (ks' := 0) (ci := 1) (x := .inl 70) (by decide +kernel) ml_1_63 rfl wv1_trialFits rfl (by decide) rfl (lc_t70 hT) (ret1_trialFits hT h0 h1 hr2) (by decide) rfl rfl (Nat.le_of_ble_eq_true rfl) rfl (jag rfl rfl) ?_
      show Go _ _ _ _ _ _ 41 [(0, rc 70), (1, rc a0), (2, vo a1), (3, vi l3), (4, vi l4), (5, vi l5)] [vi r2.2] ((r2.1, T), Y) _
      have key : ∀ z0 : Int32, z0 = ((if r2.2 = 0 then l4 else (l4 ||| ((1 : Int32) <<< (l5 &&& 31)))) : Int32) → Go M1_fittingQuicks 7 0 0 0 0 53 [(0, rc 70), (1, rc a0), (2, vo a1), (3, vi l3), (4, vi z0), (5, vi l5)] [] ((r2.1, T), Y) Q := by
        intro z0 ez0
        subst ez0
        refine go_blk rfl [(.iinc 5 1, 3, 5, 0, 0, .inl 1)] 53 56 _ _ _ (by decide +kernel) ?_
        show Go _ _ _ _ _ _ 56 [(5, vi (l5 + 1)), (0, rc 70), (1, rc a0), (2, vo a1), (3, vi l3), (4, vi (((if r2.2 = 0 then l4 else (l4 ||| ((1 : Int32) <<< (l5 &&& 31)))) : Int32)))] [] ((r2.1, T), Y) _
        refine go_goto (off := (-50)) (tgt := 6) (by decide +kernel) (by decide) ?_
        refine go_pick [1, 2, 3, 4, 5, 0] rfl ?_
        exact ih _ _ _ _ h k
      clear h
      by_cases q3 : r2.2 = 0
      · refine go_if_eq (off := 12) (tgt := 53) (by decide +kernel) (by decide) (fun _ => ?_) (fun z => absurd q3 z)
        refine go_pick [0, 1, 2, 3, 4, 5] rfl ?_; exact key _ (by rw [if_pos q3])
      · refine go_if_eq (off := 12) (tgt := 53) (by decide +kernel) (by decide) (fun z => absurd z q3) (fun _ => ?_)
        refine go_blk rfl [(.iload 4, 2, 4, 0, 0, .inl 0), (.iconst 1, 1, 0, 0, 0, .inl 1), (.iload 5, 2, 5, 0, 0, .inl 0), (.ishl, 1, 0, 0, 0, .inl 0), (.ior, 1, 0, 0, 0, .inl 0), (.istore 4, 2, 4, 0, 0, .inl 0)] 44 53 _ _ _ (by decide +kernel) ?_
        show Go _ _ _ _ _ _ 53 [(4, vi (l4 ||| ((1 : Int32) <<< (l5 &&& 31)))), (0, rc 70), (1, rc a0), (2, vo a1), (3, vi l3), (5, vi l5)] [] ((r2.1, T), Y) _
        refine go_pick [1, 2, 3, 4, 0, 5] rfl ?_; exact key _ (by rw [if_neg q3])
theorem ret1_fittingQuicks {S : jS} {T : jT} {Y : jS × jT} {a0 : Nat} {a1 : Option Nat} {a2 : Int32} {S1 : jS} {x : Int32} (hT : LayC T) (h0 : LayBook T a0) (h1 : ∀ q, a1 = some q → LayRule T q) (h : f1_fittingQuicks T S a0 a1 a2 = some (S1, x)) : Ret M1_fittingQuicks 7 0 0 [rc 70, rc a0, vo a1, vi a2] ((S, T), Y) (some (vi x)) ((S1, T), Y) := by
  refine Ret.of (by decide +kernel) (Nat.le_of_ble_eq_true rfl) ?_
  unfold f1_fittingQuicks at h
  show Go _ _ _ _ _ _ 0 [(0, rc 70), (1, rc a0), (2, vo a1), (3, vi a2)] [] ((S, T), Y) _
  refine go_blk rfl [(.iconst 0, 1, 0, 0, 0, .inl 0), (.istore 4, 2, 4, 0, 0, .inl 0), (.iconst 1, 1, 0, 0, 0, .inl 1), (.istore 5, 2, 5, 0, 0, .inl 0)] 0 6 _ _ _ (by decide +kernel) ?_
  show Go _ _ _ _ _ _ 6 [(5, vi 1), (4, vi 0), (0, rc 70), (1, rc a0), (2, vo a1), (3, vi a2)] [] ((S, T), Y) _
  refine go_pick [2, 3, 4, 5, 1, 0] rfl ?_
  obtain ⟨y3, hy3, h⟩ := bind_el h
  refine f1_fittingQuicks_L1_ok hT h0 h1 _ _ _ _ _ hy3 ?_
  show Go _ _ _ _ _ _ 59 [(4, vi y3.2)] [] ((y3.1, T), Y) _
  refine go_blk rfl [(.iload 4, 2, 4, 0, 0, .inl 0)] 59 61 _ _ _ (by decide +kernel) ?_
  show Go _ _ _ _ _ _ 61 [(4, vi y3.2)] [vi y3.2] ((y3.1, T), Y) _
  obtain ⟨rfl, rfl⟩ := Prod.mk.inj (Option.some.inj h)
  exact go_ireturn (by decide +kernel) rfl rfl ⟨rfl, rfl⟩
def f18_fill_L1 (a0 : Nat) (n0 : Nat) (l1 : Int32) (l3 : Int32) : Nat → jS → Int32 → Option jS
  | 0, _, _ => none
  | n + 1, S, l2 => (if l3 ≤ l2 then some S else (if inb l2 n0 then f18_fill_L1 a0 n0 l1 l3 n (wI S a0 l2.toNatClampNeg l1) (l2 + 1) else none))
def f18_fill (S : jS) (a0 : Nat) (n0 : Nat) (a1 : Int32) : Option (jS × Unit) := Option.bind (f18_fill_L1 a0 n0 a1 (nI n0) jF S 0) (fun y1 => some (y1, ()))
theorem f18_fill_L1_ok {T : jT} {Y : jS × jT} {a0 : Nat} {n0 : Nat} {l1 : Int32} {l3 : Int32} {Q : Option jV → jMem → Prop} (h0 : T.2.1 a0 = 20 ∧ T.2.2.1 a0 = n0) : ∀ (n : Nat) (S : jS) (l2 : Int32) (r : jS), f18_fill_L1 a0 n0 l1 l3 n S l2 = some r → Go M18_fill 1 0 0 0 0 20 [] [] ((r, T), Y) Q → Go M18_fill 1 0 0 0 0 5 [(0, rc a0), (1, vi l1), (2, vi l2), (3, vi l3)] [] ((S, T), Y) Q := by
  intro n
  induction n with
  | zero => intro S l2 r h k; exact absurd h (by intro z; cases z)
  | succ n ih =>
    intro S l2 r h k
    rw [f18_fill_L1] at h
    refine go_blk rfl [(.iload_n 2, 1, 2, 0, 0, .inl 0), (.iload_n 3, 1, 3, 0, 0, .inl 0)] 5 7 _ _ _ (by decide +kernel) ?_
    show Go _ _ _ _ _ _ 7 [(0, rc a0), (1, vi l1), (2, vi l2), (3, vi l3)] [vi l3, vi l2] ((S, T), Y) _
    refine ite_el h (fun q1 h => ?_) (fun q1 h => ?_)
    · refine go_icmp_ge (off := 13) (tgt := 20) (by decide +kernel) (by decide) (fun _ => ?_) (fun z => absurd q1 z)
      obtain rfl := Option.some.inj h
      refine go_pick [] rfl ?_
      exact k
    · refine go_icmp_ge (off := 13) (tgt := 20) (by decide +kernel) (by decide) (fun z => absurd z q1) (fun _ => ?_)
      refine gd_el h (fun q2 h => ?_)
      refine go_blk rfl [(.aload_n 0, 1, 0, 0, 0, .inl 0), (.iload_n 2, 1, 2, 0, 0, .inl 0), (.iload_n 1, 1, 1, 0, 0, .inl 0), (.iastore, 1, 20, 0, 0, .inl 0)] 10 14 _ _ _ (by decide +kernel) ?_
      refine And.intro h0.1 (Exists.intro _ (And.intro h0.2 (And.intro (inb_in q2) ?_)))
      show Go _ _ _ _ _ _ 14 [(0, rc a0), (1, vi l1), (2, vi l2), (3, vi l3)] [] ((wI S a0 l2.toNatClampNeg l1, T), Y) _
      refine go_blk rfl [(.iinc 2 1, 3, 2, 0, 0, .inl 1)] 14 17 _ _ _ (by decide +kernel) ?_
      show Go _ _ _ _ _ _ 17 [(2, vi (l2 + 1)), (0, rc a0), (1, vi l1), (3, vi l3)] [] ((wI S a0 l2.toNatClampNeg l1, T), Y) _
      refine go_goto (off := (-12)) (tgt := 5) (by decide +kernel) (by decide) ?_
      refine go_pick [1, 2, 0, 3] rfl ?_
      exact ih _ _ _ h k
theorem ret18_fill {S : jS} {T : jT} {Y : jS × jT} {a0 : Nat} {n0 : Nat} {a1 : Int32} {S1 : jS} {x : Unit} (h0 : T.2.1 a0 = 20 ∧ T.2.2.1 a0 = n0) (h : f18_fill S a0 n0 a1 = some (S1, x)) : Ret M18_fill 1 0 0 [rc a0, vi a1] ((S, T), Y) (none) ((S1, T), Y) := by
  refine Ret.of (by decide +kernel) (Nat.le_of_ble_eq_true rfl) ?_
  unfold f18_fill at h
  show Go _ _ _ _ _ _ 0 [(0, rc a0), (1, vi a1)] [] ((S, T), Y) _
  refine go_blk rfl [(.iconst 0, 1, 0, 0, 0, .inl 0), (.istore_n 2, 1, 2, 0, 0, .inl 0), (.aload_n 0, 1, 0, 0, 0, .inl 0), (.arraylength, 1, 20, 0, 0, .inl 0), (.istore_n 3, 1, 3, 0, 0, .inl 0)] 0 5 _ _ _ (by decide +kernel) ?_
  refine And.intro h0.1 (Exists.intro _ (And.intro h0.2 ?_))
  show Go _ _ _ _ _ _ 5 [(3, vi (nI n0)), (2, vi 0), (0, rc a0), (1, vi a1)] [] ((S, T), Y) _
  refine go_pick [2, 3, 1, 0] rfl ?_
  obtain ⟨y1, hy1, h⟩ := bind_el h
  refine f18_fill_L1_ok h0 _ _ _ _ hy1 ?_
  show Go _ _ _ _ _ _ 20 [] [] ((y1, T), Y) _
  obtain ⟨rfl, rfl⟩ := Prod.mk.inj (Option.some.inj h)
  exact go_return (by decide +kernel) rfl ⟨rfl, rfl⟩
def f1_startLook (S : jS) : Option (jS × Unit) := Option.bind (f18_fill (wI S 70 4 0) 79 7 0) (fun r1 => some (r1.1, ()))
theorem ret1_startLook {S : jS} {T : jT} {Y : jS × jT} {S1 : jS} {x : Unit} (hT : LayC T) (h : f1_startLook S = some (S1, x)) : Ret M1_startLook 2 0 0 [rc 70] ((S, T), Y) (none) ((S1, T), Y) := by
  refine Ret.of (by decide +kernel) (Nat.le_of_ble_eq_true rfl) ?_
  unfold f1_startLook at h
  show Go _ _ _ _ _ _ 0 [(0, rc 70)] [] ((S, T), Y) _
  refine go_blk rfl [(.aload_n 0, 1, 0, 0, 0, .inl 0), (.iconst 0, 1, 0, 0, 0, .inl 0), (.putfield 25, 3, 1, 4, 0, .inl 0)] 0 5 _ _ _ (by decide +kernel) ?_
  refine And.intro (lc_t70 hT) (And.intro trivial ?_)
  show Go _ _ _ _ _ _ 5 [(0, rc 70)] [] ((wI S 70 4 0, T), Y) _
  refine go_blk rfl [(.aload_n 0, 1, 0, 0, 0, .inl 0), (.getfield 22, 3, 1, 3, 1, .inl 0), (.iconst 0, 1, 0, 0, 0, .inl 0)] 5 10 _ _ _ (by decide +kernel) ?_
  refine And.intro (lc_t70 hT) (Exists.intro _ (And.intro (gRc (lc_r1_3 hT)) ?_))
  show Go _ _ _ _ _ _ 10 [(0, rc 70)] [vi 0, rc 79] ((wI S 70 4 0, T), Y) _
  obtain ⟨r1, hr1, h⟩ := bind_el h
  refine go_callS (idx := 73) (z := 0) (M' := M18_fill) (n := 2) (A := [rc 79, vi 0]) (v' := none) (μ' := ((r1.1, T), Y)) (d' := 1) (mc' := 0) (ms' := 0) (kc' := 0) (ks' := 0) (by decide +kernel) ml_1_73 rfl ws18_fill rfl (ret18_fill ⟨(lc_t79 hT), (lc_n79 hT)⟩ hr1) (by decide) rfl rfl (Nat.le_of_ble_eq_true rfl) rfl (jag rfl rfl) ?_
  show Go _ _ _ _ _ _ 13 [(0, rc 70)] [] ((r1.1, T), Y) _
  obtain ⟨rfl, rfl⟩ := Prod.mk.inj (Option.some.inj h)
  exact go_return (by decide +kernel) rfl ⟨rfl, rfl⟩
def f1_countLook_L1 (l1 : Int32) : Nat → jS → Int32 → Option jS
  | 0, _, _ => none
  | n + 1, S, l2 => (if 7 ≤ l2 then some S else (if inb l2 7 then (if inb l1 21 then f1_countLook_L1 l1 n (wI S 79 l2.toNatClampNeg ((S.1 79 l2.toNatClampNeg) + (((S.1 78 l1.toNatClampNeg) >>> (l2 &&& 31)) &&& 1))) (l2 + 1) else none) else none))
def f1_countLook (S : jS) (a0 : Int32) : Option (jS × Unit) := (if a0 < 0 then some (S, ()) else (if a0 ≤ 20 then Option.bind (f1_countLook_L1 a0 jF (wI S 70 4 ((S.1 70 4) + 1)) 0) (fun y1 => some (y1, ())) else some (S, ())))
theorem f1_countLook_L1_ok {T : jT} {Y : jS × jT} {l1 : Int32} {Q : Option jV → jMem → Prop} (hT : LayC T) : ∀ (n : Nat) (S : jS) (l2 : Int32) (r : jS), f1_countLook_L1 l1 n S l2 = some r → Go M1_countLook 1 0 0 0 0 54 [] [] ((r, T), Y) Q → Go M1_countLook 1 0 0 0 0 23 [(0, rc 70), (1, vi l1), (2, vi l2)] [] ((S, T), Y) Q := by
  intro n
  induction n with
  | zero => intro S l2 r h k; exact absurd h (by intro z; cases z)
  | succ n ih =>
    intro S l2 r h k
    rw [f1_countLook_L1] at h
    refine go_blk rfl [(.iload_n 2, 1, 2, 0, 0, .inl 0), (.bipush 7, 2, 0, 0, 0, .inl 7)] 23 26 _ _ _ (by decide +kernel) ?_
    show Go _ _ _ _ _ _ 26 [(0, rc 70), (1, vi l1), (2, vi l2)] [vi 7, vi l2] ((S, T), Y) _
    refine ite_el h (fun q3 h => ?_) (fun q3 h => ?_)
    · refine go_icmp_ge (off := 28) (tgt := 54) (by decide +kernel) (by decide) (fun _ => ?_) (fun z => absurd q3 z)
      obtain rfl := Option.some.inj h
      refine go_pick [] rfl ?_
      exact k
    · refine go_icmp_ge (off := 28) (tgt := 54) (by decide +kernel) (by decide) (fun z => absurd z q3) (fun _ => ?_)
      refine gd_el h (fun q4 h => ?_)
      refine gd_el h (fun q5 h => ?_)
      refine go_blk rfl [(.aload_n 0, 1, 0, 0, 0, .inl 0), (.getfield 22, 3, 1, 3, 1, .inl 0), (.iload_n 2, 1, 2, 0, 0, .inl 0), (.dup2, 1, 0, 0, 0, .inl 0), (.iaload, 1, 20, 0, 0, .inl 0), (.aload_n 0, 1, 0, 0, 0, .inl 0), (.getfield 18, 3, 1, 2, 1, .inl 0), (.iload_n 1, 1, 1, 0, 0, .inl 0), (.iaload, 1, 20, 0, 0, .inl 0), (.iload_n 2, 1, 2, 0, 0, .inl 0), (.ishr, 1, 0, 0, 0, .inl 0), (.iconst 1, 1, 0, 0, 0, .inl 1), (.iand, 1, 0, 0, 0, .inl 0), (.iadd, 1, 0, 0, 0, .inl 0), (.iastore, 1, 20, 0, 0, .inl 0)] 29 48 _ _ _ (by decide +kernel) ?_
      refine And.intro (lc_t70 hT) (Exists.intro _ (And.intro (gRc (lc_r1_3 hT)) ?_))
      refine And.intro (lc_t79 hT) (Exists.intro _ (And.intro (lc_n79 hT) (And.intro (inb_in q4) ?_)))
      refine And.intro (lc_t70 hT) (Exists.intro _ (And.intro (gRc (lc_r1_2 hT)) ?_))
      refine And.intro (lc_t78 hT) (Exists.intro _ (And.intro (lc_n78 hT) (And.intro (inb_in q5) ?_)))
      refine And.intro (lc_t79 hT) (Exists.intro _ (And.intro (lc_n79 hT) (And.intro (inb_in q4) ?_)))
      show Go _ _ _ _ _ _ 48 [(0, rc 70), (1, vi l1), (2, vi l2)] [] ((wI S 79 l2.toNatClampNeg ((S.1 79 l2.toNatClampNeg) + (((S.1 78 l1.toNatClampNeg) >>> (l2 &&& 31)) &&& 1)), T), Y) _
      refine go_blk rfl [(.iinc 2 1, 3, 2, 0, 0, .inl 1)] 48 51 _ _ _ (by decide +kernel) ?_
      show Go _ _ _ _ _ _ 51 [(2, vi (l2 + 1)), (0, rc 70), (1, vi l1)] [] ((wI S 79 l2.toNatClampNeg ((S.1 79 l2.toNatClampNeg) + (((S.1 78 l1.toNatClampNeg) >>> (l2 &&& 31)) &&& 1)), T), Y) _
      refine go_goto (off := (-28)) (tgt := 23) (by decide +kernel) (by decide) ?_
      refine go_pick [1, 2, 0] rfl ?_
      exact ih _ _ _ h k
theorem ret1_countLook {S : jS} {T : jT} {Y : jS × jT} {a0 : Int32} {S1 : jS} {x : Unit} (hT : LayC T) (h : f1_countLook S a0 = some (S1, x)) : Ret M1_countLook 1 0 0 [rc 70, vi a0] ((S, T), Y) (none) ((S1, T), Y) := by
  refine Ret.of (by decide +kernel) (Nat.le_of_ble_eq_true rfl) ?_
  unfold f1_countLook at h
  show Go _ _ _ _ _ _ 0 [(0, rc 70), (1, vi a0)] [] ((S, T), Y) _
  refine go_blk rfl [(.iload_n 1, 1, 1, 0, 0, .inl 0)] 0 1 _ _ _ (by decide +kernel) ?_
  show Go _ _ _ _ _ _ 1 [(0, rc 70), (1, vi a0)] [vi a0] ((S, T), Y) _
  refine ite_el h (fun q1 h => ?_) (fun q1 h => ?_)
  · refine go_if_lt (off := 9) (tgt := 10) (by decide +kernel) (by decide) (fun _ => ?_) (fun z => absurd q1 z)
    obtain ⟨rfl, rfl⟩ := Prod.mk.inj (Option.some.inj h)
    exact go_return (by decide +kernel) rfl ⟨rfl, rfl⟩
  · refine go_if_lt (off := 9) (tgt := 10) (by decide +kernel) (by decide) (fun z => absurd z q1) (fun _ => ?_)
    refine go_blk rfl [(.iload_n 1, 1, 1, 0, 0, .inl 0), (.bipush 20, 2, 0, 0, 0, .inl 20)] 4 7 _ _ _ (by decide +kernel) ?_
    show Go _ _ _ _ _ _ 7 [(0, rc 70), (1, vi a0)] [vi 20, vi a0] ((S, T), Y) _
    refine ite_el h (fun q2 h => ?_) (fun q2 h => ?_)
    · refine go_icmp_le (off := 4) (tgt := 11) (by decide +kernel) (by decide) (fun _ => ?_) (fun z => absurd q2 z)
      refine go_blk rfl [(.aload_n 0, 1, 0, 0, 0, .inl 0), (.dup, 1, 0, 0, 0, .inl 0), (.getfield 25, 3, 1, 4, 0, .inl 0), (.iconst 1, 1, 0, 0, 0, .inl 1), (.iadd, 1, 0, 0, 0, .inl 0), (.putfield 25, 3, 1, 4, 0, .inl 0)] 11 21 _ _ _ (by decide +kernel) ?_
      refine And.intro (lc_t70 hT) ?_
      refine And.intro (lc_t70 hT) (And.intro trivial ?_)
      show Go _ _ _ _ _ _ 21 [(0, rc 70), (1, vi a0)] [] ((wI S 70 4 ((S.1 70 4) + 1), T), Y) _
      refine go_blk rfl [(.iconst 0, 1, 0, 0, 0, .inl 0), (.istore_n 2, 1, 2, 0, 0, .inl 0)] 21 23 _ _ _ (by decide +kernel) ?_
      show Go _ _ _ _ _ _ 23 [(2, vi 0), (0, rc 70), (1, vi a0)] [] ((wI S 70 4 ((S.1 70 4) + 1), T), Y) _
      refine go_pick [1, 2, 0] rfl ?_
      obtain ⟨y1, hy1, h⟩ := bind_el h
      refine f1_countLook_L1_ok hT _ _ _ _ hy1 ?_
      show Go _ _ _ _ _ _ 54 [] [] ((y1, T), Y) _
      obtain ⟨rfl, rfl⟩ := Prod.mk.inj (Option.some.inj h)
      exact go_return (by decide +kernel) rfl ⟨rfl, rfl⟩
    · refine go_icmp_le (off := 4) (tgt := 11) (by decide +kernel) (by decide) (fun z => absurd z q2) (fun _ => ?_)
      obtain ⟨rfl, rfl⟩ := Prod.mk.inj (Option.some.inj h)
      exact go_return (by decide +kernel) rfl ⟨rfl, rfl⟩
def f1_mostAlike (S : jS) (a0 : Int32) : Option Int32 := (if inb a0 7 then some (mmax (S.1 79 a0.toNatClampNeg) ((S.1 70 4) - (S.1 79 a0.toNatClampNeg))) else none)
theorem ret1_mostAlike {S : jS} {T : jT} {Y : jS × jT} {a0 : Int32} {x : Int32} (hT : LayC T) (h : f1_mostAlike S a0 = some x) : Ret M1_mostAlike 2 0 0 [rc 70, vi a0] ((S, T), Y) (some (vi x)) ((S, T), Y) := by
  refine Ret.of (by decide +kernel) (Nat.le_of_ble_eq_true rfl) ?_
  unfold f1_mostAlike at h
  show Go _ _ _ _ _ _ 0 [(0, rc 70), (1, vi a0)] [] ((S, T), Y) _
  refine gd_el h (fun q1 h => ?_)
  refine go_blk rfl [(.aload_n 0, 1, 0, 0, 0, .inl 0), (.getfield 22, 3, 1, 3, 1, .inl 0), (.iload_n 1, 1, 1, 0, 0, .inl 0), (.iaload, 1, 20, 0, 0, .inl 0), (.aload_n 0, 1, 0, 0, 0, .inl 0), (.getfield 25, 3, 1, 4, 0, .inl 0), (.aload_n 0, 1, 0, 0, 0, .inl 0), (.getfield 22, 3, 1, 3, 1, .inl 0), (.iload_n 1, 1, 1, 0, 0, .inl 0), (.iaload, 1, 20, 0, 0, .inl 0), (.isub, 1, 0, 0, 0, .inl 0)] 0 17 _ _ _ (by decide +kernel) ?_
  refine And.intro (lc_t70 hT) (Exists.intro _ (And.intro (gRc (lc_r1_3 hT)) ?_))
  refine And.intro (lc_t79 hT) (Exists.intro _ (And.intro (lc_n79 hT) (And.intro (inb_in q1) ?_)))
  refine And.intro (lc_t70 hT) ?_
  refine And.intro (lc_t70 hT) (Exists.intro _ (And.intro (gRc (lc_r1_3 hT)) ?_))
  refine And.intro (lc_t79 hT) (Exists.intro _ (And.intro (lc_n79 hT) (And.intro (inb_in q1) ?_)))
  show Go _ _ _ _ _ _ 17 [(0, rc 70), (1, vi a0)] [vi ((S.1 70 4) - (S.1 79 a0.toNatClampNeg)), vi (S.1 79 a0.toNatClampNeg)] ((S, T), Y) _
  refine go_mmax (idx := 79) (by decide +kernel) ml_1_79 rfl (by decide) (Nat.le_of_ble_eq_true rfl) ?_
  show Go _ _ _ _ _ _ 20 [(0, rc 70), (1, vi a0)] [vi (mmax (S.1 79 a0.toNatClampNeg) ((S.1 70 4) - (S.1 79 a0.toNatClampNeg)))] ((S, T), Y) _
  obtain rfl := Option.some.inj h
  exact go_ireturn (by decide +kernel) rfl rfl ⟨rfl, rfl⟩
def f1_bestLook_L1 (S : jS) (l1 : Int32) : Nat → Int32 → Int32 → Option Int32
  | 0, _, _ => none
  | n + 1, l2, l3 => (if l1 ≤ l3 then some l2 else (if 7 ≤ l3 then some l2 else (if (S.1 70 4) ≤ 0 then some l2 else Option.bind (if l2 = ((-1)) then some l3 else Option.bind (f1_mostAlike S l3) (fun r1 => Option.bind (f1_mostAlike S l2) (fun r2 => (if r2 ≤ r1 then some l2 else some l3)))) (fun (y3 : Int32) => f1_bestLook_L1 S l1 n y3 (l3 + 1)))))
def f1_bestLook (S : jS) (a0 : Int32) : Option Int32 := Option.bind (f1_bestLook_L1 S a0 jF ((-1)) 0) (fun y4 => some y4)
theorem f1_bestLook_L1_ok {T : jT} {Y : jS × jT} {S : jS} {l1 : Int32} {Q : Option jV → jMem → Prop} (hT : LayC T) : ∀ (n : Nat) (l2 : Int32) (l3 : Int32) (r : Int32), f1_bestLook_L1 S l1 n l2 l3 = some r → Go M1_bestLook 3 0 0 0 0 48 [(2, vi r)] [] ((S, T), Y) Q → Go M1_bestLook 3 0 0 0 0 4 [(0, rc 70), (1, vi l1), (2, vi l2), (3, vi l3)] [] ((S, T), Y) Q := by
  intro n
  induction n with
  | zero => intro l2 l3 r h k; exact absurd h (by intro z; cases z)
  | succ n ih =>
    intro l2 l3 r h k
    rw [f1_bestLook_L1] at h
    refine go_blk rfl [(.iload_n 3, 1, 3, 0, 0, .inl 0), (.iload_n 1, 1, 1, 0, 0, .inl 0)] 4 6 _ _ _ (by decide +kernel) ?_
    show Go _ _ _ _ _ _ 6 [(0, rc 70), (1, vi l1), (2, vi l2), (3, vi l3)] [vi l1, vi l3] ((S, T), Y) _
    refine ite_el h (fun q1 h => ?_) (fun q1 h => ?_)
    · refine go_icmp_ge (off := 42) (tgt := 48) (by decide +kernel) (by decide) (fun _ => ?_) (fun z => absurd q1 z)
      obtain rfl := Option.some.inj h
      refine go_pick [2] rfl ?_
      exact k
    · refine go_icmp_ge (off := 42) (tgt := 48) (by decide +kernel) (by decide) (fun z => absurd z q1) (fun _ => ?_)
      refine go_blk rfl [(.iload_n 3, 1, 3, 0, 0, .inl 0), (.bipush 7, 2, 0, 0, 0, .inl 7)] 9 12 _ _ _ (by decide +kernel) ?_
      show Go _ _ _ _ _ _ 12 [(0, rc 70), (1, vi l1), (2, vi l2), (3, vi l3)] [vi 7, vi l3] ((S, T), Y) _
      refine ite_el h (fun q2 h => ?_) (fun q2 h => ?_)
      · refine go_icmp_ge (off := 36) (tgt := 48) (by decide +kernel) (by decide) (fun _ => ?_) (fun z => absurd q2 z)
        obtain rfl := Option.some.inj h
        refine go_pick [2] rfl ?_
        exact k
      · refine go_icmp_ge (off := 36) (tgt := 48) (by decide +kernel) (by decide) (fun z => absurd z q2) (fun _ => ?_)
        refine go_blk rfl [(.aload_n 0, 1, 0, 0, 0, .inl 0), (.getfield 25, 3, 1, 4, 0, .inl 0)] 15 19 _ _ _ (by decide +kernel) ?_
        refine And.intro (lc_t70 hT) ?_
        show Go _ _ _ _ _ _ 19 [(0, rc 70), (1, vi l1), (2, vi l2), (3, vi l3)] [vi (S.1 70 4)] ((S, T), Y) _
        refine ite_el h (fun q3 h => ?_) (fun q3 h => ?_)
        · refine go_if_le (off := 29) (tgt := 48) (by decide +kernel) (by decide) (fun _ => ?_) (fun z => absurd q3 z)
          obtain rfl := Option.some.inj h
          refine go_pick [2] rfl ?_
          exact k
        · refine go_if_le (off := 29) (tgt := 48) (by decide +kernel) (by decide) (fun z => absurd z q3) (fun _ => ?_)
          refine go_blk rfl [(.iload_n 2, 1, 2, 0, 0, .inl 0), (.iconst (-1), 1, 0, 0, 0, .inl (-1))] 22 24 _ _ _ (by decide +kernel) ?_
          show Go _ _ _ _ _ _ 24 [(0, rc 70), (1, vi l1), (2, vi l2), (3, vi l3)] [vi ((-1)), vi l2] ((S, T), Y) _
          obtain ⟨y3, hy3, h⟩ := bind_el h
          have key : Go M1_bestLook 3 0 0 0 0 42 [(0, rc 70), (1, vi l1), (2, vi y3), (3, vi l3)] [] ((S, T), Y) Q := by
            refine go_blk rfl [(.iinc 3 1, 3, 3, 0, 0, .inl 1)] 42 45 _ _ _ (by decide +kernel) ?_
            show Go _ _ _ _ _ _ 45 [(3, vi (l3 + 1)), (0, rc 70), (1, vi l1), (2, vi y3)] [] ((S, T), Y) _
            refine go_goto (off := (-41)) (tgt := 4) (by decide +kernel) (by decide) ?_
            refine go_pick [1, 2, 3, 0] rfl ?_
            exact ih _ _ _ h k
          replace h := hy3
          refine ite_el h (fun q4 h => ?_) (fun q4 h => ?_)
          · refine go_icmp_eq (off := 16) (tgt := 40) (by decide +kernel) (by decide) (fun _ => ?_) (fun z => absurd q4 z)
            refine go_blk rfl [(.iload_n 3, 1, 3, 0, 0, .inl 0), (.istore_n 2, 1, 2, 0, 0, .inl 0)] 40 42 _ _ _ (by decide +kernel) ?_
            show Go _ _ _ _ _ _ 42 [(2, vi l3), (0, rc 70), (1, vi l1), (3, vi l3)] [] ((S, T), Y) _
            obtain rfl := Option.some.inj h
            refine go_pick [1, 2, 0, 3] rfl ?_
            exact key
          · refine go_icmp_eq (off := 16) (tgt := 40) (by decide +kernel) (by decide) (fun z => absurd z q4) (fun _ => ?_)
            refine go_blk rfl [(.aload_n 0, 1, 0, 0, 0, .inl 0), (.iload_n 3, 1, 3, 0, 0, .inl 0)] 27 29 _ _ _ (by decide +kernel) ?_
            show Go _ _ _ _ _ _ 29 [(0, rc 70), (1, vi l1), (2, vi l2), (3, vi l3)] [vi l3, rc 70] ((S, T), Y) _
            obtain ⟨r1, hr1, h⟩ := bind_el h
            refine go_callV (idx := 85) (z := 0) (M' := M1_mostAlike) (n := 1) (A := [vi l3]) (v' := some (vi r1)) (μ' := ((S, T), Y)) (d' := 2) (mc' := 0) (ms' := 0) (kc' := 0) (ks' := 0) (ci := 1) (x := .inl 70) (by decide +kernel) ml_1_85 rfl wv1_mostAlike rfl (by decide) rfl (lc_t70 hT) (ret1_mostAlike hT hr1) (by decide) rfl rfl (Nat.le_of_ble_eq_true rfl) rfl (jag rfl rfl) ?_
            show Go _ _ _ _ _ _ 32 [(0, rc 70), (1, vi l1), (2, vi l2), (3, vi l3)] [vi r1] ((S, T), Y) _
            refine go_blk rfl [(.aload_n 0, 1, 0, 0, 0, .inl 0), (.iload_n 2, 1, 2, 0, 0, .inl 0)] 32 34 _ _ _ (by decide +kernel) ?_
            show Go _ _ _ _ _ _ 34 [(0, rc 70), (1, vi l1), (2, vi l2), (3, vi l3)] [vi l2, rc 70, vi r1] ((S, T), Y) _
            obtain ⟨r2, hr2, h⟩ := bind_el h
            refine go_callV (idx := 85) (z := 0) (M' := M1_mostAlike) (n := 1) (A := [vi l2]) (v' := some (vi r2)) (μ' := ((S, T), Y)) (d' := 2) (mc' := 0) (ms' := 0) (kc' := 0) (ks' := 0) (ci := 1) (x := .inl 70) (by decide +kernel) ml_1_85 rfl wv1_mostAlike rfl (by decide) rfl (lc_t70 hT) (ret1_mostAlike hT hr2) (by decide) rfl rfl (Nat.le_of_ble_eq_true rfl) rfl (jag rfl rfl) ?_
            show Go _ _ _ _ _ _ 37 [(0, rc 70), (1, vi l1), (2, vi l2), (3, vi l3)] [vi r2, vi r1] ((S, T), Y) _
            refine ite_el h (fun q5 h => ?_) (fun q5 h => ?_)
            · refine go_icmp_ge (off := 5) (tgt := 42) (by decide +kernel) (by decide) (fun _ => ?_) (fun z => absurd q5 z)
              obtain rfl := Option.some.inj h
              refine go_pick [0, 1, 2, 3] rfl ?_
              exact key
            · refine go_icmp_ge (off := 5) (tgt := 42) (by decide +kernel) (by decide) (fun z => absurd z q5) (fun _ => ?_)
              refine go_blk rfl [(.iload_n 3, 1, 3, 0, 0, .inl 0), (.istore_n 2, 1, 2, 0, 0, .inl 0)] 40 42 _ _ _ (by decide +kernel) ?_
              show Go _ _ _ _ _ _ 42 [(2, vi l3), (0, rc 70), (1, vi l1), (3, vi l3)] [] ((S, T), Y) _
              obtain rfl := Option.some.inj h
              refine go_pick [1, 2, 0, 3] rfl ?_
              exact key
theorem ret1_bestLook {S : jS} {T : jT} {Y : jS × jT} {a0 : Int32} {x : Int32} (hT : LayC T) (h : f1_bestLook S a0 = some x) : Ret M1_bestLook 3 0 0 [rc 70, vi a0] ((S, T), Y) (some (vi x)) ((S, T), Y) := by
  refine Ret.of (by decide +kernel) (Nat.le_of_ble_eq_true rfl) ?_
  unfold f1_bestLook at h
  show Go _ _ _ _ _ _ 0 [(0, rc 70), (1, vi a0)] [] ((S, T), Y) _
  refine go_blk rfl [(.iconst (-1), 1, 0, 0, 0, .inl (-1)), (.istore_n 2, 1, 2, 0, 0, .inl 0), (.iconst 0, 1, 0, 0, 0, .inl 0), (.istore_n 3, 1, 3, 0, 0, .inl 0)] 0 4 _ _ _ (by decide +kernel) ?_
  show Go _ _ _ _ _ _ 4 [(3, vi 0), (2, vi ((-1))), (0, rc 70), (1, vi a0)] [] ((S, T), Y) _
  refine go_pick [2, 3, 1, 0] rfl ?_
  obtain ⟨y4, hy4, h⟩ := bind_el h
  refine f1_bestLook_L1_ok hT _ _ _ _ hy4 ?_
  show Go _ _ _ _ _ _ 48 [(2, vi y4)] [] ((S, T), Y) _
  refine go_blk rfl [(.iload_n 2, 1, 2, 0, 0, .inl 0)] 48 49 _ _ _ (by decide +kernel) ?_
  show Go _ _ _ _ _ _ 49 [(2, vi y4)] [vi y4] ((S, T), Y) _
  obtain rfl := Option.some.inj h
  exact go_ireturn (by decide +kernel) rfl rfl ⟨rfl, rfl⟩
def f2_after_L1 (T : jT) (a1 : Option Nat) (l3 : Int32) : Nat → jS → Int32 → Option jS
  | 0, _, _ => none
  | n + 1, S, l4 => (if l3 ≤ l4 then some S else Option.bind (f3_roundBy T S 21 a1) (fun r2 => f2_after_L1 T a1 l3 n r2.1 (l4 + 1)))
def f2_after (T : jT) (S : jS) (a0 : Nat) (a1 : Option Nat) (a2 : Int32) : Option (jS × Unit) := Option.bind (f4_copyFrom S 21 a0) (fun r1 => Option.bind (f2_after_L1 T a1 a2 jF r1.1 0) (fun y3 => some (y3, ())))
theorem f2_after_L1_ok {T : jT} {Y : jS × jT} {a1 : Option Nat} {l3 : Int32} {a0 : Nat} {Q : Option jV → jMem → Prop} (hT : LayC T) (h0 : LayHall T a0) (h1 : ∀ q, a1 = some q → LayRule T q) : ∀ (n : Nat) (S : jS) (l4 : Int32) (r : jS), f2_after_L1 T a1 l3 n S l4 = some r → Go M2_after 6 0 0 0 0 36 [(0, rc 20)] [] ((r, T), Y) Q → Go M2_after 6 0 0 0 0 11 [(0, rc 20), (2, vo a1), (3, vi l3), (4, vi l4)] [] ((S, T), Y) Q := by
  intro n
  induction n with
  | zero => intro S l4 r h k; exact absurd h (by intro z; cases z)
  | succ n ih =>
    intro S l4 r h k
    rw [f2_after_L1] at h
    refine go_blk rfl [(.iload 4, 2, 4, 0, 0, .inl 0), (.iload_n 3, 1, 3, 0, 0, .inl 0)] 11 14 _ _ _ (by decide +kernel) ?_
    show Go _ _ _ _ _ _ 14 [(0, rc 20), (2, vo a1), (3, vi l3), (4, vi l4)] [vi l3, vi l4] ((S, T), Y) _
    refine ite_el h (fun q1 h => ?_) (fun q1 h => ?_)
    · refine go_icmp_ge (off := 22) (tgt := 36) (by decide +kernel) (by decide) (fun _ => ?_) (fun z => absurd q1 z)
      obtain rfl := Option.some.inj h
      refine go_pick [0] rfl ?_
      exact k
    · refine go_icmp_ge (off := 22) (tgt := 36) (by decide +kernel) (by decide) (fun z => absurd z q1) (fun _ => ?_)
      refine go_blk rfl [(.aload_n 0, 1, 0, 0, 0, .inl 0), (.getfield 46, 3, 2, 0, 1, .inl 0), (.aload_n 0, 1, 0, 0, 0, .inl 0), (.getfield 12, 3, 2, 1, 1, .inl 0), (.aload_n 2, 1, 2, 0, 0, .inl 0)] 17 26 _ _ _ (by decide +kernel) ?_
      refine And.intro (lc_t20 hT) (Exists.intro _ (And.intro (gRc (lc_r2_0 hT)) ?_))
      refine And.intro (lc_t20 hT) (Exists.intro _ (And.intro (gRc (lc_r2_1 hT)) ?_))
      show Go _ _ _ _ _ _ 26 [(0, rc 20), (2, vo a1), (3, vi l3), (4, vi l4)] [vo a1, rc 21, rc 17] ((S, T), Y) _
      obtain ⟨r2, hr2, h⟩ := bind_el h
      refine go_callV (idx := 54) (z := 1) (M' := M3_roundBy) (n := 2) (A := [rc 21, vo a1]) (v' := some (vi r2.2)) (μ' := ((r2.1, T), Y)) (d' := 5) (mc' := 0) (ms' := 0) (kc' := 0) (ks' := 0) (ci := 3) (x := .inl 17) (by decide +kernel) ml_2_54 rfl wv3_roundBy rfl (by decide) rfl (lc_t17 hT) (ret3_roundBy hT (lc_h21 hT) h1 hr2) (by decide) rfl rfl (Nat.le_of_ble_eq_true rfl) rfl (jag rfl rfl) ?_
      show Go _ _ _ _ _ _ 29 [(0, rc 20), (2, vo a1), (3, vi l3), (4, vi l4)] [vi r2.2] ((r2.1, T), Y) _
      refine go_blk rfl [(.pop, 1, 0, 0, 0, .inl 0), (.iinc 4 1, 3, 4, 0, 0, .inl 1)] 29 33 _ _ _ (by decide +kernel) ?_
      show Go _ _ _ _ _ _ 33 [(4, vi (l4 + 1)), (0, rc 20), (2, vo a1), (3, vi l3)] [] ((r2.1, T), Y) _
      refine go_goto (off := (-22)) (tgt := 11) (by decide +kernel) (by decide) ?_
      refine go_pick [1, 2, 3, 0] rfl ?_
      exact ih _ _ _ h k
theorem ret2_after {S : jS} {T : jT} {Y : jS × jT} {a0 : Nat} {a1 : Option Nat} {a2 : Int32} {S1 : jS} {x : Unit} (hT : LayC T) (h0 : LayHall T a0) (h1 : ∀ q, a1 = some q → LayRule T q) (h : f2_after T S a0 a1 a2 = some (S1, x)) : Ret M2_after 6 0 0 [rc 20, rc a0, vo a1, vi a2] ((S, T), Y) (some (rc 21)) ((S1, T), Y) := by
  refine Ret.of (by decide +kernel) (Nat.le_of_ble_eq_true rfl) ?_
  unfold f2_after at h
  show Go _ _ _ _ _ _ 0 [(0, rc 20), (1, rc a0), (2, vo a1), (3, vi a2)] [] ((S, T), Y) _
  refine go_blk rfl [(.aload_n 0, 1, 0, 0, 0, .inl 0), (.getfield 12, 3, 2, 1, 1, .inl 0), (.aload_n 1, 1, 1, 0, 0, .inl 0)] 0 5 _ _ _ (by decide +kernel) ?_
  refine And.intro (lc_t20 hT) (Exists.intro _ (And.intro (gRc (lc_r2_1 hT)) ?_))
  show Go _ _ _ _ _ _ 5 [(0, rc 20), (1, rc a0), (2, vo a1), (3, vi a2)] [rc a0, rc 21] ((S, T), Y) _
  obtain ⟨r1, hr1, h⟩ := bind_el h
  refine go_callV (idx := 50) (z := 1) (M' := M4_copyFrom) (n := 1) (A := [rc a0]) (v' := none) (μ' := ((r1.1, T), Y)) (d' := 2) (mc' := 0) (ms' := 0) (kc' := 0) (ks' := 0) (ci := 4) (x := .inl 21) (by decide +kernel) ml_2_50 rfl wv4_copyFrom rfl (by decide) rfl (lc_h21 hT).1 (ret4_copyFrom (lc_h21 hT) h0 hr1) (by decide) rfl rfl (Nat.le_of_ble_eq_true rfl) rfl (jag rfl rfl) ?_
  show Go _ _ _ _ _ _ 8 [(0, rc 20), (1, rc a0), (2, vo a1), (3, vi a2)] [] ((r1.1, T), Y) _
  refine go_blk rfl [(.iconst 0, 1, 0, 0, 0, .inl 0), (.istore 4, 2, 4, 0, 0, .inl 0)] 8 11 _ _ _ (by decide +kernel) ?_
  show Go _ _ _ _ _ _ 11 [(4, vi 0), (0, rc 20), (1, rc a0), (2, vo a1), (3, vi a2)] [] ((r1.1, T), Y) _
  refine go_pick [1, 3, 4, 0] rfl ?_
  obtain ⟨y3, hy3, h⟩ := bind_el h
  refine f2_after_L1_ok hT h0 h1 _ _ _ _ hy3 ?_
  show Go _ _ _ _ _ _ 36 [(0, rc 20)] [] ((y3, T), Y) _
  refine go_blk rfl [(.aload_n 0, 1, 0, 0, 0, .inl 0), (.getfield 12, 3, 2, 1, 1, .inl 0)] 36 40 _ _ _ (by decide +kernel) ?_
  refine And.intro (lc_t20 hT) (Exists.intro _ (And.intro (gRc (lc_r2_1 hT)) ?_))
  show Go _ _ _ _ _ _ 40 [(0, rc 20)] [rc 21] ((y3, T), Y) _
  obtain ⟨rfl, rfl⟩ := Prod.mk.inj (Option.some.inj h)
  exact go_areturn (by decide +kernel) rfl rfl ⟨rfl, rfl⟩
def f2_whenOver_L1 (T : jT) (a1 : Option Nat) : Nat → jS → Int32 → Option jS
  | 0, _, _ => none
  | n + 1, S, l3 => (if 6 ≤ l3 then some S else Option.bind (f4_isOver S 21) (fun r2 => (if r2 = 0 then Option.bind (f3_roundBy T S 21 a1) (fun r3 => f2_whenOver_L1 T a1 n r3.1 (l3 + 1)) else some S)))
def f2_whenOver (T : jT) (S : jS) (a0 : Nat) (a1 : Option Nat) : Option (jS × Unit) := Option.bind (f4_copyFrom S 21 a0) (fun r1 => Option.bind (f2_whenOver_L1 T a1 jF r1.1 0) (fun y4 => some (y4, ())))
theorem f2_whenOver_L1_ok {T : jT} {Y : jS × jT} {a1 : Option Nat} {a0 : Nat} {Q : Option jV → jMem → Prop} (hT : LayC T) (h0 : LayHall T a0) (h1 : ∀ q, a1 = some q → LayRule T q) : ∀ (n : Nat) (S : jS) (l3 : Int32) (r : jS), f2_whenOver_L1 T a1 n S l3 = some r → Go M2_whenOver 6 0 0 0 0 45 [(0, rc 20)] [] ((r, T), Y) Q → Go M2_whenOver 6 0 0 0 0 10 [(0, rc 20), (2, vo a1), (3, vi l3)] [] ((S, T), Y) Q := by
  intro n
  induction n with
  | zero => intro S l3 r h k; exact absurd h (by intro z; cases z)
  | succ n ih =>
    intro S l3 r h k
    rw [f2_whenOver_L1] at h
    refine go_blk rfl [(.iload_n 3, 1, 3, 0, 0, .inl 0), (.bipush 6, 2, 0, 0, 0, .inl 6)] 10 13 _ _ _ (by decide +kernel) ?_
    show Go _ _ _ _ _ _ 13 [(0, rc 20), (2, vo a1), (3, vi l3)] [vi 6, vi l3] ((S, T), Y) _
    refine ite_el h (fun q1 h => ?_) (fun q1 h => ?_)
    · refine go_icmp_ge (off := 32) (tgt := 45) (by decide +kernel) (by decide) (fun _ => ?_) (fun z => absurd q1 z)
      obtain rfl := Option.some.inj h
      refine go_pick [0] rfl ?_
      exact k
    · refine go_icmp_ge (off := 32) (tgt := 45) (by decide +kernel) (by decide) (fun z => absurd z q1) (fun _ => ?_)
      refine go_blk rfl [(.aload_n 0, 1, 0, 0, 0, .inl 0), (.getfield 12, 3, 2, 1, 1, .inl 0)] 16 20 _ _ _ (by decide +kernel) ?_
      refine And.intro (lc_t20 hT) (Exists.intro _ (And.intro (gRc (lc_r2_1 hT)) ?_))
      show Go _ _ _ _ _ _ 20 [(0, rc 20), (2, vo a1), (3, vi l3)] [rc 21] ((S, T), Y) _
      obtain ⟨r2, hr2, h⟩ := bind_el h
      refine go_callV (idx := 60) (z := 1) (M' := M4_isOver) (n := 0) (A := []) (v' := some (vi r2)) (μ' := ((S, T), Y)) (d' := 2) (mc' := 0) (ms' := 0) (kc' := 0) (ks' := 0) (ci := 4) (x := .inl 21) (by decide +kernel) ml_2_60 rfl wv4_isOver rfl (by decide) rfl (lc_h21 hT).1 (ret4_isOver (lc_h21 hT) hr2) (by decide) rfl rfl (Nat.le_of_ble_eq_true rfl) rfl (jag rfl rfl) ?_
      show Go _ _ _ _ _ _ 23 [(0, rc 20), (2, vo a1), (3, vi l3)] [vi r2] ((S, T), Y) _
      refine ite_el h (fun q2 h => ?_) (fun q2 h => ?_)
      · refine go_if_ne (off := 22) (tgt := 45) (by decide +kernel) (by decide) (fun z => absurd q2 z) (fun _ => ?_)
        refine go_blk rfl [(.aload_n 0, 1, 0, 0, 0, .inl 0), (.getfield 46, 3, 2, 0, 1, .inl 0), (.aload_n 0, 1, 0, 0, 0, .inl 0), (.getfield 12, 3, 2, 1, 1, .inl 0), (.aload_n 2, 1, 2, 0, 0, .inl 0)] 26 35 _ _ _ (by decide +kernel) ?_
        refine And.intro (lc_t20 hT) (Exists.intro _ (And.intro (gRc (lc_r2_0 hT)) ?_))
        refine And.intro (lc_t20 hT) (Exists.intro _ (And.intro (gRc (lc_r2_1 hT)) ?_))
        show Go _ _ _ _ _ _ 35 [(0, rc 20), (2, vo a1), (3, vi l3)] [vo a1, rc 21, rc 17] ((S, T), Y) _
        obtain ⟨r3, hr3, h⟩ := bind_el h
        refine go_callV (idx := 54) (z := 1) (M' := M3_roundBy) (n := 2) (A := [rc 21, vo a1]) (v' := some (vi r3.2)) (μ' := ((r3.1, T), Y)) (d' := 5) (mc' := 0) (ms' := 0) (kc' := 0) (ks' := 0) (ci := 3) (x := .inl 17) (by decide +kernel) ml_2_54 rfl wv3_roundBy rfl (by decide) rfl (lc_t17 hT) (ret3_roundBy hT (lc_h21 hT) h1 hr3) (by decide) rfl rfl (Nat.le_of_ble_eq_true rfl) rfl (jag rfl rfl) ?_
        show Go _ _ _ _ _ _ 38 [(0, rc 20), (2, vo a1), (3, vi l3)] [vi r3.2] ((r3.1, T), Y) _
        refine go_blk rfl [(.pop, 1, 0, 0, 0, .inl 0), (.iinc 3 1, 3, 3, 0, 0, .inl 1)] 38 42 _ _ _ (by decide +kernel) ?_
        show Go _ _ _ _ _ _ 42 [(3, vi (l3 + 1)), (0, rc 20), (2, vo a1)] [] ((r3.1, T), Y) _
        refine go_goto (off := (-32)) (tgt := 10) (by decide +kernel) (by decide) ?_
        refine go_pick [1, 2, 0] rfl ?_
        exact ih _ _ _ h k
      · refine go_if_ne (off := 22) (tgt := 45) (by decide +kernel) (by decide) (fun _ => ?_) (fun z => absurd z q2)
        obtain rfl := Option.some.inj h
        refine go_pick [0] rfl ?_
        exact k
theorem ret2_whenOver {S : jS} {T : jT} {Y : jS × jT} {a0 : Nat} {a1 : Option Nat} {S1 : jS} {x : Unit} (hT : LayC T) (h0 : LayHall T a0) (h1 : ∀ q, a1 = some q → LayRule T q) (h : f2_whenOver T S a0 a1 = some (S1, x)) : Ret M2_whenOver 6 0 0 [rc 20, rc a0, vo a1] ((S, T), Y) (some (rc 21)) ((S1, T), Y) := by
  refine Ret.of (by decide +kernel) (Nat.le_of_ble_eq_true rfl) ?_
  unfold f2_whenOver at h
  show Go _ _ _ _ _ _ 0 [(0, rc 20), (1, rc a0), (2, vo a1)] [] ((S, T), Y) _
  refine go_blk rfl [(.aload_n 0, 1, 0, 0, 0, .inl 0), (.getfield 12, 3, 2, 1, 1, .inl 0), (.aload_n 1, 1, 1, 0, 0, .inl 0)] 0 5 _ _ _ (by decide +kernel) ?_
  refine And.intro (lc_t20 hT) (Exists.intro _ (And.intro (gRc (lc_r2_1 hT)) ?_))
  show Go _ _ _ _ _ _ 5 [(0, rc 20), (1, rc a0), (2, vo a1)] [rc a0, rc 21] ((S, T), Y) _
  obtain ⟨r1, hr1, h⟩ := bind_el h
  refine go_callV (idx := 50) (z := 1) (M' := M4_copyFrom) (n := 1) (A := [rc a0]) (v' := none) (μ' := ((r1.1, T), Y)) (d' := 2) (mc' := 0) (ms' := 0) (kc' := 0) (ks' := 0) (ci := 4) (x := .inl 21) (by decide +kernel) ml_2_50 rfl wv4_copyFrom rfl (by decide) rfl (lc_h21 hT).1 (ret4_copyFrom (lc_h21 hT) h0 hr1) (by decide) rfl rfl (Nat.le_of_ble_eq_true rfl) rfl (jag rfl rfl) ?_
  show Go _ _ _ _ _ _ 8 [(0, rc 20), (1, rc a0), (2, vo a1)] [] ((r1.1, T), Y) _
  refine go_blk rfl [(.iconst 0, 1, 0, 0, 0, .inl 0), (.istore_n 3, 1, 3, 0, 0, .inl 0)] 8 10 _ _ _ (by decide +kernel) ?_
  show Go _ _ _ _ _ _ 10 [(3, vi 0), (0, rc 20), (1, rc a0), (2, vo a1)] [] ((r1.1, T), Y) _
  refine go_pick [1, 3, 0] rfl ?_
  obtain ⟨y4, hy4, h⟩ := bind_el h
  refine f2_whenOver_L1_ok hT h0 h1 _ _ _ _ hy4 ?_
  show Go _ _ _ _ _ _ 45 [(0, rc 20)] [] ((y4, T), Y) _
  refine go_blk rfl [(.aload_n 0, 1, 0, 0, 0, .inl 0), (.getfield 12, 3, 2, 1, 1, .inl 0)] 45 49 _ _ _ (by decide +kernel) ?_
  refine And.intro (lc_t20 hT) (Exists.intro _ (And.intro (gRc (lc_r2_1 hT)) ?_))
  show Go _ _ _ _ _ _ 49 [(0, rc 20)] [rc 21] ((y4, T), Y) _
  obtain ⟨rfl, rfl⟩ := Prod.mk.inj (Option.some.inj h)
  exact go_areturn (by decide +kernel) rfl rfl ⟨rfl, rfl⟩
def f4_hasGuest (S : jS) (o : Nat) (a0 : Int32) : Option Int32 := (if a0 < 0 then some 0 else (if (S.1 o 2) ≤ a0 then some 0 else some 1))
theorem ret4_hasGuest {S : jS} {T : jT} {Y : jS × jT} {o : Nat} {a0 : Int32} {x : Int32} (hh : LayHall T o) (h : f4_hasGuest S o a0 = some x) : Ret M4_hasGuest 1 0 0 [rc o, vi a0] ((S, T), Y) (some (vi x)) ((S, T), Y) := by
  refine Ret.of (by decide +kernel) (Nat.le_of_ble_eq_true rfl) ?_
  unfold f4_hasGuest at h
  show Go _ _ _ _ _ _ 0 [(0, rc o), (1, vi a0)] [] ((S, T), Y) _
  refine go_blk rfl [(.iload_n 1, 1, 1, 0, 0, .inl 0)] 0 1 _ _ _ (by decide +kernel) ?_
  show Go _ _ _ _ _ _ 1 [(0, rc o), (1, vi a0)] [vi a0] ((S, T), Y) _
  refine ite_el h (fun q1 h => ?_) (fun q1 h => ?_)
  · refine go_if_lt (off := 15) (tgt := 16) (by decide +kernel) (by decide) (fun _ => ?_) (fun z => absurd q1 z)
    refine go_blk rfl [(.iconst 0, 1, 0, 0, 0, .inl 0)] 16 17 _ _ _ (by decide +kernel) ?_
    show Go _ _ _ _ _ _ 17 [(0, rc o), (1, vi a0)] [vi 0] ((S, T), Y) _
    obtain rfl := Option.some.inj h
    exact go_ireturn (by decide +kernel) rfl rfl ⟨rfl, rfl⟩
  · refine go_if_lt (off := 15) (tgt := 16) (by decide +kernel) (by decide) (fun z => absurd z q1) (fun _ => ?_)
    refine go_blk rfl [(.iload_n 1, 1, 1, 0, 0, .inl 0), (.aload_n 0, 1, 0, 0, 0, .inl 0), (.getfield 18, 3, 4, 2, 0, .inl 0)] 4 9 _ _ _ (by decide +kernel) ?_
    refine And.intro hh.1 ?_
    show Go _ _ _ _ _ _ 9 [(0, rc o), (1, vi a0)] [vi (S.1 o 2), vi a0] ((S, T), Y) _
    refine ite_el h (fun q2 h => ?_) (fun q2 h => ?_)
    · refine go_icmp_ge (off := 7) (tgt := 16) (by decide +kernel) (by decide) (fun _ => ?_) (fun z => absurd q2 z)
      refine go_blk rfl [(.iconst 0, 1, 0, 0, 0, .inl 0)] 16 17 _ _ _ (by decide +kernel) ?_
      show Go _ _ _ _ _ _ 17 [(0, rc o), (1, vi a0)] [vi 0] ((S, T), Y) _
      obtain rfl := Option.some.inj h
      exact go_ireturn (by decide +kernel) rfl rfl ⟨rfl, rfl⟩
    · refine go_icmp_ge (off := 7) (tgt := 16) (by decide +kernel) (by decide) (fun z => absurd z q2) (fun _ => ?_)
      refine go_blk rfl [(.iconst 1, 1, 0, 0, 0, .inl 1)] 12 13 _ _ _ (by decide +kernel) ?_
      show Go _ _ _ _ _ _ 13 [(0, rc o), (1, vi a0)] [vi 1] ((S, T), Y) _
      refine go_goto (off := 4) (tgt := 17) (by decide +kernel) (by decide) ?_
      obtain rfl := Option.some.inj h
      exact go_ireturn (by decide +kernel) rfl rfl ⟨rfl, rfl⟩
def f4_isIn (S : jS) (o : Nat) (a0 : Int32) : Option Int32 := Option.bind (f4_hasGuest S o a0) (fun r1 => (if r1 = 0 then some 0 else (if (((S.1 o 4) >>> (a0 &&& 31)) &&& 1) = 1 then some 1 else some 0)))
theorem ret4_isIn {S : jS} {T : jT} {Y : jS × jT} {o : Nat} {a0 : Int32} {x : Int32} (hh : LayHall T o) (h : f4_isIn S o a0 = some x) : Ret M4_isIn 2 0 0 [rc o, vi a0] ((S, T), Y) (some (vi x)) ((S, T), Y) := by
  refine Ret.of (by decide +kernel) (Nat.le_of_ble_eq_true rfl) ?_
  unfold f4_isIn at h
  show Go _ _ _ _ _ _ 0 [(0, rc o), (1, vi a0)] [] ((S, T), Y) _
  refine go_blk rfl [(.aload_n 0, 1, 0, 0, 0, .inl 0), (.iload_n 1, 1, 1, 0, 0, .inl 0)] 0 2 _ _ _ (by decide +kernel) ?_
  show Go _ _ _ _ _ _ 2 [(0, rc o), (1, vi a0)] [vi a0, rc o] ((S, T), Y) _
  obtain ⟨r1, hr1, h⟩ := bind_el h
  refine go_callV (idx := 71) (z := 0) (M' := M4_hasGuest) (n := 1) (A := [vi a0]) (v' := some (vi r1)) (μ' := ((S, T), Y)) (d' := 1) (mc' := 0) (ms' := 0) (kc' := 0) (ks' := 0) (ci := 4) (x := .inl o) (by decide +kernel) ml_4_71 rfl wv4_hasGuest rfl (by decide) rfl hh.1 (ret4_hasGuest hh hr1) (by decide) rfl rfl (Nat.le_of_ble_eq_true rfl) rfl (jag rfl rfl) ?_
  show Go _ _ _ _ _ _ 5 [(0, rc o), (1, vi a0)] [vi r1] ((S, T), Y) _
  refine ite_el h (fun q1 h => ?_) (fun q1 h => ?_)
  · refine go_if_eq (off := 19) (tgt := 24) (by decide +kernel) (by decide) (fun _ => ?_) (fun z => absurd q1 z)
    refine go_blk rfl [(.iconst 0, 1, 0, 0, 0, .inl 0)] 24 25 _ _ _ (by decide +kernel) ?_
    show Go _ _ _ _ _ _ 25 [(0, rc o), (1, vi a0)] [vi 0] ((S, T), Y) _
    obtain rfl := Option.some.inj h
    exact go_ireturn (by decide +kernel) rfl rfl ⟨rfl, rfl⟩
  · refine go_if_eq (off := 19) (tgt := 24) (by decide +kernel) (by decide) (fun z => absurd z q1) (fun _ => ?_)
    refine go_blk rfl [(.aload_n 0, 1, 0, 0, 0, .inl 0), (.getfield 24, 3, 4, 4, 0, .inl 0), (.iload_n 1, 1, 1, 0, 0, .inl 0), (.ishr, 1, 0, 0, 0, .inl 0), (.iconst 1, 1, 0, 0, 0, .inl 1), (.iand, 1, 0, 0, 0, .inl 0), (.iconst 1, 1, 0, 0, 0, .inl 1)] 8 17 _ _ _ (by decide +kernel) ?_
    refine And.intro hh.1 ?_
    show Go _ _ _ _ _ _ 17 [(0, rc o), (1, vi a0)] [vi 1, vi (((S.1 o 4) >>> (a0 &&& 31)) &&& 1)] ((S, T), Y) _
    refine ite_el h (fun q2 h => ?_) (fun q2 h => ?_)
    · refine go_icmp_ne (off := 7) (tgt := 24) (by decide +kernel) (by decide) (fun z => absurd q2 z) (fun _ => ?_)
      refine go_blk rfl [(.iconst 1, 1, 0, 0, 0, .inl 1)] 20 21 _ _ _ (by decide +kernel) ?_
      show Go _ _ _ _ _ _ 21 [(0, rc o), (1, vi a0)] [vi 1] ((S, T), Y) _
      refine go_goto (off := 4) (tgt := 25) (by decide +kernel) (by decide) ?_
      obtain rfl := Option.some.inj h
      exact go_ireturn (by decide +kernel) rfl rfl ⟨rfl, rfl⟩
    · refine go_icmp_ne (off := 7) (tgt := 24) (by decide +kernel) (by decide) (fun _ => ?_) (fun z => absurd z q2)
      refine go_blk rfl [(.iconst 0, 1, 0, 0, 0, .inl 0)] 24 25 _ _ _ (by decide +kernel) ?_
      show Go _ _ _ _ _ _ 25 [(0, rc o), (1, vi a0)] [vi 0] ((S, T), Y) _
      obtain rfl := Option.some.inj h
      exact go_ireturn (by decide +kernel) rfl rfl ⟨rfl, rfl⟩
def f2_roundOut_L1 (T : jT) (a1 : Option Nat) (l3 : Int32) : Nat → jS → Int32 → Option (jS × Int32)
  | 0, _, _ => none
  | n + 1, S, l4 => (if 6 ≤ l4 then some (S, (-2)) else Option.bind (f4_isOver S 21) (fun r2 => (if r2 = 0 then Option.bind (f3_roundBy T S 21 a1) (fun r3 => Option.bind (f4_isIn r3.1 21 l3) (fun r4 => (if r4 = 0 then some (r3.1, (r3.1.1 21 5) - 1) else f2_roundOut_L1 T a1 l3 n r3.1 (l4 + 1)))) else some (S, (-2)))))
def f2_roundOut (T : jT) (S : jS) (a0 : Nat) (a1 : Option Nat) (a2 : Int32) : Option (jS × Int32) := Option.bind (f4_copyFrom S 21 a0) (fun r1 => f2_roundOut_L1 T a1 a2 jF r1.1 0)
theorem f2_roundOut_L1_ok {T : jT} {Y : jS × jT} {a1 : Option Nat} {l3 : Int32} {a0 : Nat} {S1 : jS} {x : Int32} (hT : LayC T) (h0 : LayHall T a0) (h1 : ∀ q, a1 = some q → LayRule T q) : ∀ (n : Nat) (S : jS) (l4 : Int32), f2_roundOut_L1 T a1 l3 n S l4 = some (S1, x) → Go M2_roundOut 6 0 0 0 0 11 [(0, rc 20), (2, vo a1), (3, vi l3), (4, vi l4)] [] ((S, T), Y) (eqQ (some (vi x)) ((S1, T), Y)) := by
  intro n
  induction n with
  | zero => intro S l4 h; exact absurd h (by intro z; cases z)
  | succ n ih =>
    intro S l4 h
    rw [f2_roundOut_L1] at h
    refine go_blk rfl [(.iload 4, 2, 4, 0, 0, .inl 0), (.bipush 6, 2, 0, 0, 0, .inl 6)] 11 15 _ _ _ (by decide +kernel) ?_
    show Go _ _ _ _ _ _ 15 [(0, rc 20), (2, vo a1), (3, vi l3), (4, vi l4)] [vi 6, vi l4] ((S, T), Y) _
    refine ite_el h (fun q1 h => ?_) (fun q1 h => ?_)
    · refine go_icmp_ge (off := 53) (tgt := 68) (by decide +kernel) (by decide) (fun _ => ?_) (fun z => absurd q1 z)
      refine go_blk rfl [(.bipush (-2), 2, 0, 0, 0, .inl (-2))] 68 70 _ _ _ (by decide +kernel) ?_
      show Go _ _ _ _ _ _ 70 [(0, rc 20), (2, vo a1), (3, vi l3), (4, vi l4)] [vi ((-2))] ((S, T), Y) _
      obtain ⟨rfl, rfl⟩ := Prod.mk.inj (Option.some.inj h)
      exact go_ireturn (by decide +kernel) rfl rfl ⟨rfl, rfl⟩
    · refine go_icmp_ge (off := 53) (tgt := 68) (by decide +kernel) (by decide) (fun z => absurd z q1) (fun _ => ?_)
      refine go_blk rfl [(.aload_n 0, 1, 0, 0, 0, .inl 0), (.getfield 12, 3, 2, 1, 1, .inl 0)] 18 22 _ _ _ (by decide +kernel) ?_
      refine And.intro (lc_t20 hT) (Exists.intro _ (And.intro (gRc (lc_r2_1 hT)) ?_))
      show Go _ _ _ _ _ _ 22 [(0, rc 20), (2, vo a1), (3, vi l3), (4, vi l4)] [rc 21] ((S, T), Y) _
      obtain ⟨r2, hr2, h⟩ := bind_el h
      refine go_callV (idx := 60) (z := 1) (M' := M4_isOver) (n := 0) (A := []) (v' := some (vi r2)) (μ' := ((S, T), Y)) (d' := 2) (mc' := 0) (ms' := 0) (kc' := 0) (ks' := 0) (ci := 4) (x := .inl 21) (by decide +kernel) ml_2_60 rfl wv4_isOver rfl (by decide) rfl (lc_h21 hT).1 (ret4_isOver (lc_h21 hT) hr2) (by decide) rfl rfl (Nat.le_of_ble_eq_true rfl) rfl (jag rfl rfl) ?_
      show Go _ _ _ _ _ _ 25 [(0, rc 20), (2, vo a1), (3, vi l3), (4, vi l4)] [vi r2] ((S, T), Y) _
      refine ite_el h (fun q2 h => ?_) (fun q2 h => ?_)
      · refine go_if_ne (off := 43) (tgt := 68) (by decide +kernel) (by decide) (fun z => absurd q2 z) (fun _ => ?_)
        refine go_blk rfl [(.aload_n 0, 1, 0, 0, 0, .inl 0), (.getfield 46, 3, 2, 0, 1, .inl 0), (.aload_n 0, 1, 0, 0, 0, .inl 0), (.getfield 12, 3, 2, 1, 1, .inl 0), (.aload_n 2, 1, 2, 0, 0, .inl 0)] 28 37 _ _ _ (by decide +kernel) ?_
        refine And.intro (lc_t20 hT) (Exists.intro _ (And.intro (gRc (lc_r2_0 hT)) ?_))
        refine And.intro (lc_t20 hT) (Exists.intro _ (And.intro (gRc (lc_r2_1 hT)) ?_))
        show Go _ _ _ _ _ _ 37 [(0, rc 20), (2, vo a1), (3, vi l3), (4, vi l4)] [vo a1, rc 21, rc 17] ((S, T), Y) _
        obtain ⟨r3, hr3, h⟩ := bind_el h
        refine go_callV (idx := 54) (z := 1) (M' := M3_roundBy) (n := 2) (A := [rc 21, vo a1]) (v' := some (vi r3.2)) (μ' := ((r3.1, T), Y)) (d' := 5) (mc' := 0) (ms' := 0) (kc' := 0) (ks' := 0) (ci := 3) (x := .inl 17) (by decide +kernel) ml_2_54 rfl wv3_roundBy rfl (by decide) rfl (lc_t17 hT) (ret3_roundBy hT (lc_h21 hT) h1 hr3) (by decide) rfl rfl (Nat.le_of_ble_eq_true rfl) rfl (jag rfl rfl) ?_
        show Go _ _ _ _ _ _ 40 [(0, rc 20), (2, vo a1), (3, vi l3), (4, vi l4)] [vi r3.2] ((r3.1, T), Y) _
        refine go_blk rfl [(.pop, 1, 0, 0, 0, .inl 0), (.aload_n 0, 1, 0, 0, 0, .inl 0), (.getfield 12, 3, 2, 1, 1, .inl 0), (.iload_n 3, 1, 3, 0, 0, .inl 0)] 40 46 _ _ _ (by decide +kernel) ?_
        refine And.intro (lc_t20 hT) (Exists.intro _ (And.intro (gRc (lc_r2_1 hT)) ?_))
        show Go _ _ _ _ _ _ 46 [(0, rc 20), (2, vo a1), (3, vi l3), (4, vi l4)] [vi l3, rc 21] ((r3.1, T), Y) _
        obtain ⟨r4, hr4, h⟩ := bind_el h
        refine go_callV (idx := 64) (z := 1) (M' := M4_isIn) (n := 1) (A := [vi l3]) (v' := some (vi r4)) (μ' := ((r3.1, T), Y)) (d' := 2) (mc' := 0) (ms' := 0) (kc' := 0) (ks' := 0) (ci := 4) (x := .inl 21) (by decide +kernel) ml_2_64 rfl wv4_isIn rfl (by decide) rfl (lc_h21 hT).1 (ret4_isIn (lc_h21 hT) hr4) (by decide) rfl rfl (Nat.le_of_ble_eq_true rfl) rfl (jag rfl rfl) ?_
        show Go _ _ _ _ _ _ 49 [(0, rc 20), (2, vo a1), (3, vi l3), (4, vi l4)] [vi r4] ((r3.1, T), Y) _
        refine ite_el h (fun q3 h => ?_) (fun q3 h => ?_)
        · refine go_if_ne (off := 13) (tgt := 62) (by decide +kernel) (by decide) (fun z => absurd q3 z) (fun _ => ?_)
          refine go_blk rfl [(.aload_n 0, 1, 0, 0, 0, .inl 0), (.getfield 12, 3, 2, 1, 1, .inl 0), (.getfield 68, 3, 4, 5, 0, .inl 0), (.iconst 1, 1, 0, 0, 0, .inl 1), (.isub, 1, 0, 0, 0, .inl 0)] 52 61 _ _ _ (by decide +kernel) ?_
          refine And.intro (lc_t20 hT) (Exists.intro _ (And.intro (gRc (lc_r2_1 hT)) ?_))
          refine And.intro (lc_h21 hT).1 ?_
          show Go _ _ _ _ _ _ 61 [(0, rc 20), (2, vo a1), (3, vi l3), (4, vi l4)] [vi ((r3.1.1 21 5) - 1)] ((r3.1, T), Y) _
          obtain ⟨rfl, rfl⟩ := Prod.mk.inj (Option.some.inj h)
          exact go_ireturn (by decide +kernel) rfl rfl ⟨rfl, rfl⟩
        · refine go_if_ne (off := 13) (tgt := 62) (by decide +kernel) (by decide) (fun _ => ?_) (fun z => absurd z q3)
          refine go_blk rfl [(.iinc 4 1, 3, 4, 0, 0, .inl 1)] 62 65 _ _ _ (by decide +kernel) ?_
          show Go _ _ _ _ _ _ 65 [(4, vi (l4 + 1)), (0, rc 20), (2, vo a1), (3, vi l3)] [] ((r3.1, T), Y) _
          refine go_goto (off := (-54)) (tgt := 11) (by decide +kernel) (by decide) ?_
          refine go_pick [1, 2, 3, 0] rfl ?_
          exact ih _ _ h
      · refine go_if_ne (off := 43) (tgt := 68) (by decide +kernel) (by decide) (fun _ => ?_) (fun z => absurd z q2)
        refine go_blk rfl [(.bipush (-2), 2, 0, 0, 0, .inl (-2))] 68 70 _ _ _ (by decide +kernel) ?_
        show Go _ _ _ _ _ _ 70 [(0, rc 20), (2, vo a1), (3, vi l3), (4, vi l4)] [vi ((-2))] ((S, T), Y) _
        obtain ⟨rfl, rfl⟩ := Prod.mk.inj (Option.some.inj h)
        exact go_ireturn (by decide +kernel) rfl rfl ⟨rfl, rfl⟩
theorem ret2_roundOut {S : jS} {T : jT} {Y : jS × jT} {a0 : Nat} {a1 : Option Nat} {a2 : Int32} {S1 : jS} {x : Int32} (hT : LayC T) (h0 : LayHall T a0) (h1 : ∀ q, a1 = some q → LayRule T q) (h : f2_roundOut T S a0 a1 a2 = some (S1, x)) : Ret M2_roundOut 6 0 0 [rc 20, rc a0, vo a1, vi a2] ((S, T), Y) (some (vi x)) ((S1, T), Y) := by
  refine Ret.of (by decide +kernel) (Nat.le_of_ble_eq_true rfl) ?_
  unfold f2_roundOut at h
  show Go _ _ _ _ _ _ 0 [(0, rc 20), (1, rc a0), (2, vo a1), (3, vi a2)] [] ((S, T), Y) _
  refine go_blk rfl [(.aload_n 0, 1, 0, 0, 0, .inl 0), (.getfield 12, 3, 2, 1, 1, .inl 0), (.aload_n 1, 1, 1, 0, 0, .inl 0)] 0 5 _ _ _ (by decide +kernel) ?_
  refine And.intro (lc_t20 hT) (Exists.intro _ (And.intro (gRc (lc_r2_1 hT)) ?_))
  show Go _ _ _ _ _ _ 5 [(0, rc 20), (1, rc a0), (2, vo a1), (3, vi a2)] [rc a0, rc 21] ((S, T), Y) _
  obtain ⟨r1, hr1, h⟩ := bind_el h
  refine go_callV (idx := 50) (z := 1) (M' := M4_copyFrom) (n := 1) (A := [rc a0]) (v' := none) (μ' := ((r1.1, T), Y)) (d' := 2) (mc' := 0) (ms' := 0) (kc' := 0) (ks' := 0) (ci := 4) (x := .inl 21) (by decide +kernel) ml_2_50 rfl wv4_copyFrom rfl (by decide) rfl (lc_h21 hT).1 (ret4_copyFrom (lc_h21 hT) h0 hr1) (by decide) rfl rfl (Nat.le_of_ble_eq_true rfl) rfl (jag rfl rfl) ?_
  show Go _ _ _ _ _ _ 8 [(0, rc 20), (1, rc a0), (2, vo a1), (3, vi a2)] [] ((r1.1, T), Y) _
  refine go_blk rfl [(.iconst 0, 1, 0, 0, 0, .inl 0), (.istore 4, 2, 4, 0, 0, .inl 0)] 8 11 _ _ _ (by decide +kernel) ?_
  show Go _ _ _ _ _ _ 11 [(4, vi 0), (0, rc 20), (1, rc a0), (2, vo a1), (3, vi a2)] [] ((r1.1, T), Y) _
  refine go_pick [1, 3, 4, 0] rfl ?_
  exact f2_roundOut_L1_ok hT h0 h1 _ _ _ h
def f2_sitsBy (S : jS) (a0 : Nat) (a1 : Int32) (a2 : Int32) : Option (jS × Int32) := Option.bind (f4_copyFrom S 21 a0) (fun r1 => Option.bind (f3_roundOf r1.1 21 a2) (fun r2 => (if ((r2.2 >>> (a1 &&& 31)) &&& 1) = 1 then some (r2.1, 1) else some (r2.1, 0))))
theorem ret2_sitsBy {S : jS} {T : jT} {Y : jS × jT} {a0 : Nat} {a1 : Int32} {a2 : Int32} {S1 : jS} {x : Int32} (hT : LayC T) (h0 : LayHall T a0) (h : f2_sitsBy S a0 a1 a2 = some (S1, x)) : Ret M2_sitsBy 5 0 0 [rc 20, rc a0, vi a1, vi a2] ((S, T), Y) (some (vi x)) ((S1, T), Y) := by
  refine Ret.of (by decide +kernel) (Nat.le_of_ble_eq_true rfl) ?_
  unfold f2_sitsBy at h
  show Go _ _ _ _ _ _ 0 [(0, rc 20), (1, rc a0), (2, vi a1), (3, vi a2)] [] ((S, T), Y) _
  refine go_blk rfl [(.aload_n 0, 1, 0, 0, 0, .inl 0), (.getfield 12, 3, 2, 1, 1, .inl 0), (.aload_n 1, 1, 1, 0, 0, .inl 0)] 0 5 _ _ _ (by decide +kernel) ?_
  refine And.intro (lc_t20 hT) (Exists.intro _ (And.intro (gRc (lc_r2_1 hT)) ?_))
  show Go _ _ _ _ _ _ 5 [(0, rc 20), (1, rc a0), (2, vi a1), (3, vi a2)] [rc a0, rc 21] ((S, T), Y) _
  obtain ⟨r1, hr1, h⟩ := bind_el h
  refine go_callV (idx := 50) (z := 1) (M' := M4_copyFrom) (n := 1) (A := [rc a0]) (v' := none) (μ' := ((r1.1, T), Y)) (d' := 2) (mc' := 0) (ms' := 0) (kc' := 0) (ks' := 0) (ci := 4) (x := .inl 21) (by decide +kernel) ml_2_50 rfl wv4_copyFrom rfl (by decide) rfl (lc_h21 hT).1 (ret4_copyFrom (lc_h21 hT) h0 hr1) (by decide) rfl rfl (Nat.le_of_ble_eq_true rfl) rfl (jag rfl rfl) ?_
  show Go _ _ _ _ _ _ 8 [(0, rc 20), (1, rc a0), (2, vi a1), (3, vi a2)] [] ((r1.1, T), Y) _
  refine go_blk rfl [(.aload_n 0, 1, 0, 0, 0, .inl 0), (.getfield 46, 3, 2, 0, 1, .inl 0), (.aload_n 0, 1, 0, 0, 0, .inl 0), (.getfield 12, 3, 2, 1, 1, .inl 0), (.iload_n 3, 1, 3, 0, 0, .inl 0)] 8 17 _ _ _ (by decide +kernel) ?_
  refine And.intro (lc_t20 hT) (Exists.intro _ (And.intro (gRc (lc_r2_0 hT)) ?_))
  refine And.intro (lc_t20 hT) (Exists.intro _ (And.intro (gRc (lc_r2_1 hT)) ?_))
  show Go _ _ _ _ _ _ 17 [(0, rc 20), (1, rc a0), (2, vi a1), (3, vi a2)] [vi a2, rc 21, rc 17] ((r1.1, T), Y) _
  obtain ⟨r2, hr2, h⟩ := bind_el h
  refine go_callV (idx := 71) (z := 1) (M' := M3_roundOf) (n := 2) (A := [rc 21, vi a2]) (v' := some (vi r2.2)) (μ' := ((r2.1, T), Y)) (d' := 4) (mc' := 0) (ms' := 0) (kc' := 0) (ks' := 0) (ci := 3) (x := .inl 17) (by decide +kernel) ml_2_71 rfl wv3_roundOf rfl (by decide) rfl (lc_t17 hT) (ret3_roundOf hT (lc_h21 hT) hr2) (by decide) rfl rfl (Nat.le_of_ble_eq_true rfl) rfl (jag rfl rfl) ?_
  show Go _ _ _ _ _ _ 20 [(0, rc 20), (1, rc a0), (2, vi a1), (3, vi a2)] [vi r2.2] ((r2.1, T), Y) _
  refine go_blk rfl [(.iload_n 2, 1, 2, 0, 0, .inl 0), (.ishr, 1, 0, 0, 0, .inl 0), (.iconst 1, 1, 0, 0, 0, .inl 1), (.iand, 1, 0, 0, 0, .inl 0), (.iconst 1, 1, 0, 0, 0, .inl 1)] 20 25 _ _ _ (by decide +kernel) ?_
  show Go _ _ _ _ _ _ 25 [(0, rc 20), (1, rc a0), (2, vi a1), (3, vi a2)] [vi 1, vi ((r2.2 >>> (a1 &&& 31)) &&& 1)] ((r2.1, T), Y) _
  refine ite_el h (fun q1 h => ?_) (fun q1 h => ?_)
  · refine go_icmp_ne (off := 7) (tgt := 32) (by decide +kernel) (by decide) (fun z => absurd q1 z) (fun _ => ?_)
    refine go_blk rfl [(.iconst 1, 1, 0, 0, 0, .inl 1)] 28 29 _ _ _ (by decide +kernel) ?_
    show Go _ _ _ _ _ _ 29 [(0, rc 20), (1, rc a0), (2, vi a1), (3, vi a2)] [vi 1] ((r2.1, T), Y) _
    refine go_goto (off := 4) (tgt := 33) (by decide +kernel) (by decide) ?_
    obtain ⟨rfl, rfl⟩ := Prod.mk.inj (Option.some.inj h)
    exact go_ireturn (by decide +kernel) rfl rfl ⟨rfl, rfl⟩
  · refine go_icmp_ne (off := 7) (tgt := 32) (by decide +kernel) (by decide) (fun _ => ?_) (fun z => absurd z q1)
    refine go_blk rfl [(.iconst 0, 1, 0, 0, 0, .inl 0)] 32 33 _ _ _ (by decide +kernel) ?_
    show Go _ _ _ _ _ _ 33 [(0, rc 20), (1, rc a0), (2, vi a1), (3, vi a2)] [vi 0] ((r2.1, T), Y) _
    obtain ⟨rfl, rfl⟩ := Prod.mk.inj (Option.some.inj h)
    exact go_ireturn (by decide +kernel) rfl rfl ⟨rfl, rfl⟩
def f2_countSafe_L1 (a0 : Nat) (l2 : Int32) : Nat → jS → Int32 → Int32 → Option (jS × Int32)
  | 0, _, _, _ => none
  | n + 1, S, l3, l4 => (if 60 < l4 then some (S, l3) else Option.bind (f2_sitsBy S a0 l2 l4) (fun r1 => f2_countSafe_L1 a0 l2 n r1.1 (((if r1.2 = 0 then l3 else (l3 + 1)) : Int32)) (l4 + 1)))
def f2_countSafe (S : jS) (a0 : Nat) (a1 : Int32) : Option (jS × Int32) := Option.bind (f2_countSafe_L1 a0 a1 jF S 0 1) (fun y2 => some (y2.1, y2.2))
theorem f2_countSafe_L1_ok {T : jT} {Y : jS × jT} {a0 : Nat} {l2 : Int32} {Q : Option jV → jMem → Prop} (hT : LayC T) (h0 : LayHall T a0) : ∀ (n : Nat) (S : jS) (l3 : Int32) (l4 : Int32) (r : (jS × Int32)), f2_countSafe_L1 a0 l2 n S l3 l4 = some r → Go M2_countSafe 6 0 0 0 0 32 [(3, vi r.2)] [] ((r.1, T), Y) Q → Go M2_countSafe 6 0 0 0 0 5 [(0, rc 20), (1, rc a0), (2, vi l2), (3, vi l3), (4, vi l4)] [] ((S, T), Y) Q := by
  intro n
  induction n with
  | zero => intro S l3 l4 r h k; exact absurd h (by intro z; cases z)
  | succ n ih =>
    intro S l3 l4 r h k
    rw [f2_countSafe_L1] at h
    refine go_blk rfl [(.iload 4, 2, 4, 0, 0, .inl 0), (.bipush 60, 2, 0, 0, 0, .inl 60)] 5 9 _ _ _ (by decide +kernel) ?_
    show Go _ _ _ _ _ _ 9 [(0, rc 20), (1, rc a0), (2, vi l2), (3, vi l3), (4, vi l4)] [vi 60, vi l4] ((S, T), Y) _
    refine ite_el h (fun q1 h => ?_) (fun q1 h => ?_)
    · refine go_icmp_gt (off := 23) (tgt := 32) (by decide +kernel) (by decide) (fun _ => ?_) (fun z => absurd q1 z)
      obtain rfl := Option.some.inj h
      refine go_pick [3] rfl ?_
      exact k
    · refine go_icmp_gt (off := 23) (tgt := 32) (by decide +kernel) (by decide) (fun z => absurd z q1) (fun _ => ?_)
      refine go_blk rfl [(.aload_n 0, 1, 0, 0, 0, .inl 0), (.aload_n 1, 1, 1, 0, 0, .inl 0), (.iload_n 2, 1, 2, 0, 0, .inl 0), (.iload 4, 2, 4, 0, 0, .inl 0)] 12 17 _ _ _ (by decide +kernel) ?_
      show Go _ _ _ _ _ _ 17 [(0, rc 20), (1, rc a0), (2, vi l2), (3, vi l3), (4, vi l4)] [vi l4, vi l2, rc a0, rc 20] ((S, T), Y) _
      obtain ⟨r1, hr1, h⟩ := bind_el h
      refine go_callV (idx := 75) (z := 0) (M' := M2_sitsBy) (n := 3) (A := [rc a0, vi l2, vi l4]) (v' := some (vi r1.2)) (μ' := ((r1.1, T), Y)) (d' := 5) (mc' := 0) (ms' := 0) (kc' := 0) (ks' := 0) (ci := 2) (x := .inl 20) (by decide +kernel) ml_2_75 rfl wv2_sitsBy rfl (by decide) rfl (lc_t20 hT) (ret2_sitsBy hT h0 hr1) (by decide) rfl rfl (Nat.le_of_ble_eq_true rfl) rfl (jag rfl rfl) ?_
      show Go _ _ _ _ _ _ 20 [(0, rc 20), (1, rc a0), (2, vi l2), (3, vi l3), (4, vi l4)] [vi r1.2] ((r1.1, T), Y) _
      have key : ∀ z0 : Int32, z0 = ((if r1.2 = 0 then l3 else (l3 + 1)) : Int32) → Go M2_countSafe 6 0 0 0 0 26 [(0, rc 20), (1, rc a0), (2, vi l2), (3, vi z0), (4, vi l4)] [] ((r1.1, T), Y) Q := by
        intro z0 ez0
        subst ez0
        refine go_blk rfl [(.iinc 4 1, 3, 4, 0, 0, .inl 1)] 26 29 _ _ _ (by decide +kernel) ?_
        show Go _ _ _ _ _ _ 29 [(4, vi (l4 + 1)), (0, rc 20), (1, rc a0), (2, vi l2), (3, vi (((if r1.2 = 0 then l3 else (l3 + 1)) : Int32)))] [] ((r1.1, T), Y) _
        refine go_goto (off := (-24)) (tgt := 5) (by decide +kernel) (by decide) ?_
        refine go_pick [1, 2, 3, 4, 0] rfl ?_
        exact ih _ _ _ _ h k
      clear h
      by_cases q2 : r1.2 = 0
      · refine go_if_eq (off := 6) (tgt := 26) (by decide +kernel) (by decide) (fun _ => ?_) (fun z => absurd q2 z)
        refine go_pick [0, 1, 2, 3, 4] rfl ?_; exact key _ (by rw [if_pos q2])
      · refine go_if_eq (off := 6) (tgt := 26) (by decide +kernel) (by decide) (fun z => absurd z q2) (fun _ => ?_)
        refine go_blk rfl [(.iinc 3 1, 3, 3, 0, 0, .inl 1)] 23 26 _ _ _ (by decide +kernel) ?_
        show Go _ _ _ _ _ _ 26 [(3, vi (l3 + 1)), (0, rc 20), (1, rc a0), (2, vi l2), (4, vi l4)] [] ((r1.1, T), Y) _
        refine go_pick [1, 2, 3, 0, 4] rfl ?_; exact key _ (by rw [if_neg q2])
theorem ret2_countSafe {S : jS} {T : jT} {Y : jS × jT} {a0 : Nat} {a1 : Int32} {S1 : jS} {x : Int32} (hT : LayC T) (h0 : LayHall T a0) (h : f2_countSafe S a0 a1 = some (S1, x)) : Ret M2_countSafe 6 0 0 [rc 20, rc a0, vi a1] ((S, T), Y) (some (vi x)) ((S1, T), Y) := by
  refine Ret.of (by decide +kernel) (Nat.le_of_ble_eq_true rfl) ?_
  unfold f2_countSafe at h
  show Go _ _ _ _ _ _ 0 [(0, rc 20), (1, rc a0), (2, vi a1)] [] ((S, T), Y) _
  refine go_blk rfl [(.iconst 0, 1, 0, 0, 0, .inl 0), (.istore_n 3, 1, 3, 0, 0, .inl 0), (.iconst 1, 1, 0, 0, 0, .inl 1), (.istore 4, 2, 4, 0, 0, .inl 0)] 0 5 _ _ _ (by decide +kernel) ?_
  show Go _ _ _ _ _ _ 5 [(4, vi 1), (3, vi 0), (0, rc 20), (1, rc a0), (2, vi a1)] [] ((S, T), Y) _
  refine go_pick [2, 3, 4, 1, 0] rfl ?_
  obtain ⟨y2, hy2, h⟩ := bind_el h
  refine f2_countSafe_L1_ok hT h0 _ _ _ _ _ hy2 ?_
  show Go _ _ _ _ _ _ 32 [(3, vi y2.2)] [] ((y2.1, T), Y) _
  refine go_blk rfl [(.iload_n 3, 1, 3, 0, 0, .inl 0)] 32 33 _ _ _ (by decide +kernel) ?_
  show Go _ _ _ _ _ _ 33 [(3, vi y2.2)] [vi y2.2] ((y2.1, T), Y) _
  obtain ⟨rfl, rfl⟩ := Prod.mk.inj (Option.some.inj h)
  exact go_ireturn (by decide +kernel) rfl rfl ⟨rfl, rfl⟩
