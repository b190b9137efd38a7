def f11_copies_L1 (a0 : Nat) (n0 : Nat) (a1 : Nat) (n1 : Nat) : Nat → jS → Int32 → Option jS
  | 0, _, _ => none
  | n + 1, S, l2 => (if (nI n0) ≤ l2 then some S else (if inb l2 n0 then (if inb l2 n1 then f11_copies_L1 a0 n0 a1 n1 n (wI S a1 l2.toNatClampNeg (S.1 a0 l2.toNatClampNeg)) (l2 + 1) else none) else none))
def f11_copies (S : jS) (a0 : Nat) (n0 : Nat) (a1 : Nat) (n1 : Nat) : Option (jS × Unit) := Option.bind (f11_copies_L1 a0 n0 a1 n1 jF S 0) (fun y1 => some (y1, ()))
theorem f11_copies_L1_ok {T : jT} {Y : jS × jT} {a0 : Nat} {n0 : Nat} {a1 : Nat} {n1 : Nat} {Q : Option jV → jMem → Prop} (hT : LayM T) (h0 : T.2.1 a0 = 20 ∧ T.2.2.1 a0 = n0) (h1 : T.2.1 a1 = 20 ∧ T.2.2.1 a1 = n1) : ∀ (n : Nat) (S : jS) (l2 : Int32) (r : jS), f11_copies_L1 a0 n0 a1 n1 n S l2 = some r → Go M11_copies 1 0 0 0 0 20 [] [] (Y, (r, T)) Q → Go M11_copies 1 0 0 0 0 2 [(0, rm a0), (1, rm a1), (2, vi l2)] [] (Y, (S, T)) Q := by
  intro n
  induction n with
  | zero => intro S l2 r h k; exact absurd h (by intro z; cases z)
  | succ n ih =>
    intro S l2 r h k
    rw [f11_copies_L1] at h
    refine go_blk rfl [(.iload_n 2, 1, 2, 0, 0, .inl 0), (.aload_n 0, 1, 0, 0, 0, .inl 0), (.arraylength, 1, 20, 0, 0, .inl 0)] 2 5 _ _ _ (by decide +kernel) ?_
    refine And.intro h0.1 (Exists.intro _ (And.intro h0.2 ?_))
    show Go _ _ _ _ _ _ 5 [(0, rm a0), (1, rm a1), (2, vi l2)] [vi (nI n0), vi l2] (Y, (S, T)) _
    refine ite_el h (fun q1 h => ?_) (fun q1 h => ?_)
    · refine go_icmp_ge (off := 15) (tgt := 20) (by decide +kernel) (by decide) (fun _ => ?_) (fun z => absurd q1 z)
      obtain rfl := Option.some.inj h
      refine go_pick [] rfl ?_
      exact k
    · refine go_icmp_ge (off := 15) (tgt := 20) (by decide +kernel) (by decide) (fun z => absurd z q1) (fun _ => ?_)
      refine gd_el h (fun q2 h => ?_)
      refine gd_el h (fun q3 h => ?_)
      refine go_blk rfl [(.aload_n 1, 1, 1, 0, 0, .inl 0), (.iload_n 2, 1, 2, 0, 0, .inl 0), (.aload_n 0, 1, 0, 0, 0, .inl 0), (.iload_n 2, 1, 2, 0, 0, .inl 0), (.iaload, 1, 20, 0, 0, .inl 0), (.iastore, 1, 20, 0, 0, .inl 0)] 8 14 _ _ _ (by decide +kernel) ?_
      refine And.intro h0.1 (Exists.intro _ (And.intro h0.2 (And.intro (inb_in q2) ?_)))
      refine And.intro h1.1 (Exists.intro _ (And.intro h1.2 (And.intro (inb_in q3) ?_)))
      show Go _ _ _ _ _ _ 14 [(0, rm a0), (1, rm a1), (2, vi l2)] [] (Y, (wI S a1 l2.toNatClampNeg (S.1 a0 l2.toNatClampNeg), T)) _
      refine go_blk rfl [(.iinc 2 1, 3, 2, 0, 0, .inl 1)] 14 17 _ _ _ (by decide +kernel) ?_
      show Go _ _ _ _ _ _ 17 [(2, vi (l2 + 1)), (0, rm a0), (1, rm a1)] [] (Y, (wI S a1 l2.toNatClampNeg (S.1 a0 l2.toNatClampNeg), T)) _
      refine go_goto (off := (-15)) (tgt := 2) (by decide +kernel) (by decide) ?_
      refine go_pick [1, 2, 0] rfl ?_
      exact ih _ _ _ h k
theorem ret11_copies {S : jS} {T : jT} {Y : jS × jT} {a0 : Nat} {n0 : Nat} {a1 : Nat} {n1 : Nat} {S1 : jS} {x : Unit} (hT : LayM T) (h0 : T.2.1 a0 = 20 ∧ T.2.2.1 a0 = n0) (h1 : T.2.1 a1 = 20 ∧ T.2.2.1 a1 = n1) (h : f11_copies S a0 n0 a1 n1 = some (S1, x)) : Ret M11_copies 1 0 0 [rm a0, rm a1] (Y, (S, T)) (none) (Y, (S1, T)) := by
  refine Ret.of (by decide +kernel) (Nat.le_of_ble_eq_true rfl) ?_
  unfold f11_copies at h
  show Go _ _ _ _ _ _ 0 [(0, rm a0), (1, rm a1)] [] (Y, (S, T)) _
  refine go_blk rfl [(.iconst 0, 1, 0, 0, 0, .inl 0), (.istore_n 2, 1, 2, 0, 0, .inl 0)] 0 2 _ _ _ (by decide +kernel) ?_
  show Go _ _ _ _ _ _ 2 [(2, vi 0), (0, rm a0), (1, rm a1)] [] (Y, (S, T)) _
  refine go_pick [1, 2, 0] rfl ?_
  obtain ⟨y1, hy1, h⟩ := bind_el h
  refine f11_copies_L1_ok hT h0 h1 _ _ _ _ hy1 ?_
  show Go _ _ _ _ _ _ 20 [] [] (Y, (y1, T)) _
  obtain ⟨rfl, rfl⟩ := Prod.mk.inj (Option.some.inj h)
  exact go_return (by decide +kernel) rfl ⟨rfl, rfl⟩
def f11_goesOn (S : jS) : Option (jS × Int32) := Option.bind (f11_blanks S) (fun r1 => Option.bind (if (r1.1.1 0 21) = 0 then (if (r1.1.1 0 19) ≤ (r1.1.1 0 20) then some r1.1 else Option.bind (f11_sign r1.1) (fun r2 => (if r2 = 59 then some r1.1 else Option.bind (f11_fails r1.1 0 (r1.1.1 0 20)) (fun r3 => some r3.1)))) else some r1.1) (fun (y4 : jS) => (if (((if (y4.1 0 21) = 0 then (if (y4.1 0 19) ≤ (y4.1 0 20) then 0 else 1) else 0) : Int32)) = 0 ∨ (((if (y4.1 0 21) = 0 then (if (y4.1 0 19) ≤ (y4.1 0 20) then 0 else 1) else 0) : Int32)) = 1 then some (wI y4 0 20 ((y4.1 0 20) + 1), ((if (y4.1 0 21) = 0 then (if (y4.1 0 19) ≤ (y4.1 0 20) then 0 else 1) else 0) : Int32)) else none)))
theorem ret11_goesOn {S : jS} {T : jT} {Y : jS × jT} {S1 : jS} {x : Int32} (hT : LayM T) (h : f11_goesOn S = some (S1, x)) : Ret M11_goesOn 3 0 0 [rm 0] (Y, (S, T)) (some (vi x)) (Y, (S1, T)) := by
  refine Ret.of (by decide +kernel) (Nat.le_of_ble_eq_true rfl) ?_
  unfold f11_goesOn at h
  show Go _ _ _ _ _ _ 0 [(0, rm 0)] [] (Y, (S, T)) _
  refine go_blk rfl [(.aload_n 0, 1, 0, 0, 0, .inl 0)] 0 1 _ _ _ (by decide +kernel) ?_
  show Go _ _ _ _ _ _ 1 [(0, rm 0)] [rm 0] (Y, (S, T)) _
  obtain ⟨r1, hr1, h⟩ := bind_el h
  refine go_callV (idx := 201) (z := 0) (M' := M11_blanks) (n := 0) (A := []) (v' := none) (μ' := (Y, (r1.1, T))) (d' := 2) (mc' := 0) (ms' := 0) (kc' := 0) (ks' := 0) (ci := 11) (x := .inr (.inl 0)) (by decide +kernel) ml_11_201 rfl wv11_blanks rfl (by decide) rfl (lm_t0 hT) (ret11_blanks hT hr1) (by decide) rfl rfl (Nat.le_of_ble_eq_true rfl) rfl (jag rfl rfl) ?_
  show Go _ _ _ _ _ _ 4 [(0, rm 0)] [] (Y, (r1.1, T)) _
  refine go_blk rfl [(.aload_n 0, 1, 0, 0, 0, .inl 0), (.getfield 178, 3, 11, 21, 0, .inl 0)] 4 8 _ _ _ (by decide +kernel) ?_
  refine And.intro (lm_t0 hT) ?_
  show Go _ _ _ _ _ _ 8 [(0, rm 0)] [vi (r1.1.1 0 21)] (Y, (r1.1, T)) _
  obtain ⟨y4, hy4, h⟩ := bind_el h
  have key : Go M11_goesOn 3 0 0 0 0 40 [(0, rm 0)] [] (Y, (y4, T)) (eqQ (some (vi x)) (Y, (S1, T))) := by
    refine go_blk rfl [(.aload_n 0, 1, 0, 0, 0, .inl 0), (.getfield 178, 3, 11, 21, 0, .inl 0)] 40 44 _ _ _ (by decide +kernel) ?_
    refine And.intro (lm_t0 hT) ?_
    show Go _ _ _ _ _ _ 44 [(0, rm 0)] [vi (y4.1 0 21)] (Y, (y4, T)) _
    have key : ∀ z0 : Int32, z0 = ((if (y4.1 0 21) = 0 then (if (y4.1 0 19) ≤ (y4.1 0 20) then 0 else 1) else 0) : Int32) → Go M11_goesOn 3 0 0 0 0 63 [(0, rm 0)] [vi z0] (Y, (y4, T)) (eqQ (some (vi x)) (Y, (S1, T))) := by
      intro z0 ez0
      subst ez0
      refine go_blk rfl [(.istore_n 1, 1, 1, 0, 0, .inl 0), (.aload_n 0, 1, 0, 0, 0, .inl 0), (.dup, 1, 0, 0, 0, .inl 0), (.getfield 181, 3, 11, 20, 0, .inl 0), (.iconst 1, 1, 0, 0, 0, .inl 1), (.iadd, 1, 0, 0, 0, .inl 0), (.putfield 181, 3, 11, 20, 0, .inl 0)] 63 74 _ _ _ (by decide +kernel) ?_
      refine And.intro (lm_t0 hT) ?_
      refine And.intro (lm_t0 hT) (And.intro trivial ?_)
      show Go _ _ _ _ _ _ 74 [(1, vi (((if (y4.1 0 21) = 0 then (if (y4.1 0 19) ≤ (y4.1 0 20) then 0 else 1) else 0) : Int32))), (0, rm 0)] [] (Y, (wI y4 0 20 ((y4.1 0 20) + 1), T)) _
      refine go_blk rfl [(.iload_n 1, 1, 1, 0, 0, .inl 0)] 74 75 _ _ _ (by decide +kernel) ?_
      show Go _ _ _ _ _ _ 75 [(1, vi (((if (y4.1 0 21) = 0 then (if (y4.1 0 19) ≤ (y4.1 0 20) then 0 else 1) else 0) : Int32))), (0, rm 0)] [vi (((if (y4.1 0 21) = 0 then (if (y4.1 0 19) ≤ (y4.1 0 20) then 0 else 1) else 0) : Int32))] (Y, (wI y4 0 20 ((y4.1 0 20) + 1), T)) _
      refine gd_el h (fun q h => ?_)
      obtain ⟨rfl, rfl⟩ := Prod.mk.inj (Option.some.inj h)
      exact go_ireturn (by decide +kernel) rfl (by rcases q with q | q <;> rw [q] <;> rfl) ⟨rfl, rfl⟩
    clear h
    by_cases q4 : (y4.1 0 21) = 0
    · refine go_if_ne (off := 18) (tgt := 62) (by decide +kernel) (by decide) (fun z => absurd q4 z) (fun _ => ?_)
      refine go_blk rfl [(.aload_n 0, 1, 0, 0, 0, .inl 0), (.getfield 181, 3, 11, 20, 0, .inl 0), (.aload_n 0, 1, 0, 0, 0, .inl 0), (.getfield 152, 3, 11, 19, 0, .inl 0)] 47 55 _ _ _ (by decide +kernel) ?_
      refine And.intro (lm_t0 hT) ?_
      refine And.intro (lm_t0 hT) ?_
      show Go _ _ _ _ _ _ 55 [(0, rm 0)] [vi (y4.1 0 19), vi (y4.1 0 20)] (Y, (y4, T)) _
      by_cases q5 : (y4.1 0 19) ≤ (y4.1 0 20)
      · refine go_icmp_ge (off := 7) (tgt := 62) (by decide +kernel) (by decide) (fun _ => ?_) (fun z => absurd q5 z)
        refine go_blk rfl [(.iconst 0, 1, 0, 0, 0, .inl 0)] 62 63 _ _ _ (by decide +kernel) ?_
        show Go _ _ _ _ _ _ 63 [(0, rm 0)] [vi 0] (Y, (y4, T)) _
        refine go_pick [0] rfl ?_; exact key _ (by rw [if_pos q4, if_pos q5])
      · refine go_icmp_ge (off := 7) (tgt := 62) (by decide +kernel) (by decide) (fun z => absurd z q5) (fun _ => ?_)
        refine go_blk rfl [(.iconst 1, 1, 0, 0, 0, .inl 1)] 58 59 _ _ _ (by decide +kernel) ?_
        show Go _ _ _ _ _ _ 59 [(0, rm 0)] [vi 1] (Y, (y4, T)) _
        refine go_goto (off := 4) (tgt := 63) (by decide +kernel) (by decide) ?_
        refine go_pick [0] rfl ?_; exact key _ (by rw [if_pos q4, if_neg q5])
    · refine go_if_ne (off := 18) (tgt := 62) (by decide +kernel) (by decide) (fun _ => ?_) (fun z => absurd z q4)
      refine go_blk rfl [(.iconst 0, 1, 0, 0, 0, .inl 0)] 62 63 _ _ _ (by decide +kernel) ?_
      show Go _ _ _ _ _ _ 63 [(0, rm 0)] [vi 0] (Y, (y4, T)) _
      refine go_pick [0] rfl ?_; exact key _ (by rw [if_neg q4])
  replace h := hy4
  refine ite_el h (fun q1 h => ?_) (fun q1 h => ?_)
  · refine go_if_ne (off := 32) (tgt := 40) (by decide +kernel) (by decide) (fun z => absurd q1 z) (fun _ => ?_)
    refine go_blk rfl [(.aload_n 0, 1, 0, 0, 0, .inl 0), (.getfield 181, 3, 11, 20, 0, .inl 0), (.aload_n 0, 1, 0, 0, 0, .inl 0), (.getfield 152, 3, 11, 19, 0, .inl 0)] 11 19 _ _ _ (by decide +kernel) ?_
    refine And.intro (lm_t0 hT) ?_
    refine And.intro (lm_t0 hT) ?_
    show Go _ _ _ _ _ _ 19 [(0, rm 0)] [vi (r1.1.1 0 19), vi (r1.1.1 0 20)] (Y, (r1.1, T)) _
    refine ite_el h (fun q2 h => ?_) (fun q2 h => ?_)
    · refine go_icmp_ge (off := 21) (tgt := 40) (by decide +kernel) (by decide) (fun _ => ?_) (fun z => absurd q2 z)
      obtain rfl := Option.some.inj h
      refine go_pick [0] rfl ?_
      exact key
    · refine go_icmp_ge (off := 21) (tgt := 40) (by decide +kernel) (by decide) (fun z => absurd z q2) (fun _ => ?_)
      refine go_blk rfl [(.aload_n 0, 1, 0, 0, 0, .inl 0)] 22 23 _ _ _ (by decide +kernel) ?_
      show Go _ _ _ _ _ _ 23 [(0, rm 0)] [rm 0] (Y, (r1.1, T)) _
      obtain ⟨r2, hr2, h⟩ := bind_el h
      refine go_callV (idx := 184) (z := 0) (M' := M11_sign) (n := 0) (A := []) (v' := some (vi r2)) (μ' := (Y, (r1.1, T))) (d' := 1) (mc' := 0) (ms' := 0) (kc' := 0) (ks' := 0) (ci := 11) (x := .inr (.inl 0)) (by decide +kernel) ml_11_184 rfl wv11_sign rfl (by decide) rfl (lm_t0 hT) (ret11_sign hT hr2) (by decide) rfl rfl (Nat.le_of_ble_eq_true rfl) rfl (jag rfl rfl) ?_
      show Go _ _ _ _ _ _ 26 [(0, rm 0)] [vi r2] (Y, (r1.1, T)) _
      refine go_blk rfl [(.bipush 59, 2, 0, 0, 0, .inl 59)] 26 28 _ _ _ (by decide +kernel) ?_
      show Go _ _ _ _ _ _ 28 [(0, rm 0)] [vi 59, vi r2] (Y, (r1.1, T)) _
      refine ite_el h (fun q3 h => ?_) (fun q3 h => ?_)
      · refine go_icmp_eq (off := 12) (tgt := 40) (by decide +kernel) (by decide) (fun _ => ?_) (fun z => absurd q3 z)
        obtain rfl := Option.some.inj h
        refine go_pick [0] rfl ?_
        exact key
      · refine go_icmp_eq (off := 12) (tgt := 40) (by decide +kernel) (by decide) (fun z => absurd z q3) (fun _ => ?_)
        refine go_blk rfl [(.aload_n 0, 1, 0, 0, 0, .inl 0), (.iconst 0, 1, 0, 0, 0, .inl 0), (.aload_n 0, 1, 0, 0, 0, .inl 0), (.getfield 181, 3, 11, 20, 0, .inl 0)] 31 37 _ _ _ (by decide +kernel) ?_
        refine And.intro (lm_t0 hT) ?_
        show Go _ _ _ _ _ _ 37 [(0, rm 0)] [vi (r1.1.1 0 20), vi 0, rm 0] (Y, (r1.1, T)) _
        obtain ⟨r3, hr3, h⟩ := bind_el h
        refine go_callV (idx := 217) (z := 0) (M' := M11_fails) (n := 2) (A := [vi 0, vi (r1.1.1 0 20)]) (v' := none) (μ' := (Y, (r3.1, T))) (d' := 1) (mc' := 0) (ms' := 0) (kc' := 0) (ks' := 0) (ci := 11) (x := .inr (.inl 0)) (by decide +kernel) ml_11_217 rfl wv11_fails rfl (by decide) rfl (lm_t0 hT) (ret11_fails hT hr3) (by decide) rfl rfl (Nat.le_of_ble_eq_true rfl) rfl (jag rfl rfl) ?_
        show Go _ _ _ _ _ _ 40 [(0, rm 0)] [] (Y, (r3.1, T)) _
        obtain rfl := Option.some.inj h
        refine go_pick [0] rfl ?_
        exact key
  · refine go_if_ne (off := 32) (tgt := 40) (by decide +kernel) (by decide) (fun _ => ?_) (fun z => absurd z q1)
    obtain rfl := Option.some.inj h
    refine go_pick [0] rfl ?_
    exact key
def f11_starts (S : jS) : Option (jS × Unit) := some (wI (wI (wI (wI (wI S 0 20 0) 0 21 0) 0 24 0) 0 25 0) 0 26 0, ())
theorem ret11_starts {S : jS} {T : jT} {Y : jS × jT} {S1 : jS} {x : Unit} (hT : LayM T) (h : f11_starts S = some (S1, x)) : Ret M11_starts 1 0 0 [rm 0] (Y, (S, T)) (none) (Y, (S1, T)) := by
  refine Ret.of (by decide +kernel) (Nat.le_of_ble_eq_true rfl) ?_
  unfold f11_starts at h
  show Go _ _ _ _ _ _ 0 [(0, rm 0)] [] (Y, (S, T)) _
  refine go_blk rfl [(.aload_n 0, 1, 0, 0, 0, .inl 0), (.iconst 0, 1, 0, 0, 0, .inl 0), (.putfield 181, 3, 11, 20, 0, .inl 0)] 0 5 _ _ _ (by decide +kernel) ?_
  refine And.intro (lm_t0 hT) (And.intro trivial ?_)
  show Go _ _ _ _ _ _ 5 [(0, rm 0)] [] (Y, (wI S 0 20 0, T)) _
  refine go_blk rfl [(.aload_n 0, 1, 0, 0, 0, .inl 0), (.iconst 0, 1, 0, 0, 0, .inl 0), (.putfield 178, 3, 11, 21, 0, .inl 0)] 5 10 _ _ _ (by decide +kernel) ?_
  refine And.intro (lm_t0 hT) (And.intro trivial ?_)
  show Go _ _ _ _ _ _ 10 [(0, rm 0)] [] (Y, (wI (wI S 0 20 0) 0 21 0, T)) _
  refine go_blk rfl [(.aload_n 0, 1, 0, 0, 0, .inl 0), (.iconst 0, 1, 0, 0, 0, .inl 0), (.putfield 211, 3, 11, 24, 0, .inl 0)] 10 15 _ _ _ (by decide +kernel) ?_
  refine And.intro (lm_t0 hT) (And.intro trivial ?_)
  show Go _ _ _ _ _ _ 15 [(0, rm 0)] [] (Y, (wI (wI (wI S 0 20 0) 0 21 0) 0 24 0, T)) _
  refine go_blk rfl [(.aload_n 0, 1, 0, 0, 0, .inl 0), (.iconst 0, 1, 0, 0, 0, .inl 0), (.putfield 252, 3, 11, 25, 0, .inl 0)] 15 20 _ _ _ (by decide +kernel) ?_
  refine And.intro (lm_t0 hT) (And.intro trivial ?_)
  show Go _ _ _ _ _ _ 20 [(0, rm 0)] [] (Y, (wI (wI (wI (wI S 0 20 0) 0 21 0) 0 24 0) 0 25 0, T)) _
  refine go_blk rfl [(.aload_n 0, 1, 0, 0, 0, .inl 0), (.iconst 0, 1, 0, 0, 0, .inl 0), (.putfield 214, 3, 11, 26, 0, .inl 0)] 20 25 _ _ _ (by decide +kernel) ?_
  refine And.intro (lm_t0 hT) (And.intro trivial ?_)
  show Go _ _ _ _ _ _ 25 [(0, rm 0)] [] (Y, (wI (wI (wI (wI (wI S 0 20 0) 0 21 0) 0 24 0) 0 25 0) 0 26 0, T)) _
  obtain ⟨rfl, rfl⟩ := Prod.mk.inj (Option.some.inj h)
  exact go_return (by decide +kernel) rfl ⟨rfl, rfl⟩
def f11_readsAll_L1  : Nat → jS → Int32 → Option jS
  | 0, _, _ => none
  | n + 1, S, l1 => (if 3 ≤ l1 then some S else (if inb l1 3 then f11_readsAll_L1 n (wI S 14 l1.toNatClampNeg 0) (l1 + 1) else none))
def f11_readsAll_L2  : Nat → jS → Int32 → Int32 → Option jS
  | 0, _, _, _ => none
  | n + 1, S, l1, l2 => (if l2 = 0 then some S else Option.bind (f11_partyClause S l1) (fun r3 => Option.bind (f11_goesOn r3.1) (fun r4 => f11_readsAll_L2 n r4.1 (l1 + 1) r4.2)))
def f11_readsAll (S : jS) : Option (jS × Unit) := Option.bind (f11_starts S) (fun r1 => Option.bind (f11_readsAll_L1 jF r1.1 0) (fun y2 => Option.bind (f11_readsAll_L2 jF y2 0 1) (fun y5 => some (wI y5 0 19 0, ()))))
theorem f11_readsAll_L1_ok {T : jT} {Y : jS × jT} {Q : Option jV → jMem → Prop} (hT : LayM T) : ∀ (n : Nat) (S : jS) (l1 : Int32) (r : jS), f11_readsAll_L1 n S l1 = some r → Go M11_readsAll 8 0 0 0 0 24 [(0, rm 0)] [] (Y, (r, T)) Q → Go M11_readsAll 8 0 0 0 0 6 [(0, rm 0), (1, vi l1)] [] (Y, (S, T)) Q := by
  intro n
  induction n with
  | zero => intro S l1 r h k; exact absurd h (by intro z; cases z)
  | succ n ih =>
    intro S l1 r h k
    rw [f11_readsAll_L1] at h
    refine go_blk rfl [(.iload_n 1, 1, 1, 0, 0, .inl 0), (.iconst 3, 1, 0, 0, 0, .inl 3)] 6 8 _ _ _ (by decide +kernel) ?_
    show Go _ _ _ _ _ _ 8 [(0, rm 0), (1, vi l1)] [vi 3, vi l1] (Y, (S, T)) _
    refine ite_el h (fun q1 h => ?_) (fun q1 h => ?_)
    · refine go_icmp_ge (off := 16) (tgt := 24) (by decide +kernel) (by decide) (fun _ => ?_) (fun z => absurd q1 z)
      obtain rfl := Option.some.inj h
      refine go_pick [0] rfl ?_
      exact k
    · refine go_icmp_ge (off := 16) (tgt := 24) (by decide +kernel) (by decide) (fun z => absurd z q1) (fun _ => ?_)
      refine gd_el h (fun q2 h => ?_)
      refine go_blk rfl [(.aload_n 0, 1, 0, 0, 0, .inl 0), (.getfield 49, 3, 11, 14, 1, .inl 0), (.iload_n 1, 1, 1, 0, 0, .inl 0), (.iconst 0, 1, 0, 0, 0, .inl 0), (.iastore, 1, 20, 0, 0, .inl 0)] 11 18 _ _ _ (by decide +kernel) ?_
      refine And.intro (lm_t0 hT) (Exists.intro _ (And.intro (gRm (lm_r14 hT)) ?_))
      refine And.intro (lm_t14 hT) (Exists.intro _ (And.intro (lm_n14 hT) (And.intro (inb_in q2) ?_)))
      show Go _ _ _ _ _ _ 18 [(0, rm 0), (1, vi l1)] [] (Y, (wI S 14 l1.toNatClampNeg 0, T)) _
      refine go_blk rfl [(.iinc 1 1, 3, 1, 0, 0, .inl 1)] 18 21 _ _ _ (by decide +kernel) ?_
      show Go _ _ _ _ _ _ 21 [(1, vi (l1 + 1)), (0, rm 0)] [] (Y, (wI S 14 l1.toNatClampNeg 0, T)) _
      refine go_goto (off := (-15)) (tgt := 6) (by decide +kernel) (by decide) ?_
      refine go_pick [1, 0] rfl ?_
      exact ih _ _ _ h k
theorem f11_readsAll_L2_ok {T : jT} {Y : jS × jT} {Q : Option jV → jMem → Prop} (hT : LayM T) : ∀ (n : Nat) (S : jS) (l1 : Int32) (l2 : Int32) (r : jS), f11_readsAll_L2 n S l1 l2 = some r → Go M11_readsAll 8 0 0 0 0 48 [(0, rm 0)] [] (Y, (r, T)) Q → Go M11_readsAll 8 0 0 0 0 28 [(0, rm 0), (1, vi l1), (2, vi l2)] [] (Y, (S, T)) Q := by
  intro n
  induction n with
  | zero => intro S l1 l2 r h k; exact absurd h (by intro z; cases z)
  | succ n ih =>
    intro S l1 l2 r h k
    rw [f11_readsAll_L2] at h
    refine go_blk rfl [(.iload_n 2, 1, 2, 0, 0, .inl 0)] 28 29 _ _ _ (by decide +kernel) ?_
    show Go _ _ _ _ _ _ 29 [(0, rm 0), (1, vi l1), (2, vi l2)] [vi l2] (Y, (S, T)) _
    refine ite_el h (fun q3 h => ?_) (fun q3 h => ?_)
    · refine go_if_eq (off := 19) (tgt := 48) (by decide +kernel) (by decide) (fun _ => ?_) (fun z => absurd q3 z)
      obtain rfl := Option.some.inj h
      refine go_pick [0] rfl ?_
      exact k
    · refine go_if_eq (off := 19) (tgt := 48) (by decide +kernel) (by decide) (fun z => absurd z q3) (fun _ => ?_)
      refine go_blk rfl [(.aload_n 0, 1, 0, 0, 0, .inl 0), (.iload_n 1, 1, 1, 0, 0, .inl 0)] 32 34 _ _ _ (by decide +kernel) ?_
      show Go _ _ _ _ _ _ 34 [(0, rm 0), (1, vi l1), (2, vi l2)] [vi l1, rm 0] (Y, (S, T)) _
      obtain ⟨r3, hr3, h⟩ := bind_el h
      refine go_callV (idx := 304) (z := 0) (M' := M11_partyClause) (n := 1) (A := [vi l1]) (v' := none) (μ' := (Y, (r3.1, T))) (d' := 7) (mc' := 0) (ms' := 0) (kc' := 0) (ks' := 0) (ci := 11) (x := .inr (.inl 0)) (by decide +kernel) ml_11_304 rfl wv11_partyClause rfl (by decide) rfl (lm_t0 hT) (ret11_partyClause hT hr3) (by decide) rfl rfl (Nat.le_of_ble_eq_true rfl) rfl (jag rfl rfl) ?_
      show Go _ _ _ _ _ _ 37 [(0, rm 0), (1, vi l1), (2, vi l2)] [] (Y, (r3.1, T)) _
      refine go_blk rfl [(.iinc 1 1, 3, 1, 0, 0, .inl 1), (.aload_n 0, 1, 0, 0, 0, .inl 0)] 37 41 _ _ _ (by decide +kernel) ?_
      show Go _ _ _ _ _ _ 41 [(1, vi (l1 + 1)), (0, rm 0), (2, vi l2)] [rm 0] (Y, (r3.1, T)) _
      obtain ⟨r4, hr4, h⟩ := bind_el h
      refine go_callV (idx := 307) (z := 0) (M' := M11_goesOn) (n := 0) (A := []) (v' := some (vi r4.2)) (μ' := (Y, (r4.1, T))) (d' := 3) (mc' := 0) (ms' := 0) (kc' := 0) (ks' := 0) (ci := 11) (x := .inr (.inl 0)) (by decide +kernel) ml_11_307 rfl wv11_goesOn rfl (by decide) rfl (lm_t0 hT) (ret11_goesOn hT hr4) (by decide) rfl rfl (Nat.le_of_ble_eq_true rfl) rfl (jag rfl rfl) ?_
      show Go _ _ _ _ _ _ 44 [(1, vi (l1 + 1)), (0, rm 0), (2, vi l2)] [vi r4.2] (Y, (r4.1, T)) _
      refine go_blk rfl [(.istore_n 2, 1, 2, 0, 0, .inl 0)] 44 45 _ _ _ (by decide +kernel) ?_
      show Go _ _ _ _ _ _ 45 [(2, vi r4.2), (1, vi (l1 + 1)), (0, rm 0)] [] (Y, (r4.1, T)) _
      refine go_goto (off := (-17)) (tgt := 28) (by decide +kernel) (by decide) ?_
      refine go_pick [2, 1, 0] rfl ?_
      exact ih _ _ _ _ h k
theorem ret11_readsAll {S : jS} {T : jT} {Y : jS × jT} {S1 : jS} {x : Unit} (hT : LayM T) (h : f11_readsAll S = some (S1, x)) : Ret M11_readsAll 8 0 0 [rm 0] (Y, (S, T)) (none) (Y, (S1, T)) := by
  refine Ret.of (by decide +kernel) (Nat.le_of_ble_eq_true rfl) ?_
  unfold f11_readsAll at h
  show Go _ _ _ _ _ _ 0 [(0, rm 0)] [] (Y, (S, T)) _
  refine go_blk rfl [(.aload_n 0, 1, 0, 0, 0, .inl 0)] 0 1 _ _ _ (by decide +kernel) ?_
  show Go _ _ _ _ _ _ 1 [(0, rm 0)] [rm 0] (Y, (S, T)) _
  obtain ⟨r1, hr1, h⟩ := bind_el h
  refine go_callV (idx := 301) (z := 0) (M' := M11_starts) (n := 0) (A := []) (v' := none) (μ' := (Y, (r1.1, T))) (d' := 1) (mc' := 0) (ms' := 0) (kc' := 0) (ks' := 0) (ci := 11) (x := .inr (.inl 0)) (by decide +kernel) ml_11_301 rfl wv11_starts rfl (by decide) rfl (lm_t0 hT) (ret11_starts hT hr1) (by decide) rfl rfl (Nat.le_of_ble_eq_true rfl) rfl (jag rfl rfl) ?_
  show Go _ _ _ _ _ _ 4 [(0, rm 0)] [] (Y, (r1.1, T)) _
  refine go_blk rfl [(.iconst 0, 1, 0, 0, 0, .inl 0), (.istore_n 1, 1, 1, 0, 0, .inl 0)] 4 6 _ _ _ (by decide +kernel) ?_
  show Go _ _ _ _ _ _ 6 [(1, vi 0), (0, rm 0)] [] (Y, (r1.1, T)) _
  refine go_pick [1, 0] rfl ?_
  obtain ⟨y2, hy2, h⟩ := bind_el h
  refine f11_readsAll_L1_ok hT _ _ _ _ hy2 ?_
  show Go _ _ _ _ _ _ 24 [(0, rm 0)] [] (Y, (y2, T)) _
  refine go_blk rfl [(.iconst 0, 1, 0, 0, 0, .inl 0), (.istore_n 1, 1, 1, 0, 0, .inl 0), (.iconst 1, 1, 0, 0, 0, .inl 1), (.istore_n 2, 1, 2, 0, 0, .inl 0)] 24 28 _ _ _ (by decide +kernel) ?_
  show Go _ _ _ _ _ _ 28 [(2, vi 1), (1, vi 0), (0, rm 0)] [] (Y, (y2, T)) _
  refine go_pick [2, 1, 0] rfl ?_
  obtain ⟨y5, hy5, h⟩ := bind_el h
  refine f11_readsAll_L2_ok hT _ _ _ _ _ hy5 ?_
  show Go _ _ _ _ _ _ 48 [(0, rm 0)] [] (Y, (y5, T)) _
  refine go_blk rfl [(.aload_n 0, 1, 0, 0, 0, .inl 0), (.iconst 0, 1, 0, 0, 0, .inl 0), (.putfield 152, 3, 11, 19, 0, .inl 0)] 48 53 _ _ _ (by decide +kernel) ?_
  refine And.intro (lm_t0 hT) (And.intro trivial ?_)
  show Go _ _ _ _ _ _ 53 [(0, rm 0)] [] (Y, (wI y5 0 19 0, T)) _
  obtain ⟨rfl, rfl⟩ := Prod.mk.inj (Option.some.inj h)
  exact go_return (by decide +kernel) rfl ⟨rfl, rfl⟩
def f11_begins_L1  : Nat → jS → Int32 → Option jS
  | 0, _, _ => none
  | n + 1, S, l1 => (if 7 ≤ l1 then some S else (if inb l1 7 then f11_begins_L1 n (wI (wI S 5 l1.toNatClampNeg 0) 6 l1.toNatClampNeg 0) (l1 + 1) else none))
def f11_begins (S : jS) : Option (jS × Unit) := Option.bind (f11_copies S 11 7 2 7) (fun r1 => Option.bind (f11_copies r1.1 12 7 3 7) (fun r2 => Option.bind (f11_copies r2.1 13 7 4 7) (fun r3 => Option.bind (f11_begins_L1 jF r3.1 0) (fun y4 => some (wI (wI (wI (wI (wI y4 1 3 0) 1 4 0) 1 5 ((-1))) 1 6 (((1 : Int32) <<< (((wI (wI (wI y4 1 3 0) 1 4 0) 1 5 ((-1))).1 1 2) &&& 31)) - 1)) 1 7 (((1 : Int32) <<< (((wI (wI (wI (wI y4 1 3 0) 1 4 0) 1 5 ((-1))) 1 6 (((1 : Int32) <<< (((wI (wI (wI y4 1 3 0) 1 4 0) 1 5 ((-1))).1 1 2) &&& 31)) - 1)).1 1 1) &&& 31)) - 1), ())))))
theorem f11_begins_L1_ok {T : jT} {Y : jS × jT} {Q : Option jV → jMem → Prop} (hT : LayM T) : ∀ (n : Nat) (S : jS) (l1 : Int32) (r : jS), f11_begins_L1 n S l1 = some r → Go M11_begins 2 0 0 0 0 61 [(0, rm 0)] [] (Y, (r, T)) Q → Go M11_begins 2 0 0 0 0 35 [(0, rm 0), (1, vi l1)] [] (Y, (S, T)) Q := by
  intro n
  induction n with
  | zero => intro S l1 r h k; exact absurd h (by intro z; cases z)
  | succ n ih =>
    intro S l1 r h k
    rw [f11_begins_L1] at h
    refine go_blk rfl [(.iload_n 1, 1, 1, 0, 0, .inl 0), (.bipush 7, 2, 0, 0, 0, .inl 7)] 35 38 _ _ _ (by decide +kernel) ?_
    show Go _ _ _ _ _ _ 38 [(0, rm 0), (1, vi l1)] [vi 7, vi l1] (Y, (S, T)) _
    refine ite_el h (fun q1 h => ?_) (fun q1 h => ?_)
    · refine go_icmp_ge (off := 23) (tgt := 61) (by decide +kernel) (by decide) (fun _ => ?_) (fun z => absurd q1 z)
      obtain rfl := Option.some.inj h
      refine go_pick [0] rfl ?_
      exact k
    · refine go_icmp_ge (off := 23) (tgt := 61) (by decide +kernel) (by decide) (fun z => absurd z q1) (fun _ => ?_)
      refine gd_el h (fun q2 h => ?_)
      refine go_blk rfl [(.aload_n 0, 1, 0, 0, 0, .inl 0), (.getfield 22, 3, 11, 5, 1, .inl 0), (.iload_n 1, 1, 1, 0, 0, .inl 0), (.iconst 0, 1, 0, 0, 0, .inl 0), (.iastore, 1, 20, 0, 0, .inl 0)] 41 48 _ _ _ (by decide +kernel) ?_
      refine And.intro (lm_t0 hT) (Exists.intro _ (And.intro (gRm (lm_r5 hT)) ?_))
      refine And.intro (lm_t5 hT) (Exists.intro _ (And.intro (lm_n5 hT) (And.intro (inb_in q2) ?_)))
      show Go _ _ _ _ _ _ 48 [(0, rm 0), (1, vi l1)] [] (Y, (wI S 5 l1.toNatClampNeg 0, T)) _
      refine go_blk rfl [(.aload_n 0, 1, 0, 0, 0, .inl 0), (.getfield 25, 3, 11, 6, 1, .inl 0), (.iload_n 1, 1, 1, 0, 0, .inl 0), (.iconst 0, 1, 0, 0, 0, .inl 0), (.iastore, 1, 20, 0, 0, .inl 0)] 48 55 _ _ _ (by decide +kernel) ?_
      refine And.intro (lm_t0 hT) (Exists.intro _ (And.intro (gRm (lm_r6 hT)) ?_))
      refine And.intro (lm_t6 hT) (Exists.intro _ (And.intro (lm_n6 hT) (And.intro (inb_in q2) ?_)))
      show Go _ _ _ _ _ _ 55 [(0, rm 0), (1, vi l1)] [] (Y, (wI (wI S 5 l1.toNatClampNeg 0) 6 l1.toNatClampNeg 0, T)) _
      refine go_blk rfl [(.iinc 1 1, 3, 1, 0, 0, .inl 1)] 55 58 _ _ _ (by decide +kernel) ?_
      show Go _ _ _ _ _ _ 58 [(1, vi (l1 + 1)), (0, rm 0)] [] (Y, (wI (wI S 5 l1.toNatClampNeg 0) 6 l1.toNatClampNeg 0, T)) _
      refine go_goto (off := (-23)) (tgt := 35) (by decide +kernel) (by decide) ?_
      refine go_pick [1, 0] rfl ?_
      exact ih _ _ _ h k
theorem ret11_begins {S : jS} {T : jT} {Y : jS × jT} {S1 : jS} {x : Unit} (hT : LayM T) (h : f11_begins S = some (S1, x)) : Ret M11_begins 2 0 0 [rm 0] (Y, (S, T)) (none) (Y, (S1, T)) := by
  refine Ret.of (by decide +kernel) (Nat.le_of_ble_eq_true rfl) ?_
  unfold f11_begins at h
  show Go _ _ _ _ _ _ 0 [(0, rm 0)] [] (Y, (S, T)) _
  refine go_blk rfl [(.aload_n 0, 1, 0, 0, 0, .inl 0), (.getfield 40, 3, 11, 11, 1, .inl 0), (.aload_n 0, 1, 0, 0, 0, .inl 0), (.getfield 13, 3, 11, 2, 1, .inl 0)] 0 8 _ _ _ (by decide +kernel) ?_
  refine And.intro (lm_t0 hT) (Exists.intro _ (And.intro (gRm (lm_r11 hT)) ?_))
  refine And.intro (lm_t0 hT) (Exists.intro _ (And.intro (gRm (lm_r2 hT)) ?_))
  show Go _ _ _ _ _ _ 8 [(0, rm 0)] [rm 2, rm 11] (Y, (S, T)) _
  obtain ⟨r1, hr1, h⟩ := bind_el h
  refine go_callS (idx := 310) (z := 0) (M' := M11_copies) (n := 2) (A := [rm 11, rm 2]) (v' := none) (μ' := (Y, (r1.1, T))) (d' := 1) (mc' := 0) (ms' := 0) (kc' := 0) (ks' := 0) (by decide +kernel) ml_11_310 rfl ws11_copies rfl (ret11_copies hT ⟨(lm_t11 hT), (lm_n11 hT)⟩ ⟨(lm_t2 hT), (lm_n2 hT)⟩ hr1) (by decide) rfl rfl (Nat.le_of_ble_eq_true rfl) rfl (jag rfl rfl) ?_
  show Go _ _ _ _ _ _ 11 [(0, rm 0)] [] (Y, (r1.1, T)) _
  refine go_blk rfl [(.aload_n 0, 1, 0, 0, 0, .inl 0), (.getfield 43, 3, 11, 12, 1, .inl 0), (.aload_n 0, 1, 0, 0, 0, .inl 0), (.getfield 16, 3, 11, 3, 1, .inl 0)] 11 19 _ _ _ (by decide +kernel) ?_
  refine And.intro (lm_t0 hT) (Exists.intro _ (And.intro (gRm (lm_r12 hT)) ?_))
  refine And.intro (lm_t0 hT) (Exists.intro _ (And.intro (gRm (lm_r3 hT)) ?_))
  show Go _ _ _ _ _ _ 19 [(0, rm 0)] [rm 3, rm 12] (Y, (r1.1, T)) _
  obtain ⟨r2, hr2, h⟩ := bind_el h
  refine go_callS (idx := 310) (z := 0) (M' := M11_copies) (n := 2) (A := [rm 12, rm 3]) (v' := none) (μ' := (Y, (r2.1, T))) (d' := 1) (mc' := 0) (ms' := 0) (kc' := 0) (ks' := 0) (by decide +kernel) ml_11_310 rfl ws11_copies rfl (ret11_copies hT ⟨(lm_t12 hT), (lm_n12 hT)⟩ ⟨(lm_t3 hT), (lm_n3 hT)⟩ hr2) (by decide) rfl rfl (Nat.le_of_ble_eq_true rfl) rfl (jag rfl rfl) ?_
  show Go _ _ _ _ _ _ 22 [(0, rm 0)] [] (Y, (r2.1, T)) _
  refine go_blk rfl [(.aload_n 0, 1, 0, 0, 0, .inl 0), (.getfield 46, 3, 11, 13, 1, .inl 0), (.aload_n 0, 1, 0, 0, 0, .inl 0), (.getfield 19, 3, 11, 4, 1, .inl 0)] 22 30 _ _ _ (by decide +kernel) ?_
  refine And.intro (lm_t0 hT) (Exists.intro _ (And.intro (gRm (lm_r13 hT)) ?_))
  refine And.intro (lm_t0 hT) (Exists.intro _ (And.intro (gRm (lm_r4 hT)) ?_))
  show Go _ _ _ _ _ _ 30 [(0, rm 0)] [rm 4, rm 13] (Y, (r2.1, T)) _
  obtain ⟨r3, hr3, h⟩ := bind_el h
  refine go_callS (idx := 310) (z := 0) (M' := M11_copies) (n := 2) (A := [rm 13, rm 4]) (v' := none) (μ' := (Y, (r3.1, T))) (d' := 1) (mc' := 0) (ms' := 0) (kc' := 0) (ks' := 0) (by decide +kernel) ml_11_310 rfl ws11_copies rfl (ret11_copies hT ⟨(lm_t13 hT), (lm_n13 hT)⟩ ⟨(lm_t4 hT), (lm_n4 hT)⟩ hr3) (by decide) rfl rfl (Nat.le_of_ble_eq_true rfl) rfl (jag rfl rfl) ?_
  show Go _ _ _ _ _ _ 33 [(0, rm 0)] [] (Y, (r3.1, T)) _
  refine go_blk rfl [(.iconst 0, 1, 0, 0, 0, .inl 0), (.istore_n 1, 1, 1, 0, 0, .inl 0)] 33 35 _ _ _ (by decide +kernel) ?_
  show Go _ _ _ _ _ _ 35 [(1, vi 0), (0, rm 0)] [] (Y, (r3.1, T)) _
  refine go_pick [1, 0] rfl ?_
  obtain ⟨y4, hy4, h⟩ := bind_el h
  refine f11_begins_L1_ok hT _ _ _ _ hy4 ?_
  show Go _ _ _ _ _ _ 61 [(0, rm 0)] [] (Y, (y4, T)) _
  refine go_blk rfl [(.aload_n 0, 1, 0, 0, 0, .inl 0), (.getfield 9, 3, 11, 1, 1, .inl 0), (.iconst 3, 1, 0, 0, 0, .inl 3), (.iconst 0, 1, 0, 0, 0, .inl 0), (.iastore, 1, 20, 0, 0, .inl 0)] 61 68 _ _ _ (by decide +kernel) ?_
  refine And.intro (lm_t0 hT) (Exists.intro _ (And.intro (gRm (lm_r1 hT)) ?_))
  refine And.intro (lm_t1 hT) (Exists.intro _ (And.intro (lm_n1 hT) (And.intro (inb_in (by decide)) ?_)))
  show Go _ _ _ _ _ _ 68 [(0, rm 0)] [] (Y, (wI y4 1 3 0, T)) _
  refine go_blk rfl [(.aload_n 0, 1, 0, 0, 0, .inl 0), (.getfield 9, 3, 11, 1, 1, .inl 0), (.iconst 4, 1, 0, 0, 0, .inl 4), (.iconst 0, 1, 0, 0, 0, .inl 0), (.iastore, 1, 20, 0, 0, .inl 0)] 68 75 _ _ _ (by decide +kernel) ?_
  refine And.intro (lm_t0 hT) (Exists.intro _ (And.intro (gRm (lm_r1 hT)) ?_))
  refine And.intro (lm_t1 hT) (Exists.intro _ (And.intro (lm_n1 hT) (And.intro (inb_in (by decide)) ?_)))
  show Go _ _ _ _ _ _ 75 [(0, rm 0)] [] (Y, (wI (wI y4 1 3 0) 1 4 0, T)) _
  refine go_blk rfl [(.aload_n 0, 1, 0, 0, 0, .inl 0), (.getfield 9, 3, 11, 1, 1, .inl 0), (.iconst 5, 1, 0, 0, 0, .inl 5), (.iconst (-1), 1, 0, 0, 0, .inl (-1)), (.iastore, 1, 20, 0, 0, .inl 0)] 75 82 _ _ _ (by decide +kernel) ?_
  refine And.intro (lm_t0 hT) (Exists.intro _ (And.intro (gRm (lm_r1 hT)) ?_))
  refine And.intro (lm_t1 hT) (Exists.intro _ (And.intro (lm_n1 hT) (And.intro (inb_in (by decide)) ?_)))
  show Go _ _ _ _ _ _ 82 [(0, rm 0)] [] (Y, (wI (wI (wI y4 1 3 0) 1 4 0) 1 5 ((-1)), T)) _
  refine go_blk rfl [(.aload_n 0, 1, 0, 0, 0, .inl 0), (.getfield 9, 3, 11, 1, 1, .inl 0), (.bipush 6, 2, 0, 0, 0, .inl 6), (.iconst 1, 1, 0, 0, 0, .inl 1), (.aload_n 0, 1, 0, 0, 0, .inl 0), (.getfield 9, 3, 11, 1, 1, .inl 0), (.iconst 2, 1, 0, 0, 0, .inl 2), (.iaload, 1, 20, 0, 0, .inl 0), (.ishl, 1, 0, 0, 0, .inl 0), (.iconst 1, 1, 0, 0, 0, .inl 1), (.isub, 1, 0, 0, 0, .inl 0), (.iastore, 1, 20, 0, 0, .inl 0)] 82 99 _ _ _ (by decide +kernel) ?_
  refine And.intro (lm_t0 hT) (Exists.intro _ (And.intro (gRm (lm_r1 hT)) ?_))
  refine And.intro (lm_t0 hT) (Exists.intro _ (And.intro (gRm (lm_r1 hT)) ?_))
  refine And.intro (lm_t1 hT) (Exists.intro _ (And.intro (lm_n1 hT) (And.intro (inb_in (by decide)) ?_)))
  refine And.intro (lm_t1 hT) (Exists.intro _ (And.intro (lm_n1 hT) (And.intro (inb_in (by decide)) ?_)))
  show Go _ _ _ _ _ _ 99 [(0, rm 0)] [] (Y, (wI (wI (wI (wI y4 1 3 0) 1 4 0) 1 5 ((-1))) 1 6 (((1 : Int32) <<< (((wI (wI (wI y4 1 3 0) 1 4 0) 1 5 ((-1))).1 1 2) &&& 31)) - 1), T)) _
  refine go_blk rfl [(.aload_n 0, 1, 0, 0, 0, .inl 0), (.getfield 9, 3, 11, 1, 1, .inl 0), (.bipush 7, 2, 0, 0, 0, .inl 7), (.iconst 1, 1, 0, 0, 0, .inl 1), (.aload_n 0, 1, 0, 0, 0, .inl 0), (.getfield 9, 3, 11, 1, 1, .inl 0), (.iconst 1, 1, 0, 0, 0, .inl 1), (.iaload, 1, 20, 0, 0, .inl 0), (.ishl, 1, 0, 0, 0, .inl 0), (.iconst 1, 1, 0, 0, 0, .inl 1), (.isub, 1, 0, 0, 0, .inl 0), (.iastore, 1, 20, 0, 0, .inl 0)] 99 116 _ _ _ (by decide +kernel) ?_
  refine And.intro (lm_t0 hT) (Exists.intro _ (And.intro (gRm (lm_r1 hT)) ?_))
  refine And.intro (lm_t0 hT) (Exists.intro _ (And.intro (gRm (lm_r1 hT)) ?_))
  refine And.intro (lm_t1 hT) (Exists.intro _ (And.intro (lm_n1 hT) (And.intro (inb_in (by decide)) ?_)))
  refine And.intro (lm_t1 hT) (Exists.intro _ (And.intro (lm_n1 hT) (And.intro (inb_in (by decide)) ?_)))
  show Go _ _ _ _ _ _ 116 [(0, rm 0)] [] (Y, (wI (wI (wI (wI (wI y4 1 3 0) 1 4 0) 1 5 ((-1))) 1 6 (((1 : Int32) <<< (((wI (wI (wI y4 1 3 0) 1 4 0) 1 5 ((-1))).1 1 2) &&& 31)) - 1)) 1 7 (((1 : Int32) <<< (((wI (wI (wI (wI y4 1 3 0) 1 4 0) 1 5 ((-1))) 1 6 (((1 : Int32) <<< (((wI (wI (wI y4 1 3 0) 1 4 0) 1 5 ((-1))).1 1 2) &&& 31)) - 1)).1 1 1) &&& 31)) - 1), T)) _
  obtain ⟨rfl, rfl⟩ := Prod.mk.inj (Option.some.inj h)
  exact go_return (by decide +kernel) rfl ⟨rfl, rfl⟩
def f11_party_L1  : Nat → jS → Int32 → Option jS
  | 0, _, _ => none
  | n + 1, S, l1 => (if 3 ≤ l1 then some S else (if inb l1 3 then (if inb l1 11 then f11_party_L1 n (wI S 1 l1.toNatClampNeg (S.1 14 l1.toNatClampNeg)) (l1 + 1) else none) else none))
def f11_party (S : jS) : Option (jS × Int32) := Option.bind (f11_readsAll S) (fun r1 => (if (r1.1.1 0 21) ≤ 0 then Option.bind (f11_party_L1 jF r1.1 0) (fun y2 => Option.bind (f11_copies (wI y2 1 8 0) 15 6 7 6) (fun r3 => Option.bind (f11_copies r3.1 16 7 11 7) (fun r4 => Option.bind (f11_copies r4.1 17 7 12 7) (fun r5 => Option.bind (f11_copies r5.1 18 7 13 7) (fun r6 => Option.bind (f11_begins r6.1) (fun r7 => some (wI r7.1 0 44 0, (wI r7.1 0 44 0).1 1 2))))))) else some (r1.1, ((-2)) - (r1.1.1 0 21))))
theorem f11_party_L1_ok {T : jT} {Y : jS × jT} {Q : Option jV → jMem → Prop} (hT : LayM T) : ∀ (n : Nat) (S : jS) (l1 : Int32) (r : jS), f11_party_L1 n S l1 = some r → Go M11_party 9 0 0 0 0 44 [(0, rm 0)] [] (Y, (r, T)) Q → Go M11_party 9 0 0 0 0 21 [(0, rm 0), (1, vi l1)] [] (Y, (S, T)) Q := by
  intro n
  induction n with
  | zero => intro S l1 r h k; exact absurd h (by intro z; cases z)
  | succ n ih =>
    intro S l1 r h k
    rw [f11_party_L1] at h
    refine go_blk rfl [(.iload_n 1, 1, 1, 0, 0, .inl 0), (.iconst 3, 1, 0, 0, 0, .inl 3)] 21 23 _ _ _ (by decide +kernel) ?_
    show Go _ _ _ _ _ _ 23 [(0, rm 0), (1, vi l1)] [vi 3, vi l1] (Y, (S, T)) _
    refine ite_el h (fun q2 h => ?_) (fun q2 h => ?_)
    · refine go_icmp_ge (off := 21) (tgt := 44) (by decide +kernel) (by decide) (fun _ => ?_) (fun z => absurd q2 z)
      obtain rfl := Option.some.inj h
      refine go_pick [0] rfl ?_
      exact k
    · refine go_icmp_ge (off := 21) (tgt := 44) (by decide +kernel) (by decide) (fun z => absurd z q2) (fun _ => ?_)
      refine gd_el h (fun q3 h => ?_)
      refine gd_el h (fun q4 h => ?_)
      refine go_blk rfl [(.aload_n 0, 1, 0, 0, 0, .inl 0), (.getfield 9, 3, 11, 1, 1, .inl 0), (.iload_n 1, 1, 1, 0, 0, .inl 0), (.aload_n 0, 1, 0, 0, 0, .inl 0), (.getfield 49, 3, 11, 14, 1, .inl 0), (.iload_n 1, 1, 1, 0, 0, .inl 0), (.iaload, 1, 20, 0, 0, .inl 0), (.iastore, 1, 20, 0, 0, .inl 0)] 26 38 _ _ _ (by decide +kernel) ?_
      refine And.intro (lm_t0 hT) (Exists.intro _ (And.intro (gRm (lm_r1 hT)) ?_))
      refine And.intro (lm_t0 hT) (Exists.intro _ (And.intro (gRm (lm_r14 hT)) ?_))
      refine And.intro (lm_t14 hT) (Exists.intro _ (And.intro (lm_n14 hT) (And.intro (inb_in q3) ?_)))
      refine And.intro (lm_t1 hT) (Exists.intro _ (And.intro (lm_n1 hT) (And.intro (inb_in q4) ?_)))
      show Go _ _ _ _ _ _ 38 [(0, rm 0), (1, vi l1)] [] (Y, (wI S 1 l1.toNatClampNeg (S.1 14 l1.toNatClampNeg), T)) _
      refine go_blk rfl [(.iinc 1 1, 3, 1, 0, 0, .inl 1)] 38 41 _ _ _ (by decide +kernel) ?_
      show Go _ _ _ _ _ _ 41 [(1, vi (l1 + 1)), (0, rm 0)] [] (Y, (wI S 1 l1.toNatClampNeg (S.1 14 l1.toNatClampNeg), T)) _
      refine go_goto (off := (-20)) (tgt := 21) (by decide +kernel) (by decide) ?_
      refine go_pick [1, 0] rfl ?_
      exact ih _ _ _ h k
theorem ret11_party {S : jS} {T : jT} {Y : jS × jT} {S1 : jS} {x : Int32} (hT : LayM T) (h : f11_party S = some (S1, x)) : Ret M11_party 9 0 0 [rm 0] (Y, (S, T)) (some (vi x)) (Y, (S1, T)) := by
  refine Ret.of (by decide +kernel) (Nat.le_of_ble_eq_true rfl) ?_
  unfold f11_party at h
  show Go _ _ _ _ _ _ 0 [(0, rm 0)] [] (Y, (S, T)) _
  refine go_blk rfl [(.aload_n 0, 1, 0, 0, 0, .inl 0)] 0 1 _ _ _ (by decide +kernel) ?_
  show Go _ _ _ _ _ _ 1 [(0, rm 0)] [rm 0] (Y, (S, T)) _
  obtain ⟨r1, hr1, h⟩ := bind_el h
  refine go_callV (idx := 314) (z := 0) (M' := M11_readsAll) (n := 0) (A := []) (v' := none) (μ' := (Y, (r1.1, T))) (d' := 8) (mc' := 0) (ms' := 0) (kc' := 0) (ks' := 0) (ci := 11) (x := .inr (.inl 0)) (by decide +kernel) ml_11_314 rfl wv11_readsAll rfl (by decide) rfl (lm_t0 hT) (ret11_readsAll hT hr1) (by decide) rfl rfl (Nat.le_of_ble_eq_true rfl) rfl (jag rfl rfl) ?_
  show Go _ _ _ _ _ _ 4 [(0, rm 0)] [] (Y, (r1.1, T)) _
  refine go_blk rfl [(.aload_n 0, 1, 0, 0, 0, .inl 0), (.getfield 178, 3, 11, 21, 0, .inl 0)] 4 8 _ _ _ (by decide +kernel) ?_
  refine And.intro (lm_t0 hT) ?_
  show Go _ _ _ _ _ _ 8 [(0, rm 0)] [vi (r1.1.1 0 21)] (Y, (r1.1, T)) _
  refine ite_el h (fun q1 h => ?_) (fun q1 h => ?_)
  · refine go_if_le (off := 11) (tgt := 19) (by decide +kernel) (by decide) (fun _ => ?_) (fun z => absurd q1 z)
    refine go_blk rfl [(.iconst 0, 1, 0, 0, 0, .inl 0), (.istore_n 1, 1, 1, 0, 0, .inl 0)] 19 21 _ _ _ (by decide +kernel) ?_
    show Go _ _ _ _ _ _ 21 [(1, vi 0), (0, rm 0)] [] (Y, (r1.1, T)) _
    refine go_pick [1, 0] rfl ?_
    obtain ⟨y2, hy2, h⟩ := bind_el h
    refine f11_party_L1_ok hT _ _ _ _ hy2 ?_
    show Go _ _ _ _ _ _ 44 [(0, rm 0)] [] (Y, (y2, T)) _
    refine go_blk rfl [(.aload_n 0, 1, 0, 0, 0, .inl 0), (.getfield 9, 3, 11, 1, 1, .inl 0), (.bipush 8, 2, 0, 0, 0, .inl 8), (.iconst 0, 1, 0, 0, 0, .inl 0), (.iastore, 1, 20, 0, 0, .inl 0)] 44 52 _ _ _ (by decide +kernel) ?_
    refine And.intro (lm_t0 hT) (Exists.intro _ (And.intro (gRm (lm_r1 hT)) ?_))
    refine And.intro (lm_t1 hT) (Exists.intro _ (And.intro (lm_n1 hT) (And.intro (inb_in (by decide)) ?_)))
    show Go _ _ _ _ _ _ 52 [(0, rm 0)] [] (Y, (wI y2 1 8 0, T)) _
    refine go_blk rfl [(.aload_n 0, 1, 0, 0, 0, .inl 0), (.getfield 52, 3, 11, 15, 1, .inl 0), (.aload_n 0, 1, 0, 0, 0, .inl 0), (.getfield 28, 3, 11, 7, 1, .inl 0)] 52 60 _ _ _ (by decide +kernel) ?_
    refine And.intro (lm_t0 hT) (Exists.intro _ (And.intro (gRm (lm_r15 hT)) ?_))
    refine And.intro (lm_t0 hT) (Exists.intro _ (And.intro (gRm (lm_r7 hT)) ?_))
    show Go _ _ _ _ _ _ 60 [(0, rm 0)] [rm 7, rm 15] (Y, (wI y2 1 8 0, T)) _
    obtain ⟨r3, hr3, h⟩ := bind_el h
    refine go_callS (idx := 310) (z := 0) (M' := M11_copies) (n := 2) (A := [rm 15, rm 7]) (v' := none) (μ' := (Y, (r3.1, T))) (d' := 1) (mc' := 0) (ms' := 0) (kc' := 0) (ks' := 0) (by decide +kernel) ml_11_310 rfl ws11_copies rfl (ret11_copies hT ⟨(lm_t15 hT), (lm_n15 hT)⟩ ⟨(lm_t7 hT), (lm_n7 hT)⟩ hr3) (by decide) rfl rfl (Nat.le_of_ble_eq_true rfl) rfl (jag rfl rfl) ?_
    show Go _ _ _ _ _ _ 63 [(0, rm 0)] [] (Y, (r3.1, T)) _
    refine go_blk rfl [(.aload_n 0, 1, 0, 0, 0, .inl 0), (.getfield 55, 3, 11, 16, 1, .inl 0), (.aload_n 0, 1, 0, 0, 0, .inl 0), (.getfield 40, 3, 11, 11, 1, .inl 0)] 63 71 _ _ _ (by decide +kernel) ?_
    refine And.intro (lm_t0 hT) (Exists.intro _ (And.intro (gRm (lm_r16 hT)) ?_))
    refine And.intro (lm_t0 hT) (Exists.intro _ (And.intro (gRm (lm_r11 hT)) ?_))
    show Go _ _ _ _ _ _ 71 [(0, rm 0)] [rm 11, rm 16] (Y, (r3.1, T)) _
    obtain ⟨r4, hr4, h⟩ := bind_el h
    refine go_callS (idx := 310) (z := 0) (M' := M11_copies) (n := 2) (A := [rm 16, rm 11]) (v' := none) (μ' := (Y, (r4.1, T))) (d' := 1) (mc' := 0) (ms' := 0) (kc' := 0) (ks' := 0) (by decide +kernel) ml_11_310 rfl ws11_copies rfl (ret11_copies hT ⟨(lm_t16 hT), (lm_n16 hT)⟩ ⟨(lm_t11 hT), (lm_n11 hT)⟩ hr4) (by decide) rfl rfl (Nat.le_of_ble_eq_true rfl) rfl (jag rfl rfl) ?_
    show Go _ _ _ _ _ _ 74 [(0, rm 0)] [] (Y, (r4.1, T)) _
    refine go_blk rfl [(.aload_n 0, 1, 0, 0, 0, .inl 0), (.getfield 58, 3, 11, 17, 1, .inl 0), (.aload_n 0, 1, 0, 0, 0, .inl 0), (.getfield 43, 3, 11, 12, 1, .inl 0)] 74 82 _ _ _ (by decide +kernel) ?_
    refine And.intro (lm_t0 hT) (Exists.intro _ (And.intro (gRm (lm_r17 hT)) ?_))
    refine And.intro (lm_t0 hT) (Exists.intro _ (And.intro (gRm (lm_r12 hT)) ?_))
    show Go _ _ _ _ _ _ 82 [(0, rm 0)] [rm 12, rm 17] (Y, (r4.1, T)) _
    obtain ⟨r5, hr5, h⟩ := bind_el h
    refine go_callS (idx := 310) (z := 0) (M' := M11_copies) (n := 2) (A := [rm 17, rm 12]) (v' := none) (μ' := (Y, (r5.1, T))) (d' := 1) (mc' := 0) (ms' := 0) (kc' := 0) (ks' := 0) (by decide +kernel) ml_11_310 rfl ws11_copies rfl (ret11_copies hT ⟨(lm_t17 hT), (lm_n17 hT)⟩ ⟨(lm_t12 hT), (lm_n12 hT)⟩ hr5) (by decide) rfl rfl (Nat.le_of_ble_eq_true rfl) rfl (jag rfl rfl) ?_
    show Go _ _ _ _ _ _ 85 [(0, rm 0)] [] (Y, (r5.1, T)) _
    refine go_blk rfl [(.aload_n 0, 1, 0, 0, 0, .inl 0), (.getfield 61, 3, 11, 18, 1, .inl 0), (.aload_n 0, 1, 0, 0, 0, .inl 0), (.getfield 46, 3, 11, 13, 1, .inl 0)] 85 93 _ _ _ (by decide +kernel) ?_
    refine And.intro (lm_t0 hT) (Exists.intro _ (And.intro (gRm (lm_r18 hT)) ?_))
    refine And.intro (lm_t0 hT) (Exists.intro _ (And.intro (gRm (lm_r13 hT)) ?_))
    show Go _ _ _ _ _ _ 93 [(0, rm 0)] [rm 13, rm 18] (Y, (r5.1, T)) _
    obtain ⟨r6, hr6, h⟩ := bind_el h
    refine go_callS (idx := 310) (z := 0) (M' := M11_copies) (n := 2) (A := [rm 18, rm 13]) (v' := none) (μ' := (Y, (r6.1, T))) (d' := 1) (mc' := 0) (ms' := 0) (kc' := 0) (ks' := 0) (by decide +kernel) ml_11_310 rfl ws11_copies rfl (ret11_copies hT ⟨(lm_t18 hT), (lm_n18 hT)⟩ ⟨(lm_t13 hT), (lm_n13 hT)⟩ hr6) (by decide) rfl rfl (Nat.le_of_ble_eq_true rfl) rfl (jag rfl rfl) ?_
    show Go _ _ _ _ _ _ 96 [(0, rm 0)] [] (Y, (r6.1, T)) _
    refine go_blk rfl [(.aload_n 0, 1, 0, 0, 0, .inl 0)] 96 97 _ _ _ (by decide +kernel) ?_
    show Go _ _ _ _ _ _ 97 [(0, rm 0)] [rm 0] (Y, (r6.1, T)) _
    obtain ⟨r7, hr7, h⟩ := bind_el h
    refine go_callV (idx := 317) (z := 0) (M' := M11_begins) (n := 0) (A := []) (v' := none) (μ' := (Y, (r7.1, T))) (d' := 2) (mc' := 0) (ms' := 0) (kc' := 0) (ks' := 0) (ci := 11) (x := .inr (.inl 0)) (by decide +kernel) ml_11_317 rfl wv11_begins rfl (by decide) rfl (lm_t0 hT) (ret11_begins hT hr7) (by decide) rfl rfl (Nat.le_of_ble_eq_true rfl) rfl (jag rfl rfl) ?_
    show Go _ _ _ _ _ _ 100 [(0, rm 0)] [] (Y, (r7.1, T)) _
    refine go_blk rfl [(.aload_n 0, 1, 0, 0, 0, .inl 0), (.iconst 0, 1, 0, 0, 0, .inl 0), (.putfield 320, 3, 11, 44, 0, .inl 0)] 100 105 _ _ _ (by decide +kernel) ?_
    refine And.intro (lm_t0 hT) (And.intro trivial ?_)
    show Go _ _ _ _ _ _ 105 [(0, rm 0)] [] (Y, (wI r7.1 0 44 0, T)) _
    refine go_blk rfl [(.aload_n 0, 1, 0, 0, 0, .inl 0), (.getfield 9, 3, 11, 1, 1, .inl 0), (.iconst 2, 1, 0, 0, 0, .inl 2), (.iaload, 1, 20, 0, 0, .inl 0)] 105 111 _ _ _ (by decide +kernel) ?_
    refine And.intro (lm_t0 hT) (Exists.intro _ (And.intro (gRm (lm_r1 hT)) ?_))
    refine And.intro (lm_t1 hT) (Exists.intro _ (And.intro (lm_n1 hT) (And.intro (inb_in (by decide)) ?_)))
    show Go _ _ _ _ _ _ 111 [(0, rm 0)] [vi ((wI r7.1 0 44 0).1 1 2)] (Y, (wI r7.1 0 44 0, T)) _
    obtain ⟨rfl, rfl⟩ := Prod.mk.inj (Option.some.inj h)
    exact go_ireturn (by decide +kernel) rfl rfl ⟨rfl, rfl⟩
  · refine go_if_le (off := 11) (tgt := 19) (by decide +kernel) (by decide) (fun z => absurd z q1) (fun _ => ?_)
    refine go_blk rfl [(.bipush (-2), 2, 0, 0, 0, .inl (-2)), (.aload_n 0, 1, 0, 0, 0, .inl 0), (.getfield 178, 3, 11, 21, 0, .inl 0), (.isub, 1, 0, 0, 0, .inl 0)] 11 18 _ _ _ (by decide +kernel) ?_
    refine And.intro (lm_t0 hT) ?_
    show Go _ _ _ _ _ _ 18 [(0, rm 0)] [vi (((-2)) - (r1.1.1 0 21))] (Y, (r1.1, T)) _
    obtain ⟨rfl, rfl⟩ := Prod.mk.inj (Option.some.inj h)
    exact go_ireturn (by decide +kernel) rfl rfl ⟨rfl, rfl⟩
def f11_ruleClause (S : jS) (a0 : Int32) : Option (jS × Unit) := Option.bind (f11_blanks S) (fun r1 => Option.bind (f11_stood r1.1 14) (fun r2 => (if r2 = 0 then Option.bind (f11_fails r1.1 0 (r1.1.1 0 20)) (fun r3 => some (r3.1, ())) else (if a0 = 12 then Option.bind (f11_fails r1.1 4 (r1.1.1 0 20)) (fun r4 => some (r4.1, ())) else (if inb ((12 * ((wI r1.1 0 20 ((r1.1.1 0 20) + 4)).1 0 22)) + a0) 72 then Option.bind (f11_sum (wI (wI r1.1 0 20 ((r1.1.1 0 20) + 4)) 33 ((12 * ((wI r1.1 0 20 ((r1.1.1 0 20) + 4)).1 0 22)) + a0).toNatClampNeg ((wI r1.1 0 20 ((r1.1.1 0 20) + 4)).1 0 24))) (fun r5 => Option.bind (if ((wI r5.1 34 ((12 * ((wI r1.1 0 20 ((r1.1.1 0 20) + 4)).1 0 22)) + a0).toNatClampNeg (r5.1.1 0 24)).1 0 21) = 0 then Option.bind (f11_takes (wI r5.1 34 ((12 * ((wI r1.1 0 20 ((r1.1.1 0 20) + 4)).1 0 22)) + a0).toNatClampNeg (r5.1.1 0 24)) 7) (fun r6 => (if r6.2 = 0 then some r6.1 else Option.bind (f11_test r6.1) (fun r7 => some r7.1))) else some (wI r5.1 34 ((12 * ((wI r1.1 0 20 ((r1.1.1 0 20) + 4)).1 0 22)) + a0).toNatClampNeg (r5.1.1 0 24))) (fun (y8 : jS) => some (wI y8 35 ((12 * ((wI r1.1 0 20 ((r1.1.1 0 20) + 4)).1 0 22)) + a0).toNatClampNeg (y8.1 0 24), ()))) else none)))))
theorem ret11_ruleClause {S : jS} {T : jT} {Y : jS × jT} {a0 : Int32} {S1 : jS} {x : Unit} (hT : LayM T) (h : f11_ruleClause S a0 = some (S1, x)) : Ret M11_ruleClause 12 0 0 [rm 0, vi a0] (Y, (S, T)) (none) (Y, (S1, T)) := by
  refine Ret.of (by decide +kernel) (Nat.le_of_ble_eq_true rfl) ?_
  unfold f11_ruleClause at h
  show Go _ _ _ _ _ _ 0 [(0, rm 0), (1, vi a0)] [] (Y, (S, T)) _
  refine go_blk rfl [(.aload_n 0, 1, 0, 0, 0, .inl 0)] 0 1 _ _ _ (by decide +kernel) ?_
  show Go _ _ _ _ _ _ 1 [(0, rm 0), (1, vi a0)] [rm 0] (Y, (S, T)) _
  obtain ⟨r1, hr1, h⟩ := bind_el h
  refine go_callV (idx := 201) (z := 0) (M' := M11_blanks) (n := 0) (A := []) (v' := none) (μ' := (Y, (r1.1, T))) (d' := 2) (mc' := 0) (ms' := 0) (kc' := 0) (ks' := 0) (ci := 11) (x := .inr (.inl 0)) (by decide +kernel) ml_11_201 rfl wv11_blanks rfl (by decide) rfl (lm_t0 hT) (ret11_blanks hT hr1) (by decide) rfl rfl (Nat.le_of_ble_eq_true rfl) rfl (jag rfl rfl) ?_
  show Go _ _ _ _ _ _ 4 [(0, rm 0), (1, vi a0)] [] (Y, (r1.1, T)) _
  refine go_blk rfl [(.aload_n 0, 1, 0, 0, 0, .inl 0), (.getfield 181, 3, 11, 20, 0, .inl 0), (.istore_n 2, 1, 2, 0, 0, .inl 0), (.aload_n 0, 1, 0, 0, 0, .inl 0), (.ldc_w 323, 3, 0, 0, 0, .inr (.inr (some (.inr (.inr 14)))))] 4 13 _ _ _ (by decide +kernel) ?_
  refine And.intro (lm_t0 hT) ?_
  show Go _ _ _ _ _ _ 13 [(2, vi (r1.1.1 0 20)), (0, rm 0), (1, vi a0)] [rs 14, rm 0] (Y, (r1.1, T)) _
  obtain ⟨r2, hr2, h⟩ := bind_el h
  refine go_callV (idx := 204) (z := 0) (M' := M11_stood) (n := 1) (A := [rs 14]) (v' := some (vi r2)) (μ' := (Y, (r1.1, T))) (d' := 5) (mc' := 0) (ms' := 0) (kc' := 0) (ks' := 0) (ci := 11) (x := .inr (.inl 0)) (by decide +kernel) ml_11_204 rfl wv11_stood rfl (by decide) rfl (lm_t0 hT) (ret11_stood hT (by decide) hr2) (by decide) rfl rfl (Nat.le_of_ble_eq_true rfl) rfl (jag rfl rfl) ?_
  show Go _ _ _ _ _ _ 16 [(2, vi (r1.1.1 0 20)), (0, rm 0), (1, vi a0)] [vi r2] (Y, (r1.1, T)) _
  refine ite_el h (fun q1 h => ?_) (fun q1 h => ?_)
  · refine go_if_ne (off := 10) (tgt := 26) (by decide +kernel) (by decide) (fun z => absurd q1 z) (fun _ => ?_)
    refine go_blk rfl [(.aload_n 0, 1, 0, 0, 0, .inl 0), (.iconst 0, 1, 0, 0, 0, .inl 0), (.iload_n 2, 1, 2, 0, 0, .inl 0)] 19 22 _ _ _ (by decide +kernel) ?_
    show Go _ _ _ _ _ _ 22 [(2, vi (r1.1.1 0 20)), (0, rm 0), (1, vi a0)] [vi (r1.1.1 0 20), vi 0, rm 0] (Y, (r1.1, T)) _
    obtain ⟨r3, hr3, h⟩ := bind_el h
    refine go_callV (idx := 217) (z := 0) (M' := M11_fails) (n := 2) (A := [vi 0, vi (r1.1.1 0 20)]) (v' := none) (μ' := (Y, (r3.1, T))) (d' := 1) (mc' := 0) (ms' := 0) (kc' := 0) (ks' := 0) (ci := 11) (x := .inr (.inl 0)) (by decide +kernel) ml_11_217 rfl wv11_fails rfl (by decide) rfl (lm_t0 hT) (ret11_fails hT hr3) (by decide) rfl rfl (Nat.le_of_ble_eq_true rfl) rfl (jag rfl rfl) ?_
    show Go _ _ _ _ _ _ 25 [(2, vi (r1.1.1 0 20)), (0, rm 0), (1, vi a0)] [] (Y, (r3.1, T)) _
    obtain ⟨rfl, rfl⟩ := Prod.mk.inj (Option.some.inj h)
    exact go_return (by decide +kernel) rfl ⟨rfl, rfl⟩
  · refine go_if_ne (off := 10) (tgt := 26) (by decide +kernel) (by decide) (fun _ => ?_) (fun z => absurd z q1)
    refine go_blk rfl [(.iload_n 1, 1, 1, 0, 0, .inl 0), (.bipush 12, 2, 0, 0, 0, .inl 12)] 26 29 _ _ _ (by decide +kernel) ?_
    show Go _ _ _ _ _ _ 29 [(2, vi (r1.1.1 0 20)), (0, rm 0), (1, vi a0)] [vi 12, vi a0] (Y, (r1.1, T)) _
    refine ite_el h (fun q2 h => ?_) (fun q2 h => ?_)
    · refine go_icmp_ne (off := 10) (tgt := 39) (by decide +kernel) (by decide) (fun z => absurd q2 z) (fun _ => ?_)
      refine go_blk rfl [(.aload_n 0, 1, 0, 0, 0, .inl 0), (.iconst 4, 1, 0, 0, 0, .inl 4), (.iload_n 2, 1, 2, 0, 0, .inl 0)] 32 35 _ _ _ (by decide +kernel) ?_
      show Go _ _ _ _ _ _ 35 [(2, vi (r1.1.1 0 20)), (0, rm 0), (1, vi a0)] [vi (r1.1.1 0 20), vi 4, rm 0] (Y, (r1.1, T)) _
      obtain ⟨r4, hr4, h⟩ := bind_el h
      refine go_callV (idx := 217) (z := 0) (M' := M11_fails) (n := 2) (A := [vi 4, vi (r1.1.1 0 20)]) (v' := none) (μ' := (Y, (r4.1, T))) (d' := 1) (mc' := 0) (ms' := 0) (kc' := 0) (ks' := 0) (ci := 11) (x := .inr (.inl 0)) (by decide +kernel) ml_11_217 rfl wv11_fails rfl (by decide) rfl (lm_t0 hT) (ret11_fails hT hr4) (by decide) rfl rfl (Nat.le_of_ble_eq_true rfl) rfl (jag rfl rfl) ?_
      show Go _ _ _ _ _ _ 38 [(2, vi (r1.1.1 0 20)), (0, rm 0), (1, vi a0)] [] (Y, (r4.1, T)) _
      obtain ⟨rfl, rfl⟩ := Prod.mk.inj (Option.some.inj h)
      exact go_return (by decide +kernel) rfl ⟨rfl, rfl⟩
    · refine go_icmp_ne (off := 10) (tgt := 39) (by decide +kernel) (by decide) (fun _ => ?_) (fun z => absurd z q2)
      refine go_blk rfl [(.aload_n 0, 1, 0, 0, 0, .inl 0), (.dup, 1, 0, 0, 0, .inl 0), (.getfield 181, 3, 11, 20, 0, .inl 0), (.iconst 4, 1, 0, 0, 0, .inl 4), (.iadd, 1, 0, 0, 0, .inl 0), (.putfield 181, 3, 11, 20, 0, .inl 0)] 39 49 _ _ _ (by decide +kernel) ?_
      refine And.intro (lm_t0 hT) ?_
      refine And.intro (lm_t0 hT) (And.intro trivial ?_)
      show Go _ _ _ _ _ _ 49 [(2, vi (r1.1.1 0 20)), (0, rm 0), (1, vi a0)] [] (Y, (wI r1.1 0 20 ((r1.1.1 0 20) + 4), T)) _
      refine gd_el h (fun q3 h => ?_)
      refine go_blk rfl [(.bipush 12, 2, 0, 0, 0, .inl 12), (.aload_n 0, 1, 0, 0, 0, .inl 0), (.getfield 208, 3, 11, 22, 0, .inl 0), (.imul, 1, 0, 0, 0, .inl 0), (.iload_n 1, 1, 1, 0, 0, .inl 0), (.iadd, 1, 0, 0, 0, .inl 0), (.istore_n 3, 1, 3, 0, 0, .inl 0), (.aload_n 0, 1, 0, 0, 0, .inl 0), (.getfield 81, 3, 11, 33, 1, .inl 0), (.iload_n 3, 1, 3, 0, 0, .inl 0), (.aload_n 0, 1, 0, 0, 0, .inl 0), (.getfield 211, 3, 11, 24, 0, .inl 0), (.iastore, 1, 20, 0, 0, .inl 0)] 49 69 _ _ _ (by decide +kernel) ?_
      refine And.intro (lm_t0 hT) ?_
      refine And.intro (lm_t0 hT) (Exists.intro _ (And.intro (gRm (lm_r33 hT)) ?_))
      refine And.intro (lm_t0 hT) ?_
      refine And.intro (lm_t33 hT) (Exists.intro _ (And.intro (lm_n33 hT) (And.intro (inb_in q3) ?_)))
      show Go _ _ _ _ _ _ 69 [(3, vi ((12 * ((wI r1.1 0 20 ((r1.1.1 0 20) + 4)).1 0 22)) + a0)), (2, vi (r1.1.1 0 20)), (0, rm 0), (1, vi a0)] [] (Y, (wI (wI r1.1 0 20 ((r1.1.1 0 20) + 4)) 33 ((12 * ((wI r1.1 0 20 ((r1.1.1 0 20) + 4)).1 0 22)) + a0).toNatClampNeg ((wI r1.1 0 20 ((r1.1.1 0 20) + 4)).1 0 24), T)) _
      refine go_blk rfl [(.aload_n 0, 1, 0, 0, 0, .inl 0)] 69 70 _ _ _ (by decide +kernel) ?_
      show Go _ _ _ _ _ _ 70 [(3, vi ((12 * ((wI r1.1 0 20 ((r1.1.1 0 20) + 4)).1 0 22)) + a0)), (2, vi (r1.1.1 0 20)), (0, rm 0), (1, vi a0)] [rm 0] (Y, (wI (wI r1.1 0 20 ((r1.1.1 0 20) + 4)) 33 ((12 * ((wI r1.1 0 20 ((r1.1.1 0 20) + 4)).1 0 22)) + a0).toNatClampNeg ((wI r1.1 0 20 ((r1.1.1 0 20) + 4)).1 0 24), T)) _
      obtain ⟨r5, hr5, h⟩ := bind_el h
      refine go_callV (idx := 246) (z := 0) (M' := M11_sum) (n := 0) (A := []) (v' := none) (μ' := (Y, (r5.1, T))) (d' := 8) (mc' := 0) (ms' := 0) (kc' := 0) (ks' := 0) (ci := 11) (x := .inr (.inl 0)) (by decide +kernel) ml_11_246 rfl wv11_sum rfl (by decide) rfl (lm_t0 hT) (ret11_sum hT hr5) (by decide) rfl rfl (Nat.le_of_ble_eq_true rfl) rfl (jag rfl rfl) ?_
      show Go _ _ _ _ _ _ 73 [(3, vi ((12 * ((wI r1.1 0 20 ((r1.1.1 0 20) + 4)).1 0 22)) + a0)), (2, vi (r1.1.1 0 20)), (0, rm 0), (1, vi a0)] [] (Y, (r5.1, T)) _
      refine go_blk rfl [(.aload_n 0, 1, 0, 0, 0, .inl 0), (.getfield 84, 3, 11, 34, 1, .inl 0), (.iload_n 3, 1, 3, 0, 0, .inl 0), (.aload_n 0, 1, 0, 0, 0, .inl 0), (.getfield 211, 3, 11, 24, 0, .inl 0), (.iastore, 1, 20, 0, 0, .inl 0)] 73 83 _ _ _ (by decide +kernel) ?_
      refine And.intro (lm_t0 hT) (Exists.intro _ (And.intro (gRm (lm_r34 hT)) ?_))
      refine And.intro (lm_t0 hT) ?_
      refine And.intro (lm_t34 hT) (Exists.intro _ (And.intro (lm_n34 hT) (And.intro (inb_in q3) ?_)))
      show Go _ _ _ _ _ _ 83 [(3, vi ((12 * ((wI r1.1 0 20 ((r1.1.1 0 20) + 4)).1 0 22)) + a0)), (2, vi (r1.1.1 0 20)), (0, rm 0), (1, vi a0)] [] (Y, (wI r5.1 34 ((12 * ((wI r1.1 0 20 ((r1.1.1 0 20) + 4)).1 0 22)) + a0).toNatClampNeg (r5.1.1 0 24), T)) _
      refine go_blk rfl [(.aload_n 0, 1, 0, 0, 0, .inl 0), (.getfield 178, 3, 11, 21, 0, .inl 0)] 83 87 _ _ _ (by decide +kernel) ?_
      refine And.intro (lm_t0 hT) ?_
      show Go _ _ _ _ _ _ 87 [(3, vi ((12 * ((wI r1.1 0 20 ((r1.1.1 0 20) + 4)).1 0 22)) + a0)), (2, vi (r1.1.1 0 20)), (0, rm 0), (1, vi a0)] [vi ((wI r5.1 34 ((12 * ((wI r1.1 0 20 ((r1.1.1 0 20) + 4)).1 0 22)) + a0).toNatClampNeg (r5.1.1 0 24)).1 0 21)] (Y, (wI r5.1 34 ((12 * ((wI r1.1 0 20 ((r1.1.1 0 20) + 4)).1 0 22)) + a0).toNatClampNeg (r5.1.1 0 24), T)) _
      obtain ⟨y8, hy8, h⟩ := bind_el h
      have key : Go M11_ruleClause 12 0 0 0 0 104 [(0, rm 0), (3, vi ((12 * ((wI r1.1 0 20 ((r1.1.1 0 20) + 4)).1 0 22)) + a0))] [] (Y, (y8, T)) (eqQ none (Y, (S1, T))) := by
        refine go_blk rfl [(.aload_n 0, 1, 0, 0, 0, .inl 0), (.getfield 87, 3, 11, 35, 1, .inl 0), (.iload_n 3, 1, 3, 0, 0, .inl 0), (.aload_n 0, 1, 0, 0, 0, .inl 0), (.getfield 211, 3, 11, 24, 0, .inl 0), (.iastore, 1, 20, 0, 0, .inl 0)] 104 114 _ _ _ (by decide +kernel) ?_
        refine And.intro (lm_t0 hT) (Exists.intro _ (And.intro (gRm (lm_r35 hT)) ?_))
        refine And.intro (lm_t0 hT) ?_
        refine And.intro (lm_t35 hT) (Exists.intro _ (And.intro (lm_n35 hT) (And.intro (inb_in q3) ?_)))
        show Go _ _ _ _ _ _ 114 [(0, rm 0), (3, vi ((12 * ((wI r1.1 0 20 ((r1.1.1 0 20) + 4)).1 0 22)) + a0))] [] (Y, (wI y8 35 ((12 * ((wI r1.1 0 20 ((r1.1.1 0 20) + 4)).1 0 22)) + a0).toNatClampNeg (y8.1 0 24), T)) _
        obtain ⟨rfl, rfl⟩ := Prod.mk.inj (Option.some.inj h)
        exact go_return (by decide +kernel) rfl ⟨rfl, rfl⟩
      replace h := hy8
      refine ite_el h (fun q4 h => ?_) (fun q4 h => ?_)
      · refine go_if_ne (off := 17) (tgt := 104) (by decide +kernel) (by decide) (fun z => absurd q4 z) (fun _ => ?_)
        refine go_blk rfl [(.aload_n 0, 1, 0, 0, 0, .inl 0), (.ldc_w 325, 3, 0, 0, 0, .inr (.inr (some (.inr (.inr 7)))))] 90 94 _ _ _ (by decide +kernel) ?_
        show Go _ _ _ _ _ _ 94 [(3, vi ((12 * ((wI r1.1 0 20 ((r1.1.1 0 20) + 4)).1 0 22)) + a0)), (2, vi (r1.1.1 0 20)), (0, rm 0), (1, vi a0)] [rs 7, rm 0] (Y, (wI r5.1 34 ((12 * ((wI r1.1 0 20 ((r1.1.1 0 20) + 4)).1 0 22)) + a0).toNatClampNeg (r5.1.1 0 24), T)) _
        obtain ⟨r6, hr6, h⟩ := bind_el h
        refine go_callV (idx := 327) (z := 0) (M' := M11_takes) (n := 1) (A := [rs 7]) (v' := some (vi r6.2)) (μ' := (Y, (r6.1, T))) (d' := 6) (mc' := 0) (ms' := 0) (kc' := 0) (ks' := 0) (ci := 11) (x := .inr (.inl 0)) (by decide +kernel) ml_11_327 rfl wv11_takes rfl (by decide) rfl (lm_t0 hT) (ret11_takes hT (by decide) hr6) (by decide) rfl rfl (Nat.le_of_ble_eq_true rfl) rfl (jag rfl rfl) ?_
        show Go _ _ _ _ _ _ 97 [(3, vi ((12 * ((wI r1.1 0 20 ((r1.1.1 0 20) + 4)).1 0 22)) + a0)), (2, vi (r1.1.1 0 20)), (0, rm 0), (1, vi a0)] [vi r6.2] (Y, (r6.1, T)) _
        refine ite_el h (fun q5 h => ?_) (fun q5 h => ?_)
        · refine go_if_eq (off := 7) (tgt := 104) (by decide +kernel) (by decide) (fun _ => ?_) (fun z => absurd q5 z)
          obtain rfl := Option.some.inj h
          refine go_pick [2, 0] rfl ?_
          exact key
        · refine go_if_eq (off := 7) (tgt := 104) (by decide +kernel) (by decide) (fun z => absurd z q5) (fun _ => ?_)
          refine go_blk rfl [(.aload_n 0, 1, 0, 0, 0, .inl 0)] 100 101 _ _ _ (by decide +kernel) ?_
          show Go _ _ _ _ _ _ 101 [(3, vi ((12 * ((wI r1.1 0 20 ((r1.1.1 0 20) + 4)).1 0 22)) + a0)), (2, vi (r1.1.1 0 20)), (0, rm 0), (1, vi a0)] [rm 0] (Y, (r6.1, T)) _
          obtain ⟨r7, hr7, h⟩ := bind_el h
          refine go_callV (idx := 330) (z := 0) (M' := M11_test) (n := 0) (A := []) (v' := none) (μ' := (Y, (r7.1, T))) (d' := 11) (mc' := 0) (ms' := 0) (kc' := 0) (ks' := 0) (ci := 11) (x := .inr (.inl 0)) (by decide +kernel) ml_11_330 rfl wv11_test rfl (by decide) rfl (lm_t0 hT) (ret11_test hT hr7) (by decide) rfl rfl (Nat.le_of_ble_eq_true rfl) rfl (jag rfl rfl) ?_
          show Go _ _ _ _ _ _ 104 [(3, vi ((12 * ((wI r1.1 0 20 ((r1.1.1 0 20) + 4)).1 0 22)) + a0)), (2, vi (r1.1.1 0 20)), (0, rm 0), (1, vi a0)] [] (Y, (r7.1, T)) _
          obtain rfl := Option.some.inj h
          refine go_pick [2, 0] rfl ?_
          exact key
      · refine go_if_ne (off := 17) (tgt := 104) (by decide +kernel) (by decide) (fun _ => ?_) (fun z => absurd z q4)
        obtain rfl := Option.some.inj h
        refine go_pick [2, 0] rfl ?_
        exact key
def f11_rule_L1  : Nat → jS → Int32 → Int32 → Option (jS × Int32)
  | 0, _, _, _ => none
  | n + 1, S, l1, l2 => (if l2 = 0 then some (S, l1) else Option.bind (f11_ruleClause S l1) (fun r2 => Option.bind (f11_goesOn r2.1) (fun r3 => f11_rule_L1 n r3.1 (l1 + 1) r3.2)))
def f11_rule (S : jS) : Option (jS × Int32) := (if (S.1 0 23) = 6 then some (S, (-1)) else Option.bind (f11_starts (wI S 0 22 (S.1 0 23))) (fun r1 => Option.bind (f11_rule_L1 jF r1.1 0 1) (fun y4 => (if inb ((wI y4.1 0 19 0).1 0 22) 6 then (if ((wI (wI (wI y4.1 0 19 0) 32 ((wI y4.1 0 19 0).1 0 22).toNatClampNeg y4.2) 0 23 (((wI (wI y4.1 0 19 0) 32 ((wI y4.1 0 19 0).1 0 22).toNatClampNeg y4.2).1 0 23) + (((if ((wI (wI y4.1 0 19 0) 32 ((wI y4.1 0 19 0).1 0 22).toNatClampNeg y4.2).1 0 21) = 0 then 1 else 0) : Int32)))).1 0 21) ≤ 0 then some (wI (wI (wI y4.1 0 19 0) 32 ((wI y4.1 0 19 0).1 0 22).toNatClampNeg y4.2) 0 23 (((wI (wI y4.1 0 19 0) 32 ((wI y4.1 0 19 0).1 0 22).toNatClampNeg y4.2).1 0 23) + (((if ((wI (wI y4.1 0 19 0) 32 ((wI y4.1 0 19 0).1 0 22).toNatClampNeg y4.2).1 0 21) = 0 then 1 else 0) : Int32))), ((wI (wI (wI y4.1 0 19 0) 32 ((wI y4.1 0 19 0).1 0 22).toNatClampNeg y4.2) 0 23 (((wI (wI y4.1 0 19 0) 32 ((wI y4.1 0 19 0).1 0 22).toNatClampNeg y4.2).1 0 23) + (((if ((wI (wI y4.1 0 19 0) 32 ((wI y4.1 0 19 0).1 0 22).toNatClampNeg y4.2).1 0 21) = 0 then 1 else 0) : Int32)))).1 0 23) - 1) else some (wI (wI (wI y4.1 0 19 0) 32 ((wI y4.1 0 19 0).1 0 22).toNatClampNeg y4.2) 0 23 (((wI (wI y4.1 0 19 0) 32 ((wI y4.1 0 19 0).1 0 22).toNatClampNeg y4.2).1 0 23) + (((if ((wI (wI y4.1 0 19 0) 32 ((wI y4.1 0 19 0).1 0 22).toNatClampNeg y4.2).1 0 21) = 0 then 1 else 0) : Int32))), ((-2)) - ((wI (wI (wI y4.1 0 19 0) 32 ((wI y4.1 0 19 0).1 0 22).toNatClampNeg y4.2) 0 23 (((wI (wI y4.1 0 19 0) 32 ((wI y4.1 0 19 0).1 0 22).toNatClampNeg y4.2).1 0 23) + (((if ((wI (wI y4.1 0 19 0) 32 ((wI y4.1 0 19 0).1 0 22).toNatClampNeg y4.2).1 0 21) = 0 then 1 else 0) : Int32)))).1 0 21))) else none))))
theorem f11_rule_L1_ok {T : jT} {Y : jS × jT} {Q : Option jV → jMem → Prop} (hT : LayM T) : ∀ (n : Nat) (S : jS) (l1 : Int32) (l2 : Int32) (r : (jS × Int32)), f11_rule_L1 n S l1 l2 = some r → Go M11_rule 13 0 0 0 0 47 [(0, rm 0), (1, vi r.2)] [] (Y, (r.1, T)) Q → Go M11_rule 13 0 0 0 0 27 [(0, rm 0), (1, vi l1), (2, vi l2)] [] (Y, (S, T)) Q := by
  intro n
  induction n with
  | zero => intro S l1 l2 r h k; exact absurd h (by intro z; cases z)
  | succ n ih =>
    intro S l1 l2 r h k
    rw [f11_rule_L1] at h
    refine go_blk rfl [(.iload_n 2, 1, 2, 0, 0, .inl 0)] 27 28 _ _ _ (by decide +kernel) ?_
    show Go _ _ _ _ _ _ 28 [(0, rm 0), (1, vi l1), (2, vi l2)] [vi l2] (Y, (S, T)) _
    refine ite_el h (fun q2 h => ?_) (fun q2 h => ?_)
    · refine go_if_eq (off := 19) (tgt := 47) (by decide +kernel) (by decide) (fun _ => ?_) (fun z => absurd q2 z)
      obtain rfl := Option.some.inj h
      refine go_pick [0, 1] rfl ?_
      exact k
    · refine go_if_eq (off := 19) (tgt := 47) (by decide +kernel) (by decide) (fun z => absurd z q2) (fun _ => ?_)
      refine go_blk rfl [(.aload_n 0, 1, 0, 0, 0, .inl 0), (.iload_n 1, 1, 1, 0, 0, .inl 0)] 31 33 _ _ _ (by decide +kernel) ?_
      show Go _ _ _ _ _ _ 33 [(0, rm 0), (1, vi l1), (2, vi l2)] [vi l1, rm 0] (Y, (S, T)) _
      obtain ⟨r2, hr2, h⟩ := bind_el h
      refine go_callV (idx := 336) (z := 0) (M' := M11_ruleClause) (n := 1) (A := [vi l1]) (v' := none) (μ' := (Y, (r2.1, T))) (d' := 12) (mc' := 0) (ms' := 0) (kc' := 0) (ks' := 0) (ci := 11) (x := .inr (.inl 0)) (by decide +kernel) ml_11_336 rfl wv11_ruleClause rfl (by decide) rfl (lm_t0 hT) (ret11_ruleClause hT hr2) (by decide) rfl rfl (Nat.le_of_ble_eq_true rfl) rfl (jag rfl rfl) ?_
      show Go _ _ _ _ _ _ 36 [(0, rm 0), (1, vi l1), (2, vi l2)] [] (Y, (r2.1, T)) _
      refine go_blk rfl [(.iinc 1 1, 3, 1, 0, 0, .inl 1), (.aload_n 0, 1, 0, 0, 0, .inl 0)] 36 40 _ _ _ (by decide +kernel) ?_
      show Go _ _ _ _ _ _ 40 [(1, vi (l1 + 1)), (0, rm 0), (2, vi l2)] [rm 0] (Y, (r2.1, T)) _
      obtain ⟨r3, hr3, h⟩ := bind_el h
      refine go_callV (idx := 307) (z := 0) (M' := M11_goesOn) (n := 0) (A := []) (v' := some (vi r3.2)) (μ' := (Y, (r3.1, T))) (d' := 3) (mc' := 0) (ms' := 0) (kc' := 0) (ks' := 0) (ci := 11) (x := .inr (.inl 0)) (by decide +kernel) ml_11_307 rfl wv11_goesOn rfl (by decide) rfl (lm_t0 hT) (ret11_goesOn hT hr3) (by decide) rfl rfl (Nat.le_of_ble_eq_true rfl) rfl (jag rfl rfl) ?_
      show Go _ _ _ _ _ _ 43 [(1, vi (l1 + 1)), (0, rm 0), (2, vi l2)] [vi r3.2] (Y, (r3.1, T)) _
      refine go_blk rfl [(.istore_n 2, 1, 2, 0, 0, .inl 0)] 43 44 _ _ _ (by decide +kernel) ?_
      show Go _ _ _ _ _ _ 44 [(2, vi r3.2), (1, vi (l1 + 1)), (0, rm 0)] [] (Y, (r3.1, T)) _
      refine go_goto (off := (-17)) (tgt := 27) (by decide +kernel) (by decide) ?_
      refine go_pick [2, 1, 0] rfl ?_
      exact ih _ _ _ _ h k
theorem ret11_rule {S : jS} {T : jT} {Y : jS × jT} {S1 : jS} {x : Int32} (hT : LayM T) (h : f11_rule S = some (S1, x)) : Ret M11_rule 13 0 0 [rm 0] (Y, (S, T)) (some (vi x)) (Y, (S1, T)) := by
  refine Ret.of (by decide +kernel) (Nat.le_of_ble_eq_true rfl) ?_
  unfold f11_rule at h
  show Go _ _ _ _ _ _ 0 [(0, rm 0)] [] (Y, (S, T)) _
  refine go_blk rfl [(.aload_n 0, 1, 0, 0, 0, .inl 0), (.getfield 333, 3, 11, 23, 0, .inl 0), (.bipush 6, 2, 0, 0, 0, .inl 6)] 0 6 _ _ _ (by decide +kernel) ?_
  refine And.intro (lm_t0 hT) ?_
  show Go _ _ _ _ _ _ 6 [(0, rm 0)] [vi 6, vi (S.1 0 23)] (Y, (S, T)) _
  refine ite_el h (fun q1 h => ?_) (fun q1 h => ?_)
  · refine go_icmp_ne (off := 5) (tgt := 11) (by decide +kernel) (by decide) (fun z => absurd q1 z) (fun _ => ?_)
    refine go_blk rfl [(.iconst (-1), 1, 0, 0, 0, .inl (-1))] 9 10 _ _ _ (by decide +kernel) ?_
    show Go _ _ _ _ _ _ 10 [(0, rm 0)] [vi ((-1))] (Y, (S, T)) _
    obtain ⟨rfl, rfl⟩ := Prod.mk.inj (Option.some.inj h)
    exact go_ireturn (by decide +kernel) rfl rfl ⟨rfl, rfl⟩
  · refine go_icmp_ne (off := 5) (tgt := 11) (by decide +kernel) (by decide) (fun _ => ?_) (fun z => absurd z q1)
    refine go_blk rfl [(.aload_n 0, 1, 0, 0, 0, .inl 0), (.aload_n 0, 1, 0, 0, 0, .inl 0), (.getfield 333, 3, 11, 23, 0, .inl 0), (.putfield 208, 3, 11, 22, 0, .inl 0)] 11 19 _ _ _ (by decide +kernel) ?_
    refine And.intro (lm_t0 hT) ?_
    refine And.intro (lm_t0 hT) (And.intro trivial ?_)
    show Go _ _ _ _ _ _ 19 [(0, rm 0)] [] (Y, (wI S 0 22 (S.1 0 23), T)) _
    refine go_blk rfl [(.aload_n 0, 1, 0, 0, 0, .inl 0)] 19 20 _ _ _ (by decide +kernel) ?_
    show Go _ _ _ _ _ _ 20 [(0, rm 0)] [rm 0] (Y, (wI S 0 22 (S.1 0 23), T)) _
    obtain ⟨r1, hr1, h⟩ := bind_el h
    refine go_callV (idx := 301) (z := 0) (M' := M11_starts) (n := 0) (A := []) (v' := none) (μ' := (Y, (r1.1, T))) (d' := 1) (mc' := 0) (ms' := 0) (kc' := 0) (ks' := 0) (ci := 11) (x := .inr (.inl 0)) (by decide +kernel) ml_11_301 rfl wv11_starts rfl (by decide) rfl (lm_t0 hT) (ret11_starts hT hr1) (by decide) rfl rfl (Nat.le_of_ble_eq_true rfl) rfl (jag rfl rfl) ?_
    show Go _ _ _ _ _ _ 23 [(0, rm 0)] [] (Y, (r1.1, T)) _
    refine go_blk rfl [(.iconst 0, 1, 0, 0, 0, .inl 0), (.istore_n 1, 1, 1, 0, 0, .inl 0), (.iconst 1, 1, 0, 0, 0, .inl 1), (.istore_n 2, 1, 2, 0, 0, .inl 0)] 23 27 _ _ _ (by decide +kernel) ?_
    show Go _ _ _ _ _ _ 27 [(2, vi 1), (1, vi 0), (0, rm 0)] [] (Y, (r1.1, T)) _
    refine go_pick [2, 1, 0] rfl ?_
    obtain ⟨y4, hy4, h⟩ := bind_el h
    refine f11_rule_L1_ok hT _ _ _ _ _ hy4 ?_
    show Go _ _ _ _ _ _ 47 [(0, rm 0), (1, vi y4.2)] [] (Y, (y4.1, T)) _
    refine go_blk rfl [(.aload_n 0, 1, 0, 0, 0, .inl 0), (.iconst 0, 1, 0, 0, 0, .inl 0), (.putfield 152, 3, 11, 19, 0, .inl 0)] 47 52 _ _ _ (by decide +kernel) ?_
    refine And.intro (lm_t0 hT) (And.intro trivial ?_)
    show Go _ _ _ _ _ _ 52 [(0, rm 0), (1, vi y4.2)] [] (Y, (wI y4.1 0 19 0, T)) _
    refine gd_el h (fun q3 h => ?_)
    refine go_blk rfl [(.aload_n 0, 1, 0, 0, 0, .inl 0), (.getfield 78, 3, 11, 32, 1, .inl 0), (.aload_n 0, 1, 0, 0, 0, .inl 0), (.getfield 208, 3, 11, 22, 0, .inl 0), (.iload_n 1, 1, 1, 0, 0, .inl 0), (.iastore, 1, 20, 0, 0, .inl 0)] 52 62 _ _ _ (by decide +kernel) ?_
    refine And.intro (lm_t0 hT) (Exists.intro _ (And.intro (gRm (lm_r32 hT)) ?_))
    refine And.intro (lm_t0 hT) ?_
    refine And.intro (lm_t32 hT) (Exists.intro _ (And.intro (lm_n32 hT) (And.intro (inb_in q3) ?_)))
    show Go _ _ _ _ _ _ 62 [(0, rm 0), (1, vi y4.2)] [] (Y, (wI (wI y4.1 0 19 0) 32 ((wI y4.1 0 19 0).1 0 22).toNatClampNeg y4.2, T)) _
    refine go_blk rfl [(.aload_n 0, 1, 0, 0, 0, .inl 0), (.dup, 1, 0, 0, 0, .inl 0), (.getfield 333, 3, 11, 23, 0, .inl 0), (.aload_n 0, 1, 0, 0, 0, .inl 0), (.getfield 178, 3, 11, 21, 0, .inl 0)] 62 71 _ _ _ (by decide +kernel) ?_
    refine And.intro (lm_t0 hT) ?_
    refine And.intro (lm_t0 hT) ?_
    show Go _ _ _ _ _ _ 71 [(0, rm 0), (1, vi y4.2)] [vi ((wI (wI y4.1 0 19 0) 32 ((wI y4.1 0 19 0).1 0 22).toNatClampNeg y4.2).1 0 21), vi ((wI (wI y4.1 0 19 0) 32 ((wI y4.1 0 19 0).1 0 22).toNatClampNeg y4.2).1 0 23), rm 0] (Y, (wI (wI y4.1 0 19 0) 32 ((wI y4.1 0 19 0).1 0 22).toNatClampNeg y4.2, T)) _
    have key : ∀ z0 : Int32, z0 = ((if ((wI (wI y4.1 0 19 0) 32 ((wI y4.1 0 19 0).1 0 22).toNatClampNeg y4.2).1 0 21) = 0 then 1 else 0) : Int32) → Go M11_rule 13 0 0 0 0 79 [(0, rm 0)] [vi z0, vi ((wI (wI y4.1 0 19 0) 32 ((wI y4.1 0 19 0).1 0 22).toNatClampNeg y4.2).1 0 23), rm 0] (Y, (wI (wI y4.1 0 19 0) 32 ((wI y4.1 0 19 0).1 0 22).toNatClampNeg y4.2, T)) (eqQ (some (vi x)) (Y, (S1, T))) := by
      intro z0 ez0
      subst ez0
      refine go_blk rfl [(.iadd, 1, 0, 0, 0, .inl 0), (.putfield 333, 3, 11, 23, 0, .inl 0)] 79 83 _ _ _ (by decide +kernel) ?_
      refine And.intro (lm_t0 hT) (And.intro trivial ?_)
      show Go _ _ _ _ _ _ 83 [(0, rm 0)] [] (Y, (wI (wI (wI y4.1 0 19 0) 32 ((wI y4.1 0 19 0).1 0 22).toNatClampNeg y4.2) 0 23 (((wI (wI y4.1 0 19 0) 32 ((wI y4.1 0 19 0).1 0 22).toNatClampNeg y4.2).1 0 23) + (((if ((wI (wI y4.1 0 19 0) 32 ((wI y4.1 0 19 0).1 0 22).toNatClampNeg y4.2).1 0 21) = 0 then 1 else 0) : Int32))), T)) _
      refine go_blk rfl [(.aload_n 0, 1, 0, 0, 0, .inl 0), (.getfield 178, 3, 11, 21, 0, .inl 0)] 83 87 _ _ _ (by decide +kernel) ?_
      refine And.intro (lm_t0 hT) ?_
      show Go _ _ _ _ _ _ 87 [(0, rm 0)] [vi ((wI (wI (wI y4.1 0 19 0) 32 ((wI y4.1 0 19 0).1 0 22).toNatClampNeg y4.2) 0 23 (((wI (wI y4.1 0 19 0) 32 ((wI y4.1 0 19 0).1 0 22).toNatClampNeg y4.2).1 0 23) + (((if ((wI (wI y4.1 0 19 0) 32 ((wI y4.1 0 19 0).1 0 22).toNatClampNeg y4.2).1 0 21) = 0 then 1 else 0) : Int32)))).1 0 21)] (Y, (wI (wI (wI y4.1 0 19 0) 32 ((wI y4.1 0 19 0).1 0 22).toNatClampNeg y4.2) 0 23 (((wI (wI y4.1 0 19 0) 32 ((wI y4.1 0 19 0).1 0 22).toNatClampNeg y4.2).1 0 23) + (((if ((wI (wI y4.1 0 19 0) 32 ((wI y4.1 0 19 0).1 0 22).toNatClampNeg y4.2).1 0 21) = 0 then 1 else 0) : Int32))), T)) _
      refine ite_el h (fun q5 h => ?_) (fun q5 h => ?_)
      · refine go_if_le (off := 13) (tgt := 100) (by decide +kernel) (by decide) (fun _ => ?_) (fun z => absurd q5 z)
        refine go_blk rfl [(.aload_n 0, 1, 0, 0, 0, .inl 0), (.getfield 333, 3, 11, 23, 0, .inl 0), (.iconst 1, 1, 0, 0, 0, .inl 1), (.isub, 1, 0, 0, 0, .inl 0)] 100 106 _ _ _ (by decide +kernel) ?_
        refine And.intro (lm_t0 hT) ?_
        show Go _ _ _ _ _ _ 106 [(0, rm 0)] [vi (((wI (wI (wI y4.1 0 19 0) 32 ((wI y4.1 0 19 0).1 0 22).toNatClampNeg y4.2) 0 23 (((wI (wI y4.1 0 19 0) 32 ((wI y4.1 0 19 0).1 0 22).toNatClampNeg y4.2).1 0 23) + (((if ((wI (wI y4.1 0 19 0) 32 ((wI y4.1 0 19 0).1 0 22).toNatClampNeg y4.2).1 0 21) = 0 then 1 else 0) : Int32)))).1 0 23) - 1)] (Y, (wI (wI (wI y4.1 0 19 0) 32 ((wI y4.1 0 19 0).1 0 22).toNatClampNeg y4.2) 0 23 (((wI (wI y4.1 0 19 0) 32 ((wI y4.1 0 19 0).1 0 22).toNatClampNeg y4.2).1 0 23) + (((if ((wI (wI y4.1 0 19 0) 32 ((wI y4.1 0 19 0).1 0 22).toNatClampNeg y4.2).1 0 21) = 0 then 1 else 0) : Int32))), T)) _
        obtain ⟨rfl, rfl⟩ := Prod.mk.inj (Option.some.inj h)
        exact go_ireturn (by decide +kernel) rfl rfl ⟨rfl, rfl⟩
      · refine go_if_le (off := 13) (tgt := 100) (by decide +kernel) (by decide) (fun z => absurd z q5) (fun _ => ?_)
        refine go_blk rfl [(.bipush (-2), 2, 0, 0, 0, .inl (-2)), (.aload_n 0, 1, 0, 0, 0, .inl 0), (.getfield 178, 3, 11, 21, 0, .inl 0), (.isub, 1, 0, 0, 0, .inl 0)] 90 97 _ _ _ (by decide +kernel) ?_
        refine And.intro (lm_t0 hT) ?_
        show Go _ _ _ _ _ _ 97 [(0, rm 0)] [vi (((-2)) - ((wI (wI (wI y4.1 0 19 0) 32 ((wI y4.1 0 19 0).1 0 22).toNatClampNeg y4.2) 0 23 (((wI (wI y4.1 0 19 0) 32 ((wI y4.1 0 19 0).1 0 22).toNatClampNeg y4.2).1 0 23) + (((if ((wI (wI y4.1 0 19 0) 32 ((wI y4.1 0 19 0).1 0 22).toNatClampNeg y4.2).1 0 21) = 0 then 1 else 0) : Int32)))).1 0 21))] (Y, (wI (wI (wI y4.1 0 19 0) 32 ((wI y4.1 0 19 0).1 0 22).toNatClampNeg y4.2) 0 23 (((wI (wI y4.1 0 19 0) 32 ((wI y4.1 0 19 0).1 0 22).toNatClampNeg y4.2).1 0 23) + (((if ((wI (wI y4.1 0 19 0) 32 ((wI y4.1 0 19 0).1 0 22).toNatClampNeg y4.2).1 0 21) = 0 then 1 else 0) : Int32))), T)) _
        refine go_goto (off := 9) (tgt := 106) (by decide +kernel) (by decide) ?_
        obtain ⟨rfl, rfl⟩ := Prod.mk.inj (Option.some.inj h)
        exact go_ireturn (by decide +kernel) rfl rfl ⟨rfl, rfl⟩
    clear h
    by_cases q4 : ((wI (wI y4.1 0 19 0) 32 ((wI y4.1 0 19 0).1 0 22).toNatClampNeg y4.2).1 0 21) = 0
    · refine go_if_ne (off := 7) (tgt := 78) (by decide +kernel) (by decide) (fun z => absurd q4 z) (fun _ => ?_)
      refine go_blk rfl [(.iconst 1, 1, 0, 0, 0, .inl 1)] 74 75 _ _ _ (by decide +kernel) ?_
      show Go _ _ _ _ _ _ 75 [(0, rm 0), (1, vi y4.2)] [vi 1, vi ((wI (wI y4.1 0 19 0) 32 ((wI y4.1 0 19 0).1 0 22).toNatClampNeg y4.2).1 0 23), rm 0] (Y, (wI (wI y4.1 0 19 0) 32 ((wI y4.1 0 19 0).1 0 22).toNatClampNeg y4.2, T)) _
      refine go_goto (off := 4) (tgt := 79) (by decide +kernel) (by decide) ?_
      refine go_pick [0] rfl ?_; exact key _ (by rw [if_pos q4])
    · refine go_if_ne (off := 7) (tgt := 78) (by decide +kernel) (by decide) (fun _ => ?_) (fun z => absurd z q4)
      refine go_blk rfl [(.iconst 0, 1, 0, 0, 0, .inl 0)] 78 79 _ _ _ (by decide +kernel) ?_
      show Go _ _ _ _ _ _ 79 [(0, rm 0), (1, vi y4.2)] [vi 0, vi ((wI (wI y4.1 0 19 0) 32 ((wI y4.1 0 19 0).1 0 22).toNatClampNeg y4.2).1 0 23), rm 0] (Y, (wI (wI y4.1 0 19 0) 32 ((wI y4.1 0 19 0).1 0 22).toNatClampNeg y4.2, T)) _
      refine go_pick [0] rfl ?_; exact key _ (by rw [if_neg q4])
def f11_force (S : jS) (a0 : Int32) : Option (jS × Int32) := Option.bind (f11_in a0.toInt64 ((-1)) (((S.1 0 23) - 1).toInt64)) (fun r1 => (if r1 = 0 then some (S, (-2)) else some (wI S 1 10 a0, S.1 1 10)))
theorem ret11_force {S : jS} {T : jT} {Y : jS × jT} {a0 : Int32} {S1 : jS} {x : Int32} (hT : LayM T) (h : f11_force S a0 = some (S1, x)) : Ret M11_force 2 0 0 [rm 0, vi a0] (Y, (S, T)) (some (vi x)) (Y, (S1, T)) := by
  refine Ret.of (by decide +kernel) (Nat.le_of_ble_eq_true rfl) ?_
  unfold f11_force at h
  show Go _ _ _ _ _ _ 0 [(0, rm 0), (1, vi a0)] [] (Y, (S, T)) _
  refine go_blk rfl [(.iload_n 1, 1, 1, 0, 0, .inl 0), (.i2l, 1, 0, 0, 0, .inl 0), (.ldc2_w 339, 3, 0, 0, 0, .inr (.inl (-1))), (.aload_n 0, 1, 0, 0, 0, .inl 0), (.getfield 333, 3, 11, 23, 0, .inl 0), (.iconst 1, 1, 0, 0, 0, .inl 1), (.isub, 1, 0, 0, 0, .inl 0), (.i2l, 1, 0, 0, 0, .inl 0)] 0 12 _ _ _ (by decide +kernel) ?_
  refine And.intro (lm_t0 hT) ?_
  show Go _ _ _ _ _ _ 12 [(0, rm 0), (1, vi a0)] [vl (((S.1 0 23) - 1).toInt64), vl ((-1)), vl a0.toInt64] (Y, (S, T)) _
  obtain ⟨r1, hr1, h⟩ := bind_el h
  refine go_callS (idx := 140) (z := 0) (M' := M11_in) (n := 3) (A := [vl a0.toInt64, vl ((-1)), vl (((S.1 0 23) - 1).toInt64)]) (v' := some (vi r1)) (μ' := (Y, (S, T))) (d' := 1) (mc' := 0) (ms' := 0) (kc' := 0) (ks' := 0) (by decide +kernel) ml_11_140 rfl ws11_in rfl (ret11_in hr1) (by decide) rfl rfl (Nat.le_of_ble_eq_true rfl) rfl (jag rfl rfl) ?_
  show Go _ _ _ _ _ _ 15 [(0, rm 0), (1, vi a0)] [vi r1] (Y, (S, T)) _
  refine ite_el h (fun q1 h => ?_) (fun q1 h => ?_)
  · refine go_if_ne (off := 6) (tgt := 21) (by decide +kernel) (by decide) (fun z => absurd q1 z) (fun _ => ?_)
    refine go_blk rfl [(.bipush (-2), 2, 0, 0, 0, .inl (-2))] 18 20 _ _ _ (by decide +kernel) ?_
    show Go _ _ _ _ _ _ 20 [(0, rm 0), (1, vi a0)] [vi ((-2))] (Y, (S, T)) _
    obtain ⟨rfl, rfl⟩ := Prod.mk.inj (Option.some.inj h)
    exact go_ireturn (by decide +kernel) rfl rfl ⟨rfl, rfl⟩
  · refine go_if_ne (off := 6) (tgt := 21) (by decide +kernel) (by decide) (fun _ => ?_) (fun z => absurd z q1)
    refine go_blk rfl [(.aload_n 0, 1, 0, 0, 0, .inl 0), (.getfield 9, 3, 11, 1, 1, .inl 0), (.bipush 10, 2, 0, 0, 0, .inl 10), (.iaload, 1, 20, 0, 0, .inl 0), (.istore_n 2, 1, 2, 0, 0, .inl 0), (.aload_n 0, 1, 0, 0, 0, .inl 0), (.getfield 9, 3, 11, 1, 1, .inl 0), (.bipush 10, 2, 0, 0, 0, .inl 10), (.iload_n 1, 1, 1, 0, 0, .inl 0), (.iastore, 1, 20, 0, 0, .inl 0)] 21 37 _ _ _ (by decide +kernel) ?_
    refine And.intro (lm_t0 hT) (Exists.intro _ (And.intro (gRm (lm_r1 hT)) ?_))
    refine And.intro (lm_t1 hT) (Exists.intro _ (And.intro (lm_n1 hT) (And.intro (inb_in (by decide)) ?_)))
    refine And.intro (lm_t0 hT) (Exists.intro _ (And.intro (gRm (lm_r1 hT)) ?_))
    refine And.intro (lm_t1 hT) (Exists.intro _ (And.intro (lm_n1 hT) (And.intro (inb_in (by decide)) ?_)))
    show Go _ _ _ _ _ _ 37 [(2, vi (S.1 1 10)), (0, rm 0), (1, vi a0)] [] (Y, (wI S 1 10 a0, T)) _
    refine go_blk rfl [(.iload_n 2, 1, 2, 0, 0, .inl 0)] 37 38 _ _ _ (by decide +kernel) ?_
    show Go _ _ _ _ _ _ 38 [(2, vi (S.1 1 10)), (0, rm 0), (1, vi a0)] [vi (S.1 1 10)] (Y, (wI S 1 10 a0, T)) _
    obtain ⟨rfl, rfl⟩ := Prod.mk.inj (Option.some.inj h)
    exact go_ireturn (by decide +kernel) rfl rfl ⟨rfl, rfl⟩
def f11_truth (a0 : Int32) : Option Int64 := (if a0 = 0 then some 0 else some 1)
theorem ret11_truth {μ : jMem} {a0 : Int32} {x : Int64} (h : f11_truth a0 = some x) : Ret M11_truth 1 0 0 [vi a0] μ (some (vl x)) μ := by
  refine Ret.of (by decide +kernel) (Nat.le_of_ble_eq_true rfl) ?_
  unfold f11_truth at h
  show Go _ _ _ _ _ _ 0 [(0, vi a0)] [] μ _
  refine go_blk rfl [(.iload_n 0, 1, 0, 0, 0, .inl 0)] 0 1 _ _ _ (by decide +kernel) ?_
  show Go _ _ _ _ _ _ 1 [(0, vi a0)] [vi a0] μ _
  refine ite_el h (fun q1 h => ?_) (fun q1 h => ?_)
  · refine go_if_eq (off := 7) (tgt := 8) (by decide +kernel) (by decide) (fun _ => ?_) (fun z => absurd q1 z)
    refine go_blk rfl [(.lconst 0, 1, 0, 0, 0, .inr (.inl 0))] 8 9 _ _ _ (by decide +kernel) ?_
    show Go _ _ _ _ _ _ 9 [(0, vi a0)] [vl 0] μ _
    obtain rfl := Option.some.inj h
    exact go_lreturn (by decide +kernel) rfl ⟨rfl, rfl⟩
  · refine go_if_eq (off := 7) (tgt := 8) (by decide +kernel) (by decide) (fun z => absurd z q1) (fun _ => ?_)
    refine go_blk rfl [(.lconst 1, 1, 0, 0, 0, .inr (.inl 1))] 4 5 _ _ _ (by decide +kernel) ?_
    show Go _ _ _ _ _ _ 5 [(0, vi a0)] [vl 1] μ _
    refine go_goto (off := 4) (tgt := 9) (by decide +kernel) (by decide) ?_
    obtain rfl := Option.some.inj h
    exact go_lreturn (by decide +kernel) rfl ⟨rfl, rfl⟩
