def f9_spells_L1 (S : jS) (a0 : Nat) : Nat → Int32 → Option Int32
  | 0, _ => none
  | n + 1, l2 => (if (slen a0) ≤ l2 then some 1 else (if (S.1 1 1) ≤ ((S.1 1 3) + l2) then some 1 else (if inb ((S.1 1 3) + l2) 400 then (if inb l2 (jlen.getD a0 0) then (if (S.1 2 ((S.1 1 3) + l2).toNatClampNeg) = (sch a0 l2) then f9_spells_L1 S a0 n (l2 + 1) else some 0) else none) else none)))
def f9_spells (S : jS) (a0 : Nat) : Option Int32 := (if ((S.1 1 2) - (S.1 1 3)) = (slen a0) then f9_spells_L1 S a0 jF 0 else some 0)
theorem f9_spells_L1_ok {T : jT} {Y : jS × jT} {S : jS} {a0 : Nat} {x : Int32} (hT : LayC T) (h0 : a0 < 18) : ∀ (n : Nat) (l2 : Int32), f9_spells_L1 S a0 n l2 = some x → Go M9_spells 5 0 0 0 0 20 [(0, rc 1), (1, rs a0), (2, vi l2)] [] ((S, T), Y) (eqQ (some (vi x)) ((S, T), Y)) := by
  intro n
  induction n with
  | zero => intro l2 h; exact absurd h (by intro z; cases z)
  | succ n ih =>
    intro l2 h
    rw [f9_spells_L1] at h
    refine go_blk rfl [(.iload_n 2, 1, 2, 0, 0, .inl 0), (.aload_n 1, 1, 1, 0, 0, .inl 0)] 20 22 _ _ _ (by decide +kernel) ?_
    show Go _ _ _ _ _ _ 22 [(0, rc 1), (1, rs a0), (2, vi l2)] [rs a0, vi l2] ((S, T), Y) _
    refine go_slen (idx := 62) (by decide +kernel) ml_9_62 rfl h0 (by decide) (Nat.le_of_ble_eq_true rfl) ?_
    show Go _ _ _ _ _ _ 25 [(0, rc 1), (1, rs a0), (2, vi l2)] [vi (slen a0), vi l2] ((S, T), Y) _
    refine ite_el h (fun q2 h => ?_) (fun q2 h => ?_)
    · refine go_icmp_ge (off := 43) (tgt := 68) (by decide +kernel) (by decide) (fun _ => ?_) (fun z => absurd q2 z)
      refine go_blk rfl [(.iconst 1, 1, 0, 0, 0, .inl 1)] 68 69 _ _ _ (by decide +kernel) ?_
      show Go _ _ _ _ _ _ 69 [(0, rc 1), (1, rs a0), (2, vi l2)] [vi 1] ((S, T), Y) _
      obtain rfl := Option.some.inj h
      exact go_ireturn (by decide +kernel) rfl rfl ⟨rfl, rfl⟩
    · refine go_icmp_ge (off := 43) (tgt := 68) (by decide +kernel) (by decide) (fun z => absurd z q2) (fun _ => ?_)
      refine go_blk rfl [(.aload_n 0, 1, 0, 0, 0, .inl 0), (.getfield 22, 3, 9, 3, 0, .inl 0), (.iload_n 2, 1, 2, 0, 0, .inl 0), (.iadd, 1, 0, 0, 0, .inl 0), (.aload_n 0, 1, 0, 0, 0, .inl 0), (.getfield 15, 3, 9, 1, 0, .inl 0)] 28 38 _ _ _ (by decide +kernel) ?_
      refine And.intro (lc_t1 hT) ?_
      refine And.intro (lc_t1 hT) ?_
      show Go _ _ _ _ _ _ 38 [(0, rc 1), (1, rs a0), (2, vi l2)] [vi (S.1 1 1), vi ((S.1 1 3) + l2)] ((S, T), Y) _
      refine ite_el h (fun q3 h => ?_) (fun q3 h => ?_)
      · refine go_icmp_ge (off := 30) (tgt := 68) (by decide +kernel) (by decide) (fun _ => ?_) (fun z => absurd q3 z)
        refine go_blk rfl [(.iconst 1, 1, 0, 0, 0, .inl 1)] 68 69 _ _ _ (by decide +kernel) ?_
        show Go _ _ _ _ _ _ 69 [(0, rc 1), (1, rs a0), (2, vi l2)] [vi 1] ((S, T), Y) _
        obtain rfl := Option.some.inj h
        exact go_ireturn (by decide +kernel) rfl rfl ⟨rfl, rfl⟩
      · refine go_icmp_ge (off := 30) (tgt := 68) (by decide +kernel) (by decide) (fun z => absurd z q3) (fun _ => ?_)
        refine gd_el h (fun q4 h => ?_)
        refine go_blk rfl [(.aload_n 0, 1, 0, 0, 0, .inl 0), (.getfield 9, 3, 9, 0, 1, .inl 0), (.aload_n 0, 1, 0, 0, 0, .inl 0), (.getfield 22, 3, 9, 3, 0, .inl 0), (.iload_n 2, 1, 2, 0, 0, .inl 0), (.iadd, 1, 0, 0, 0, .inl 0), (.iaload, 1, 20, 0, 0, .inl 0), (.aload_n 1, 1, 1, 0, 0, .inl 0), (.iload_n 2, 1, 2, 0, 0, .inl 0)] 41 54 _ _ _ (by decide +kernel) ?_
        refine And.intro (lc_t1 hT) (Exists.intro _ (And.intro (gRc (lc_r9_0 hT)) ?_))
        refine And.intro (lc_t1 hT) ?_
        refine And.intro (lc_t2 hT) (Exists.intro _ (And.intro (lc_n2 hT) (And.intro (inb_in q4) ?_)))
        show Go _ _ _ _ _ _ 54 [(0, rc 1), (1, rs a0), (2, vi l2)] [vi l2, rs a0, vi (S.1 2 ((S.1 1 3) + l2).toNatClampNeg)] ((S, T), Y) _
        refine gd_el h (fun q5 h => ?_)
        refine go_sch (idx := 68) (by decide +kernel) ml_9_68 rfl h0 (inb_in q5) (by decide) (Nat.le_of_ble_eq_true rfl) ?_
        show Go _ _ _ _ _ _ 57 [(0, rc 1), (1, rs a0), (2, vi l2)] [vi (sch a0 l2), vi (S.1 2 ((S.1 1 3) + l2).toNatClampNeg)] ((S, T), Y) _
        refine ite_el h (fun q6 h => ?_) (fun q6 h => ?_)
        · refine go_icmp_eq (off := 5) (tgt := 62) (by decide +kernel) (by decide) (fun _ => ?_) (fun z => absurd q6 z)
          refine go_blk rfl [(.iinc 2 1, 3, 2, 0, 0, .inl 1)] 62 65 _ _ _ (by decide +kernel) ?_
          show Go _ _ _ _ _ _ 65 [(2, vi (l2 + 1)), (0, rc 1), (1, rs a0)] [] ((S, T), Y) _
          refine go_goto (off := (-45)) (tgt := 20) (by decide +kernel) (by decide) ?_
          refine go_pick [1, 2, 0] rfl ?_
          exact ih _ h
        · refine go_icmp_eq (off := 5) (tgt := 62) (by decide +kernel) (by decide) (fun z => absurd z q6) (fun _ => ?_)
          refine go_blk rfl [(.iconst 0, 1, 0, 0, 0, .inl 0)] 60 61 _ _ _ (by decide +kernel) ?_
          show Go _ _ _ _ _ _ 61 [(0, rc 1), (1, rs a0), (2, vi l2)] [vi 0] ((S, T), Y) _
          obtain rfl := Option.some.inj h
          exact go_ireturn (by decide +kernel) rfl rfl ⟨rfl, rfl⟩
theorem ret9_spells {S : jS} {T : jT} {Y : jS × jT} {a0 : Nat} {x : Int32} (hT : LayC T) (h0 : a0 < 18) (h : f9_spells S a0 = some x) : Ret M9_spells 5 0 0 [rc 1, rs a0] ((S, T), Y) (some (vi x)) ((S, T), Y) := by
  refine Ret.of (by decide +kernel) (Nat.le_of_ble_eq_true rfl) ?_
  unfold f9_spells at h
  show Go _ _ _ _ _ _ 0 [(0, rc 1), (1, rs a0)] [] ((S, T), Y) _
  refine go_blk rfl [(.aload_n 0, 1, 0, 0, 0, .inl 0), (.getfield 19, 3, 9, 2, 0, .inl 0), (.aload_n 0, 1, 0, 0, 0, .inl 0), (.getfield 22, 3, 9, 3, 0, .inl 0), (.isub, 1, 0, 0, 0, .inl 0), (.aload_n 1, 1, 1, 0, 0, .inl 0)] 0 10 _ _ _ (by decide +kernel) ?_
  refine And.intro (lc_t1 hT) ?_
  refine And.intro (lc_t1 hT) ?_
  show Go _ _ _ _ _ _ 10 [(0, rc 1), (1, rs a0)] [rs a0, vi ((S.1 1 2) - (S.1 1 3))] ((S, T), Y) _
  refine go_slen (idx := 62) (by decide +kernel) ml_9_62 rfl h0 (by decide) (Nat.le_of_ble_eq_true rfl) ?_
  show Go _ _ _ _ _ _ 13 [(0, rc 1), (1, rs a0)] [vi (slen a0), vi ((S.1 1 2) - (S.1 1 3))] ((S, T), Y) _
  refine ite_el h (fun q1 h => ?_) (fun q1 h => ?_)
  · refine go_icmp_eq (off := 5) (tgt := 18) (by decide +kernel) (by decide) (fun _ => ?_) (fun z => absurd q1 z)
    refine go_blk rfl [(.iconst 0, 1, 0, 0, 0, .inl 0), (.istore_n 2, 1, 2, 0, 0, .inl 0)] 18 20 _ _ _ (by decide +kernel) ?_
    show Go _ _ _ _ _ _ 20 [(2, vi 0), (0, rc 1), (1, rs a0)] [] ((S, T), Y) _
    refine go_pick [1, 2, 0] rfl ?_
    exact f9_spells_L1_ok hT h0 _ _ h
  · refine go_icmp_eq (off := 5) (tgt := 18) (by decide +kernel) (by decide) (fun z => absurd z q1) (fun _ => ?_)
    refine go_blk rfl [(.iconst 0, 1, 0, 0, 0, .inl 0)] 16 17 _ _ _ (by decide +kernel) ?_
    show Go _ _ _ _ _ _ 17 [(0, rc 1), (1, rs a0)] [vi 0] ((S, T), Y) _
    obtain rfl := Option.some.inj h
    exact go_ireturn (by decide +kernel) rfl rfl ⟨rfl, rfl⟩
def f9_signOf (a0 : Int32) : Option Int32 := (if a0 = 10 then some ((-24)) else (if a0 = 11 then some ((-25)) else (if a0 = 12 then some ((-22)) else (if a0 = 13 then some ((-21)) else (if a0 = 14 then some ((-23)) else (if a0 = 15 then some 5 else (if a0 = 16 then some 6 else (if a0 = 17 then some 7 else some (((-1)) - a0)))))))))
theorem ret9_signOf {μ : jMem} {a0 : Int32} {x : Int32} (h : f9_signOf a0 = some x) : Ret M9_signOf 1 0 0 [vi a0] μ (some (vi x)) μ := by
  refine Ret.of (by decide +kernel) (Nat.le_of_ble_eq_true rfl) ?_
  unfold f9_signOf at h
  show Go _ _ _ _ _ _ 0 [(0, vi a0)] [] μ _
  refine go_blk rfl [(.iload_n 0, 1, 0, 0, 0, .inl 0)] 0 1 _ _ _ (by decide +kernel) ?_
  show Go _ _ _ _ _ _ 1 [(0, vi a0)] [vi a0] μ _
  refine ite_el h (fun q1 h => ?_) (fun q1 h => ?_)
  · refine go_tableIn (dflt := 70) (lo := 10) (hi := 17) (offs := #[47, 50, 53, 56, 59, 62, 64, 67]) (len := 47) (off := 47) (tgt := 48) (by decide +kernel) (by rw [q1]; decide) (by rw [q1]; decide) (by rw [q1]; decide) (by decide) ?_
    refine go_blk rfl [(.bipush (-24), 2, 0, 0, 0, .inl (-24))] 48 50 _ _ _ (by decide +kernel) ?_
    show Go _ _ _ _ _ _ 50 [(0, vi a0)] [vi ((-24))] μ _
    obtain rfl := Option.some.inj h
    exact go_ireturn (by decide +kernel) rfl rfl ⟨rfl, rfl⟩
  refine ite_el h (fun q2 h => ?_) (fun q2 h => ?_)
  · refine go_tableIn (dflt := 70) (lo := 10) (hi := 17) (offs := #[47, 50, 53, 56, 59, 62, 64, 67]) (len := 47) (off := 50) (tgt := 51) (by decide +kernel) (by rw [q2]; decide) (by rw [q2]; decide) (by rw [q2]; decide) (by decide) ?_
    refine go_blk rfl [(.bipush (-25), 2, 0, 0, 0, .inl (-25))] 51 53 _ _ _ (by decide +kernel) ?_
    show Go _ _ _ _ _ _ 53 [(0, vi a0)] [vi ((-25))] μ _
    obtain rfl := Option.some.inj h
    exact go_ireturn (by decide +kernel) rfl rfl ⟨rfl, rfl⟩
  refine ite_el h (fun q3 h => ?_) (fun q3 h => ?_)
  · refine go_tableIn (dflt := 70) (lo := 10) (hi := 17) (offs := #[47, 50, 53, 56, 59, 62, 64, 67]) (len := 47) (off := 53) (tgt := 54) (by decide +kernel) (by rw [q3]; decide) (by rw [q3]; decide) (by rw [q3]; decide) (by decide) ?_
    refine go_blk rfl [(.bipush (-22), 2, 0, 0, 0, .inl (-22))] 54 56 _ _ _ (by decide +kernel) ?_
    show Go _ _ _ _ _ _ 56 [(0, vi a0)] [vi ((-22))] μ _
    obtain rfl := Option.some.inj h
    exact go_ireturn (by decide +kernel) rfl rfl ⟨rfl, rfl⟩
  refine ite_el h (fun q4 h => ?_) (fun q4 h => ?_)
  · refine go_tableIn (dflt := 70) (lo := 10) (hi := 17) (offs := #[47, 50, 53, 56, 59, 62, 64, 67]) (len := 47) (off := 56) (tgt := 57) (by decide +kernel) (by rw [q4]; decide) (by rw [q4]; decide) (by rw [q4]; decide) (by decide) ?_
    refine go_blk rfl [(.bipush (-21), 2, 0, 0, 0, .inl (-21))] 57 59 _ _ _ (by decide +kernel) ?_
    show Go _ _ _ _ _ _ 59 [(0, vi a0)] [vi ((-21))] μ _
    obtain rfl := Option.some.inj h
    exact go_ireturn (by decide +kernel) rfl rfl ⟨rfl, rfl⟩
  refine ite_el h (fun q5 h => ?_) (fun q5 h => ?_)
  · refine go_tableIn (dflt := 70) (lo := 10) (hi := 17) (offs := #[47, 50, 53, 56, 59, 62, 64, 67]) (len := 47) (off := 59) (tgt := 60) (by decide +kernel) (by rw [q5]; decide) (by rw [q5]; decide) (by rw [q5]; decide) (by decide) ?_
    refine go_blk rfl [(.bipush (-23), 2, 0, 0, 0, .inl (-23))] 60 62 _ _ _ (by decide +kernel) ?_
    show Go _ _ _ _ _ _ 62 [(0, vi a0)] [vi ((-23))] μ _
    obtain rfl := Option.some.inj h
    exact go_ireturn (by decide +kernel) rfl rfl ⟨rfl, rfl⟩
  refine ite_el h (fun q6 h => ?_) (fun q6 h => ?_)
  · refine go_tableIn (dflt := 70) (lo := 10) (hi := 17) (offs := #[47, 50, 53, 56, 59, 62, 64, 67]) (len := 47) (off := 62) (tgt := 63) (by decide +kernel) (by rw [q6]; decide) (by rw [q6]; decide) (by rw [q6]; decide) (by decide) ?_
    refine go_blk rfl [(.iconst 5, 1, 0, 0, 0, .inl 5)] 63 64 _ _ _ (by decide +kernel) ?_
    show Go _ _ _ _ _ _ 64 [(0, vi a0)] [vi 5] μ _
    obtain rfl := Option.some.inj h
    exact go_ireturn (by decide +kernel) rfl rfl ⟨rfl, rfl⟩
  refine ite_el h (fun q7 h => ?_) (fun q7 h => ?_)
  · refine go_tableIn (dflt := 70) (lo := 10) (hi := 17) (offs := #[47, 50, 53, 56, 59, 62, 64, 67]) (len := 47) (off := 64) (tgt := 65) (by decide +kernel) (by rw [q7]; decide) (by rw [q7]; decide) (by rw [q7]; decide) (by decide) ?_
    refine go_blk rfl [(.bipush 6, 2, 0, 0, 0, .inl 6)] 65 67 _ _ _ (by decide +kernel) ?_
    show Go _ _ _ _ _ _ 67 [(0, vi a0)] [vi 6] μ _
    obtain rfl := Option.some.inj h
    exact go_ireturn (by decide +kernel) rfl rfl ⟨rfl, rfl⟩
  refine ite_el h (fun q8 h => ?_) (fun q8 h => ?_)
  · refine go_tableIn (dflt := 70) (lo := 10) (hi := 17) (offs := #[47, 50, 53, 56, 59, 62, 64, 67]) (len := 47) (off := 67) (tgt := 68) (by decide +kernel) (by rw [q8]; decide) (by rw [q8]; decide) (by rw [q8]; decide) (by decide) ?_
    refine go_blk rfl [(.bipush 7, 2, 0, 0, 0, .inl 7)] 68 70 _ _ _ (by decide +kernel) ?_
    show Go _ _ _ _ _ _ 70 [(0, vi a0)] [vi 7] μ _
    obtain rfl := Option.some.inj h
    exact go_ireturn (by decide +kernel) rfl rfl ⟨rfl, rfl⟩
  refine go_tableOut (dflt := 70) (lo := 10) (hi := 17) (offs := #[47, 50, 53, 56, 59, 62, 64, 67]) (len := 47) (tgt := 71) (by decide +kernel) (by have z0 : a0.toInt ≠ 10 := tb_ne q1 (by decide); have z1 : a0.toInt ≠ 11 := tb_ne q2 (by decide); have z2 : a0.toInt ≠ 12 := tb_ne q3 (by decide); have z3 : a0.toInt ≠ 13 := tb_ne q4 (by decide); have z4 : a0.toInt ≠ 14 := tb_ne q5 (by decide); have z5 : a0.toInt ≠ 15 := tb_ne q6 (by decide); have z6 : a0.toInt ≠ 16 := tb_ne q7 (by decide); have z7 : a0.toInt ≠ 17 := tb_ne q8 (by decide); omega) (by decide) ?_
  refine go_blk rfl [(.iconst (-1), 1, 0, 0, 0, .inl (-1)), (.iload_n 0, 1, 0, 0, 0, .inl 0), (.isub, 1, 0, 0, 0, .inl 0)] 71 74 _ _ _ (by decide +kernel) ?_
  show Go _ _ _ _ _ _ 74 [(0, vi a0)] [vi (((-1)) - a0)] μ _
  obtain rfl := Option.some.inj h
  exact go_ireturn (by decide +kernel) rfl rfl ⟨rfl, rfl⟩
def f9_readWord_L1  : Nat → jS → Option jS
  | 0, _ => none
  | n + 1, S => (if (S.1 1 1) ≤ (S.1 1 2) then some S else (if inb (S.1 1 2) 400 then Option.bind (f9_isLetter (S.1 2 (S.1 1 2).toNatClampNeg)) (fun r2 => (if r2 = 0 then some S else f9_readWord_L1 n (wI S 1 2 ((S.1 1 2) + 1)))) else none))
def f9_readWord_L2  : Nat → jS → Int32 → Option jS
  | 0, _, _ => none
  | n + 1, S, l1 => (if 18 ≤ l1 then some S else (if (S.1 1 4) = 2 then Option.bind (f9_wordOf l1) (fun r5 => Option.bind (f9_spells S r5) (fun r6 => Option.bind (if r6 = 0 then some S else Option.bind (f9_signOf l1) (fun r7 => some (wI S 1 4 r7))) (fun (y8 : jS) => f9_readWord_L2 n y8 (l1 + 1)))) else some S))
def f9_readWord (S : jS) : Option (jS × Unit) := Option.bind (if (S.1 1 1) ≤ (S.1 1 2) then some S else (if inb (S.1 1 2) 400 then Option.bind (f9_isLetter (S.1 2 (S.1 1 2).toNatClampNeg)) (fun r1 => (if r1 = 0 then some S else Option.bind (f9_readWord_L1 jF (wI S 1 2 ((S.1 1 2) + 1))) (fun y3 => some y3))) else none)) (fun (y4 : jS) => Option.bind (f9_readWord_L2 jF (wI y4 1 4 2) 0) (fun y9 => some (y9, ())))
theorem f9_readWord_L1_ok {T : jT} {Y : jS × jT} {Q : Option jV → jMem → Prop} (hT : LayC T) : ∀ (n : Nat) (S : jS) (r : jS), f9_readWord_L1 n S = some r → Go M9_readWord 6 0 0 0 0 39 [(0, rc 1)] [] ((r, T), Y) Q → Go M9_readWord 6 0 0 0 0 0 [(0, rc 1)] [] ((S, T), Y) Q := by
  intro n
  induction n with
  | zero => intro S r h k; exact absurd h (by intro z; cases z)
  | succ n ih =>
    intro S r h k
    rw [f9_readWord_L1] at h
    refine go_blk rfl [(.aload_n 0, 1, 0, 0, 0, .inl 0), (.getfield 19, 3, 9, 2, 0, .inl 0), (.aload_n 0, 1, 0, 0, 0, .inl 0), (.getfield 15, 3, 9, 1, 0, .inl 0)] 0 8 _ _ _ (by decide +kernel) ?_
    refine And.intro (lc_t1 hT) ?_
    refine And.intro (lc_t1 hT) ?_
    show Go _ _ _ _ _ _ 8 [(0, rc 1)] [vi (S.1 1 1), vi (S.1 1 2)] ((S, T), Y) _
    refine ite_el h (fun q4 h => ?_) (fun q4 h => ?_)
    · refine go_icmp_ge (off := 31) (tgt := 39) (by decide +kernel) (by decide) (fun _ => ?_) (fun z => absurd q4 z)
      obtain rfl := Option.some.inj h
      refine go_pick [0] rfl ?_
      exact k
    · refine go_icmp_ge (off := 31) (tgt := 39) (by decide +kernel) (by decide) (fun z => absurd z q4) (fun _ => ?_)
      refine gd_el h (fun q5 h => ?_)
      refine go_blk rfl [(.aload_n 0, 1, 0, 0, 0, .inl 0), (.getfield 9, 3, 9, 0, 1, .inl 0), (.aload_n 0, 1, 0, 0, 0, .inl 0), (.getfield 19, 3, 9, 2, 0, .inl 0), (.iaload, 1, 20, 0, 0, .inl 0)] 11 20 _ _ _ (by decide +kernel) ?_
      refine And.intro (lc_t1 hT) (Exists.intro _ (And.intro (gRc (lc_r9_0 hT)) ?_))
      refine And.intro (lc_t1 hT) ?_
      refine And.intro (lc_t2 hT) (Exists.intro _ (And.intro (lc_n2 hT) (And.intro (inb_in q5) ?_)))
      show Go _ _ _ _ _ _ 20 [(0, rc 1)] [vi (S.1 2 (S.1 1 2).toNatClampNeg)] ((S, T), Y) _
      obtain ⟨r2, hr2, h⟩ := bind_el h
      refine go_callS (idx := 34) (z := 0) (M' := M9_isLetter) (n := 1) (A := [vi (S.1 2 (S.1 1 2).toNatClampNeg)]) (v' := some (vi r2)) (μ' := ((S, T), Y)) (d' := 1) (mc' := 0) (ms' := 0) (kc' := 0) (ks' := 0) (by decide +kernel) ml_9_34 rfl ws9_isLetter rfl (ret9_isLetter hr2) (by decide) rfl rfl (Nat.le_of_ble_eq_true rfl) rfl (jag rfl rfl) ?_
      show Go _ _ _ _ _ _ 23 [(0, rc 1)] [vi r2] ((S, T), Y) _
      refine ite_el h (fun q6 h => ?_) (fun q6 h => ?_)
      · refine go_if_eq (off := 16) (tgt := 39) (by decide +kernel) (by decide) (fun _ => ?_) (fun z => absurd q6 z)
        obtain rfl := Option.some.inj h
        refine go_pick [0] rfl ?_
        exact k
      · refine go_if_eq (off := 16) (tgt := 39) (by decide +kernel) (by decide) (fun z => absurd z q6) (fun _ => ?_)
        refine go_blk rfl [(.aload_n 0, 1, 0, 0, 0, .inl 0), (.dup, 1, 0, 0, 0, .inl 0), (.getfield 19, 3, 9, 2, 0, .inl 0), (.iconst 1, 1, 0, 0, 0, .inl 1), (.iadd, 1, 0, 0, 0, .inl 0), (.putfield 19, 3, 9, 2, 0, .inl 0)] 26 36 _ _ _ (by decide +kernel) ?_
        refine And.intro (lc_t1 hT) ?_
        refine And.intro (lc_t1 hT) (And.intro trivial ?_)
        show Go _ _ _ _ _ _ 36 [(0, rc 1)] [] ((wI S 1 2 ((S.1 1 2) + 1), T), Y) _
        refine go_goto (off := (-36)) (tgt := 0) (by decide +kernel) (by decide) ?_
        refine go_pick [0] rfl ?_
        exact ih _ _ h k
theorem f9_readWord_L2_ok {T : jT} {Y : jS × jT} {Q : Option jV → jMem → Prop} (hT : LayC T) : ∀ (n : Nat) (S : jS) (l1 : Int32) (r : jS), f9_readWord_L2 n S l1 = some r → Go M9_readWord 6 0 0 0 0 85 [] [] ((r, T), Y) Q → Go M9_readWord 6 0 0 0 0 46 [(0, rc 1), (1, vi l1)] [] ((S, T), Y) Q := by
  intro n
  induction n with
  | zero => intro S l1 r h k; exact absurd h (by intro z; cases z)
  | succ n ih =>
    intro S l1 r h k
    rw [f9_readWord_L2] at h
    refine go_blk rfl [(.iload_n 1, 1, 1, 0, 0, .inl 0), (.bipush 18, 2, 0, 0, 0, .inl 18)] 46 49 _ _ _ (by decide +kernel) ?_
    show Go _ _ _ _ _ _ 49 [(0, rc 1), (1, vi l1)] [vi 18, vi l1] ((S, T), Y) _
    refine ite_el h (fun q7 h => ?_) (fun q7 h => ?_)
    · refine go_icmp_ge (off := 36) (tgt := 85) (by decide +kernel) (by decide) (fun _ => ?_) (fun z => absurd q7 z)
      obtain rfl := Option.some.inj h
      refine go_pick [] rfl ?_
      exact k
    · refine go_icmp_ge (off := 36) (tgt := 85) (by decide +kernel) (by decide) (fun z => absurd z q7) (fun _ => ?_)
      refine go_blk rfl [(.aload_n 0, 1, 0, 0, 0, .inl 0), (.getfield 25, 3, 9, 4, 0, .inl 0), (.iconst 2, 1, 0, 0, 0, .inl 2)] 52 57 _ _ _ (by decide +kernel) ?_
      refine And.intro (lc_t1 hT) ?_
      show Go _ _ _ _ _ _ 57 [(0, rc 1), (1, vi l1)] [vi 2, vi (S.1 1 4)] ((S, T), Y) _
      refine ite_el h (fun q8 h => ?_) (fun q8 h => ?_)
      · refine go_icmp_ne (off := 28) (tgt := 85) (by decide +kernel) (by decide) (fun z => absurd q8 z) (fun _ => ?_)
        refine go_blk rfl [(.aload_n 0, 1, 0, 0, 0, .inl 0), (.iload_n 1, 1, 1, 0, 0, .inl 0)] 60 62 _ _ _ (by decide +kernel) ?_
        show Go _ _ _ _ _ _ 62 [(0, rc 1), (1, vi l1)] [vi l1, rc 1] ((S, T), Y) _
        obtain ⟨r5, hr5, h⟩ := bind_el h
        refine go_callS (idx := 50) (z := 0) (M' := M9_wordOf) (n := 1) (A := [vi l1]) (v' := some (rs r5)) (μ' := ((S, T), Y)) (d' := 1) (mc' := 0) (ms' := 0) (kc' := 0) (ks' := 0) (by decide +kernel) ml_9_50 rfl ws9_wordOf rfl (ret9_wordOf hr5) (by decide) rfl rfl (Nat.le_of_ble_eq_true rfl) rfl (jag rfl rfl) ?_
        show Go _ _ _ _ _ _ 65 [(0, rc 1), (1, vi l1)] [rs r5, rc 1] ((S, T), Y) _
        obtain ⟨r6, hr6, h⟩ := bind_el h
        refine go_callV (idx := 54) (z := 0) (M' := M9_spells) (n := 1) (A := [rs r5]) (v' := some (vi r6)) (μ' := ((S, T), Y)) (d' := 5) (mc' := 0) (ms' := 0) (kc' := 0) (ks' := 0) (ci := 9) (x := .inl 1) (by decide +kernel) ml_9_54 rfl wv9_spells rfl (by decide) rfl (lc_t1 hT) (ret9_spells hT (f9_wordOf_lt hr5) hr6) (by decide) rfl rfl (Nat.le_of_ble_eq_true rfl) rfl (jag rfl rfl) ?_
        show Go _ _ _ _ _ _ 68 [(0, rc 1), (1, vi l1)] [vi r6] ((S, T), Y) _
        obtain ⟨y8, hy8, h⟩ := bind_el h
        have key : Go M9_readWord 6 0 0 0 0 79 [(0, rc 1), (1, vi l1)] [] ((y8, T), Y) Q := by
          refine go_blk rfl [(.iinc 1 1, 3, 1, 0, 0, .inl 1)] 79 82 _ _ _ (by decide +kernel) ?_
          show Go _ _ _ _ _ _ 82 [(1, vi (l1 + 1)), (0, rc 1)] [] ((y8, T), Y) _
          refine go_goto (off := (-36)) (tgt := 46) (by decide +kernel) (by decide) ?_
          refine go_pick [1, 0] rfl ?_
          exact ih _ _ _ h k
        replace h := hy8
        refine ite_el h (fun q9 h => ?_) (fun q9 h => ?_)
        · refine go_if_eq (off := 11) (tgt := 79) (by decide +kernel) (by decide) (fun _ => ?_) (fun z => absurd q9 z)
          obtain rfl := Option.some.inj h
          refine go_pick [0, 1] rfl ?_
          exact key
        · refine go_if_eq (off := 11) (tgt := 79) (by decide +kernel) (by decide) (fun z => absurd z q9) (fun _ => ?_)
          refine go_blk rfl [(.aload_n 0, 1, 0, 0, 0, .inl 0), (.iload_n 1, 1, 1, 0, 0, .inl 0)] 71 73 _ _ _ (by decide +kernel) ?_
          show Go _ _ _ _ _ _ 73 [(0, rc 1), (1, vi l1)] [vi l1, rc 1] ((S, T), Y) _
          obtain ⟨r7, hr7, h⟩ := bind_el h
          refine go_callS (idx := 58) (z := 0) (M' := M9_signOf) (n := 1) (A := [vi l1]) (v' := some (vi r7)) (μ' := ((S, T), Y)) (d' := 1) (mc' := 0) (ms' := 0) (kc' := 0) (ks' := 0) (by decide +kernel) ml_9_58 rfl ws9_signOf rfl (ret9_signOf hr7) (by decide) rfl rfl (Nat.le_of_ble_eq_true rfl) rfl (jag rfl rfl) ?_
          show Go _ _ _ _ _ _ 76 [(0, rc 1), (1, vi l1)] [vi r7, rc 1] ((S, T), Y) _
          refine go_blk rfl [(.putfield 25, 3, 9, 4, 0, .inl 0)] 76 79 _ _ _ (by decide +kernel) ?_
          refine And.intro (lc_t1 hT) (And.intro trivial ?_)
          show Go _ _ _ _ _ _ 79 [(0, rc 1), (1, vi l1)] [] ((wI S 1 4 r7, T), Y) _
          obtain rfl := Option.some.inj h
          refine go_pick [0, 1] rfl ?_
          exact key
      · refine go_icmp_ne (off := 28) (tgt := 85) (by decide +kernel) (by decide) (fun _ => ?_) (fun z => absurd z q8)
        obtain rfl := Option.some.inj h
        refine go_pick [] rfl ?_
        exact k
theorem ret9_readWord {S : jS} {T : jT} {Y : jS × jT} {S1 : jS} {x : Unit} (hT : LayC T) (h : f9_readWord S = some (S1, x)) : Ret M9_readWord 6 0 0 [rc 1] ((S, T), Y) (none) ((S1, T), Y) := by
  refine Ret.of (by decide +kernel) (Nat.le_of_ble_eq_true rfl) ?_
  unfold f9_readWord at h
  show Go _ _ _ _ _ _ 0 [(0, rc 1)] [] ((S, T), Y) _
  refine go_blk rfl [(.aload_n 0, 1, 0, 0, 0, .inl 0), (.getfield 19, 3, 9, 2, 0, .inl 0), (.aload_n 0, 1, 0, 0, 0, .inl 0), (.getfield 15, 3, 9, 1, 0, .inl 0)] 0 8 _ _ _ (by decide +kernel) ?_
  refine And.intro (lc_t1 hT) ?_
  refine And.intro (lc_t1 hT) ?_
  show Go _ _ _ _ _ _ 8 [(0, rc 1)] [vi (S.1 1 1), vi (S.1 1 2)] ((S, T), Y) _
  obtain ⟨y4, hy4, h⟩ := bind_el h
  have key : Go M9_readWord 6 0 0 0 0 39 [(0, rc 1)] [] ((y4, T), Y) (eqQ none ((S1, T), Y)) := by
    refine go_blk rfl [(.aload_n 0, 1, 0, 0, 0, .inl 0), (.iconst 2, 1, 0, 0, 0, .inl 2), (.putfield 25, 3, 9, 4, 0, .inl 0)] 39 44 _ _ _ (by decide +kernel) ?_
    refine And.intro (lc_t1 hT) (And.intro trivial ?_)
    show Go _ _ _ _ _ _ 44 [(0, rc 1)] [] ((wI y4 1 4 2, T), Y) _
    refine go_blk rfl [(.iconst 0, 1, 0, 0, 0, .inl 0), (.istore_n 1, 1, 1, 0, 0, .inl 0)] 44 46 _ _ _ (by decide +kernel) ?_
    show Go _ _ _ _ _ _ 46 [(1, vi 0), (0, rc 1)] [] ((wI y4 1 4 2, T), Y) _
    refine go_pick [1, 0] rfl ?_
    obtain ⟨y9, hy9, h⟩ := bind_el h
    refine f9_readWord_L2_ok hT _ _ _ _ hy9 ?_
    show Go _ _ _ _ _ _ 85 [] [] ((y9, T), Y) _
    obtain ⟨rfl, rfl⟩ := Prod.mk.inj (Option.some.inj h)
    exact go_return (by decide +kernel) rfl ⟨rfl, rfl⟩
  replace h := hy4
  refine ite_el h (fun q1 h => ?_) (fun q1 h => ?_)
  · refine go_icmp_ge (off := 31) (tgt := 39) (by decide +kernel) (by decide) (fun _ => ?_) (fun z => absurd q1 z)
    obtain rfl := Option.some.inj h
    refine go_pick [0] rfl ?_
    exact key
  · refine go_icmp_ge (off := 31) (tgt := 39) (by decide +kernel) (by decide) (fun z => absurd z q1) (fun _ => ?_)
    refine gd_el h (fun q2 h => ?_)
    refine go_blk rfl [(.aload_n 0, 1, 0, 0, 0, .inl 0), (.getfield 9, 3, 9, 0, 1, .inl 0), (.aload_n 0, 1, 0, 0, 0, .inl 0), (.getfield 19, 3, 9, 2, 0, .inl 0), (.iaload, 1, 20, 0, 0, .inl 0)] 11 20 _ _ _ (by decide +kernel) ?_
    refine And.intro (lc_t1 hT) (Exists.intro _ (And.intro (gRc (lc_r9_0 hT)) ?_))
    refine And.intro (lc_t1 hT) ?_
    refine And.intro (lc_t2 hT) (Exists.intro _ (And.intro (lc_n2 hT) (And.intro (inb_in q2) ?_)))
    show Go _ _ _ _ _ _ 20 [(0, rc 1)] [vi (S.1 2 (S.1 1 2).toNatClampNeg)] ((S, T), Y) _
    obtain ⟨r1, hr1, h⟩ := bind_el h
    refine go_callS (idx := 34) (z := 0) (M' := M9_isLetter) (n := 1) (A := [vi (S.1 2 (S.1 1 2).toNatClampNeg)]) (v' := some (vi r1)) (μ' := ((S, T), Y)) (d' := 1) (mc' := 0) (ms' := 0) (kc' := 0) (ks' := 0) (by decide +kernel) ml_9_34 rfl ws9_isLetter rfl (ret9_isLetter hr1) (by decide) rfl rfl (Nat.le_of_ble_eq_true rfl) rfl (jag rfl rfl) ?_
    show Go _ _ _ _ _ _ 23 [(0, rc 1)] [vi r1] ((S, T), Y) _
    refine ite_el h (fun q3 h => ?_) (fun q3 h => ?_)
    · refine go_if_eq (off := 16) (tgt := 39) (by decide +kernel) (by decide) (fun _ => ?_) (fun z => absurd q3 z)
      obtain rfl := Option.some.inj h
      refine go_pick [0] rfl ?_
      exact key
    · refine go_if_eq (off := 16) (tgt := 39) (by decide +kernel) (by decide) (fun z => absurd z q3) (fun _ => ?_)
      refine go_blk rfl [(.aload_n 0, 1, 0, 0, 0, .inl 0), (.dup, 1, 0, 0, 0, .inl 0), (.getfield 19, 3, 9, 2, 0, .inl 0), (.iconst 1, 1, 0, 0, 0, .inl 1), (.iadd, 1, 0, 0, 0, .inl 0), (.putfield 19, 3, 9, 2, 0, .inl 0)] 26 36 _ _ _ (by decide +kernel) ?_
      refine And.intro (lc_t1 hT) ?_
      refine And.intro (lc_t1 hT) (And.intro trivial ?_)
      show Go _ _ _ _ _ _ 36 [(0, rc 1)] [] ((wI S 1 2 ((S.1 1 2) + 1), T), Y) _
      refine go_goto (off := (-36)) (tgt := 0) (by decide +kernel) (by decide) ?_
      refine go_pick [0] rfl ?_
      obtain ⟨y3, hy3, h⟩ := bind_el h
      refine f9_readWord_L1_ok hT _ _ _ hy3 ?_
      show Go _ _ _ _ _ _ 39 [(0, rc 1)] [] ((y3, T), Y) _
      obtain rfl := Option.some.inj h
      refine go_pick [0] rfl ?_
      exact key
def f9_isDigit (a0 : Int32) : Option Int32 := (if a0 < 48 then some 0 else (if 57 < a0 then some 0 else some 1))
theorem ret9_isDigit {μ : jMem} {a0 : Int32} {x : Int32} (h : f9_isDigit a0 = some x) : Ret M9_isDigit 1 0 0 [vi a0] μ (some (vi x)) μ := by
  refine Ret.of (by decide +kernel) (Nat.le_of_ble_eq_true rfl) ?_
  unfold f9_isDigit at h
  show Go _ _ _ _ _ _ 0 [(0, vi a0)] [] μ _
  refine go_blk rfl [(.iload_n 0, 1, 0, 0, 0, .inl 0), (.bipush 48, 2, 0, 0, 0, .inl 48)] 0 3 _ _ _ (by decide +kernel) ?_
  show Go _ _ _ _ _ _ 3 [(0, vi a0)] [vi 48, vi a0] μ _
  refine ite_el h (fun q1 h => ?_) (fun q1 h => ?_)
  · refine go_icmp_lt (off := 13) (tgt := 16) (by decide +kernel) (by decide) (fun _ => ?_) (fun z => absurd q1 z)
    refine go_blk rfl [(.iconst 0, 1, 0, 0, 0, .inl 0)] 16 17 _ _ _ (by decide +kernel) ?_
    show Go _ _ _ _ _ _ 17 [(0, vi a0)] [vi 0] μ _
    obtain rfl := Option.some.inj h
    exact go_ireturn (by decide +kernel) rfl rfl ⟨rfl, rfl⟩
  · refine go_icmp_lt (off := 13) (tgt := 16) (by decide +kernel) (by decide) (fun z => absurd z q1) (fun _ => ?_)
    refine go_blk rfl [(.iload_n 0, 1, 0, 0, 0, .inl 0), (.bipush 57, 2, 0, 0, 0, .inl 57)] 6 9 _ _ _ (by decide +kernel) ?_
    show Go _ _ _ _ _ _ 9 [(0, vi a0)] [vi 57, vi a0] μ _
    refine ite_el h (fun q2 h => ?_) (fun q2 h => ?_)
    · refine go_icmp_gt (off := 7) (tgt := 16) (by decide +kernel) (by decide) (fun _ => ?_) (fun z => absurd q2 z)
      refine go_blk rfl [(.iconst 0, 1, 0, 0, 0, .inl 0)] 16 17 _ _ _ (by decide +kernel) ?_
      show Go _ _ _ _ _ _ 17 [(0, vi a0)] [vi 0] μ _
      obtain rfl := Option.some.inj h
      exact go_ireturn (by decide +kernel) rfl rfl ⟨rfl, rfl⟩
    · refine go_icmp_gt (off := 7) (tgt := 16) (by decide +kernel) (by decide) (fun z => absurd z q2) (fun _ => ?_)
      refine go_blk rfl [(.iconst 1, 1, 0, 0, 0, .inl 1)] 12 13 _ _ _ (by decide +kernel) ?_
      show Go _ _ _ _ _ _ 13 [(0, vi a0)] [vi 1] μ _
      refine go_goto (off := 4) (tgt := 17) (by decide +kernel) (by decide) ?_
      obtain rfl := Option.some.inj h
      exact go_ireturn (by decide +kernel) rfl rfl ⟨rfl, rfl⟩
def f9_readNumber_L1  : Nat → jS → Option jS
  | 0, _ => none
  | n + 1, S => (if (S.1 1 1) ≤ (S.1 1 2) then some S else (if inb (S.1 1 2) 400 then Option.bind (f9_isDigit (S.1 2 (S.1 1 2).toNatClampNeg)) (fun r1 => (if r1 = 0 then some S else Option.bind (if 5 ≤ ((S.1 1 2) - (S.1 1 3)) then some S else some (wI S 1 5 ((((S.1 1 5) * 10) + (S.1 2 (S.1 1 2).toNatClampNeg)) - 48))) (fun (y2 : jS) => f9_readNumber_L1 n (wI y2 1 2 ((y2.1 1 2) + 1))))) else none))
def f9_readNumber (S : jS) : Option (jS × Unit) := Option.bind (f9_readNumber_L1 jF (wI S 1 5 0)) (fun y3 => some (wI y3 1 4 (((if ((y3.1 1 2) - (y3.1 1 3)) ≤ 5 then 3 else 4) : Int32)), ()))
theorem f9_readNumber_L1_ok {T : jT} {Y : jS × jT} {Q : Option jV → jMem → Prop} (hT : LayC T) : ∀ (n : Nat) (S : jS) (r : jS), f9_readNumber_L1 n S = some r → Go M9_readNumber 2 0 0 0 0 81 [(0, rc 1)] [] ((r, T), Y) Q → Go M9_readNumber 2 0 0 0 0 5 [(0, rc 1)] [] ((S, T), Y) Q := by
  intro n
  induction n with
  | zero => intro S r h k; exact absurd h (by intro z; cases z)
  | succ n ih =>
    intro S r h k
    rw [f9_readNumber_L1] at h
    refine go_blk rfl [(.aload_n 0, 1, 0, 0, 0, .inl 0), (.getfield 19, 3, 9, 2, 0, .inl 0), (.aload_n 0, 1, 0, 0, 0, .inl 0), (.getfield 15, 3, 9, 1, 0, .inl 0)] 5 13 _ _ _ (by decide +kernel) ?_
    refine And.intro (lc_t1 hT) ?_
    refine And.intro (lc_t1 hT) ?_
    show Go _ _ _ _ _ _ 13 [(0, rc 1)] [vi (S.1 1 1), vi (S.1 1 2)] ((S, T), Y) _
    refine ite_el h (fun q1 h => ?_) (fun q1 h => ?_)
    · refine go_icmp_ge (off := 68) (tgt := 81) (by decide +kernel) (by decide) (fun _ => ?_) (fun z => absurd q1 z)
      obtain rfl := Option.some.inj h
      refine go_pick [0] rfl ?_
      exact k
    · refine go_icmp_ge (off := 68) (tgt := 81) (by decide +kernel) (by decide) (fun z => absurd z q1) (fun _ => ?_)
      refine gd_el h (fun q2 h => ?_)
      refine go_blk rfl [(.aload_n 0, 1, 0, 0, 0, .inl 0), (.getfield 9, 3, 9, 0, 1, .inl 0), (.aload_n 0, 1, 0, 0, 0, .inl 0), (.getfield 19, 3, 9, 2, 0, .inl 0), (.iaload, 1, 20, 0, 0, .inl 0)] 16 25 _ _ _ (by decide +kernel) ?_
      refine And.intro (lc_t1 hT) (Exists.intro _ (And.intro (gRc (lc_r9_0 hT)) ?_))
      refine And.intro (lc_t1 hT) ?_
      refine And.intro (lc_t2 hT) (Exists.intro _ (And.intro (lc_n2 hT) (And.intro (inb_in q2) ?_)))
      show Go _ _ _ _ _ _ 25 [(0, rc 1)] [vi (S.1 2 (S.1 1 2).toNatClampNeg)] ((S, T), Y) _
      obtain ⟨r1, hr1, h⟩ := bind_el h
      refine go_callS (idx := 41) (z := 0) (M' := M9_isDigit) (n := 1) (A := [vi (S.1 2 (S.1 1 2).toNatClampNeg)]) (v' := some (vi r1)) (μ' := ((S, T), Y)) (d' := 1) (mc' := 0) (ms' := 0) (kc' := 0) (ks' := 0) (by decide +kernel) ml_9_41 rfl ws9_isDigit rfl (ret9_isDigit hr1) (by decide) rfl rfl (Nat.le_of_ble_eq_true rfl) rfl (jag rfl rfl) ?_
      show Go _ _ _ _ _ _ 28 [(0, rc 1)] [vi r1] ((S, T), Y) _
      refine ite_el h (fun q3 h => ?_) (fun q3 h => ?_)
      · refine go_if_eq (off := 53) (tgt := 81) (by decide +kernel) (by decide) (fun _ => ?_) (fun z => absurd q3 z)
        obtain rfl := Option.some.inj h
        refine go_pick [0] rfl ?_
        exact k
      · refine go_if_eq (off := 53) (tgt := 81) (by decide +kernel) (by decide) (fun z => absurd z q3) (fun _ => ?_)
        refine go_blk rfl [(.aload_n 0, 1, 0, 0, 0, .inl 0), (.getfield 19, 3, 9, 2, 0, .inl 0), (.aload_n 0, 1, 0, 0, 0, .inl 0), (.getfield 22, 3, 9, 3, 0, .inl 0), (.isub, 1, 0, 0, 0, .inl 0), (.iconst 5, 1, 0, 0, 0, .inl 5)] 31 41 _ _ _ (by decide +kernel) ?_
        refine And.intro (lc_t1 hT) ?_
        refine And.intro (lc_t1 hT) ?_
        show Go _ _ _ _ _ _ 41 [(0, rc 1)] [vi 5, vi ((S.1 1 2) - (S.1 1 3))] ((S, T), Y) _
        obtain ⟨y2, hy2, h⟩ := bind_el h
        have key : Go M9_readNumber 2 0 0 0 0 68 [(0, rc 1)] [] ((y2, T), Y) Q := by
          refine go_blk rfl [(.aload_n 0, 1, 0, 0, 0, .inl 0), (.dup, 1, 0, 0, 0, .inl 0), (.getfield 19, 3, 9, 2, 0, .inl 0), (.iconst 1, 1, 0, 0, 0, .inl 1), (.iadd, 1, 0, 0, 0, .inl 0), (.putfield 19, 3, 9, 2, 0, .inl 0)] 68 78 _ _ _ (by decide +kernel) ?_
          refine And.intro (lc_t1 hT) ?_
          refine And.intro (lc_t1 hT) (And.intro trivial ?_)
          show Go _ _ _ _ _ _ 78 [(0, rc 1)] [] ((wI y2 1 2 ((y2.1 1 2) + 1), T), Y) _
          refine go_goto (off := (-73)) (tgt := 5) (by decide +kernel) (by decide) ?_
          refine go_pick [0] rfl ?_
          exact ih _ _ h k
        replace h := hy2
        refine ite_el h (fun q4 h => ?_) (fun q4 h => ?_)
        · refine go_icmp_ge (off := 27) (tgt := 68) (by decide +kernel) (by decide) (fun _ => ?_) (fun z => absurd q4 z)
          obtain rfl := Option.some.inj h
          refine go_pick [0] rfl ?_
          exact key
        · refine go_icmp_ge (off := 27) (tgt := 68) (by decide +kernel) (by decide) (fun z => absurd z q4) (fun _ => ?_)
          refine go_blk rfl [(.aload_n 0, 1, 0, 0, 0, .inl 0), (.aload_n 0, 1, 0, 0, 0, .inl 0), (.getfield 28, 3, 9, 5, 0, .inl 0), (.bipush 10, 2, 0, 0, 0, .inl 10), (.imul, 1, 0, 0, 0, .inl 0), (.aload_n 0, 1, 0, 0, 0, .inl 0), (.getfield 9, 3, 9, 0, 1, .inl 0), (.aload_n 0, 1, 0, 0, 0, .inl 0), (.getfield 19, 3, 9, 2, 0, .inl 0), (.iaload, 1, 20, 0, 0, .inl 0), (.iadd, 1, 0, 0, 0, .inl 0), (.bipush 48, 2, 0, 0, 0, .inl 48), (.isub, 1, 0, 0, 0, .inl 0), (.putfield 28, 3, 9, 5, 0, .inl 0)] 44 68 _ _ _ (by decide +kernel) ?_
          refine And.intro (lc_t1 hT) ?_
          refine And.intro (lc_t1 hT) (Exists.intro _ (And.intro (gRc (lc_r9_0 hT)) ?_))
          refine And.intro (lc_t1 hT) ?_
          refine And.intro (lc_t2 hT) (Exists.intro _ (And.intro (lc_n2 hT) (And.intro (inb_in q2) ?_)))
          refine And.intro (lc_t1 hT) (And.intro trivial ?_)
          show Go _ _ _ _ _ _ 68 [(0, rc 1)] [] ((wI S 1 5 ((((S.1 1 5) * 10) + (S.1 2 (S.1 1 2).toNatClampNeg)) - 48), T), Y) _
          obtain rfl := Option.some.inj h
          refine go_pick [0] rfl ?_
          exact key
theorem ret9_readNumber {S : jS} {T : jT} {Y : jS × jT} {S1 : jS} {x : Unit} (hT : LayC T) (h : f9_readNumber S = some (S1, x)) : Ret M9_readNumber 2 0 0 [rc 1] ((S, T), Y) (none) ((S1, T), Y) := by
  refine Ret.of (by decide +kernel) (Nat.le_of_ble_eq_true rfl) ?_
  unfold f9_readNumber at h
  show Go _ _ _ _ _ _ 0 [(0, rc 1)] [] ((S, T), Y) _
  refine go_blk rfl [(.aload_n 0, 1, 0, 0, 0, .inl 0), (.iconst 0, 1, 0, 0, 0, .inl 0), (.putfield 28, 3, 9, 5, 0, .inl 0)] 0 5 _ _ _ (by decide +kernel) ?_
  refine And.intro (lc_t1 hT) (And.intro trivial ?_)
  show Go _ _ _ _ _ _ 5 [(0, rc 1)] [] ((wI S 1 5 0, T), Y) _
  refine go_pick [0] rfl ?_
  obtain ⟨y3, hy3, h⟩ := bind_el h
  refine f9_readNumber_L1_ok hT _ _ _ hy3 ?_
  show Go _ _ _ _ _ _ 81 [(0, rc 1)] [] ((y3, T), Y) _
  refine go_blk rfl [(.aload_n 0, 1, 0, 0, 0, .inl 0), (.aload_n 0, 1, 0, 0, 0, .inl 0), (.getfield 19, 3, 9, 2, 0, .inl 0), (.aload_n 0, 1, 0, 0, 0, .inl 0), (.getfield 22, 3, 9, 3, 0, .inl 0), (.isub, 1, 0, 0, 0, .inl 0), (.iconst 5, 1, 0, 0, 0, .inl 5)] 81 92 _ _ _ (by decide +kernel) ?_
  refine And.intro (lc_t1 hT) ?_
  refine And.intro (lc_t1 hT) ?_
  show Go _ _ _ _ _ _ 92 [(0, rc 1)] [vi 5, vi ((y3.1 1 2) - (y3.1 1 3)), rc 1] ((y3, T), Y) _
  have key : ∀ z0 : Int32, z0 = ((if ((y3.1 1 2) - (y3.1 1 3)) ≤ 5 then 3 else 4) : Int32) → Go M9_readNumber 2 0 0 0 0 100 [] [vi z0, rc 1] ((y3, T), Y) (eqQ none ((S1, T), Y)) := by
    intro z0 ez0
    subst ez0
    refine go_blk rfl [(.putfield 25, 3, 9, 4, 0, .inl 0)] 100 103 _ _ _ (by decide +kernel) ?_
    refine And.intro (lc_t1 hT) (And.intro trivial ?_)
    show Go _ _ _ _ _ _ 103 [] [] ((wI y3 1 4 (((if ((y3.1 1 2) - (y3.1 1 3)) ≤ 5 then 3 else 4) : Int32)), T), Y) _
    obtain ⟨rfl, rfl⟩ := Prod.mk.inj (Option.some.inj h)
    exact go_return (by decide +kernel) rfl ⟨rfl, rfl⟩
  clear h
  by_cases q5 : ((y3.1 1 2) - (y3.1 1 3)) ≤ 5
  · refine go_icmp_le (off := 7) (tgt := 99) (by decide +kernel) (by decide) (fun _ => ?_) (fun z => absurd q5 z)
    refine go_blk rfl [(.iconst 3, 1, 0, 0, 0, .inl 3)] 99 100 _ _ _ (by decide +kernel) ?_
    show Go _ _ _ _ _ _ 100 [(0, rc 1)] [vi 3, rc 1] ((y3, T), Y) _
    refine go_pick [] rfl ?_; exact key _ (by rw [if_pos q5])
  · refine go_icmp_le (off := 7) (tgt := 99) (by decide +kernel) (by decide) (fun z => absurd z q5) (fun _ => ?_)
    refine go_blk rfl [(.iconst 4, 1, 0, 0, 0, .inl 4)] 95 96 _ _ _ (by decide +kernel) ?_
    show Go _ _ _ _ _ _ 96 [(0, rc 1)] [vi 4, rc 1] ((y3, T), Y) _
    refine go_goto (off := 4) (tgt := 100) (by decide +kernel) (by decide) ?_
    refine go_pick [] rfl ?_; exact key _ (by rw [if_neg q5])
def f9_markOf (a0 : Int32) : Option Int32 := (if a0 = 37 then some ((-15)) else (if a0 = 42 then some ((-13)) else (if a0 = 43 then some ((-11)) else (if a0 = 45 then some ((-12)) else (if a0 = 47 then some ((-14)) else (if a0 = 59 then some 8 else (if a0 = 60 then some ((-16)) else (if a0 = 61 then some ((-18)) else (if a0 = 62 then some ((-20)) else (if a0 = 91 then some ((-26)) else (if a0 = 93 then some 9 else some 2)))))))))))
theorem ret9_markOf {μ : jMem} {a0 : Int32} {x : Int32} (h : f9_markOf a0 = some x) : Ret M9_markOf 1 0 0 [vi a0] μ (some (vi x)) μ := by
  refine Ret.of (by decide +kernel) (Nat.le_of_ble_eq_true rfl) ?_
  unfold f9_markOf at h
  show Go _ _ _ _ _ _ 0 [(0, vi a0)] [] μ _
  refine go_blk rfl [(.iload_n 0, 1, 0, 0, 0, .inl 0)] 0 1 _ _ _ (by decide +kernel) ?_
  show Go _ _ _ _ _ _ 1 [(0, vi a0)] [vi a0] μ _
  refine ite_el h (fun q1 h => ?_) (fun q1 h => ?_)
  · refine go_lookup (dflt := 132) (ps := #[(37, 120), (42, 114), (43, 108), (45, 111), (47, 117), (59, 99), (60, 123), (61, 126), (62, 129), (91, 102), (93, 105)]) (len := 99) (off := 120) (tgt := 121) (by decide +kernel) (by decide) (by rw [q1]; decide) (by decide) ?_
    refine go_blk rfl [(.bipush (-15), 2, 0, 0, 0, .inl (-15))] 121 123 _ _ _ (by decide +kernel) ?_
    show Go _ _ _ _ _ _ 123 [(0, vi a0)] [vi ((-15))] μ _
    obtain rfl := Option.some.inj h
    exact go_ireturn (by decide +kernel) rfl rfl ⟨rfl, rfl⟩
  refine ite_el h (fun q2 h => ?_) (fun q2 h => ?_)
  · refine go_lookup (dflt := 132) (ps := #[(37, 120), (42, 114), (43, 108), (45, 111), (47, 117), (59, 99), (60, 123), (61, 126), (62, 129), (91, 102), (93, 105)]) (len := 99) (off := 114) (tgt := 115) (by decide +kernel) (by decide) (by rw [q2]; decide) (by decide) ?_
    refine go_blk rfl [(.bipush (-13), 2, 0, 0, 0, .inl (-13))] 115 117 _ _ _ (by decide +kernel) ?_
    show Go _ _ _ _ _ _ 117 [(0, vi a0)] [vi ((-13))] μ _
    obtain rfl := Option.some.inj h
    exact go_ireturn (by decide +kernel) rfl rfl ⟨rfl, rfl⟩
  refine ite_el h (fun q3 h => ?_) (fun q3 h => ?_)
  · refine go_lookup (dflt := 132) (ps := #[(37, 120), (42, 114), (43, 108), (45, 111), (47, 117), (59, 99), (60, 123), (61, 126), (62, 129), (91, 102), (93, 105)]) (len := 99) (off := 108) (tgt := 109) (by decide +kernel) (by decide) (by rw [q3]; decide) (by decide) ?_
    refine go_blk rfl [(.bipush (-11), 2, 0, 0, 0, .inl (-11))] 109 111 _ _ _ (by decide +kernel) ?_
    show Go _ _ _ _ _ _ 111 [(0, vi a0)] [vi ((-11))] μ _
    obtain rfl := Option.some.inj h
    exact go_ireturn (by decide +kernel) rfl rfl ⟨rfl, rfl⟩
  refine ite_el h (fun q4 h => ?_) (fun q4 h => ?_)
  · refine go_lookup (dflt := 132) (ps := #[(37, 120), (42, 114), (43, 108), (45, 111), (47, 117), (59, 99), (60, 123), (61, 126), (62, 129), (91, 102), (93, 105)]) (len := 99) (off := 111) (tgt := 112) (by decide +kernel) (by decide) (by rw [q4]; decide) (by decide) ?_
    refine go_blk rfl [(.bipush (-12), 2, 0, 0, 0, .inl (-12))] 112 114 _ _ _ (by decide +kernel) ?_
    show Go _ _ _ _ _ _ 114 [(0, vi a0)] [vi ((-12))] μ _
    obtain rfl := Option.some.inj h
    exact go_ireturn (by decide +kernel) rfl rfl ⟨rfl, rfl⟩
  refine ite_el h (fun q5 h => ?_) (fun q5 h => ?_)
  · refine go_lookup (dflt := 132) (ps := #[(37, 120), (42, 114), (43, 108), (45, 111), (47, 117), (59, 99), (60, 123), (61, 126), (62, 129), (91, 102), (93, 105)]) (len := 99) (off := 117) (tgt := 118) (by decide +kernel) (by decide) (by rw [q5]; decide) (by decide) ?_
    refine go_blk rfl [(.bipush (-14), 2, 0, 0, 0, .inl (-14))] 118 120 _ _ _ (by decide +kernel) ?_
    show Go _ _ _ _ _ _ 120 [(0, vi a0)] [vi ((-14))] μ _
    obtain rfl := Option.some.inj h
    exact go_ireturn (by decide +kernel) rfl rfl ⟨rfl, rfl⟩
  refine ite_el h (fun q6 h => ?_) (fun q6 h => ?_)
  · refine go_lookup (dflt := 132) (ps := #[(37, 120), (42, 114), (43, 108), (45, 111), (47, 117), (59, 99), (60, 123), (61, 126), (62, 129), (91, 102), (93, 105)]) (len := 99) (off := 99) (tgt := 100) (by decide +kernel) (by decide) (by rw [q6]; decide) (by decide) ?_
    refine go_blk rfl [(.bipush 8, 2, 0, 0, 0, .inl 8)] 100 102 _ _ _ (by decide +kernel) ?_
    show Go _ _ _ _ _ _ 102 [(0, vi a0)] [vi 8] μ _
    obtain rfl := Option.some.inj h
    exact go_ireturn (by decide +kernel) rfl rfl ⟨rfl, rfl⟩
  refine ite_el h (fun q7 h => ?_) (fun q7 h => ?_)
  · refine go_lookup (dflt := 132) (ps := #[(37, 120), (42, 114), (43, 108), (45, 111), (47, 117), (59, 99), (60, 123), (61, 126), (62, 129), (91, 102), (93, 105)]) (len := 99) (off := 123) (tgt := 124) (by decide +kernel) (by decide) (by rw [q7]; decide) (by decide) ?_
    refine go_blk rfl [(.bipush (-16), 2, 0, 0, 0, .inl (-16))] 124 126 _ _ _ (by decide +kernel) ?_
    show Go _ _ _ _ _ _ 126 [(0, vi a0)] [vi ((-16))] μ _
    obtain rfl := Option.some.inj h
    exact go_ireturn (by decide +kernel) rfl rfl ⟨rfl, rfl⟩
  refine ite_el h (fun q8 h => ?_) (fun q8 h => ?_)
  · refine go_lookup (dflt := 132) (ps := #[(37, 120), (42, 114), (43, 108), (45, 111), (47, 117), (59, 99), (60, 123), (61, 126), (62, 129), (91, 102), (93, 105)]) (len := 99) (off := 126) (tgt := 127) (by decide +kernel) (by decide) (by rw [q8]; decide) (by decide) ?_
    refine go_blk rfl [(.bipush (-18), 2, 0, 0, 0, .inl (-18))] 127 129 _ _ _ (by decide +kernel) ?_
    show Go _ _ _ _ _ _ 129 [(0, vi a0)] [vi ((-18))] μ _
    obtain rfl := Option.some.inj h
    exact go_ireturn (by decide +kernel) rfl rfl ⟨rfl, rfl⟩
  refine ite_el h (fun q9 h => ?_) (fun q9 h => ?_)
  · refine go_lookup (dflt := 132) (ps := #[(37, 120), (42, 114), (43, 108), (45, 111), (47, 117), (59, 99), (60, 123), (61, 126), (62, 129), (91, 102), (93, 105)]) (len := 99) (off := 129) (tgt := 130) (by decide +kernel) (by decide) (by rw [q9]; decide) (by decide) ?_
    refine go_blk rfl [(.bipush (-20), 2, 0, 0, 0, .inl (-20))] 130 132 _ _ _ (by decide +kernel) ?_
    show Go _ _ _ _ _ _ 132 [(0, vi a0)] [vi ((-20))] μ _
    obtain rfl := Option.some.inj h
    exact go_ireturn (by decide +kernel) rfl rfl ⟨rfl, rfl⟩
  refine ite_el h (fun q10 h => ?_) (fun q10 h => ?_)
  · refine go_lookup (dflt := 132) (ps := #[(37, 120), (42, 114), (43, 108), (45, 111), (47, 117), (59, 99), (60, 123), (61, 126), (62, 129), (91, 102), (93, 105)]) (len := 99) (off := 102) (tgt := 103) (by decide +kernel) (by decide) (by rw [q10]; decide) (by decide) ?_
    refine go_blk rfl [(.bipush (-26), 2, 0, 0, 0, .inl (-26))] 103 105 _ _ _ (by decide +kernel) ?_
    show Go _ _ _ _ _ _ 105 [(0, vi a0)] [vi ((-26))] μ _
    obtain rfl := Option.some.inj h
    exact go_ireturn (by decide +kernel) rfl rfl ⟨rfl, rfl⟩
  refine ite_el h (fun q11 h => ?_) (fun q11 h => ?_)
  · refine go_lookup (dflt := 132) (ps := #[(37, 120), (42, 114), (43, 108), (45, 111), (47, 117), (59, 99), (60, 123), (61, 126), (62, 129), (91, 102), (93, 105)]) (len := 99) (off := 105) (tgt := 106) (by decide +kernel) (by decide) (by rw [q11]; decide) (by decide) ?_
    refine go_blk rfl [(.bipush 9, 2, 0, 0, 0, .inl 9)] 106 108 _ _ _ (by decide +kernel) ?_
    show Go _ _ _ _ _ _ 108 [(0, vi a0)] [vi 9] μ _
    obtain rfl := Option.some.inj h
    exact go_ireturn (by decide +kernel) rfl rfl ⟨rfl, rfl⟩
  refine go_lookup (dflt := 132) (ps := #[(37, 120), (42, 114), (43, 108), (45, 111), (47, 117), (59, 99), (60, 123), (61, 126), (62, 129), (91, 102), (93, 105)]) (len := 99) (off := 132) (tgt := 133) (by decide +kernel) (by decide) (by have z0 : a0.toInt ≠ 37 := tb_ne q1 (by decide); have z1 : a0.toInt ≠ 42 := tb_ne q2 (by decide); have z2 : a0.toInt ≠ 43 := tb_ne q3 (by decide); have z3 : a0.toInt ≠ 45 := tb_ne q4 (by decide); have z4 : a0.toInt ≠ 47 := tb_ne q5 (by decide); have z5 : a0.toInt ≠ 59 := tb_ne q6 (by decide); have z6 : a0.toInt ≠ 60 := tb_ne q7 (by decide); have z7 : a0.toInt ≠ 61 := tb_ne q8 (by decide); have z8 : a0.toInt ≠ 62 := tb_ne q9 (by decide); have z9 : a0.toInt ≠ 91 := tb_ne q10 (by decide); have z10 : a0.toInt ≠ 93 := tb_ne q11 (by decide); exact lk_out _ _ _ (by simp only [List.forall_mem_cons, List.not_mem_nil]; refine ⟨by intro z; omega, by intro z; omega, by intro z; omega, by intro z; omega, by intro z; omega, by intro z; omega, by intro z; omega, by intro z; omega, by intro z; omega, by intro z; omega, by intro z; omega, fun _ z => nomatch z⟩)) (by decide) ?_
  refine go_blk rfl [(.iconst 2, 1, 0, 0, 0, .inl 2)] 133 134 _ _ _ (by decide +kernel) ?_
  show Go _ _ _ _ _ _ 134 [(0, vi a0)] [vi 2] μ _
  obtain rfl := Option.some.inj h
  exact go_ireturn (by decide +kernel) rfl rfl ⟨rfl, rfl⟩
def f9_readMark (S : jS) : Option (jS × Unit) := (if inb (S.1 1 3) 400 then Option.bind (f9_markOf (S.1 2 (S.1 1 3).toNatClampNeg)) (fun r1 => (if (S.1 2 (S.1 1 3).toNatClampNeg) = 60 then (if ((wI (wI S 1 2 ((S.1 1 2) + 1)) 1 4 r1).1 1 1) ≤ ((wI (wI S 1 2 ((S.1 1 2) + 1)) 1 4 r1).1 1 2) then some (wI (wI S 1 2 ((S.1 1 2) + 1)) 1 4 r1, ()) else (if inb ((wI (wI S 1 2 ((S.1 1 2) + 1)) 1 4 r1).1 1 2) 400 then (if ((wI (wI S 1 2 ((S.1 1 2) + 1)) 1 4 r1).1 2 ((wI (wI S 1 2 ((S.1 1 2) + 1)) 1 4 r1).1 1 2).toNatClampNeg) = 61 then some (wI (wI (wI (wI S 1 2 ((S.1 1 2) + 1)) 1 4 r1) 1 2 (((wI (wI S 1 2 ((S.1 1 2) + 1)) 1 4 r1).1 1 2) + 1)) 1 4 (((if (S.1 2 (S.1 1 3).toNatClampNeg) = 60 then ((-17)) else ((-19))) : Int32)), ()) else some (wI (wI S 1 2 ((S.1 1 2) + 1)) 1 4 r1, ())) else none)) else (if (S.1 2 (S.1 1 3).toNatClampNeg) = 62 then (if ((wI (wI S 1 2 ((S.1 1 2) + 1)) 1 4 r1).1 1 1) ≤ ((wI (wI S 1 2 ((S.1 1 2) + 1)) 1 4 r1).1 1 2) then some (wI (wI S 1 2 ((S.1 1 2) + 1)) 1 4 r1, ()) else (if inb ((wI (wI S 1 2 ((S.1 1 2) + 1)) 1 4 r1).1 1 2) 400 then (if ((wI (wI S 1 2 ((S.1 1 2) + 1)) 1 4 r1).1 2 ((wI (wI S 1 2 ((S.1 1 2) + 1)) 1 4 r1).1 1 2).toNatClampNeg) = 61 then some (wI (wI (wI (wI S 1 2 ((S.1 1 2) + 1)) 1 4 r1) 1 2 (((wI (wI S 1 2 ((S.1 1 2) + 1)) 1 4 r1).1 1 2) + 1)) 1 4 (((if (S.1 2 (S.1 1 3).toNatClampNeg) = 60 then ((-17)) else ((-19))) : Int32)), ()) else some (wI (wI S 1 2 ((S.1 1 2) + 1)) 1 4 r1, ())) else none)) else some (wI (wI S 1 2 ((S.1 1 2) + 1)) 1 4 r1, ())))) else none)
theorem ret9_readMark {S : jS} {T : jT} {Y : jS × jT} {S1 : jS} {x : Unit} (hT : LayC T) (h : f9_readMark S = some (S1, x)) : Ret M9_readMark 2 0 0 [rc 1] ((S, T), Y) (none) ((S1, T), Y) := by
  refine Ret.of (by decide +kernel) (Nat.le_of_ble_eq_true rfl) ?_
  unfold f9_readMark at h
  show Go _ _ _ _ _ _ 0 [(0, rc 1)] [] ((S, T), Y) _
  refine gd_el h (fun q1 h => ?_)
  refine go_blk rfl [(.aload_n 0, 1, 0, 0, 0, .inl 0), (.getfield 9, 3, 9, 0, 1, .inl 0), (.aload_n 0, 1, 0, 0, 0, .inl 0), (.getfield 22, 3, 9, 3, 0, .inl 0), (.iaload, 1, 20, 0, 0, .inl 0), (.istore_n 1, 1, 1, 0, 0, .inl 0), (.aload_n 0, 1, 0, 0, 0, .inl 0), (.dup, 1, 0, 0, 0, .inl 0), (.getfield 19, 3, 9, 2, 0, .inl 0), (.iconst 1, 1, 0, 0, 0, .inl 1), (.iadd, 1, 0, 0, 0, .inl 0), (.putfield 19, 3, 9, 2, 0, .inl 0)] 0 20 _ _ _ (by decide +kernel) ?_
  refine And.intro (lc_t1 hT) (Exists.intro _ (And.intro (gRc (lc_r9_0 hT)) ?_))
  refine And.intro (lc_t1 hT) ?_
  refine And.intro (lc_t2 hT) (Exists.intro _ (And.intro (lc_n2 hT) (And.intro (inb_in q1) ?_)))
  refine And.intro (lc_t1 hT) ?_
  refine And.intro (lc_t1 hT) (And.intro trivial ?_)
  show Go _ _ _ _ _ _ 20 [(1, vi (S.1 2 (S.1 1 3).toNatClampNeg)), (0, rc 1)] [] ((wI S 1 2 ((S.1 1 2) + 1), T), Y) _
  refine go_blk rfl [(.aload_n 0, 1, 0, 0, 0, .inl 0), (.iload_n 1, 1, 1, 0, 0, .inl 0)] 20 22 _ _ _ (by decide +kernel) ?_
  show Go _ _ _ _ _ _ 22 [(1, vi (S.1 2 (S.1 1 3).toNatClampNeg)), (0, rc 1)] [vi (S.1 2 (S.1 1 3).toNatClampNeg), rc 1] ((wI S 1 2 ((S.1 1 2) + 1), T), Y) _
  obtain ⟨r1, hr1, h⟩ := bind_el h
  refine go_callS (idx := 110) (z := 0) (M' := M9_markOf) (n := 1) (A := [vi (S.1 2 (S.1 1 3).toNatClampNeg)]) (v' := some (vi r1)) (μ' := ((wI S 1 2 ((S.1 1 2) + 1), T), Y)) (d' := 1) (mc' := 0) (ms' := 0) (kc' := 0) (ks' := 0) (by decide +kernel) ml_9_110 rfl ws9_markOf rfl (ret9_markOf hr1) (by decide) rfl rfl (Nat.le_of_ble_eq_true rfl) rfl (jag rfl rfl) ?_
  show Go _ _ _ _ _ _ 25 [(1, vi (S.1 2 (S.1 1 3).toNatClampNeg)), (0, rc 1)] [vi r1, rc 1] ((wI S 1 2 ((S.1 1 2) + 1), T), Y) _
  refine go_blk rfl [(.putfield 25, 3, 9, 4, 0, .inl 0)] 25 28 _ _ _ (by decide +kernel) ?_
  refine And.intro (lc_t1 hT) (And.intro trivial ?_)
  show Go _ _ _ _ _ _ 28 [(1, vi (S.1 2 (S.1 1 3).toNatClampNeg)), (0, rc 1)] [] ((wI (wI S 1 2 ((S.1 1 2) + 1)) 1 4 r1, T), Y) _
  refine go_blk rfl [(.iload_n 1, 1, 1, 0, 0, .inl 0), (.bipush 60, 2, 0, 0, 0, .inl 60)] 28 31 _ _ _ (by decide +kernel) ?_
  show Go _ _ _ _ _ _ 31 [(1, vi (S.1 2 (S.1 1 3).toNatClampNeg)), (0, rc 1)] [vi 60, vi (S.1 2 (S.1 1 3).toNatClampNeg)] ((wI (wI S 1 2 ((S.1 1 2) + 1)) 1 4 r1, T), Y) _
  refine ite_el h (fun q2 h => ?_) (fun q2 h => ?_)
  · refine go_icmp_eq (off := 9) (tgt := 40) (by decide +kernel) (by decide) (fun _ => ?_) (fun z => absurd q2 z)
    refine go_blk rfl [(.aload_n 0, 1, 0, 0, 0, .inl 0), (.getfield 19, 3, 9, 2, 0, .inl 0), (.aload_n 0, 1, 0, 0, 0, .inl 0), (.getfield 15, 3, 9, 1, 0, .inl 0)] 40 48 _ _ _ (by decide +kernel) ?_
    refine And.intro (lc_t1 hT) ?_
    refine And.intro (lc_t1 hT) ?_
    show Go _ _ _ _ _ _ 48 [(1, vi (S.1 2 (S.1 1 3).toNatClampNeg)), (0, rc 1)] [vi ((wI (wI S 1 2 ((S.1 1 2) + 1)) 1 4 r1).1 1 1), vi ((wI (wI S 1 2 ((S.1 1 2) + 1)) 1 4 r1).1 1 2)] ((wI (wI S 1 2 ((S.1 1 2) + 1)) 1 4 r1, T), Y) _
    refine ite_el h (fun q3 h => ?_) (fun q3 h => ?_)
    · refine go_icmp_ge (off := 44) (tgt := 92) (by decide +kernel) (by decide) (fun _ => ?_) (fun z => absurd q3 z)
      obtain ⟨rfl, rfl⟩ := Prod.mk.inj (Option.some.inj h)
      exact go_return (by decide +kernel) rfl ⟨rfl, rfl⟩
    · refine go_icmp_ge (off := 44) (tgt := 92) (by decide +kernel) (by decide) (fun z => absurd z q3) (fun _ => ?_)
      refine gd_el h (fun q4 h => ?_)
      refine go_blk rfl [(.aload_n 0, 1, 0, 0, 0, .inl 0), (.getfield 9, 3, 9, 0, 1, .inl 0), (.aload_n 0, 1, 0, 0, 0, .inl 0), (.getfield 19, 3, 9, 2, 0, .inl 0), (.iaload, 1, 20, 0, 0, .inl 0), (.bipush 61, 2, 0, 0, 0, .inl 61)] 51 62 _ _ _ (by decide +kernel) ?_
      refine And.intro (lc_t1 hT) (Exists.intro _ (And.intro (gRc (lc_r9_0 hT)) ?_))
      refine And.intro (lc_t1 hT) ?_
      refine And.intro (lc_t2 hT) (Exists.intro _ (And.intro (lc_n2 hT) (And.intro (inb_in q4) ?_)))
      show Go _ _ _ _ _ _ 62 [(1, vi (S.1 2 (S.1 1 3).toNatClampNeg)), (0, rc 1)] [vi 61, vi ((wI (wI S 1 2 ((S.1 1 2) + 1)) 1 4 r1).1 2 ((wI (wI S 1 2 ((S.1 1 2) + 1)) 1 4 r1).1 1 2).toNatClampNeg)] ((wI (wI S 1 2 ((S.1 1 2) + 1)) 1 4 r1, T), Y) _
      refine ite_el h (fun q5 h => ?_) (fun q5 h => ?_)
      · refine go_icmp_ne (off := 30) (tgt := 92) (by decide +kernel) (by decide) (fun z => absurd q5 z) (fun _ => ?_)
        refine go_blk rfl [(.aload_n 0, 1, 0, 0, 0, .inl 0), (.dup, 1, 0, 0, 0, .inl 0), (.getfield 19, 3, 9, 2, 0, .inl 0), (.iconst 1, 1, 0, 0, 0, .inl 1), (.iadd, 1, 0, 0, 0, .inl 0), (.putfield 19, 3, 9, 2, 0, .inl 0)] 65 75 _ _ _ (by decide +kernel) ?_
        refine And.intro (lc_t1 hT) ?_
        refine And.intro (lc_t1 hT) (And.intro trivial ?_)
        show Go _ _ _ _ _ _ 75 [(1, vi (S.1 2 (S.1 1 3).toNatClampNeg)), (0, rc 1)] [] ((wI (wI (wI S 1 2 ((S.1 1 2) + 1)) 1 4 r1) 1 2 (((wI (wI S 1 2 ((S.1 1 2) + 1)) 1 4 r1).1 1 2) + 1), T), Y) _
        refine go_blk rfl [(.aload_n 0, 1, 0, 0, 0, .inl 0), (.iload_n 1, 1, 1, 0, 0, .inl 0), (.bipush 60, 2, 0, 0, 0, .inl 60)] 75 79 _ _ _ (by decide +kernel) ?_
        show Go _ _ _ _ _ _ 79 [(1, vi (S.1 2 (S.1 1 3).toNatClampNeg)), (0, rc 1)] [vi 60, vi (S.1 2 (S.1 1 3).toNatClampNeg), rc 1] ((wI (wI (wI S 1 2 ((S.1 1 2) + 1)) 1 4 r1) 1 2 (((wI (wI S 1 2 ((S.1 1 2) + 1)) 1 4 r1).1 1 2) + 1), T), Y) _
        have key : ∀ z0 : Int32, z0 = ((if (S.1 2 (S.1 1 3).toNatClampNeg) = 60 then ((-17)) else ((-19))) : Int32) → Go M9_readMark 2 0 0 0 0 89 [] [vi z0, rc 1] ((wI (wI (wI S 1 2 ((S.1 1 2) + 1)) 1 4 r1) 1 2 (((wI (wI S 1 2 ((S.1 1 2) + 1)) 1 4 r1).1 1 2) + 1), T), Y) (eqQ none ((S1, T), Y)) := by
          intro z0 ez0
          subst ez0
          refine go_blk rfl [(.putfield 25, 3, 9, 4, 0, .inl 0)] 89 92 _ _ _ (by decide +kernel) ?_
          refine And.intro (lc_t1 hT) (And.intro trivial ?_)
          show Go _ _ _ _ _ _ 92 [] [] ((wI (wI (wI (wI S 1 2 ((S.1 1 2) + 1)) 1 4 r1) 1 2 (((wI (wI S 1 2 ((S.1 1 2) + 1)) 1 4 r1).1 1 2) + 1)) 1 4 (((if (S.1 2 (S.1 1 3).toNatClampNeg) = 60 then ((-17)) else ((-19))) : Int32)), T), Y) _
          obtain ⟨rfl, rfl⟩ := Prod.mk.inj (Option.some.inj h)
          exact go_return (by decide +kernel) rfl ⟨rfl, rfl⟩
        clear h
        by_cases q6 : (S.1 2 (S.1 1 3).toNatClampNeg) = 60
        · refine go_icmp_ne (off := 8) (tgt := 87) (by decide +kernel) (by decide) (fun z => absurd q6 z) (fun _ => ?_)
          refine go_blk rfl [(.bipush (-17), 2, 0, 0, 0, .inl (-17))] 82 84 _ _ _ (by decide +kernel) ?_
          show Go _ _ _ _ _ _ 84 [(1, vi (S.1 2 (S.1 1 3).toNatClampNeg)), (0, rc 1)] [vi ((-17)), rc 1] ((wI (wI (wI S 1 2 ((S.1 1 2) + 1)) 1 4 r1) 1 2 (((wI (wI S 1 2 ((S.1 1 2) + 1)) 1 4 r1).1 1 2) + 1), T), Y) _
          refine go_goto (off := 5) (tgt := 89) (by decide +kernel) (by decide) ?_
          refine go_pick [] rfl ?_; exact key _ (by rw [if_pos q6])
        · refine go_icmp_ne (off := 8) (tgt := 87) (by decide +kernel) (by decide) (fun _ => ?_) (fun z => absurd z q6)
          refine go_blk rfl [(.bipush (-19), 2, 0, 0, 0, .inl (-19))] 87 89 _ _ _ (by decide +kernel) ?_
          show Go _ _ _ _ _ _ 89 [(1, vi (S.1 2 (S.1 1 3).toNatClampNeg)), (0, rc 1)] [vi ((-19)), rc 1] ((wI (wI (wI S 1 2 ((S.1 1 2) + 1)) 1 4 r1) 1 2 (((wI (wI S 1 2 ((S.1 1 2) + 1)) 1 4 r1).1 1 2) + 1), T), Y) _
          refine go_pick [] rfl ?_; exact key _ (by rw [if_neg q6])
      · refine go_icmp_ne (off := 30) (tgt := 92) (by decide +kernel) (by decide) (fun _ => ?_) (fun z => absurd z q5)
        obtain ⟨rfl, rfl⟩ := Prod.mk.inj (Option.some.inj h)
        exact go_return (by decide +kernel) rfl ⟨rfl, rfl⟩
  · refine go_icmp_eq (off := 9) (tgt := 40) (by decide +kernel) (by decide) (fun z => absurd z q2) (fun _ => ?_)
    refine go_blk rfl [(.iload_n 1, 1, 1, 0, 0, .inl 0), (.bipush 62, 2, 0, 0, 0, .inl 62)] 34 37 _ _ _ (by decide +kernel) ?_
    show Go _ _ _ _ _ _ 37 [(1, vi (S.1 2 (S.1 1 3).toNatClampNeg)), (0, rc 1)] [vi 62, vi (S.1 2 (S.1 1 3).toNatClampNeg)] ((wI (wI S 1 2 ((S.1 1 2) + 1)) 1 4 r1, T), Y) _
    refine ite_el h (fun q7 h => ?_) (fun q7 h => ?_)
    · refine go_icmp_ne (off := 55) (tgt := 92) (by decide +kernel) (by decide) (fun z => absurd q7 z) (fun _ => ?_)
      refine go_blk rfl [(.aload_n 0, 1, 0, 0, 0, .inl 0), (.getfield 19, 3, 9, 2, 0, .inl 0), (.aload_n 0, 1, 0, 0, 0, .inl 0), (.getfield 15, 3, 9, 1, 0, .inl 0)] 40 48 _ _ _ (by decide +kernel) ?_
      refine And.intro (lc_t1 hT) ?_
      refine And.intro (lc_t1 hT) ?_
      show Go _ _ _ _ _ _ 48 [(1, vi (S.1 2 (S.1 1 3).toNatClampNeg)), (0, rc 1)] [vi ((wI (wI S 1 2 ((S.1 1 2) + 1)) 1 4 r1).1 1 1), vi ((wI (wI S 1 2 ((S.1 1 2) + 1)) 1 4 r1).1 1 2)] ((wI (wI S 1 2 ((S.1 1 2) + 1)) 1 4 r1, T), Y) _
      refine ite_el h (fun q8 h => ?_) (fun q8 h => ?_)
      · refine go_icmp_ge (off := 44) (tgt := 92) (by decide +kernel) (by decide) (fun _ => ?_) (fun z => absurd q8 z)
        obtain ⟨rfl, rfl⟩ := Prod.mk.inj (Option.some.inj h)
        exact go_return (by decide +kernel) rfl ⟨rfl, rfl⟩
      · refine go_icmp_ge (off := 44) (tgt := 92) (by decide +kernel) (by decide) (fun z => absurd z q8) (fun _ => ?_)
        refine gd_el h (fun q9 h => ?_)
        refine go_blk rfl [(.aload_n 0, 1, 0, 0, 0, .inl 0), (.getfield 9, 3, 9, 0, 1, .inl 0), (.aload_n 0, 1, 0, 0, 0, .inl 0), (.getfield 19, 3, 9, 2, 0, .inl 0), (.iaload, 1, 20, 0, 0, .inl 0), (.bipush 61, 2, 0, 0, 0, .inl 61)] 51 62 _ _ _ (by decide +kernel) ?_
        refine And.intro (lc_t1 hT) (Exists.intro _ (And.intro (gRc (lc_r9_0 hT)) ?_))
        refine And.intro (lc_t1 hT) ?_
        refine And.intro (lc_t2 hT) (Exists.intro _ (And.intro (lc_n2 hT) (And.intro (inb_in q9) ?_)))
        show Go _ _ _ _ _ _ 62 [(1, vi (S.1 2 (S.1 1 3).toNatClampNeg)), (0, rc 1)] [vi 61, vi ((wI (wI S 1 2 ((S.1 1 2) + 1)) 1 4 r1).1 2 ((wI (wI S 1 2 ((S.1 1 2) + 1)) 1 4 r1).1 1 2).toNatClampNeg)] ((wI (wI S 1 2 ((S.1 1 2) + 1)) 1 4 r1, T), Y) _
        refine ite_el h (fun q10 h => ?_) (fun q10 h => ?_)
        · refine go_icmp_ne (off := 30) (tgt := 92) (by decide +kernel) (by decide) (fun z => absurd q10 z) (fun _ => ?_)
          refine go_blk rfl [(.aload_n 0, 1, 0, 0, 0, .inl 0), (.dup, 1, 0, 0, 0, .inl 0), (.getfield 19, 3, 9, 2, 0, .inl 0), (.iconst 1, 1, 0, 0, 0, .inl 1), (.iadd, 1, 0, 0, 0, .inl 0), (.putfield 19, 3, 9, 2, 0, .inl 0)] 65 75 _ _ _ (by decide +kernel) ?_
          refine And.intro (lc_t1 hT) ?_
          refine And.intro (lc_t1 hT) (And.intro trivial ?_)
          show Go _ _ _ _ _ _ 75 [(1, vi (S.1 2 (S.1 1 3).toNatClampNeg)), (0, rc 1)] [] ((wI (wI (wI S 1 2 ((S.1 1 2) + 1)) 1 4 r1) 1 2 (((wI (wI S 1 2 ((S.1 1 2) + 1)) 1 4 r1).1 1 2) + 1), T), Y) _
          refine go_blk rfl [(.aload_n 0, 1, 0, 0, 0, .inl 0), (.iload_n 1, 1, 1, 0, 0, .inl 0), (.bipush 60, 2, 0, 0, 0, .inl 60)] 75 79 _ _ _ (by decide +kernel) ?_
          show Go _ _ _ _ _ _ 79 [(1, vi (S.1 2 (S.1 1 3).toNatClampNeg)), (0, rc 1)] [vi 60, vi (S.1 2 (S.1 1 3).toNatClampNeg), rc 1] ((wI (wI (wI S 1 2 ((S.1 1 2) + 1)) 1 4 r1) 1 2 (((wI (wI S 1 2 ((S.1 1 2) + 1)) 1 4 r1).1 1 2) + 1), T), Y) _
          have key : ∀ z0 : Int32, z0 = ((if (S.1 2 (S.1 1 3).toNatClampNeg) = 60 then ((-17)) else ((-19))) : Int32) → Go M9_readMark 2 0 0 0 0 89 [] [vi z0, rc 1] ((wI (wI (wI S 1 2 ((S.1 1 2) + 1)) 1 4 r1) 1 2 (((wI (wI S 1 2 ((S.1 1 2) + 1)) 1 4 r1).1 1 2) + 1), T), Y) (eqQ none ((S1, T), Y)) := by
            intro z0 ez0
            subst ez0
            refine go_blk rfl [(.putfield 25, 3, 9, 4, 0, .inl 0)] 89 92 _ _ _ (by decide +kernel) ?_
            refine And.intro (lc_t1 hT) (And.intro trivial ?_)
            show Go _ _ _ _ _ _ 92 [] [] ((wI (wI (wI (wI S 1 2 ((S.1 1 2) + 1)) 1 4 r1) 1 2 (((wI (wI S 1 2 ((S.1 1 2) + 1)) 1 4 r1).1 1 2) + 1)) 1 4 (((if (S.1 2 (S.1 1 3).toNatClampNeg) = 60 then ((-17)) else ((-19))) : Int32)), T), Y) _
            obtain ⟨rfl, rfl⟩ := Prod.mk.inj (Option.some.inj h)
            exact go_return (by decide +kernel) rfl ⟨rfl, rfl⟩
          clear h
          by_cases q11 : (S.1 2 (S.1 1 3).toNatClampNeg) = 60
          · refine go_icmp_ne (off := 8) (tgt := 87) (by decide +kernel) (by decide) (fun z => absurd q11 z) (fun _ => ?_)
            refine go_blk rfl [(.bipush (-17), 2, 0, 0, 0, .inl (-17))] 82 84 _ _ _ (by decide +kernel) ?_
            show Go _ _ _ _ _ _ 84 [(1, vi (S.1 2 (S.1 1 3).toNatClampNeg)), (0, rc 1)] [vi ((-17)), rc 1] ((wI (wI (wI S 1 2 ((S.1 1 2) + 1)) 1 4 r1) 1 2 (((wI (wI S 1 2 ((S.1 1 2) + 1)) 1 4 r1).1 1 2) + 1), T), Y) _
            refine go_goto (off := 5) (tgt := 89) (by decide +kernel) (by decide) ?_
            refine go_pick [] rfl ?_; exact key _ (by rw [if_pos q11])
          · refine go_icmp_ne (off := 8) (tgt := 87) (by decide +kernel) (by decide) (fun _ => ?_) (fun z => absurd z q11)
            refine go_blk rfl [(.bipush (-19), 2, 0, 0, 0, .inl (-19))] 87 89 _ _ _ (by decide +kernel) ?_
            show Go _ _ _ _ _ _ 89 [(1, vi (S.1 2 (S.1 1 3).toNatClampNeg)), (0, rc 1)] [vi ((-19)), rc 1] ((wI (wI (wI S 1 2 ((S.1 1 2) + 1)) 1 4 r1) 1 2 (((wI (wI S 1 2 ((S.1 1 2) + 1)) 1 4 r1).1 1 2) + 1), T), Y) _
            refine go_pick [] rfl ?_; exact key _ (by rw [if_neg q11])
        · refine go_icmp_ne (off := 30) (tgt := 92) (by decide +kernel) (by decide) (fun _ => ?_) (fun z => absurd z q10)
          obtain ⟨rfl, rfl⟩ := Prod.mk.inj (Option.some.inj h)
          exact go_return (by decide +kernel) rfl ⟨rfl, rfl⟩
    · refine go_icmp_ne (off := 55) (tgt := 92) (by decide +kernel) (by decide) (fun _ => ?_) (fun z => absurd z q7)
      obtain ⟨rfl, rfl⟩ := Prod.mk.inj (Option.some.inj h)
      exact go_return (by decide +kernel) rfl ⟨rfl, rfl⟩
def f9_readSign_L1  : Nat → jS → Option jS
  | 0, _ => none
  | n + 1, S => (if (S.1 1 1) ≤ (S.1 1 2) then some S else (if inb (S.1 1 2) 400 then (if (S.1 2 (S.1 1 2).toNatClampNeg) = 32 then f9_readSign_L1 n (wI S 1 2 ((S.1 1 2) + 1)) else some S) else none))
def f9_readSign (S : jS) : Option (jS × Unit) := Option.bind (if (S.1 1 1) ≤ (S.1 1 2) then some S else (if inb (S.1 1 2) 400 then (if (S.1 2 (S.1 1 2).toNatClampNeg) = 32 then Option.bind (f9_readSign_L1 jF (wI S 1 2 ((S.1 1 2) + 1))) (fun y1 => some y1) else some S) else none)) (fun (y2 : jS) => (if ((wI y2 1 3 (y2.1 1 2)).1 1 2) < ((wI y2 1 3 (y2.1 1 2)).1 1 1) then (if inb ((wI y2 1 3 (y2.1 1 2)).1 1 2) 400 then Option.bind (f9_isLetter ((wI y2 1 3 (y2.1 1 2)).1 2 ((wI y2 1 3 (y2.1 1 2)).1 1 2).toNatClampNeg)) (fun r3 => (if r3 = 0 then Option.bind (f9_isDigit ((wI y2 1 3 (y2.1 1 2)).1 2 ((wI y2 1 3 (y2.1 1 2)).1 1 2).toNatClampNeg)) (fun r4 => (if r4 = 0 then Option.bind (f9_readMark (wI y2 1 3 (y2.1 1 2))) (fun r5 => some (r5.1, ())) else Option.bind (f9_readNumber (wI y2 1 3 (y2.1 1 2))) (fun r6 => some (r6.1, ())))) else Option.bind (f9_readWord (wI y2 1 3 (y2.1 1 2))) (fun r7 => some (r7.1, ())))) else none) else some (wI (wI y2 1 3 (y2.1 1 2)) 1 4 1, ())))
theorem f9_readSign_L1_ok {T : jT} {Y : jS × jT} {Q : Option jV → jMem → Prop} (hT : LayC T) : ∀ (n : Nat) (S : jS) (r : jS), f9_readSign_L1 n S = some r → Go M9_readSign 7 0 0 0 0 38 [(0, rc 1)] [] ((r, T), Y) Q → Go M9_readSign 7 0 0 0 0 0 [(0, rc 1)] [] ((S, T), Y) Q := by
  intro n
  induction n with
  | zero => intro S r h k; exact absurd h (by intro z; cases z)
  | succ n ih =>
    intro S r h k
    rw [f9_readSign_L1] at h
    refine go_blk rfl [(.aload_n 0, 1, 0, 0, 0, .inl 0), (.getfield 19, 3, 9, 2, 0, .inl 0), (.aload_n 0, 1, 0, 0, 0, .inl 0), (.getfield 15, 3, 9, 1, 0, .inl 0)] 0 8 _ _ _ (by decide +kernel) ?_
    refine And.intro (lc_t1 hT) ?_
    refine And.intro (lc_t1 hT) ?_
    show Go _ _ _ _ _ _ 8 [(0, rc 1)] [vi (S.1 1 1), vi (S.1 1 2)] ((S, T), Y) _
    refine ite_el h (fun q4 h => ?_) (fun q4 h => ?_)
    · refine go_icmp_ge (off := 30) (tgt := 38) (by decide +kernel) (by decide) (fun _ => ?_) (fun z => absurd q4 z)
      obtain rfl := Option.some.inj h
      refine go_pick [0] rfl ?_
      exact k
    · refine go_icmp_ge (off := 30) (tgt := 38) (by decide +kernel) (by decide) (fun z => absurd z q4) (fun _ => ?_)
      refine gd_el h (fun q5 h => ?_)
      refine go_blk rfl [(.aload_n 0, 1, 0, 0, 0, .inl 0), (.getfield 9, 3, 9, 0, 1, .inl 0), (.aload_n 0, 1, 0, 0, 0, .inl 0), (.getfield 19, 3, 9, 2, 0, .inl 0), (.iaload, 1, 20, 0, 0, .inl 0), (.bipush 32, 2, 0, 0, 0, .inl 32)] 11 22 _ _ _ (by decide +kernel) ?_
      refine And.intro (lc_t1 hT) (Exists.intro _ (And.intro (gRc (lc_r9_0 hT)) ?_))
      refine And.intro (lc_t1 hT) ?_
      refine And.intro (lc_t2 hT) (Exists.intro _ (And.intro (lc_n2 hT) (And.intro (inb_in q5) ?_)))
      show Go _ _ _ _ _ _ 22 [(0, rc 1)] [vi 32, vi (S.1 2 (S.1 1 2).toNatClampNeg)] ((S, T), Y) _
      refine ite_el h (fun q6 h => ?_) (fun q6 h => ?_)
      · refine go_icmp_ne (off := 16) (tgt := 38) (by decide +kernel) (by decide) (fun z => absurd q6 z) (fun _ => ?_)
        refine go_blk rfl [(.aload_n 0, 1, 0, 0, 0, .inl 0), (.dup, 1, 0, 0, 0, .inl 0), (.getfield 19, 3, 9, 2, 0, .inl 0), (.iconst 1, 1, 0, 0, 0, .inl 1), (.iadd, 1, 0, 0, 0, .inl 0), (.putfield 19, 3, 9, 2, 0, .inl 0)] 25 35 _ _ _ (by decide +kernel) ?_
        refine And.intro (lc_t1 hT) ?_
        refine And.intro (lc_t1 hT) (And.intro trivial ?_)
        show Go _ _ _ _ _ _ 35 [(0, rc 1)] [] ((wI S 1 2 ((S.1 1 2) + 1), T), Y) _
        refine go_goto (off := (-35)) (tgt := 0) (by decide +kernel) (by decide) ?_
        refine go_pick [0] rfl ?_
        exact ih _ _ h k
      · refine go_icmp_ne (off := 16) (tgt := 38) (by decide +kernel) (by decide) (fun _ => ?_) (fun z => absurd z q6)
        obtain rfl := Option.some.inj h
        refine go_pick [0] rfl ?_
        exact k
theorem ret9_readSign {S : jS} {T : jT} {Y : jS × jT} {S1 : jS} {x : Unit} (hT : LayC T) (h : f9_readSign S = some (S1, x)) : Ret M9_readSign 7 0 0 [rc 1] ((S, T), Y) (none) ((S1, T), Y) := by
  refine Ret.of (by decide +kernel) (Nat.le_of_ble_eq_true rfl) ?_
  unfold f9_readSign at h
  show Go _ _ _ _ _ _ 0 [(0, rc 1)] [] ((S, T), Y) _
  refine go_blk rfl [(.aload_n 0, 1, 0, 0, 0, .inl 0), (.getfield 19, 3, 9, 2, 0, .inl 0), (.aload_n 0, 1, 0, 0, 0, .inl 0), (.getfield 15, 3, 9, 1, 0, .inl 0)] 0 8 _ _ _ (by decide +kernel) ?_
  refine And.intro (lc_t1 hT) ?_
  refine And.intro (lc_t1 hT) ?_
  show Go _ _ _ _ _ _ 8 [(0, rc 1)] [vi (S.1 1 1), vi (S.1 1 2)] ((S, T), Y) _
  obtain ⟨y2, hy2, h⟩ := bind_el h
  have key : Go M9_readSign 7 0 0 0 0 38 [(0, rc 1)] [] ((y2, T), Y) (eqQ none ((S1, T), Y)) := by
    refine go_blk rfl [(.aload_n 0, 1, 0, 0, 0, .inl 0), (.aload_n 0, 1, 0, 0, 0, .inl 0), (.getfield 19, 3, 9, 2, 0, .inl 0), (.putfield 22, 3, 9, 3, 0, .inl 0)] 38 46 _ _ _ (by decide +kernel) ?_
    refine And.intro (lc_t1 hT) ?_
    refine And.intro (lc_t1 hT) (And.intro trivial ?_)
    show Go _ _ _ _ _ _ 46 [(0, rc 1)] [] ((wI y2 1 3 (y2.1 1 2), T), Y) _
    refine go_blk rfl [(.aload_n 0, 1, 0, 0, 0, .inl 0), (.getfield 19, 3, 9, 2, 0, .inl 0), (.aload_n 0, 1, 0, 0, 0, .inl 0), (.getfield 15, 3, 9, 1, 0, .inl 0)] 46 54 _ _ _ (by decide +kernel) ?_
    refine And.intro (lc_t1 hT) ?_
    refine And.intro (lc_t1 hT) ?_
    show Go _ _ _ _ _ _ 54 [(0, rc 1)] [vi ((wI y2 1 3 (y2.1 1 2)).1 1 1), vi ((wI y2 1 3 (y2.1 1 2)).1 1 2)] ((wI y2 1 3 (y2.1 1 2), T), Y) _
    refine ite_el h (fun q7 h => ?_) (fun q7 h => ?_)
    · refine go_icmp_lt (off := 11) (tgt := 65) (by decide +kernel) (by decide) (fun _ => ?_) (fun z => absurd q7 z)
      refine gd_el h (fun q8 h => ?_)
      refine go_blk rfl [(.aload_n 0, 1, 0, 0, 0, .inl 0), (.getfield 9, 3, 9, 0, 1, .inl 0), (.aload_n 0, 1, 0, 0, 0, .inl 0), (.getfield 19, 3, 9, 2, 0, .inl 0), (.iaload, 1, 20, 0, 0, .inl 0)] 65 74 _ _ _ (by decide +kernel) ?_
      refine And.intro (lc_t1 hT) (Exists.intro _ (And.intro (gRc (lc_r9_0 hT)) ?_))
      refine And.intro (lc_t1 hT) ?_
      refine And.intro (lc_t2 hT) (Exists.intro _ (And.intro (lc_n2 hT) (And.intro (inb_in q8) ?_)))
      show Go _ _ _ _ _ _ 74 [(0, rc 1)] [vi ((wI y2 1 3 (y2.1 1 2)).1 2 ((wI y2 1 3 (y2.1 1 2)).1 1 2).toNatClampNeg)] ((wI y2 1 3 (y2.1 1 2), T), Y) _
      obtain ⟨r3, hr3, h⟩ := bind_el h
      refine go_callS (idx := 34) (z := 0) (M' := M9_isLetter) (n := 1) (A := [vi ((wI y2 1 3 (y2.1 1 2)).1 2 ((wI y2 1 3 (y2.1 1 2)).1 1 2).toNatClampNeg)]) (v' := some (vi r3)) (μ' := ((wI y2 1 3 (y2.1 1 2), T), Y)) (d' := 1) (mc' := 0) (ms' := 0) (kc' := 0) (ks' := 0) (by decide +kernel) ml_9_34 rfl ws9_isLetter rfl (ret9_isLetter hr3) (by decide) rfl rfl (Nat.le_of_ble_eq_true rfl) rfl (jag rfl rfl) ?_
      show Go _ _ _ _ _ _ 77 [(0, rc 1)] [vi r3] ((wI y2 1 3 (y2.1 1 2), T), Y) _
      refine ite_el h (fun q9 h => ?_) (fun q9 h => ?_)
      · refine go_if_eq (off := 10) (tgt := 87) (by decide +kernel) (by decide) (fun _ => ?_) (fun z => absurd q9 z)
        refine go_blk rfl [(.aload_n 0, 1, 0, 0, 0, .inl 0), (.getfield 9, 3, 9, 0, 1, .inl 0), (.aload_n 0, 1, 0, 0, 0, .inl 0), (.getfield 19, 3, 9, 2, 0, .inl 0), (.iaload, 1, 20, 0, 0, .inl 0)] 87 96 _ _ _ (by decide +kernel) ?_
        refine And.intro (lc_t1 hT) (Exists.intro _ (And.intro (gRc (lc_r9_0 hT)) ?_))
        refine And.intro (lc_t1 hT) ?_
        refine And.intro (lc_t2 hT) (Exists.intro _ (And.intro (lc_n2 hT) (And.intro (inb_in q8) ?_)))
        show Go _ _ _ _ _ _ 96 [(0, rc 1)] [vi ((wI y2 1 3 (y2.1 1 2)).1 2 ((wI y2 1 3 (y2.1 1 2)).1 1 2).toNatClampNeg)] ((wI y2 1 3 (y2.1 1 2), T), Y) _
        obtain ⟨r4, hr4, h⟩ := bind_el h
        refine go_callS (idx := 41) (z := 0) (M' := M9_isDigit) (n := 1) (A := [vi ((wI y2 1 3 (y2.1 1 2)).1 2 ((wI y2 1 3 (y2.1 1 2)).1 1 2).toNatClampNeg)]) (v' := some (vi r4)) (μ' := ((wI y2 1 3 (y2.1 1 2), T), Y)) (d' := 1) (mc' := 0) (ms' := 0) (kc' := 0) (ks' := 0) (by decide +kernel) ml_9_41 rfl ws9_isDigit rfl (ret9_isDigit hr4) (by decide) rfl rfl (Nat.le_of_ble_eq_true rfl) rfl (jag rfl rfl) ?_
        show Go _ _ _ _ _ _ 99 [(0, rc 1)] [vi r4] ((wI y2 1 3 (y2.1 1 2), T), Y) _
        refine ite_el h (fun q10 h => ?_) (fun q10 h => ?_)
        · refine go_if_eq (off := 10) (tgt := 109) (by decide +kernel) (by decide) (fun _ => ?_) (fun z => absurd q10 z)
          refine go_blk rfl [(.aload_n 0, 1, 0, 0, 0, .inl 0)] 109 110 _ _ _ (by decide +kernel) ?_
          show Go _ _ _ _ _ _ 110 [(0, rc 1)] [rc 1] ((wI y2 1 3 (y2.1 1 2), T), Y) _
          obtain ⟨r5, hr5, h⟩ := bind_el h
          refine go_callV (idx := 47) (z := 0) (M' := M9_readMark) (n := 0) (A := []) (v' := none) (μ' := ((r5.1, T), Y)) (d' := 2) (mc' := 0) (ms' := 0) (kc' := 0) (ks' := 0) (ci := 9) (x := .inl 1) (by decide +kernel) ml_9_47 rfl wv9_readMark rfl (by decide) rfl (lc_t1 hT) (ret9_readMark hT hr5) (by decide) rfl rfl (Nat.le_of_ble_eq_true rfl) rfl (jag rfl rfl) ?_
          show Go _ _ _ _ _ _ 113 [(0, rc 1)] [] ((r5.1, T), Y) _
          obtain ⟨rfl, rfl⟩ := Prod.mk.inj (Option.some.inj h)
          exact go_return (by decide +kernel) rfl ⟨rfl, rfl⟩
        · refine go_if_eq (off := 10) (tgt := 109) (by decide +kernel) (by decide) (fun z => absurd z q10) (fun _ => ?_)
          refine go_blk rfl [(.aload_n 0, 1, 0, 0, 0, .inl 0)] 102 103 _ _ _ (by decide +kernel) ?_
          show Go _ _ _ _ _ _ 103 [(0, rc 1)] [rc 1] ((wI y2 1 3 (y2.1 1 2), T), Y) _
          obtain ⟨r6, hr6, h⟩ := bind_el h
          refine go_callV (idx := 44) (z := 0) (M' := M9_readNumber) (n := 0) (A := []) (v' := none) (μ' := ((r6.1, T), Y)) (d' := 2) (mc' := 0) (ms' := 0) (kc' := 0) (ks' := 0) (ci := 9) (x := .inl 1) (by decide +kernel) ml_9_44 rfl wv9_readNumber rfl (by decide) rfl (lc_t1 hT) (ret9_readNumber hT hr6) (by decide) rfl rfl (Nat.le_of_ble_eq_true rfl) rfl (jag rfl rfl) ?_
          show Go _ _ _ _ _ _ 106 [(0, rc 1)] [] ((r6.1, T), Y) _
          refine go_goto (off := 7) (tgt := 113) (by decide +kernel) (by decide) ?_
          obtain ⟨rfl, rfl⟩ := Prod.mk.inj (Option.some.inj h)
          exact go_return (by decide +kernel) rfl ⟨rfl, rfl⟩
      · refine go_if_eq (off := 10) (tgt := 87) (by decide +kernel) (by decide) (fun z => absurd z q9) (fun _ => ?_)
        refine go_blk rfl [(.aload_n 0, 1, 0, 0, 0, .inl 0)] 80 81 _ _ _ (by decide +kernel) ?_
        show Go _ _ _ _ _ _ 81 [(0, rc 1)] [rc 1] ((wI y2 1 3 (y2.1 1 2), T), Y) _
        obtain ⟨r7, hr7, h⟩ := bind_el h
        refine go_callV (idx := 38) (z := 0) (M' := M9_readWord) (n := 0) (A := []) (v' := none) (μ' := ((r7.1, T), Y)) (d' := 6) (mc' := 0) (ms' := 0) (kc' := 0) (ks' := 0) (ci := 9) (x := .inl 1) (by decide +kernel) ml_9_38 rfl wv9_readWord rfl (by decide) rfl (lc_t1 hT) (ret9_readWord hT hr7) (by decide) rfl rfl (Nat.le_of_ble_eq_true rfl) rfl (jag rfl rfl) ?_
        show Go _ _ _ _ _ _ 84 [(0, rc 1)] [] ((r7.1, T), Y) _
        refine go_goto (off := 29) (tgt := 113) (by decide +kernel) (by decide) ?_
        obtain ⟨rfl, rfl⟩ := Prod.mk.inj (Option.some.inj h)
        exact go_return (by decide +kernel) rfl ⟨rfl, rfl⟩
    · refine go_icmp_lt (off := 11) (tgt := 65) (by decide +kernel) (by decide) (fun z => absurd z q7) (fun _ => ?_)
      refine go_blk rfl [(.aload_n 0, 1, 0, 0, 0, .inl 0), (.iconst 1, 1, 0, 0, 0, .inl 1), (.putfield 25, 3, 9, 4, 0, .inl 0)] 57 62 _ _ _ (by decide +kernel) ?_
      refine And.intro (lc_t1 hT) (And.intro trivial ?_)
      show Go _ _ _ _ _ _ 62 [(0, rc 1)] [] ((wI (wI y2 1 3 (y2.1 1 2)) 1 4 1, T), Y) _
      refine go_goto (off := 51) (tgt := 113) (by decide +kernel) (by decide) ?_
      obtain ⟨rfl, rfl⟩ := Prod.mk.inj (Option.some.inj h)
      exact go_return (by decide +kernel) rfl ⟨rfl, rfl⟩
  replace h := hy2
  refine ite_el h (fun q1 h => ?_) (fun q1 h => ?_)
  · refine go_icmp_ge (off := 30) (tgt := 38) (by decide +kernel) (by decide) (fun _ => ?_) (fun z => absurd q1 z)
    obtain rfl := Option.some.inj h
    refine go_pick [0] rfl ?_
    exact key
  · refine go_icmp_ge (off := 30) (tgt := 38) (by decide +kernel) (by decide) (fun z => absurd z q1) (fun _ => ?_)
    refine gd_el h (fun q2 h => ?_)
    refine go_blk rfl [(.aload_n 0, 1, 0, 0, 0, .inl 0), (.getfield 9, 3, 9, 0, 1, .inl 0), (.aload_n 0, 1, 0, 0, 0, .inl 0), (.getfield 19, 3, 9, 2, 0, .inl 0), (.iaload, 1, 20, 0, 0, .inl 0), (.bipush 32, 2, 0, 0, 0, .inl 32)] 11 22 _ _ _ (by decide +kernel) ?_
    refine And.intro (lc_t1 hT) (Exists.intro _ (And.intro (gRc (lc_r9_0 hT)) ?_))
    refine And.intro (lc_t1 hT) ?_
    refine And.intro (lc_t2 hT) (Exists.intro _ (And.intro (lc_n2 hT) (And.intro (inb_in q2) ?_)))
    show Go _ _ _ _ _ _ 22 [(0, rc 1)] [vi 32, vi (S.1 2 (S.1 1 2).toNatClampNeg)] ((S, T), Y) _
    refine ite_el h (fun q3 h => ?_) (fun q3 h => ?_)
    · refine go_icmp_ne (off := 16) (tgt := 38) (by decide +kernel) (by decide) (fun z => absurd q3 z) (fun _ => ?_)
      refine go_blk rfl [(.aload_n 0, 1, 0, 0, 0, .inl 0), (.dup, 1, 0, 0, 0, .inl 0), (.getfield 19, 3, 9, 2, 0, .inl 0), (.iconst 1, 1, 0, 0, 0, .inl 1), (.iadd, 1, 0, 0, 0, .inl 0), (.putfield 19, 3, 9, 2, 0, .inl 0)] 25 35 _ _ _ (by decide +kernel) ?_
      refine And.intro (lc_t1 hT) ?_
      refine And.intro (lc_t1 hT) (And.intro trivial ?_)
      show Go _ _ _ _ _ _ 35 [(0, rc 1)] [] ((wI S 1 2 ((S.1 1 2) + 1), T), Y) _
      refine go_goto (off := (-35)) (tgt := 0) (by decide +kernel) (by decide) ?_
      refine go_pick [0] rfl ?_
      obtain ⟨y1, hy1, h⟩ := bind_el h
      refine f9_readSign_L1_ok hT _ _ _ hy1 ?_
      show Go _ _ _ _ _ _ 38 [(0, rc 1)] [] ((y1, T), Y) _
      obtain rfl := Option.some.inj h
      refine go_pick [0] rfl ?_
      exact key
    · refine go_icmp_ne (off := 16) (tgt := 38) (by decide +kernel) (by decide) (fun _ => ?_) (fun z => absurd z q3)
      obtain rfl := Option.some.inj h
      refine go_pick [0] rfl ?_
      exact key
def f9_fail (S : jS) (a0 : Int32) : Option (jS × Int32) := some (wI S 1 6 ((1 + (8 * (S.1 1 3))) + a0), 0)
theorem ret9_fail {S : jS} {T : jT} {Y : jS × jT} {a0 : Int32} {S1 : jS} {x : Int32} (hT : LayC T) (h : f9_fail S a0 = some (S1, x)) : Ret M9_fail 1 0 0 [rc 1, vi a0] ((S, T), Y) (some (vi x)) ((S1, T), Y) := by
  refine Ret.of (by decide +kernel) (Nat.le_of_ble_eq_true rfl) ?_
  unfold f9_fail at h
  show Go _ _ _ _ _ _ 0 [(0, rc 1), (1, vi a0)] [] ((S, T), Y) _
  refine go_blk rfl [(.aload_n 0, 1, 0, 0, 0, .inl 0), (.iconst 1, 1, 0, 0, 0, .inl 1), (.bipush 8, 2, 0, 0, 0, .inl 8), (.aload_n 0, 1, 0, 0, 0, .inl 0), (.getfield 22, 3, 9, 3, 0, .inl 0), (.imul, 1, 0, 0, 0, .inl 0), (.iadd, 1, 0, 0, 0, .inl 0), (.iload_n 1, 1, 1, 0, 0, .inl 0), (.iadd, 1, 0, 0, 0, .inl 0), (.putfield 31, 3, 9, 6, 0, .inl 0)] 0 15 _ _ _ (by decide +kernel) ?_
  refine And.intro (lc_t1 hT) ?_
  refine And.intro (lc_t1 hT) (And.intro trivial ?_)
  show Go _ _ _ _ _ _ 15 [(0, rc 1), (1, vi a0)] [] ((wI S 1 6 ((1 + (8 * (S.1 1 3))) + a0), T), Y) _
  refine go_blk rfl [(.iconst 0, 1, 0, 0, 0, .inl 0)] 15 16 _ _ _ (by decide +kernel) ?_
  show Go _ _ _ _ _ _ 16 [(0, rc 1), (1, vi a0)] [vi 0] ((wI S 1 6 ((1 + (8 * (S.1 1 3))) + a0), T), Y) _
  obtain ⟨rfl, rfl⟩ := Prod.mk.inj (Option.some.inj h)
  exact go_ireturn (by decide +kernel) rfl rfl ⟨rfl, rfl⟩
