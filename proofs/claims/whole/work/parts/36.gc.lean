def f7_rankOf (a0 : Int32) : Option Int32 := (if a0 = (-23) then some 3 else (if a0 = (-22) then some 1 else (if a0 = (-21) then some 2 else (if a0 = (-20) then some 4 else (if a0 = (-19) then some 4 else (if a0 = (-18) then some 4 else (if a0 = (-17) then some 4 else (if a0 = (-16) then some 4 else (if a0 = (-15) then some 6 else (if a0 = (-14) then some 6 else (if a0 = (-13) then some 6 else (if a0 = (-12) then some 5 else (if a0 = (-11) then some 5 else some 0)))))))))))))
theorem ret7_rankOf {μ : jMem} {a0 : Int32} {x : Int32} (h : f7_rankOf a0 = some x) : Ret M7_rankOf 1 0 0 [vi a0] μ (some (vi x)) μ := by
  refine Ret.of (by decide +kernel) (Nat.le_of_ble_eq_true rfl) ?_
  unfold f7_rankOf at h
  show Go _ _ _ _ _ _ 0 [(0, vi a0)] [] μ _
  refine go_blk rfl [(.iload_n 0, 1, 0, 0, 0, .inl 0)] 0 1 _ _ _ (by decide +kernel) ?_
  show Go _ _ _ _ _ _ 1 [(0, vi a0)] [vi a0] μ _
  refine ite_el h (fun q1 h => ?_) (fun q1 h => ?_)
  · refine go_tableIn (dflt := 80) (lo := (-23)) (hi := (-11)) (offs := #[74, 78, 76, 72, 72, 72, 72, 72, 67, 67, 67, 70, 70]) (len := 67) (off := 74) (tgt := 75) (by decide +kernel) (by rw [q1]; decide) (by rw [q1]; decide) (by rw [q1]; decide) (by decide) ?_
    refine go_blk rfl [(.iconst 3, 1, 0, 0, 0, .inl 3)] 75 76 _ _ _ (by decide +kernel) ?_
    show Go _ _ _ _ _ _ 76 [(0, vi a0)] [vi 3] μ _
    obtain rfl := Option.some.inj h
    exact go_ireturn (by decide +kernel) rfl rfl ⟨rfl, rfl⟩
  refine ite_el h (fun q2 h => ?_) (fun q2 h => ?_)
  · refine go_tableIn (dflt := 80) (lo := (-23)) (hi := (-11)) (offs := #[74, 78, 76, 72, 72, 72, 72, 72, 67, 67, 67, 70, 70]) (len := 67) (off := 78) (tgt := 79) (by decide +kernel) (by rw [q2]; decide) (by rw [q2]; decide) (by rw [q2]; decide) (by decide) ?_
    refine go_blk rfl [(.iconst 1, 1, 0, 0, 0, .inl 1)] 79 80 _ _ _ (by decide +kernel) ?_
    show Go _ _ _ _ _ _ 80 [(0, vi a0)] [vi 1] μ _
    obtain rfl := Option.some.inj h
    exact go_ireturn (by decide +kernel) rfl rfl ⟨rfl, rfl⟩
  refine ite_el h (fun q3 h => ?_) (fun q3 h => ?_)
  · refine go_tableIn (dflt := 80) (lo := (-23)) (hi := (-11)) (offs := #[74, 78, 76, 72, 72, 72, 72, 72, 67, 67, 67, 70, 70]) (len := 67) (off := 76) (tgt := 77) (by decide +kernel) (by rw [q3]; decide) (by rw [q3]; decide) (by rw [q3]; decide) (by decide) ?_
    refine go_blk rfl [(.iconst 2, 1, 0, 0, 0, .inl 2)] 77 78 _ _ _ (by decide +kernel) ?_
    show Go _ _ _ _ _ _ 78 [(0, vi a0)] [vi 2] μ _
    obtain rfl := Option.some.inj h
    exact go_ireturn (by decide +kernel) rfl rfl ⟨rfl, rfl⟩
  refine ite_el h (fun q4 h => ?_) (fun q4 h => ?_)
  · refine go_tableIn (dflt := 80) (lo := (-23)) (hi := (-11)) (offs := #[74, 78, 76, 72, 72, 72, 72, 72, 67, 67, 67, 70, 70]) (len := 67) (off := 72) (tgt := 73) (by decide +kernel) (by rw [q4]; decide) (by rw [q4]; decide) (by rw [q4]; decide) (by decide) ?_
    refine go_blk rfl [(.iconst 4, 1, 0, 0, 0, .inl 4)] 73 74 _ _ _ (by decide +kernel) ?_
    show Go _ _ _ _ _ _ 74 [(0, vi a0)] [vi 4] μ _
    obtain rfl := Option.some.inj h
    exact go_ireturn (by decide +kernel) rfl rfl ⟨rfl, rfl⟩
  refine ite_el h (fun q5 h => ?_) (fun q5 h => ?_)
  · refine go_tableIn (dflt := 80) (lo := (-23)) (hi := (-11)) (offs := #[74, 78, 76, 72, 72, 72, 72, 72, 67, 67, 67, 70, 70]) (len := 67) (off := 72) (tgt := 73) (by decide +kernel) (by rw [q5]; decide) (by rw [q5]; decide) (by rw [q5]; decide) (by decide) ?_
    refine go_blk rfl [(.iconst 4, 1, 0, 0, 0, .inl 4)] 73 74 _ _ _ (by decide +kernel) ?_
    show Go _ _ _ _ _ _ 74 [(0, vi a0)] [vi 4] μ _
    obtain rfl := Option.some.inj h
    exact go_ireturn (by decide +kernel) rfl rfl ⟨rfl, rfl⟩
  refine ite_el h (fun q6 h => ?_) (fun q6 h => ?_)
  · refine go_tableIn (dflt := 80) (lo := (-23)) (hi := (-11)) (offs := #[74, 78, 76, 72, 72, 72, 72, 72, 67, 67, 67, 70, 70]) (len := 67) (off := 72) (tgt := 73) (by decide +kernel) (by rw [q6]; decide) (by rw [q6]; decide) (by rw [q6]; decide) (by decide) ?_
    refine go_blk rfl [(.iconst 4, 1, 0, 0, 0, .inl 4)] 73 74 _ _ _ (by decide +kernel) ?_
    show Go _ _ _ _ _ _ 74 [(0, vi a0)] [vi 4] μ _
    obtain rfl := Option.some.inj h
    exact go_ireturn (by decide +kernel) rfl rfl ⟨rfl, rfl⟩
  refine ite_el h (fun q7 h => ?_) (fun q7 h => ?_)
  · refine go_tableIn (dflt := 80) (lo := (-23)) (hi := (-11)) (offs := #[74, 78, 76, 72, 72, 72, 72, 72, 67, 67, 67, 70, 70]) (len := 67) (off := 72) (tgt := 73) (by decide +kernel) (by rw [q7]; decide) (by rw [q7]; decide) (by rw [q7]; decide) (by decide) ?_
    refine go_blk rfl [(.iconst 4, 1, 0, 0, 0, .inl 4)] 73 74 _ _ _ (by decide +kernel) ?_
    show Go _ _ _ _ _ _ 74 [(0, vi a0)] [vi 4] μ _
    obtain rfl := Option.some.inj h
    exact go_ireturn (by decide +kernel) rfl rfl ⟨rfl, rfl⟩
  refine ite_el h (fun q8 h => ?_) (fun q8 h => ?_)
  · refine go_tableIn (dflt := 80) (lo := (-23)) (hi := (-11)) (offs := #[74, 78, 76, 72, 72, 72, 72, 72, 67, 67, 67, 70, 70]) (len := 67) (off := 72) (tgt := 73) (by decide +kernel) (by rw [q8]; decide) (by rw [q8]; decide) (by rw [q8]; decide) (by decide) ?_
    refine go_blk rfl [(.iconst 4, 1, 0, 0, 0, .inl 4)] 73 74 _ _ _ (by decide +kernel) ?_
    show Go _ _ _ _ _ _ 74 [(0, vi a0)] [vi 4] μ _
    obtain rfl := Option.some.inj h
    exact go_ireturn (by decide +kernel) rfl rfl ⟨rfl, rfl⟩
  refine ite_el h (fun q9 h => ?_) (fun q9 h => ?_)
  · refine go_tableIn (dflt := 80) (lo := (-23)) (hi := (-11)) (offs := #[74, 78, 76, 72, 72, 72, 72, 72, 67, 67, 67, 70, 70]) (len := 67) (off := 67) (tgt := 68) (by decide +kernel) (by rw [q9]; decide) (by rw [q9]; decide) (by rw [q9]; decide) (by decide) ?_
    refine go_blk rfl [(.bipush 6, 2, 0, 0, 0, .inl 6)] 68 70 _ _ _ (by decide +kernel) ?_
    show Go _ _ _ _ _ _ 70 [(0, vi a0)] [vi 6] μ _
    obtain rfl := Option.some.inj h
    exact go_ireturn (by decide +kernel) rfl rfl ⟨rfl, rfl⟩
  refine ite_el h (fun q10 h => ?_) (fun q10 h => ?_)
  · refine go_tableIn (dflt := 80) (lo := (-23)) (hi := (-11)) (offs := #[74, 78, 76, 72, 72, 72, 72, 72, 67, 67, 67, 70, 70]) (len := 67) (off := 67) (tgt := 68) (by decide +kernel) (by rw [q10]; decide) (by rw [q10]; decide) (by rw [q10]; decide) (by decide) ?_
    refine go_blk rfl [(.bipush 6, 2, 0, 0, 0, .inl 6)] 68 70 _ _ _ (by decide +kernel) ?_
    show Go _ _ _ _ _ _ 70 [(0, vi a0)] [vi 6] μ _
    obtain rfl := Option.some.inj h
    exact go_ireturn (by decide +kernel) rfl rfl ⟨rfl, rfl⟩
  refine ite_el h (fun q11 h => ?_) (fun q11 h => ?_)
  · refine go_tableIn (dflt := 80) (lo := (-23)) (hi := (-11)) (offs := #[74, 78, 76, 72, 72, 72, 72, 72, 67, 67, 67, 70, 70]) (len := 67) (off := 67) (tgt := 68) (by decide +kernel) (by rw [q11]; decide) (by rw [q11]; decide) (by rw [q11]; decide) (by decide) ?_
    refine go_blk rfl [(.bipush 6, 2, 0, 0, 0, .inl 6)] 68 70 _ _ _ (by decide +kernel) ?_
    show Go _ _ _ _ _ _ 70 [(0, vi a0)] [vi 6] μ _
    obtain rfl := Option.some.inj h
    exact go_ireturn (by decide +kernel) rfl rfl ⟨rfl, rfl⟩
  refine ite_el h (fun q12 h => ?_) (fun q12 h => ?_)
  · refine go_tableIn (dflt := 80) (lo := (-23)) (hi := (-11)) (offs := #[74, 78, 76, 72, 72, 72, 72, 72, 67, 67, 67, 70, 70]) (len := 67) (off := 70) (tgt := 71) (by decide +kernel) (by rw [q12]; decide) (by rw [q12]; decide) (by rw [q12]; decide) (by decide) ?_
    refine go_blk rfl [(.iconst 5, 1, 0, 0, 0, .inl 5)] 71 72 _ _ _ (by decide +kernel) ?_
    show Go _ _ _ _ _ _ 72 [(0, vi a0)] [vi 5] μ _
    obtain rfl := Option.some.inj h
    exact go_ireturn (by decide +kernel) rfl rfl ⟨rfl, rfl⟩
  refine ite_el h (fun q13 h => ?_) (fun q13 h => ?_)
  · refine go_tableIn (dflt := 80) (lo := (-23)) (hi := (-11)) (offs := #[74, 78, 76, 72, 72, 72, 72, 72, 67, 67, 67, 70, 70]) (len := 67) (off := 70) (tgt := 71) (by decide +kernel) (by rw [q13]; decide) (by rw [q13]; decide) (by rw [q13]; decide) (by decide) ?_
    refine go_blk rfl [(.iconst 5, 1, 0, 0, 0, .inl 5)] 71 72 _ _ _ (by decide +kernel) ?_
    show Go _ _ _ _ _ _ 72 [(0, vi a0)] [vi 5] μ _
    obtain rfl := Option.some.inj h
    exact go_ireturn (by decide +kernel) rfl rfl ⟨rfl, rfl⟩
  refine go_tableOut (dflt := 80) (lo := (-23)) (hi := (-11)) (offs := #[74, 78, 76, 72, 72, 72, 72, 72, 67, 67, 67, 70, 70]) (len := 67) (tgt := 81) (by decide +kernel) (by have z0 : a0.toInt ≠ (-23) := tb_ne q1 (by decide); have z1 : a0.toInt ≠ (-22) := tb_ne q2 (by decide); have z2 : a0.toInt ≠ (-21) := tb_ne q3 (by decide); have z3 : a0.toInt ≠ (-20) := tb_ne q4 (by decide); have z4 : a0.toInt ≠ (-19) := tb_ne q5 (by decide); have z5 : a0.toInt ≠ (-18) := tb_ne q6 (by decide); have z6 : a0.toInt ≠ (-17) := tb_ne q7 (by decide); have z7 : a0.toInt ≠ (-16) := tb_ne q8 (by decide); have z8 : a0.toInt ≠ (-15) := tb_ne q9 (by decide); have z9 : a0.toInt ≠ (-14) := tb_ne q10 (by decide); have z10 : a0.toInt ≠ (-13) := tb_ne q11 (by decide); have z11 : a0.toInt ≠ (-12) := tb_ne q12 (by decide); have z12 : a0.toInt ≠ (-11) := tb_ne q13 (by decide); omega) (by decide) ?_
  refine go_blk rfl [(.iconst 0, 1, 0, 0, 0, .inl 0)] 81 82 _ _ _ (by decide +kernel) ?_
  show Go _ _ _ _ _ _ 82 [(0, vi a0)] [vi 0] μ _
  obtain rfl := Option.some.inj h
  exact go_ireturn (by decide +kernel) rfl rfl ⟨rfl, rfl⟩
def f7_release_L1 (l1 : Int32) : Nat → jS → Option jS
  | 0, _ => none
  | n + 1, S => (if (S.1 12 4) ≤ 0 then some S else (if inb ((S.1 12 4) - 1) 64 then Option.bind (f7_rankOf (S.1 14 ((S.1 12 4) - 1).toNatClampNeg)) (fun r4 => (if r4 < l1 then some S else (if inb ((wI S 12 4 ((S.1 12 4) - 1)).1 12 4) 64 then Option.bind (if ((wI S 12 4 ((S.1 12 4) - 1)).1 14 ((wI S 12 4 ((S.1 12 4) - 1)).1 12 4).toNatClampNeg) = ((-23)) then some (wI (wI S 12 4 ((S.1 12 4) - 1)) 12 8 (((wI S 12 4 ((S.1 12 4) - 1)).1 12 8) - 1)) else some (wI S 12 4 ((S.1 12 4) - 1))) (fun (y5 : jS) => (if inb (y5.1 12 4) 64 then Option.bind (f7_emit y5 (y5.1 14 (y5.1 12 4).toNatClampNeg)) (fun r6 => f7_release_L1 l1 n r6.1) else none)) else none))) else none))
def f7_release (S : jS) (a0 : Int32) : Option (jS × Unit) := (if (S.1 12 4) ≤ 0 then some (S, ()) else (if inb ((S.1 12 4) - 1) 64 then Option.bind (f7_rankOf (S.1 14 ((S.1 12 4) - 1).toNatClampNeg)) (fun r1 => (if r1 < a0 then some (S, ()) else (if inb ((wI S 12 4 ((S.1 12 4) - 1)).1 12 4) 64 then Option.bind (if ((wI S 12 4 ((S.1 12 4) - 1)).1 14 ((wI S 12 4 ((S.1 12 4) - 1)).1 12 4).toNatClampNeg) = ((-23)) then some (wI (wI S 12 4 ((S.1 12 4) - 1)) 12 8 (((wI S 12 4 ((S.1 12 4) - 1)).1 12 8) - 1)) else some (wI S 12 4 ((S.1 12 4) - 1))) (fun (y2 : jS) => (if inb (y2.1 12 4) 64 then Option.bind (f7_emit y2 (y2.1 14 (y2.1 12 4).toNatClampNeg)) (fun r3 => Option.bind (f7_release_L1 a0 jF r3.1) (fun y7 => some (y7, ()))) else none)) else none))) else none))
theorem f7_release_L1_ok {T : jT} {Y : jS × jT} {l1 : Int32} {Q : Option jV → jMem → Prop} (hT : LayC T) : ∀ (n : Nat) (S : jS) (r : jS), f7_release_L1 l1 n S = some r → Go M7_release 2 0 0 0 0 75 [] [] ((r, T), Y) Q → Go M7_release 2 0 0 0 0 0 [(0, rc 12), (1, vi l1)] [] ((S, T), Y) Q := by
  intro n
  induction n with
  | zero => intro S r h k; exact absurd h (by intro z; cases z)
  | succ n ih =>
    intro S r h k
    rw [f7_release_L1] at h
    refine go_blk rfl [(.aload_n 0, 1, 0, 0, 0, .inl 0), (.getfield 22, 3, 7, 4, 0, .inl 0)] 0 4 _ _ _ (by decide +kernel) ?_
    refine And.intro (lc_t12 hT) ?_
    show Go _ _ _ _ _ _ 4 [(0, rc 12), (1, vi l1)] [vi (S.1 12 4)] ((S, T), Y) _
    refine ite_el h (fun q7 h => ?_) (fun q7 h => ?_)
    · refine go_if_le (off := 71) (tgt := 75) (by decide +kernel) (by decide) (fun _ => ?_) (fun z => absurd q7 z)
      obtain rfl := Option.some.inj h
      refine go_pick [] rfl ?_
      exact k
    · refine go_if_le (off := 71) (tgt := 75) (by decide +kernel) (by decide) (fun z => absurd z q7) (fun _ => ?_)
      refine gd_el h (fun q8 h => ?_)
      refine go_blk rfl [(.aload_n 0, 1, 0, 0, 0, .inl 0), (.getfield 19, 3, 7, 3, 1, .inl 0), (.aload_n 0, 1, 0, 0, 0, .inl 0), (.getfield 22, 3, 7, 4, 0, .inl 0), (.iconst 1, 1, 0, 0, 0, .inl 1), (.isub, 1, 0, 0, 0, .inl 0), (.iaload, 1, 20, 0, 0, .inl 0)] 7 18 _ _ _ (by decide +kernel) ?_
      refine And.intro (lc_t12 hT) (Exists.intro _ (And.intro (gRc (lc_r7_3 hT)) ?_))
      refine And.intro (lc_t12 hT) ?_
      refine And.intro (lc_t14 hT) (Exists.intro _ (And.intro (lc_n14 hT) (And.intro (inb_in q8) ?_)))
      show Go _ _ _ _ _ _ 18 [(0, rc 12), (1, vi l1)] [vi (S.1 14 ((S.1 12 4) - 1).toNatClampNeg)] ((S, T), Y) _
      obtain ⟨r4, hr4, h⟩ := bind_el h
      refine go_callS (idx := 106) (z := 0) (M' := M7_rankOf) (n := 1) (A := [vi (S.1 14 ((S.1 12 4) - 1).toNatClampNeg)]) (v' := some (vi r4)) (μ' := ((S, T), Y)) (d' := 1) (mc' := 0) (ms' := 0) (kc' := 0) (ks' := 0) (by decide +kernel) ml_7_106 rfl ws7_rankOf rfl (ret7_rankOf hr4) (by decide) rfl rfl (Nat.le_of_ble_eq_true rfl) rfl (jag rfl rfl) ?_
      show Go _ _ _ _ _ _ 21 [(0, rc 12), (1, vi l1)] [vi r4] ((S, T), Y) _
      refine go_blk rfl [(.iload_n 1, 1, 1, 0, 0, .inl 0)] 21 22 _ _ _ (by decide +kernel) ?_
      show Go _ _ _ _ _ _ 22 [(0, rc 12), (1, vi l1)] [vi l1, vi r4] ((S, T), Y) _
      refine ite_el h (fun q9 h => ?_) (fun q9 h => ?_)
      · refine go_icmp_lt (off := 53) (tgt := 75) (by decide +kernel) (by decide) (fun _ => ?_) (fun z => absurd q9 z)
        obtain rfl := Option.some.inj h
        refine go_pick [] rfl ?_
        exact k
      · refine go_icmp_lt (off := 53) (tgt := 75) (by decide +kernel) (by decide) (fun z => absurd z q9) (fun _ => ?_)
        refine go_blk rfl [(.aload_n 0, 1, 0, 0, 0, .inl 0), (.dup, 1, 0, 0, 0, .inl 0), (.getfield 22, 3, 7, 4, 0, .inl 0), (.iconst 1, 1, 0, 0, 0, .inl 1), (.isub, 1, 0, 0, 0, .inl 0), (.putfield 22, 3, 7, 4, 0, .inl 0)] 25 35 _ _ _ (by decide +kernel) ?_
        refine And.intro (lc_t12 hT) ?_
        refine And.intro (lc_t12 hT) (And.intro trivial ?_)
        show Go _ _ _ _ _ _ 35 [(0, rc 12), (1, vi l1)] [] ((wI S 12 4 ((S.1 12 4) - 1), T), Y) _
        refine gd_el h (fun q10 h => ?_)
        refine go_blk rfl [(.aload_n 0, 1, 0, 0, 0, .inl 0), (.getfield 19, 3, 7, 3, 1, .inl 0), (.aload_n 0, 1, 0, 0, 0, .inl 0), (.getfield 22, 3, 7, 4, 0, .inl 0), (.iaload, 1, 20, 0, 0, .inl 0), (.bipush (-23), 2, 0, 0, 0, .inl (-23))] 35 46 _ _ _ (by decide +kernel) ?_
        refine And.intro (lc_t12 hT) (Exists.intro _ (And.intro (gRc (lc_r7_3 hT)) ?_))
        refine And.intro (lc_t12 hT) ?_
        refine And.intro (lc_t14 hT) (Exists.intro _ (And.intro (lc_n14 hT) (And.intro (inb_in q10) ?_)))
        show Go _ _ _ _ _ _ 46 [(0, rc 12), (1, vi l1)] [vi ((-23)), vi ((wI S 12 4 ((S.1 12 4) - 1)).1 14 ((wI S 12 4 ((S.1 12 4) - 1)).1 12 4).toNatClampNeg)] ((wI S 12 4 ((S.1 12 4) - 1), T), Y) _
        obtain ⟨y5, hy5, h⟩ := bind_el h
        have key : Go M7_release 2 0 0 0 0 59 [(0, rc 12), (1, vi l1)] [] ((y5, T), Y) Q := by
          refine gd_el h (fun q12 h => ?_)
          refine go_blk rfl [(.aload_n 0, 1, 0, 0, 0, .inl 0), (.aload_n 0, 1, 0, 0, 0, .inl 0), (.getfield 19, 3, 7, 3, 1, .inl 0), (.aload_n 0, 1, 0, 0, 0, .inl 0), (.getfield 22, 3, 7, 4, 0, .inl 0), (.iaload, 1, 20, 0, 0, .inl 0)] 59 69 _ _ _ (by decide +kernel) ?_
          refine And.intro (lc_t12 hT) (Exists.intro _ (And.intro (gRc (lc_r7_3 hT)) ?_))
          refine And.intro (lc_t12 hT) ?_
          refine And.intro (lc_t14 hT) (Exists.intro _ (And.intro (lc_n14 hT) (And.intro (inb_in q12) ?_)))
          show Go _ _ _ _ _ _ 69 [(0, rc 12), (1, vi l1)] [vi (y5.1 14 (y5.1 12 4).toNatClampNeg), rc 12] ((y5, T), Y) _
          obtain ⟨r6, hr6, h⟩ := bind_el h
          refine go_callV (idx := 103) (z := 0) (M' := M7_emit) (n := 1) (A := [vi (y5.1 14 (y5.1 12 4).toNatClampNeg)]) (v' := none) (μ' := ((r6.1, T), Y)) (d' := 1) (mc' := 0) (ms' := 0) (kc' := 0) (ks' := 0) (ci := 7) (x := .inl 12) (by decide +kernel) ml_7_103 rfl wv7_emit rfl (by decide) rfl (lc_t12 hT) (ret7_emit hT hr6) (by decide) rfl rfl (Nat.le_of_ble_eq_true rfl) rfl (jag rfl rfl) ?_
          show Go _ _ _ _ _ _ 72 [(0, rc 12), (1, vi l1)] [] ((r6.1, T), Y) _
          refine go_goto (off := (-72)) (tgt := 0) (by decide +kernel) (by decide) ?_
          refine go_pick [0, 1] rfl ?_
          exact ih _ _ h k
        replace h := hy5
        refine ite_el h (fun q11 h => ?_) (fun q11 h => ?_)
        · refine go_icmp_ne (off := 13) (tgt := 59) (by decide +kernel) (by decide) (fun z => absurd q11 z) (fun _ => ?_)
          refine go_blk rfl [(.aload_n 0, 1, 0, 0, 0, .inl 0), (.dup, 1, 0, 0, 0, .inl 0), (.getfield 34, 3, 7, 8, 0, .inl 0), (.iconst 1, 1, 0, 0, 0, .inl 1), (.isub, 1, 0, 0, 0, .inl 0), (.putfield 34, 3, 7, 8, 0, .inl 0)] 49 59 _ _ _ (by decide +kernel) ?_
          refine And.intro (lc_t12 hT) ?_
          refine And.intro (lc_t12 hT) (And.intro trivial ?_)
          show Go _ _ _ _ _ _ 59 [(0, rc 12), (1, vi l1)] [] ((wI (wI S 12 4 ((S.1 12 4) - 1)) 12 8 (((wI S 12 4 ((S.1 12 4) - 1)).1 12 8) - 1), T), Y) _
          obtain rfl := Option.some.inj h
          refine go_pick [0, 1] rfl ?_
          exact key
        · refine go_icmp_ne (off := 13) (tgt := 59) (by decide +kernel) (by decide) (fun _ => ?_) (fun z => absurd z q11)
          obtain rfl := Option.some.inj h
          refine go_pick [0, 1] rfl ?_
          exact key
theorem ret7_release {S : jS} {T : jT} {Y : jS × jT} {a0 : Int32} {S1 : jS} {x : Unit} (hT : LayC T) (h : f7_release S a0 = some (S1, x)) : Ret M7_release 2 0 0 [rc 12, vi a0] ((S, T), Y) (none) ((S1, T), Y) := by
  refine Ret.of (by decide +kernel) (Nat.le_of_ble_eq_true rfl) ?_
  unfold f7_release at h
  show Go _ _ _ _ _ _ 0 [(0, rc 12), (1, vi a0)] [] ((S, T), Y) _
  refine go_blk rfl [(.aload_n 0, 1, 0, 0, 0, .inl 0), (.getfield 22, 3, 7, 4, 0, .inl 0)] 0 4 _ _ _ (by decide +kernel) ?_
  refine And.intro (lc_t12 hT) ?_
  show Go _ _ _ _ _ _ 4 [(0, rc 12), (1, vi a0)] [vi (S.1 12 4)] ((S, T), Y) _
  refine ite_el h (fun q1 h => ?_) (fun q1 h => ?_)
  · refine go_if_le (off := 71) (tgt := 75) (by decide +kernel) (by decide) (fun _ => ?_) (fun z => absurd q1 z)
    obtain ⟨rfl, rfl⟩ := Prod.mk.inj (Option.some.inj h)
    exact go_return (by decide +kernel) rfl ⟨rfl, rfl⟩
  · refine go_if_le (off := 71) (tgt := 75) (by decide +kernel) (by decide) (fun z => absurd z q1) (fun _ => ?_)
    refine gd_el h (fun q2 h => ?_)
    refine go_blk rfl [(.aload_n 0, 1, 0, 0, 0, .inl 0), (.getfield 19, 3, 7, 3, 1, .inl 0), (.aload_n 0, 1, 0, 0, 0, .inl 0), (.getfield 22, 3, 7, 4, 0, .inl 0), (.iconst 1, 1, 0, 0, 0, .inl 1), (.isub, 1, 0, 0, 0, .inl 0), (.iaload, 1, 20, 0, 0, .inl 0)] 7 18 _ _ _ (by decide +kernel) ?_
    refine And.intro (lc_t12 hT) (Exists.intro _ (And.intro (gRc (lc_r7_3 hT)) ?_))
    refine And.intro (lc_t12 hT) ?_
    refine And.intro (lc_t14 hT) (Exists.intro _ (And.intro (lc_n14 hT) (And.intro (inb_in q2) ?_)))
    show Go _ _ _ _ _ _ 18 [(0, rc 12), (1, vi a0)] [vi (S.1 14 ((S.1 12 4) - 1).toNatClampNeg)] ((S, T), Y) _
    obtain ⟨r1, hr1, h⟩ := bind_el h
    refine go_callS (idx := 106) (z := 0) (M' := M7_rankOf) (n := 1) (A := [vi (S.1 14 ((S.1 12 4) - 1).toNatClampNeg)]) (v' := some (vi r1)) (μ' := ((S, T), Y)) (d' := 1) (mc' := 0) (ms' := 0) (kc' := 0) (ks' := 0) (by decide +kernel) ml_7_106 rfl ws7_rankOf rfl (ret7_rankOf hr1) (by decide) rfl rfl (Nat.le_of_ble_eq_true rfl) rfl (jag rfl rfl) ?_
    show Go _ _ _ _ _ _ 21 [(0, rc 12), (1, vi a0)] [vi r1] ((S, T), Y) _
    refine go_blk rfl [(.iload_n 1, 1, 1, 0, 0, .inl 0)] 21 22 _ _ _ (by decide +kernel) ?_
    show Go _ _ _ _ _ _ 22 [(0, rc 12), (1, vi a0)] [vi a0, vi r1] ((S, T), Y) _
    refine ite_el h (fun q3 h => ?_) (fun q3 h => ?_)
    · refine go_icmp_lt (off := 53) (tgt := 75) (by decide +kernel) (by decide) (fun _ => ?_) (fun z => absurd q3 z)
      obtain ⟨rfl, rfl⟩ := Prod.mk.inj (Option.some.inj h)
      exact go_return (by decide +kernel) rfl ⟨rfl, rfl⟩
    · refine go_icmp_lt (off := 53) (tgt := 75) (by decide +kernel) (by decide) (fun z => absurd z q3) (fun _ => ?_)
      refine go_blk rfl [(.aload_n 0, 1, 0, 0, 0, .inl 0), (.dup, 1, 0, 0, 0, .inl 0), (.getfield 22, 3, 7, 4, 0, .inl 0), (.iconst 1, 1, 0, 0, 0, .inl 1), (.isub, 1, 0, 0, 0, .inl 0), (.putfield 22, 3, 7, 4, 0, .inl 0)] 25 35 _ _ _ (by decide +kernel) ?_
      refine And.intro (lc_t12 hT) ?_
      refine And.intro (lc_t12 hT) (And.intro trivial ?_)
      show Go _ _ _ _ _ _ 35 [(0, rc 12), (1, vi a0)] [] ((wI S 12 4 ((S.1 12 4) - 1), T), Y) _
      refine gd_el h (fun q4 h => ?_)
      refine go_blk rfl [(.aload_n 0, 1, 0, 0, 0, .inl 0), (.getfield 19, 3, 7, 3, 1, .inl 0), (.aload_n 0, 1, 0, 0, 0, .inl 0), (.getfield 22, 3, 7, 4, 0, .inl 0), (.iaload, 1, 20, 0, 0, .inl 0), (.bipush (-23), 2, 0, 0, 0, .inl (-23))] 35 46 _ _ _ (by decide +kernel) ?_
      refine And.intro (lc_t12 hT) (Exists.intro _ (And.intro (gRc (lc_r7_3 hT)) ?_))
      refine And.intro (lc_t12 hT) ?_
      refine And.intro (lc_t14 hT) (Exists.intro _ (And.intro (lc_n14 hT) (And.intro (inb_in q4) ?_)))
      show Go _ _ _ _ _ _ 46 [(0, rc 12), (1, vi a0)] [vi ((-23)), vi ((wI S 12 4 ((S.1 12 4) - 1)).1 14 ((wI S 12 4 ((S.1 12 4) - 1)).1 12 4).toNatClampNeg)] ((wI S 12 4 ((S.1 12 4) - 1), T), Y) _
      obtain ⟨y2, hy2, h⟩ := bind_el h
      have key : Go M7_release 2 0 0 0 0 59 [(0, rc 12), (1, vi a0)] [] ((y2, T), Y) (eqQ none ((S1, T), Y)) := by
        refine gd_el h (fun q6 h => ?_)
        refine go_blk rfl [(.aload_n 0, 1, 0, 0, 0, .inl 0), (.aload_n 0, 1, 0, 0, 0, .inl 0), (.getfield 19, 3, 7, 3, 1, .inl 0), (.aload_n 0, 1, 0, 0, 0, .inl 0), (.getfield 22, 3, 7, 4, 0, .inl 0), (.iaload, 1, 20, 0, 0, .inl 0)] 59 69 _ _ _ (by decide +kernel) ?_
        refine And.intro (lc_t12 hT) (Exists.intro _ (And.intro (gRc (lc_r7_3 hT)) ?_))
        refine And.intro (lc_t12 hT) ?_
        refine And.intro (lc_t14 hT) (Exists.intro _ (And.intro (lc_n14 hT) (And.intro (inb_in q6) ?_)))
        show Go _ _ _ _ _ _ 69 [(0, rc 12), (1, vi a0)] [vi (y2.1 14 (y2.1 12 4).toNatClampNeg), rc 12] ((y2, T), Y) _
        obtain ⟨r3, hr3, h⟩ := bind_el h
        refine go_callV (idx := 103) (z := 0) (M' := M7_emit) (n := 1) (A := [vi (y2.1 14 (y2.1 12 4).toNatClampNeg)]) (v' := none) (μ' := ((r3.1, T), Y)) (d' := 1) (mc' := 0) (ms' := 0) (kc' := 0) (ks' := 0) (ci := 7) (x := .inl 12) (by decide +kernel) ml_7_103 rfl wv7_emit rfl (by decide) rfl (lc_t12 hT) (ret7_emit hT hr3) (by decide) rfl rfl (Nat.le_of_ble_eq_true rfl) rfl (jag rfl rfl) ?_
        show Go _ _ _ _ _ _ 72 [(0, rc 12), (1, vi a0)] [] ((r3.1, T), Y) _
        refine go_goto (off := (-72)) (tgt := 0) (by decide +kernel) (by decide) ?_
        refine go_pick [0, 1] rfl ?_
        obtain ⟨y7, hy7, h⟩ := bind_el h
        refine f7_release_L1_ok hT _ _ _ hy7 ?_
        show Go _ _ _ _ _ _ 75 [] [] ((y7, T), Y) _
        obtain ⟨rfl, rfl⟩ := Prod.mk.inj (Option.some.inj h)
        exact go_return (by decide +kernel) rfl ⟨rfl, rfl⟩
      replace h := hy2
      refine ite_el h (fun q5 h => ?_) (fun q5 h => ?_)
      · refine go_icmp_ne (off := 13) (tgt := 59) (by decide +kernel) (by decide) (fun z => absurd q5 z) (fun _ => ?_)
        refine go_blk rfl [(.aload_n 0, 1, 0, 0, 0, .inl 0), (.dup, 1, 0, 0, 0, .inl 0), (.getfield 34, 3, 7, 8, 0, .inl 0), (.iconst 1, 1, 0, 0, 0, .inl 1), (.isub, 1, 0, 0, 0, .inl 0), (.putfield 34, 3, 7, 8, 0, .inl 0)] 49 59 _ _ _ (by decide +kernel) ?_
        refine And.intro (lc_t12 hT) ?_
        refine And.intro (lc_t12 hT) (And.intro trivial ?_)
        show Go _ _ _ _ _ _ 59 [(0, rc 12), (1, vi a0)] [] ((wI (wI S 12 4 ((S.1 12 4) - 1)) 12 8 (((wI S 12 4 ((S.1 12 4) - 1)).1 12 8) - 1), T), Y) _
        obtain rfl := Option.some.inj h
        refine go_pick [0, 1] rfl ?_
        exact key
      · refine go_icmp_ne (off := 13) (tgt := 59) (by decide +kernel) (by decide) (fun _ => ?_) (fun z => absurd z q5)
        obtain rfl := Option.some.inj h
        refine go_pick [0, 1] rfl ?_
        exact key
def f7_takeEnd (S : jS) (a0 : Int32) : Option (jS × Int32) := (if (S.1 1 4) = 8 then Option.bind (f7_release S 1) (fun r1 => (if (r1.1.1 12 4) ≤ 0 then Option.bind (f7_emit r1.1 a0) (fun r2 => some (wI r2.1 12 5 (((if (r2.1.1 1 4) = 8 then 0 else 5) : Int32)), 1)) else Option.bind (f9_fail r1.1 0) (fun r3 => (if r3.2 = 0 ∨ r3.2 = 1 then some (r3.1, r3.2) else none)))) else (if (S.1 1 4) = 1 then Option.bind (f7_release S 1) (fun r4 => (if (r4.1.1 12 4) ≤ 0 then Option.bind (f7_emit r4.1 a0) (fun r5 => some (wI r5.1 12 5 (((if (r5.1.1 1 4) = 8 then 0 else 5) : Int32)), 1)) else Option.bind (f9_fail r4.1 0) (fun r6 => (if r6.2 = 0 ∨ r6.2 = 1 then some (r6.1, r6.2) else none)))) else Option.bind (f9_fail S 0) (fun r7 => (if r7.2 = 0 ∨ r7.2 = 1 then some (r7.1, r7.2) else none))))
theorem ret7_takeEnd {S : jS} {T : jT} {Y : jS × jT} {a0 : Int32} {S1 : jS} {x : Int32} (hT : LayC T) (h : f7_takeEnd S a0 = some (S1, x)) : Ret M7_takeEnd 3 0 0 [rc 12, vi a0] ((S, T), Y) (some (vi x)) ((S1, T), Y) := by
  refine Ret.of (by decide +kernel) (Nat.le_of_ble_eq_true rfl) ?_
  unfold f7_takeEnd at h
  show Go _ _ _ _ _ _ 0 [(0, rc 12), (1, vi a0)] [] ((S, T), Y) _
  refine go_blk rfl [(.aload_n 0, 1, 0, 0, 0, .inl 0), (.getfield 44, 3, 7, 0, 1, .inl 0), (.getfield 89, 3, 9, 4, 0, .inl 0), (.bipush 8, 2, 0, 0, 0, .inl 8)] 0 9 _ _ _ (by decide +kernel) ?_
  refine And.intro (lc_t12 hT) (Exists.intro _ (And.intro (gRc (lc_r7_0 hT)) ?_))
  refine And.intro (lc_t1 hT) ?_
  show Go _ _ _ _ _ _ 9 [(0, rc 12), (1, vi a0)] [vi 8, vi (S.1 1 4)] ((S, T), Y) _
  refine ite_el h (fun q1 h => ?_) (fun q1 h => ?_)
  · refine go_icmp_eq (off := 23) (tgt := 32) (by decide +kernel) (by decide) (fun _ => ?_) (fun z => absurd q1 z)
    refine go_blk rfl [(.aload_n 0, 1, 0, 0, 0, .inl 0), (.iconst 1, 1, 0, 0, 0, .inl 1)] 32 34 _ _ _ (by decide +kernel) ?_
    show Go _ _ _ _ _ _ 34 [(0, rc 12), (1, vi a0)] [vi 1, rc 12] ((S, T), Y) _
    obtain ⟨r1, hr1, h⟩ := bind_el h
    refine go_callV (idx := 110) (z := 0) (M' := M7_release) (n := 1) (A := [vi 1]) (v' := none) (μ' := ((r1.1, T), Y)) (d' := 2) (mc' := 0) (ms' := 0) (kc' := 0) (ks' := 0) (ci := 7) (x := .inl 12) (by decide +kernel) ml_7_110 rfl wv7_release rfl (by decide) rfl (lc_t12 hT) (ret7_release hT hr1) (by decide) rfl rfl (Nat.le_of_ble_eq_true rfl) rfl (jag rfl rfl) ?_
    show Go _ _ _ _ _ _ 37 [(0, rc 12), (1, vi a0)] [] ((r1.1, T), Y) _
    refine go_blk rfl [(.aload_n 0, 1, 0, 0, 0, .inl 0), (.getfield 22, 3, 7, 4, 0, .inl 0)] 37 41 _ _ _ (by decide +kernel) ?_
    refine And.intro (lc_t12 hT) ?_
    show Go _ _ _ _ _ _ 41 [(0, rc 12), (1, vi a0)] [vi (r1.1.1 12 4)] ((r1.1, T), Y) _
    refine ite_el h (fun q2 h => ?_) (fun q2 h => ?_)
    · refine go_if_le (off := 12) (tgt := 53) (by decide +kernel) (by decide) (fun _ => ?_) (fun z => absurd q2 z)
      refine go_blk rfl [(.aload_n 0, 1, 0, 0, 0, .inl 0), (.iload_n 1, 1, 1, 0, 0, .inl 0)] 53 55 _ _ _ (by decide +kernel) ?_
      show Go _ _ _ _ _ _ 55 [(0, rc 12), (1, vi a0)] [vi a0, rc 12] ((r1.1, T), Y) _
      obtain ⟨r2, hr2, h⟩ := bind_el h
      refine go_callV (idx := 103) (z := 0) (M' := M7_emit) (n := 1) (A := [vi a0]) (v' := none) (μ' := ((r2.1, T), Y)) (d' := 1) (mc' := 0) (ms' := 0) (kc' := 0) (ks' := 0) (ci := 7) (x := .inl 12) (by decide +kernel) ml_7_103 rfl wv7_emit rfl (by decide) rfl (lc_t12 hT) (ret7_emit hT hr2) (by decide) rfl rfl (Nat.le_of_ble_eq_true rfl) rfl (jag rfl rfl) ?_
      show Go _ _ _ _ _ _ 58 [(0, rc 12), (1, vi a0)] [] ((r2.1, T), Y) _
      refine go_blk rfl [(.aload_n 0, 1, 0, 0, 0, .inl 0), (.aload_n 0, 1, 0, 0, 0, .inl 0), (.getfield 44, 3, 7, 0, 1, .inl 0), (.getfield 89, 3, 9, 4, 0, .inl 0), (.bipush 8, 2, 0, 0, 0, .inl 8)] 58 68 _ _ _ (by decide +kernel) ?_
      refine And.intro (lc_t12 hT) (Exists.intro _ (And.intro (gRc (lc_r7_0 hT)) ?_))
      refine And.intro (lc_t1 hT) ?_
      show Go _ _ _ _ _ _ 68 [(0, rc 12), (1, vi a0)] [vi 8, vi (r2.1.1 1 4), rc 12] ((r2.1, T), Y) _
      have key : ∀ z0 : Int32, z0 = ((if (r2.1.1 1 4) = 8 then 0 else 5) : Int32) → Go M7_takeEnd 3 0 0 0 0 76 [] [vi z0, rc 12] ((r2.1, T), Y) (eqQ (some (vi x)) ((S1, T), Y)) := by
        intro z0 ez0
        subst ez0
        refine go_blk rfl [(.putfield 25, 3, 7, 5, 0, .inl 0)] 76 79 _ _ _ (by decide +kernel) ?_
        refine And.intro (lc_t12 hT) (And.intro trivial ?_)
        show Go _ _ _ _ _ _ 79 [] [] ((wI r2.1 12 5 (((if (r2.1.1 1 4) = 8 then 0 else 5) : Int32)), T), Y) _
        refine go_blk rfl [(.iconst 1, 1, 0, 0, 0, .inl 1)] 79 80 _ _ _ (by decide +kernel) ?_
        show Go _ _ _ _ _ _ 80 [] [vi 1] ((wI r2.1 12 5 (((if (r2.1.1 1 4) = 8 then 0 else 5) : Int32)), T), Y) _
        obtain ⟨rfl, rfl⟩ := Prod.mk.inj (Option.some.inj h)
        exact go_ireturn (by decide +kernel) rfl rfl ⟨rfl, rfl⟩
      clear h
      by_cases q3 : (r2.1.1 1 4) = 8
      · refine go_icmp_ne (off := 7) (tgt := 75) (by decide +kernel) (by decide) (fun z => absurd q3 z) (fun _ => ?_)
        refine go_blk rfl [(.iconst 0, 1, 0, 0, 0, .inl 0)] 71 72 _ _ _ (by decide +kernel) ?_
        show Go _ _ _ _ _ _ 72 [(0, rc 12), (1, vi a0)] [vi 0, rc 12] ((r2.1, T), Y) _
        refine go_goto (off := 4) (tgt := 76) (by decide +kernel) (by decide) ?_
        refine go_pick [] rfl ?_; exact key _ (by rw [if_pos q3])
      · refine go_icmp_ne (off := 7) (tgt := 75) (by decide +kernel) (by decide) (fun _ => ?_) (fun z => absurd z q3)
        refine go_blk rfl [(.iconst 5, 1, 0, 0, 0, .inl 5)] 75 76 _ _ _ (by decide +kernel) ?_
        show Go _ _ _ _ _ _ 76 [(0, rc 12), (1, vi a0)] [vi 5, rc 12] ((r2.1, T), Y) _
        refine go_pick [] rfl ?_; exact key _ (by rw [if_neg q3])
    · refine go_if_le (off := 12) (tgt := 53) (by decide +kernel) (by decide) (fun z => absurd z q2) (fun _ => ?_)
      refine go_blk rfl [(.aload_n 0, 1, 0, 0, 0, .inl 0), (.getfield 44, 3, 7, 0, 1, .inl 0), (.iconst 0, 1, 0, 0, 0, .inl 0)] 44 49 _ _ _ (by decide +kernel) ?_
      refine And.intro (lc_t12 hT) (Exists.intro _ (And.intro (gRc (lc_r7_0 hT)) ?_))
      show Go _ _ _ _ _ _ 49 [(0, rc 12), (1, vi a0)] [vi 0, rc 1] ((r1.1, T), Y) _
      obtain ⟨r3, hr3, h⟩ := bind_el h
      refine go_callV (idx := 92) (z := 1) (M' := M9_fail) (n := 1) (A := [vi 0]) (v' := some (vi r3.2)) (μ' := ((r3.1, T), Y)) (d' := 1) (mc' := 0) (ms' := 0) (kc' := 0) (ks' := 0) (ci := 9) (x := .inl 1) (by decide +kernel) ml_7_92 rfl wv9_fail rfl (by decide) rfl (lc_t1 hT) (ret9_fail hT hr3) (by decide) rfl rfl (Nat.le_of_ble_eq_true rfl) rfl (jag rfl rfl) ?_
      show Go _ _ _ _ _ _ 52 [(0, rc 12), (1, vi a0)] [vi r3.2] ((r3.1, T), Y) _
      refine gd_el h (fun q h => ?_)
      obtain ⟨rfl, rfl⟩ := Prod.mk.inj (Option.some.inj h)
      exact go_ireturn (by decide +kernel) rfl (by rcases q with q | q <;> rw [q] <;> rfl) ⟨rfl, rfl⟩
  · refine go_icmp_eq (off := 23) (tgt := 32) (by decide +kernel) (by decide) (fun z => absurd z q1) (fun _ => ?_)
    refine go_blk rfl [(.aload_n 0, 1, 0, 0, 0, .inl 0), (.getfield 44, 3, 7, 0, 1, .inl 0), (.getfield 89, 3, 9, 4, 0, .inl 0), (.iconst 1, 1, 0, 0, 0, .inl 1)] 12 20 _ _ _ (by decide +kernel) ?_
    refine And.intro (lc_t12 hT) (Exists.intro _ (And.intro (gRc (lc_r7_0 hT)) ?_))
    refine And.intro (lc_t1 hT) ?_
    show Go _ _ _ _ _ _ 20 [(0, rc 12), (1, vi a0)] [vi 1, vi (S.1 1 4)] ((S, T), Y) _
    refine ite_el h (fun q4 h => ?_) (fun q4 h => ?_)
    · refine go_icmp_eq (off := 12) (tgt := 32) (by decide +kernel) (by decide) (fun _ => ?_) (fun z => absurd q4 z)
      refine go_blk rfl [(.aload_n 0, 1, 0, 0, 0, .inl 0), (.iconst 1, 1, 0, 0, 0, .inl 1)] 32 34 _ _ _ (by decide +kernel) ?_
      show Go _ _ _ _ _ _ 34 [(0, rc 12), (1, vi a0)] [vi 1, rc 12] ((S, T), Y) _
      obtain ⟨r4, hr4, h⟩ := bind_el h
      refine go_callV (idx := 110) (z := 0) (M' := M7_release) (n := 1) (A := [vi 1]) (v' := none) (μ' := ((r4.1, T), Y)) (d' := 2) (mc' := 0) (ms' := 0) (kc' := 0) (ks' := 0) (ci := 7) (x := .inl 12) (by decide +kernel) ml_7_110 rfl wv7_release rfl (by decide) rfl (lc_t12 hT) (ret7_release hT hr4) (by decide) rfl rfl (Nat.le_of_ble_eq_true rfl) rfl (jag rfl rfl) ?_
      show Go _ _ _ _ _ _ 37 [(0, rc 12), (1, vi a0)] [] ((r4.1, T), Y) _
      refine go_blk rfl [(.aload_n 0, 1, 0, 0, 0, .inl 0), (.getfield 22, 3, 7, 4, 0, .inl 0)] 37 41 _ _ _ (by decide +kernel) ?_
      refine And.intro (lc_t12 hT) ?_
      show Go _ _ _ _ _ _ 41 [(0, rc 12), (1, vi a0)] [vi (r4.1.1 12 4)] ((r4.1, T), Y) _
      refine ite_el h (fun q5 h => ?_) (fun q5 h => ?_)
      · refine go_if_le (off := 12) (tgt := 53) (by decide +kernel) (by decide) (fun _ => ?_) (fun z => absurd q5 z)
        refine go_blk rfl [(.aload_n 0, 1, 0, 0, 0, .inl 0), (.iload_n 1, 1, 1, 0, 0, .inl 0)] 53 55 _ _ _ (by decide +kernel) ?_
        show Go _ _ _ _ _ _ 55 [(0, rc 12), (1, vi a0)] [vi a0, rc 12] ((r4.1, T), Y) _
        obtain ⟨r5, hr5, h⟩ := bind_el h
        refine go_callV (idx := 103) (z := 0) (M' := M7_emit) (n := 1) (A := [vi a0]) (v' := none) (μ' := ((r5.1, T), Y)) (d' := 1) (mc' := 0) (ms' := 0) (kc' := 0) (ks' := 0) (ci := 7) (x := .inl 12) (by decide +kernel) ml_7_103 rfl wv7_emit rfl (by decide) rfl (lc_t12 hT) (ret7_emit hT hr5) (by decide) rfl rfl (Nat.le_of_ble_eq_true rfl) rfl (jag rfl rfl) ?_
        show Go _ _ _ _ _ _ 58 [(0, rc 12), (1, vi a0)] [] ((r5.1, T), Y) _
        refine go_blk rfl [(.aload_n 0, 1, 0, 0, 0, .inl 0), (.aload_n 0, 1, 0, 0, 0, .inl 0), (.getfield 44, 3, 7, 0, 1, .inl 0), (.getfield 89, 3, 9, 4, 0, .inl 0), (.bipush 8, 2, 0, 0, 0, .inl 8)] 58 68 _ _ _ (by decide +kernel) ?_
        refine And.intro (lc_t12 hT) (Exists.intro _ (And.intro (gRc (lc_r7_0 hT)) ?_))
        refine And.intro (lc_t1 hT) ?_
        show Go _ _ _ _ _ _ 68 [(0, rc 12), (1, vi a0)] [vi 8, vi (r5.1.1 1 4), rc 12] ((r5.1, T), Y) _
        have key : ∀ z0 : Int32, z0 = ((if (r5.1.1 1 4) = 8 then 0 else 5) : Int32) → Go M7_takeEnd 3 0 0 0 0 76 [] [vi z0, rc 12] ((r5.1, T), Y) (eqQ (some (vi x)) ((S1, T), Y)) := by
          intro z0 ez0
          subst ez0
          refine go_blk rfl [(.putfield 25, 3, 7, 5, 0, .inl 0)] 76 79 _ _ _ (by decide +kernel) ?_
          refine And.intro (lc_t12 hT) (And.intro trivial ?_)
          show Go _ _ _ _ _ _ 79 [] [] ((wI r5.1 12 5 (((if (r5.1.1 1 4) = 8 then 0 else 5) : Int32)), T), Y) _
          refine go_blk rfl [(.iconst 1, 1, 0, 0, 0, .inl 1)] 79 80 _ _ _ (by decide +kernel) ?_
          show Go _ _ _ _ _ _ 80 [] [vi 1] ((wI r5.1 12 5 (((if (r5.1.1 1 4) = 8 then 0 else 5) : Int32)), T), Y) _
          obtain ⟨rfl, rfl⟩ := Prod.mk.inj (Option.some.inj h)
          exact go_ireturn (by decide +kernel) rfl rfl ⟨rfl, rfl⟩
        clear h
        by_cases q6 : (r5.1.1 1 4) = 8
        · refine go_icmp_ne (off := 7) (tgt := 75) (by decide +kernel) (by decide) (fun z => absurd q6 z) (fun _ => ?_)
          refine go_blk rfl [(.iconst 0, 1, 0, 0, 0, .inl 0)] 71 72 _ _ _ (by decide +kernel) ?_
          show Go _ _ _ _ _ _ 72 [(0, rc 12), (1, vi a0)] [vi 0, rc 12] ((r5.1, T), Y) _
          refine go_goto (off := 4) (tgt := 76) (by decide +kernel) (by decide) ?_
          refine go_pick [] rfl ?_; exact key _ (by rw [if_pos q6])
        · refine go_icmp_ne (off := 7) (tgt := 75) (by decide +kernel) (by decide) (fun _ => ?_) (fun z => absurd z q6)
          refine go_blk rfl [(.iconst 5, 1, 0, 0, 0, .inl 5)] 75 76 _ _ _ (by decide +kernel) ?_
          show Go _ _ _ _ _ _ 76 [(0, rc 12), (1, vi a0)] [vi 5, rc 12] ((r5.1, T), Y) _
          refine go_pick [] rfl ?_; exact key _ (by rw [if_neg q6])
      · refine go_if_le (off := 12) (tgt := 53) (by decide +kernel) (by decide) (fun z => absurd z q5) (fun _ => ?_)
        refine go_blk rfl [(.aload_n 0, 1, 0, 0, 0, .inl 0), (.getfield 44, 3, 7, 0, 1, .inl 0), (.iconst 0, 1, 0, 0, 0, .inl 0)] 44 49 _ _ _ (by decide +kernel) ?_
        refine And.intro (lc_t12 hT) (Exists.intro _ (And.intro (gRc (lc_r7_0 hT)) ?_))
        show Go _ _ _ _ _ _ 49 [(0, rc 12), (1, vi a0)] [vi 0, rc 1] ((r4.1, T), Y) _
        obtain ⟨r6, hr6, h⟩ := bind_el h
        refine go_callV (idx := 92) (z := 1) (M' := M9_fail) (n := 1) (A := [vi 0]) (v' := some (vi r6.2)) (μ' := ((r6.1, T), Y)) (d' := 1) (mc' := 0) (ms' := 0) (kc' := 0) (ks' := 0) (ci := 9) (x := .inl 1) (by decide +kernel) ml_7_92 rfl wv9_fail rfl (by decide) rfl (lc_t1 hT) (ret9_fail hT hr6) (by decide) rfl rfl (Nat.le_of_ble_eq_true rfl) rfl (jag rfl rfl) ?_
        show Go _ _ _ _ _ _ 52 [(0, rc 12), (1, vi a0)] [vi r6.2] ((r6.1, T), Y) _
        refine gd_el h (fun q h => ?_)
        obtain ⟨rfl, rfl⟩ := Prod.mk.inj (Option.some.inj h)
        exact go_ireturn (by decide +kernel) rfl (by rcases q with q | q <;> rw [q] <;> rfl) ⟨rfl, rfl⟩
    · refine go_icmp_eq (off := 12) (tgt := 32) (by decide +kernel) (by decide) (fun z => absurd z q4) (fun _ => ?_)
      refine go_blk rfl [(.aload_n 0, 1, 0, 0, 0, .inl 0), (.getfield 44, 3, 7, 0, 1, .inl 0), (.iconst 0, 1, 0, 0, 0, .inl 0)] 23 28 _ _ _ (by decide +kernel) ?_
      refine And.intro (lc_t12 hT) (Exists.intro _ (And.intro (gRc (lc_r7_0 hT)) ?_))
      show Go _ _ _ _ _ _ 28 [(0, rc 12), (1, vi a0)] [vi 0, rc 1] ((S, T), Y) _
      obtain ⟨r7, hr7, h⟩ := bind_el h
      refine go_callV (idx := 92) (z := 1) (M' := M9_fail) (n := 1) (A := [vi 0]) (v' := some (vi r7.2)) (μ' := ((r7.1, T), Y)) (d' := 1) (mc' := 0) (ms' := 0) (kc' := 0) (ks' := 0) (ci := 9) (x := .inl 1) (by decide +kernel) ml_7_92 rfl wv9_fail rfl (by decide) rfl (lc_t1 hT) (ret9_fail hT hr7) (by decide) rfl rfl (Nat.le_of_ble_eq_true rfl) rfl (jag rfl rfl) ?_
      show Go _ _ _ _ _ _ 31 [(0, rc 12), (1, vi a0)] [vi r7.2] ((r7.1, T), Y) _
      refine gd_el h (fun q h => ?_)
      obtain ⟨rfl, rfl⟩ := Prod.mk.inj (Option.some.inj h)
      exact go_ireturn (by decide +kernel) rfl (by rcases q with q | q <;> rw [q] <;> rfl) ⟨rfl, rfl⟩
def f7_takeBehindFact (S : jS) : Option (jS × Int32) := (if (S.1 1 4) = ((-21)) then Option.bind (f7_rankOf (S.1 1 4)) (fun r1 => Option.bind (f7_release S r1) (fun r2 => Option.bind (f7_push r2.1 1) (fun r3 => some (r3.1, 1)))) else (if (S.1 1 4) = ((-22)) then Option.bind (f7_rankOf (S.1 1 4)) (fun r4 => Option.bind (f7_release S r4) (fun r5 => Option.bind (f7_push r5.1 1) (fun r6 => some (r6.1, 1)))) else (if (S.1 1 4) = 9 then Option.bind (f7_release S 1) (fun r7 => (if 0 < (r7.1.1 12 4) then some (wI (wI (wI r7.1 12 4 ((r7.1.1 12 4) - 1)) 12 8 (((wI r7.1 12 4 ((r7.1.1 12 4) - 1)).1 12 8) - 1)) 12 5 4, 1) else Option.bind (f9_fail r7.1 0) (fun r8 => (if r8.2 = 0 ∨ r8.2 = 1 then some (r8.1, r8.2) else none)))) else Option.bind (f7_takeEnd S ((-25))) (fun r9 => (if r9.2 = 0 ∨ r9.2 = 1 then some (r9.1, r9.2) else none)))))
theorem ret7_takeBehindFact {S : jS} {T : jT} {Y : jS × jT} {S1 : jS} {x : Int32} (hT : LayC T) (h : f7_takeBehindFact S = some (S1, x)) : Ret M7_takeBehindFact 4 0 0 [rc 12] ((S, T), Y) (some (vi x)) ((S1, T), Y) := by
  refine Ret.of (by decide +kernel) (Nat.le_of_ble_eq_true rfl) ?_
  unfold f7_takeBehindFact at h
  show Go _ _ _ _ _ _ 0 [(0, rc 12)] [] ((S, T), Y) _
  refine go_blk rfl [(.aload_n 0, 1, 0, 0, 0, .inl 0), (.getfield 44, 3, 7, 0, 1, .inl 0), (.getfield 89, 3, 9, 4, 0, .inl 0), (.bipush (-21), 2, 0, 0, 0, .inl (-21))] 0 9 _ _ _ (by decide +kernel) ?_
  refine And.intro (lc_t12 hT) (Exists.intro _ (And.intro (gRc (lc_r7_0 hT)) ?_))
  refine And.intro (lc_t1 hT) ?_
  show Go _ _ _ _ _ _ 9 [(0, rc 12)] [vi ((-21)), vi (S.1 1 4)] ((S, T), Y) _
  refine ite_el h (fun q1 h => ?_) (fun q1 h => ?_)
  · refine go_icmp_eq (off := 15) (tgt := 24) (by decide +kernel) (by decide) (fun _ => ?_) (fun z => absurd q1 z)
    refine go_blk rfl [(.aload_n 0, 1, 0, 0, 0, .inl 0), (.aload_n 0, 1, 0, 0, 0, .inl 0), (.getfield 44, 3, 7, 0, 1, .inl 0), (.getfield 89, 3, 9, 4, 0, .inl 0)] 24 32 _ _ _ (by decide +kernel) ?_
    refine And.intro (lc_t12 hT) (Exists.intro _ (And.intro (gRc (lc_r7_0 hT)) ?_))
    refine And.intro (lc_t1 hT) ?_
    show Go _ _ _ _ _ _ 32 [(0, rc 12)] [vi (S.1 1 4), rc 12] ((S, T), Y) _
    obtain ⟨r1, hr1, h⟩ := bind_el h
    refine go_callS (idx := 106) (z := 0) (M' := M7_rankOf) (n := 1) (A := [vi (S.1 1 4)]) (v' := some (vi r1)) (μ' := ((S, T), Y)) (d' := 1) (mc' := 0) (ms' := 0) (kc' := 0) (ks' := 0) (by decide +kernel) ml_7_106 rfl ws7_rankOf rfl (ret7_rankOf hr1) (by decide) rfl rfl (Nat.le_of_ble_eq_true rfl) rfl (jag rfl rfl) ?_
    show Go _ _ _ _ _ _ 35 [(0, rc 12)] [vi r1, rc 12] ((S, T), Y) _
    obtain ⟨r2, hr2, h⟩ := bind_el h
    refine go_callV (idx := 110) (z := 0) (M' := M7_release) (n := 1) (A := [vi r1]) (v' := none) (μ' := ((r2.1, T), Y)) (d' := 2) (mc' := 0) (ms' := 0) (kc' := 0) (ks' := 0) (ci := 7) (x := .inl 12) (by decide +kernel) ml_7_110 rfl wv7_release rfl (by decide) rfl (lc_t12 hT) (ret7_release hT hr2) (by decide) rfl rfl (Nat.le_of_ble_eq_true rfl) rfl (jag rfl rfl) ?_
    show Go _ _ _ _ _ _ 38 [(0, rc 12)] [] ((r2.1, T), Y) _
    refine go_blk rfl [(.aload_n 0, 1, 0, 0, 0, .inl 0), (.iconst 1, 1, 0, 0, 0, .inl 1)] 38 40 _ _ _ (by decide +kernel) ?_
    show Go _ _ _ _ _ _ 40 [(0, rc 12)] [vi 1, rc 12] ((r2.1, T), Y) _
    obtain ⟨r3, hr3, h⟩ := bind_el h
    refine go_callV (idx := 96) (z := 0) (M' := M7_push) (n := 1) (A := [vi 1]) (v' := none) (μ' := ((r3.1, T), Y)) (d' := 1) (mc' := 0) (ms' := 0) (kc' := 0) (ks' := 0) (ci := 7) (x := .inl 12) (by decide +kernel) ml_7_96 rfl wv7_push rfl (by decide) rfl (lc_t12 hT) (ret7_push hT hr3) (by decide) rfl rfl (Nat.le_of_ble_eq_true rfl) rfl (jag rfl rfl) ?_
    show Go _ _ _ _ _ _ 43 [(0, rc 12)] [] ((r3.1, T), Y) _
    refine go_blk rfl [(.iconst 1, 1, 0, 0, 0, .inl 1)] 43 44 _ _ _ (by decide +kernel) ?_
    show Go _ _ _ _ _ _ 44 [(0, rc 12)] [vi 1] ((r3.1, T), Y) _
    obtain ⟨rfl, rfl⟩ := Prod.mk.inj (Option.some.inj h)
    exact go_ireturn (by decide +kernel) rfl rfl ⟨rfl, rfl⟩
  · refine go_icmp_eq (off := 15) (tgt := 24) (by decide +kernel) (by decide) (fun z => absurd z q1) (fun _ => ?_)
    refine go_blk rfl [(.aload_n 0, 1, 0, 0, 0, .inl 0), (.getfield 44, 3, 7, 0, 1, .inl 0), (.getfield 89, 3, 9, 4, 0, .inl 0), (.bipush (-22), 2, 0, 0, 0, .inl (-22))] 12 21 _ _ _ (by decide +kernel) ?_
    refine And.intro (lc_t12 hT) (Exists.intro _ (And.intro (gRc (lc_r7_0 hT)) ?_))
    refine And.intro (lc_t1 hT) ?_
    show Go _ _ _ _ _ _ 21 [(0, rc 12)] [vi ((-22)), vi (S.1 1 4)] ((S, T), Y) _
    refine ite_el h (fun q2 h => ?_) (fun q2 h => ?_)
    · refine go_icmp_ne (off := 24) (tgt := 45) (by decide +kernel) (by decide) (fun z => absurd q2 z) (fun _ => ?_)
      refine go_blk rfl [(.aload_n 0, 1, 0, 0, 0, .inl 0), (.aload_n 0, 1, 0, 0, 0, .inl 0), (.getfield 44, 3, 7, 0, 1, .inl 0), (.getfield 89, 3, 9, 4, 0, .inl 0)] 24 32 _ _ _ (by decide +kernel) ?_
      refine And.intro (lc_t12 hT) (Exists.intro _ (And.intro (gRc (lc_r7_0 hT)) ?_))
      refine And.intro (lc_t1 hT) ?_
      show Go _ _ _ _ _ _ 32 [(0, rc 12)] [vi (S.1 1 4), rc 12] ((S, T), Y) _
      obtain ⟨r4, hr4, h⟩ := bind_el h
      refine go_callS (idx := 106) (z := 0) (M' := M7_rankOf) (n := 1) (A := [vi (S.1 1 4)]) (v' := some (vi r4)) (μ' := ((S, T), Y)) (d' := 1) (mc' := 0) (ms' := 0) (kc' := 0) (ks' := 0) (by decide +kernel) ml_7_106 rfl ws7_rankOf rfl (ret7_rankOf hr4) (by decide) rfl rfl (Nat.le_of_ble_eq_true rfl) rfl (jag rfl rfl) ?_
      show Go _ _ _ _ _ _ 35 [(0, rc 12)] [vi r4, rc 12] ((S, T), Y) _
      obtain ⟨r5, hr5, h⟩ := bind_el h
      refine go_callV (idx := 110) (z := 0) (M' := M7_release) (n := 1) (A := [vi r4]) (v' := none) (μ' := ((r5.1, T), Y)) (d' := 2) (mc' := 0) (ms' := 0) (kc' := 0) (ks' := 0) (ci := 7) (x := .inl 12) (by decide +kernel) ml_7_110 rfl wv7_release rfl (by decide) rfl (lc_t12 hT) (ret7_release hT hr5) (by decide) rfl rfl (Nat.le_of_ble_eq_true rfl) rfl (jag rfl rfl) ?_
      show Go _ _ _ _ _ _ 38 [(0, rc 12)] [] ((r5.1, T), Y) _
      refine go_blk rfl [(.aload_n 0, 1, 0, 0, 0, .inl 0), (.iconst 1, 1, 0, 0, 0, .inl 1)] 38 40 _ _ _ (by decide +kernel) ?_
      show Go _ _ _ _ _ _ 40 [(0, rc 12)] [vi 1, rc 12] ((r5.1, T), Y) _
      obtain ⟨r6, hr6, h⟩ := bind_el h
      refine go_callV (idx := 96) (z := 0) (M' := M7_push) (n := 1) (A := [vi 1]) (v' := none) (μ' := ((r6.1, T), Y)) (d' := 1) (mc' := 0) (ms' := 0) (kc' := 0) (ks' := 0) (ci := 7) (x := .inl 12) (by decide +kernel) ml_7_96 rfl wv7_push rfl (by decide) rfl (lc_t12 hT) (ret7_push hT hr6) (by decide) rfl rfl (Nat.le_of_ble_eq_true rfl) rfl (jag rfl rfl) ?_
      show Go _ _ _ _ _ _ 43 [(0, rc 12)] [] ((r6.1, T), Y) _
      refine go_blk rfl [(.iconst 1, 1, 0, 0, 0, .inl 1)] 43 44 _ _ _ (by decide +kernel) ?_
      show Go _ _ _ _ _ _ 44 [(0, rc 12)] [vi 1] ((r6.1, T), Y) _
      obtain ⟨rfl, rfl⟩ := Prod.mk.inj (Option.some.inj h)
      exact go_ireturn (by decide +kernel) rfl rfl ⟨rfl, rfl⟩
    · refine go_icmp_ne (off := 24) (tgt := 45) (by decide +kernel) (by decide) (fun _ => ?_) (fun z => absurd z q2)
      refine go_blk rfl [(.aload_n 0, 1, 0, 0, 0, .inl 0), (.getfield 44, 3, 7, 0, 1, .inl 0), (.getfield 89, 3, 9, 4, 0, .inl 0), (.bipush 9, 2, 0, 0, 0, .inl 9)] 45 54 _ _ _ (by decide +kernel) ?_
      refine And.intro (lc_t12 hT) (Exists.intro _ (And.intro (gRc (lc_r7_0 hT)) ?_))
      refine And.intro (lc_t1 hT) ?_
      show Go _ _ _ _ _ _ 54 [(0, rc 12)] [vi 9, vi (S.1 1 4)] ((S, T), Y) _
      refine ite_el h (fun q3 h => ?_) (fun q3 h => ?_)
      · refine go_icmp_eq (off := 10) (tgt := 64) (by decide +kernel) (by decide) (fun _ => ?_) (fun z => absurd q3 z)
        refine go_blk rfl [(.aload_n 0, 1, 0, 0, 0, .inl 0), (.iconst 1, 1, 0, 0, 0, .inl 1)] 64 66 _ _ _ (by decide +kernel) ?_
        show Go _ _ _ _ _ _ 66 [(0, rc 12)] [vi 1, rc 12] ((S, T), Y) _
        obtain ⟨r7, hr7, h⟩ := bind_el h
        refine go_callV (idx := 110) (z := 0) (M' := M7_release) (n := 1) (A := [vi 1]) (v' := none) (μ' := ((r7.1, T), Y)) (d' := 2) (mc' := 0) (ms' := 0) (kc' := 0) (ks' := 0) (ci := 7) (x := .inl 12) (by decide +kernel) ml_7_110 rfl wv7_release rfl (by decide) rfl (lc_t12 hT) (ret7_release hT hr7) (by decide) rfl rfl (Nat.le_of_ble_eq_true rfl) rfl (jag rfl rfl) ?_
        show Go _ _ _ _ _ _ 69 [(0, rc 12)] [] ((r7.1, T), Y) _
        refine go_blk rfl [(.aload_n 0, 1, 0, 0, 0, .inl 0), (.getfield 22, 3, 7, 4, 0, .inl 0)] 69 73 _ _ _ (by decide +kernel) ?_
        refine And.intro (lc_t12 hT) ?_
        show Go _ _ _ _ _ _ 73 [(0, rc 12)] [vi (r7.1.1 12 4)] ((r7.1, T), Y) _
        refine ite_el h (fun q4 h => ?_) (fun q4 h => ?_)
        · refine go_if_gt (off := 12) (tgt := 85) (by decide +kernel) (by decide) (fun _ => ?_) (fun z => absurd q4 z)
          refine go_blk rfl [(.aload_n 0, 1, 0, 0, 0, .inl 0), (.dup, 1, 0, 0, 0, .inl 0), (.getfield 22, 3, 7, 4, 0, .inl 0), (.iconst 1, 1, 0, 0, 0, .inl 1), (.isub, 1, 0, 0, 0, .inl 0), (.putfield 22, 3, 7, 4, 0, .inl 0)] 85 95 _ _ _ (by decide +kernel) ?_
          refine And.intro (lc_t12 hT) ?_
          refine And.intro (lc_t12 hT) (And.intro trivial ?_)
          show Go _ _ _ _ _ _ 95 [(0, rc 12)] [] ((wI r7.1 12 4 ((r7.1.1 12 4) - 1), T), Y) _
          refine go_blk rfl [(.aload_n 0, 1, 0, 0, 0, .inl 0), (.dup, 1, 0, 0, 0, .inl 0), (.getfield 34, 3, 7, 8, 0, .inl 0), (.iconst 1, 1, 0, 0, 0, .inl 1), (.isub, 1, 0, 0, 0, .inl 0), (.putfield 34, 3, 7, 8, 0, .inl 0)] 95 105 _ _ _ (by decide +kernel) ?_
          refine And.intro (lc_t12 hT) ?_
          refine And.intro (lc_t12 hT) (And.intro trivial ?_)
          show Go _ _ _ _ _ _ 105 [(0, rc 12)] [] ((wI (wI r7.1 12 4 ((r7.1.1 12 4) - 1)) 12 8 (((wI r7.1 12 4 ((r7.1.1 12 4) - 1)).1 12 8) - 1), T), Y) _
          refine go_blk rfl [(.aload_n 0, 1, 0, 0, 0, .inl 0), (.iconst 4, 1, 0, 0, 0, .inl 4), (.putfield 25, 3, 7, 5, 0, .inl 0)] 105 110 _ _ _ (by decide +kernel) ?_
          refine And.intro (lc_t12 hT) (And.intro trivial ?_)
          show Go _ _ _ _ _ _ 110 [(0, rc 12)] [] ((wI (wI (wI r7.1 12 4 ((r7.1.1 12 4) - 1)) 12 8 (((wI r7.1 12 4 ((r7.1.1 12 4) - 1)).1 12 8) - 1)) 12 5 4, T), Y) _
          refine go_blk rfl [(.iconst 1, 1, 0, 0, 0, .inl 1)] 110 111 _ _ _ (by decide +kernel) ?_
          show Go _ _ _ _ _ _ 111 [(0, rc 12)] [vi 1] ((wI (wI (wI r7.1 12 4 ((r7.1.1 12 4) - 1)) 12 8 (((wI r7.1 12 4 ((r7.1.1 12 4) - 1)).1 12 8) - 1)) 12 5 4, T), Y) _
          obtain ⟨rfl, rfl⟩ := Prod.mk.inj (Option.some.inj h)
          exact go_ireturn (by decide +kernel) rfl rfl ⟨rfl, rfl⟩
        · refine go_if_gt (off := 12) (tgt := 85) (by decide +kernel) (by decide) (fun z => absurd z q4) (fun _ => ?_)
          refine go_blk rfl [(.aload_n 0, 1, 0, 0, 0, .inl 0), (.getfield 44, 3, 7, 0, 1, .inl 0), (.iconst 0, 1, 0, 0, 0, .inl 0)] 76 81 _ _ _ (by decide +kernel) ?_
          refine And.intro (lc_t12 hT) (Exists.intro _ (And.intro (gRc (lc_r7_0 hT)) ?_))
          show Go _ _ _ _ _ _ 81 [(0, rc 12)] [vi 0, rc 1] ((r7.1, T), Y) _
          obtain ⟨r8, hr8, h⟩ := bind_el h
          refine go_callV (idx := 92) (z := 1) (M' := M9_fail) (n := 1) (A := [vi 0]) (v' := some (vi r8.2)) (μ' := ((r8.1, T), Y)) (d' := 1) (mc' := 0) (ms' := 0) (kc' := 0) (ks' := 0) (ci := 9) (x := .inl 1) (by decide +kernel) ml_7_92 rfl wv9_fail rfl (by decide) rfl (lc_t1 hT) (ret9_fail hT hr8) (by decide) rfl rfl (Nat.le_of_ble_eq_true rfl) rfl (jag rfl rfl) ?_
          show Go _ _ _ _ _ _ 84 [(0, rc 12)] [vi r8.2] ((r8.1, T), Y) _
          refine gd_el h (fun q h => ?_)
          obtain ⟨rfl, rfl⟩ := Prod.mk.inj (Option.some.inj h)
          exact go_ireturn (by decide +kernel) rfl (by rcases q with q | q <;> rw [q] <;> rfl) ⟨rfl, rfl⟩
      · refine go_icmp_eq (off := 10) (tgt := 64) (by decide +kernel) (by decide) (fun z => absurd z q3) (fun _ => ?_)
        refine go_blk rfl [(.aload_n 0, 1, 0, 0, 0, .inl 0), (.bipush (-25), 2, 0, 0, 0, .inl (-25))] 57 60 _ _ _ (by decide +kernel) ?_
        show Go _ _ _ _ _ _ 60 [(0, rc 12)] [vi ((-25)), rc 12] ((S, T), Y) _
        obtain ⟨r9, hr9, h⟩ := bind_el h
        refine go_callV (idx := 116) (z := 0) (M' := M7_takeEnd) (n := 1) (A := [vi ((-25))]) (v' := some (vi r9.2)) (μ' := ((r9.1, T), Y)) (d' := 3) (mc' := 0) (ms' := 0) (kc' := 0) (ks' := 0) (ci := 7) (x := .inl 12) (by decide +kernel) ml_7_116 rfl wv7_takeEnd rfl (by decide) rfl (lc_t12 hT) (ret7_takeEnd hT hr9) (by decide) rfl rfl (Nat.le_of_ble_eq_true rfl) rfl (jag rfl rfl) ?_
        show Go _ _ _ _ _ _ 63 [(0, rc 12)] [vi r9.2] ((r9.1, T), Y) _
        refine gd_el h (fun q h => ?_)
        obtain ⟨rfl, rfl⟩ := Prod.mk.inj (Option.some.inj h)
        exact go_ireturn (by decide +kernel) rfl (by rcases q with q | q <;> rw [q] <;> rfl) ⟨rfl, rfl⟩
def f7_takeComparing (S : jS) : Option (jS × Int32) := Option.bind (f7_rankOf (S.1 1 4)) (fun r1 => (if r1 = 4 then (if (S.1 12 7) < 60 then Option.bind (f7_release (wI (wI S 12 7 ((S.1 12 7) + 1)) 12 10 1) 4) (fun r2 => Option.bind (f7_push r2.1 2) (fun r3 => some (r3.1, 1))) else Option.bind (f9_fail S 3) (fun r4 => (if r4.2 = 0 ∨ r4.2 = 1 then some (r4.1, r4.2) else none))) else Option.bind (f9_fail S 0) (fun r5 => (if r5.2 = 0 ∨ r5.2 = 1 then some (r5.1, r5.2) else none))))
theorem ret7_takeComparing {S : jS} {T : jT} {Y : jS × jT} {S1 : jS} {x : Int32} (hT : LayC T) (h : f7_takeComparing S = some (S1, x)) : Ret M7_takeComparing 3 0 0 [rc 12] ((S, T), Y) (some (vi x)) ((S1, T), Y) := by
  refine Ret.of (by decide +kernel) (Nat.le_of_ble_eq_true rfl) ?_
  unfold f7_takeComparing at h
  show Go _ _ _ _ _ _ 0 [(0, rc 12)] [] ((S, T), Y) _
  refine go_blk rfl [(.aload_n 0, 1, 0, 0, 0, .inl 0), (.getfield 44, 3, 7, 0, 1, .inl 0), (.getfield 89, 3, 9, 4, 0, .inl 0)] 0 7 _ _ _ (by decide +kernel) ?_
  refine And.intro (lc_t12 hT) (Exists.intro _ (And.intro (gRc (lc_r7_0 hT)) ?_))
  refine And.intro (lc_t1 hT) ?_
  show Go _ _ _ _ _ _ 7 [(0, rc 12)] [vi (S.1 1 4)] ((S, T), Y) _
  obtain ⟨r1, hr1, h⟩ := bind_el h
  refine go_callS (idx := 106) (z := 0) (M' := M7_rankOf) (n := 1) (A := [vi (S.1 1 4)]) (v' := some (vi r1)) (μ' := ((S, T), Y)) (d' := 1) (mc' := 0) (ms' := 0) (kc' := 0) (ks' := 0) (by decide +kernel) ml_7_106 rfl ws7_rankOf rfl (ret7_rankOf hr1) (by decide) rfl rfl (Nat.le_of_ble_eq_true rfl) rfl (jag rfl rfl) ?_
  show Go _ _ _ _ _ _ 10 [(0, rc 12)] [vi r1] ((S, T), Y) _
  refine go_blk rfl [(.iconst 4, 1, 0, 0, 0, .inl 4)] 10 11 _ _ _ (by decide +kernel) ?_
  show Go _ _ _ _ _ _ 11 [(0, rc 12)] [vi 4, vi r1] ((S, T), Y) _
  refine ite_el h (fun q1 h => ?_) (fun q1 h => ?_)
  · refine go_icmp_eq (off := 12) (tgt := 23) (by decide +kernel) (by decide) (fun _ => ?_) (fun z => absurd q1 z)
    refine go_blk rfl [(.aload_n 0, 1, 0, 0, 0, .inl 0), (.getfield 31, 3, 7, 7, 0, .inl 0), (.bipush 60, 2, 0, 0, 0, .inl 60)] 23 29 _ _ _ (by decide +kernel) ?_
    refine And.intro (lc_t12 hT) ?_
    show Go _ _ _ _ _ _ 29 [(0, rc 12)] [vi 60, vi (S.1 12 7)] ((S, T), Y) _
    refine ite_el h (fun q2 h => ?_) (fun q2 h => ?_)
    · refine go_icmp_lt (off := 12) (tgt := 41) (by decide +kernel) (by decide) (fun _ => ?_) (fun z => absurd q2 z)
      refine go_blk rfl [(.aload_n 0, 1, 0, 0, 0, .inl 0), (.dup, 1, 0, 0, 0, .inl 0), (.getfield 31, 3, 7, 7, 0, .inl 0), (.iconst 1, 1, 0, 0, 0, .inl 1), (.iadd, 1, 0, 0, 0, .inl 0), (.putfield 31, 3, 7, 7, 0, .inl 0)] 41 51 _ _ _ (by decide +kernel) ?_
      refine And.intro (lc_t12 hT) ?_
      refine And.intro (lc_t12 hT) (And.intro trivial ?_)
      show Go _ _ _ _ _ _ 51 [(0, rc 12)] [] ((wI S 12 7 ((S.1 12 7) + 1), T), Y) _
      refine go_blk rfl [(.aload_n 0, 1, 0, 0, 0, .inl 0), (.iconst 1, 1, 0, 0, 0, .inl 1), (.putfield 41, 3, 7, 10, 2, .inl 0)] 51 56 _ _ _ (by decide +kernel) ?_
      refine And.intro (lc_t12 hT) (And.intro ⟨rfl, Or.inr rfl⟩ ?_)
      show Go _ _ _ _ _ _ 56 [(0, rc 12)] [] ((wI (wI S 12 7 ((S.1 12 7) + 1)) 12 10 1, T), Y) _
      refine go_blk rfl [(.aload_n 0, 1, 0, 0, 0, .inl 0), (.iconst 4, 1, 0, 0, 0, .inl 4)] 56 58 _ _ _ (by decide +kernel) ?_
      show Go _ _ _ _ _ _ 58 [(0, rc 12)] [vi 4, rc 12] ((wI (wI S 12 7 ((S.1 12 7) + 1)) 12 10 1, T), Y) _
      obtain ⟨r2, hr2, h⟩ := bind_el h
      refine go_callV (idx := 110) (z := 0) (M' := M7_release) (n := 1) (A := [vi 4]) (v' := none) (μ' := ((r2.1, T), Y)) (d' := 2) (mc' := 0) (ms' := 0) (kc' := 0) (ks' := 0) (ci := 7) (x := .inl 12) (by decide +kernel) ml_7_110 rfl wv7_release rfl (by decide) rfl (lc_t12 hT) (ret7_release hT hr2) (by decide) rfl rfl (Nat.le_of_ble_eq_true rfl) rfl (jag rfl rfl) ?_
      show Go _ _ _ _ _ _ 61 [(0, rc 12)] [] ((r2.1, T), Y) _
      refine go_blk rfl [(.aload_n 0, 1, 0, 0, 0, .inl 0), (.iconst 2, 1, 0, 0, 0, .inl 2)] 61 63 _ _ _ (by decide +kernel) ?_
      show Go _ _ _ _ _ _ 63 [(0, rc 12)] [vi 2, rc 12] ((r2.1, T), Y) _
      obtain ⟨r3, hr3, h⟩ := bind_el h
      refine go_callV (idx := 96) (z := 0) (M' := M7_push) (n := 1) (A := [vi 2]) (v' := none) (μ' := ((r3.1, T), Y)) (d' := 1) (mc' := 0) (ms' := 0) (kc' := 0) (ks' := 0) (ci := 7) (x := .inl 12) (by decide +kernel) ml_7_96 rfl wv7_push rfl (by decide) rfl (lc_t12 hT) (ret7_push hT hr3) (by decide) rfl rfl (Nat.le_of_ble_eq_true rfl) rfl (jag rfl rfl) ?_
      show Go _ _ _ _ _ _ 66 [(0, rc 12)] [] ((r3.1, T), Y) _
      refine go_blk rfl [(.iconst 1, 1, 0, 0, 0, .inl 1)] 66 67 _ _ _ (by decide +kernel) ?_
      show Go _ _ _ _ _ _ 67 [(0, rc 12)] [vi 1] ((r3.1, T), Y) _
      obtain ⟨rfl, rfl⟩ := Prod.mk.inj (Option.some.inj h)
      exact go_ireturn (by decide +kernel) rfl rfl ⟨rfl, rfl⟩
    · refine go_icmp_lt (off := 12) (tgt := 41) (by decide +kernel) (by decide) (fun z => absurd z q2) (fun _ => ?_)
      refine go_blk rfl [(.aload_n 0, 1, 0, 0, 0, .inl 0), (.getfield 44, 3, 7, 0, 1, .inl 0), (.iconst 3, 1, 0, 0, 0, .inl 3)] 32 37 _ _ _ (by decide +kernel) ?_
      refine And.intro (lc_t12 hT) (Exists.intro _ (And.intro (gRc (lc_r7_0 hT)) ?_))
      show Go _ _ _ _ _ _ 37 [(0, rc 12)] [vi 3, rc 1] ((S, T), Y) _
      obtain ⟨r4, hr4, h⟩ := bind_el h
      refine go_callV (idx := 92) (z := 1) (M' := M9_fail) (n := 1) (A := [vi 3]) (v' := some (vi r4.2)) (μ' := ((r4.1, T), Y)) (d' := 1) (mc' := 0) (ms' := 0) (kc' := 0) (ks' := 0) (ci := 9) (x := .inl 1) (by decide +kernel) ml_7_92 rfl wv9_fail rfl (by decide) rfl (lc_t1 hT) (ret9_fail hT hr4) (by decide) rfl rfl (Nat.le_of_ble_eq_true rfl) rfl (jag rfl rfl) ?_
      show Go _ _ _ _ _ _ 40 [(0, rc 12)] [vi r4.2] ((r4.1, T), Y) _
      refine gd_el h (fun q h => ?_)
      obtain ⟨rfl, rfl⟩ := Prod.mk.inj (Option.some.inj h)
      exact go_ireturn (by decide +kernel) rfl (by rcases q with q | q <;> rw [q] <;> rfl) ⟨rfl, rfl⟩
  · refine go_icmp_eq (off := 12) (tgt := 23) (by decide +kernel) (by decide) (fun z => absurd z q1) (fun _ => ?_)
    refine go_blk rfl [(.aload_n 0, 1, 0, 0, 0, .inl 0), (.getfield 44, 3, 7, 0, 1, .inl 0), (.iconst 0, 1, 0, 0, 0, .inl 0)] 14 19 _ _ _ (by decide +kernel) ?_
    refine And.intro (lc_t12 hT) (Exists.intro _ (And.intro (gRc (lc_r7_0 hT)) ?_))
    show Go _ _ _ _ _ _ 19 [(0, rc 12)] [vi 0, rc 1] ((S, T), Y) _
    obtain ⟨r5, hr5, h⟩ := bind_el h
    refine go_callV (idx := 92) (z := 1) (M' := M9_fail) (n := 1) (A := [vi 0]) (v' := some (vi r5.2)) (μ' := ((r5.1, T), Y)) (d' := 1) (mc' := 0) (ms' := 0) (kc' := 0) (ks' := 0) (ci := 9) (x := .inl 1) (by decide +kernel) ml_7_92 rfl wv9_fail rfl (by decide) rfl (lc_t1 hT) (ret9_fail hT hr5) (by decide) rfl rfl (Nat.le_of_ble_eq_true rfl) rfl (jag rfl rfl) ?_
    show Go _ _ _ _ _ _ 22 [(0, rc 12)] [vi r5.2] ((r5.1, T), Y) _
    refine gd_el h (fun q h => ?_)
    obtain ⟨rfl, rfl⟩ := Prod.mk.inj (Option.some.inj h)
    exact go_ireturn (by decide +kernel) rfl (by rcases q with q | q <;> rw [q] <;> rfl) ⟨rfl, rfl⟩
def f7_takeBehindValue (S : jS) : Option (jS × Int32) := Option.bind (f7_rankOf (S.1 1 4)) (fun r1 => (if r1 < 5 then (if (S.1 12 9) = 0 then (if (S.1 1 4) = ((-25)) then Option.bind (f7_release S 1) (fun r2 => some (wI (wI r2.1 12 9 1) 12 5 1, 1)) else Option.bind (f7_takeEnd S ((-24))) (fun r3 => (if r3.2 = 0 ∨ r3.2 = 1 then some (r3.1, r3.2) else none))) else (if (S.1 12 10) = 0 then Option.bind (f7_takeComparing S) (fun r4 => (if r4.2 = 0 ∨ r4.2 = 1 then some (r4.1, r4.2) else none)) else Option.bind (f7_takeBehindFact S) (fun r5 => (if r5.2 = 0 ∨ r5.2 = 1 then some (r5.1, r5.2) else none)))) else Option.bind (f7_release S r1) (fun r6 => Option.bind (f7_push r6.1 2) (fun r7 => some (r7.1, 1)))))
theorem ret7_takeBehindValue {S : jS} {T : jT} {Y : jS × jT} {S1 : jS} {x : Int32} (hT : LayC T) (h : f7_takeBehindValue S = some (S1, x)) : Ret M7_takeBehindValue 5 0 0 [rc 12] ((S, T), Y) (some (vi x)) ((S1, T), Y) := by
  refine Ret.of (by decide +kernel) (Nat.le_of_ble_eq_true rfl) ?_
  unfold f7_takeBehindValue at h
  show Go _ _ _ _ _ _ 0 [(0, rc 12)] [] ((S, T), Y) _
  refine go_blk rfl [(.aload_n 0, 1, 0, 0, 0, .inl 0), (.getfield 44, 3, 7, 0, 1, .inl 0), (.getfield 89, 3, 9, 4, 0, .inl 0)] 0 7 _ _ _ (by decide +kernel) ?_
  refine And.intro (lc_t12 hT) (Exists.intro _ (And.intro (gRc (lc_r7_0 hT)) ?_))
  refine And.intro (lc_t1 hT) ?_
  show Go _ _ _ _ _ _ 7 [(0, rc 12)] [vi (S.1 1 4)] ((S, T), Y) _
  obtain ⟨r1, hr1, h⟩ := bind_el h
  refine go_callS (idx := 106) (z := 0) (M' := M7_rankOf) (n := 1) (A := [vi (S.1 1 4)]) (v' := some (vi r1)) (μ' := ((S, T), Y)) (d' := 1) (mc' := 0) (ms' := 0) (kc' := 0) (ks' := 0) (by decide +kernel) ml_7_106 rfl ws7_rankOf rfl (ret7_rankOf hr1) (by decide) rfl rfl (Nat.le_of_ble_eq_true rfl) rfl (jag rfl rfl) ?_
  show Go _ _ _ _ _ _ 10 [(0, rc 12)] [vi r1] ((S, T), Y) _
  refine go_blk rfl [(.istore_n 1, 1, 1, 0, 0, .inl 0), (.iload_n 1, 1, 1, 0, 0, .inl 0), (.iconst 5, 1, 0, 0, 0, .inl 5)] 10 13 _ _ _ (by decide +kernel) ?_
  show Go _ _ _ _ _ _ 13 [(1, vi r1), (0, rc 12)] [vi 5, vi r1] ((S, T), Y) _
  refine ite_el h (fun q1 h => ?_) (fun q1 h => ?_)
  · refine go_icmp_lt (off := 15) (tgt := 28) (by decide +kernel) (by decide) (fun _ => ?_) (fun z => absurd q1 z)
    refine go_blk rfl [(.aload_n 0, 1, 0, 0, 0, .inl 0), (.getfield 37, 3, 7, 9, 2, .inl 0)] 28 32 _ _ _ (by decide +kernel) ?_
    refine And.intro (lc_t12 hT) ?_
    show Go _ _ _ _ _ _ 32 [(1, vi r1), (0, rc 12)] [vi (S.1 12 9)] ((S, T), Y) _
    refine ite_el h (fun q2 h => ?_) (fun q2 h => ?_)
    · refine go_if_eq (off := 22) (tgt := 54) (by decide +kernel) (by decide) (fun _ => ?_) (fun z => absurd q2 z)
      refine go_blk rfl [(.aload_n 0, 1, 0, 0, 0, .inl 0), (.getfield 44, 3, 7, 0, 1, .inl 0), (.getfield 89, 3, 9, 4, 0, .inl 0), (.bipush (-25), 2, 0, 0, 0, .inl (-25))] 54 63 _ _ _ (by decide +kernel) ?_
      refine And.intro (lc_t12 hT) (Exists.intro _ (And.intro (gRc (lc_r7_0 hT)) ?_))
      refine And.intro (lc_t1 hT) ?_
      show Go _ _ _ _ _ _ 63 [(1, vi r1), (0, rc 12)] [vi ((-25)), vi (S.1 1 4)] ((S, T), Y) _
      refine ite_el h (fun q3 h => ?_) (fun q3 h => ?_)
      · refine go_icmp_eq (off := 10) (tgt := 73) (by decide +kernel) (by decide) (fun _ => ?_) (fun z => absurd q3 z)
        refine go_blk rfl [(.aload_n 0, 1, 0, 0, 0, .inl 0), (.iconst 1, 1, 0, 0, 0, .inl 1)] 73 75 _ _ _ (by decide +kernel) ?_
        show Go _ _ _ _ _ _ 75 [(1, vi r1), (0, rc 12)] [vi 1, rc 12] ((S, T), Y) _
        obtain ⟨r2, hr2, h⟩ := bind_el h
        refine go_callV (idx := 110) (z := 0) (M' := M7_release) (n := 1) (A := [vi 1]) (v' := none) (μ' := ((r2.1, T), Y)) (d' := 2) (mc' := 0) (ms' := 0) (kc' := 0) (ks' := 0) (ci := 7) (x := .inl 12) (by decide +kernel) ml_7_110 rfl wv7_release rfl (by decide) rfl (lc_t12 hT) (ret7_release hT hr2) (by decide) rfl rfl (Nat.le_of_ble_eq_true rfl) rfl (jag rfl rfl) ?_
        show Go _ _ _ _ _ _ 78 [(1, vi r1), (0, rc 12)] [] ((r2.1, T), Y) _
        refine go_blk rfl [(.aload_n 0, 1, 0, 0, 0, .inl 0), (.iconst 1, 1, 0, 0, 0, .inl 1), (.putfield 37, 3, 7, 9, 2, .inl 0)] 78 83 _ _ _ (by decide +kernel) ?_
        refine And.intro (lc_t12 hT) (And.intro ⟨rfl, Or.inr rfl⟩ ?_)
        show Go _ _ _ _ _ _ 83 [(1, vi r1), (0, rc 12)] [] ((wI r2.1 12 9 1, T), Y) _
        refine go_blk rfl [(.aload_n 0, 1, 0, 0, 0, .inl 0), (.iconst 1, 1, 0, 0, 0, .inl 1), (.putfield 25, 3, 7, 5, 0, .inl 0)] 83 88 _ _ _ (by decide +kernel) ?_
        refine And.intro (lc_t12 hT) (And.intro trivial ?_)
        show Go _ _ _ _ _ _ 88 [(1, vi r1), (0, rc 12)] [] ((wI (wI r2.1 12 9 1) 12 5 1, T), Y) _
        refine go_blk rfl [(.iconst 1, 1, 0, 0, 0, .inl 1)] 88 89 _ _ _ (by decide +kernel) ?_
        show Go _ _ _ _ _ _ 89 [(1, vi r1), (0, rc 12)] [vi 1] ((wI (wI r2.1 12 9 1) 12 5 1, T), Y) _
        obtain ⟨rfl, rfl⟩ := Prod.mk.inj (Option.some.inj h)
        exact go_ireturn (by decide +kernel) rfl rfl ⟨rfl, rfl⟩
      · refine go_icmp_eq (off := 10) (tgt := 73) (by decide +kernel) (by decide) (fun z => absurd z q3) (fun _ => ?_)
        refine go_blk rfl [(.aload_n 0, 1, 0, 0, 0, .inl 0), (.bipush (-24), 2, 0, 0, 0, .inl (-24))] 66 69 _ _ _ (by decide +kernel) ?_
        show Go _ _ _ _ _ _ 69 [(1, vi r1), (0, rc 12)] [vi ((-24)), rc 12] ((S, T), Y) _
        obtain ⟨r3, hr3, h⟩ := bind_el h
        refine go_callV (idx := 116) (z := 0) (M' := M7_takeEnd) (n := 1) (A := [vi ((-24))]) (v' := some (vi r3.2)) (μ' := ((r3.1, T), Y)) (d' := 3) (mc' := 0) (ms' := 0) (kc' := 0) (ks' := 0) (ci := 7) (x := .inl 12) (by decide +kernel) ml_7_116 rfl wv7_takeEnd rfl (by decide) rfl (lc_t12 hT) (ret7_takeEnd hT hr3) (by decide) rfl rfl (Nat.le_of_ble_eq_true rfl) rfl (jag rfl rfl) ?_
        show Go _ _ _ _ _ _ 72 [(1, vi r1), (0, rc 12)] [vi r3.2] ((r3.1, T), Y) _
        refine gd_el h (fun q h => ?_)
        obtain ⟨rfl, rfl⟩ := Prod.mk.inj (Option.some.inj h)
        exact go_ireturn (by decide +kernel) rfl (by rcases q with q | q <;> rw [q] <;> rfl) ⟨rfl, rfl⟩
    · refine go_if_eq (off := 22) (tgt := 54) (by decide +kernel) (by decide) (fun z => absurd z q2) (fun _ => ?_)
      refine go_blk rfl [(.aload_n 0, 1, 0, 0, 0, .inl 0), (.getfield 41, 3, 7, 10, 2, .inl 0)] 35 39 _ _ _ (by decide +kernel) ?_
      refine And.intro (lc_t12 hT) ?_
      show Go _ _ _ _ _ _ 39 [(1, vi r1), (0, rc 12)] [vi (S.1 12 10)] ((S, T), Y) _
      refine ite_el h (fun q4 h => ?_) (fun q4 h => ?_)
      · refine go_if_eq (off := 10) (tgt := 49) (by decide +kernel) (by decide) (fun _ => ?_) (fun z => absurd q4 z)
        refine go_blk rfl [(.aload_n 0, 1, 0, 0, 0, .inl 0)] 49 50 _ _ _ (by decide +kernel) ?_
        show Go _ _ _ _ _ _ 50 [(1, vi r1), (0, rc 12)] [rc 12] ((S, T), Y) _
        obtain ⟨r4, hr4, h⟩ := bind_el h
        refine go_callV (idx := 113) (z := 0) (M' := M7_takeComparing) (n := 0) (A := []) (v' := some (vi r4.2)) (μ' := ((r4.1, T), Y)) (d' := 3) (mc' := 0) (ms' := 0) (kc' := 0) (ks' := 0) (ci := 7) (x := .inl 12) (by decide +kernel) ml_7_113 rfl wv7_takeComparing rfl (by decide) rfl (lc_t12 hT) (ret7_takeComparing hT hr4) (by decide) rfl rfl (Nat.le_of_ble_eq_true rfl) rfl (jag rfl rfl) ?_
        show Go _ _ _ _ _ _ 53 [(1, vi r1), (0, rc 12)] [vi r4.2] ((r4.1, T), Y) _
        refine gd_el h (fun q h => ?_)
        obtain ⟨rfl, rfl⟩ := Prod.mk.inj (Option.some.inj h)
        exact go_ireturn (by decide +kernel) rfl (by rcases q with q | q <;> rw [q] <;> rfl) ⟨rfl, rfl⟩
      · refine go_if_eq (off := 10) (tgt := 49) (by decide +kernel) (by decide) (fun z => absurd z q4) (fun _ => ?_)
        refine go_blk rfl [(.aload_n 0, 1, 0, 0, 0, .inl 0)] 42 43 _ _ _ (by decide +kernel) ?_
        show Go _ _ _ _ _ _ 43 [(1, vi r1), (0, rc 12)] [rc 12] ((S, T), Y) _
        obtain ⟨r5, hr5, h⟩ := bind_el h
        refine go_callV (idx := 86) (z := 0) (M' := M7_takeBehindFact) (n := 0) (A := []) (v' := some (vi r5.2)) (μ' := ((r5.1, T), Y)) (d' := 4) (mc' := 0) (ms' := 0) (kc' := 0) (ks' := 0) (ci := 7) (x := .inl 12) (by decide +kernel) ml_7_86 rfl wv7_takeBehindFact rfl (by decide) rfl (lc_t12 hT) (ret7_takeBehindFact hT hr5) (by decide) rfl rfl (Nat.le_of_ble_eq_true rfl) rfl (jag rfl rfl) ?_
        show Go _ _ _ _ _ _ 46 [(1, vi r1), (0, rc 12)] [vi r5.2] ((r5.1, T), Y) _
        refine go_goto (off := 7) (tgt := 53) (by decide +kernel) (by decide) ?_
        refine gd_el h (fun q h => ?_)
        obtain ⟨rfl, rfl⟩ := Prod.mk.inj (Option.some.inj h)
        exact go_ireturn (by decide +kernel) rfl (by rcases q with q | q <;> rw [q] <;> rfl) ⟨rfl, rfl⟩
  · refine go_icmp_lt (off := 15) (tgt := 28) (by decide +kernel) (by decide) (fun z => absurd z q1) (fun _ => ?_)
    refine go_blk rfl [(.aload_n 0, 1, 0, 0, 0, .inl 0), (.iload_n 1, 1, 1, 0, 0, .inl 0)] 16 18 _ _ _ (by decide +kernel) ?_
    show Go _ _ _ _ _ _ 18 [(1, vi r1), (0, rc 12)] [vi r1, rc 12] ((S, T), Y) _
    obtain ⟨r6, hr6, h⟩ := bind_el h
    refine go_callV (idx := 110) (z := 0) (M' := M7_release) (n := 1) (A := [vi r1]) (v' := none) (μ' := ((r6.1, T), Y)) (d' := 2) (mc' := 0) (ms' := 0) (kc' := 0) (ks' := 0) (ci := 7) (x := .inl 12) (by decide +kernel) ml_7_110 rfl wv7_release rfl (by decide) rfl (lc_t12 hT) (ret7_release hT hr6) (by decide) rfl rfl (Nat.le_of_ble_eq_true rfl) rfl (jag rfl rfl) ?_
    show Go _ _ _ _ _ _ 21 [(1, vi r1), (0, rc 12)] [] ((r6.1, T), Y) _
    refine go_blk rfl [(.aload_n 0, 1, 0, 0, 0, .inl 0), (.iconst 2, 1, 0, 0, 0, .inl 2)] 21 23 _ _ _ (by decide +kernel) ?_
    show Go _ _ _ _ _ _ 23 [(1, vi r1), (0, rc 12)] [vi 2, rc 12] ((r6.1, T), Y) _
    obtain ⟨r7, hr7, h⟩ := bind_el h
    refine go_callV (idx := 96) (z := 0) (M' := M7_push) (n := 1) (A := [vi 2]) (v' := none) (μ' := ((r7.1, T), Y)) (d' := 1) (mc' := 0) (ms' := 0) (kc' := 0) (ks' := 0) (ci := 7) (x := .inl 12) (by decide +kernel) ml_7_96 rfl wv7_push rfl (by decide) rfl (lc_t12 hT) (ret7_push hT hr7) (by decide) rfl rfl (Nat.le_of_ble_eq_true rfl) rfl (jag rfl rfl) ?_
    show Go _ _ _ _ _ _ 26 [(1, vi r1), (0, rc 12)] [] ((r7.1, T), Y) _
    refine go_blk rfl [(.iconst 1, 1, 0, 0, 0, .inl 1)] 26 27 _ _ _ (by decide +kernel) ?_
    show Go _ _ _ _ _ _ 27 [(1, vi r1), (0, rc 12)] [vi 1] ((r7.1, T), Y) _
    obtain ⟨rfl, rfl⟩ := Prod.mk.inj (Option.some.inj h)
    exact go_ireturn (by decide +kernel) rfl rfl ⟨rfl, rfl⟩
def f7_takeSign (S : jS) : Option (jS × Int32) := (if (S.1 12 5) = 0 then Option.bind (f7_takePlay S) (fun r1 => (if r1.2 = 0 ∨ r1.2 = 1 then some (r1.1, r1.2) else none)) else (if (S.1 12 5) = 1 then Option.bind (f7_takeFact S) (fun r2 => (if r2.2 = 0 ∨ r2.2 = 1 then some (r2.1, r2.2) else none)) else (if (S.1 12 5) = 2 then Option.bind (f7_takeValue S) (fun r3 => (if r3.2 = 0 ∨ r3.2 = 1 then some (r3.1, r3.2) else none)) else (if (S.1 12 5) = 3 then Option.bind (f7_takeBehindValue S) (fun r4 => (if r4.2 = 0 ∨ r4.2 = 1 then some (r4.1, r4.2) else none)) else Option.bind (f7_takeBehindFact S) (fun r5 => (if r5.2 = 0 ∨ r5.2 = 1 then some (r5.1, r5.2) else none))))))
theorem ret7_takeSign {S : jS} {T : jT} {Y : jS × jT} {S1 : jS} {x : Int32} (hT : LayC T) (h : f7_takeSign S = some (S1, x)) : Ret M7_takeSign 6 0 0 [rc 12] ((S, T), Y) (some (vi x)) ((S1, T), Y) := by
  refine Ret.of (by decide +kernel) (Nat.le_of_ble_eq_true rfl) ?_
  unfold f7_takeSign at h
  show Go _ _ _ _ _ _ 0 [(0, rc 12)] [] ((S, T), Y) _
  refine go_blk rfl [(.aload_n 0, 1, 0, 0, 0, .inl 0), (.getfield 25, 3, 7, 5, 0, .inl 0)] 0 4 _ _ _ (by decide +kernel) ?_
  refine And.intro (lc_t12 hT) ?_
  show Go _ _ _ _ _ _ 4 [(0, rc 12)] [vi (S.1 12 5)] ((S, T), Y) _
  refine ite_el h (fun q1 h => ?_) (fun q1 h => ?_)
  · refine go_tableIn (dflt := 52) (lo := 0) (hi := 3) (offs := #[32, 37, 42, 47]) (len := 32) (off := 32) (tgt := 36) (by decide +kernel) (by rw [q1]; decide) (by rw [q1]; decide) (by rw [q1]; decide) (by decide) ?_
    refine go_blk rfl [(.aload_n 0, 1, 0, 0, 0, .inl 0)] 36 37 _ _ _ (by decide +kernel) ?_
    show Go _ _ _ _ _ _ 37 [(0, rc 12)] [rc 12] ((S, T), Y) _
    obtain ⟨r1, hr1, h⟩ := bind_el h
    refine go_callV (idx := 74) (z := 0) (M' := M7_takePlay) (n := 0) (A := []) (v' := some (vi r1.2)) (μ' := ((r1.1, T), Y)) (d' := 2) (mc' := 0) (ms' := 0) (kc' := 0) (ks' := 0) (ci := 7) (x := .inl 12) (by decide +kernel) ml_7_74 rfl wv7_takePlay rfl (by decide) rfl (lc_t12 hT) (ret7_takePlay hT hr1) (by decide) rfl rfl (Nat.le_of_ble_eq_true rfl) rfl (jag rfl rfl) ?_
    show Go _ _ _ _ _ _ 40 [(0, rc 12)] [vi r1.2] ((r1.1, T), Y) _
    refine gd_el h (fun q h => ?_)
    obtain ⟨rfl, rfl⟩ := Prod.mk.inj (Option.some.inj h)
    exact go_ireturn (by decide +kernel) rfl (by rcases q with q | q <;> rw [q] <;> rfl) ⟨rfl, rfl⟩
  refine ite_el h (fun q2 h => ?_) (fun q2 h => ?_)
  · refine go_tableIn (dflt := 52) (lo := 0) (hi := 3) (offs := #[32, 37, 42, 47]) (len := 32) (off := 37) (tgt := 41) (by decide +kernel) (by rw [q2]; decide) (by rw [q2]; decide) (by rw [q2]; decide) (by decide) ?_
    refine go_blk rfl [(.aload_n 0, 1, 0, 0, 0, .inl 0)] 41 42 _ _ _ (by decide +kernel) ?_
    show Go _ _ _ _ _ _ 42 [(0, rc 12)] [rc 12] ((S, T), Y) _
    obtain ⟨r2, hr2, h⟩ := bind_el h
    refine go_callV (idx := 77) (z := 0) (M' := M7_takeFact) (n := 0) (A := []) (v' := some (vi r2.2)) (μ' := ((r2.1, T), Y)) (d' := 3) (mc' := 0) (ms' := 0) (kc' := 0) (ks' := 0) (ci := 7) (x := .inl 12) (by decide +kernel) ml_7_77 rfl wv7_takeFact rfl (by decide) rfl (lc_t12 hT) (ret7_takeFact hT hr2) (by decide) rfl rfl (Nat.le_of_ble_eq_true rfl) rfl (jag rfl rfl) ?_
    show Go _ _ _ _ _ _ 45 [(0, rc 12)] [vi r2.2] ((r2.1, T), Y) _
    refine gd_el h (fun q h => ?_)
    obtain ⟨rfl, rfl⟩ := Prod.mk.inj (Option.some.inj h)
    exact go_ireturn (by decide +kernel) rfl (by rcases q with q | q <;> rw [q] <;> rfl) ⟨rfl, rfl⟩
  refine ite_el h (fun q3 h => ?_) (fun q3 h => ?_)
  · refine go_tableIn (dflt := 52) (lo := 0) (hi := 3) (offs := #[32, 37, 42, 47]) (len := 32) (off := 42) (tgt := 46) (by decide +kernel) (by rw [q3]; decide) (by rw [q3]; decide) (by rw [q3]; decide) (by decide) ?_
    refine go_blk rfl [(.aload_n 0, 1, 0, 0, 0, .inl 0)] 46 47 _ _ _ (by decide +kernel) ?_
    show Go _ _ _ _ _ _ 47 [(0, rc 12)] [rc 12] ((S, T), Y) _
    obtain ⟨r3, hr3, h⟩ := bind_el h
    refine go_callV (idx := 80) (z := 0) (M' := M7_takeValue) (n := 0) (A := []) (v' := some (vi r3.2)) (μ' := ((r3.1, T), Y)) (d' := 2) (mc' := 0) (ms' := 0) (kc' := 0) (ks' := 0) (ci := 7) (x := .inl 12) (by decide +kernel) ml_7_80 rfl wv7_takeValue rfl (by decide) rfl (lc_t12 hT) (ret7_takeValue hT hr3) (by decide) rfl rfl (Nat.le_of_ble_eq_true rfl) rfl (jag rfl rfl) ?_
    show Go _ _ _ _ _ _ 50 [(0, rc 12)] [vi r3.2] ((r3.1, T), Y) _
    refine gd_el h (fun q h => ?_)
    obtain ⟨rfl, rfl⟩ := Prod.mk.inj (Option.some.inj h)
    exact go_ireturn (by decide +kernel) rfl (by rcases q with q | q <;> rw [q] <;> rfl) ⟨rfl, rfl⟩
  refine ite_el h (fun q4 h => ?_) (fun q4 h => ?_)
  · refine go_tableIn (dflt := 52) (lo := 0) (hi := 3) (offs := #[32, 37, 42, 47]) (len := 32) (off := 47) (tgt := 51) (by decide +kernel) (by rw [q4]; decide) (by rw [q4]; decide) (by rw [q4]; decide) (by decide) ?_
    refine go_blk rfl [(.aload_n 0, 1, 0, 0, 0, .inl 0)] 51 52 _ _ _ (by decide +kernel) ?_
    show Go _ _ _ _ _ _ 52 [(0, rc 12)] [rc 12] ((S, T), Y) _
    obtain ⟨r4, hr4, h⟩ := bind_el h
    refine go_callV (idx := 83) (z := 0) (M' := M7_takeBehindValue) (n := 0) (A := []) (v' := some (vi r4.2)) (μ' := ((r4.1, T), Y)) (d' := 5) (mc' := 0) (ms' := 0) (kc' := 0) (ks' := 0) (ci := 7) (x := .inl 12) (by decide +kernel) ml_7_83 rfl wv7_takeBehindValue rfl (by decide) rfl (lc_t12 hT) (ret7_takeBehindValue hT hr4) (by decide) rfl rfl (Nat.le_of_ble_eq_true rfl) rfl (jag rfl rfl) ?_
    show Go _ _ _ _ _ _ 55 [(0, rc 12)] [vi r4.2] ((r4.1, T), Y) _
    refine gd_el h (fun q h => ?_)
    obtain ⟨rfl, rfl⟩ := Prod.mk.inj (Option.some.inj h)
    exact go_ireturn (by decide +kernel) rfl (by rcases q with q | q <;> rw [q] <;> rfl) ⟨rfl, rfl⟩
  refine go_tableOut (dflt := 52) (lo := 0) (hi := 3) (offs := #[32, 37, 42, 47]) (len := 32) (tgt := 56) (by decide +kernel) (by have z0 : (S.1 12 5).toInt ≠ 0 := tb_ne q1 (by decide); have z1 : (S.1 12 5).toInt ≠ 1 := tb_ne q2 (by decide); have z2 : (S.1 12 5).toInt ≠ 2 := tb_ne q3 (by decide); have z3 : (S.1 12 5).toInt ≠ 3 := tb_ne q4 (by decide); omega) (by decide) ?_
  refine go_blk rfl [(.aload_n 0, 1, 0, 0, 0, .inl 0)] 56 57 _ _ _ (by decide +kernel) ?_
  show Go _ _ _ _ _ _ 57 [(0, rc 12)] [rc 12] ((S, T), Y) _
  obtain ⟨r5, hr5, h⟩ := bind_el h
  refine go_callV (idx := 86) (z := 0) (M' := M7_takeBehindFact) (n := 0) (A := []) (v' := some (vi r5.2)) (μ' := ((r5.1, T), Y)) (d' := 4) (mc' := 0) (ms' := 0) (kc' := 0) (ks' := 0) (ci := 7) (x := .inl 12) (by decide +kernel) ml_7_86 rfl wv7_takeBehindFact rfl (by decide) rfl (lc_t12 hT) (ret7_takeBehindFact hT hr5) (by decide) rfl rfl (Nat.le_of_ble_eq_true rfl) rfl (jag rfl rfl) ?_
  show Go _ _ _ _ _ _ 60 [(0, rc 12)] [vi r5.2] ((r5.1, T), Y) _
  refine gd_el h (fun q h => ?_)
  obtain ⟨rfl, rfl⟩ := Prod.mk.inj (Option.some.inj h)
  exact go_ireturn (by decide +kernel) rfl (by rcases q with q | q <;> rw [q] <;> rfl) ⟨rfl, rfl⟩
def f7_read_L1  : Nat → jS → Int32 → Option (jS × Int32)
  | 0, _, _ => none
  | n + 1, S, l1 => (if 400 < l1 then some (S, 0) else (if (S.1 12 5) = 5 then some (S, 0) else Option.bind (f9_readSign S) (fun r2 => Option.bind (f7_takeSign r2.1) (fun r3 => (if r3.2 = 0 then some (r3.1, r3.1.1 1 6) else f7_read_L1 n r3.1 (l1 + 1))))))
def f7_read (S : jS) : Option (jS × Int32) := Option.bind (f9_rewind S) (fun r1 => f7_read_L1 jF (wI (wI (wI (wI (wI (wI r1.1 12 2 0) 12 4 0) 12 5 0) 12 6 0) 12 7 0) 12 8 0) 0)
theorem f7_read_L1_ok {T : jT} {Y : jS × jT} {S1 : jS} {x : Int32} (hT : LayC T) : ∀ (n : Nat) (S : jS) (l1 : Int32), f7_read_L1 n S l1 = some (S1, x) → Go M7_read 8 0 0 0 0 39 [(0, rc 12), (1, vi l1)] [] ((S, T), Y) (eqQ (some (vi x)) ((S1, T), Y)) := by
  intro n
  induction n with
  | zero => intro S l1 h; exact absurd h (by intro z; cases z)
  | succ n ih =>
    intro S l1 h
    rw [f7_read_L1] at h
    refine go_blk rfl [(.iload_n 1, 1, 1, 0, 0, .inl 0), (.sipush 400, 3, 0, 0, 0, .inl 400)] 39 43 _ _ _ (by decide +kernel) ?_
    show Go _ _ _ _ _ _ 43 [(0, rc 12), (1, vi l1)] [vi 400, vi l1] ((S, T), Y) _
    refine ite_el h (fun q1 h => ?_) (fun q1 h => ?_)
    · refine go_icmp_gt (off := 39) (tgt := 82) (by decide +kernel) (by decide) (fun _ => ?_) (fun z => absurd q1 z)
      refine go_blk rfl [(.iconst 0, 1, 0, 0, 0, .inl 0)] 82 83 _ _ _ (by decide +kernel) ?_
      show Go _ _ _ _ _ _ 83 [(0, rc 12), (1, vi l1)] [vi 0] ((S, T), Y) _
      obtain ⟨rfl, rfl⟩ := Prod.mk.inj (Option.some.inj h)
      exact go_ireturn (by decide +kernel) rfl rfl ⟨rfl, rfl⟩
    · refine go_icmp_gt (off := 39) (tgt := 82) (by decide +kernel) (by decide) (fun z => absurd z q1) (fun _ => ?_)
      refine go_blk rfl [(.aload_n 0, 1, 0, 0, 0, .inl 0), (.getfield 25, 3, 7, 5, 0, .inl 0), (.iconst 5, 1, 0, 0, 0, .inl 5)] 46 51 _ _ _ (by decide +kernel) ?_
      refine And.intro (lc_t12 hT) ?_
      show Go _ _ _ _ _ _ 51 [(0, rc 12), (1, vi l1)] [vi 5, vi (S.1 12 5)] ((S, T), Y) _
      refine ite_el h (fun q2 h => ?_) (fun q2 h => ?_)
      · refine go_icmp_eq (off := 31) (tgt := 82) (by decide +kernel) (by decide) (fun _ => ?_) (fun z => absurd q2 z)
        refine go_blk rfl [(.iconst 0, 1, 0, 0, 0, .inl 0)] 82 83 _ _ _ (by decide +kernel) ?_
        show Go _ _ _ _ _ _ 83 [(0, rc 12), (1, vi l1)] [vi 0] ((S, T), Y) _
        obtain ⟨rfl, rfl⟩ := Prod.mk.inj (Option.some.inj h)
        exact go_ireturn (by decide +kernel) rfl rfl ⟨rfl, rfl⟩
      · refine go_icmp_eq (off := 31) (tgt := 82) (by decide +kernel) (by decide) (fun z => absurd z q2) (fun _ => ?_)
        refine go_blk rfl [(.aload_n 0, 1, 0, 0, 0, .inl 0), (.getfield 44, 3, 7, 0, 1, .inl 0)] 54 58 _ _ _ (by decide +kernel) ?_
        refine And.intro (lc_t12 hT) (Exists.intro _ (And.intro (gRc (lc_r7_0 hT)) ?_))
        show Go _ _ _ _ _ _ 58 [(0, rc 12), (1, vi l1)] [rc 1] ((S, T), Y) _
        obtain ⟨r2, hr2, h⟩ := bind_el h
        refine go_callV (idx := 53) (z := 1) (M' := M9_readSign) (n := 0) (A := []) (v' := none) (μ' := ((r2.1, T), Y)) (d' := 7) (mc' := 0) (ms' := 0) (kc' := 0) (ks' := 0) (ci := 9) (x := .inl 1) (by decide +kernel) ml_7_53 rfl wv9_readSign rfl (by decide) rfl (lc_t1 hT) (ret9_readSign hT hr2) (by decide) rfl rfl (Nat.le_of_ble_eq_true rfl) rfl (jag rfl rfl) ?_
        show Go _ _ _ _ _ _ 61 [(0, rc 12), (1, vi l1)] [] ((r2.1, T), Y) _
        refine go_blk rfl [(.aload_n 0, 1, 0, 0, 0, .inl 0)] 61 62 _ _ _ (by decide +kernel) ?_
        show Go _ _ _ _ _ _ 62 [(0, rc 12), (1, vi l1)] [rc 12] ((r2.1, T), Y) _
        obtain ⟨r3, hr3, h⟩ := bind_el h
        refine go_callV (idx := 56) (z := 0) (M' := M7_takeSign) (n := 0) (A := []) (v' := some (vi r3.2)) (μ' := ((r3.1, T), Y)) (d' := 6) (mc' := 0) (ms' := 0) (kc' := 0) (ks' := 0) (ci := 7) (x := .inl 12) (by decide +kernel) ml_7_56 rfl wv7_takeSign rfl (by decide) rfl (lc_t12 hT) (ret7_takeSign hT hr3) (by decide) rfl rfl (Nat.le_of_ble_eq_true rfl) rfl (jag rfl rfl) ?_
        show Go _ _ _ _ _ _ 65 [(0, rc 12), (1, vi l1)] [vi r3.2] ((r3.1, T), Y) _
        refine ite_el h (fun q3 h => ?_) (fun q3 h => ?_)
        · refine go_if_ne (off := 11) (tgt := 76) (by decide +kernel) (by decide) (fun z => absurd q3 z) (fun _ => ?_)
          refine go_blk rfl [(.aload_n 0, 1, 0, 0, 0, .inl 0), (.getfield 44, 3, 7, 0, 1, .inl 0), (.getfield 60, 3, 9, 6, 0, .inl 0)] 68 75 _ _ _ (by decide +kernel) ?_
          refine And.intro (lc_t12 hT) (Exists.intro _ (And.intro (gRc (lc_r7_0 hT)) ?_))
          refine And.intro (lc_t1 hT) ?_
          show Go _ _ _ _ _ _ 75 [(0, rc 12), (1, vi l1)] [vi (r3.1.1 1 6)] ((r3.1, T), Y) _
          obtain ⟨rfl, rfl⟩ := Prod.mk.inj (Option.some.inj h)
          exact go_ireturn (by decide +kernel) rfl rfl ⟨rfl, rfl⟩
        · refine go_if_ne (off := 11) (tgt := 76) (by decide +kernel) (by decide) (fun _ => ?_) (fun z => absurd z q3)
          refine go_blk rfl [(.iinc 1 1, 3, 1, 0, 0, .inl 1)] 76 79 _ _ _ (by decide +kernel) ?_
          show Go _ _ _ _ _ _ 79 [(1, vi (l1 + 1)), (0, rc 12)] [] ((r3.1, T), Y) _
          refine go_goto (off := (-40)) (tgt := 39) (by decide +kernel) (by decide) ?_
          refine go_pick [1, 0] rfl ?_
          exact ih _ _ h
theorem ret7_read {S : jS} {T : jT} {Y : jS × jT} {S1 : jS} {x : Int32} (hT : LayC T) (h : f7_read S = some (S1, x)) : Ret M7_read 8 0 0 [rc 12] ((S, T), Y) (some (vi x)) ((S1, T), Y) := by
  refine Ret.of (by decide +kernel) (Nat.le_of_ble_eq_true rfl) ?_
  unfold f7_read at h
  show Go _ _ _ _ _ _ 0 [(0, rc 12)] [] ((S, T), Y) _
  refine go_blk rfl [(.aload_n 0, 1, 0, 0, 0, .inl 0), (.getfield 44, 3, 7, 0, 1, .inl 0)] 0 4 _ _ _ (by decide +kernel) ?_
  refine And.intro (lc_t12 hT) (Exists.intro _ (And.intro (gRc (lc_r7_0 hT)) ?_))
  show Go _ _ _ _ _ _ 4 [(0, rc 12)] [rc 1] ((S, T), Y) _
  obtain ⟨r1, hr1, h⟩ := bind_el h
  refine go_callV (idx := 48) (z := 1) (M' := M9_rewind) (n := 0) (A := []) (v' := none) (μ' := ((r1.1, T), Y)) (d' := 1) (mc' := 0) (ms' := 0) (kc' := 0) (ks' := 0) (ci := 9) (x := .inl 1) (by decide +kernel) ml_7_48 rfl wv9_rewind rfl (by decide) rfl (lc_t1 hT) (ret9_rewind hT hr1) (by decide) rfl rfl (Nat.le_of_ble_eq_true rfl) rfl (jag rfl rfl) ?_
  show Go _ _ _ _ _ _ 7 [(0, rc 12)] [] ((r1.1, T), Y) _
  refine go_blk rfl [(.aload_n 0, 1, 0, 0, 0, .inl 0), (.iconst 0, 1, 0, 0, 0, .inl 0), (.putfield 15, 3, 7, 2, 0, .inl 0)] 7 12 _ _ _ (by decide +kernel) ?_
  refine And.intro (lc_t12 hT) (And.intro trivial ?_)
  show Go _ _ _ _ _ _ 12 [(0, rc 12)] [] ((wI r1.1 12 2 0, T), Y) _
  refine go_blk rfl [(.aload_n 0, 1, 0, 0, 0, .inl 0), (.iconst 0, 1, 0, 0, 0, .inl 0), (.putfield 22, 3, 7, 4, 0, .inl 0)] 12 17 _ _ _ (by decide +kernel) ?_
  refine And.intro (lc_t12 hT) (And.intro trivial ?_)
  show Go _ _ _ _ _ _ 17 [(0, rc 12)] [] ((wI (wI r1.1 12 2 0) 12 4 0, T), Y) _
  refine go_blk rfl [(.aload_n 0, 1, 0, 0, 0, .inl 0), (.iconst 0, 1, 0, 0, 0, .inl 0), (.putfield 25, 3, 7, 5, 0, .inl 0)] 17 22 _ _ _ (by decide +kernel) ?_
  refine And.intro (lc_t12 hT) (And.intro trivial ?_)
  show Go _ _ _ _ _ _ 22 [(0, rc 12)] [] ((wI (wI (wI r1.1 12 2 0) 12 4 0) 12 5 0, T), Y) _
  refine go_blk rfl [(.aload_n 0, 1, 0, 0, 0, .inl 0), (.iconst 0, 1, 0, 0, 0, .inl 0), (.putfield 28, 3, 7, 6, 0, .inl 0)] 22 27 _ _ _ (by decide +kernel) ?_
  refine And.intro (lc_t12 hT) (And.intro trivial ?_)
  show Go _ _ _ _ _ _ 27 [(0, rc 12)] [] ((wI (wI (wI (wI r1.1 12 2 0) 12 4 0) 12 5 0) 12 6 0, T), Y) _
  refine go_blk rfl [(.aload_n 0, 1, 0, 0, 0, .inl 0), (.iconst 0, 1, 0, 0, 0, .inl 0), (.putfield 31, 3, 7, 7, 0, .inl 0)] 27 32 _ _ _ (by decide +kernel) ?_
  refine And.intro (lc_t12 hT) (And.intro trivial ?_)
  show Go _ _ _ _ _ _ 32 [(0, rc 12)] [] ((wI (wI (wI (wI (wI r1.1 12 2 0) 12 4 0) 12 5 0) 12 6 0) 12 7 0, T), Y) _
  refine go_blk rfl [(.aload_n 0, 1, 0, 0, 0, .inl 0), (.iconst 0, 1, 0, 0, 0, .inl 0), (.putfield 34, 3, 7, 8, 0, .inl 0)] 32 37 _ _ _ (by decide +kernel) ?_
  refine And.intro (lc_t12 hT) (And.intro trivial ?_)
  show Go _ _ _ _ _ _ 37 [(0, rc 12)] [] ((wI (wI (wI (wI (wI (wI r1.1 12 2 0) 12 4 0) 12 5 0) 12 6 0) 12 7 0) 12 8 0, T), Y) _
  refine go_blk rfl [(.iconst 0, 1, 0, 0, 0, .inl 0), (.istore_n 1, 1, 1, 0, 0, .inl 0)] 37 39 _ _ _ (by decide +kernel) ?_
  show Go _ _ _ _ _ _ 39 [(1, vi 0), (0, rc 12)] [] ((wI (wI (wI (wI (wI (wI r1.1 12 2 0) 12 4 0) 12 5 0) 12 6 0) 12 7 0) 12 8 0, T), Y) _
  refine go_pick [1, 0] rfl ?_
  exact f7_read_L1_ok hT _ _ _ h
def f8_isFree (S : jS) (a0 : Nat) (a1 : Int32) (a2 : Int32) : Option Int32 := (if ((((S.1 a0 3) >>> (a1 &&& 31)) &&& ((a2 ^^^ ((-1))) >>> (a1 &&& 31))) &&& 1) = 1 then some 1 else some 0)
theorem ret8_isFree {S : jS} {T : jT} {Y : jS × jT} {a0 : Nat} {a1 : Int32} {a2 : Int32} {x : Int32} (hT : LayC T) (h0 : LayHall T a0) (h : f8_isFree S a0 a1 a2 = some x) : Ret M8_isFree 1 0 0 [rc a0, vi a1, vi a2] ((S, T), Y) (some (vi x)) ((S, T), Y) := by
  refine Ret.of (by decide +kernel) (Nat.le_of_ble_eq_true rfl) ?_
  unfold f8_isFree at h
  show Go _ _ _ _ _ _ 0 [(0, rc a0), (1, vi a1), (2, vi a2)] [] ((S, T), Y) _
  refine go_blk rfl [(.aload_n 0, 1, 0, 0, 0, .inl 0), (.getfield 28, 3, 4, 3, 0, .inl 0), (.iload_n 1, 1, 1, 0, 0, .inl 0), (.ishr, 1, 0, 0, 0, .inl 0), (.iload_n 2, 1, 2, 0, 0, .inl 0), (.iconst (-1), 1, 0, 0, 0, .inl (-1)), (.ixor, 1, 0, 0, 0, .inl 0), (.iload_n 1, 1, 1, 0, 0, .inl 0), (.ishr, 1, 0, 0, 0, .inl 0), (.iand, 1, 0, 0, 0, .inl 0), (.iconst 1, 1, 0, 0, 0, .inl 1), (.iand, 1, 0, 0, 0, .inl 0), (.iconst 1, 1, 0, 0, 0, .inl 1)] 0 15 _ _ _ (by decide +kernel) ?_
  refine And.intro h0.1 ?_
  show Go _ _ _ _ _ _ 15 [(0, rc a0), (1, vi a1), (2, vi a2)] [vi 1, vi ((((S.1 a0 3) >>> (a1 &&& 31)) &&& ((a2 ^^^ ((-1))) >>> (a1 &&& 31))) &&& 1)] ((S, T), Y) _
  refine ite_el h (fun q1 h => ?_) (fun q1 h => ?_)
  · refine go_icmp_ne (off := 7) (tgt := 22) (by decide +kernel) (by decide) (fun z => absurd q1 z) (fun _ => ?_)
    refine go_blk rfl [(.iconst 1, 1, 0, 0, 0, .inl 1)] 18 19 _ _ _ (by decide +kernel) ?_
    show Go _ _ _ _ _ _ 19 [(0, rc a0), (1, vi a1), (2, vi a2)] [vi 1] ((S, T), Y) _
    refine go_goto (off := 4) (tgt := 23) (by decide +kernel) (by decide) ?_
    obtain rfl := Option.some.inj h
    exact go_ireturn (by decide +kernel) rfl rfl ⟨rfl, rfl⟩
  · refine go_icmp_ne (off := 7) (tgt := 22) (by decide +kernel) (by decide) (fun _ => ?_) (fun z => absurd z q1)
    refine go_blk rfl [(.iconst 0, 1, 0, 0, 0, .inl 0)] 22 23 _ _ _ (by decide +kernel) ?_
    show Go _ _ _ _ _ _ 23 [(0, rc a0), (1, vi a1), (2, vi a2)] [vi 0] ((S, T), Y) _
    obtain rfl := Option.some.inj h
    exact go_ireturn (by decide +kernel) rfl rfl ⟨rfl, rfl⟩
