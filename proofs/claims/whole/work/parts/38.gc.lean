def f10_chair (S : jS) (a0 : Int32) (a1 : Int32) : Option Int32 := Option.bind (f4_hasChair S (100 + 8) a0) (fun r1 => (if r1 = 0 then some ((-1)) else (if a1 = 0 then (if inb a0 6 then some (S.1 (100 + 8 + 1) a0.toNatClampNeg) else none) else (if a1 = 1 then some (((S.1 (100 + 8) 3) >>> (a0 &&& 31)) &&& 1) else some ((-1))))))
theorem ret10_chair {S : jS} {T : jT} {Y : jS × jT} {a0 : Int32} {a1 : Int32} {x : Int32} (hT : LayC T) (h : f10_chair S a0 a1 = some x) : Ret M10_chair 2 0 0 [rc 0, vi a0, vi a1] ((S, T), Y) (some (vi x)) ((S, T), Y) := by
  refine Ret.of (by decide +kernel) (Nat.le_of_ble_eq_true rfl) ?_
  unfold f10_chair at h
  show Go _ _ _ _ _ _ 0 [(0, rc 0), (1, vi a0), (2, vi a1)] [] ((S, T), Y) _
  refine go_blk rfl [(.aload_n 0, 1, 0, 0, 0, .inl 0), (.getfield 45, 3, 10, 5, 1, .inl 0), (.getfield 102, 3, 0, 1, 1, .inl 0), (.astore_n 3, 1, 3, 0, 0, .inl 0), (.aload_n 3, 1, 3, 0, 0, .inl 0), (.iload_n 1, 1, 1, 0, 0, .inl 0)] 0 10 _ _ _ (by decide +kernel) ?_
  refine And.intro (lc_t0 hT) (Exists.intro _ (And.intro (gRc (lc_r10_5 hT)) ?_))
  refine And.intro (lc_b100 hT).1 (Exists.intro _ (And.intro (gRc (lc_b100 hT).2.2.1.1) ?_))
  show Go _ _ _ _ _ _ 10 [(3, rc (100 + 8)), (0, rc 0), (1, vi a0), (2, vi a1)] [vi a0, rc (100 + 8)] ((S, T), Y) _
  obtain ⟨r1, hr1, h⟩ := bind_el h
  refine go_callV (idx := 118) (z := 1) (M' := M4_hasChair) (n := 1) (A := [vi a0]) (v' := some (vi r1)) (μ' := ((S, T), Y)) (d' := 1) (mc' := 0) (ms' := 0) (kc' := 0) (ks' := 0) (ci := 4) (x := .inl (100 + 8)) (by decide +kernel) ml_10_118 rfl wv4_hasChair rfl (by decide) rfl ((lc_b100 hT).2.2.1.2).1 (ret4_hasChair ((lc_b100 hT).2.2.1.2) hr1) (by decide) rfl rfl (Nat.le_of_ble_eq_true rfl) rfl (jag rfl rfl) ?_
  show Go _ _ _ _ _ _ 13 [(3, rc (100 + 8)), (0, rc 0), (1, vi a0), (2, vi a1)] [vi r1] ((S, T), Y) _
  refine ite_el h (fun q1 h => ?_) (fun q1 h => ?_)
  · refine go_if_ne (off := 5) (tgt := 18) (by decide +kernel) (by decide) (fun z => absurd q1 z) (fun _ => ?_)
    refine go_blk rfl [(.iconst (-1), 1, 0, 0, 0, .inl (-1))] 16 17 _ _ _ (by decide +kernel) ?_
    show Go _ _ _ _ _ _ 17 [(3, rc (100 + 8)), (0, rc 0), (1, vi a0), (2, vi a1)] [vi ((-1))] ((S, T), Y) _
    obtain rfl := Option.some.inj h
    exact go_ireturn (by decide +kernel) rfl rfl ⟨rfl, rfl⟩
  · refine go_if_ne (off := 5) (tgt := 18) (by decide +kernel) (by decide) (fun _ => ?_) (fun z => absurd z q1)
    refine go_blk rfl [(.iload_n 2, 1, 2, 0, 0, .inl 0)] 18 19 _ _ _ (by decide +kernel) ?_
    show Go _ _ _ _ _ _ 19 [(3, rc (100 + 8)), (0, rc 0), (1, vi a0), (2, vi a1)] [vi a1] ((S, T), Y) _
    refine ite_el h (fun q3 h => ?_) (fun q3 h => ?_)
    · refine go_lookup (dflt := 41) (ps := #[(0, 25), (1, 32)]) (len := 25) (off := 25) (tgt := 44) (by decide +kernel) (by decide) (by rw [q3]; decide) (by decide) ?_
      refine gd_el h (fun q2 h => ?_)
      refine go_blk rfl [(.aload_n 3, 1, 3, 0, 0, .inl 0), (.getfield 122, 3, 4, 8, 1, .inl 0), (.iload_n 1, 1, 1, 0, 0, .inl 0), (.iaload, 1, 20, 0, 0, .inl 0)] 44 50 _ _ _ (by decide +kernel) ?_
      refine And.intro ((lc_b100 hT).2.2.1.2).1 (Exists.intro _ (And.intro (gRc ((lc_b100 hT).2.2.1.2).2.1.1) ?_))
      refine And.intro ((lc_b100 hT).2.2.1.2).2.1.2.1 (Exists.intro _ (And.intro ((lc_b100 hT).2.2.1.2).2.1.2.2 (And.intro (inb_in q2) ?_)))
      show Go _ _ _ _ _ _ 50 [(3, rc (100 + 8)), (0, rc 0), (1, vi a0), (2, vi a1)] [vi (S.1 (100 + 8 + 1) a0.toNatClampNeg)] ((S, T), Y) _
      obtain rfl := Option.some.inj h
      exact go_ireturn (by decide +kernel) rfl rfl ⟨rfl, rfl⟩
    refine ite_el h (fun q4 h => ?_) (fun q4 h => ?_)
    · refine go_lookup (dflt := 41) (ps := #[(0, 25), (1, 32)]) (len := 25) (off := 32) (tgt := 51) (by decide +kernel) (by decide) (by rw [q4]; decide) (by decide) ?_
      refine go_blk rfl [(.aload_n 3, 1, 3, 0, 0, .inl 0), (.getfield 126, 3, 4, 3, 0, .inl 0), (.iload_n 1, 1, 1, 0, 0, .inl 0), (.ishr, 1, 0, 0, 0, .inl 0), (.iconst 1, 1, 0, 0, 0, .inl 1), (.iand, 1, 0, 0, 0, .inl 0)] 51 59 _ _ _ (by decide +kernel) ?_
      refine And.intro ((lc_b100 hT).2.2.1.2).1 ?_
      show Go _ _ _ _ _ _ 59 [(3, rc (100 + 8)), (0, rc 0), (1, vi a0), (2, vi a1)] [vi (((S.1 (100 + 8) 3) >>> (a0 &&& 31)) &&& 1)] ((S, T), Y) _
      obtain rfl := Option.some.inj h
      exact go_ireturn (by decide +kernel) rfl rfl ⟨rfl, rfl⟩
    refine go_lookup (dflt := 41) (ps := #[(0, 25), (1, 32)]) (len := 25) (off := 41) (tgt := 60) (by decide +kernel) (by decide) (by have z0 : a1.toInt ≠ 0 := tb_ne q3 (by decide); have z1 : a1.toInt ≠ 1 := tb_ne q4 (by decide); exact lk_out _ _ _ (by simp only [List.forall_mem_cons, List.not_mem_nil]; refine ⟨by intro z; omega, by intro z; omega, fun _ z => nomatch z⟩)) (by decide) ?_
    refine go_blk rfl [(.iconst (-1), 1, 0, 0, 0, .inl (-1))] 60 61 _ _ _ (by decide +kernel) ?_
    show Go _ _ _ _ _ _ 61 [(3, rc (100 + 8)), (0, rc 0), (1, vi a0), (2, vi a1)] [vi ((-1))] ((S, T), Y) _
    obtain rfl := Option.some.inj h
    exact go_ireturn (by decide +kernel) rfl rfl ⟨rfl, rfl⟩
def f10_guest (S : jS) (a0 : Int32) (a1 : Int32) : Option Int32 := Option.bind (f4_hasGuest S (100 + 8) a0) (fun r1 => (if r1 = 0 then some ((-1)) else (if a1 = 0 then (if inb a0 7 then some (S.1 (100 + 8 + 2) a0.toNatClampNeg) else none) else (if a1 = 1 then (if inb a0 7 then some (S.1 (100 + 8 + 3) a0.toNatClampNeg) else none) else (if a1 = 2 then (if inb a0 7 then some (S.1 (100 + 8 + 4) a0.toNatClampNeg) else none) else (if a1 = 3 then (if inb a0 7 then some (S.1 (100 + 8 + 5) a0.toNatClampNeg) else none) else (if a1 = 4 then (if inb a0 7 then some (S.1 (100 + 8 + 6) a0.toNatClampNeg) else none) else (if a1 = 5 then some (((S.1 (100 + 8) 4) >>> (a0 &&& 31)) &&& 1) else some ((-1))))))))))
theorem ret10_guest {S : jS} {T : jT} {Y : jS × jT} {a0 : Int32} {a1 : Int32} {x : Int32} (hT : LayC T) (h : f10_guest S a0 a1 = some x) : Ret M10_guest 2 0 0 [rc 0, vi a0, vi a1] ((S, T), Y) (some (vi x)) ((S, T), Y) := by
  refine Ret.of (by decide +kernel) (Nat.le_of_ble_eq_true rfl) ?_
  unfold f10_guest at h
  show Go _ _ _ _ _ _ 0 [(0, rc 0), (1, vi a0), (2, vi a1)] [] ((S, T), Y) _
  refine go_blk rfl [(.aload_n 0, 1, 0, 0, 0, .inl 0), (.getfield 45, 3, 10, 5, 1, .inl 0), (.getfield 102, 3, 0, 1, 1, .inl 0), (.astore_n 3, 1, 3, 0, 0, .inl 0), (.aload_n 3, 1, 3, 0, 0, .inl 0), (.iload_n 1, 1, 1, 0, 0, .inl 0)] 0 10 _ _ _ (by decide +kernel) ?_
  refine And.intro (lc_t0 hT) (Exists.intro _ (And.intro (gRc (lc_r10_5 hT)) ?_))
  refine And.intro (lc_b100 hT).1 (Exists.intro _ (And.intro (gRc (lc_b100 hT).2.2.1.1) ?_))
  show Go _ _ _ _ _ _ 10 [(3, rc (100 + 8)), (0, rc 0), (1, vi a0), (2, vi a1)] [vi a0, rc (100 + 8)] ((S, T), Y) _
  obtain ⟨r1, hr1, h⟩ := bind_el h
  refine go_callV (idx := 129) (z := 1) (M' := M4_hasGuest) (n := 1) (A := [vi a0]) (v' := some (vi r1)) (μ' := ((S, T), Y)) (d' := 1) (mc' := 0) (ms' := 0) (kc' := 0) (ks' := 0) (ci := 4) (x := .inl (100 + 8)) (by decide +kernel) ml_10_129 rfl wv4_hasGuest rfl (by decide) rfl ((lc_b100 hT).2.2.1.2).1 (ret4_hasGuest ((lc_b100 hT).2.2.1.2) hr1) (by decide) rfl rfl (Nat.le_of_ble_eq_true rfl) rfl (jag rfl rfl) ?_
  show Go _ _ _ _ _ _ 13 [(3, rc (100 + 8)), (0, rc 0), (1, vi a0), (2, vi a1)] [vi r1] ((S, T), Y) _
  refine ite_el h (fun q1 h => ?_) (fun q1 h => ?_)
  · refine go_if_ne (off := 5) (tgt := 18) (by decide +kernel) (by decide) (fun z => absurd q1 z) (fun _ => ?_)
    refine go_blk rfl [(.iconst (-1), 1, 0, 0, 0, .inl (-1))] 16 17 _ _ _ (by decide +kernel) ?_
    show Go _ _ _ _ _ _ 17 [(3, rc (100 + 8)), (0, rc 0), (1, vi a0), (2, vi a1)] [vi ((-1))] ((S, T), Y) _
    obtain rfl := Option.some.inj h
    exact go_ireturn (by decide +kernel) rfl rfl ⟨rfl, rfl⟩
  · refine go_if_ne (off := 5) (tgt := 18) (by decide +kernel) (by decide) (fun _ => ?_) (fun z => absurd z q1)
    refine go_blk rfl [(.iload_n 2, 1, 2, 0, 0, .inl 0)] 18 19 _ _ _ (by decide +kernel) ?_
    show Go _ _ _ _ _ _ 19 [(3, rc (100 + 8)), (0, rc 0), (1, vi a0), (2, vi a1)] [vi a1] ((S, T), Y) _
    refine ite_el h (fun q7 h => ?_) (fun q7 h => ?_)
    · refine go_tableIn (dflt := 81) (lo := 0) (hi := 5) (offs := #[37, 44, 51, 58, 65, 72]) (len := 37) (off := 37) (tgt := 56) (by decide +kernel) (by rw [q7]; decide) (by rw [q7]; decide) (by rw [q7]; decide) (by decide) ?_
      refine gd_el h (fun q2 h => ?_)
      refine go_blk rfl [(.aload_n 3, 1, 3, 0, 0, .inl 0), (.getfield 132, 3, 4, 9, 1, .inl 0), (.iload_n 1, 1, 1, 0, 0, .inl 0), (.iaload, 1, 20, 0, 0, .inl 0)] 56 62 _ _ _ (by decide +kernel) ?_
      refine And.intro ((lc_b100 hT).2.2.1.2).1 (Exists.intro _ (And.intro (gRc ((lc_b100 hT).2.2.1.2).2.2.1.1) ?_))
      refine And.intro ((lc_b100 hT).2.2.1.2).2.2.1.2.1 (Exists.intro _ (And.intro ((lc_b100 hT).2.2.1.2).2.2.1.2.2 (And.intro (inb_in q2) ?_)))
      show Go _ _ _ _ _ _ 62 [(3, rc (100 + 8)), (0, rc 0), (1, vi a0), (2, vi a1)] [vi (S.1 (100 + 8 + 2) a0.toNatClampNeg)] ((S, T), Y) _
      obtain rfl := Option.some.inj h
      exact go_ireturn (by decide +kernel) rfl rfl ⟨rfl, rfl⟩
    refine ite_el h (fun q8 h => ?_) (fun q8 h => ?_)
    · refine go_tableIn (dflt := 81) (lo := 0) (hi := 5) (offs := #[37, 44, 51, 58, 65, 72]) (len := 37) (off := 44) (tgt := 63) (by decide +kernel) (by rw [q8]; decide) (by rw [q8]; decide) (by rw [q8]; decide) (by decide) ?_
      refine gd_el h (fun q3 h => ?_)
      refine go_blk rfl [(.aload_n 3, 1, 3, 0, 0, .inl 0), (.getfield 135, 3, 4, 10, 1, .inl 0), (.iload_n 1, 1, 1, 0, 0, .inl 0), (.iaload, 1, 20, 0, 0, .inl 0)] 63 69 _ _ _ (by decide +kernel) ?_
      refine And.intro ((lc_b100 hT).2.2.1.2).1 (Exists.intro _ (And.intro (gRc ((lc_b100 hT).2.2.1.2).2.2.2.1.1) ?_))
      refine And.intro ((lc_b100 hT).2.2.1.2).2.2.2.1.2.1 (Exists.intro _ (And.intro ((lc_b100 hT).2.2.1.2).2.2.2.1.2.2 (And.intro (inb_in q3) ?_)))
      show Go _ _ _ _ _ _ 69 [(3, rc (100 + 8)), (0, rc 0), (1, vi a0), (2, vi a1)] [vi (S.1 (100 + 8 + 3) a0.toNatClampNeg)] ((S, T), Y) _
      obtain rfl := Option.some.inj h
      exact go_ireturn (by decide +kernel) rfl rfl ⟨rfl, rfl⟩
    refine ite_el h (fun q9 h => ?_) (fun q9 h => ?_)
    · refine go_tableIn (dflt := 81) (lo := 0) (hi := 5) (offs := #[37, 44, 51, 58, 65, 72]) (len := 37) (off := 51) (tgt := 70) (by decide +kernel) (by rw [q9]; decide) (by rw [q9]; decide) (by rw [q9]; decide) (by decide) ?_
      refine gd_el h (fun q4 h => ?_)
      refine go_blk rfl [(.aload_n 3, 1, 3, 0, 0, .inl 0), (.getfield 138, 3, 4, 11, 1, .inl 0), (.iload_n 1, 1, 1, 0, 0, .inl 0), (.iaload, 1, 20, 0, 0, .inl 0)] 70 76 _ _ _ (by decide +kernel) ?_
      refine And.intro ((lc_b100 hT).2.2.1.2).1 (Exists.intro _ (And.intro (gRc ((lc_b100 hT).2.2.1.2).2.2.2.2.1.1) ?_))
      refine And.intro ((lc_b100 hT).2.2.1.2).2.2.2.2.1.2.1 (Exists.intro _ (And.intro ((lc_b100 hT).2.2.1.2).2.2.2.2.1.2.2 (And.intro (inb_in q4) ?_)))
      show Go _ _ _ _ _ _ 76 [(3, rc (100 + 8)), (0, rc 0), (1, vi a0), (2, vi a1)] [vi (S.1 (100 + 8 + 4) a0.toNatClampNeg)] ((S, T), Y) _
      obtain rfl := Option.some.inj h
      exact go_ireturn (by decide +kernel) rfl rfl ⟨rfl, rfl⟩
    refine ite_el h (fun q10 h => ?_) (fun q10 h => ?_)
    · refine go_tableIn (dflt := 81) (lo := 0) (hi := 5) (offs := #[37, 44, 51, 58, 65, 72]) (len := 37) (off := 58) (tgt := 77) (by decide +kernel) (by rw [q10]; decide) (by rw [q10]; decide) (by rw [q10]; decide) (by decide) ?_
      refine gd_el h (fun q5 h => ?_)
      refine go_blk rfl [(.aload_n 3, 1, 3, 0, 0, .inl 0), (.getfield 141, 3, 4, 12, 1, .inl 0), (.iload_n 1, 1, 1, 0, 0, .inl 0), (.iaload, 1, 20, 0, 0, .inl 0)] 77 83 _ _ _ (by decide +kernel) ?_
      refine And.intro ((lc_b100 hT).2.2.1.2).1 (Exists.intro _ (And.intro (gRc ((lc_b100 hT).2.2.1.2).2.2.2.2.2.1.1) ?_))
      refine And.intro ((lc_b100 hT).2.2.1.2).2.2.2.2.2.1.2.1 (Exists.intro _ (And.intro ((lc_b100 hT).2.2.1.2).2.2.2.2.2.1.2.2 (And.intro (inb_in q5) ?_)))
      show Go _ _ _ _ _ _ 83 [(3, rc (100 + 8)), (0, rc 0), (1, vi a0), (2, vi a1)] [vi (S.1 (100 + 8 + 5) a0.toNatClampNeg)] ((S, T), Y) _
      obtain rfl := Option.some.inj h
      exact go_ireturn (by decide +kernel) rfl rfl ⟨rfl, rfl⟩
    refine ite_el h (fun q11 h => ?_) (fun q11 h => ?_)
    · refine go_tableIn (dflt := 81) (lo := 0) (hi := 5) (offs := #[37, 44, 51, 58, 65, 72]) (len := 37) (off := 65) (tgt := 84) (by decide +kernel) (by rw [q11]; decide) (by rw [q11]; decide) (by rw [q11]; decide) (by decide) ?_
      refine gd_el h (fun q6 h => ?_)
      refine go_blk rfl [(.aload_n 3, 1, 3, 0, 0, .inl 0), (.getfield 144, 3, 4, 13, 1, .inl 0), (.iload_n 1, 1, 1, 0, 0, .inl 0), (.iaload, 1, 20, 0, 0, .inl 0)] 84 90 _ _ _ (by decide +kernel) ?_
      refine And.intro ((lc_b100 hT).2.2.1.2).1 (Exists.intro _ (And.intro (gRc ((lc_b100 hT).2.2.1.2).2.2.2.2.2.2.1) ?_))
      refine And.intro ((lc_b100 hT).2.2.1.2).2.2.2.2.2.2.2.1 (Exists.intro _ (And.intro ((lc_b100 hT).2.2.1.2).2.2.2.2.2.2.2.2 (And.intro (inb_in q6) ?_)))
      show Go _ _ _ _ _ _ 90 [(3, rc (100 + 8)), (0, rc 0), (1, vi a0), (2, vi a1)] [vi (S.1 (100 + 8 + 6) a0.toNatClampNeg)] ((S, T), Y) _
      obtain rfl := Option.some.inj h
      exact go_ireturn (by decide +kernel) rfl rfl ⟨rfl, rfl⟩
    refine ite_el h (fun q12 h => ?_) (fun q12 h => ?_)
    · refine go_tableIn (dflt := 81) (lo := 0) (hi := 5) (offs := #[37, 44, 51, 58, 65, 72]) (len := 37) (off := 72) (tgt := 91) (by decide +kernel) (by rw [q12]; decide) (by rw [q12]; decide) (by rw [q12]; decide) (by decide) ?_
      refine go_blk rfl [(.aload_n 3, 1, 3, 0, 0, .inl 0), (.getfield 147, 3, 4, 4, 0, .inl 0), (.iload_n 1, 1, 1, 0, 0, .inl 0), (.ishr, 1, 0, 0, 0, .inl 0), (.iconst 1, 1, 0, 0, 0, .inl 1), (.iand, 1, 0, 0, 0, .inl 0)] 91 99 _ _ _ (by decide +kernel) ?_
      refine And.intro ((lc_b100 hT).2.2.1.2).1 ?_
      show Go _ _ _ _ _ _ 99 [(3, rc (100 + 8)), (0, rc 0), (1, vi a0), (2, vi a1)] [vi (((S.1 (100 + 8) 4) >>> (a0 &&& 31)) &&& 1)] ((S, T), Y) _
      obtain rfl := Option.some.inj h
      exact go_ireturn (by decide +kernel) rfl rfl ⟨rfl, rfl⟩
    refine go_tableOut (dflt := 81) (lo := 0) (hi := 5) (offs := #[37, 44, 51, 58, 65, 72]) (len := 37) (tgt := 100) (by decide +kernel) (by have z0 : a1.toInt ≠ 0 := tb_ne q7 (by decide); have z1 : a1.toInt ≠ 1 := tb_ne q8 (by decide); have z2 : a1.toInt ≠ 2 := tb_ne q9 (by decide); have z3 : a1.toInt ≠ 3 := tb_ne q10 (by decide); have z4 : a1.toInt ≠ 4 := tb_ne q11 (by decide); have z5 : a1.toInt ≠ 5 := tb_ne q12 (by decide); omega) (by decide) ?_
    refine go_blk rfl [(.iconst (-1), 1, 0, 0, 0, .inl (-1))] 100 101 _ _ _ (by decide +kernel) ?_
    show Go _ _ _ _ _ _ 101 [(3, rc (100 + 8)), (0, rc 0), (1, vi a0), (2, vi a1)] [vi ((-1))] ((S, T), Y) _
    obtain rfl := Option.some.inj h
    exact go_ireturn (by decide +kernel) rfl rfl ⟨rfl, rfl⟩
def f10_time (S : jS) (a0 : Int32) (a1 : Int32) : Option Int32 := Option.bind (f4_hasGuest S (100 + 8) a0) (fun r1 => (if r1 = 0 then some ((-1)) else Option.bind (f4_hasChair S (100 + 8) a1) (fun r2 => (if r2 = 0 then some ((-1)) else Option.bind (f4_timeFor S (100 + 8) a0 a1) (fun r3 => some r3)))))
theorem ret10_time {S : jS} {T : jT} {Y : jS × jT} {a0 : Int32} {a1 : Int32} {x : Int32} (hT : LayC T) (h : f10_time S a0 a1 = some x) : Ret M10_time 3 0 0 [rc 0, vi a0, vi a1] ((S, T), Y) (some (vi x)) ((S, T), Y) := by
  refine Ret.of (by decide +kernel) (Nat.le_of_ble_eq_true rfl) ?_
  unfold f10_time at h
  show Go _ _ _ _ _ _ 0 [(0, rc 0), (1, vi a0), (2, vi a1)] [] ((S, T), Y) _
  refine go_blk rfl [(.aload_n 0, 1, 0, 0, 0, .inl 0), (.getfield 45, 3, 10, 5, 1, .inl 0), (.getfield 102, 3, 0, 1, 1, .inl 0), (.astore_n 3, 1, 3, 0, 0, .inl 0), (.aload_n 3, 1, 3, 0, 0, .inl 0), (.iload_n 1, 1, 1, 0, 0, .inl 0)] 0 10 _ _ _ (by decide +kernel) ?_
  refine And.intro (lc_t0 hT) (Exists.intro _ (And.intro (gRc (lc_r10_5 hT)) ?_))
  refine And.intro (lc_b100 hT).1 (Exists.intro _ (And.intro (gRc (lc_b100 hT).2.2.1.1) ?_))
  show Go _ _ _ _ _ _ 10 [(3, rc (100 + 8)), (0, rc 0), (1, vi a0), (2, vi a1)] [vi a0, rc (100 + 8)] ((S, T), Y) _
  obtain ⟨r1, hr1, h⟩ := bind_el h
  refine go_callV (idx := 129) (z := 1) (M' := M4_hasGuest) (n := 1) (A := [vi a0]) (v' := some (vi r1)) (μ' := ((S, T), Y)) (d' := 1) (mc' := 0) (ms' := 0) (kc' := 0) (ks' := 0) (ci := 4) (x := .inl (100 + 8)) (by decide +kernel) ml_10_129 rfl wv4_hasGuest rfl (by decide) rfl ((lc_b100 hT).2.2.1.2).1 (ret4_hasGuest ((lc_b100 hT).2.2.1.2) hr1) (by decide) rfl rfl (Nat.le_of_ble_eq_true rfl) rfl (jag rfl rfl) ?_
  show Go _ _ _ _ _ _ 13 [(3, rc (100 + 8)), (0, rc 0), (1, vi a0), (2, vi a1)] [vi r1] ((S, T), Y) _
  refine ite_el h (fun q1 h => ?_) (fun q1 h => ?_)
  · refine go_if_eq (off := 20) (tgt := 33) (by decide +kernel) (by decide) (fun _ => ?_) (fun z => absurd q1 z)
    refine go_blk rfl [(.iconst (-1), 1, 0, 0, 0, .inl (-1))] 33 34 _ _ _ (by decide +kernel) ?_
    show Go _ _ _ _ _ _ 34 [(3, rc (100 + 8)), (0, rc 0), (1, vi a0), (2, vi a1)] [vi ((-1))] ((S, T), Y) _
    obtain rfl := Option.some.inj h
    exact go_ireturn (by decide +kernel) rfl rfl ⟨rfl, rfl⟩
  · refine go_if_eq (off := 20) (tgt := 33) (by decide +kernel) (by decide) (fun z => absurd z q1) (fun _ => ?_)
    refine go_blk rfl [(.aload_n 3, 1, 3, 0, 0, .inl 0), (.iload_n 2, 1, 2, 0, 0, .inl 0)] 16 18 _ _ _ (by decide +kernel) ?_
    show Go _ _ _ _ _ _ 18 [(3, rc (100 + 8)), (0, rc 0), (1, vi a0), (2, vi a1)] [vi a1, rc (100 + 8)] ((S, T), Y) _
    obtain ⟨r2, hr2, h⟩ := bind_el h
    refine go_callV (idx := 118) (z := 1) (M' := M4_hasChair) (n := 1) (A := [vi a1]) (v' := some (vi r2)) (μ' := ((S, T), Y)) (d' := 1) (mc' := 0) (ms' := 0) (kc' := 0) (ks' := 0) (ci := 4) (x := .inl (100 + 8)) (by decide +kernel) ml_10_118 rfl wv4_hasChair rfl (by decide) rfl ((lc_b100 hT).2.2.1.2).1 (ret4_hasChair ((lc_b100 hT).2.2.1.2) hr2) (by decide) rfl rfl (Nat.le_of_ble_eq_true rfl) rfl (jag rfl rfl) ?_
    show Go _ _ _ _ _ _ 21 [(3, rc (100 + 8)), (0, rc 0), (1, vi a0), (2, vi a1)] [vi r2] ((S, T), Y) _
    refine ite_el h (fun q2 h => ?_) (fun q2 h => ?_)
    · refine go_if_eq (off := 12) (tgt := 33) (by decide +kernel) (by decide) (fun _ => ?_) (fun z => absurd q2 z)
      refine go_blk rfl [(.iconst (-1), 1, 0, 0, 0, .inl (-1))] 33 34 _ _ _ (by decide +kernel) ?_
      show Go _ _ _ _ _ _ 34 [(3, rc (100 + 8)), (0, rc 0), (1, vi a0), (2, vi a1)] [vi ((-1))] ((S, T), Y) _
      obtain rfl := Option.some.inj h
      exact go_ireturn (by decide +kernel) rfl rfl ⟨rfl, rfl⟩
    · refine go_if_eq (off := 12) (tgt := 33) (by decide +kernel) (by decide) (fun z => absurd z q2) (fun _ => ?_)
      refine go_blk rfl [(.aload_n 3, 1, 3, 0, 0, .inl 0), (.iload_n 1, 1, 1, 0, 0, .inl 0), (.iload_n 2, 1, 2, 0, 0, .inl 0)] 24 27 _ _ _ (by decide +kernel) ?_
      show Go _ _ _ _ _ _ 27 [(3, rc (100 + 8)), (0, rc 0), (1, vi a0), (2, vi a1)] [vi a1, vi a0, rc (100 + 8)] ((S, T), Y) _
      obtain ⟨r3, hr3, h⟩ := bind_el h
      refine go_callV (idx := 150) (z := 1) (M' := M4_timeFor) (n := 2) (A := [vi a0, vi a1]) (v' := some (vi r3)) (μ' := ((S, T), Y)) (d' := 2) (mc' := 0) (ms' := 0) (kc' := 0) (ks' := 0) (ci := 4) (x := .inl (100 + 8)) (by decide +kernel) ml_10_150 rfl wv4_timeFor rfl (by decide) rfl ((lc_b100 hT).2.2.1.2).1 (ret4_timeFor ((lc_b100 hT).2.2.1.2) hr3) (by decide) rfl rfl (Nat.le_of_ble_eq_true rfl) rfl (jag rfl rfl) ?_
      show Go _ _ _ _ _ _ 30 [(3, rc (100 + 8)), (0, rc 0), (1, vi a0), (2, vi a1)] [vi r3] ((S, T), Y) _
      refine go_goto (off := 4) (tgt := 34) (by decide +kernel) (by decide) ?_
      obtain rfl := Option.some.inj h
      exact go_ireturn (by decide +kernel) rfl rfl ⟨rfl, rfl⟩
def f10_ruleOf (T : jT) (S : jS) (a0 : Int32) : Option (Option Nat) := (if a0 < 0 then some none else (if (S.1 0 4) ≤ a0 then some none else (if inb a0 6 then some (T.1 15 a0.toNatClampNeg) else none)))
theorem f10_ruleOf_lay {T : jT} {S : jS} {a0 : Int32} {x : Option Nat} (hT : LayC T) (h : f10_ruleOf T S a0 = some x) : ∀ q, x = some q → LayRule T q := by
  unfold f10_ruleOf at h
  split at h
  · cases h; intro q hq; cases hq
  · split at h
    · cases h; intro q hq; cases hq
    · split at h
      · cases h; intro q hq; exact lc_e15 hT _ q hq
      · cases h
theorem ret10_ruleOf {S : jS} {T : jT} {Y : jS × jT} {a0 : Int32} {x : Option Nat} (hT : LayC T) (h : f10_ruleOf T S a0 = some x) : Ret M10_ruleOf 1 0 0 [rc 0, vi a0] ((S, T), Y) (some (vo x)) ((S, T), Y) := by
  refine Ret.of (by decide +kernel) (Nat.le_of_ble_eq_true rfl) ?_
  unfold f10_ruleOf at h
  show Go _ _ _ _ _ _ 0 [(0, rc 0), (1, vi a0)] [] ((S, T), Y) _
  refine go_blk rfl [(.iload_n 1, 1, 1, 0, 0, .inl 0)] 0 1 _ _ _ (by decide +kernel) ?_
  show Go _ _ _ _ _ _ 1 [(0, rc 0), (1, vi a0)] [vi a0] ((S, T), Y) _
  refine ite_el h (fun q1 h => ?_) (fun q1 h => ?_)
  · refine go_if_lt (off := 20) (tgt := 21) (by decide +kernel) (by decide) (fun _ => ?_) (fun z => absurd q1 z)
    refine go_blk rfl [(.aconst_null, 1, 0, 0, 0, .inl 0)] 21 22 _ _ _ (by decide +kernel) ?_
    show Go _ _ _ _ _ _ 22 [(0, rc 0), (1, vi a0)] [vn] ((S, T), Y) _
    obtain rfl := Option.some.inj h
    exact go_areturn (by decide +kernel) rfl rfl ⟨rfl, rfl⟩
  · refine go_if_lt (off := 20) (tgt := 21) (by decide +kernel) (by decide) (fun z => absurd z q1) (fun _ => ?_)
    refine go_blk rfl [(.iload_n 1, 1, 1, 0, 0, .inl 0), (.aload_n 0, 1, 0, 0, 0, .inl 0), (.getfield 38, 3, 10, 4, 0, .inl 0)] 4 9 _ _ _ (by decide +kernel) ?_
    refine And.intro (lc_t0 hT) ?_
    show Go _ _ _ _ _ _ 9 [(0, rc 0), (1, vi a0)] [vi (S.1 0 4), vi a0] ((S, T), Y) _
    refine ite_el h (fun q2 h => ?_) (fun q2 h => ?_)
    · refine go_icmp_ge (off := 12) (tgt := 21) (by decide +kernel) (by decide) (fun _ => ?_) (fun z => absurd q2 z)
      refine go_blk rfl [(.aconst_null, 1, 0, 0, 0, .inl 0)] 21 22 _ _ _ (by decide +kernel) ?_
      show Go _ _ _ _ _ _ 22 [(0, rc 0), (1, vi a0)] [vn] ((S, T), Y) _
      obtain rfl := Option.some.inj h
      exact go_areturn (by decide +kernel) rfl rfl ⟨rfl, rfl⟩
    · refine go_icmp_ge (off := 12) (tgt := 21) (by decide +kernel) (by decide) (fun z => absurd z q2) (fun _ => ?_)
      refine gd_el h (fun q3 h => ?_)
      refine go_blk rfl [(.aload_n 0, 1, 0, 0, 0, .inl 0), (.getfield 34, 3, 10, 3, 1, .inl 0), (.iload_n 1, 1, 1, 0, 0, .inl 0), (.aaload, 1, 25, 0, 0, .inl 0)] 12 18 _ _ _ (by decide +kernel) ?_
      refine And.intro (lc_t0 hT) (Exists.intro _ (And.intro (gRc (lc_r10_3 hT)) ?_))
      refine And.intro (lc_t15 hT) (Exists.intro _ (And.intro (lc_n15 hT) (And.intro (inb_in q3) (Exists.intro _ (And.intro gRo ?_)))))
      show Go _ _ _ _ _ _ 18 [(0, rc 0), (1, vi a0)] [vo (T.1 15 a0.toNatClampNeg)] ((S, T), Y) _
      refine go_goto (off := 4) (tgt := 22) (by decide +kernel) (by decide) ?_
      obtain rfl := Option.some.inj h
      exact go_areturn (by decide +kernel) rfl rfl ⟨rfl, rfl⟩
def f10_ruleInForce (T : jT) (S : jS) : Option (Option Nat) := Option.bind (f10_ruleOf T S (S.1 100 9)) (fun r1 => some r1)
theorem f10_ruleInForce_lay {T : jT} {S : jS} {x : Option Nat} (hT : LayC T) (h : f10_ruleInForce T S = some x) : ∀ q, x = some q → LayRule T q := by
  unfold f10_ruleInForce at h
  obtain ⟨r, hr, h⟩ := bind_el h
  cases h
  exact f10_ruleOf_lay hT hr
theorem ret10_ruleInForce {S : jS} {T : jT} {Y : jS × jT} {x : Option Nat} (hT : LayC T) (h : f10_ruleInForce T S = some x) : Ret M10_ruleInForce 2 0 0 [rc 0] ((S, T), Y) (some (vo x)) ((S, T), Y) := by
  refine Ret.of (by decide +kernel) (Nat.le_of_ble_eq_true rfl) ?_
  unfold f10_ruleInForce at h
  show Go _ _ _ _ _ _ 0 [(0, rc 0)] [] ((S, T), Y) _
  refine go_blk rfl [(.aload_n 0, 1, 0, 0, 0, .inl 0), (.aload_n 0, 1, 0, 0, 0, .inl 0), (.getfield 45, 3, 10, 5, 1, .inl 0), (.getfield 115, 3, 0, 9, 0, .inl 0)] 0 8 _ _ _ (by decide +kernel) ?_
  refine And.intro (lc_t0 hT) (Exists.intro _ (And.intro (gRc (lc_r10_5 hT)) ?_))
  refine And.intro (lc_b100 hT).1 ?_
  show Go _ _ _ _ _ _ 8 [(0, rc 0)] [vi (S.1 100 9), rc 0] ((S, T), Y) _
  obtain ⟨r1, hr1, h⟩ := bind_el h
  refine go_callV (idx := 293) (z := 0) (M' := M10_ruleOf) (n := 1) (A := [vi (S.1 100 9)]) (v' := some (vo r1)) (μ' := ((S, T), Y)) (d' := 1) (mc' := 0) (ms' := 0) (kc' := 0) (ks' := 0) (ci := 10) (x := .inl 0) (by decide +kernel) ml_10_293 rfl wv10_ruleOf rfl (by decide) rfl (lc_t0 hT) (ret10_ruleOf hT hr1) (by decide) rfl rfl (Nat.le_of_ble_eq_true rfl) rfl (jag rfl rfl) ?_
  show Go _ _ _ _ _ _ 11 [(0, rc 0)] [vo r1] ((S, T), Y) _
  obtain rfl := Option.some.inj h
  exact go_areturn (by decide +kernel) rfl rfl ⟨rfl, rfl⟩
def f10_undo (T : jT) (S : jS) : Option (jS × Int32) := Option.bind (f0_takeBack T S 100) (fun r1 => (if r1.2 = 0 then some (r1.1, (-2)) else some (r1.1, r1.1.1 100 4)))
theorem ret10_undo {S : jS} {T : jT} {Y : jS × jT} {S1 : jS} {x : Int32} (hT : LayC T) (h : f10_undo T S = some (S1, x)) : Ret M10_undo 4 0 0 [rc 0] ((S, T), Y) (some (vi x)) ((S1, T), Y) := by
  refine Ret.of (by decide +kernel) (Nat.le_of_ble_eq_true rfl) ?_
  unfold f10_undo at h
  show Go _ _ _ _ _ _ 0 [(0, rc 0)] [] ((S, T), Y) _
  refine go_blk rfl [(.aload_n 0, 1, 0, 0, 0, .inl 0), (.getfield 45, 3, 10, 5, 1, .inl 0)] 0 4 _ _ _ (by decide +kernel) ?_
  refine And.intro (lc_t0 hT) (Exists.intro _ (And.intro (gRc (lc_r10_5 hT)) ?_))
  show Go _ _ _ _ _ _ 4 [(0, rc 0)] [rc 100] ((S, T), Y) _
  obtain ⟨r1, hr1, h⟩ := bind_el h
  refine go_callV (idx := 194) (z := 1) (M' := M0_takeBack) (n := 0) (A := []) (v' := some (vi r1.2)) (μ' := ((r1.1, T), Y)) (d' := 3) (mc' := 0) (ms' := 0) (kc' := 0) (ks' := 0) (ci := 0) (x := .inl 100) (by decide +kernel) ml_10_194 rfl wv0_takeBack rfl (by decide) rfl (lc_b100 hT).1 (ret0_takeBack (lc_b100 hT) hr1) (by decide) rfl rfl (Nat.le_of_ble_eq_true rfl) rfl (jag rfl rfl) ?_
  show Go _ _ _ _ _ _ 7 [(0, rc 0)] [vi r1.2] ((r1.1, T), Y) _
  refine ite_el h (fun q1 h => ?_) (fun q1 h => ?_)
  · refine go_if_eq (off := 13) (tgt := 20) (by decide +kernel) (by decide) (fun _ => ?_) (fun z => absurd q1 z)
    refine go_blk rfl [(.bipush (-2), 2, 0, 0, 0, .inl (-2))] 20 22 _ _ _ (by decide +kernel) ?_
    show Go _ _ _ _ _ _ 22 [(0, rc 0)] [vi ((-2))] ((r1.1, T), Y) _
    obtain ⟨rfl, rfl⟩ := Prod.mk.inj (Option.some.inj h)
    exact go_ireturn (by decide +kernel) rfl rfl ⟨rfl, rfl⟩
  · refine go_if_eq (off := 13) (tgt := 20) (by decide +kernel) (by decide) (fun z => absurd z q1) (fun _ => ?_)
    refine go_blk rfl [(.aload_n 0, 1, 0, 0, 0, .inl 0), (.getfield 45, 3, 10, 5, 1, .inl 0), (.getfield 197, 3, 0, 4, 0, .inl 0)] 10 17 _ _ _ (by decide +kernel) ?_
    refine And.intro (lc_t0 hT) (Exists.intro _ (And.intro (gRc (lc_r10_5 hT)) ?_))
    refine And.intro (lc_b100 hT).1 ?_
    show Go _ _ _ _ _ _ 17 [(0, rc 0)] [vi (r1.1.1 100 4)] ((r1.1, T), Y) _
    refine go_goto (off := 5) (tgt := 22) (by decide +kernel) (by decide) ?_
    obtain ⟨rfl, rfl⟩ := Prod.mk.inj (Option.some.inj h)
    exact go_ireturn (by decide +kernel) rfl rfl ⟨rfl, rfl⟩
def f10_ahead (T : jT) (S : jS) (a0 : Int32) (a1 : Int32) (a2 : Int32) : Option (jS × Int32) := Option.bind (f4_isTold S (100 + 8)) (fun r1 => (if r1 = 0 then some (S, (-1)) else (if a1 < 0 then some (S, (-1)) else (if 40 < a1 then some (S, (-1)) else (if a2 < 0 then some (S, (-1)) else (if a2 ≤ 2 then (if a2 = 0 then Option.bind (f4_hasGuest S (100 + 8) a0) (fun r2 => (if r2 = 0 then some (S, (-1)) else Option.bind (f10_ruleInForce T S) (fun r3 => Option.bind (f2_after T S (100 + 8) r3 a1) (fun r4 => (if a2 = 0 then (if inb a0 7 then some (r4.1, r4.1.1 (21 + 2) a0.toNatClampNeg) else none) else (if a2 = 1 then some (r4.1, r4.1.1 21 4) else some (r4.1, r4.1.1 21 3))))))) else Option.bind (f10_ruleInForce T S) (fun r5 => Option.bind (f2_after T S (100 + 8) r5 a1) (fun r6 => (if a2 = 0 then (if inb a0 7 then some (r6.1, r6.1.1 (21 + 2) a0.toNatClampNeg) else none) else (if a2 = 1 then some (r6.1, r6.1.1 21 4) else some (r6.1, r6.1.1 21 3)))))) else some (S, (-1))))))))
theorem ret10_ahead {S : jS} {T : jT} {Y : jS × jT} {a0 : Int32} {a1 : Int32} {a2 : Int32} {S1 : jS} {x : Int32} (hT : LayC T) (h : f10_ahead T S a0 a1 a2 = some (S1, x)) : Ret M10_ahead 7 0 0 [rc 0, vi a0, vi a1, vi a2] ((S, T), Y) (some (vi x)) ((S1, T), Y) := by
  refine Ret.of (by decide +kernel) (Nat.le_of_ble_eq_true rfl) ?_
  unfold f10_ahead at h
  show Go _ _ _ _ _ _ 0 [(0, rc 0), (1, vi a0), (2, vi a1), (3, vi a2)] [] ((S, T), Y) _
  refine go_blk rfl [(.aload_n 0, 1, 0, 0, 0, .inl 0), (.getfield 45, 3, 10, 5, 1, .inl 0), (.getfield 102, 3, 0, 1, 1, .inl 0), (.astore 4, 2, 4, 0, 0, .inl 0), (.aload 4, 2, 4, 0, 0, .inl 0)] 0 11 _ _ _ (by decide +kernel) ?_
  refine And.intro (lc_t0 hT) (Exists.intro _ (And.intro (gRc (lc_r10_5 hT)) ?_))
  refine And.intro (lc_b100 hT).1 (Exists.intro _ (And.intro (gRc (lc_b100 hT).2.2.1.1) ?_))
  show Go _ _ _ _ _ _ 11 [(4, rc (100 + 8)), (0, rc 0), (1, vi a0), (2, vi a1), (3, vi a2)] [rc (100 + 8)] ((S, T), Y) _
  obtain ⟨r1, hr1, h⟩ := bind_el h
  refine go_callV (idx := 154) (z := 1) (M' := M4_isTold) (n := 0) (A := []) (v' := some (vi r1)) (μ' := ((S, T), Y)) (d' := 1) (mc' := 0) (ms' := 0) (kc' := 0) (ks' := 0) (ci := 4) (x := .inl (100 + 8)) (by decide +kernel) ml_10_154 rfl wv4_isTold rfl (by decide) rfl ((lc_b100 hT).2.2.1.2).1 (ret4_isTold ((lc_b100 hT).2.2.1.2) hr1) (by decide) rfl rfl (Nat.le_of_ble_eq_true rfl) rfl (jag rfl rfl) ?_
  show Go _ _ _ _ _ _ 14 [(4, rc (100 + 8)), (0, rc 0), (1, vi a0), (2, vi a1), (3, vi a2)] [vi r1] ((S, T), Y) _
  refine ite_el h (fun q1 h => ?_) (fun q1 h => ?_)
  · refine go_if_eq (off := 22) (tgt := 36) (by decide +kernel) (by decide) (fun _ => ?_) (fun z => absurd q1 z)
    refine go_blk rfl [(.iconst (-1), 1, 0, 0, 0, .inl (-1))] 36 37 _ _ _ (by decide +kernel) ?_
    show Go _ _ _ _ _ _ 37 [(4, rc (100 + 8)), (0, rc 0), (1, vi a0), (2, vi a1), (3, vi a2)] [vi ((-1))] ((S, T), Y) _
    obtain ⟨rfl, rfl⟩ := Prod.mk.inj (Option.some.inj h)
    exact go_ireturn (by decide +kernel) rfl rfl ⟨rfl, rfl⟩
  · refine go_if_eq (off := 22) (tgt := 36) (by decide +kernel) (by decide) (fun z => absurd z q1) (fun _ => ?_)
    refine go_blk rfl [(.iload_n 2, 1, 2, 0, 0, .inl 0)] 17 18 _ _ _ (by decide +kernel) ?_
    show Go _ _ _ _ _ _ 18 [(4, rc (100 + 8)), (0, rc 0), (1, vi a0), (2, vi a1), (3, vi a2)] [vi a1] ((S, T), Y) _
    refine ite_el h (fun q2 h => ?_) (fun q2 h => ?_)
    · refine go_if_lt (off := 18) (tgt := 36) (by decide +kernel) (by decide) (fun _ => ?_) (fun z => absurd q2 z)
      refine go_blk rfl [(.iconst (-1), 1, 0, 0, 0, .inl (-1))] 36 37 _ _ _ (by decide +kernel) ?_
      show Go _ _ _ _ _ _ 37 [(4, rc (100 + 8)), (0, rc 0), (1, vi a0), (2, vi a1), (3, vi a2)] [vi ((-1))] ((S, T), Y) _
      obtain ⟨rfl, rfl⟩ := Prod.mk.inj (Option.some.inj h)
      exact go_ireturn (by decide +kernel) rfl rfl ⟨rfl, rfl⟩
    · refine go_if_lt (off := 18) (tgt := 36) (by decide +kernel) (by decide) (fun z => absurd z q2) (fun _ => ?_)
      refine go_blk rfl [(.iload_n 2, 1, 2, 0, 0, .inl 0), (.bipush 40, 2, 0, 0, 0, .inl 40)] 21 24 _ _ _ (by decide +kernel) ?_
      show Go _ _ _ _ _ _ 24 [(4, rc (100 + 8)), (0, rc 0), (1, vi a0), (2, vi a1), (3, vi a2)] [vi 40, vi a1] ((S, T), Y) _
      refine ite_el h (fun q3 h => ?_) (fun q3 h => ?_)
      · refine go_icmp_gt (off := 12) (tgt := 36) (by decide +kernel) (by decide) (fun _ => ?_) (fun z => absurd q3 z)
        refine go_blk rfl [(.iconst (-1), 1, 0, 0, 0, .inl (-1))] 36 37 _ _ _ (by decide +kernel) ?_
        show Go _ _ _ _ _ _ 37 [(4, rc (100 + 8)), (0, rc 0), (1, vi a0), (2, vi a1), (3, vi a2)] [vi ((-1))] ((S, T), Y) _
        obtain ⟨rfl, rfl⟩ := Prod.mk.inj (Option.some.inj h)
        exact go_ireturn (by decide +kernel) rfl rfl ⟨rfl, rfl⟩
      · refine go_icmp_gt (off := 12) (tgt := 36) (by decide +kernel) (by decide) (fun z => absurd z q3) (fun _ => ?_)
        refine go_blk rfl [(.iload_n 3, 1, 3, 0, 0, .inl 0)] 27 28 _ _ _ (by decide +kernel) ?_
        show Go _ _ _ _ _ _ 28 [(4, rc (100 + 8)), (0, rc 0), (1, vi a0), (2, vi a1), (3, vi a2)] [vi a2] ((S, T), Y) _
        refine ite_el h (fun q4 h => ?_) (fun q4 h => ?_)
        · refine go_if_lt (off := 8) (tgt := 36) (by decide +kernel) (by decide) (fun _ => ?_) (fun z => absurd q4 z)
          refine go_blk rfl [(.iconst (-1), 1, 0, 0, 0, .inl (-1))] 36 37 _ _ _ (by decide +kernel) ?_
          show Go _ _ _ _ _ _ 37 [(4, rc (100 + 8)), (0, rc 0), (1, vi a0), (2, vi a1), (3, vi a2)] [vi ((-1))] ((S, T), Y) _
          obtain ⟨rfl, rfl⟩ := Prod.mk.inj (Option.some.inj h)
          exact go_ireturn (by decide +kernel) rfl rfl ⟨rfl, rfl⟩
        · refine go_if_lt (off := 8) (tgt := 36) (by decide +kernel) (by decide) (fun z => absurd z q4) (fun _ => ?_)
          refine go_blk rfl [(.iload_n 3, 1, 3, 0, 0, .inl 0), (.iconst 2, 1, 0, 0, 0, .inl 2)] 31 33 _ _ _ (by decide +kernel) ?_
          show Go _ _ _ _ _ _ 33 [(4, rc (100 + 8)), (0, rc 0), (1, vi a0), (2, vi a1), (3, vi a2)] [vi 2, vi a2] ((S, T), Y) _
          refine ite_el h (fun q5 h => ?_) (fun q5 h => ?_)
          · refine go_icmp_le (off := 5) (tgt := 38) (by decide +kernel) (by decide) (fun _ => ?_) (fun z => absurd q5 z)
            refine go_blk rfl [(.iload_n 3, 1, 3, 0, 0, .inl 0)] 38 39 _ _ _ (by decide +kernel) ?_
            show Go _ _ _ _ _ _ 39 [(4, rc (100 + 8)), (0, rc 0), (1, vi a0), (2, vi a1), (3, vi a2)] [vi a2] ((S, T), Y) _
            refine ite_el h (fun q6 h => ?_) (fun q6 h => ?_)
            · refine go_if_ne (off := 14) (tgt := 53) (by decide +kernel) (by decide) (fun z => absurd q6 z) (fun _ => ?_)
              refine go_blk rfl [(.aload 4, 2, 4, 0, 0, .inl 0), (.iload_n 1, 1, 1, 0, 0, .inl 0)] 42 45 _ _ _ (by decide +kernel) ?_
              show Go _ _ _ _ _ _ 45 [(4, rc (100 + 8)), (0, rc 0), (1, vi a0), (2, vi a1), (3, vi a2)] [vi a0, rc (100 + 8)] ((S, T), Y) _
              obtain ⟨r2, hr2, h⟩ := bind_el h
              refine go_callV (idx := 129) (z := 1) (M' := M4_hasGuest) (n := 1) (A := [vi a0]) (v' := some (vi r2)) (μ' := ((S, T), Y)) (d' := 1) (mc' := 0) (ms' := 0) (kc' := 0) (ks' := 0) (ci := 4) (x := .inl (100 + 8)) (by decide +kernel) ml_10_129 rfl wv4_hasGuest rfl (by decide) rfl ((lc_b100 hT).2.2.1.2).1 (ret4_hasGuest ((lc_b100 hT).2.2.1.2) hr2) (by decide) rfl rfl (Nat.le_of_ble_eq_true rfl) rfl (jag rfl rfl) ?_
              show Go _ _ _ _ _ _ 48 [(4, rc (100 + 8)), (0, rc 0), (1, vi a0), (2, vi a1), (3, vi a2)] [vi r2] ((S, T), Y) _
              refine ite_el h (fun q7 h => ?_) (fun q7 h => ?_)
              · refine go_if_ne (off := 5) (tgt := 53) (by decide +kernel) (by decide) (fun z => absurd q7 z) (fun _ => ?_)
                refine go_blk rfl [(.iconst (-1), 1, 0, 0, 0, .inl (-1))] 51 52 _ _ _ (by decide +kernel) ?_
                show Go _ _ _ _ _ _ 52 [(4, rc (100 + 8)), (0, rc 0), (1, vi a0), (2, vi a1), (3, vi a2)] [vi ((-1))] ((S, T), Y) _
                obtain ⟨rfl, rfl⟩ := Prod.mk.inj (Option.some.inj h)
                exact go_ireturn (by decide +kernel) rfl rfl ⟨rfl, rfl⟩
              · refine go_if_ne (off := 5) (tgt := 53) (by decide +kernel) (by decide) (fun _ => ?_) (fun z => absurd z q7)
                refine go_blk rfl [(.aload_n 0, 1, 0, 0, 0, .inl 0), (.getfield 65, 3, 10, 8, 1, .inl 0), (.aload 4, 2, 4, 0, 0, .inl 0), (.aload_n 0, 1, 0, 0, 0, .inl 0)] 53 60 _ _ _ (by decide +kernel) ?_
                refine And.intro (lc_t0 hT) (Exists.intro _ (And.intro (gRc (lc_r10_8 hT)) ?_))
                show Go _ _ _ _ _ _ 60 [(4, rc (100 + 8)), (0, rc 0), (1, vi a0), (2, vi a1), (3, vi a2)] [rc 0, rc (100 + 8), rc 20] ((S, T), Y) _
                obtain ⟨r3, hr3, h⟩ := bind_el h
                refine go_callV (idx := 164) (z := 0) (M' := M10_ruleInForce) (n := 0) (A := []) (v' := some (vo r3)) (μ' := ((S, T), Y)) (d' := 2) (mc' := 0) (ms' := 0) (kc' := 0) (ks' := 0) (ci := 10) (x := .inl 0) (by decide +kernel) ml_10_164 rfl wv10_ruleInForce rfl (by decide) rfl (lc_t0 hT) (ret10_ruleInForce hT hr3) (by decide) rfl rfl (Nat.le_of_ble_eq_true rfl) rfl (jag rfl rfl) ?_
                show Go _ _ _ _ _ _ 63 [(4, rc (100 + 8)), (0, rc 0), (1, vi a0), (2, vi a1), (3, vi a2)] [vo r3, rc (100 + 8), rc 20] ((S, T), Y) _
                refine go_blk rfl [(.iload_n 2, 1, 2, 0, 0, .inl 0)] 63 64 _ _ _ (by decide +kernel) ?_
                show Go _ _ _ _ _ _ 64 [(4, rc (100 + 8)), (0, rc 0), (1, vi a0), (2, vi a1), (3, vi a2)] [vi a1, vo r3, rc (100 + 8), rc 20] ((S, T), Y) _
                obtain ⟨r4, hr4, h⟩ := bind_el h
                refine go_callV (idx := 200) (z := 1) (M' := M2_after) (n := 3) (A := [rc (100 + 8), vo r3, vi a1]) (v' := some (rc 21)) (μ' := ((r4.1, T), Y)) (d' := 6) (mc' := 0) (ms' := 0) (kc' := 0) (ks' := 0) (ci := 2) (x := .inl 20) (by decide +kernel) ml_10_200 rfl wv2_after rfl (by decide) rfl (lc_t20 hT) (ret2_after hT ((lc_b100 hT).2.2.1.2) (f10_ruleInForce_lay hT hr3) hr4) (by decide) rfl rfl (Nat.le_of_ble_eq_true rfl) rfl (jag rfl rfl) ?_
                show Go _ _ _ _ _ _ 67 [(4, rc (100 + 8)), (0, rc 0), (1, vi a0), (2, vi a1), (3, vi a2)] [rc 21] ((r4.1, T), Y) _
                refine go_blk rfl [(.astore 5, 2, 5, 0, 0, .inl 0), (.iload_n 3, 1, 3, 0, 0, .inl 0)] 67 70 _ _ _ (by decide +kernel) ?_
                show Go _ _ _ _ _ _ 70 [(5, rc 21), (4, rc (100 + 8)), (0, rc 0), (1, vi a0), (2, vi a1), (3, vi a2)] [vi a2] ((r4.1, T), Y) _
                refine ite_el h (fun q9 h => ?_) (fun q9 h => ?_)
                · refine go_lookup (dflt := 40) (ps := #[(0, 26), (1, 34)]) (len := 26) (off := 26) (tgt := 96) (by decide +kernel) (by decide) (by rw [q9]; decide) (by decide) ?_
                  refine gd_el h (fun q8 h => ?_)
                  refine go_blk rfl [(.aload 5, 2, 5, 0, 0, .inl 0), (.getfield 132, 3, 4, 9, 1, .inl 0), (.iload_n 1, 1, 1, 0, 0, .inl 0), (.iaload, 1, 20, 0, 0, .inl 0)] 96 103 _ _ _ (by decide +kernel) ?_
                  refine And.intro (lc_h21 hT).1 (Exists.intro _ (And.intro (gRc (lc_h21 hT).2.2.1.1) ?_))
                  refine And.intro (lc_h21 hT).2.2.1.2.1 (Exists.intro _ (And.intro (lc_h21 hT).2.2.1.2.2 (And.intro (inb_in q8) ?_)))
                  show Go _ _ _ _ _ _ 103 [(5, rc 21), (4, rc (100 + 8)), (0, rc 0), (1, vi a0), (2, vi a1), (3, vi a2)] [vi (r4.1.1 (21 + 2) a0.toNatClampNeg)] ((r4.1, T), Y) _
                  obtain ⟨rfl, rfl⟩ := Prod.mk.inj (Option.some.inj h)
                  exact go_ireturn (by decide +kernel) rfl rfl ⟨rfl, rfl⟩
                refine ite_el h (fun q10 h => ?_) (fun q10 h => ?_)
                · refine go_lookup (dflt := 40) (ps := #[(0, 26), (1, 34)]) (len := 26) (off := 34) (tgt := 104) (by decide +kernel) (by decide) (by rw [q10]; decide) (by decide) ?_
                  refine go_blk rfl [(.aload 5, 2, 5, 0, 0, .inl 0), (.getfield 147, 3, 4, 4, 0, .inl 0)] 104 109 _ _ _ (by decide +kernel) ?_
                  refine And.intro (lc_h21 hT).1 ?_
                  show Go _ _ _ _ _ _ 109 [(5, rc 21), (4, rc (100 + 8)), (0, rc 0), (1, vi a0), (2, vi a1), (3, vi a2)] [vi (r4.1.1 21 4)] ((r4.1, T), Y) _
                  obtain ⟨rfl, rfl⟩ := Prod.mk.inj (Option.some.inj h)
                  exact go_ireturn (by decide +kernel) rfl rfl ⟨rfl, rfl⟩
                refine go_lookup (dflt := 40) (ps := #[(0, 26), (1, 34)]) (len := 26) (off := 40) (tgt := 110) (by decide +kernel) (by decide) (by have z0 : a2.toInt ≠ 0 := tb_ne q9 (by decide); have z1 : a2.toInt ≠ 1 := tb_ne q10 (by decide); exact lk_out _ _ _ (by simp only [List.forall_mem_cons, List.not_mem_nil]; refine ⟨by intro z; omega, by intro z; omega, fun _ z => nomatch z⟩)) (by decide) ?_
                refine go_blk rfl [(.aload 5, 2, 5, 0, 0, .inl 0), (.getfield 126, 3, 4, 3, 0, .inl 0)] 110 115 _ _ _ (by decide +kernel) ?_
                refine And.intro (lc_h21 hT).1 ?_
                show Go _ _ _ _ _ _ 115 [(5, rc 21), (4, rc (100 + 8)), (0, rc 0), (1, vi a0), (2, vi a1), (3, vi a2)] [vi (r4.1.1 21 3)] ((r4.1, T), Y) _
                obtain ⟨rfl, rfl⟩ := Prod.mk.inj (Option.some.inj h)
                exact go_ireturn (by decide +kernel) rfl rfl ⟨rfl, rfl⟩
            · refine go_if_ne (off := 14) (tgt := 53) (by decide +kernel) (by decide) (fun _ => ?_) (fun z => absurd z q6)
              refine go_blk rfl [(.aload_n 0, 1, 0, 0, 0, .inl 0), (.getfield 65, 3, 10, 8, 1, .inl 0), (.aload 4, 2, 4, 0, 0, .inl 0), (.aload_n 0, 1, 0, 0, 0, .inl 0)] 53 60 _ _ _ (by decide +kernel) ?_
              refine And.intro (lc_t0 hT) (Exists.intro _ (And.intro (gRc (lc_r10_8 hT)) ?_))
              show Go _ _ _ _ _ _ 60 [(4, rc (100 + 8)), (0, rc 0), (1, vi a0), (2, vi a1), (3, vi a2)] [rc 0, rc (100 + 8), rc 20] ((S, T), Y) _
              obtain ⟨r5, hr5, h⟩ := bind_el h
              refine go_callV (idx := 164) (z := 0) (M' := M10_ruleInForce) (n := 0) (A := []) (v' := some (vo r5)) (μ' := ((S, T), Y)) (d' := 2) (mc' := 0) (ms' := 0) (kc' := 0) (ks' := 0) (ci := 10) (x := .inl 0) (by decide +kernel) ml_10_164 rfl wv10_ruleInForce rfl (by decide) rfl (lc_t0 hT) (ret10_ruleInForce hT hr5) (by decide) rfl rfl (Nat.le_of_ble_eq_true rfl) rfl (jag rfl rfl) ?_
              show Go _ _ _ _ _ _ 63 [(4, rc (100 + 8)), (0, rc 0), (1, vi a0), (2, vi a1), (3, vi a2)] [vo r5, rc (100 + 8), rc 20] ((S, T), Y) _
              refine go_blk rfl [(.iload_n 2, 1, 2, 0, 0, .inl 0)] 63 64 _ _ _ (by decide +kernel) ?_
              show Go _ _ _ _ _ _ 64 [(4, rc (100 + 8)), (0, rc 0), (1, vi a0), (2, vi a1), (3, vi a2)] [vi a1, vo r5, rc (100 + 8), rc 20] ((S, T), Y) _
              obtain ⟨r6, hr6, h⟩ := bind_el h
              refine go_callV (idx := 200) (z := 1) (M' := M2_after) (n := 3) (A := [rc (100 + 8), vo r5, vi a1]) (v' := some (rc 21)) (μ' := ((r6.1, T), Y)) (d' := 6) (mc' := 0) (ms' := 0) (kc' := 0) (ks' := 0) (ci := 2) (x := .inl 20) (by decide +kernel) ml_10_200 rfl wv2_after rfl (by decide) rfl (lc_t20 hT) (ret2_after hT ((lc_b100 hT).2.2.1.2) (f10_ruleInForce_lay hT hr5) hr6) (by decide) rfl rfl (Nat.le_of_ble_eq_true rfl) rfl (jag rfl rfl) ?_
              show Go _ _ _ _ _ _ 67 [(4, rc (100 + 8)), (0, rc 0), (1, vi a0), (2, vi a1), (3, vi a2)] [rc 21] ((r6.1, T), Y) _
              refine go_blk rfl [(.astore 5, 2, 5, 0, 0, .inl 0), (.iload_n 3, 1, 3, 0, 0, .inl 0)] 67 70 _ _ _ (by decide +kernel) ?_
              show Go _ _ _ _ _ _ 70 [(5, rc 21), (4, rc (100 + 8)), (0, rc 0), (1, vi a0), (2, vi a1), (3, vi a2)] [vi a2] ((r6.1, T), Y) _
              refine ite_el h (fun q12 h => ?_) (fun q12 h => ?_)
              · refine go_lookup (dflt := 40) (ps := #[(0, 26), (1, 34)]) (len := 26) (off := 26) (tgt := 96) (by decide +kernel) (by decide) (by rw [q12]; decide) (by decide) ?_
                refine gd_el h (fun q11 h => ?_)
                refine go_blk rfl [(.aload 5, 2, 5, 0, 0, .inl 0), (.getfield 132, 3, 4, 9, 1, .inl 0), (.iload_n 1, 1, 1, 0, 0, .inl 0), (.iaload, 1, 20, 0, 0, .inl 0)] 96 103 _ _ _ (by decide +kernel) ?_
                refine And.intro (lc_h21 hT).1 (Exists.intro _ (And.intro (gRc (lc_h21 hT).2.2.1.1) ?_))
                refine And.intro (lc_h21 hT).2.2.1.2.1 (Exists.intro _ (And.intro (lc_h21 hT).2.2.1.2.2 (And.intro (inb_in q11) ?_)))
                show Go _ _ _ _ _ _ 103 [(5, rc 21), (4, rc (100 + 8)), (0, rc 0), (1, vi a0), (2, vi a1), (3, vi a2)] [vi (r6.1.1 (21 + 2) a0.toNatClampNeg)] ((r6.1, T), Y) _
                obtain ⟨rfl, rfl⟩ := Prod.mk.inj (Option.some.inj h)
                exact go_ireturn (by decide +kernel) rfl rfl ⟨rfl, rfl⟩
              refine ite_el h (fun q13 h => ?_) (fun q13 h => ?_)
              · refine go_lookup (dflt := 40) (ps := #[(0, 26), (1, 34)]) (len := 26) (off := 34) (tgt := 104) (by decide +kernel) (by decide) (by rw [q13]; decide) (by decide) ?_
                refine go_blk rfl [(.aload 5, 2, 5, 0, 0, .inl 0), (.getfield 147, 3, 4, 4, 0, .inl 0)] 104 109 _ _ _ (by decide +kernel) ?_
                refine And.intro (lc_h21 hT).1 ?_
                show Go _ _ _ _ _ _ 109 [(5, rc 21), (4, rc (100 + 8)), (0, rc 0), (1, vi a0), (2, vi a1), (3, vi a2)] [vi (r6.1.1 21 4)] ((r6.1, T), Y) _
                obtain ⟨rfl, rfl⟩ := Prod.mk.inj (Option.some.inj h)
                exact go_ireturn (by decide +kernel) rfl rfl ⟨rfl, rfl⟩
              refine go_lookup (dflt := 40) (ps := #[(0, 26), (1, 34)]) (len := 26) (off := 40) (tgt := 110) (by decide +kernel) (by decide) (by have z0 : a2.toInt ≠ 0 := tb_ne q12 (by decide); have z1 : a2.toInt ≠ 1 := tb_ne q13 (by decide); exact lk_out _ _ _ (by simp only [List.forall_mem_cons, List.not_mem_nil]; refine ⟨by intro z; omega, by intro z; omega, fun _ z => nomatch z⟩)) (by decide) ?_
              refine go_blk rfl [(.aload 5, 2, 5, 0, 0, .inl 0), (.getfield 126, 3, 4, 3, 0, .inl 0)] 110 115 _ _ _ (by decide +kernel) ?_
              refine And.intro (lc_h21 hT).1 ?_
              show Go _ _ _ _ _ _ 115 [(5, rc 21), (4, rc (100 + 8)), (0, rc 0), (1, vi a0), (2, vi a1), (3, vi a2)] [vi (r6.1.1 21 3)] ((r6.1, T), Y) _
              obtain ⟨rfl, rfl⟩ := Prod.mk.inj (Option.some.inj h)
              exact go_ireturn (by decide +kernel) rfl rfl ⟨rfl, rfl⟩
          · refine go_icmp_le (off := 5) (tgt := 38) (by decide +kernel) (by decide) (fun z => absurd z q5) (fun _ => ?_)
            refine go_blk rfl [(.iconst (-1), 1, 0, 0, 0, .inl (-1))] 36 37 _ _ _ (by decide +kernel) ?_
            show Go _ _ _ _ _ _ 37 [(4, rc (100 + 8)), (0, rc 0), (1, vi a0), (2, vi a1), (3, vi a2)] [vi ((-1))] ((S, T), Y) _
            obtain ⟨rfl, rfl⟩ := Prod.mk.inj (Option.some.inj h)
            exact go_ireturn (by decide +kernel) rfl rfl ⟨rfl, rfl⟩
def f10_winner (T : jT) (S : jS) (a0 : Int32) : Option (jS × Int32) := Option.bind (f4_isTold S (100 + 8)) (fun r1 => (if r1 = 0 then some (S, (-1)) else (if a0 < 0 then some (S, (-1)) else (if a0 ≤ 1 then Option.bind (f10_ruleInForce T S) (fun r2 => Option.bind (f2_whenOver T S (100 + 8) r2) (fun r3 => (if a0 = 0 then Option.bind (f4_alone r3.1 21) (fun r4 => some (r3.1, r4)) else some (r3.1, r3.1.1 21 5)))) else some (S, (-1))))))
theorem ret10_winner {S : jS} {T : jT} {Y : jS × jT} {a0 : Int32} {S1 : jS} {x : Int32} (hT : LayC T) (h : f10_winner T S a0 = some (S1, x)) : Ret M10_winner 7 0 0 [rc 0, vi a0] ((S, T), Y) (some (vi x)) ((S1, T), Y) := by
  refine Ret.of (by decide +kernel) (Nat.le_of_ble_eq_true rfl) ?_
  unfold f10_winner at h
  show Go _ _ _ _ _ _ 0 [(0, rc 0), (1, vi a0)] [] ((S, T), Y) _
  refine go_blk rfl [(.aload_n 0, 1, 0, 0, 0, .inl 0), (.getfield 45, 3, 10, 5, 1, .inl 0), (.getfield 102, 3, 0, 1, 1, .inl 0)] 0 7 _ _ _ (by decide +kernel) ?_
  refine And.intro (lc_t0 hT) (Exists.intro _ (And.intro (gRc (lc_r10_5 hT)) ?_))
  refine And.intro (lc_b100 hT).1 (Exists.intro _ (And.intro (gRc (lc_b100 hT).2.2.1.1) ?_))
  show Go _ _ _ _ _ _ 7 [(0, rc 0), (1, vi a0)] [rc (100 + 8)] ((S, T), Y) _
  obtain ⟨r1, hr1, h⟩ := bind_el h
  refine go_callV (idx := 154) (z := 1) (M' := M4_isTold) (n := 0) (A := []) (v' := some (vi r1)) (μ' := ((S, T), Y)) (d' := 1) (mc' := 0) (ms' := 0) (kc' := 0) (ks' := 0) (ci := 4) (x := .inl (100 + 8)) (by decide +kernel) ml_10_154 rfl wv4_isTold rfl (by decide) rfl ((lc_b100 hT).2.2.1.2).1 (ret4_isTold ((lc_b100 hT).2.2.1.2) hr1) (by decide) rfl rfl (Nat.le_of_ble_eq_true rfl) rfl (jag rfl rfl) ?_
  show Go _ _ _ _ _ _ 10 [(0, rc 0), (1, vi a0)] [vi r1] ((S, T), Y) _
  refine ite_el h (fun q1 h => ?_) (fun q1 h => ?_)
  · refine go_if_eq (off := 12) (tgt := 22) (by decide +kernel) (by decide) (fun _ => ?_) (fun z => absurd q1 z)
    refine go_blk rfl [(.iconst (-1), 1, 0, 0, 0, .inl (-1))] 22 23 _ _ _ (by decide +kernel) ?_
    show Go _ _ _ _ _ _ 23 [(0, rc 0), (1, vi a0)] [vi ((-1))] ((S, T), Y) _
    obtain ⟨rfl, rfl⟩ := Prod.mk.inj (Option.some.inj h)
    exact go_ireturn (by decide +kernel) rfl rfl ⟨rfl, rfl⟩
  · refine go_if_eq (off := 12) (tgt := 22) (by decide +kernel) (by decide) (fun z => absurd z q1) (fun _ => ?_)
    refine go_blk rfl [(.iload_n 1, 1, 1, 0, 0, .inl 0)] 13 14 _ _ _ (by decide +kernel) ?_
    show Go _ _ _ _ _ _ 14 [(0, rc 0), (1, vi a0)] [vi a0] ((S, T), Y) _
    refine ite_el h (fun q2 h => ?_) (fun q2 h => ?_)
    · refine go_if_lt (off := 8) (tgt := 22) (by decide +kernel) (by decide) (fun _ => ?_) (fun z => absurd q2 z)
      refine go_blk rfl [(.iconst (-1), 1, 0, 0, 0, .inl (-1))] 22 23 _ _ _ (by decide +kernel) ?_
      show Go _ _ _ _ _ _ 23 [(0, rc 0), (1, vi a0)] [vi ((-1))] ((S, T), Y) _
      obtain ⟨rfl, rfl⟩ := Prod.mk.inj (Option.some.inj h)
      exact go_ireturn (by decide +kernel) rfl rfl ⟨rfl, rfl⟩
    · refine go_if_lt (off := 8) (tgt := 22) (by decide +kernel) (by decide) (fun z => absurd z q2) (fun _ => ?_)
      refine go_blk rfl [(.iload_n 1, 1, 1, 0, 0, .inl 0), (.iconst 1, 1, 0, 0, 0, .inl 1)] 17 19 _ _ _ (by decide +kernel) ?_
      show Go _ _ _ _ _ _ 19 [(0, rc 0), (1, vi a0)] [vi 1, vi a0] ((S, T), Y) _
      refine ite_el h (fun q3 h => ?_) (fun q3 h => ?_)
      · refine go_icmp_le (off := 5) (tgt := 24) (by decide +kernel) (by decide) (fun _ => ?_) (fun z => absurd q3 z)
        refine go_blk rfl [(.aload_n 0, 1, 0, 0, 0, .inl 0), (.getfield 65, 3, 10, 8, 1, .inl 0), (.aload_n 0, 1, 0, 0, 0, .inl 0), (.getfield 45, 3, 10, 5, 1, .inl 0), (.getfield 102, 3, 0, 1, 1, .inl 0), (.aload_n 0, 1, 0, 0, 0, .inl 0)] 24 36 _ _ _ (by decide +kernel) ?_
        refine And.intro (lc_t0 hT) (Exists.intro _ (And.intro (gRc (lc_r10_8 hT)) ?_))
        refine And.intro (lc_t0 hT) (Exists.intro _ (And.intro (gRc (lc_r10_5 hT)) ?_))
        refine And.intro (lc_b100 hT).1 (Exists.intro _ (And.intro (gRc (lc_b100 hT).2.2.1.1) ?_))
        show Go _ _ _ _ _ _ 36 [(0, rc 0), (1, vi a0)] [rc 0, rc (100 + 8), rc 20] ((S, T), Y) _
        obtain ⟨r2, hr2, h⟩ := bind_el h
        refine go_callV (idx := 164) (z := 0) (M' := M10_ruleInForce) (n := 0) (A := []) (v' := some (vo r2)) (μ' := ((S, T), Y)) (d' := 2) (mc' := 0) (ms' := 0) (kc' := 0) (ks' := 0) (ci := 10) (x := .inl 0) (by decide +kernel) ml_10_164 rfl wv10_ruleInForce rfl (by decide) rfl (lc_t0 hT) (ret10_ruleInForce hT hr2) (by decide) rfl rfl (Nat.le_of_ble_eq_true rfl) rfl (jag rfl rfl) ?_
        show Go _ _ _ _ _ _ 39 [(0, rc 0), (1, vi a0)] [vo r2, rc (100 + 8), rc 20] ((S, T), Y) _
        obtain ⟨r3, hr3, h⟩ := bind_el h
        refine go_callV (idx := 204) (z := 1) (M' := M2_whenOver) (n := 2) (A := [rc (100 + 8), vo r2]) (v' := some (rc 21)) (μ' := ((r3.1, T), Y)) (d' := 6) (mc' := 0) (ms' := 0) (kc' := 0) (ks' := 0) (ci := 2) (x := .inl 20) (by decide +kernel) ml_10_204 rfl wv2_whenOver rfl (by decide) rfl (lc_t20 hT) (ret2_whenOver hT ((lc_b100 hT).2.2.1.2) (f10_ruleInForce_lay hT hr2) hr3) (by decide) rfl rfl (Nat.le_of_ble_eq_true rfl) rfl (jag rfl rfl) ?_
        show Go _ _ _ _ _ _ 42 [(0, rc 0), (1, vi a0)] [rc 21] ((r3.1, T), Y) _
        refine go_blk rfl [(.astore_n 2, 1, 2, 0, 0, .inl 0), (.iload_n 1, 1, 1, 0, 0, .inl 0)] 42 44 _ _ _ (by decide +kernel) ?_
        show Go _ _ _ _ _ _ 44 [(2, rc 21), (0, rc 0), (1, vi a0)] [vi a0] ((r3.1, T), Y) _
        refine ite_el h (fun q4 h => ?_) (fun q4 h => ?_)
        · refine go_if_ne (off := 10) (tgt := 54) (by decide +kernel) (by decide) (fun z => absurd q4 z) (fun _ => ?_)
          refine go_blk rfl [(.aload_n 2, 1, 2, 0, 0, .inl 0)] 47 48 _ _ _ (by decide +kernel) ?_
          show Go _ _ _ _ _ _ 48 [(2, rc 21), (0, rc 0), (1, vi a0)] [rc 21] ((r3.1, T), Y) _
          obtain ⟨r4, hr4, h⟩ := bind_el h
          refine go_callV (idx := 208) (z := 1) (M' := M4_alone) (n := 0) (A := []) (v' := some (vi r4)) (μ' := ((r3.1, T), Y)) (d' := 2) (mc' := 0) (ms' := 0) (kc' := 0) (ks' := 0) (ci := 4) (x := .inl 21) (by decide +kernel) ml_10_208 rfl wv4_alone rfl (by decide) rfl (lc_h21 hT).1 (ret4_alone (lc_h21 hT) hr4) (by decide) rfl rfl (Nat.le_of_ble_eq_true rfl) rfl (jag rfl rfl) ?_
          show Go _ _ _ _ _ _ 51 [(2, rc 21), (0, rc 0), (1, vi a0)] [vi r4] ((r3.1, T), Y) _
          refine go_goto (off := 7) (tgt := 58) (by decide +kernel) (by decide) ?_
          obtain ⟨rfl, rfl⟩ := Prod.mk.inj (Option.some.inj h)
          exact go_ireturn (by decide +kernel) rfl rfl ⟨rfl, rfl⟩
        · refine go_if_ne (off := 10) (tgt := 54) (by decide +kernel) (by decide) (fun _ => ?_) (fun z => absurd z q4)
          refine go_blk rfl [(.aload_n 2, 1, 2, 0, 0, .inl 0), (.getfield 158, 3, 4, 5, 0, .inl 0)] 54 58 _ _ _ (by decide +kernel) ?_
          refine And.intro (lc_h21 hT).1 ?_
          show Go _ _ _ _ _ _ 58 [(2, rc 21), (0, rc 0), (1, vi a0)] [vi (r3.1.1 21 5)] ((r3.1, T), Y) _
          obtain ⟨rfl, rfl⟩ := Prod.mk.inj (Option.some.inj h)
          exact go_ireturn (by decide +kernel) rfl rfl ⟨rfl, rfl⟩
      · refine go_icmp_le (off := 5) (tgt := 24) (by decide +kernel) (by decide) (fun z => absurd z q3) (fun _ => ?_)
        refine go_blk rfl [(.iconst (-1), 1, 0, 0, 0, .inl (-1))] 22 23 _ _ _ (by decide +kernel) ?_
        show Go _ _ _ _ _ _ 23 [(0, rc 0), (1, vi a0)] [vi ((-1))] ((S, T), Y) _
        obtain ⟨rfl, rfl⟩ := Prod.mk.inj (Option.some.inj h)
        exact go_ireturn (by decide +kernel) rfl rfl ⟨rfl, rfl⟩
def f10_gone (T : jT) (S : jS) (a0 : Int32) : Option (jS × Int32) := Option.bind (f4_isIn S (100 + 8) a0) (fun r1 => (if r1 = 0 then some (S, (-1)) else Option.bind (f10_ruleInForce T S) (fun r2 => Option.bind (f2_roundOut T S (100 + 8) r2 a0) (fun r3 => some (r3.1, r3.2)))))
theorem ret10_gone {S : jS} {T : jT} {Y : jS × jT} {a0 : Int32} {S1 : jS} {x : Int32} (hT : LayC T) (h : f10_gone T S a0 = some (S1, x)) : Ret M10_gone 7 0 0 [rc 0, vi a0] ((S, T), Y) (some (vi x)) ((S1, T), Y) := by
  refine Ret.of (by decide +kernel) (Nat.le_of_ble_eq_true rfl) ?_
  unfold f10_gone at h
  show Go _ _ _ _ _ _ 0 [(0, rc 0), (1, vi a0)] [] ((S, T), Y) _
  refine go_blk rfl [(.aload_n 0, 1, 0, 0, 0, .inl 0), (.getfield 45, 3, 10, 5, 1, .inl 0), (.getfield 102, 3, 0, 1, 1, .inl 0), (.iload_n 1, 1, 1, 0, 0, .inl 0)] 0 8 _ _ _ (by decide +kernel) ?_
  refine And.intro (lc_t0 hT) (Exists.intro _ (And.intro (gRc (lc_r10_5 hT)) ?_))
  refine And.intro (lc_b100 hT).1 (Exists.intro _ (And.intro (gRc (lc_b100 hT).2.2.1.1) ?_))
  show Go _ _ _ _ _ _ 8 [(0, rc 0), (1, vi a0)] [vi a0, rc (100 + 8)] ((S, T), Y) _
  obtain ⟨r1, hr1, h⟩ := bind_el h
  refine go_callV (idx := 211) (z := 1) (M' := M4_isIn) (n := 1) (A := [vi a0]) (v' := some (vi r1)) (μ' := ((S, T), Y)) (d' := 2) (mc' := 0) (ms' := 0) (kc' := 0) (ks' := 0) (ci := 4) (x := .inl (100 + 8)) (by decide +kernel) ml_10_211 rfl wv4_isIn rfl (by decide) rfl ((lc_b100 hT).2.2.1.2).1 (ret4_isIn ((lc_b100 hT).2.2.1.2) hr1) (by decide) rfl rfl (Nat.le_of_ble_eq_true rfl) rfl (jag rfl rfl) ?_
  show Go _ _ _ _ _ _ 11 [(0, rc 0), (1, vi a0)] [vi r1] ((S, T), Y) _
  refine ite_el h (fun q1 h => ?_) (fun q1 h => ?_)
  · refine go_if_eq (off := 25) (tgt := 36) (by decide +kernel) (by decide) (fun _ => ?_) (fun z => absurd q1 z)
    refine go_blk rfl [(.iconst (-1), 1, 0, 0, 0, .inl (-1))] 36 37 _ _ _ (by decide +kernel) ?_
    show Go _ _ _ _ _ _ 37 [(0, rc 0), (1, vi a0)] [vi ((-1))] ((S, T), Y) _
    obtain ⟨rfl, rfl⟩ := Prod.mk.inj (Option.some.inj h)
    exact go_ireturn (by decide +kernel) rfl rfl ⟨rfl, rfl⟩
  · refine go_if_eq (off := 25) (tgt := 36) (by decide +kernel) (by decide) (fun z => absurd z q1) (fun _ => ?_)
    refine go_blk rfl [(.aload_n 0, 1, 0, 0, 0, .inl 0), (.getfield 65, 3, 10, 8, 1, .inl 0), (.aload_n 0, 1, 0, 0, 0, .inl 0), (.getfield 45, 3, 10, 5, 1, .inl 0), (.getfield 102, 3, 0, 1, 1, .inl 0), (.aload_n 0, 1, 0, 0, 0, .inl 0)] 14 26 _ _ _ (by decide +kernel) ?_
    refine And.intro (lc_t0 hT) (Exists.intro _ (And.intro (gRc (lc_r10_8 hT)) ?_))
    refine And.intro (lc_t0 hT) (Exists.intro _ (And.intro (gRc (lc_r10_5 hT)) ?_))
    refine And.intro (lc_b100 hT).1 (Exists.intro _ (And.intro (gRc (lc_b100 hT).2.2.1.1) ?_))
    show Go _ _ _ _ _ _ 26 [(0, rc 0), (1, vi a0)] [rc 0, rc (100 + 8), rc 20] ((S, T), Y) _
    obtain ⟨r2, hr2, h⟩ := bind_el h
    refine go_callV (idx := 164) (z := 0) (M' := M10_ruleInForce) (n := 0) (A := []) (v' := some (vo r2)) (μ' := ((S, T), Y)) (d' := 2) (mc' := 0) (ms' := 0) (kc' := 0) (ks' := 0) (ci := 10) (x := .inl 0) (by decide +kernel) ml_10_164 rfl wv10_ruleInForce rfl (by decide) rfl (lc_t0 hT) (ret10_ruleInForce hT hr2) (by decide) rfl rfl (Nat.le_of_ble_eq_true rfl) rfl (jag rfl rfl) ?_
    show Go _ _ _ _ _ _ 29 [(0, rc 0), (1, vi a0)] [vo r2, rc (100 + 8), rc 20] ((S, T), Y) _
    refine go_blk rfl [(.iload_n 1, 1, 1, 0, 0, .inl 0)] 29 30 _ _ _ (by decide +kernel) ?_
    show Go _ _ _ _ _ _ 30 [(0, rc 0), (1, vi a0)] [vi a0, vo r2, rc (100 + 8), rc 20] ((S, T), Y) _
    obtain ⟨r3, hr3, h⟩ := bind_el h
    refine go_callV (idx := 214) (z := 1) (M' := M2_roundOut) (n := 3) (A := [rc (100 + 8), vo r2, vi a0]) (v' := some (vi r3.2)) (μ' := ((r3.1, T), Y)) (d' := 6) (mc' := 0) (ms' := 0) (kc' := 0) (ks' := 0) (ci := 2) (x := .inl 20) (by decide +kernel) ml_10_214 rfl wv2_roundOut rfl (by decide) rfl (lc_t20 hT) (ret2_roundOut hT ((lc_b100 hT).2.2.1.2) (f10_ruleInForce_lay hT hr2) hr3) (by decide) rfl rfl (Nat.le_of_ble_eq_true rfl) rfl (jag rfl rfl) ?_
    show Go _ _ _ _ _ _ 33 [(0, rc 0), (1, vi a0)] [vi r3.2] ((r3.1, T), Y) _
    refine go_goto (off := 4) (tgt := 37) (by decide +kernel) (by decide) ?_
    obtain ⟨rfl, rfl⟩ := Prod.mk.inj (Option.some.inj h)
    exact go_ireturn (by decide +kernel) rfl rfl ⟨rfl, rfl⟩
def f10_safe (S : jS) (a0 : Int32) (a1 : Int32) : Option (jS × Int32) := Option.bind (f4_isOver S (100 + 8)) (fun r1 => (if r1 = 0 then Option.bind (f4_isIn S (100 + 8) a0) (fun r2 => (if r2 = 0 then some (S, (-1)) else (if a1 < 0 then some (S, (-1)) else (if a1 ≤ 1 then (if a1 = 0 then Option.bind (f2_countSafe S (100 + 8) a0) (fun r3 => some (r3.1, r3.2)) else Option.bind (f2_leastSafe S (100 + 8) a0) (fun r4 => some (r4.1, r4.2))) else some (S, (-1)))))) else some (S, (-1))))
theorem ret10_safe {S : jS} {T : jT} {Y : jS × jT} {a0 : Int32} {a1 : Int32} {S1 : jS} {x : Int32} (hT : LayC T) (h : f10_safe S a0 a1 = some (S1, x)) : Ret M10_safe 7 0 0 [rc 0, vi a0, vi a1] ((S, T), Y) (some (vi x)) ((S1, T), Y) := by
  refine Ret.of (by decide +kernel) (Nat.le_of_ble_eq_true rfl) ?_
  unfold f10_safe at h
  show Go _ _ _ _ _ _ 0 [(0, rc 0), (1, vi a0), (2, vi a1)] [] ((S, T), Y) _
  refine go_blk rfl [(.aload_n 0, 1, 0, 0, 0, .inl 0), (.getfield 45, 3, 10, 5, 1, .inl 0), (.getfield 102, 3, 0, 1, 1, .inl 0), (.astore_n 3, 1, 3, 0, 0, .inl 0), (.aload_n 3, 1, 3, 0, 0, .inl 0)] 0 9 _ _ _ (by decide +kernel) ?_
  refine And.intro (lc_t0 hT) (Exists.intro _ (And.intro (gRc (lc_r10_5 hT)) ?_))
  refine And.intro (lc_b100 hT).1 (Exists.intro _ (And.intro (gRc (lc_b100 hT).2.2.1.1) ?_))
  show Go _ _ _ _ _ _ 9 [(3, rc (100 + 8)), (0, rc 0), (1, vi a0), (2, vi a1)] [rc (100 + 8)] ((S, T), Y) _
  obtain ⟨r1, hr1, h⟩ := bind_el h
  refine go_callV (idx := 174) (z := 1) (M' := M4_isOver) (n := 0) (A := []) (v' := some (vi r1)) (μ' := ((S, T), Y)) (d' := 2) (mc' := 0) (ms' := 0) (kc' := 0) (ks' := 0) (ci := 4) (x := .inl (100 + 8)) (by decide +kernel) ml_10_174 rfl wv4_isOver rfl (by decide) rfl ((lc_b100 hT).2.2.1.2).1 (ret4_isOver ((lc_b100 hT).2.2.1.2) hr1) (by decide) rfl rfl (Nat.le_of_ble_eq_true rfl) rfl (jag rfl rfl) ?_
  show Go _ _ _ _ _ _ 12 [(3, rc (100 + 8)), (0, rc 0), (1, vi a0), (2, vi a1)] [vi r1] ((S, T), Y) _
  refine ite_el h (fun q1 h => ?_) (fun q1 h => ?_)
  · refine go_if_ne (off := 20) (tgt := 32) (by decide +kernel) (by decide) (fun z => absurd q1 z) (fun _ => ?_)
    refine go_blk rfl [(.aload_n 3, 1, 3, 0, 0, .inl 0), (.iload_n 1, 1, 1, 0, 0, .inl 0)] 15 17 _ _ _ (by decide +kernel) ?_
    show Go _ _ _ _ _ _ 17 [(3, rc (100 + 8)), (0, rc 0), (1, vi a0), (2, vi a1)] [vi a0, rc (100 + 8)] ((S, T), Y) _
    obtain ⟨r2, hr2, h⟩ := bind_el h
    refine go_callV (idx := 211) (z := 1) (M' := M4_isIn) (n := 1) (A := [vi a0]) (v' := some (vi r2)) (μ' := ((S, T), Y)) (d' := 2) (mc' := 0) (ms' := 0) (kc' := 0) (ks' := 0) (ci := 4) (x := .inl (100 + 8)) (by decide +kernel) ml_10_211 rfl wv4_isIn rfl (by decide) rfl ((lc_b100 hT).2.2.1.2).1 (ret4_isIn ((lc_b100 hT).2.2.1.2) hr2) (by decide) rfl rfl (Nat.le_of_ble_eq_true rfl) rfl (jag rfl rfl) ?_
    show Go _ _ _ _ _ _ 20 [(3, rc (100 + 8)), (0, rc 0), (1, vi a0), (2, vi a1)] [vi r2] ((S, T), Y) _
    refine ite_el h (fun q2 h => ?_) (fun q2 h => ?_)
    · refine go_if_eq (off := 12) (tgt := 32) (by decide +kernel) (by decide) (fun _ => ?_) (fun z => absurd q2 z)
      refine go_blk rfl [(.iconst (-1), 1, 0, 0, 0, .inl (-1))] 32 33 _ _ _ (by decide +kernel) ?_
      show Go _ _ _ _ _ _ 33 [(3, rc (100 + 8)), (0, rc 0), (1, vi a0), (2, vi a1)] [vi ((-1))] ((S, T), Y) _
      obtain ⟨rfl, rfl⟩ := Prod.mk.inj (Option.some.inj h)
      exact go_ireturn (by decide +kernel) rfl rfl ⟨rfl, rfl⟩
    · refine go_if_eq (off := 12) (tgt := 32) (by decide +kernel) (by decide) (fun z => absurd z q2) (fun _ => ?_)
      refine go_blk rfl [(.iload_n 2, 1, 2, 0, 0, .inl 0)] 23 24 _ _ _ (by decide +kernel) ?_
      show Go _ _ _ _ _ _ 24 [(3, rc (100 + 8)), (0, rc 0), (1, vi a0), (2, vi a1)] [vi a1] ((S, T), Y) _
      refine ite_el h (fun q3 h => ?_) (fun q3 h => ?_)
      · refine go_if_lt (off := 8) (tgt := 32) (by decide +kernel) (by decide) (fun _ => ?_) (fun z => absurd q3 z)
        refine go_blk rfl [(.iconst (-1), 1, 0, 0, 0, .inl (-1))] 32 33 _ _ _ (by decide +kernel) ?_
        show Go _ _ _ _ _ _ 33 [(3, rc (100 + 8)), (0, rc 0), (1, vi a0), (2, vi a1)] [vi ((-1))] ((S, T), Y) _
        obtain ⟨rfl, rfl⟩ := Prod.mk.inj (Option.some.inj h)
        exact go_ireturn (by decide +kernel) rfl rfl ⟨rfl, rfl⟩
      · refine go_if_lt (off := 8) (tgt := 32) (by decide +kernel) (by decide) (fun z => absurd z q3) (fun _ => ?_)
        refine go_blk rfl [(.iload_n 2, 1, 2, 0, 0, .inl 0), (.iconst 1, 1, 0, 0, 0, .inl 1)] 27 29 _ _ _ (by decide +kernel) ?_
        show Go _ _ _ _ _ _ 29 [(3, rc (100 + 8)), (0, rc 0), (1, vi a0), (2, vi a1)] [vi 1, vi a1] ((S, T), Y) _
        refine ite_el h (fun q4 h => ?_) (fun q4 h => ?_)
        · refine go_icmp_le (off := 5) (tgt := 34) (by decide +kernel) (by decide) (fun _ => ?_) (fun z => absurd q4 z)
          refine go_blk rfl [(.iload_n 2, 1, 2, 0, 0, .inl 0)] 34 35 _ _ _ (by decide +kernel) ?_
          show Go _ _ _ _ _ _ 35 [(3, rc (100 + 8)), (0, rc 0), (1, vi a0), (2, vi a1)] [vi a1] ((S, T), Y) _
          refine ite_el h (fun q5 h => ?_) (fun q5 h => ?_)
          · refine go_if_ne (off := 15) (tgt := 50) (by decide +kernel) (by decide) (fun z => absurd q5 z) (fun _ => ?_)
            refine go_blk rfl [(.aload_n 0, 1, 0, 0, 0, .inl 0), (.getfield 65, 3, 10, 8, 1, .inl 0), (.aload_n 3, 1, 3, 0, 0, .inl 0), (.iload_n 1, 1, 1, 0, 0, .inl 0)] 38 44 _ _ _ (by decide +kernel) ?_
            refine And.intro (lc_t0 hT) (Exists.intro _ (And.intro (gRc (lc_r10_8 hT)) ?_))
            show Go _ _ _ _ _ _ 44 [(3, rc (100 + 8)), (0, rc 0), (1, vi a0), (2, vi a1)] [vi a0, rc (100 + 8), rc 20] ((S, T), Y) _
            obtain ⟨r3, hr3, h⟩ := bind_el h
            refine go_callV (idx := 218) (z := 1) (M' := M2_countSafe) (n := 2) (A := [rc (100 + 8), vi a0]) (v' := some (vi r3.2)) (μ' := ((r3.1, T), Y)) (d' := 6) (mc' := 0) (ms' := 0) (kc' := 0) (ks' := 0) (ci := 2) (x := .inl 20) (by decide +kernel) ml_10_218 rfl wv2_countSafe rfl (by decide) rfl (lc_t20 hT) (ret2_countSafe hT ((lc_b100 hT).2.2.1.2) hr3) (by decide) rfl rfl (Nat.le_of_ble_eq_true rfl) rfl (jag rfl rfl) ?_
            show Go _ _ _ _ _ _ 47 [(3, rc (100 + 8)), (0, rc 0), (1, vi a0), (2, vi a1)] [vi r3.2] ((r3.1, T), Y) _
            refine go_goto (off := 12) (tgt := 59) (by decide +kernel) (by decide) ?_
            obtain ⟨rfl, rfl⟩ := Prod.mk.inj (Option.some.inj h)
            exact go_ireturn (by decide +kernel) rfl rfl ⟨rfl, rfl⟩
          · refine go_if_ne (off := 15) (tgt := 50) (by decide +kernel) (by decide) (fun _ => ?_) (fun z => absurd z q5)
            refine go_blk rfl [(.aload_n 0, 1, 0, 0, 0, .inl 0), (.getfield 65, 3, 10, 8, 1, .inl 0), (.aload_n 3, 1, 3, 0, 0, .inl 0), (.iload_n 1, 1, 1, 0, 0, .inl 0)] 50 56 _ _ _ (by decide +kernel) ?_
            refine And.intro (lc_t0 hT) (Exists.intro _ (And.intro (gRc (lc_r10_8 hT)) ?_))
            show Go _ _ _ _ _ _ 56 [(3, rc (100 + 8)), (0, rc 0), (1, vi a0), (2, vi a1)] [vi a0, rc (100 + 8), rc 20] ((S, T), Y) _
            obtain ⟨r4, hr4, h⟩ := bind_el h
            refine go_callV (idx := 221) (z := 1) (M' := M2_leastSafe) (n := 2) (A := [rc (100 + 8), vi a0]) (v' := some (vi r4.2)) (μ' := ((r4.1, T), Y)) (d' := 6) (mc' := 0) (ms' := 0) (kc' := 0) (ks' := 0) (ci := 2) (x := .inl 20) (by decide +kernel) ml_10_221 rfl wv2_leastSafe rfl (by decide) rfl (lc_t20 hT) (ret2_leastSafe hT ((lc_b100 hT).2.2.1.2) hr4) (by decide) rfl rfl (Nat.le_of_ble_eq_true rfl) rfl (jag rfl rfl) ?_
            show Go _ _ _ _ _ _ 59 [(3, rc (100 + 8)), (0, rc 0), (1, vi a0), (2, vi a1)] [vi r4.2] ((r4.1, T), Y) _
            obtain ⟨rfl, rfl⟩ := Prod.mk.inj (Option.some.inj h)
            exact go_ireturn (by decide +kernel) rfl rfl ⟨rfl, rfl⟩
        · refine go_icmp_le (off := 5) (tgt := 34) (by decide +kernel) (by decide) (fun z => absurd z q4) (fun _ => ?_)
          refine go_blk rfl [(.iconst (-1), 1, 0, 0, 0, .inl (-1))] 32 33 _ _ _ (by decide +kernel) ?_
          show Go _ _ _ _ _ _ 33 [(3, rc (100 + 8)), (0, rc 0), (1, vi a0), (2, vi a1)] [vi ((-1))] ((S, T), Y) _
          obtain ⟨rfl, rfl⟩ := Prod.mk.inj (Option.some.inj h)
          exact go_ireturn (by decide +kernel) rfl rfl ⟨rfl, rfl⟩
  · refine go_if_ne (off := 20) (tgt := 32) (by decide +kernel) (by decide) (fun _ => ?_) (fun z => absurd z q1)
    refine go_blk rfl [(.iconst (-1), 1, 0, 0, 0, .inl (-1))] 32 33 _ _ _ (by decide +kernel) ?_
    show Go _ _ _ _ _ _ 33 [(3, rc (100 + 8)), (0, rc 0), (1, vi a0), (2, vi a1)] [vi ((-1))] ((S, T), Y) _
    obtain ⟨rfl, rfl⟩ := Prod.mk.inj (Option.some.inj h)
    exact go_ireturn (by decide +kernel) rfl rfl ⟨rfl, rfl⟩
def f10_within (T : jT) (S : jS) (a0 : Int32) : Option (jS × Int32) := Option.bind (f4_isTold S (100 + 8)) (fun r1 => (if r1 = 0 then some (S, (-1)) else (if a0 < 0 then some (S, (-1)) else (if 999 < a0 then some (S, (-1)) else Option.bind (f8_mostWithin T S (100 + 8) a0) (fun r2 => some (r2.1, r2.2))))))
theorem ret10_within {S : jS} {T : jT} {Y : jS × jT} {a0 : Int32} {S1 : jS} {x : Int32} (hT : LayC T) (h : f10_within T S a0 = some (S1, x)) : Ret M10_within 5 0 0 [rc 0, vi a0] ((S, T), Y) (some (vi x)) ((S1, T), Y) := by
  refine Ret.of (by decide +kernel) (Nat.le_of_ble_eq_true rfl) ?_
  unfold f10_within at h
  show Go _ _ _ _ _ _ 0 [(0, rc 0), (1, vi a0)] [] ((S, T), Y) _
  refine go_blk rfl [(.aload_n 0, 1, 0, 0, 0, .inl 0), (.getfield 45, 3, 10, 5, 1, .inl 0), (.getfield 102, 3, 0, 1, 1, .inl 0)] 0 7 _ _ _ (by decide +kernel) ?_
  refine And.intro (lc_t0 hT) (Exists.intro _ (And.intro (gRc (lc_r10_5 hT)) ?_))
  refine And.intro (lc_b100 hT).1 (Exists.intro _ (And.intro (gRc (lc_b100 hT).2.2.1.1) ?_))
  show Go _ _ _ _ _ _ 7 [(0, rc 0), (1, vi a0)] [rc (100 + 8)] ((S, T), Y) _
  obtain ⟨r1, hr1, h⟩ := bind_el h
  refine go_callV (idx := 154) (z := 1) (M' := M4_isTold) (n := 0) (A := []) (v' := some (vi r1)) (μ' := ((S, T), Y)) (d' := 1) (mc' := 0) (ms' := 0) (kc' := 0) (ks' := 0) (ci := 4) (x := .inl (100 + 8)) (by decide +kernel) ml_10_154 rfl wv4_isTold rfl (by decide) rfl ((lc_b100 hT).2.2.1.2).1 (ret4_isTold ((lc_b100 hT).2.2.1.2) hr1) (by decide) rfl rfl (Nat.le_of_ble_eq_true rfl) rfl (jag rfl rfl) ?_
  show Go _ _ _ _ _ _ 10 [(0, rc 0), (1, vi a0)] [vi r1] ((S, T), Y) _
  refine ite_el h (fun q1 h => ?_) (fun q1 h => ?_)
  · refine go_if_eq (off := 32) (tgt := 42) (by decide +kernel) (by decide) (fun _ => ?_) (fun z => absurd q1 z)
    refine go_blk rfl [(.iconst (-1), 1, 0, 0, 0, .inl (-1))] 42 43 _ _ _ (by decide +kernel) ?_
    show Go _ _ _ _ _ _ 43 [(0, rc 0), (1, vi a0)] [vi ((-1))] ((S, T), Y) _
    obtain ⟨rfl, rfl⟩ := Prod.mk.inj (Option.some.inj h)
    exact go_ireturn (by decide +kernel) rfl rfl ⟨rfl, rfl⟩
  · refine go_if_eq (off := 32) (tgt := 42) (by decide +kernel) (by decide) (fun z => absurd z q1) (fun _ => ?_)
    refine go_blk rfl [(.iload_n 1, 1, 1, 0, 0, .inl 0)] 13 14 _ _ _ (by decide +kernel) ?_
    show Go _ _ _ _ _ _ 14 [(0, rc 0), (1, vi a0)] [vi a0] ((S, T), Y) _
    refine ite_el h (fun q2 h => ?_) (fun q2 h => ?_)
    · refine go_if_lt (off := 28) (tgt := 42) (by decide +kernel) (by decide) (fun _ => ?_) (fun z => absurd q2 z)
      refine go_blk rfl [(.iconst (-1), 1, 0, 0, 0, .inl (-1))] 42 43 _ _ _ (by decide +kernel) ?_
      show Go _ _ _ _ _ _ 43 [(0, rc 0), (1, vi a0)] [vi ((-1))] ((S, T), Y) _
      obtain ⟨rfl, rfl⟩ := Prod.mk.inj (Option.some.inj h)
      exact go_ireturn (by decide +kernel) rfl rfl ⟨rfl, rfl⟩
    · refine go_if_lt (off := 28) (tgt := 42) (by decide +kernel) (by decide) (fun z => absurd z q2) (fun _ => ?_)
      refine go_blk rfl [(.iload_n 1, 1, 1, 0, 0, .inl 0), (.sipush 999, 3, 0, 0, 0, .inl 999)] 17 21 _ _ _ (by decide +kernel) ?_
      show Go _ _ _ _ _ _ 21 [(0, rc 0), (1, vi a0)] [vi 999, vi a0] ((S, T), Y) _
      refine ite_el h (fun q3 h => ?_) (fun q3 h => ?_)
      · refine go_icmp_gt (off := 21) (tgt := 42) (by decide +kernel) (by decide) (fun _ => ?_) (fun z => absurd q3 z)
        refine go_blk rfl [(.iconst (-1), 1, 0, 0, 0, .inl (-1))] 42 43 _ _ _ (by decide +kernel) ?_
        show Go _ _ _ _ _ _ 43 [(0, rc 0), (1, vi a0)] [vi ((-1))] ((S, T), Y) _
        obtain ⟨rfl, rfl⟩ := Prod.mk.inj (Option.some.inj h)
        exact go_ireturn (by decide +kernel) rfl rfl ⟨rfl, rfl⟩
      · refine go_icmp_gt (off := 21) (tgt := 42) (by decide +kernel) (by decide) (fun z => absurd z q3) (fun _ => ?_)
        refine go_blk rfl [(.aload_n 0, 1, 0, 0, 0, .inl 0), (.getfield 79, 3, 10, 10, 1, .inl 0), (.aload_n 0, 1, 0, 0, 0, .inl 0), (.getfield 45, 3, 10, 5, 1, .inl 0), (.getfield 102, 3, 0, 1, 1, .inl 0), (.iload_n 1, 1, 1, 0, 0, .inl 0)] 24 36 _ _ _ (by decide +kernel) ?_
        refine And.intro (lc_t0 hT) (Exists.intro _ (And.intro (gRc (lc_r10_10 hT)) ?_))
        refine And.intro (lc_t0 hT) (Exists.intro _ (And.intro (gRc (lc_r10_5 hT)) ?_))
        refine And.intro (lc_b100 hT).1 (Exists.intro _ (And.intro (gRc (lc_b100 hT).2.2.1.1) ?_))
        show Go _ _ _ _ _ _ 36 [(0, rc 0), (1, vi a0)] [vi a0, rc (100 + 8), rc 80] ((S, T), Y) _
        obtain ⟨r2, hr2, h⟩ := bind_el h
        refine go_callV (idx := 231) (z := 1) (M' := M8_mostWithin) (n := 2) (A := [rc (100 + 8), vi a0]) (v' := some (vi r2.2)) (μ' := ((r2.1, T), Y)) (d' := 4) (mc' := 0) (ms' := 0) (kc' := 0) (ks' := 0) (ci := 8) (x := .inl 80) (by decide +kernel) ml_10_231 rfl wv8_mostWithin rfl (by decide) rfl (lc_t80 hT) (ret8_mostWithin hT ((lc_b100 hT).2.2.1.2) hr2) (by decide) rfl rfl (Nat.le_of_ble_eq_true rfl) rfl (jag rfl rfl) ?_
        show Go _ _ _ _ _ _ 39 [(0, rc 0), (1, vi a0)] [vi r2.2] ((r2.1, T), Y) _
        refine go_goto (off := 4) (tgt := 43) (by decide +kernel) (by decide) ?_
        obtain ⟨rfl, rfl⟩ := Prod.mk.inj (Option.some.inj h)
        exact go_ireturn (by decide +kernel) rfl rfl ⟨rfl, rfl⟩
def f10_kind (T : jT) (S : jS) (a0 : Int32) : Option (jS × Int32) := Option.bind (f4_isTold S (100 + 8)) (fun r1 => (if r1 = 0 then some (S, (-2)) else (if a0 < ((-1)) then some (S, (-2)) else (if a0 < (S.1 (100 + 8) 2) then Option.bind (f8_leastTime T S (100 + 8) 1) (fun r2 => (if a0 = ((-1)) then some (r2.1, r2.2) else Option.bind (f8_chairOf T r2.1 (100 + 8) a0) (fun r3 => some (r2.1, r3)))) else some (S, (-2))))))
theorem ret10_kind {S : jS} {T : jT} {Y : jS × jT} {a0 : Int32} {S1 : jS} {x : Int32} (hT : LayC T) (h : f10_kind T S a0 = some (S1, x)) : Ret M10_kind 5 0 0 [rc 0, vi a0] ((S, T), Y) (some (vi x)) ((S1, T), Y) := by
  refine Ret.of (by decide +kernel) (Nat.le_of_ble_eq_true rfl) ?_
  unfold f10_kind at h
  show Go _ _ _ _ _ _ 0 [(0, rc 0), (1, vi a0)] [] ((S, T), Y) _
  refine go_blk rfl [(.aload_n 0, 1, 0, 0, 0, .inl 0), (.getfield 45, 3, 10, 5, 1, .inl 0), (.getfield 102, 3, 0, 1, 1, .inl 0), (.astore_n 2, 1, 2, 0, 0, .inl 0), (.aload_n 2, 1, 2, 0, 0, .inl 0)] 0 9 _ _ _ (by decide +kernel) ?_
  refine And.intro (lc_t0 hT) (Exists.intro _ (And.intro (gRc (lc_r10_5 hT)) ?_))
  refine And.intro (lc_b100 hT).1 (Exists.intro _ (And.intro (gRc (lc_b100 hT).2.2.1.1) ?_))
  show Go _ _ _ _ _ _ 9 [(2, rc (100 + 8)), (0, rc 0), (1, vi a0)] [rc (100 + 8)] ((S, T), Y) _
  obtain ⟨r1, hr1, h⟩ := bind_el h
  refine go_callV (idx := 154) (z := 1) (M' := M4_isTold) (n := 0) (A := []) (v' := some (vi r1)) (μ' := ((S, T), Y)) (d' := 1) (mc' := 0) (ms' := 0) (kc' := 0) (ks' := 0) (ci := 4) (x := .inl (100 + 8)) (by decide +kernel) ml_10_154 rfl wv4_isTold rfl (by decide) rfl ((lc_b100 hT).2.2.1.2).1 (ret4_isTold ((lc_b100 hT).2.2.1.2) hr1) (by decide) rfl rfl (Nat.le_of_ble_eq_true rfl) rfl (jag rfl rfl) ?_
  show Go _ _ _ _ _ _ 12 [(2, rc (100 + 8)), (0, rc 0), (1, vi a0)] [vi r1] ((S, T), Y) _
  refine ite_el h (fun q1 h => ?_) (fun q1 h => ?_)
  · refine go_if_eq (off := 16) (tgt := 28) (by decide +kernel) (by decide) (fun _ => ?_) (fun z => absurd q1 z)
    refine go_blk rfl [(.bipush (-2), 2, 0, 0, 0, .inl (-2))] 28 30 _ _ _ (by decide +kernel) ?_
    show Go _ _ _ _ _ _ 30 [(2, rc (100 + 8)), (0, rc 0), (1, vi a0)] [vi ((-2))] ((S, T), Y) _
    obtain ⟨rfl, rfl⟩ := Prod.mk.inj (Option.some.inj h)
    exact go_ireturn (by decide +kernel) rfl rfl ⟨rfl, rfl⟩
  · refine go_if_eq (off := 16) (tgt := 28) (by decide +kernel) (by decide) (fun z => absurd z q1) (fun _ => ?_)
    refine go_blk rfl [(.iload_n 1, 1, 1, 0, 0, .inl 0), (.iconst (-1), 1, 0, 0, 0, .inl (-1))] 15 17 _ _ _ (by decide +kernel) ?_
    show Go _ _ _ _ _ _ 17 [(2, rc (100 + 8)), (0, rc 0), (1, vi a0)] [vi ((-1)), vi a0] ((S, T), Y) _
    refine ite_el h (fun q2 h => ?_) (fun q2 h => ?_)
    · refine go_icmp_lt (off := 11) (tgt := 28) (by decide +kernel) (by decide) (fun _ => ?_) (fun z => absurd q2 z)
      refine go_blk rfl [(.bipush (-2), 2, 0, 0, 0, .inl (-2))] 28 30 _ _ _ (by decide +kernel) ?_
      show Go _ _ _ _ _ _ 30 [(2, rc (100 + 8)), (0, rc 0), (1, vi a0)] [vi ((-2))] ((S, T), Y) _
      obtain ⟨rfl, rfl⟩ := Prod.mk.inj (Option.some.inj h)
      exact go_ireturn (by decide +kernel) rfl rfl ⟨rfl, rfl⟩
    · refine go_icmp_lt (off := 11) (tgt := 28) (by decide +kernel) (by decide) (fun z => absurd z q2) (fun _ => ?_)
      refine go_blk rfl [(.iload_n 1, 1, 1, 0, 0, .inl 0), (.aload_n 2, 1, 2, 0, 0, .inl 0), (.getfield 105, 3, 4, 2, 0, .inl 0)] 20 25 _ _ _ (by decide +kernel) ?_
      refine And.intro ((lc_b100 hT).2.2.1.2).1 ?_
      show Go _ _ _ _ _ _ 25 [(2, rc (100 + 8)), (0, rc 0), (1, vi a0)] [vi (S.1 (100 + 8) 2), vi a0] ((S, T), Y) _
      refine ite_el h (fun q3 h => ?_) (fun q3 h => ?_)
      · refine go_icmp_lt (off := 6) (tgt := 31) (by decide +kernel) (by decide) (fun _ => ?_) (fun z => absurd q3 z)
        refine go_blk rfl [(.aload_n 0, 1, 0, 0, 0, .inl 0), (.getfield 79, 3, 10, 10, 1, .inl 0), (.aload_n 2, 1, 2, 0, 0, .inl 0), (.iconst 1, 1, 0, 0, 0, .inl 1)] 31 37 _ _ _ (by decide +kernel) ?_
        refine And.intro (lc_t0 hT) (Exists.intro _ (And.intro (gRc (lc_r10_10 hT)) ?_))
        show Go _ _ _ _ _ _ 37 [(2, rc (100 + 8)), (0, rc 0), (1, vi a0)] [vi 1, rc (100 + 8), rc 80] ((S, T), Y) _
        obtain ⟨r2, hr2, h⟩ := bind_el h
        refine go_callV (idx := 234) (z := 1) (M' := M8_leastTime) (n := 2) (A := [rc (100 + 8), vi 1]) (v' := some (vi r2.2)) (μ' := ((r2.1, T), Y)) (d' := 4) (mc' := 0) (ms' := 0) (kc' := 0) (ks' := 0) (ci := 8) (x := .inl 80) (by decide +kernel) ml_10_234 rfl wv8_leastTime rfl (by decide) rfl (lc_t80 hT) (ret8_leastTime hT ((lc_b100 hT).2.2.1.2) hr2) (by decide) rfl rfl (Nat.le_of_ble_eq_true rfl) rfl (jag rfl rfl) ?_
        show Go _ _ _ _ _ _ 40 [(2, rc (100 + 8)), (0, rc 0), (1, vi a0)] [vi r2.2] ((r2.1, T), Y) _
        refine go_blk rfl [(.istore_n 3, 1, 3, 0, 0, .inl 0), (.iload_n 1, 1, 1, 0, 0, .inl 0), (.iconst (-1), 1, 0, 0, 0, .inl (-1))] 40 43 _ _ _ (by decide +kernel) ?_
        show Go _ _ _ _ _ _ 43 [(3, vi r2.2), (2, rc (100 + 8)), (0, rc 0), (1, vi a0)] [vi ((-1)), vi a0] ((r2.1, T), Y) _
        refine ite_el h (fun q4 h => ?_) (fun q4 h => ?_)
        · refine go_icmp_ne (off := 7) (tgt := 50) (by decide +kernel) (by decide) (fun z => absurd q4 z) (fun _ => ?_)
          refine go_blk rfl [(.iload_n 3, 1, 3, 0, 0, .inl 0)] 46 47 _ _ _ (by decide +kernel) ?_
          show Go _ _ _ _ _ _ 47 [(3, vi r2.2), (2, rc (100 + 8)), (0, rc 0), (1, vi a0)] [vi r2.2] ((r2.1, T), Y) _
          refine go_goto (off := 12) (tgt := 59) (by decide +kernel) (by decide) ?_
          obtain ⟨rfl, rfl⟩ := Prod.mk.inj (Option.some.inj h)
          exact go_ireturn (by decide +kernel) rfl rfl ⟨rfl, rfl⟩
        · refine go_icmp_ne (off := 7) (tgt := 50) (by decide +kernel) (by decide) (fun _ => ?_) (fun z => absurd z q4)
          refine go_blk rfl [(.aload_n 0, 1, 0, 0, 0, .inl 0), (.getfield 79, 3, 10, 10, 1, .inl 0), (.aload_n 2, 1, 2, 0, 0, .inl 0), (.iload_n 1, 1, 1, 0, 0, .inl 0)] 50 56 _ _ _ (by decide +kernel) ?_
          refine And.intro (lc_t0 hT) (Exists.intro _ (And.intro (gRc (lc_r10_10 hT)) ?_))
          show Go _ _ _ _ _ _ 56 [(3, vi r2.2), (2, rc (100 + 8)), (0, rc 0), (1, vi a0)] [vi a0, rc (100 + 8), rc 80] ((r2.1, T), Y) _
          obtain ⟨r3, hr3, h⟩ := bind_el h
          refine go_callV (idx := 238) (z := 1) (M' := M8_chairOf) (n := 2) (A := [rc (100 + 8), vi a0]) (v' := some (vi r3)) (μ' := ((r2.1, T), Y)) (d' := 4) (mc' := 0) (ms' := 0) (kc' := 0) (ks' := 0) (ci := 8) (x := .inl 80) (by decide +kernel) ml_10_238 rfl wv8_chairOf rfl (by decide) rfl (lc_t80 hT) (ret8_chairOf hT ((lc_b100 hT).2.2.1.2) hr3) (by decide) rfl rfl (Nat.le_of_ble_eq_true rfl) rfl (jag rfl rfl) ?_
          show Go _ _ _ _ _ _ 59 [(3, vi r2.2), (2, rc (100 + 8)), (0, rc 0), (1, vi a0)] [vi r3] ((r2.1, T), Y) _
          obtain ⟨rfl, rfl⟩ := Prod.mk.inj (Option.some.inj h)
          exact go_ireturn (by decide +kernel) rfl rfl ⟨rfl, rfl⟩
      · refine go_icmp_lt (off := 6) (tgt := 31) (by decide +kernel) (by decide) (fun z => absurd z q3) (fun _ => ?_)
        refine go_blk rfl [(.bipush (-2), 2, 0, 0, 0, .inl (-2))] 28 30 _ _ _ (by decide +kernel) ?_
        show Go _ _ _ _ _ _ 30 [(2, rc (100 + 8)), (0, rc 0), (1, vi a0)] [vi ((-2))] ((S, T), Y) _
        obtain ⟨rfl, rfl⟩ := Prod.mk.inj (Option.some.inj h)
        exact go_ireturn (by decide +kernel) rfl rfl ⟨rfl, rfl⟩
def f10_longest (T : jT) (S : jS) : Option (jS × Int32) := Option.bind (f4_isTold S (100 + 8)) (fun r1 => (if r1 = 0 then some (S, (-1)) else Option.bind (f8_leastTime T S (100 + 8) 0) (fun r2 => some (r2.1, r2.2))))
theorem ret10_longest {S : jS} {T : jT} {Y : jS × jT} {S1 : jS} {x : Int32} (hT : LayC T) (h : f10_longest T S = some (S1, x)) : Ret M10_longest 5 0 0 [rc 0] ((S, T), Y) (some (vi x)) ((S1, T), Y) := by
  refine Ret.of (by decide +kernel) (Nat.le_of_ble_eq_true rfl) ?_
  unfold f10_longest at h
  show Go _ _ _ _ _ _ 0 [(0, rc 0)] [] ((S, T), Y) _
  refine go_blk rfl [(.aload_n 0, 1, 0, 0, 0, .inl 0), (.getfield 45, 3, 10, 5, 1, .inl 0), (.getfield 102, 3, 0, 1, 1, .inl 0)] 0 7 _ _ _ (by decide +kernel) ?_
  refine And.intro (lc_t0 hT) (Exists.intro _ (And.intro (gRc (lc_r10_5 hT)) ?_))
  refine And.intro (lc_b100 hT).1 (Exists.intro _ (And.intro (gRc (lc_b100 hT).2.2.1.1) ?_))
  show Go _ _ _ _ _ _ 7 [(0, rc 0)] [rc (100 + 8)] ((S, T), Y) _
  obtain ⟨r1, hr1, h⟩ := bind_el h
  refine go_callV (idx := 154) (z := 1) (M' := M4_isTold) (n := 0) (A := []) (v' := some (vi r1)) (μ' := ((S, T), Y)) (d' := 1) (mc' := 0) (ms' := 0) (kc' := 0) (ks' := 0) (ci := 4) (x := .inl (100 + 8)) (by decide +kernel) ml_10_154 rfl wv4_isTold rfl (by decide) rfl ((lc_b100 hT).2.2.1.2).1 (ret4_isTold ((lc_b100 hT).2.2.1.2) hr1) (by decide) rfl rfl (Nat.le_of_ble_eq_true rfl) rfl (jag rfl rfl) ?_
  show Go _ _ _ _ _ _ 10 [(0, rc 0)] [vi r1] ((S, T), Y) _
  refine ite_el h (fun q1 h => ?_) (fun q1 h => ?_)
  · refine go_if_eq (off := 21) (tgt := 31) (by decide +kernel) (by decide) (fun _ => ?_) (fun z => absurd q1 z)
    refine go_blk rfl [(.iconst (-1), 1, 0, 0, 0, .inl (-1))] 31 32 _ _ _ (by decide +kernel) ?_
    show Go _ _ _ _ _ _ 32 [(0, rc 0)] [vi ((-1))] ((S, T), Y) _
    obtain ⟨rfl, rfl⟩ := Prod.mk.inj (Option.some.inj h)
    exact go_ireturn (by decide +kernel) rfl rfl ⟨rfl, rfl⟩
  · refine go_if_eq (off := 21) (tgt := 31) (by decide +kernel) (by decide) (fun z => absurd z q1) (fun _ => ?_)
    refine go_blk rfl [(.aload_n 0, 1, 0, 0, 0, .inl 0), (.getfield 79, 3, 10, 10, 1, .inl 0), (.aload_n 0, 1, 0, 0, 0, .inl 0), (.getfield 45, 3, 10, 5, 1, .inl 0), (.getfield 102, 3, 0, 1, 1, .inl 0), (.iconst 0, 1, 0, 0, 0, .inl 0)] 13 25 _ _ _ (by decide +kernel) ?_
    refine And.intro (lc_t0 hT) (Exists.intro _ (And.intro (gRc (lc_r10_10 hT)) ?_))
    refine And.intro (lc_t0 hT) (Exists.intro _ (And.intro (gRc (lc_r10_5 hT)) ?_))
    refine And.intro (lc_b100 hT).1 (Exists.intro _ (And.intro (gRc (lc_b100 hT).2.2.1.1) ?_))
    show Go _ _ _ _ _ _ 25 [(0, rc 0)] [vi 0, rc (100 + 8), rc 80] ((S, T), Y) _
    obtain ⟨r2, hr2, h⟩ := bind_el h
    refine go_callV (idx := 234) (z := 1) (M' := M8_leastTime) (n := 2) (A := [rc (100 + 8), vi 0]) (v' := some (vi r2.2)) (μ' := ((r2.1, T), Y)) (d' := 4) (mc' := 0) (ms' := 0) (kc' := 0) (ks' := 0) (ci := 8) (x := .inl 80) (by decide +kernel) ml_10_234 rfl wv8_leastTime rfl (by decide) rfl (lc_t80 hT) (ret8_leastTime hT ((lc_b100 hT).2.2.1.2) hr2) (by decide) rfl rfl (Nat.le_of_ble_eq_true rfl) rfl (jag rfl rfl) ?_
    show Go _ _ _ _ _ _ 28 [(0, rc 0)] [vi r2.2] ((r2.1, T), Y) _
    refine go_goto (off := 4) (tgt := 32) (by decide +kernel) (by decide) ?_
    obtain ⟨rfl, rfl⟩ := Prod.mk.inj (Option.some.inj h)
    exact go_ireturn (by decide +kernel) rfl rfl ⟨rfl, rfl⟩
def f10_meet (S : jS) (a0 : Int32) (a1 : Int32) : Option Int32 := Option.bind (f4_areTwoIn S (100 + 8) a0 a1) (fun r1 => (if r1 = 0 then some ((-1)) else Option.bind (f4_beatsTillMeeting S (100 + 8) a0 a1) (fun r2 => some r2)))
theorem ret10_meet {S : jS} {T : jT} {Y : jS × jT} {a0 : Int32} {a1 : Int32} {x : Int32} (hT : LayC T) (h : f10_meet S a0 a1 = some x) : Ret M10_meet 4 0 0 [rc 0, vi a0, vi a1] ((S, T), Y) (some (vi x)) ((S, T), Y) := by
  refine Ret.of (by decide +kernel) (Nat.le_of_ble_eq_true rfl) ?_
  unfold f10_meet at h
  show Go _ _ _ _ _ _ 0 [(0, rc 0), (1, vi a0), (2, vi a1)] [] ((S, T), Y) _
  refine go_blk rfl [(.aload_n 0, 1, 0, 0, 0, .inl 0), (.getfield 45, 3, 10, 5, 1, .inl 0), (.getfield 102, 3, 0, 1, 1, .inl 0), (.iload_n 1, 1, 1, 0, 0, .inl 0), (.iload_n 2, 1, 2, 0, 0, .inl 0)] 0 9 _ _ _ (by decide +kernel) ?_
  refine And.intro (lc_t0 hT) (Exists.intro _ (And.intro (gRc (lc_r10_5 hT)) ?_))
  refine And.intro (lc_b100 hT).1 (Exists.intro _ (And.intro (gRc (lc_b100 hT).2.2.1.1) ?_))
  show Go _ _ _ _ _ _ 9 [(0, rc 0), (1, vi a0), (2, vi a1)] [vi a1, vi a0, rc (100 + 8)] ((S, T), Y) _
  obtain ⟨r1, hr1, h⟩ := bind_el h
  refine go_callV (idx := 181) (z := 1) (M' := M4_areTwoIn) (n := 2) (A := [vi a0, vi a1]) (v' := some (vi r1)) (μ' := ((S, T), Y)) (d' := 3) (mc' := 0) (ms' := 0) (kc' := 0) (ks' := 0) (ci := 4) (x := .inl (100 + 8)) (by decide +kernel) ml_10_181 rfl wv4_areTwoIn rfl (by decide) rfl ((lc_b100 hT).2.2.1.2).1 (ret4_areTwoIn ((lc_b100 hT).2.2.1.2) hr1) (by decide) rfl rfl (Nat.le_of_ble_eq_true rfl) rfl (jag rfl rfl) ?_
  show Go _ _ _ _ _ _ 12 [(0, rc 0), (1, vi a0), (2, vi a1)] [vi r1] ((S, T), Y) _
  refine ite_el h (fun q1 h => ?_) (fun q1 h => ?_)
  · refine go_if_eq (off := 18) (tgt := 30) (by decide +kernel) (by decide) (fun _ => ?_) (fun z => absurd q1 z)
    refine go_blk rfl [(.iconst (-1), 1, 0, 0, 0, .inl (-1))] 30 31 _ _ _ (by decide +kernel) ?_
    show Go _ _ _ _ _ _ 31 [(0, rc 0), (1, vi a0), (2, vi a1)] [vi ((-1))] ((S, T), Y) _
    obtain rfl := Option.some.inj h
    exact go_ireturn (by decide +kernel) rfl rfl ⟨rfl, rfl⟩
  · refine go_if_eq (off := 18) (tgt := 30) (by decide +kernel) (by decide) (fun z => absurd z q1) (fun _ => ?_)
    refine go_blk rfl [(.aload_n 0, 1, 0, 0, 0, .inl 0), (.getfield 45, 3, 10, 5, 1, .inl 0), (.getfield 102, 3, 0, 1, 1, .inl 0), (.iload_n 1, 1, 1, 0, 0, .inl 0), (.iload_n 2, 1, 2, 0, 0, .inl 0)] 15 24 _ _ _ (by decide +kernel) ?_
    refine And.intro (lc_t0 hT) (Exists.intro _ (And.intro (gRc (lc_r10_5 hT)) ?_))
    refine And.intro (lc_b100 hT).1 (Exists.intro _ (And.intro (gRc (lc_b100 hT).2.2.1.1) ?_))
    show Go _ _ _ _ _ _ 24 [(0, rc 0), (1, vi a0), (2, vi a1)] [vi a1, vi a0, rc (100 + 8)] ((S, T), Y) _
    obtain ⟨r2, hr2, h⟩ := bind_el h
    refine go_callV (idx := 241) (z := 1) (M' := M4_beatsTillMeeting) (n := 2) (A := [vi a0, vi a1]) (v' := some (vi r2)) (μ' := ((S, T), Y)) (d' := 1) (mc' := 0) (ms' := 0) (kc' := 0) (ks' := 0) (ci := 4) (x := .inl (100 + 8)) (by decide +kernel) ml_10_241 rfl wv4_beatsTillMeeting rfl (by decide) rfl ((lc_b100 hT).2.2.1.2).1 (ret4_beatsTillMeeting ((lc_b100 hT).2.2.1.2) hr2) (by decide) rfl rfl (Nat.le_of_ble_eq_true rfl) rfl (jag rfl rfl) ?_
    show Go _ _ _ _ _ _ 27 [(0, rc 0), (1, vi a0), (2, vi a1)] [vi r2] ((S, T), Y) _
    refine go_goto (off := 4) (tgt := 31) (by decide +kernel) (by decide) ?_
    obtain rfl := Option.some.inj h
    exact go_ireturn (by decide +kernel) rfl rfl ⟨rfl, rfl⟩
def f10_tour (S : jS) : Option Int32 := Option.bind (f4_isTold S (100 + 8)) (fun r1 => (if r1 = 0 then some ((-1)) else Option.bind (f4_beatsTillBack S (100 + 8)) (fun r2 => some r2)))
theorem ret10_tour {S : jS} {T : jT} {Y : jS × jT} {x : Int32} (hT : LayC T) (h : f10_tour S = some x) : Ret M10_tour 3 0 0 [rc 0] ((S, T), Y) (some (vi x)) ((S, T), Y) := by
  refine Ret.of (by decide +kernel) (Nat.le_of_ble_eq_true rfl) ?_
  unfold f10_tour at h
  show Go _ _ _ _ _ _ 0 [(0, rc 0)] [] ((S, T), Y) _
  refine go_blk rfl [(.aload_n 0, 1, 0, 0, 0, .inl 0), (.getfield 45, 3, 10, 5, 1, .inl 0), (.getfield 102, 3, 0, 1, 1, .inl 0)] 0 7 _ _ _ (by decide +kernel) ?_
  refine And.intro (lc_t0 hT) (Exists.intro _ (And.intro (gRc (lc_r10_5 hT)) ?_))
  refine And.intro (lc_b100 hT).1 (Exists.intro _ (And.intro (gRc (lc_b100 hT).2.2.1.1) ?_))
  show Go _ _ _ _ _ _ 7 [(0, rc 0)] [rc (100 + 8)] ((S, T), Y) _
  obtain ⟨r1, hr1, h⟩ := bind_el h
  refine go_callV (idx := 154) (z := 1) (M' := M4_isTold) (n := 0) (A := []) (v' := some (vi r1)) (μ' := ((S, T), Y)) (d' := 1) (mc' := 0) (ms' := 0) (kc' := 0) (ks' := 0) (ci := 4) (x := .inl (100 + 8)) (by decide +kernel) ml_10_154 rfl wv4_isTold rfl (by decide) rfl ((lc_b100 hT).2.2.1.2).1 (ret4_isTold ((lc_b100 hT).2.2.1.2) hr1) (by decide) rfl rfl (Nat.le_of_ble_eq_true rfl) rfl (jag rfl rfl) ?_
  show Go _ _ _ _ _ _ 10 [(0, rc 0)] [vi r1] ((S, T), Y) _
  refine ite_el h (fun q1 h => ?_) (fun q1 h => ?_)
  · refine go_if_eq (off := 16) (tgt := 26) (by decide +kernel) (by decide) (fun _ => ?_) (fun z => absurd q1 z)
    refine go_blk rfl [(.iconst (-1), 1, 0, 0, 0, .inl (-1))] 26 27 _ _ _ (by decide +kernel) ?_
    show Go _ _ _ _ _ _ 27 [(0, rc 0)] [vi ((-1))] ((S, T), Y) _
    obtain rfl := Option.some.inj h
    exact go_ireturn (by decide +kernel) rfl rfl ⟨rfl, rfl⟩
  · refine go_if_eq (off := 16) (tgt := 26) (by decide +kernel) (by decide) (fun z => absurd z q1) (fun _ => ?_)
    refine go_blk rfl [(.aload_n 0, 1, 0, 0, 0, .inl 0), (.getfield 45, 3, 10, 5, 1, .inl 0), (.getfield 102, 3, 0, 1, 1, .inl 0)] 13 20 _ _ _ (by decide +kernel) ?_
    refine And.intro (lc_t0 hT) (Exists.intro _ (And.intro (gRc (lc_r10_5 hT)) ?_))
    refine And.intro (lc_b100 hT).1 (Exists.intro _ (And.intro (gRc (lc_b100 hT).2.2.1.1) ?_))
    show Go _ _ _ _ _ _ 20 [(0, rc 0)] [rc (100 + 8)] ((S, T), Y) _
    obtain ⟨r2, hr2, h⟩ := bind_el h
    refine go_callV (idx := 244) (z := 1) (M' := M4_beatsTillBack) (n := 0) (A := []) (v' := some (vi r2)) (μ' := ((S, T), Y)) (d' := 2) (mc' := 0) (ms' := 0) (kc' := 0) (ks' := 0) (ci := 4) (x := .inl (100 + 8)) (by decide +kernel) ml_10_244 rfl wv4_beatsTillBack rfl (by decide) rfl ((lc_b100 hT).2.2.1.2).1 (ret4_beatsTillBack ((lc_b100 hT).2.2.1.2) hr2) (by decide) rfl rfl (Nat.le_of_ble_eq_true rfl) rfl (jag rfl rfl) ?_
    show Go _ _ _ _ _ _ 23 [(0, rc 0)] [vi r2] ((S, T), Y) _
    refine go_goto (off := 4) (tgt := 27) (by decide +kernel) (by decide) ?_
    obtain rfl := Option.some.inj h
    exact go_ireturn (by decide +kernel) rfl rfl ⟨rfl, rfl⟩
