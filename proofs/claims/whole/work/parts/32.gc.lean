def f4_addGuest (S : jS) (o : Nat) (a0 : Int32) (a1 : Int32) (a2 : Int32) : Option (jS × Unit) := (if 7 ≤ (S.1 o 2) then some (S, ()) else (if inb (S.1 o 2) 7 then (if inb ((wI S (o + 2) (S.1 o 2).toNatClampNeg a0).1 o 2) 7 then (if inb ((wI (wI S (o + 2) (S.1 o 2).toNatClampNeg a0) (o + 3) ((wI S (o + 2) (S.1 o 2).toNatClampNeg a0).1 o 2).toNatClampNeg a1).1 o 2) 7 then (if inb ((wI (wI (wI S (o + 2) (S.1 o 2).toNatClampNeg a0) (o + 3) ((wI S (o + 2) (S.1 o 2).toNatClampNeg a0).1 o 2).toNatClampNeg a1) (o + 4) ((wI (wI S (o + 2) (S.1 o 2).toNatClampNeg a0) (o + 3) ((wI S (o + 2) (S.1 o 2).toNatClampNeg a0).1 o 2).toNatClampNeg a1).1 o 2).toNatClampNeg a2).1 o 2) 7 then (if inb ((wI (wI (wI (wI S (o + 2) (S.1 o 2).toNatClampNeg a0) (o + 3) ((wI S (o + 2) (S.1 o 2).toNatClampNeg a0).1 o 2).toNatClampNeg a1) (o + 4) ((wI (wI S (o + 2) (S.1 o 2).toNatClampNeg a0) (o + 3) ((wI S (o + 2) (S.1 o 2).toNatClampNeg a0).1 o 2).toNatClampNeg a1).1 o 2).toNatClampNeg a2) (o + 5) ((wI (wI (wI S (o + 2) (S.1 o 2).toNatClampNeg a0) (o + 3) ((wI S (o + 2) (S.1 o 2).toNatClampNeg a0).1 o 2).toNatClampNeg a1) (o + 4) ((wI (wI S (o + 2) (S.1 o 2).toNatClampNeg a0) (o + 3) ((wI S (o + 2) (S.1 o 2).toNatClampNeg a0).1 o 2).toNatClampNeg a1).1 o 2).toNatClampNeg a2).1 o 2).toNatClampNeg 0).1 o 2) 7 then some (wI (wI (wI (wI (wI (wI (wI S (o + 2) (S.1 o 2).toNatClampNeg a0) (o + 3) ((wI S (o + 2) (S.1 o 2).toNatClampNeg a0).1 o 2).toNatClampNeg a1) (o + 4) ((wI (wI S (o + 2) (S.1 o 2).toNatClampNeg a0) (o + 3) ((wI S (o + 2) (S.1 o 2).toNatClampNeg a0).1 o 2).toNatClampNeg a1).1 o 2).toNatClampNeg a2) (o + 5) ((wI (wI (wI S (o + 2) (S.1 o 2).toNatClampNeg a0) (o + 3) ((wI S (o + 2) (S.1 o 2).toNatClampNeg a0).1 o 2).toNatClampNeg a1) (o + 4) ((wI (wI S (o + 2) (S.1 o 2).toNatClampNeg a0) (o + 3) ((wI S (o + 2) (S.1 o 2).toNatClampNeg a0).1 o 2).toNatClampNeg a1).1 o 2).toNatClampNeg a2).1 o 2).toNatClampNeg 0) (o + 6) ((wI (wI (wI (wI S (o + 2) (S.1 o 2).toNatClampNeg a0) (o + 3) ((wI S (o + 2) (S.1 o 2).toNatClampNeg a0).1 o 2).toNatClampNeg a1) (o + 4) ((wI (wI S (o + 2) (S.1 o 2).toNatClampNeg a0) (o + 3) ((wI S (o + 2) (S.1 o 2).toNatClampNeg a0).1 o 2).toNatClampNeg a1).1 o 2).toNatClampNeg a2) (o + 5) ((wI (wI (wI S (o + 2) (S.1 o 2).toNatClampNeg a0) (o + 3) ((wI S (o + 2) (S.1 o 2).toNatClampNeg a0).1 o 2).toNatClampNeg a1) (o + 4) ((wI (wI S (o + 2) (S.1 o 2).toNatClampNeg a0) (o + 3) ((wI S (o + 2) (S.1 o 2).toNatClampNeg a0).1 o 2).toNatClampNeg a1).1 o 2).toNatClampNeg a2).1 o 2).toNatClampNeg 0).1 o 2).toNatClampNeg 0) o 4 (((wI (wI (wI (wI (wI S (o + 2) (S.1 o 2).toNatClampNeg a0) (o + 3) ((wI S (o + 2) (S.1 o 2).toNatClampNeg a0).1 o 2).toNatClampNeg a1) (o + 4) ((wI (wI S (o + 2) (S.1 o 2).toNatClampNeg a0) (o + 3) ((wI S (o + 2) (S.1 o 2).toNatClampNeg a0).1 o 2).toNatClampNeg a1).1 o 2).toNatClampNeg a2) (o + 5) ((wI (wI (wI S (o + 2) (S.1 o 2).toNatClampNeg a0) (o + 3) ((wI S (o + 2) (S.1 o 2).toNatClampNeg a0).1 o 2).toNatClampNeg a1) (o + 4) ((wI (wI S (o + 2) (S.1 o 2).toNatClampNeg a0) (o + 3) ((wI S (o + 2) (S.1 o 2).toNatClampNeg a0).1 o 2).toNatClampNeg a1).1 o 2).toNatClampNeg a2).1 o 2).toNatClampNeg 0) (o + 6) ((wI (wI (wI (wI S (o + 2) (S.1 o 2).toNatClampNeg a0) (o + 3) ((wI S (o + 2) (S.1 o 2).toNatClampNeg a0).1 o 2).toNatClampNeg a1) (o + 4) ((wI (wI S (o + 2) (S.1 o 2).toNatClampNeg a0) (o + 3) ((wI S (o + 2) (S.1 o 2).toNatClampNeg a0).1 o 2).toNatClampNeg a1).1 o 2).toNatClampNeg a2) (o + 5) ((wI (wI (wI S (o + 2) (S.1 o 2).toNatClampNeg a0) (o + 3) ((wI S (o + 2) (S.1 o 2).toNatClampNeg a0).1 o 2).toNatClampNeg a1) (o + 4) ((wI (wI S (o + 2) (S.1 o 2).toNatClampNeg a0) (o + 3) ((wI S (o + 2) (S.1 o 2).toNatClampNeg a0).1 o 2).toNatClampNeg a1).1 o 2).toNatClampNeg a2).1 o 2).toNatClampNeg 0).1 o 2).toNatClampNeg 0).1 o 4) ||| ((1 : Int32) <<< (((wI (wI (wI (wI (wI S (o + 2) (S.1 o 2).toNatClampNeg a0) (o + 3) ((wI S (o + 2) (S.1 o 2).toNatClampNeg a0).1 o 2).toNatClampNeg a1) (o + 4) ((wI (wI S (o + 2) (S.1 o 2).toNatClampNeg a0) (o + 3) ((wI S (o + 2) (S.1 o 2).toNatClampNeg a0).1 o 2).toNatClampNeg a1).1 o 2).toNatClampNeg a2) (o + 5) ((wI (wI (wI S (o + 2) (S.1 o 2).toNatClampNeg a0) (o + 3) ((wI S (o + 2) (S.1 o 2).toNatClampNeg a0).1 o 2).toNatClampNeg a1) (o + 4) ((wI (wI S (o + 2) (S.1 o 2).toNatClampNeg a0) (o + 3) ((wI S (o + 2) (S.1 o 2).toNatClampNeg a0).1 o 2).toNatClampNeg a1).1 o 2).toNatClampNeg a2).1 o 2).toNatClampNeg 0) (o + 6) ((wI (wI (wI (wI S (o + 2) (S.1 o 2).toNatClampNeg a0) (o + 3) ((wI S (o + 2) (S.1 o 2).toNatClampNeg a0).1 o 2).toNatClampNeg a1) (o + 4) ((wI (wI S (o + 2) (S.1 o 2).toNatClampNeg a0) (o + 3) ((wI S (o + 2) (S.1 o 2).toNatClampNeg a0).1 o 2).toNatClampNeg a1).1 o 2).toNatClampNeg a2) (o + 5) ((wI (wI (wI S (o + 2) (S.1 o 2).toNatClampNeg a0) (o + 3) ((wI S (o + 2) (S.1 o 2).toNatClampNeg a0).1 o 2).toNatClampNeg a1) (o + 4) ((wI (wI S (o + 2) (S.1 o 2).toNatClampNeg a0) (o + 3) ((wI S (o + 2) (S.1 o 2).toNatClampNeg a0).1 o 2).toNatClampNeg a1).1 o 2).toNatClampNeg a2).1 o 2).toNatClampNeg 0).1 o 2).toNatClampNeg 0).1 o 2) &&& 31)))) o 2 (((wI (wI (wI (wI (wI (wI S (o + 2) (S.1 o 2).toNatClampNeg a0) (o + 3) ((wI S (o + 2) (S.1 o 2).toNatClampNeg a0).1 o 2).toNatClampNeg a1) (o + 4) ((wI (wI S (o + 2) (S.1 o 2).toNatClampNeg a0) (o + 3) ((wI S (o + 2) (S.1 o 2).toNatClampNeg a0).1 o 2).toNatClampNeg a1).1 o 2).toNatClampNeg a2) (o + 5) ((wI (wI (wI S (o + 2) (S.1 o 2).toNatClampNeg a0) (o + 3) ((wI S (o + 2) (S.1 o 2).toNatClampNeg a0).1 o 2).toNatClampNeg a1) (o + 4) ((wI (wI S (o + 2) (S.1 o 2).toNatClampNeg a0) (o + 3) ((wI S (o + 2) (S.1 o 2).toNatClampNeg a0).1 o 2).toNatClampNeg a1).1 o 2).toNatClampNeg a2).1 o 2).toNatClampNeg 0) (o + 6) ((wI (wI (wI (wI S (o + 2) (S.1 o 2).toNatClampNeg a0) (o + 3) ((wI S (o + 2) (S.1 o 2).toNatClampNeg a0).1 o 2).toNatClampNeg a1) (o + 4) ((wI (wI S (o + 2) (S.1 o 2).toNatClampNeg a0) (o + 3) ((wI S (o + 2) (S.1 o 2).toNatClampNeg a0).1 o 2).toNatClampNeg a1).1 o 2).toNatClampNeg a2) (o + 5) ((wI (wI (wI S (o + 2) (S.1 o 2).toNatClampNeg a0) (o + 3) ((wI S (o + 2) (S.1 o 2).toNatClampNeg a0).1 o 2).toNatClampNeg a1) (o + 4) ((wI (wI S (o + 2) (S.1 o 2).toNatClampNeg a0) (o + 3) ((wI S (o + 2) (S.1 o 2).toNatClampNeg a0).1 o 2).toNatClampNeg a1).1 o 2).toNatClampNeg a2).1 o 2).toNatClampNeg 0).1 o 2).toNatClampNeg 0) o 4 (((wI (wI (wI (wI (wI S (o + 2) (S.1 o 2).toNatClampNeg a0) (o + 3) ((wI S (o + 2) (S.1 o 2).toNatClampNeg a0).1 o 2).toNatClampNeg a1) (o + 4) ((wI (wI S (o + 2) (S.1 o 2).toNatClampNeg a0) (o + 3) ((wI S (o + 2) (S.1 o 2).toNatClampNeg a0).1 o 2).toNatClampNeg a1).1 o 2).toNatClampNeg a2) (o + 5) ((wI (wI (wI S (o + 2) (S.1 o 2).toNatClampNeg a0) (o + 3) ((wI S (o + 2) (S.1 o 2).toNatClampNeg a0).1 o 2).toNatClampNeg a1) (o + 4) ((wI (wI S (o + 2) (S.1 o 2).toNatClampNeg a0) (o + 3) ((wI S (o + 2) (S.1 o 2).toNatClampNeg a0).1 o 2).toNatClampNeg a1).1 o 2).toNatClampNeg a2).1 o 2).toNatClampNeg 0) (o + 6) ((wI (wI (wI (wI S (o + 2) (S.1 o 2).toNatClampNeg a0) (o + 3) ((wI S (o + 2) (S.1 o 2).toNatClampNeg a0).1 o 2).toNatClampNeg a1) (o + 4) ((wI (wI S (o + 2) (S.1 o 2).toNatClampNeg a0) (o + 3) ((wI S (o + 2) (S.1 o 2).toNatClampNeg a0).1 o 2).toNatClampNeg a1).1 o 2).toNatClampNeg a2) (o + 5) ((wI (wI (wI S (o + 2) (S.1 o 2).toNatClampNeg a0) (o + 3) ((wI S (o + 2) (S.1 o 2).toNatClampNeg a0).1 o 2).toNatClampNeg a1) (o + 4) ((wI (wI S (o + 2) (S.1 o 2).toNatClampNeg a0) (o + 3) ((wI S (o + 2) (S.1 o 2).toNatClampNeg a0).1 o 2).toNatClampNeg a1).1 o 2).toNatClampNeg a2).1 o 2).toNatClampNeg 0).1 o 2).toNatClampNeg 0).1 o 4) ||| ((1 : Int32) <<< (((wI (wI (wI (wI (wI S (o + 2) (S.1 o 2).toNatClampNeg a0) (o + 3) ((wI S (o + 2) (S.1 o 2).toNatClampNeg a0).1 o 2).toNatClampNeg a1) (o + 4) ((wI (wI S (o + 2) (S.1 o 2).toNatClampNeg a0) (o + 3) ((wI S (o + 2) (S.1 o 2).toNatClampNeg a0).1 o 2).toNatClampNeg a1).1 o 2).toNatClampNeg a2) (o + 5) ((wI (wI (wI S (o + 2) (S.1 o 2).toNatClampNeg a0) (o + 3) ((wI S (o + 2) (S.1 o 2).toNatClampNeg a0).1 o 2).toNatClampNeg a1) (o + 4) ((wI (wI S (o + 2) (S.1 o 2).toNatClampNeg a0) (o + 3) ((wI S (o + 2) (S.1 o 2).toNatClampNeg a0).1 o 2).toNatClampNeg a1).1 o 2).toNatClampNeg a2).1 o 2).toNatClampNeg 0) (o + 6) ((wI (wI (wI (wI S (o + 2) (S.1 o 2).toNatClampNeg a0) (o + 3) ((wI S (o + 2) (S.1 o 2).toNatClampNeg a0).1 o 2).toNatClampNeg a1) (o + 4) ((wI (wI S (o + 2) (S.1 o 2).toNatClampNeg a0) (o + 3) ((wI S (o + 2) (S.1 o 2).toNatClampNeg a0).1 o 2).toNatClampNeg a1).1 o 2).toNatClampNeg a2) (o + 5) ((wI (wI (wI S (o + 2) (S.1 o 2).toNatClampNeg a0) (o + 3) ((wI S (o + 2) (S.1 o 2).toNatClampNeg a0).1 o 2).toNatClampNeg a1) (o + 4) ((wI (wI S (o + 2) (S.1 o 2).toNatClampNeg a0) (o + 3) ((wI S (o + 2) (S.1 o 2).toNatClampNeg a0).1 o 2).toNatClampNeg a1).1 o 2).toNatClampNeg a2).1 o 2).toNatClampNeg 0).1 o 2).toNatClampNeg 0).1 o 2) &&& 31)))).1 o 2) + 1), ()) else none) else none) else none) else none) else none))
theorem ret4_addGuest {S : jS} {T : jT} {Y : jS × jT} {o : Nat} {a0 : Int32} {a1 : Int32} {a2 : Int32} {S1 : jS} {x : Unit} (hh : LayHall T o) (h : f4_addGuest S o a0 a1 a2 = some (S1, x)) : Ret M4_addGuest 1 0 0 [rc o, vi a0, vi a1, vi a2] ((S, T), Y) (none) ((S1, T), Y) := by
  refine Ret.of (by decide +kernel) (Nat.le_of_ble_eq_true rfl) ?_
  unfold f4_addGuest at h
  show Go _ _ _ _ _ _ 0 [(0, rc o), (1, vi a0), (2, vi a1), (3, vi a2)] [] ((S, T), Y) _
  refine go_blk rfl [(.aload_n 0, 1, 0, 0, 0, .inl 0), (.getfield 18, 3, 4, 2, 0, .inl 0), (.bipush 7, 2, 0, 0, 0, .inl 7)] 0 6 _ _ _ (by decide +kernel) ?_
  refine And.intro hh.1 ?_
  show Go _ _ _ _ _ _ 6 [(0, rc o), (1, vi a0), (2, vi a1), (3, vi a2)] [vi 7, vi (S.1 o 2)] ((S, T), Y) _
  refine ite_el h (fun q1 h => ?_) (fun q1 h => ?_)
  · refine go_icmp_ge (off := 78) (tgt := 84) (by decide +kernel) (by decide) (fun _ => ?_) (fun z => absurd q1 z)
    obtain ⟨rfl, rfl⟩ := Prod.mk.inj (Option.some.inj h)
    exact go_return (by decide +kernel) rfl ⟨rfl, rfl⟩
  · refine go_icmp_ge (off := 78) (tgt := 84) (by decide +kernel) (by decide) (fun z => absurd z q1) (fun _ => ?_)
    refine gd_el h (fun q2 h => ?_)
    refine go_blk rfl [(.aload_n 0, 1, 0, 0, 0, .inl 0), (.getfield 40, 3, 4, 9, 1, .inl 0), (.aload_n 0, 1, 0, 0, 0, .inl 0), (.getfield 18, 3, 4, 2, 0, .inl 0), (.iload_n 1, 1, 1, 0, 0, .inl 0), (.iastore, 1, 20, 0, 0, .inl 0)] 9 19 _ _ _ (by decide +kernel) ?_
    refine And.intro hh.1 (Exists.intro _ (And.intro (gRc hh.2.2.1.1) ?_))
    refine And.intro hh.1 ?_
    refine And.intro hh.2.2.1.2.1 (Exists.intro _ (And.intro hh.2.2.1.2.2 (And.intro (inb_in q2) ?_)))
    show Go _ _ _ _ _ _ 19 [(0, rc o), (1, vi a0), (2, vi a1), (3, vi a2)] [] ((wI S (o + 2) (S.1 o 2).toNatClampNeg a0, T), Y) _
    refine gd_el h (fun q3 h => ?_)
    refine go_blk rfl [(.aload_n 0, 1, 0, 0, 0, .inl 0), (.getfield 43, 3, 4, 10, 1, .inl 0), (.aload_n 0, 1, 0, 0, 0, .inl 0), (.getfield 18, 3, 4, 2, 0, .inl 0), (.iload_n 2, 1, 2, 0, 0, .inl 0), (.iastore, 1, 20, 0, 0, .inl 0)] 19 29 _ _ _ (by decide +kernel) ?_
    refine And.intro hh.1 (Exists.intro _ (And.intro (gRc hh.2.2.2.1.1) ?_))
    refine And.intro hh.1 ?_
    refine And.intro hh.2.2.2.1.2.1 (Exists.intro _ (And.intro hh.2.2.2.1.2.2 (And.intro (inb_in q3) ?_)))
    show Go _ _ _ _ _ _ 29 [(0, rc o), (1, vi a0), (2, vi a1), (3, vi a2)] [] ((wI (wI S (o + 2) (S.1 o 2).toNatClampNeg a0) (o + 3) ((wI S (o + 2) (S.1 o 2).toNatClampNeg a0).1 o 2).toNatClampNeg a1, T), Y) _
    refine gd_el h (fun q4 h => ?_)
    refine go_blk rfl [(.aload_n 0, 1, 0, 0, 0, .inl 0), (.getfield 46, 3, 4, 11, 1, .inl 0), (.aload_n 0, 1, 0, 0, 0, .inl 0), (.getfield 18, 3, 4, 2, 0, .inl 0), (.iload_n 3, 1, 3, 0, 0, .inl 0), (.iastore, 1, 20, 0, 0, .inl 0)] 29 39 _ _ _ (by decide +kernel) ?_
    refine And.intro hh.1 (Exists.intro _ (And.intro (gRc hh.2.2.2.2.1.1) ?_))
    refine And.intro hh.1 ?_
    refine And.intro hh.2.2.2.2.1.2.1 (Exists.intro _ (And.intro hh.2.2.2.2.1.2.2 (And.intro (inb_in q4) ?_)))
    show Go _ _ _ _ _ _ 39 [(0, rc o), (1, vi a0), (2, vi a1), (3, vi a2)] [] ((wI (wI (wI S (o + 2) (S.1 o 2).toNatClampNeg a0) (o + 3) ((wI S (o + 2) (S.1 o 2).toNatClampNeg a0).1 o 2).toNatClampNeg a1) (o + 4) ((wI (wI S (o + 2) (S.1 o 2).toNatClampNeg a0) (o + 3) ((wI S (o + 2) (S.1 o 2).toNatClampNeg a0).1 o 2).toNatClampNeg a1).1 o 2).toNatClampNeg a2, T), Y) _
    refine gd_el h (fun q5 h => ?_)
    refine go_blk rfl [(.aload_n 0, 1, 0, 0, 0, .inl 0), (.getfield 49, 3, 4, 12, 1, .inl 0), (.aload_n 0, 1, 0, 0, 0, .inl 0), (.getfield 18, 3, 4, 2, 0, .inl 0), (.iconst 0, 1, 0, 0, 0, .inl 0), (.iastore, 1, 20, 0, 0, .inl 0)] 39 49 _ _ _ (by decide +kernel) ?_
    refine And.intro hh.1 (Exists.intro _ (And.intro (gRc hh.2.2.2.2.2.1.1) ?_))
    refine And.intro hh.1 ?_
    refine And.intro hh.2.2.2.2.2.1.2.1 (Exists.intro _ (And.intro hh.2.2.2.2.2.1.2.2 (And.intro (inb_in q5) ?_)))
    show Go _ _ _ _ _ _ 49 [(0, rc o), (1, vi a0), (2, vi a1), (3, vi a2)] [] ((wI (wI (wI (wI S (o + 2) (S.1 o 2).toNatClampNeg a0) (o + 3) ((wI S (o + 2) (S.1 o 2).toNatClampNeg a0).1 o 2).toNatClampNeg a1) (o + 4) ((wI (wI S (o + 2) (S.1 o 2).toNatClampNeg a0) (o + 3) ((wI S (o + 2) (S.1 o 2).toNatClampNeg a0).1 o 2).toNatClampNeg a1).1 o 2).toNatClampNeg a2) (o + 5) ((wI (wI (wI S (o + 2) (S.1 o 2).toNatClampNeg a0) (o + 3) ((wI S (o + 2) (S.1 o 2).toNatClampNeg a0).1 o 2).toNatClampNeg a1) (o + 4) ((wI (wI S (o + 2) (S.1 o 2).toNatClampNeg a0) (o + 3) ((wI S (o + 2) (S.1 o 2).toNatClampNeg a0).1 o 2).toNatClampNeg a1).1 o 2).toNatClampNeg a2).1 o 2).toNatClampNeg 0, T), Y) _
    refine gd_el h (fun q6 h => ?_)
    refine go_blk rfl [(.aload_n 0, 1, 0, 0, 0, .inl 0), (.getfield 52, 3, 4, 13, 1, .inl 0), (.aload_n 0, 1, 0, 0, 0, .inl 0), (.getfield 18, 3, 4, 2, 0, .inl 0), (.iconst 0, 1, 0, 0, 0, .inl 0), (.iastore, 1, 20, 0, 0, .inl 0)] 49 59 _ _ _ (by decide +kernel) ?_
    refine And.intro hh.1 (Exists.intro _ (And.intro (gRc hh.2.2.2.2.2.2.1) ?_))
    refine And.intro hh.1 ?_
    refine And.intro hh.2.2.2.2.2.2.2.1 (Exists.intro _ (And.intro hh.2.2.2.2.2.2.2.2 (And.intro (inb_in q6) ?_)))
    show Go _ _ _ _ _ _ 59 [(0, rc o), (1, vi a0), (2, vi a1), (3, vi a2)] [] ((wI (wI (wI (wI (wI S (o + 2) (S.1 o 2).toNatClampNeg a0) (o + 3) ((wI S (o + 2) (S.1 o 2).toNatClampNeg a0).1 o 2).toNatClampNeg a1) (o + 4) ((wI (wI S (o + 2) (S.1 o 2).toNatClampNeg a0) (o + 3) ((wI S (o + 2) (S.1 o 2).toNatClampNeg a0).1 o 2).toNatClampNeg a1).1 o 2).toNatClampNeg a2) (o + 5) ((wI (wI (wI S (o + 2) (S.1 o 2).toNatClampNeg a0) (o + 3) ((wI S (o + 2) (S.1 o 2).toNatClampNeg a0).1 o 2).toNatClampNeg a1) (o + 4) ((wI (wI S (o + 2) (S.1 o 2).toNatClampNeg a0) (o + 3) ((wI S (o + 2) (S.1 o 2).toNatClampNeg a0).1 o 2).toNatClampNeg a1).1 o 2).toNatClampNeg a2).1 o 2).toNatClampNeg 0) (o + 6) ((wI (wI (wI (wI S (o + 2) (S.1 o 2).toNatClampNeg a0) (o + 3) ((wI S (o + 2) (S.1 o 2).toNatClampNeg a0).1 o 2).toNatClampNeg a1) (o + 4) ((wI (wI S (o + 2) (S.1 o 2).toNatClampNeg a0) (o + 3) ((wI S (o + 2) (S.1 o 2).toNatClampNeg a0).1 o 2).toNatClampNeg a1).1 o 2).toNatClampNeg a2) (o + 5) ((wI (wI (wI S (o + 2) (S.1 o 2).toNatClampNeg a0) (o + 3) ((wI S (o + 2) (S.1 o 2).toNatClampNeg a0).1 o 2).toNatClampNeg a1) (o + 4) ((wI (wI S (o + 2) (S.1 o 2).toNatClampNeg a0) (o + 3) ((wI S (o + 2) (S.1 o 2).toNatClampNeg a0).1 o 2).toNatClampNeg a1).1 o 2).toNatClampNeg a2).1 o 2).toNatClampNeg 0).1 o 2).toNatClampNeg 0, T), Y) _
    refine go_blk rfl [(.aload_n 0, 1, 0, 0, 0, .inl 0), (.dup, 1, 0, 0, 0, .inl 0), (.getfield 24, 3, 4, 4, 0, .inl 0), (.iconst 1, 1, 0, 0, 0, .inl 1), (.aload_n 0, 1, 0, 0, 0, .inl 0), (.getfield 18, 3, 4, 2, 0, .inl 0), (.ishl, 1, 0, 0, 0, .inl 0), (.ior, 1, 0, 0, 0, .inl 0), (.putfield 24, 3, 4, 4, 0, .inl 0)] 59 74 _ _ _ (by decide +kernel) ?_
    refine And.intro hh.1 ?_
    refine And.intro hh.1 ?_
    refine And.intro hh.1 (And.intro trivial ?_)
    show Go _ _ _ _ _ _ 74 [(0, rc o), (1, vi a0), (2, vi a1), (3, vi a2)] [] ((wI (wI (wI (wI (wI (wI S (o + 2) (S.1 o 2).toNatClampNeg a0) (o + 3) ((wI S (o + 2) (S.1 o 2).toNatClampNeg a0).1 o 2).toNatClampNeg a1) (o + 4) ((wI (wI S (o + 2) (S.1 o 2).toNatClampNeg a0) (o + 3) ((wI S (o + 2) (S.1 o 2).toNatClampNeg a0).1 o 2).toNatClampNeg a1).1 o 2).toNatClampNeg a2) (o + 5) ((wI (wI (wI S (o + 2) (S.1 o 2).toNatClampNeg a0) (o + 3) ((wI S (o + 2) (S.1 o 2).toNatClampNeg a0).1 o 2).toNatClampNeg a1) (o + 4) ((wI (wI S (o + 2) (S.1 o 2).toNatClampNeg a0) (o + 3) ((wI S (o + 2) (S.1 o 2).toNatClampNeg a0).1 o 2).toNatClampNeg a1).1 o 2).toNatClampNeg a2).1 o 2).toNatClampNeg 0) (o + 6) ((wI (wI (wI (wI S (o + 2) (S.1 o 2).toNatClampNeg a0) (o + 3) ((wI S (o + 2) (S.1 o 2).toNatClampNeg a0).1 o 2).toNatClampNeg a1) (o + 4) ((wI (wI S (o + 2) (S.1 o 2).toNatClampNeg a0) (o + 3) ((wI S (o + 2) (S.1 o 2).toNatClampNeg a0).1 o 2).toNatClampNeg a1).1 o 2).toNatClampNeg a2) (o + 5) ((wI (wI (wI S (o + 2) (S.1 o 2).toNatClampNeg a0) (o + 3) ((wI S (o + 2) (S.1 o 2).toNatClampNeg a0).1 o 2).toNatClampNeg a1) (o + 4) ((wI (wI S (o + 2) (S.1 o 2).toNatClampNeg a0) (o + 3) ((wI S (o + 2) (S.1 o 2).toNatClampNeg a0).1 o 2).toNatClampNeg a1).1 o 2).toNatClampNeg a2).1 o 2).toNatClampNeg 0).1 o 2).toNatClampNeg 0) o 4 (((wI (wI (wI (wI (wI S (o + 2) (S.1 o 2).toNatClampNeg a0) (o + 3) ((wI S (o + 2) (S.1 o 2).toNatClampNeg a0).1 o 2).toNatClampNeg a1) (o + 4) ((wI (wI S (o + 2) (S.1 o 2).toNatClampNeg a0) (o + 3) ((wI S (o + 2) (S.1 o 2).toNatClampNeg a0).1 o 2).toNatClampNeg a1).1 o 2).toNatClampNeg a2) (o + 5) ((wI (wI (wI S (o + 2) (S.1 o 2).toNatClampNeg a0) (o + 3) ((wI S (o + 2) (S.1 o 2).toNatClampNeg a0).1 o 2).toNatClampNeg a1) (o + 4) ((wI (wI S (o + 2) (S.1 o 2).toNatClampNeg a0) (o + 3) ((wI S (o + 2) (S.1 o 2).toNatClampNeg a0).1 o 2).toNatClampNeg a1).1 o 2).toNatClampNeg a2).1 o 2).toNatClampNeg 0) (o + 6) ((wI (wI (wI (wI S (o + 2) (S.1 o 2).toNatClampNeg a0) (o + 3) ((wI S (o + 2) (S.1 o 2).toNatClampNeg a0).1 o 2).toNatClampNeg a1) (o + 4) ((wI (wI S (o + 2) (S.1 o 2).toNatClampNeg a0) (o + 3) ((wI S (o + 2) (S.1 o 2).toNatClampNeg a0).1 o 2).toNatClampNeg a1).1 o 2).toNatClampNeg a2) (o + 5) ((wI (wI (wI S (o + 2) (S.1 o 2).toNatClampNeg a0) (o + 3) ((wI S (o + 2) (S.1 o 2).toNatClampNeg a0).1 o 2).toNatClampNeg a1) (o + 4) ((wI (wI S (o + 2) (S.1 o 2).toNatClampNeg a0) (o + 3) ((wI S (o + 2) (S.1 o 2).toNatClampNeg a0).1 o 2).toNatClampNeg a1).1 o 2).toNatClampNeg a2).1 o 2).toNatClampNeg 0).1 o 2).toNatClampNeg 0).1 o 4) ||| ((1 : Int32) <<< (((wI (wI (wI (wI (wI S (o + 2) (S.1 o 2).toNatClampNeg a0) (o + 3) ((wI S (o + 2) (S.1 o 2).toNatClampNeg a0).1 o 2).toNatClampNeg a1) (o + 4) ((wI (wI S (o + 2) (S.1 o 2).toNatClampNeg a0) (o + 3) ((wI S (o + 2) (S.1 o 2).toNatClampNeg a0).1 o 2).toNatClampNeg a1).1 o 2).toNatClampNeg a2) (o + 5) ((wI (wI (wI S (o + 2) (S.1 o 2).toNatClampNeg a0) (o + 3) ((wI S (o + 2) (S.1 o 2).toNatClampNeg a0).1 o 2).toNatClampNeg a1) (o + 4) ((wI (wI S (o + 2) (S.1 o 2).toNatClampNeg a0) (o + 3) ((wI S (o + 2) (S.1 o 2).toNatClampNeg a0).1 o 2).toNatClampNeg a1).1 o 2).toNatClampNeg a2).1 o 2).toNatClampNeg 0) (o + 6) ((wI (wI (wI (wI S (o + 2) (S.1 o 2).toNatClampNeg a0) (o + 3) ((wI S (o + 2) (S.1 o 2).toNatClampNeg a0).1 o 2).toNatClampNeg a1) (o + 4) ((wI (wI S (o + 2) (S.1 o 2).toNatClampNeg a0) (o + 3) ((wI S (o + 2) (S.1 o 2).toNatClampNeg a0).1 o 2).toNatClampNeg a1).1 o 2).toNatClampNeg a2) (o + 5) ((wI (wI (wI S (o + 2) (S.1 o 2).toNatClampNeg a0) (o + 3) ((wI S (o + 2) (S.1 o 2).toNatClampNeg a0).1 o 2).toNatClampNeg a1) (o + 4) ((wI (wI S (o + 2) (S.1 o 2).toNatClampNeg a0) (o + 3) ((wI S (o + 2) (S.1 o 2).toNatClampNeg a0).1 o 2).toNatClampNeg a1).1 o 2).toNatClampNeg a2).1 o 2).toNatClampNeg 0).1 o 2).toNatClampNeg 0).1 o 2) &&& 31))), T), Y) _
    refine go_blk rfl [(.aload_n 0, 1, 0, 0, 0, .inl 0), (.dup, 1, 0, 0, 0, .inl 0), (.getfield 18, 3, 4, 2, 0, .inl 0), (.iconst 1, 1, 0, 0, 0, .inl 1), (.iadd, 1, 0, 0, 0, .inl 0), (.putfield 18, 3, 4, 2, 0, .inl 0)] 74 84 _ _ _ (by decide +kernel) ?_
    refine And.intro hh.1 ?_
    refine And.intro hh.1 (And.intro trivial ?_)
    show Go _ _ _ _ _ _ 84 [(0, rc o), (1, vi a0), (2, vi a1), (3, vi a2)] [] ((wI (wI (wI (wI (wI (wI (wI S (o + 2) (S.1 o 2).toNatClampNeg a0) (o + 3) ((wI S (o + 2) (S.1 o 2).toNatClampNeg a0).1 o 2).toNatClampNeg a1) (o + 4) ((wI (wI S (o + 2) (S.1 o 2).toNatClampNeg a0) (o + 3) ((wI S (o + 2) (S.1 o 2).toNatClampNeg a0).1 o 2).toNatClampNeg a1).1 o 2).toNatClampNeg a2) (o + 5) ((wI (wI (wI S (o + 2) (S.1 o 2).toNatClampNeg a0) (o + 3) ((wI S (o + 2) (S.1 o 2).toNatClampNeg a0).1 o 2).toNatClampNeg a1) (o + 4) ((wI (wI S (o + 2) (S.1 o 2).toNatClampNeg a0) (o + 3) ((wI S (o + 2) (S.1 o 2).toNatClampNeg a0).1 o 2).toNatClampNeg a1).1 o 2).toNatClampNeg a2).1 o 2).toNatClampNeg 0) (o + 6) ((wI (wI (wI (wI S (o + 2) (S.1 o 2).toNatClampNeg a0) (o + 3) ((wI S (o + 2) (S.1 o 2).toNatClampNeg a0).1 o 2).toNatClampNeg a1) (o + 4) ((wI (wI S (o + 2) (S.1 o 2).toNatClampNeg a0) (o + 3) ((wI S (o + 2) (S.1 o 2).toNatClampNeg a0).1 o 2).toNatClampNeg a1).1 o 2).toNatClampNeg a2) (o + 5) ((wI (wI (wI S (o + 2) (S.1 o 2).toNatClampNeg a0) (o + 3) ((wI S (o + 2) (S.1 o 2).toNatClampNeg a0).1 o 2).toNatClampNeg a1) (o + 4) ((wI (wI S (o + 2) (S.1 o 2).toNatClampNeg a0) (o + 3) ((wI S (o + 2) (S.1 o 2).toNatClampNeg a0).1 o 2).toNatClampNeg a1).1 o 2).toNatClampNeg a2).1 o 2).toNatClampNeg 0).1 o 2).toNatClampNeg 0) o 4 (((wI (wI (wI (wI (wI S (o + 2) (S.1 o 2).toNatClampNeg a0) (o + 3) ((wI S (o + 2) (S.1 o 2).toNatClampNeg a0).1 o 2).toNatClampNeg a1) (o + 4) ((wI (wI S (o + 2) (S.1 o 2).toNatClampNeg a0) (o + 3) ((wI S (o + 2) (S.1 o 2).toNatClampNeg a0).1 o 2).toNatClampNeg a1).1 o 2).toNatClampNeg a2) (o + 5) ((wI (wI (wI S (o + 2) (S.1 o 2).toNatClampNeg a0) (o + 3) ((wI S (o + 2) (S.1 o 2).toNatClampNeg a0).1 o 2).toNatClampNeg a1) (o + 4) ((wI (wI S (o + 2) (S.1 o 2).toNatClampNeg a0) (o + 3) ((wI S (o + 2) (S.1 o 2).toNatClampNeg a0).1 o 2).toNatClampNeg a1).1 o 2).toNatClampNeg a2).1 o 2).toNatClampNeg 0) (o + 6) ((wI (wI (wI (wI S (o + 2) (S.1 o 2).toNatClampNeg a0) (o + 3) ((wI S (o + 2) (S.1 o 2).toNatClampNeg a0).1 o 2).toNatClampNeg a1) (o + 4) ((wI (wI S (o + 2) (S.1 o 2).toNatClampNeg a0) (o + 3) ((wI S (o + 2) (S.1 o 2).toNatClampNeg a0).1 o 2).toNatClampNeg a1).1 o 2).toNatClampNeg a2) (o + 5) ((wI (wI (wI S (o + 2) (S.1 o 2).toNatClampNeg a0) (o + 3) ((wI S (o + 2) (S.1 o 2).toNatClampNeg a0).1 o 2).toNatClampNeg a1) (o + 4) ((wI (wI S (o + 2) (S.1 o 2).toNatClampNeg a0) (o + 3) ((wI S (o + 2) (S.1 o 2).toNatClampNeg a0).1 o 2).toNatClampNeg a1).1 o 2).toNatClampNeg a2).1 o 2).toNatClampNeg 0).1 o 2).toNatClampNeg 0).1 o 4) ||| ((1 : Int32) <<< (((wI (wI (wI (wI (wI S (o + 2) (S.1 o 2).toNatClampNeg a0) (o + 3) ((wI S (o + 2) (S.1 o 2).toNatClampNeg a0).1 o 2).toNatClampNeg a1) (o + 4) ((wI (wI S (o + 2) (S.1 o 2).toNatClampNeg a0) (o + 3) ((wI S (o + 2) (S.1 o 2).toNatClampNeg a0).1 o 2).toNatClampNeg a1).1 o 2).toNatClampNeg a2) (o + 5) ((wI (wI (wI S (o + 2) (S.1 o 2).toNatClampNeg a0) (o + 3) ((wI S (o + 2) (S.1 o 2).toNatClampNeg a0).1 o 2).toNatClampNeg a1) (o + 4) ((wI (wI S (o + 2) (S.1 o 2).toNatClampNeg a0) (o + 3) ((wI S (o + 2) (S.1 o 2).toNatClampNeg a0).1 o 2).toNatClampNeg a1).1 o 2).toNatClampNeg a2).1 o 2).toNatClampNeg 0) (o + 6) ((wI (wI (wI (wI S (o + 2) (S.1 o 2).toNatClampNeg a0) (o + 3) ((wI S (o + 2) (S.1 o 2).toNatClampNeg a0).1 o 2).toNatClampNeg a1) (o + 4) ((wI (wI S (o + 2) (S.1 o 2).toNatClampNeg a0) (o + 3) ((wI S (o + 2) (S.1 o 2).toNatClampNeg a0).1 o 2).toNatClampNeg a1).1 o 2).toNatClampNeg a2) (o + 5) ((wI (wI (wI S (o + 2) (S.1 o 2).toNatClampNeg a0) (o + 3) ((wI S (o + 2) (S.1 o 2).toNatClampNeg a0).1 o 2).toNatClampNeg a1) (o + 4) ((wI (wI S (o + 2) (S.1 o 2).toNatClampNeg a0) (o + 3) ((wI S (o + 2) (S.1 o 2).toNatClampNeg a0).1 o 2).toNatClampNeg a1).1 o 2).toNatClampNeg a2).1 o 2).toNatClampNeg 0).1 o 2).toNatClampNeg 0).1 o 2) &&& 31)))) o 2 (((wI (wI (wI (wI (wI (wI S (o + 2) (S.1 o 2).toNatClampNeg a0) (o + 3) ((wI S (o + 2) (S.1 o 2).toNatClampNeg a0).1 o 2).toNatClampNeg a1) (o + 4) ((wI (wI S (o + 2) (S.1 o 2).toNatClampNeg a0) (o + 3) ((wI S (o + 2) (S.1 o 2).toNatClampNeg a0).1 o 2).toNatClampNeg a1).1 o 2).toNatClampNeg a2) (o + 5) ((wI (wI (wI S (o + 2) (S.1 o 2).toNatClampNeg a0) (o + 3) ((wI S (o + 2) (S.1 o 2).toNatClampNeg a0).1 o 2).toNatClampNeg a1) (o + 4) ((wI (wI S (o + 2) (S.1 o 2).toNatClampNeg a0) (o + 3) ((wI S (o + 2) (S.1 o 2).toNatClampNeg a0).1 o 2).toNatClampNeg a1).1 o 2).toNatClampNeg a2).1 o 2).toNatClampNeg 0) (o + 6) ((wI (wI (wI (wI S (o + 2) (S.1 o 2).toNatClampNeg a0) (o + 3) ((wI S (o + 2) (S.1 o 2).toNatClampNeg a0).1 o 2).toNatClampNeg a1) (o + 4) ((wI (wI S (o + 2) (S.1 o 2).toNatClampNeg a0) (o + 3) ((wI S (o + 2) (S.1 o 2).toNatClampNeg a0).1 o 2).toNatClampNeg a1).1 o 2).toNatClampNeg a2) (o + 5) ((wI (wI (wI S (o + 2) (S.1 o 2).toNatClampNeg a0) (o + 3) ((wI S (o + 2) (S.1 o 2).toNatClampNeg a0).1 o 2).toNatClampNeg a1) (o + 4) ((wI (wI S (o + 2) (S.1 o 2).toNatClampNeg a0) (o + 3) ((wI S (o + 2) (S.1 o 2).toNatClampNeg a0).1 o 2).toNatClampNeg a1).1 o 2).toNatClampNeg a2).1 o 2).toNatClampNeg 0).1 o 2).toNatClampNeg 0) o 4 (((wI (wI (wI (wI (wI S (o + 2) (S.1 o 2).toNatClampNeg a0) (o + 3) ((wI S (o + 2) (S.1 o 2).toNatClampNeg a0).1 o 2).toNatClampNeg a1) (o + 4) ((wI (wI S (o + 2) (S.1 o 2).toNatClampNeg a0) (o + 3) ((wI S (o + 2) (S.1 o 2).toNatClampNeg a0).1 o 2).toNatClampNeg a1).1 o 2).toNatClampNeg a2) (o + 5) ((wI (wI (wI S (o + 2) (S.1 o 2).toNatClampNeg a0) (o + 3) ((wI S (o + 2) (S.1 o 2).toNatClampNeg a0).1 o 2).toNatClampNeg a1) (o + 4) ((wI (wI S (o + 2) (S.1 o 2).toNatClampNeg a0) (o + 3) ((wI S (o + 2) (S.1 o 2).toNatClampNeg a0).1 o 2).toNatClampNeg a1).1 o 2).toNatClampNeg a2).1 o 2).toNatClampNeg 0) (o + 6) ((wI (wI (wI (wI S (o + 2) (S.1 o 2).toNatClampNeg a0) (o + 3) ((wI S (o + 2) (S.1 o 2).toNatClampNeg a0).1 o 2).toNatClampNeg a1) (o + 4) ((wI (wI S (o + 2) (S.1 o 2).toNatClampNeg a0) (o + 3) ((wI S (o + 2) (S.1 o 2).toNatClampNeg a0).1 o 2).toNatClampNeg a1).1 o 2).toNatClampNeg a2) (o + 5) ((wI (wI (wI S (o + 2) (S.1 o 2).toNatClampNeg a0) (o + 3) ((wI S (o + 2) (S.1 o 2).toNatClampNeg a0).1 o 2).toNatClampNeg a1) (o + 4) ((wI (wI S (o + 2) (S.1 o 2).toNatClampNeg a0) (o + 3) ((wI S (o + 2) (S.1 o 2).toNatClampNeg a0).1 o 2).toNatClampNeg a1).1 o 2).toNatClampNeg a2).1 o 2).toNatClampNeg 0).1 o 2).toNatClampNeg 0).1 o 4) ||| ((1 : Int32) <<< (((wI (wI (wI (wI (wI S (o + 2) (S.1 o 2).toNatClampNeg a0) (o + 3) ((wI S (o + 2) (S.1 o 2).toNatClampNeg a0).1 o 2).toNatClampNeg a1) (o + 4) ((wI (wI S (o + 2) (S.1 o 2).toNatClampNeg a0) (o + 3) ((wI S (o + 2) (S.1 o 2).toNatClampNeg a0).1 o 2).toNatClampNeg a1).1 o 2).toNatClampNeg a2) (o + 5) ((wI (wI (wI S (o + 2) (S.1 o 2).toNatClampNeg a0) (o + 3) ((wI S (o + 2) (S.1 o 2).toNatClampNeg a0).1 o 2).toNatClampNeg a1) (o + 4) ((wI (wI S (o + 2) (S.1 o 2).toNatClampNeg a0) (o + 3) ((wI S (o + 2) (S.1 o 2).toNatClampNeg a0).1 o 2).toNatClampNeg a1).1 o 2).toNatClampNeg a2).1 o 2).toNatClampNeg 0) (o + 6) ((wI (wI (wI (wI S (o + 2) (S.1 o 2).toNatClampNeg a0) (o + 3) ((wI S (o + 2) (S.1 o 2).toNatClampNeg a0).1 o 2).toNatClampNeg a1) (o + 4) ((wI (wI S (o + 2) (S.1 o 2).toNatClampNeg a0) (o + 3) ((wI S (o + 2) (S.1 o 2).toNatClampNeg a0).1 o 2).toNatClampNeg a1).1 o 2).toNatClampNeg a2) (o + 5) ((wI (wI (wI S (o + 2) (S.1 o 2).toNatClampNeg a0) (o + 3) ((wI S (o + 2) (S.1 o 2).toNatClampNeg a0).1 o 2).toNatClampNeg a1) (o + 4) ((wI (wI S (o + 2) (S.1 o 2).toNatClampNeg a0) (o + 3) ((wI S (o + 2) (S.1 o 2).toNatClampNeg a0).1 o 2).toNatClampNeg a1).1 o 2).toNatClampNeg a2).1 o 2).toNatClampNeg 0).1 o 2).toNatClampNeg 0).1 o 2) &&& 31)))).1 o 2) + 1), T), Y) _
    obtain ⟨rfl, rfl⟩ := Prod.mk.inj (Option.some.inj h)
    exact go_return (by decide +kernel) rfl ⟨rfl, rfl⟩
def f4_hasChairAt_L1 (S : jS) (o : Nat) (l1 : Int32) : Nat → Int32 → Option Int32
  | 0, _ => none
  | n + 1, l2 => (if (S.1 o 1) ≤ l2 then some 0 else (if inb l2 6 then (if (S.1 (o + 1) l2.toNatClampNeg) = l1 then some 1 else f4_hasChairAt_L1 S o l1 n (l2 + 1)) else none))
def f4_hasChairAt (S : jS) (o : Nat) (a0 : Int32) : Option Int32 := f4_hasChairAt_L1 S o a0 jF 0
theorem f4_hasChairAt_L1_ok {T : jT} {Y : jS × jT} {S : jS} {o : Nat} {l1 : Int32} {x : Int32} (hh : LayHall T o) : ∀ (n : Nat) (l2 : Int32), f4_hasChairAt_L1 S o l1 n l2 = some x → Go M4_hasChairAt 1 0 0 0 0 2 [(0, rc o), (1, vi l1), (2, vi l2)] [] ((S, T), Y) (eqQ (some (vi x)) ((S, T), Y)) := by
  intro n
  induction n with
  | zero => intro l2 h; exact absurd h (by intro z; cases z)
  | succ n ih =>
    intro l2 h
    rw [f4_hasChairAt_L1] at h
    refine go_blk rfl [(.iload_n 2, 1, 2, 0, 0, .inl 0), (.aload_n 0, 1, 0, 0, 0, .inl 0), (.getfield 15, 3, 4, 1, 0, .inl 0)] 2 7 _ _ _ (by decide +kernel) ?_
    refine And.intro hh.1 ?_
    show Go _ _ _ _ _ _ 7 [(0, rc o), (1, vi l1), (2, vi l2)] [vi (S.1 o 1), vi l2] ((S, T), Y) _
    refine ite_el h (fun q1 h => ?_) (fun q1 h => ?_)
    · refine go_icmp_ge (off := 21) (tgt := 28) (by decide +kernel) (by decide) (fun _ => ?_) (fun z => absurd q1 z)
      refine go_blk rfl [(.iconst 0, 1, 0, 0, 0, .inl 0)] 28 29 _ _ _ (by decide +kernel) ?_
      show Go _ _ _ _ _ _ 29 [(0, rc o), (1, vi l1), (2, vi l2)] [vi 0] ((S, T), Y) _
      obtain rfl := Option.some.inj h
      exact go_ireturn (by decide +kernel) rfl rfl ⟨rfl, rfl⟩
    · refine go_icmp_ge (off := 21) (tgt := 28) (by decide +kernel) (by decide) (fun z => absurd z q1) (fun _ => ?_)
      refine gd_el h (fun q2 h => ?_)
      refine go_blk rfl [(.aload_n 0, 1, 0, 0, 0, .inl 0), (.getfield 36, 3, 4, 8, 1, .inl 0), (.iload_n 2, 1, 2, 0, 0, .inl 0), (.iaload, 1, 20, 0, 0, .inl 0), (.iload_n 1, 1, 1, 0, 0, .inl 0)] 10 17 _ _ _ (by decide +kernel) ?_
      refine And.intro hh.1 (Exists.intro _ (And.intro (gRc hh.2.1.1) ?_))
      refine And.intro hh.2.1.2.1 (Exists.intro _ (And.intro hh.2.1.2.2 (And.intro (inb_in q2) ?_)))
      show Go _ _ _ _ _ _ 17 [(0, rc o), (1, vi l1), (2, vi l2)] [vi l1, vi (S.1 (o + 1) l2.toNatClampNeg)] ((S, T), Y) _
      refine ite_el h (fun q3 h => ?_) (fun q3 h => ?_)
      · refine go_icmp_ne (off := 5) (tgt := 22) (by decide +kernel) (by decide) (fun z => absurd q3 z) (fun _ => ?_)
        refine go_blk rfl [(.iconst 1, 1, 0, 0, 0, .inl 1)] 20 21 _ _ _ (by decide +kernel) ?_
        show Go _ _ _ _ _ _ 21 [(0, rc o), (1, vi l1), (2, vi l2)] [vi 1] ((S, T), Y) _
        obtain rfl := Option.some.inj h
        exact go_ireturn (by decide +kernel) rfl rfl ⟨rfl, rfl⟩
      · refine go_icmp_ne (off := 5) (tgt := 22) (by decide +kernel) (by decide) (fun _ => ?_) (fun z => absurd z q3)
        refine go_blk rfl [(.iinc 2 1, 3, 2, 0, 0, .inl 1)] 22 25 _ _ _ (by decide +kernel) ?_
        show Go _ _ _ _ _ _ 25 [(2, vi (l2 + 1)), (0, rc o), (1, vi l1)] [] ((S, T), Y) _
        refine go_goto (off := (-23)) (tgt := 2) (by decide +kernel) (by decide) ?_
        refine go_pick [1, 2, 0] rfl ?_
        exact ih _ h
theorem ret4_hasChairAt {S : jS} {T : jT} {Y : jS × jT} {o : Nat} {a0 : Int32} {x : Int32} (hh : LayHall T o) (h : f4_hasChairAt S o a0 = some x) : Ret M4_hasChairAt 1 0 0 [rc o, vi a0] ((S, T), Y) (some (vi x)) ((S, T), Y) := by
  refine Ret.of (by decide +kernel) (Nat.le_of_ble_eq_true rfl) ?_
  unfold f4_hasChairAt at h
  show Go _ _ _ _ _ _ 0 [(0, rc o), (1, vi a0)] [] ((S, T), Y) _
  refine go_blk rfl [(.iconst 0, 1, 0, 0, 0, .inl 0), (.istore_n 2, 1, 2, 0, 0, .inl 0)] 0 2 _ _ _ (by decide +kernel) ?_
  show Go _ _ _ _ _ _ 2 [(2, vi 0), (0, rc o), (1, vi a0)] [] ((S, T), Y) _
  refine go_pick [1, 2, 0] rfl ?_
  exact f4_hasChairAt_L1_ok hh _ _ h
def f4_isTold (S : jS) (o : Nat) : Option Int32 := (if (S.1 o 0) ≤ 0 then some 0 else some 1)
theorem ret4_isTold {S : jS} {T : jT} {Y : jS × jT} {o : Nat} {x : Int32} (hh : LayHall T o) (h : f4_isTold S o = some x) : Ret M4_isTold 1 0 0 [rc o] ((S, T), Y) (some (vi x)) ((S, T), Y) := by
  refine Ret.of (by decide +kernel) (Nat.le_of_ble_eq_true rfl) ?_
  unfold f4_isTold at h
  show Go _ _ _ _ _ _ 0 [(0, rc o)] [] ((S, T), Y) _
  refine go_blk rfl [(.aload_n 0, 1, 0, 0, 0, .inl 0), (.getfield 9, 3, 4, 0, 0, .inl 0)] 0 4 _ _ _ (by decide +kernel) ?_
  refine And.intro hh.1 ?_
  show Go _ _ _ _ _ _ 4 [(0, rc o)] [vi (S.1 o 0)] ((S, T), Y) _
  refine ite_el h (fun q1 h => ?_) (fun q1 h => ?_)
  · refine go_if_le (off := 7) (tgt := 11) (by decide +kernel) (by decide) (fun _ => ?_) (fun z => absurd q1 z)
    refine go_blk rfl [(.iconst 0, 1, 0, 0, 0, .inl 0)] 11 12 _ _ _ (by decide +kernel) ?_
    show Go _ _ _ _ _ _ 12 [(0, rc o)] [vi 0] ((S, T), Y) _
    obtain rfl := Option.some.inj h
    exact go_ireturn (by decide +kernel) rfl rfl ⟨rfl, rfl⟩
  · refine go_if_le (off := 7) (tgt := 11) (by decide +kernel) (by decide) (fun z => absurd z q1) (fun _ => ?_)
    refine go_blk rfl [(.iconst 1, 1, 0, 0, 0, .inl 1)] 7 8 _ _ _ (by decide +kernel) ?_
    show Go _ _ _ _ _ _ 8 [(0, rc o)] [vi 1] ((S, T), Y) _
    refine go_goto (off := 4) (tgt := 12) (by decide +kernel) (by decide) ?_
    obtain rfl := Option.some.inj h
    exact go_ireturn (by decide +kernel) rfl rfl ⟨rfl, rfl⟩
def f4_areTwoIn (S : jS) (o : Nat) (a0 : Int32) (a1 : Int32) : Option Int32 := (if a0 = a1 then some 0 else Option.bind (f4_isIn S o a0) (fun r1 => (if r1 = 0 then some 0 else Option.bind (f4_isIn S o a1) (fun r2 => (if r2 = 0 then some 0 else some 1)))))
theorem ret4_areTwoIn {S : jS} {T : jT} {Y : jS × jT} {o : Nat} {a0 : Int32} {a1 : Int32} {x : Int32} (hh : LayHall T o) (h : f4_areTwoIn S o a0 a1 = some x) : Ret M4_areTwoIn 3 0 0 [rc o, vi a0, vi a1] ((S, T), Y) (some (vi x)) ((S, T), Y) := by
  refine Ret.of (by decide +kernel) (Nat.le_of_ble_eq_true rfl) ?_
  unfold f4_areTwoIn at h
  show Go _ _ _ _ _ _ 0 [(0, rc o), (1, vi a0), (2, vi a1)] [] ((S, T), Y) _
  refine go_blk rfl [(.iload_n 1, 1, 1, 0, 0, .inl 0), (.iload_n 2, 1, 2, 0, 0, .inl 0)] 0 2 _ _ _ (by decide +kernel) ?_
  show Go _ _ _ _ _ _ 2 [(0, rc o), (1, vi a0), (2, vi a1)] [vi a1, vi a0] ((S, T), Y) _
  refine ite_el h (fun q1 h => ?_) (fun q1 h => ?_)
  · refine go_icmp_eq (off := 23) (tgt := 25) (by decide +kernel) (by decide) (fun _ => ?_) (fun z => absurd q1 z)
    refine go_blk rfl [(.iconst 0, 1, 0, 0, 0, .inl 0)] 25 26 _ _ _ (by decide +kernel) ?_
    show Go _ _ _ _ _ _ 26 [(0, rc o), (1, vi a0), (2, vi a1)] [vi 0] ((S, T), Y) _
    obtain rfl := Option.some.inj h
    exact go_ireturn (by decide +kernel) rfl rfl ⟨rfl, rfl⟩
  · refine go_icmp_eq (off := 23) (tgt := 25) (by decide +kernel) (by decide) (fun z => absurd z q1) (fun _ => ?_)
    refine go_blk rfl [(.aload_n 0, 1, 0, 0, 0, .inl 0), (.iload_n 1, 1, 1, 0, 0, .inl 0)] 5 7 _ _ _ (by decide +kernel) ?_
    show Go _ _ _ _ _ _ 7 [(0, rc o), (1, vi a0), (2, vi a1)] [vi a0, rc o] ((S, T), Y) _
    obtain ⟨r1, hr1, h⟩ := bind_el h
    refine go_callV (idx := 74) (z := 0) (M' := M4_isIn) (n := 1) (A := [vi a0]) (v' := some (vi r1)) (μ' := ((S, T), Y)) (d' := 2) (mc' := 0) (ms' := 0) (kc' := 0) (ks' := 0) (ci := 4) (x := .inl o) (by decide +kernel) ml_4_74 rfl wv4_isIn rfl (by decide) rfl hh.1 (ret4_isIn hh hr1) (by decide) rfl rfl (Nat.le_of_ble_eq_true rfl) rfl (jag rfl rfl) ?_
    show Go _ _ _ _ _ _ 10 [(0, rc o), (1, vi a0), (2, vi a1)] [vi r1] ((S, T), Y) _
    refine ite_el h (fun q2 h => ?_) (fun q2 h => ?_)
    · refine go_if_eq (off := 15) (tgt := 25) (by decide +kernel) (by decide) (fun _ => ?_) (fun z => absurd q2 z)
      refine go_blk rfl [(.iconst 0, 1, 0, 0, 0, .inl 0)] 25 26 _ _ _ (by decide +kernel) ?_
      show Go _ _ _ _ _ _ 26 [(0, rc o), (1, vi a0), (2, vi a1)] [vi 0] ((S, T), Y) _
      obtain rfl := Option.some.inj h
      exact go_ireturn (by decide +kernel) rfl rfl ⟨rfl, rfl⟩
    · refine go_if_eq (off := 15) (tgt := 25) (by decide +kernel) (by decide) (fun z => absurd z q2) (fun _ => ?_)
      refine go_blk rfl [(.aload_n 0, 1, 0, 0, 0, .inl 0), (.iload_n 2, 1, 2, 0, 0, .inl 0)] 13 15 _ _ _ (by decide +kernel) ?_
      show Go _ _ _ _ _ _ 15 [(0, rc o), (1, vi a0), (2, vi a1)] [vi a1, rc o] ((S, T), Y) _
      obtain ⟨r2, hr2, h⟩ := bind_el h
      refine go_callV (idx := 74) (z := 0) (M' := M4_isIn) (n := 1) (A := [vi a1]) (v' := some (vi r2)) (μ' := ((S, T), Y)) (d' := 2) (mc' := 0) (ms' := 0) (kc' := 0) (ks' := 0) (ci := 4) (x := .inl o) (by decide +kernel) ml_4_74 rfl wv4_isIn rfl (by decide) rfl hh.1 (ret4_isIn hh hr2) (by decide) rfl rfl (Nat.le_of_ble_eq_true rfl) rfl (jag rfl rfl) ?_
      show Go _ _ _ _ _ _ 18 [(0, rc o), (1, vi a0), (2, vi a1)] [vi r2] ((S, T), Y) _
      refine ite_el h (fun q3 h => ?_) (fun q3 h => ?_)
      · refine go_if_eq (off := 7) (tgt := 25) (by decide +kernel) (by decide) (fun _ => ?_) (fun z => absurd q3 z)
        refine go_blk rfl [(.iconst 0, 1, 0, 0, 0, .inl 0)] 25 26 _ _ _ (by decide +kernel) ?_
        show Go _ _ _ _ _ _ 26 [(0, rc o), (1, vi a0), (2, vi a1)] [vi 0] ((S, T), Y) _
        obtain rfl := Option.some.inj h
        exact go_ireturn (by decide +kernel) rfl rfl ⟨rfl, rfl⟩
      · refine go_if_eq (off := 7) (tgt := 25) (by decide +kernel) (by decide) (fun z => absurd z q3) (fun _ => ?_)
        refine go_blk rfl [(.iconst 1, 1, 0, 0, 0, .inl 1)] 21 22 _ _ _ (by decide +kernel) ?_
        show Go _ _ _ _ _ _ 22 [(0, rc o), (1, vi a0), (2, vi a1)] [vi 1] ((S, T), Y) _
        refine go_goto (off := 4) (tgt := 26) (by decide +kernel) (by decide) ?_
        obtain rfl := Option.some.inj h
        exact go_ireturn (by decide +kernel) rfl rfl ⟨rfl, rfl⟩
def f4_beatsTillMeeting_L1 (S : jS) (o : Nat) (l1 : Int32) (l2 : Int32) : Nat → Int32 → Option Int32
  | 0, _ => none
  | n + 1, l3 => (if 60 < l3 then some ((-2)) else (if (S.1 o 0) ≤ 0 then some ((-2)) else (if inb l1 7 then (if ¬ (S.1 o 0) = 0 then (if inb l2 7 then (if (irm ((S.1 (o + 2) l1.toNatClampNeg) + ((S.1 (o + 3) l1.toNatClampNeg) * l3)) (S.1 o 0)) = (irm ((S.1 (o + 2) l2.toNatClampNeg) + ((S.1 (o + 3) l2.toNatClampNeg) * l3)) (S.1 o 0)) then some l3 else f4_beatsTillMeeting_L1 S o l1 l2 n (l3 + 1)) else none) else none) else none)))
def f4_beatsTillMeeting (S : jS) (o : Nat) (a0 : Int32) (a1 : Int32) : Option Int32 := f4_beatsTillMeeting_L1 S o a0 a1 jF 0
theorem f4_beatsTillMeeting_L1_ok {T : jT} {Y : jS × jT} {S : jS} {o : Nat} {l1 : Int32} {l2 : Int32} {x : Int32} (hh : LayHall T o) : ∀ (n : Nat) (l3 : Int32), f4_beatsTillMeeting_L1 S o l1 l2 n l3 = some x → Go M4_beatsTillMeeting 1 0 0 0 0 2 [(0, rc o), (1, vi l1), (2, vi l2), (3, vi l3)] [] ((S, T), Y) (eqQ (some (vi x)) ((S, T), Y)) := by
  intro n
  induction n with
  | zero => intro l3 h; exact absurd h (by intro z; cases z)
  | succ n ih =>
    intro l3 h
    rw [f4_beatsTillMeeting_L1] at h
    refine go_blk rfl [(.iload_n 3, 1, 3, 0, 0, .inl 0), (.bipush 60, 2, 0, 0, 0, .inl 60)] 2 5 _ _ _ (by decide +kernel) ?_
    show Go _ _ _ _ _ _ 5 [(0, rc o), (1, vi l1), (2, vi l2), (3, vi l3)] [vi 60, vi l3] ((S, T), Y) _
    refine ite_el h (fun q1 h => ?_) (fun q1 h => ?_)
    · refine go_icmp_gt (off := 61) (tgt := 66) (by decide +kernel) (by decide) (fun _ => ?_) (fun z => absurd q1 z)
      refine go_blk rfl [(.bipush (-2), 2, 0, 0, 0, .inl (-2))] 66 68 _ _ _ (by decide +kernel) ?_
      show Go _ _ _ _ _ _ 68 [(0, rc o), (1, vi l1), (2, vi l2), (3, vi l3)] [vi ((-2))] ((S, T), Y) _
      obtain rfl := Option.some.inj h
      exact go_ireturn (by decide +kernel) rfl rfl ⟨rfl, rfl⟩
    · refine go_icmp_gt (off := 61) (tgt := 66) (by decide +kernel) (by decide) (fun z => absurd z q1) (fun _ => ?_)
      refine go_blk rfl [(.aload_n 0, 1, 0, 0, 0, .inl 0), (.getfield 9, 3, 4, 0, 0, .inl 0)] 8 12 _ _ _ (by decide +kernel) ?_
      refine And.intro hh.1 ?_
      show Go _ _ _ _ _ _ 12 [(0, rc o), (1, vi l1), (2, vi l2), (3, vi l3)] [vi (S.1 o 0)] ((S, T), Y) _
      refine ite_el h (fun q2 h => ?_) (fun q2 h => ?_)
      · refine go_if_le (off := 54) (tgt := 66) (by decide +kernel) (by decide) (fun _ => ?_) (fun z => absurd q2 z)
        refine go_blk rfl [(.bipush (-2), 2, 0, 0, 0, .inl (-2))] 66 68 _ _ _ (by decide +kernel) ?_
        show Go _ _ _ _ _ _ 68 [(0, rc o), (1, vi l1), (2, vi l2), (3, vi l3)] [vi ((-2))] ((S, T), Y) _
        obtain rfl := Option.some.inj h
        exact go_ireturn (by decide +kernel) rfl rfl ⟨rfl, rfl⟩
      · refine go_if_le (off := 54) (tgt := 66) (by decide +kernel) (by decide) (fun z => absurd z q2) (fun _ => ?_)
        refine gd_el h (fun q3 h => ?_)
        refine gd_el h (fun q4 h => ?_)
        refine gd_el h (fun q5 h => ?_)
        refine go_blk rfl [(.aload_n 0, 1, 0, 0, 0, .inl 0), (.getfield 40, 3, 4, 9, 1, .inl 0), (.iload_n 1, 1, 1, 0, 0, .inl 0), (.iaload, 1, 20, 0, 0, .inl 0), (.aload_n 0, 1, 0, 0, 0, .inl 0), (.getfield 43, 3, 4, 10, 1, .inl 0), (.iload_n 1, 1, 1, 0, 0, .inl 0), (.iaload, 1, 20, 0, 0, .inl 0), (.iload_n 3, 1, 3, 0, 0, .inl 0), (.imul, 1, 0, 0, 0, .inl 0), (.iadd, 1, 0, 0, 0, .inl 0), (.aload_n 0, 1, 0, 0, 0, .inl 0), (.getfield 9, 3, 4, 0, 0, .inl 0), (.irem, 1, 0, 0, 0, .inl 0), (.aload_n 0, 1, 0, 0, 0, .inl 0), (.getfield 40, 3, 4, 9, 1, .inl 0), (.iload_n 2, 1, 2, 0, 0, .inl 0), (.iaload, 1, 20, 0, 0, .inl 0), (.aload_n 0, 1, 0, 0, 0, .inl 0), (.getfield 43, 3, 4, 10, 1, .inl 0), (.iload_n 2, 1, 2, 0, 0, .inl 0), (.iaload, 1, 20, 0, 0, .inl 0), (.iload_n 3, 1, 3, 0, 0, .inl 0), (.imul, 1, 0, 0, 0, .inl 0), (.iadd, 1, 0, 0, 0, .inl 0), (.aload_n 0, 1, 0, 0, 0, .inl 0), (.getfield 9, 3, 4, 0, 0, .inl 0), (.irem, 1, 0, 0, 0, .inl 0)] 15 55 _ _ _ (by decide +kernel) ?_
        refine And.intro hh.1 (Exists.intro _ (And.intro (gRc hh.2.2.1.1) ?_))
        refine And.intro hh.2.2.1.2.1 (Exists.intro _ (And.intro hh.2.2.1.2.2 (And.intro (inb_in q3) ?_)))
        refine And.intro hh.1 (Exists.intro _ (And.intro (gRc hh.2.2.2.1.1) ?_))
        refine And.intro hh.2.2.2.1.2.1 (Exists.intro _ (And.intro hh.2.2.2.1.2.2 (And.intro (inb_in q3) ?_)))
        refine And.intro hh.1 ?_
        refine And.intro q4 ?_
        refine And.intro hh.1 (Exists.intro _ (And.intro (gRc hh.2.2.1.1) ?_))
        refine And.intro hh.2.2.1.2.1 (Exists.intro _ (And.intro hh.2.2.1.2.2 (And.intro (inb_in q5) ?_)))
        refine And.intro hh.1 (Exists.intro _ (And.intro (gRc hh.2.2.2.1.1) ?_))
        refine And.intro hh.2.2.2.1.2.1 (Exists.intro _ (And.intro hh.2.2.2.1.2.2 (And.intro (inb_in q5) ?_)))
        refine And.intro hh.1 ?_
        refine And.intro q4 ?_
        show Go _ _ _ _ _ _ 55 [(0, rc o), (1, vi l1), (2, vi l2), (3, vi l3)] [vi (irm ((S.1 (o + 2) l2.toNatClampNeg) + ((S.1 (o + 3) l2.toNatClampNeg) * l3)) (S.1 o 0)), vi (irm ((S.1 (o + 2) l1.toNatClampNeg) + ((S.1 (o + 3) l1.toNatClampNeg) * l3)) (S.1 o 0))] ((S, T), Y) _
        refine ite_el h (fun q6 h => ?_) (fun q6 h => ?_)
        · refine go_icmp_ne (off := 5) (tgt := 60) (by decide +kernel) (by decide) (fun z => absurd q6 z) (fun _ => ?_)
          refine go_blk rfl [(.iload_n 3, 1, 3, 0, 0, .inl 0)] 58 59 _ _ _ (by decide +kernel) ?_
          show Go _ _ _ _ _ _ 59 [(0, rc o), (1, vi l1), (2, vi l2), (3, vi l3)] [vi l3] ((S, T), Y) _
          obtain rfl := Option.some.inj h
          exact go_ireturn (by decide +kernel) rfl rfl ⟨rfl, rfl⟩
        · refine go_icmp_ne (off := 5) (tgt := 60) (by decide +kernel) (by decide) (fun _ => ?_) (fun z => absurd z q6)
          refine go_blk rfl [(.iinc 3 1, 3, 3, 0, 0, .inl 1)] 60 63 _ _ _ (by decide +kernel) ?_
          show Go _ _ _ _ _ _ 63 [(3, vi (l3 + 1)), (0, rc o), (1, vi l1), (2, vi l2)] [] ((S, T), Y) _
          refine go_goto (off := (-61)) (tgt := 2) (by decide +kernel) (by decide) ?_
          refine go_pick [1, 2, 3, 0] rfl ?_
          exact ih _ h
theorem ret4_beatsTillMeeting {S : jS} {T : jT} {Y : jS × jT} {o : Nat} {a0 : Int32} {a1 : Int32} {x : Int32} (hh : LayHall T o) (h : f4_beatsTillMeeting S o a0 a1 = some x) : Ret M4_beatsTillMeeting 1 0 0 [rc o, vi a0, vi a1] ((S, T), Y) (some (vi x)) ((S, T), Y) := by
  refine Ret.of (by decide +kernel) (Nat.le_of_ble_eq_true rfl) ?_
  unfold f4_beatsTillMeeting at h
  show Go _ _ _ _ _ _ 0 [(0, rc o), (1, vi a0), (2, vi a1)] [] ((S, T), Y) _
  refine go_blk rfl [(.iconst 0, 1, 0, 0, 0, .inl 0), (.istore_n 3, 1, 3, 0, 0, .inl 0)] 0 2 _ _ _ (by decide +kernel) ?_
  show Go _ _ _ _ _ _ 2 [(3, vi 0), (0, rc o), (1, vi a0), (2, vi a1)] [] ((S, T), Y) _
  refine go_pick [1, 2, 3, 0] rfl ?_
  exact f4_beatsTillMeeting_L1_ok hh _ _ h
def f4_isBackAfter_L1 (S : jS) (o : Nat) (l1 : Int32) : Nat → Int32 → Option Int32
  | 0, _ => none
  | n + 1, l2 => (if (S.1 o 2) ≤ l2 then some 1 else (if (((S.1 o 4) >>> (l2 &&& 31)) &&& 1) = 1 then (if (S.1 o 0) ≤ 0 then f4_isBackAfter_L1 S o l1 n (l2 + 1) else (if inb l2 7 then (if ¬ (S.1 o 0) = 0 then (if (irm ((S.1 (o + 3) l2.toNatClampNeg) * l1) (S.1 o 0)) = 0 then f4_isBackAfter_L1 S o l1 n (l2 + 1) else some 0) else none) else none)) else f4_isBackAfter_L1 S o l1 n (l2 + 1)))
def f4_isBackAfter (S : jS) (o : Nat) (a0 : Int32) : Option Int32 := f4_isBackAfter_L1 S o a0 jF 0
theorem f4_isBackAfter_L1_ok {T : jT} {Y : jS × jT} {S : jS} {o : Nat} {l1 : Int32} {x : Int32} (hh : LayHall T o) : ∀ (n : Nat) (l2 : Int32), f4_isBackAfter_L1 S o l1 n l2 = some x → Go M4_isBackAfter 1 0 0 0 0 2 [(0, rc o), (1, vi l1), (2, vi l2)] [] ((S, T), Y) (eqQ (some (vi x)) ((S, T), Y)) := by
  intro n
  induction n with
  | zero => intro l2 h; exact absurd h (by intro z; cases z)
  | succ n ih =>
    intro l2 h
    rw [f4_isBackAfter_L1] at h
    refine go_blk rfl [(.iload_n 2, 1, 2, 0, 0, .inl 0), (.aload_n 0, 1, 0, 0, 0, .inl 0), (.getfield 18, 3, 4, 2, 0, .inl 0)] 2 7 _ _ _ (by decide +kernel) ?_
    refine And.intro hh.1 ?_
    show Go _ _ _ _ _ _ 7 [(0, rc o), (1, vi l1), (2, vi l2)] [vi (S.1 o 2), vi l2] ((S, T), Y) _
    refine ite_el h (fun q1 h => ?_) (fun q1 h => ?_)
    · refine go_icmp_ge (off := 46) (tgt := 53) (by decide +kernel) (by decide) (fun _ => ?_) (fun z => absurd q1 z)
      refine go_blk rfl [(.iconst 1, 1, 0, 0, 0, .inl 1)] 53 54 _ _ _ (by decide +kernel) ?_
      show Go _ _ _ _ _ _ 54 [(0, rc o), (1, vi l1), (2, vi l2)] [vi 1] ((S, T), Y) _
      obtain rfl := Option.some.inj h
      exact go_ireturn (by decide +kernel) rfl rfl ⟨rfl, rfl⟩
    · refine go_icmp_ge (off := 46) (tgt := 53) (by decide +kernel) (by decide) (fun z => absurd z q1) (fun _ => ?_)
      refine go_blk rfl [(.aload_n 0, 1, 0, 0, 0, .inl 0), (.getfield 24, 3, 4, 4, 0, .inl 0), (.iload_n 2, 1, 2, 0, 0, .inl 0), (.ishr, 1, 0, 0, 0, .inl 0), (.iconst 1, 1, 0, 0, 0, .inl 1), (.iand, 1, 0, 0, 0, .inl 0), (.iconst 1, 1, 0, 0, 0, .inl 1)] 10 19 _ _ _ (by decide +kernel) ?_
      refine And.intro hh.1 ?_
      show Go _ _ _ _ _ _ 19 [(0, rc o), (1, vi l1), (2, vi l2)] [vi 1, vi (((S.1 o 4) >>> (l2 &&& 31)) &&& 1)] ((S, T), Y) _
      refine ite_el h (fun q2 h => ?_) (fun q2 h => ?_)
      · refine go_icmp_ne (off := 28) (tgt := 47) (by decide +kernel) (by decide) (fun z => absurd q2 z) (fun _ => ?_)
        refine go_blk rfl [(.aload_n 0, 1, 0, 0, 0, .inl 0), (.getfield 9, 3, 4, 0, 0, .inl 0)] 22 26 _ _ _ (by decide +kernel) ?_
        refine And.intro hh.1 ?_
        show Go _ _ _ _ _ _ 26 [(0, rc o), (1, vi l1), (2, vi l2)] [vi (S.1 o 0)] ((S, T), Y) _
        refine ite_el h (fun q3 h => ?_) (fun q3 h => ?_)
        · refine go_if_le (off := 21) (tgt := 47) (by decide +kernel) (by decide) (fun _ => ?_) (fun z => absurd q3 z)
          refine go_blk rfl [(.iinc 2 1, 3, 2, 0, 0, .inl 1)] 47 50 _ _ _ (by decide +kernel) ?_
          show Go _ _ _ _ _ _ 50 [(2, vi (l2 + 1)), (0, rc o), (1, vi l1)] [] ((S, T), Y) _
          refine go_goto (off := (-48)) (tgt := 2) (by decide +kernel) (by decide) ?_
          refine go_pick [1, 2, 0] rfl ?_
          exact ih _ h
        · refine go_if_le (off := 21) (tgt := 47) (by decide +kernel) (by decide) (fun z => absurd z q3) (fun _ => ?_)
          refine gd_el h (fun q4 h => ?_)
          refine gd_el h (fun q5 h => ?_)
          refine go_blk rfl [(.aload_n 0, 1, 0, 0, 0, .inl 0), (.getfield 43, 3, 4, 10, 1, .inl 0), (.iload_n 2, 1, 2, 0, 0, .inl 0), (.iaload, 1, 20, 0, 0, .inl 0), (.iload_n 1, 1, 1, 0, 0, .inl 0), (.imul, 1, 0, 0, 0, .inl 0), (.aload_n 0, 1, 0, 0, 0, .inl 0), (.getfield 9, 3, 4, 0, 0, .inl 0), (.irem, 1, 0, 0, 0, .inl 0)] 29 42 _ _ _ (by decide +kernel) ?_
          refine And.intro hh.1 (Exists.intro _ (And.intro (gRc hh.2.2.2.1.1) ?_))
          refine And.intro hh.2.2.2.1.2.1 (Exists.intro _ (And.intro hh.2.2.2.1.2.2 (And.intro (inb_in q4) ?_)))
          refine And.intro hh.1 ?_
          refine And.intro q5 ?_
          show Go _ _ _ _ _ _ 42 [(0, rc o), (1, vi l1), (2, vi l2)] [vi (irm ((S.1 (o + 3) l2.toNatClampNeg) * l1) (S.1 o 0))] ((S, T), Y) _
          refine ite_el h (fun q6 h => ?_) (fun q6 h => ?_)
          · refine go_if_eq (off := 5) (tgt := 47) (by decide +kernel) (by decide) (fun _ => ?_) (fun z => absurd q6 z)
            refine go_blk rfl [(.iinc 2 1, 3, 2, 0, 0, .inl 1)] 47 50 _ _ _ (by decide +kernel) ?_
            show Go _ _ _ _ _ _ 50 [(2, vi (l2 + 1)), (0, rc o), (1, vi l1)] [] ((S, T), Y) _
            refine go_goto (off := (-48)) (tgt := 2) (by decide +kernel) (by decide) ?_
            refine go_pick [1, 2, 0] rfl ?_
            exact ih _ h
          · refine go_if_eq (off := 5) (tgt := 47) (by decide +kernel) (by decide) (fun z => absurd z q6) (fun _ => ?_)
            refine go_blk rfl [(.iconst 0, 1, 0, 0, 0, .inl 0)] 45 46 _ _ _ (by decide +kernel) ?_
            show Go _ _ _ _ _ _ 46 [(0, rc o), (1, vi l1), (2, vi l2)] [vi 0] ((S, T), Y) _
            obtain rfl := Option.some.inj h
            exact go_ireturn (by decide +kernel) rfl rfl ⟨rfl, rfl⟩
      · refine go_icmp_ne (off := 28) (tgt := 47) (by decide +kernel) (by decide) (fun _ => ?_) (fun z => absurd z q2)
        refine go_blk rfl [(.iinc 2 1, 3, 2, 0, 0, .inl 1)] 47 50 _ _ _ (by decide +kernel) ?_
        show Go _ _ _ _ _ _ 50 [(2, vi (l2 + 1)), (0, rc o), (1, vi l1)] [] ((S, T), Y) _
        refine go_goto (off := (-48)) (tgt := 2) (by decide +kernel) (by decide) ?_
        refine go_pick [1, 2, 0] rfl ?_
        exact ih _ h
theorem ret4_isBackAfter {S : jS} {T : jT} {Y : jS × jT} {o : Nat} {a0 : Int32} {x : Int32} (hh : LayHall T o) (h : f4_isBackAfter S o a0 = some x) : Ret M4_isBackAfter 1 0 0 [rc o, vi a0] ((S, T), Y) (some (vi x)) ((S, T), Y) := by
  refine Ret.of (by decide +kernel) (Nat.le_of_ble_eq_true rfl) ?_
  unfold f4_isBackAfter at h
  show Go _ _ _ _ _ _ 0 [(0, rc o), (1, vi a0)] [] ((S, T), Y) _
  refine go_blk rfl [(.iconst 0, 1, 0, 0, 0, .inl 0), (.istore_n 2, 1, 2, 0, 0, .inl 0)] 0 2 _ _ _ (by decide +kernel) ?_
  show Go _ _ _ _ _ _ 2 [(2, vi 0), (0, rc o), (1, vi a0)] [] ((S, T), Y) _
  refine go_pick [1, 2, 0] rfl ?_
  exact f4_isBackAfter_L1_ok hh _ _ h
def f4_beatsTillBack_L1 (S : jS) (o : Nat) : Nat → Int32 → Option Int32
  | 0, _ => none
  | n + 1, l1 => (if (S.1 o 0) ≤ l1 then some (S.1 o 0) else Option.bind (f4_isBackAfter S o l1) (fun r1 => (if r1 = 0 then f4_beatsTillBack_L1 S o n (l1 + 1) else some l1)))
def f4_beatsTillBack (S : jS) (o : Nat) : Option Int32 := f4_beatsTillBack_L1 S o jF 1
theorem f4_beatsTillBack_L1_ok {T : jT} {Y : jS × jT} {S : jS} {o : Nat} {x : Int32} (hh : LayHall T o) : ∀ (n : Nat) (l1 : Int32), f4_beatsTillBack_L1 S o n l1 = some x → Go M4_beatsTillBack 2 0 0 0 0 2 [(0, rc o), (1, vi l1)] [] ((S, T), Y) (eqQ (some (vi x)) ((S, T), Y)) := by
  intro n
  induction n with
  | zero => intro l1 h; exact absurd h (by intro z; cases z)
  | succ n ih =>
    intro l1 h
    rw [f4_beatsTillBack_L1] at h
    refine go_blk rfl [(.iload_n 1, 1, 1, 0, 0, .inl 0), (.aload_n 0, 1, 0, 0, 0, .inl 0), (.getfield 9, 3, 4, 0, 0, .inl 0)] 2 7 _ _ _ (by decide +kernel) ?_
    refine And.intro hh.1 ?_
    show Go _ _ _ _ _ _ 7 [(0, rc o), (1, vi l1)] [vi (S.1 o 0), vi l1] ((S, T), Y) _
    refine ite_el h (fun q1 h => ?_) (fun q1 h => ?_)
    · refine go_icmp_ge (off := 19) (tgt := 26) (by decide +kernel) (by decide) (fun _ => ?_) (fun z => absurd q1 z)
      refine go_blk rfl [(.aload_n 0, 1, 0, 0, 0, .inl 0), (.getfield 9, 3, 4, 0, 0, .inl 0)] 26 30 _ _ _ (by decide +kernel) ?_
      refine And.intro hh.1 ?_
      show Go _ _ _ _ _ _ 30 [(0, rc o), (1, vi l1)] [vi (S.1 o 0)] ((S, T), Y) _
      obtain rfl := Option.some.inj h
      exact go_ireturn (by decide +kernel) rfl rfl ⟨rfl, rfl⟩
    · refine go_icmp_ge (off := 19) (tgt := 26) (by decide +kernel) (by decide) (fun z => absurd z q1) (fun _ => ?_)
      refine go_blk rfl [(.aload_n 0, 1, 0, 0, 0, .inl 0), (.iload_n 1, 1, 1, 0, 0, .inl 0)] 10 12 _ _ _ (by decide +kernel) ?_
      show Go _ _ _ _ _ _ 12 [(0, rc o), (1, vi l1)] [vi l1, rc o] ((S, T), Y) _
      obtain ⟨r1, hr1, h⟩ := bind_el h
      refine go_callV (idx := 102) (z := 0) (M' := M4_isBackAfter) (n := 1) (A := [vi l1]) (v' := some (vi r1)) (μ' := ((S, T), Y)) (d' := 1) (mc' := 0) (ms' := 0) (kc' := 0) (ks' := 0) (ci := 4) (x := .inl o) (by decide +kernel) ml_4_102 rfl wv4_isBackAfter rfl (by decide) rfl hh.1 (ret4_isBackAfter hh hr1) (by decide) rfl rfl (Nat.le_of_ble_eq_true rfl) rfl (jag rfl rfl) ?_
      show Go _ _ _ _ _ _ 15 [(0, rc o), (1, vi l1)] [vi r1] ((S, T), Y) _
      refine ite_el h (fun q2 h => ?_) (fun q2 h => ?_)
      · refine go_if_eq (off := 5) (tgt := 20) (by decide +kernel) (by decide) (fun _ => ?_) (fun z => absurd q2 z)
        refine go_blk rfl [(.iinc 1 1, 3, 1, 0, 0, .inl 1)] 20 23 _ _ _ (by decide +kernel) ?_
        show Go _ _ _ _ _ _ 23 [(1, vi (l1 + 1)), (0, rc o)] [] ((S, T), Y) _
        refine go_goto (off := (-21)) (tgt := 2) (by decide +kernel) (by decide) ?_
        refine go_pick [1, 0] rfl ?_
        exact ih _ h
      · refine go_if_eq (off := 5) (tgt := 20) (by decide +kernel) (by decide) (fun z => absurd z q2) (fun _ => ?_)
        refine go_blk rfl [(.iload_n 1, 1, 1, 0, 0, .inl 0)] 18 19 _ _ _ (by decide +kernel) ?_
        show Go _ _ _ _ _ _ 19 [(0, rc o), (1, vi l1)] [vi l1] ((S, T), Y) _
        obtain rfl := Option.some.inj h
        exact go_ireturn (by decide +kernel) rfl rfl ⟨rfl, rfl⟩
theorem ret4_beatsTillBack {S : jS} {T : jT} {Y : jS × jT} {o : Nat} {x : Int32} (hh : LayHall T o) (h : f4_beatsTillBack S o = some x) : Ret M4_beatsTillBack 2 0 0 [rc o] ((S, T), Y) (some (vi x)) ((S, T), Y) := by
  refine Ret.of (by decide +kernel) (Nat.le_of_ble_eq_true rfl) ?_
  unfold f4_beatsTillBack at h
  show Go _ _ _ _ _ _ 0 [(0, rc o)] [] ((S, T), Y) _
  refine go_blk rfl [(.iconst 1, 1, 0, 0, 0, .inl 1), (.istore_n 1, 1, 1, 0, 0, .inl 0)] 0 2 _ _ _ (by decide +kernel) ?_
  show Go _ _ _ _ _ _ 2 [(1, vi 1), (0, rc o)] [] ((S, T), Y) _
  refine go_pick [1, 0] rfl ?_
  exact f4_beatsTillBack_L1_ok hh _ _ h
def f4_shareOf_L1 (S : jS) (o : Nat) (l1 : Int32) (l2 : Int32) : Nat → Int32 → Int32 → Option Int32
  | 0, _, _ => none
  | n + 1, l3, l4 => (if (S.1 o 2) ≤ l4 then some l3 else (if inb l4 7 then f4_shareOf_L1 S o l1 l2 n (l3 + (S.1 (o + 6) l4.toNatClampNeg)) (l4 + 1) else none))
def f4_shareOf_L2 (S : jS) (o : Nat) (l1 : Int32) (l2 : Int32) (l3 : Int32) (l6 : Int32) : Nat → Int32 → Int32 → Int32 → Option (Int32 × Int32)
  | 0, _, _, _ => none
  | n + 1, l4, l5, l7 => (if (S.1 o 2) ≤ l7 then some (l4, l5) else (if inb l7 7 then (if ¬ l3 = 0 then Option.bind (if l6 < (irm (l1 * (S.1 (o + 6) l7.toNatClampNeg)) l3) then some (l5 + 1) else (if (irm (l1 * (S.1 (o + 6) l7.toNatClampNeg)) l3) = l6 then (if l2 ≤ l7 then some l5 else some (l5 + 1)) else some l5)) (fun (y2 : Int32) => f4_shareOf_L2 S o l1 l2 l3 l6 n (l4 - ((l1 * (S.1 (o + 6) l7.toNatClampNeg)) / l3)) y2 (l7 + 1)) else none) else none))
def f4_shareOf (S : jS) (o : Nat) (a0 : Int32) (a1 : Int32) : Option Int32 := Option.bind (f4_shareOf_L1 S o a0 a1 jF 0 0) (fun y1 => (if 1 ≤ y1 then (if inb a1 7 then (if ¬ y1 = 0 then Option.bind (f4_shareOf_L2 S o a0 a1 y1 (irm (a0 * (S.1 (o + 6) a1.toNatClampNeg)) y1) jF a0 0 0) (fun y3 => some (((a0 * (S.1 (o + 6) a1.toNatClampNeg)) / y1) + (((if y3.1 ≤ y3.2 then 0 else 1) : Int32)))) else none) else none) else some 0))
theorem f4_shareOf_L1_ok {T : jT} {Y : jS × jT} {S : jS} {o : Nat} {l1 : Int32} {l2 : Int32} {Q : Option jV → jMem → Prop} (hh : LayHall T o) : ∀ (n : Nat) (l3 : Int32) (l4 : Int32) (r : Int32), f4_shareOf_L1 S o l1 l2 n l3 l4 = some r → Go M4_shareOf 1 0 0 0 0 30 [(0, rc o), (1, vi l1), (2, vi l2), (3, vi r)] [] ((S, T), Y) Q → Go M4_shareOf 1 0 0 0 0 5 [(0, rc o), (1, vi l1), (2, vi l2), (3, vi l3), (4, vi l4)] [] ((S, T), Y) Q := by
  intro n
  induction n with
  | zero => intro l3 l4 r h k; exact absurd h (by intro z; cases z)
  | succ n ih =>
    intro l3 l4 r h k
    rw [f4_shareOf_L1] at h
    refine go_blk rfl [(.iload 4, 2, 4, 0, 0, .inl 0), (.aload_n 0, 1, 0, 0, 0, .inl 0), (.getfield 18, 3, 4, 2, 0, .inl 0)] 5 11 _ _ _ (by decide +kernel) ?_
    refine And.intro hh.1 ?_
    show Go _ _ _ _ _ _ 11 [(0, rc o), (1, vi l1), (2, vi l2), (3, vi l3), (4, vi l4)] [vi (S.1 o 2), vi l4] ((S, T), Y) _
    refine ite_el h (fun q1 h => ?_) (fun q1 h => ?_)
    · refine go_icmp_ge (off := 19) (tgt := 30) (by decide +kernel) (by decide) (fun _ => ?_) (fun z => absurd q1 z)
      obtain rfl := Option.some.inj h
      refine go_pick [0, 1, 2, 3] rfl ?_
      exact k
    · refine go_icmp_ge (off := 19) (tgt := 30) (by decide +kernel) (by decide) (fun z => absurd z q1) (fun _ => ?_)
      refine gd_el h (fun q2 h => ?_)
      refine go_blk rfl [(.iload_n 3, 1, 3, 0, 0, .inl 0), (.aload_n 0, 1, 0, 0, 0, .inl 0), (.getfield 52, 3, 4, 13, 1, .inl 0), (.iload 4, 2, 4, 0, 0, .inl 0), (.iaload, 1, 20, 0, 0, .inl 0), (.iadd, 1, 0, 0, 0, .inl 0), (.istore_n 3, 1, 3, 0, 0, .inl 0), (.iinc 4 1, 3, 4, 0, 0, .inl 1)] 14 27 _ _ _ (by decide +kernel) ?_
      refine And.intro hh.1 (Exists.intro _ (And.intro (gRc hh.2.2.2.2.2.2.1) ?_))
      refine And.intro hh.2.2.2.2.2.2.2.1 (Exists.intro _ (And.intro hh.2.2.2.2.2.2.2.2 (And.intro (inb_in q2) ?_)))
      show Go _ _ _ _ _ _ 27 [(4, vi (l4 + 1)), (3, vi (l3 + (S.1 (o + 6) l4.toNatClampNeg))), (0, rc o), (1, vi l1), (2, vi l2)] [] ((S, T), Y) _
      refine go_goto (off := (-22)) (tgt := 5) (by decide +kernel) (by decide) ?_
      refine go_pick [2, 3, 4, 1, 0] rfl ?_
      exact ih _ _ _ h k
theorem f4_shareOf_L2_ok {T : jT} {Y : jS × jT} {S : jS} {o : Nat} {l1 : Int32} {l2 : Int32} {l3 : Int32} {l6 : Int32} {Q : Option jV → jMem → Prop} (hh : LayHall T o) : ∀ (n : Nat) (l4 : Int32) (l5 : Int32) (l7 : Int32) (r : (Int32 × Int32)), f4_shareOf_L2 S o l1 l2 l3 l6 n l4 l5 l7 = some r → Go M4_shareOf 1 0 0 0 0 125 [(0, rc o), (1, vi l1), (2, vi l2), (3, vi l3), (4, vi r.1), (5, vi r.2)] [] ((S, T), Y) Q → Go M4_shareOf 1 0 0 0 0 58 [(0, rc o), (1, vi l1), (2, vi l2), (3, vi l3), (4, vi l4), (5, vi l5), (6, vi l6), (7, vi l7)] [] ((S, T), Y) Q := by
  intro n
  induction n with
  | zero => intro l4 l5 l7 r h k; exact absurd h (by intro z; cases z)
  | succ n ih =>
    intro l4 l5 l7 r h k
    rw [f4_shareOf_L2] at h
    refine go_blk rfl [(.iload 7, 2, 7, 0, 0, .inl 0), (.aload_n 0, 1, 0, 0, 0, .inl 0), (.getfield 18, 3, 4, 2, 0, .inl 0)] 58 64 _ _ _ (by decide +kernel) ?_
    refine And.intro hh.1 ?_
    show Go _ _ _ _ _ _ 64 [(0, rc o), (1, vi l1), (2, vi l2), (3, vi l3), (4, vi l4), (5, vi l5), (6, vi l6), (7, vi l7)] [vi (S.1 o 2), vi l7] ((S, T), Y) _
    refine ite_el h (fun q6 h => ?_) (fun q6 h => ?_)
    · refine go_icmp_ge (off := 61) (tgt := 125) (by decide +kernel) (by decide) (fun _ => ?_) (fun z => absurd q6 z)
      obtain rfl := Option.some.inj h
      refine go_pick [0, 1, 2, 3, 4, 5] rfl ?_
      exact k
    · refine go_icmp_ge (off := 61) (tgt := 125) (by decide +kernel) (by decide) (fun z => absurd z q6) (fun _ => ?_)
      refine gd_el h (fun q7 h => ?_)
      refine gd_el h (fun q8 h => ?_)
      refine go_blk rfl [(.iload_n 1, 1, 1, 0, 0, .inl 0), (.aload_n 0, 1, 0, 0, 0, .inl 0), (.getfield 52, 3, 4, 13, 1, .inl 0), (.iload 7, 2, 7, 0, 0, .inl 0), (.iaload, 1, 20, 0, 0, .inl 0), (.imul, 1, 0, 0, 0, .inl 0), (.iload_n 3, 1, 3, 0, 0, .inl 0), (.irem, 1, 0, 0, 0, .inl 0), (.istore 8, 2, 8, 0, 0, .inl 0), (.iload 4, 2, 4, 0, 0, .inl 0), (.iload_n 1, 1, 1, 0, 0, .inl 0), (.aload_n 0, 1, 0, 0, 0, .inl 0), (.getfield 52, 3, 4, 13, 1, .inl 0), (.iload 7, 2, 7, 0, 0, .inl 0), (.iaload, 1, 20, 0, 0, .inl 0), (.imul, 1, 0, 0, 0, .inl 0), (.iload_n 3, 1, 3, 0, 0, .inl 0), (.idiv, 1, 0, 0, 0, .inl 0), (.isub, 1, 0, 0, 0, .inl 0), (.istore 4, 2, 4, 0, 0, .inl 0), (.iload 8, 2, 8, 0, 0, .inl 0), (.iload 6, 2, 6, 0, 0, .inl 0)] 67 100 _ _ _ (by decide +kernel) ?_
      refine And.intro hh.1 (Exists.intro _ (And.intro (gRc hh.2.2.2.2.2.2.1) ?_))
      refine And.intro hh.2.2.2.2.2.2.2.1 (Exists.intro _ (And.intro hh.2.2.2.2.2.2.2.2 (And.intro (inb_in q7) ?_)))
      refine And.intro q8 ?_
      refine And.intro hh.1 (Exists.intro _ (And.intro (gRc hh.2.2.2.2.2.2.1) ?_))
      refine And.intro hh.2.2.2.2.2.2.2.1 (Exists.intro _ (And.intro hh.2.2.2.2.2.2.2.2 (And.intro (inb_in q7) ?_)))
      refine And.intro q8 ?_
      show Go _ _ _ _ _ _ 100 [(4, vi (l4 - ((l1 * (S.1 (o + 6) l7.toNatClampNeg)) / l3))), (8, vi (irm (l1 * (S.1 (o + 6) l7.toNatClampNeg)) l3)), (0, rc o), (1, vi l1), (2, vi l2), (3, vi l3), (5, vi l5), (6, vi l6), (7, vi l7)] [vi l6, vi (irm (l1 * (S.1 (o + 6) l7.toNatClampNeg)) l3)] ((S, T), Y) _
      obtain ⟨y2, hy2, h⟩ := bind_el h
      have key : Go M4_shareOf 1 0 0 0 0 119 [(0, rc o), (1, vi l1), (2, vi l2), (3, vi l3), (4, vi (l4 - ((l1 * (S.1 (o + 6) l7.toNatClampNeg)) / l3))), (5, vi y2), (6, vi l6), (7, vi l7)] [] ((S, T), Y) Q := by
        refine go_blk rfl [(.iinc 7 1, 3, 7, 0, 0, .inl 1)] 119 122 _ _ _ (by decide +kernel) ?_
        show Go _ _ _ _ _ _ 122 [(7, vi (l7 + 1)), (0, rc o), (1, vi l1), (2, vi l2), (3, vi l3), (4, vi (l4 - ((l1 * (S.1 (o + 6) l7.toNatClampNeg)) / l3))), (5, vi y2), (6, vi l6)] [] ((S, T), Y) _
        refine go_goto (off := (-64)) (tgt := 58) (by decide +kernel) (by decide) ?_
        refine go_pick [1, 2, 3, 4, 5, 6, 7, 0] rfl ?_
        exact ih _ _ _ _ h k
      replace h := hy2
      refine ite_el h (fun q9 h => ?_) (fun q9 h => ?_)
      · refine go_icmp_gt (off := 16) (tgt := 116) (by decide +kernel) (by decide) (fun _ => ?_) (fun z => absurd q9 z)
        refine go_blk rfl [(.iinc 5 1, 3, 5, 0, 0, .inl 1)] 116 119 _ _ _ (by decide +kernel) ?_
        show Go _ _ _ _ _ _ 119 [(5, vi (l5 + 1)), (4, vi (l4 - ((l1 * (S.1 (o + 6) l7.toNatClampNeg)) / l3))), (8, vi (irm (l1 * (S.1 (o + 6) l7.toNatClampNeg)) l3)), (0, rc o), (1, vi l1), (2, vi l2), (3, vi l3), (6, vi l6), (7, vi l7)] [] ((S, T), Y) _
        obtain rfl := Option.some.inj h
        refine go_pick [3, 4, 5, 6, 1, 0, 7, 8] rfl ?_
        exact key
      · refine go_icmp_gt (off := 16) (tgt := 116) (by decide +kernel) (by decide) (fun z => absurd z q9) (fun _ => ?_)
        refine go_blk rfl [(.iload 8, 2, 8, 0, 0, .inl 0), (.iload 6, 2, 6, 0, 0, .inl 0)] 103 107 _ _ _ (by decide +kernel) ?_
        show Go _ _ _ _ _ _ 107 [(4, vi (l4 - ((l1 * (S.1 (o + 6) l7.toNatClampNeg)) / l3))), (8, vi (irm (l1 * (S.1 (o + 6) l7.toNatClampNeg)) l3)), (0, rc o), (1, vi l1), (2, vi l2), (3, vi l3), (5, vi l5), (6, vi l6), (7, vi l7)] [vi l6, vi (irm (l1 * (S.1 (o + 6) l7.toNatClampNeg)) l3)] ((S, T), Y) _
        refine ite_el h (fun q10 h => ?_) (fun q10 h => ?_)
        · refine go_icmp_ne (off := 12) (tgt := 119) (by decide +kernel) (by decide) (fun z => absurd q10 z) (fun _ => ?_)
          refine go_blk rfl [(.iload 7, 2, 7, 0, 0, .inl 0), (.iload_n 2, 1, 2, 0, 0, .inl 0)] 110 113 _ _ _ (by decide +kernel) ?_
          show Go _ _ _ _ _ _ 113 [(4, vi (l4 - ((l1 * (S.1 (o + 6) l7.toNatClampNeg)) / l3))), (8, vi (irm (l1 * (S.1 (o + 6) l7.toNatClampNeg)) l3)), (0, rc o), (1, vi l1), (2, vi l2), (3, vi l3), (5, vi l5), (6, vi l6), (7, vi l7)] [vi l2, vi l7] ((S, T), Y) _
          refine ite_el h (fun q11 h => ?_) (fun q11 h => ?_)
          · refine go_icmp_ge (off := 6) (tgt := 119) (by decide +kernel) (by decide) (fun _ => ?_) (fun z => absurd q11 z)
            obtain rfl := Option.some.inj h
            refine go_pick [2, 3, 4, 5, 0, 6, 7, 8] rfl ?_
            exact key
          · refine go_icmp_ge (off := 6) (tgt := 119) (by decide +kernel) (by decide) (fun z => absurd z q11) (fun _ => ?_)
            refine go_blk rfl [(.iinc 5 1, 3, 5, 0, 0, .inl 1)] 116 119 _ _ _ (by decide +kernel) ?_
            show Go _ _ _ _ _ _ 119 [(5, vi (l5 + 1)), (4, vi (l4 - ((l1 * (S.1 (o + 6) l7.toNatClampNeg)) / l3))), (8, vi (irm (l1 * (S.1 (o + 6) l7.toNatClampNeg)) l3)), (0, rc o), (1, vi l1), (2, vi l2), (3, vi l3), (6, vi l6), (7, vi l7)] [] ((S, T), Y) _
            obtain rfl := Option.some.inj h
            refine go_pick [3, 4, 5, 6, 1, 0, 7, 8] rfl ?_
            exact key
        · refine go_icmp_ne (off := 12) (tgt := 119) (by decide +kernel) (by decide) (fun _ => ?_) (fun z => absurd z q10)
          obtain rfl := Option.some.inj h
          refine go_pick [2, 3, 4, 5, 0, 6, 7, 8] rfl ?_
          exact key
theorem ret4_shareOf {S : jS} {T : jT} {Y : jS × jT} {o : Nat} {a0 : Int32} {a1 : Int32} {x : Int32} (hh : LayHall T o) (h : f4_shareOf S o a0 a1 = some x) : Ret M4_shareOf 1 0 0 [rc o, vi a0, vi a1] ((S, T), Y) (some (vi x)) ((S, T), Y) := by
  refine Ret.of (by decide +kernel) (Nat.le_of_ble_eq_true rfl) ?_
  unfold f4_shareOf at h
  show Go _ _ _ _ _ _ 0 [(0, rc o), (1, vi a0), (2, vi a1)] [] ((S, T), Y) _
  refine go_blk rfl [(.iconst 0, 1, 0, 0, 0, .inl 0), (.istore_n 3, 1, 3, 0, 0, .inl 0), (.iconst 0, 1, 0, 0, 0, .inl 0), (.istore 4, 2, 4, 0, 0, .inl 0)] 0 5 _ _ _ (by decide +kernel) ?_
  show Go _ _ _ _ _ _ 5 [(4, vi 0), (3, vi 0), (0, rc o), (1, vi a0), (2, vi a1)] [] ((S, T), Y) _
  refine go_pick [2, 3, 4, 1, 0] rfl ?_
  obtain ⟨y1, hy1, h⟩ := bind_el h
  refine f4_shareOf_L1_ok hh _ _ _ _ hy1 ?_
  show Go _ _ _ _ _ _ 30 [(0, rc o), (1, vi a0), (2, vi a1), (3, vi y1)] [] ((S, T), Y) _
  refine go_blk rfl [(.iload_n 3, 1, 3, 0, 0, .inl 0), (.iconst 1, 1, 0, 0, 0, .inl 1)] 30 32 _ _ _ (by decide +kernel) ?_
  show Go _ _ _ _ _ _ 32 [(0, rc o), (1, vi a0), (2, vi a1), (3, vi y1)] [vi 1, vi y1] ((S, T), Y) _
  refine ite_el h (fun q3 h => ?_) (fun q3 h => ?_)
  · refine go_icmp_ge (off := 5) (tgt := 37) (by decide +kernel) (by decide) (fun _ => ?_) (fun z => absurd q3 z)
    refine gd_el h (fun q4 h => ?_)
    refine gd_el h (fun q5 h => ?_)
    refine go_blk rfl [(.iload_n 1, 1, 1, 0, 0, .inl 0), (.istore 4, 2, 4, 0, 0, .inl 0), (.iconst 0, 1, 0, 0, 0, .inl 0), (.istore 5, 2, 5, 0, 0, .inl 0), (.iload_n 1, 1, 1, 0, 0, .inl 0), (.aload_n 0, 1, 0, 0, 0, .inl 0), (.getfield 52, 3, 4, 13, 1, .inl 0), (.iload_n 2, 1, 2, 0, 0, .inl 0), (.iaload, 1, 20, 0, 0, .inl 0), (.imul, 1, 0, 0, 0, .inl 0), (.iload_n 3, 1, 3, 0, 0, .inl 0), (.irem, 1, 0, 0, 0, .inl 0), (.istore 6, 2, 6, 0, 0, .inl 0), (.iconst 0, 1, 0, 0, 0, .inl 0), (.istore 7, 2, 7, 0, 0, .inl 0)] 37 58 _ _ _ (by decide +kernel) ?_
    refine And.intro hh.1 (Exists.intro _ (And.intro (gRc hh.2.2.2.2.2.2.1) ?_))
    refine And.intro hh.2.2.2.2.2.2.2.1 (Exists.intro _ (And.intro hh.2.2.2.2.2.2.2.2 (And.intro (inb_in q4) ?_)))
    refine And.intro q5 ?_
    show Go _ _ _ _ _ _ 58 [(7, vi 0), (6, vi (irm (a0 * (S.1 (o + 6) a1.toNatClampNeg)) y1)), (5, vi 0), (4, vi a0), (0, rc o), (1, vi a0), (2, vi a1), (3, vi y1)] [] ((S, T), Y) _
    refine go_pick [4, 5, 6, 7, 3, 2, 1, 0] rfl ?_
    obtain ⟨y3, hy3, h⟩ := bind_el h
    refine f4_shareOf_L2_ok hh _ _ _ _ _ hy3 ?_
    show Go _ _ _ _ _ _ 125 [(0, rc o), (1, vi a0), (2, vi a1), (3, vi y1), (4, vi y3.1), (5, vi y3.2)] [] ((S, T), Y) _
    refine go_blk rfl [(.iload_n 1, 1, 1, 0, 0, .inl 0), (.aload_n 0, 1, 0, 0, 0, .inl 0), (.getfield 52, 3, 4, 13, 1, .inl 0), (.iload_n 2, 1, 2, 0, 0, .inl 0), (.iaload, 1, 20, 0, 0, .inl 0), (.imul, 1, 0, 0, 0, .inl 0), (.iload_n 3, 1, 3, 0, 0, .inl 0), (.idiv, 1, 0, 0, 0, .inl 0), (.iload 5, 2, 5, 0, 0, .inl 0), (.iload 4, 2, 4, 0, 0, .inl 0)] 125 139 _ _ _ (by decide +kernel) ?_
    refine And.intro hh.1 (Exists.intro _ (And.intro (gRc hh.2.2.2.2.2.2.1) ?_))
    refine And.intro hh.2.2.2.2.2.2.2.1 (Exists.intro _ (And.intro hh.2.2.2.2.2.2.2.2 (And.intro (inb_in q4) ?_)))
    refine And.intro q5 ?_
    show Go _ _ _ _ _ _ 139 [(0, rc o), (1, vi a0), (2, vi a1), (3, vi y1), (4, vi y3.1), (5, vi y3.2)] [vi y3.1, vi y3.2, vi ((a0 * (S.1 (o + 6) a1.toNatClampNeg)) / y1)] ((S, T), Y) _
    have key : ∀ z0 : Int32, z0 = ((if y3.1 ≤ y3.2 then 0 else 1) : Int32) → Go M4_shareOf 1 0 0 0 0 147 [] [vi z0, vi ((a0 * (S.1 (o + 6) a1.toNatClampNeg)) / y1)] ((S, T), Y) (eqQ (some (vi x)) ((S, T), Y)) := by
      intro z0 ez0
      subst ez0
      refine go_blk rfl [(.iadd, 1, 0, 0, 0, .inl 0)] 147 148 _ _ _ (by decide +kernel) ?_
      show Go _ _ _ _ _ _ 148 [] [vi (((a0 * (S.1 (o + 6) a1.toNatClampNeg)) / y1) + (((if y3.1 ≤ y3.2 then 0 else 1) : Int32)))] ((S, T), Y) _
      obtain rfl := Option.some.inj h
      exact go_ireturn (by decide +kernel) rfl rfl ⟨rfl, rfl⟩
    clear h
    by_cases q12 : y3.1 ≤ y3.2
    · refine go_icmp_ge (off := 7) (tgt := 146) (by decide +kernel) (by decide) (fun _ => ?_) (fun z => absurd q12 z)
      refine go_blk rfl [(.iconst 0, 1, 0, 0, 0, .inl 0)] 146 147 _ _ _ (by decide +kernel) ?_
      show Go _ _ _ _ _ _ 147 [(0, rc o), (1, vi a0), (2, vi a1), (3, vi y1), (4, vi y3.1), (5, vi y3.2)] [vi 0, vi ((a0 * (S.1 (o + 6) a1.toNatClampNeg)) / y1)] ((S, T), Y) _
      refine go_pick [] rfl ?_; exact key _ (by rw [if_pos q12])
    · refine go_icmp_ge (off := 7) (tgt := 146) (by decide +kernel) (by decide) (fun z => absurd z q12) (fun _ => ?_)
      refine go_blk rfl [(.iconst 1, 1, 0, 0, 0, .inl 1)] 142 143 _ _ _ (by decide +kernel) ?_
      show Go _ _ _ _ _ _ 143 [(0, rc o), (1, vi a0), (2, vi a1), (3, vi y1), (4, vi y3.1), (5, vi y3.2)] [vi 1, vi ((a0 * (S.1 (o + 6) a1.toNatClampNeg)) / y1)] ((S, T), Y) _
      refine go_goto (off := 4) (tgt := 147) (by decide +kernel) (by decide) ?_
      refine go_pick [] rfl ?_; exact key _ (by rw [if_neg q12])
  · refine go_icmp_ge (off := 5) (tgt := 37) (by decide +kernel) (by decide) (fun z => absurd z q3) (fun _ => ?_)
    refine go_blk rfl [(.iconst 0, 1, 0, 0, 0, .inl 0)] 35 36 _ _ _ (by decide +kernel) ?_
    show Go _ _ _ _ _ _ 36 [(0, rc o), (1, vi a0), (2, vi a1), (3, vi y1)] [vi 0] ((S, T), Y) _
    obtain rfl := Option.some.inj h
    exact go_ireturn (by decide +kernel) rfl rfl ⟨rfl, rfl⟩
def f9_rewind (S : jS) : Option (jS × Unit) := some (wI (wI (wI S 1 2 0) 1 3 0) 1 6 0, ())
theorem ret9_rewind {S : jS} {T : jT} {Y : jS × jT} {S1 : jS} {x : Unit} (hT : LayC T) (h : f9_rewind S = some (S1, x)) : Ret M9_rewind 1 0 0 [rc 1] ((S, T), Y) (none) ((S1, T), Y) := by
  refine Ret.of (by decide +kernel) (Nat.le_of_ble_eq_true rfl) ?_
  unfold f9_rewind at h
  show Go _ _ _ _ _ _ 0 [(0, rc 1)] [] ((S, T), Y) _
  refine go_blk rfl [(.aload_n 0, 1, 0, 0, 0, .inl 0), (.iconst 0, 1, 0, 0, 0, .inl 0), (.putfield 19, 3, 9, 2, 0, .inl 0)] 0 5 _ _ _ (by decide +kernel) ?_
  refine And.intro (lc_t1 hT) (And.intro trivial ?_)
  show Go _ _ _ _ _ _ 5 [(0, rc 1)] [] ((wI S 1 2 0, T), Y) _
  refine go_blk rfl [(.aload_n 0, 1, 0, 0, 0, .inl 0), (.iconst 0, 1, 0, 0, 0, .inl 0), (.putfield 22, 3, 9, 3, 0, .inl 0)] 5 10 _ _ _ (by decide +kernel) ?_
  refine And.intro (lc_t1 hT) (And.intro trivial ?_)
  show Go _ _ _ _ _ _ 10 [(0, rc 1)] [] ((wI (wI S 1 2 0) 1 3 0, T), Y) _
  refine go_blk rfl [(.aload_n 0, 1, 0, 0, 0, .inl 0), (.iconst 0, 1, 0, 0, 0, .inl 0), (.putfield 31, 3, 9, 6, 0, .inl 0)] 10 15 _ _ _ (by decide +kernel) ?_
  refine And.intro (lc_t1 hT) (And.intro trivial ?_)
  show Go _ _ _ _ _ _ 15 [(0, rc 1)] [] ((wI (wI (wI S 1 2 0) 1 3 0) 1 6 0, T), Y) _
  obtain ⟨rfl, rfl⟩ := Prod.mk.inj (Option.some.inj h)
  exact go_return (by decide +kernel) rfl ⟨rfl, rfl⟩
def f9_isLetter (a0 : Int32) : Option Int32 := (if a0 < 97 then some 0 else (if 122 < a0 then some 0 else some 1))
theorem ret9_isLetter {μ : jMem} {a0 : Int32} {x : Int32} (h : f9_isLetter a0 = some x) : Ret M9_isLetter 1 0 0 [vi a0] μ (some (vi x)) μ := by
  refine Ret.of (by decide +kernel) (Nat.le_of_ble_eq_true rfl) ?_
  unfold f9_isLetter at h
  show Go _ _ _ _ _ _ 0 [(0, vi a0)] [] μ _
  refine go_blk rfl [(.iload_n 0, 1, 0, 0, 0, .inl 0), (.bipush 97, 2, 0, 0, 0, .inl 97)] 0 3 _ _ _ (by decide +kernel) ?_
  show Go _ _ _ _ _ _ 3 [(0, vi a0)] [vi 97, vi a0] μ _
  refine ite_el h (fun q1 h => ?_) (fun q1 h => ?_)
  · refine go_icmp_lt (off := 13) (tgt := 16) (by decide +kernel) (by decide) (fun _ => ?_) (fun z => absurd q1 z)
    refine go_blk rfl [(.iconst 0, 1, 0, 0, 0, .inl 0)] 16 17 _ _ _ (by decide +kernel) ?_
    show Go _ _ _ _ _ _ 17 [(0, vi a0)] [vi 0] μ _
    obtain rfl := Option.some.inj h
    exact go_ireturn (by decide +kernel) rfl rfl ⟨rfl, rfl⟩
  · refine go_icmp_lt (off := 13) (tgt := 16) (by decide +kernel) (by decide) (fun z => absurd z q1) (fun _ => ?_)
    refine go_blk rfl [(.iload_n 0, 1, 0, 0, 0, .inl 0), (.bipush 122, 2, 0, 0, 0, .inl 122)] 6 9 _ _ _ (by decide +kernel) ?_
    show Go _ _ _ _ _ _ 9 [(0, vi a0)] [vi 122, vi a0] μ _
    refine ite_el h (fun q2 h => ?_) (fun q2 h => ?_)
    · refine go_icmp_gt (off := 7) (tgt := 16) (by decide +kernel) (by decide) (fun _ => ?_) (fun z => absurd q2 z)
      refine go_blk rfl [(.iconst 0, 1, 0, 0, 0, .inl 0)] 16 17 _ _ _ (by decide +kernel) ?_
      show Go _ _ _ _ _ _ 17 [(0, vi a0)] [vi 0] μ _
      obtain rfl := Option.some.inj h
      exact go_ireturn (by decide +kernel) rfl rfl ⟨rfl, rfl⟩
    · refine go_icmp_gt (off := 7) (tgt := 16) (by decide +kernel) (by decide) (fun z => absurd z q2) (fun _ => ?_)
      refine go_blk rfl [(.iconst 1, 1, 0, 0, 0, .inl 1)] 12 13 _ _ _ (by decide +kernel) ?_
      show Go _ _ _ _ _ _ 13 [(0, vi a0)] [vi 1] μ _
      refine go_goto (off := 4) (tgt := 17) (by decide +kernel) (by decide) ?_
      obtain rfl := Option.some.inj h
      exact go_ireturn (by decide +kernel) rfl rfl ⟨rfl, rfl⟩
def f9_wordOf (a0 : Int32) : Option Nat := (if a0 = 0 then some 13 else (if a0 = 1 then some 15 else (if a0 = 2 then some 6 else (if a0 = 3 then some 3 else (if a0 = 4 then some 8 else (if a0 = 5 then some 1 else (if a0 = 6 then some 4 else (if a0 = 7 then some 16 else (if a0 = 8 then some 9 else (if a0 = 9 then some 17 else (if a0 = 10 then some 14 else (if a0 = 11 then some 7 else (if a0 = 12 then some 11 else (if a0 = 13 then some 0 else (if a0 = 14 then some 10 else (if a0 = 15 then some 12 else (if a0 = 16 then some 2 else some 5)))))))))))))))))
theorem f9_wordOf_lt {a0 : Int32} {x : Nat} (h : f9_wordOf a0 = some x) : x < 18 := by
  unfold f9_wordOf at h
  repeat' (refine ite_el h (fun _ h => ?_) (fun _ h => ?_))
  all_goals (obtain rfl := Option.some.inj h; decide)
theorem ret9_wordOf {μ : jMem} {a0 : Int32} {x : Nat} (h : f9_wordOf a0 = some x) : Ret M9_wordOf 1 0 0 [vi a0] μ (some (rs x)) μ := by
  refine Ret.of (by decide +kernel) (Nat.le_of_ble_eq_true rfl) ?_
  unfold f9_wordOf at h
  show Go _ _ _ _ _ _ 0 [(0, vi a0)] [] μ _
  refine go_blk rfl [(.iload_n 0, 1, 0, 0, 0, .inl 0)] 0 1 _ _ _ (by decide +kernel) ?_
  show Go _ _ _ _ _ _ 1 [(0, vi a0)] [vi a0] μ _
  refine ite_el h (fun q1 h => ?_) (fun q1 h => ?_)
  · refine go_tableIn (dflt := 134) (lo := 0) (hi := 16) (offs := #[83, 86, 89, 92, 95, 98, 101, 104, 107, 110, 113, 116, 119, 122, 125, 128, 131]) (len := 83) (off := 83) (tgt := 84) (by decide +kernel) (by rw [q1]; decide) (by rw [q1]; decide) (by rw [q1]; decide) (by decide) ?_
    refine go_blk rfl [(.ldc 72, 2, 0, 0, 0, .inr (.inr (some (.inr (.inr 13)))))] 84 86 _ _ _ (by decide +kernel) ?_
    show Go _ _ _ _ _ _ 86 [(0, vi a0)] [rs 13] μ _
    obtain rfl := Option.some.inj h
    exact go_areturn (by decide +kernel) rfl rfl ⟨rfl, rfl⟩
  refine ite_el h (fun q2 h => ?_) (fun q2 h => ?_)
  · refine go_tableIn (dflt := 134) (lo := 0) (hi := 16) (offs := #[83, 86, 89, 92, 95, 98, 101, 104, 107, 110, 113, 116, 119, 122, 125, 128, 131]) (len := 83) (off := 86) (tgt := 87) (by decide +kernel) (by rw [q2]; decide) (by rw [q2]; decide) (by rw [q2]; decide) (by decide) ?_
    refine go_blk rfl [(.ldc 74, 2, 0, 0, 0, .inr (.inr (some (.inr (.inr 15)))))] 87 89 _ _ _ (by decide +kernel) ?_
    show Go _ _ _ _ _ _ 89 [(0, vi a0)] [rs 15] μ _
    obtain rfl := Option.some.inj h
    exact go_areturn (by decide +kernel) rfl rfl ⟨rfl, rfl⟩
  refine ite_el h (fun q3 h => ?_) (fun q3 h => ?_)
  · refine go_tableIn (dflt := 134) (lo := 0) (hi := 16) (offs := #[83, 86, 89, 92, 95, 98, 101, 104, 107, 110, 113, 116, 119, 122, 125, 128, 131]) (len := 83) (off := 89) (tgt := 90) (by decide +kernel) (by rw [q3]; decide) (by rw [q3]; decide) (by rw [q3]; decide) (by decide) ?_
    refine go_blk rfl [(.ldc 76, 2, 0, 0, 0, .inr (.inr (some (.inr (.inr 6)))))] 90 92 _ _ _ (by decide +kernel) ?_
    show Go _ _ _ _ _ _ 92 [(0, vi a0)] [rs 6] μ _
    obtain rfl := Option.some.inj h
    exact go_areturn (by decide +kernel) rfl rfl ⟨rfl, rfl⟩
  refine ite_el h (fun q4 h => ?_) (fun q4 h => ?_)
  · refine go_tableIn (dflt := 134) (lo := 0) (hi := 16) (offs := #[83, 86, 89, 92, 95, 98, 101, 104, 107, 110, 113, 116, 119, 122, 125, 128, 131]) (len := 83) (off := 92) (tgt := 93) (by decide +kernel) (by rw [q4]; decide) (by rw [q4]; decide) (by rw [q4]; decide) (by decide) ?_
    refine go_blk rfl [(.ldc 78, 2, 0, 0, 0, .inr (.inr (some (.inr (.inr 3)))))] 93 95 _ _ _ (by decide +kernel) ?_
    show Go _ _ _ _ _ _ 95 [(0, vi a0)] [rs 3] μ _
    obtain rfl := Option.some.inj h
    exact go_areturn (by decide +kernel) rfl rfl ⟨rfl, rfl⟩
  refine ite_el h (fun q5 h => ?_) (fun q5 h => ?_)
  · refine go_tableIn (dflt := 134) (lo := 0) (hi := 16) (offs := #[83, 86, 89, 92, 95, 98, 101, 104, 107, 110, 113, 116, 119, 122, 125, 128, 131]) (len := 83) (off := 95) (tgt := 96) (by decide +kernel) (by rw [q5]; decide) (by rw [q5]; decide) (by rw [q5]; decide) (by decide) ?_
    refine go_blk rfl [(.ldc 80, 2, 0, 0, 0, .inr (.inr (some (.inr (.inr 8)))))] 96 98 _ _ _ (by decide +kernel) ?_
    show Go _ _ _ _ _ _ 98 [(0, vi a0)] [rs 8] μ _
    obtain rfl := Option.some.inj h
    exact go_areturn (by decide +kernel) rfl rfl ⟨rfl, rfl⟩
  refine ite_el h (fun q6 h => ?_) (fun q6 h => ?_)
  · refine go_tableIn (dflt := 134) (lo := 0) (hi := 16) (offs := #[83, 86, 89, 92, 95, 98, 101, 104, 107, 110, 113, 116, 119, 122, 125, 128, 131]) (len := 83) (off := 98) (tgt := 99) (by decide +kernel) (by rw [q6]; decide) (by rw [q6]; decide) (by rw [q6]; decide) (by decide) ?_
    refine go_blk rfl [(.ldc 82, 2, 0, 0, 0, .inr (.inr (some (.inr (.inr 1)))))] 99 101 _ _ _ (by decide +kernel) ?_
    show Go _ _ _ _ _ _ 101 [(0, vi a0)] [rs 1] μ _
    obtain rfl := Option.some.inj h
    exact go_areturn (by decide +kernel) rfl rfl ⟨rfl, rfl⟩
  refine ite_el h (fun q7 h => ?_) (fun q7 h => ?_)
  · refine go_tableIn (dflt := 134) (lo := 0) (hi := 16) (offs := #[83, 86, 89, 92, 95, 98, 101, 104, 107, 110, 113, 116, 119, 122, 125, 128, 131]) (len := 83) (off := 101) (tgt := 102) (by decide +kernel) (by rw [q7]; decide) (by rw [q7]; decide) (by rw [q7]; decide) (by decide) ?_
    refine go_blk rfl [(.ldc 84, 2, 0, 0, 0, .inr (.inr (some (.inr (.inr 4)))))] 102 104 _ _ _ (by decide +kernel) ?_
    show Go _ _ _ _ _ _ 104 [(0, vi a0)] [rs 4] μ _
    obtain rfl := Option.some.inj h
    exact go_areturn (by decide +kernel) rfl rfl ⟨rfl, rfl⟩
  refine ite_el h (fun q8 h => ?_) (fun q8 h => ?_)
  · refine go_tableIn (dflt := 134) (lo := 0) (hi := 16) (offs := #[83, 86, 89, 92, 95, 98, 101, 104, 107, 110, 113, 116, 119, 122, 125, 128, 131]) (len := 83) (off := 104) (tgt := 105) (by decide +kernel) (by rw [q8]; decide) (by rw [q8]; decide) (by rw [q8]; decide) (by decide) ?_
    refine go_blk rfl [(.ldc 86, 2, 0, 0, 0, .inr (.inr (some (.inr (.inr 16)))))] 105 107 _ _ _ (by decide +kernel) ?_
    show Go _ _ _ _ _ _ 107 [(0, vi a0)] [rs 16] μ _
    obtain rfl := Option.some.inj h
    exact go_areturn (by decide +kernel) rfl rfl ⟨rfl, rfl⟩
  refine ite_el h (fun q9 h => ?_) (fun q9 h => ?_)
  · refine go_tableIn (dflt := 134) (lo := 0) (hi := 16) (offs := #[83, 86, 89, 92, 95, 98, 101, 104, 107, 110, 113, 116, 119, 122, 125, 128, 131]) (len := 83) (off := 107) (tgt := 108) (by decide +kernel) (by rw [q9]; decide) (by rw [q9]; decide) (by rw [q9]; decide) (by decide) ?_
    refine go_blk rfl [(.ldc 88, 2, 0, 0, 0, .inr (.inr (some (.inr (.inr 9)))))] 108 110 _ _ _ (by decide +kernel) ?_
    show Go _ _ _ _ _ _ 110 [(0, vi a0)] [rs 9] μ _
    obtain rfl := Option.some.inj h
    exact go_areturn (by decide +kernel) rfl rfl ⟨rfl, rfl⟩
  refine ite_el h (fun q10 h => ?_) (fun q10 h => ?_)
  · refine go_tableIn (dflt := 134) (lo := 0) (hi := 16) (offs := #[83, 86, 89, 92, 95, 98, 101, 104, 107, 110, 113, 116, 119, 122, 125, 128, 131]) (len := 83) (off := 110) (tgt := 111) (by decide +kernel) (by rw [q10]; decide) (by rw [q10]; decide) (by rw [q10]; decide) (by decide) ?_
    refine go_blk rfl [(.ldc 90, 2, 0, 0, 0, .inr (.inr (some (.inr (.inr 17)))))] 111 113 _ _ _ (by decide +kernel) ?_
    show Go _ _ _ _ _ _ 113 [(0, vi a0)] [rs 17] μ _
    obtain rfl := Option.some.inj h
    exact go_areturn (by decide +kernel) rfl rfl ⟨rfl, rfl⟩
  refine ite_el h (fun q11 h => ?_) (fun q11 h => ?_)
  · refine go_tableIn (dflt := 134) (lo := 0) (hi := 16) (offs := #[83, 86, 89, 92, 95, 98, 101, 104, 107, 110, 113, 116, 119, 122, 125, 128, 131]) (len := 83) (off := 113) (tgt := 114) (by decide +kernel) (by rw [q11]; decide) (by rw [q11]; decide) (by rw [q11]; decide) (by decide) ?_
    refine go_blk rfl [(.ldc 92, 2, 0, 0, 0, .inr (.inr (some (.inr (.inr 14)))))] 114 116 _ _ _ (by decide +kernel) ?_
    show Go _ _ _ _ _ _ 116 [(0, vi a0)] [rs 14] μ _
    obtain rfl := Option.some.inj h
    exact go_areturn (by decide +kernel) rfl rfl ⟨rfl, rfl⟩
  refine ite_el h (fun q12 h => ?_) (fun q12 h => ?_)
  · refine go_tableIn (dflt := 134) (lo := 0) (hi := 16) (offs := #[83, 86, 89, 92, 95, 98, 101, 104, 107, 110, 113, 116, 119, 122, 125, 128, 131]) (len := 83) (off := 116) (tgt := 117) (by decide +kernel) (by rw [q12]; decide) (by rw [q12]; decide) (by rw [q12]; decide) (by decide) ?_
    refine go_blk rfl [(.ldc 94, 2, 0, 0, 0, .inr (.inr (some (.inr (.inr 7)))))] 117 119 _ _ _ (by decide +kernel) ?_
    show Go _ _ _ _ _ _ 119 [(0, vi a0)] [rs 7] μ _
    obtain rfl := Option.some.inj h
    exact go_areturn (by decide +kernel) rfl rfl ⟨rfl, rfl⟩
  refine ite_el h (fun q13 h => ?_) (fun q13 h => ?_)
  · refine go_tableIn (dflt := 134) (lo := 0) (hi := 16) (offs := #[83, 86, 89, 92, 95, 98, 101, 104, 107, 110, 113, 116, 119, 122, 125, 128, 131]) (len := 83) (off := 119) (tgt := 120) (by decide +kernel) (by rw [q13]; decide) (by rw [q13]; decide) (by rw [q13]; decide) (by decide) ?_
    refine go_blk rfl [(.ldc 96, 2, 0, 0, 0, .inr (.inr (some (.inr (.inr 11)))))] 120 122 _ _ _ (by decide +kernel) ?_
    show Go _ _ _ _ _ _ 122 [(0, vi a0)] [rs 11] μ _
    obtain rfl := Option.some.inj h
    exact go_areturn (by decide +kernel) rfl rfl ⟨rfl, rfl⟩
  refine ite_el h (fun q14 h => ?_) (fun q14 h => ?_)
  · refine go_tableIn (dflt := 134) (lo := 0) (hi := 16) (offs := #[83, 86, 89, 92, 95, 98, 101, 104, 107, 110, 113, 116, 119, 122, 125, 128, 131]) (len := 83) (off := 122) (tgt := 123) (by decide +kernel) (by rw [q14]; decide) (by rw [q14]; decide) (by rw [q14]; decide) (by decide) ?_
    refine go_blk rfl [(.ldc 98, 2, 0, 0, 0, .inr (.inr (some (.inr (.inr 0)))))] 123 125 _ _ _ (by decide +kernel) ?_
    show Go _ _ _ _ _ _ 125 [(0, vi a0)] [rs 0] μ _
    obtain rfl := Option.some.inj h
    exact go_areturn (by decide +kernel) rfl rfl ⟨rfl, rfl⟩
  refine ite_el h (fun q15 h => ?_) (fun q15 h => ?_)
  · refine go_tableIn (dflt := 134) (lo := 0) (hi := 16) (offs := #[83, 86, 89, 92, 95, 98, 101, 104, 107, 110, 113, 116, 119, 122, 125, 128, 131]) (len := 83) (off := 125) (tgt := 126) (by decide +kernel) (by rw [q15]; decide) (by rw [q15]; decide) (by rw [q15]; decide) (by decide) ?_
    refine go_blk rfl [(.ldc 100, 2, 0, 0, 0, .inr (.inr (some (.inr (.inr 10)))))] 126 128 _ _ _ (by decide +kernel) ?_
    show Go _ _ _ _ _ _ 128 [(0, vi a0)] [rs 10] μ _
    obtain rfl := Option.some.inj h
    exact go_areturn (by decide +kernel) rfl rfl ⟨rfl, rfl⟩
  refine ite_el h (fun q16 h => ?_) (fun q16 h => ?_)
  · refine go_tableIn (dflt := 134) (lo := 0) (hi := 16) (offs := #[83, 86, 89, 92, 95, 98, 101, 104, 107, 110, 113, 116, 119, 122, 125, 128, 131]) (len := 83) (off := 128) (tgt := 129) (by decide +kernel) (by rw [q16]; decide) (by rw [q16]; decide) (by rw [q16]; decide) (by decide) ?_
    refine go_blk rfl [(.ldc 102, 2, 0, 0, 0, .inr (.inr (some (.inr (.inr 12)))))] 129 131 _ _ _ (by decide +kernel) ?_
    show Go _ _ _ _ _ _ 131 [(0, vi a0)] [rs 12] μ _
    obtain rfl := Option.some.inj h
    exact go_areturn (by decide +kernel) rfl rfl ⟨rfl, rfl⟩
  refine ite_el h (fun q17 h => ?_) (fun q17 h => ?_)
  · refine go_tableIn (dflt := 134) (lo := 0) (hi := 16) (offs := #[83, 86, 89, 92, 95, 98, 101, 104, 107, 110, 113, 116, 119, 122, 125, 128, 131]) (len := 83) (off := 131) (tgt := 132) (by decide +kernel) (by rw [q17]; decide) (by rw [q17]; decide) (by rw [q17]; decide) (by decide) ?_
    refine go_blk rfl [(.ldc 104, 2, 0, 0, 0, .inr (.inr (some (.inr (.inr 2)))))] 132 134 _ _ _ (by decide +kernel) ?_
    show Go _ _ _ _ _ _ 134 [(0, vi a0)] [rs 2] μ _
    obtain rfl := Option.some.inj h
    exact go_areturn (by decide +kernel) rfl rfl ⟨rfl, rfl⟩
  refine go_tableOut (dflt := 134) (lo := 0) (hi := 16) (offs := #[83, 86, 89, 92, 95, 98, 101, 104, 107, 110, 113, 116, 119, 122, 125, 128, 131]) (len := 83) (tgt := 135) (by decide +kernel) (by have z0 : a0.toInt ≠ 0 := tb_ne q1 (by decide); have z1 : a0.toInt ≠ 1 := tb_ne q2 (by decide); have z2 : a0.toInt ≠ 2 := tb_ne q3 (by decide); have z3 : a0.toInt ≠ 3 := tb_ne q4 (by decide); have z4 : a0.toInt ≠ 4 := tb_ne q5 (by decide); have z5 : a0.toInt ≠ 5 := tb_ne q6 (by decide); have z6 : a0.toInt ≠ 6 := tb_ne q7 (by decide); have z7 : a0.toInt ≠ 7 := tb_ne q8 (by decide); have z8 : a0.toInt ≠ 8 := tb_ne q9 (by decide); have z9 : a0.toInt ≠ 9 := tb_ne q10 (by decide); have z10 : a0.toInt ≠ 10 := tb_ne q11 (by decide); have z11 : a0.toInt ≠ 11 := tb_ne q12 (by decide); have z12 : a0.toInt ≠ 12 := tb_ne q13 (by decide); have z13 : a0.toInt ≠ 13 := tb_ne q14 (by decide); have z14 : a0.toInt ≠ 14 := tb_ne q15 (by decide); have z15 : a0.toInt ≠ 15 := tb_ne q16 (by decide); have z16 : a0.toInt ≠ 16 := tb_ne q17 (by decide); omega) (by decide) ?_
  refine go_blk rfl [(.ldc 106, 2, 0, 0, 0, .inr (.inr (some (.inr (.inr 5)))))] 135 137 _ _ _ (by decide +kernel) ?_
  show Go _ _ _ _ _ _ 137 [(0, vi a0)] [rs 5] μ _
  obtain rfl := Option.some.inj h
  exact go_areturn (by decide +kernel) rfl rfl ⟨rfl, rfl⟩
