def f0_takeBack (T : jT) (S : jS) (o : Nat) : Option (jS × Int32) := (if (S.1 o 4) < 1 then some (S, 0) else (if inb (irm (((S.1 o 3) + 20) - 1) 20) 20 then (jopt (T.1 (o + 15) (irm (((S.1 o 3) + 20) - 1) 20).toNatClampNeg) (some (S, 0)) (fun b3 => Option.bind (f4_copyFrom S (o + 8) b3) (fun r1 => some (wI (wI r1.1 o 3 (irm (((S.1 o 3) + 20) - 1) 20)) o 4 (((wI r1.1 o 3 (irm (((S.1 o 3) + 20) - 1) 20)).1 o 4) - 1), 1)))) else none))
theorem ret0_takeBack {S : jS} {T : jT} {Y : jS × jT} {o : Nat} {S1 : jS} {x : Int32} (hh : LayBook T o) (h : f0_takeBack T S o = some (S1, x)) : Ret M0_takeBack 3 0 0 [rc o] ((S, T), Y) (some (vi x)) ((S1, T), Y) := by
  refine Ret.of (by decide +kernel) (Nat.le_of_ble_eq_true rfl) ?_
  unfold f0_takeBack at h
  show Go _ _ _ _ _ _ 0 [(0, rc o)] [] ((S, T), Y) _
  refine go_blk rfl [(.aload_n 0, 1, 0, 0, 0, .inl 0), (.getfield 25, 3, 0, 3, 0, .inl 0), (.bipush 20, 2, 0, 0, 0, .inl 20), (.iadd, 1, 0, 0, 0, .inl 0), (.iconst 1, 1, 0, 0, 0, .inl 1), (.isub, 1, 0, 0, 0, .inl 0), (.bipush 20, 2, 0, 0, 0, .inl 20), (.irem, 1, 0, 0, 0, .inl 0), (.istore_n 1, 1, 1, 0, 0, .inl 0), (.aload_n 0, 1, 0, 0, 0, .inl 0), (.getfield 29, 3, 0, 4, 0, .inl 0), (.iconst 1, 1, 0, 0, 0, .inl 1)] 0 18 _ _ _ (by decide +kernel) ?_
  refine And.intro hh.1 ?_
  refine And.intro (by decide) ?_
  refine And.intro hh.1 ?_
  show Go _ _ _ _ _ _ 18 [(1, vi (irm (((S.1 o 3) + 20) - 1) 20)), (0, rc o)] [vi 1, vi (S.1 o 4)] ((S, T), Y) _
  refine ite_el h (fun q1 h => ?_) (fun q1 h => ?_)
  · refine go_icmp_lt (off := 12) (tgt := 30) (by decide +kernel) (by decide) (fun _ => ?_) (fun z => absurd q1 z)
    refine go_blk rfl [(.iconst 0, 1, 0, 0, 0, .inl 0)] 30 31 _ _ _ (by decide +kernel) ?_
    show Go _ _ _ _ _ _ 31 [(1, vi (irm (((S.1 o 3) + 20) - 1) 20)), (0, rc o)] [vi 0] ((S, T), Y) _
    obtain ⟨rfl, rfl⟩ := Prod.mk.inj (Option.some.inj h)
    exact go_ireturn (by decide +kernel) rfl rfl ⟨rfl, rfl⟩
  · refine go_icmp_lt (off := 12) (tgt := 30) (by decide +kernel) (by decide) (fun z => absurd z q1) (fun _ => ?_)
    refine gd_el h (fun q2 h => ?_)
    refine go_blk rfl [(.aload_n 0, 1, 0, 0, 0, .inl 0), (.getfield 21, 3, 0, 2, 1, .inl 0), (.iload_n 1, 1, 1, 0, 0, .inl 0), (.aaload, 1, 24, 0, 0, .inl 0)] 21 27 _ _ _ (by decide +kernel) ?_
    refine And.intro hh.1 (Exists.intro _ (And.intro (gRc hh.2.2.2.1.1) ?_))
    refine And.intro hh.2.2.2.1.2.1 (Exists.intro _ (And.intro hh.2.2.2.1.2.2 (And.intro (inb_in q2) (Exists.intro _ (And.intro gRo ?_)))))
    show Go _ _ _ _ _ _ 27 [(1, vi (irm (((S.1 o 3) + 20) - 1) 20)), (0, rc o)] [vo (T.1 (o + 15) (irm (((S.1 o 3) + 20) - 1) 20).toNatClampNeg)] ((S, T), Y) _
    rcases opt_cs h with ⟨o4, h⟩ | ⟨b3, o4, h⟩
    · rw [o4]
      refine go_ifnonnull (off := 5) (tgt := 32) (by decide +kernel) (by decide) (fun z => absurd rfl z) (fun _ => ?_)
      show Go _ _ _ _ _ _ 30 [(1, vi (irm (((S.1 o 3) + 20) - 1) 20)), (0, rc o)] [] ((S, T), Y) _
      refine go_blk rfl [(.iconst 0, 1, 0, 0, 0, .inl 0)] 30 31 _ _ _ (by decide +kernel) ?_
      show Go _ _ _ _ _ _ 31 [(1, vi (irm (((S.1 o 3) + 20) - 1) 20)), (0, rc o)] [vi 0] ((S, T), Y) _
      obtain ⟨rfl, rfl⟩ := Prod.mk.inj (Option.some.inj h)
      exact go_ireturn (by decide +kernel) rfl rfl ⟨rfl, rfl⟩
    · rw [o4]
      refine go_ifnonnull (off := 5) (tgt := 32) (by decide +kernel) (by decide) (fun _ => ?_) (fun z => by cases z)
      show Go _ _ _ _ _ _ 32 [(1, vi (irm (((S.1 o 3) + 20) - 1) 20)), (0, rc o)] [] ((S, T), Y) _
      refine go_blk rfl [(.aload_n 0, 1, 0, 0, 0, .inl 0), (.getfield 18, 3, 0, 1, 1, .inl 0), (.aload_n 0, 1, 0, 0, 0, .inl 0), (.getfield 21, 3, 0, 2, 1, .inl 0), (.iload_n 1, 1, 1, 0, 0, .inl 0), (.aaload, 1, 24, 0, 0, .inl 0)] 32 42 _ _ _ (by decide +kernel) ?_
      refine And.intro hh.1 (Exists.intro _ (And.intro (gRc hh.2.2.1.1) ?_))
      refine And.intro hh.1 (Exists.intro _ (And.intro (gRc hh.2.2.2.1.1) ?_))
      refine And.intro hh.2.2.2.1.2.1 (Exists.intro _ (And.intro hh.2.2.2.1.2.2 (And.intro (inb_in q2) (Exists.intro _ (And.intro (gRc o4) ?_)))))
      show Go _ _ _ _ _ _ 42 [(1, vi (irm (((S.1 o 3) + 20) - 1) 20)), (0, rc o)] [rc b3, rc (o + 8)] ((S, T), Y) _
      obtain ⟨r1, hr1, h⟩ := bind_el h
      refine go_callV (idx := 51) (z := 1) (M' := M4_copyFrom) (n := 1) (A := [rc b3]) (v' := none) (μ' := ((r1.1, T), Y)) (d' := 2) (mc' := 0) (ms' := 0) (kc' := 0) (ks' := 0) (ci := 4) (x := .inl (o + 8)) (by decide +kernel) ml_0_51 rfl wv4_copyFrom rfl (by decide) rfl (hh.2.2.1.2).1 (ret4_copyFrom (hh.2.2.1.2) ((hh.2.2.2.2.2.2.2 (irm (((S.1 o 3) + 20) - 1) 20).toNatClampNeg) b3 o4) hr1) (by decide) rfl rfl (Nat.le_of_ble_eq_true rfl) rfl (jag rfl rfl) ?_
      show Go _ _ _ _ _ _ 45 [(1, vi (irm (((S.1 o 3) + 20) - 1) 20)), (0, rc o)] [] ((r1.1, T), Y) _
      refine go_blk rfl [(.aload_n 0, 1, 0, 0, 0, .inl 0), (.iload_n 1, 1, 1, 0, 0, .inl 0), (.putfield 25, 3, 0, 3, 0, .inl 0)] 45 50 _ _ _ (by decide +kernel) ?_
      refine And.intro hh.1 (And.intro trivial ?_)
      show Go _ _ _ _ _ _ 50 [(1, vi (irm (((S.1 o 3) + 20) - 1) 20)), (0, rc o)] [] ((wI r1.1 o 3 (irm (((S.1 o 3) + 20) - 1) 20), T), Y) _
      refine go_blk rfl [(.aload_n 0, 1, 0, 0, 0, .inl 0), (.dup, 1, 0, 0, 0, .inl 0), (.getfield 29, 3, 0, 4, 0, .inl 0), (.iconst 1, 1, 0, 0, 0, .inl 1), (.isub, 1, 0, 0, 0, .inl 0), (.putfield 29, 3, 0, 4, 0, .inl 0)] 50 60 _ _ _ (by decide +kernel) ?_
      refine And.intro hh.1 ?_
      refine And.intro hh.1 (And.intro trivial ?_)
      show Go _ _ _ _ _ _ 60 [(1, vi (irm (((S.1 o 3) + 20) - 1) 20)), (0, rc o)] [] ((wI (wI r1.1 o 3 (irm (((S.1 o 3) + 20) - 1) 20)) o 4 (((wI r1.1 o 3 (irm (((S.1 o 3) + 20) - 1) 20)).1 o 4) - 1), T), Y) _
      refine go_blk rfl [(.iconst 1, 1, 0, 0, 0, .inl 1)] 60 61 _ _ _ (by decide +kernel) ?_
      show Go _ _ _ _ _ _ 61 [(1, vi (irm (((S.1 o 3) + 20) - 1) 20)), (0, rc o)] [vi 1] ((wI (wI r1.1 o 3 (irm (((S.1 o 3) + 20) - 1) 20)) o 4 (((wI r1.1 o 3 (irm (((S.1 o 3) + 20) - 1) 20)).1 o 4) - 1), T), Y) _
      obtain ⟨rfl, rfl⟩ := Prod.mk.inj (Option.some.inj h)
      exact go_ireturn (by decide +kernel) rfl rfl ⟨rfl, rfl⟩
def f0_addNote (S : jS) (o : Nat) (a0 : Int32) (a1 : Int32) (a2 : Int32) : Option (jS × Int32) := (if (S.1 o 8) < 10 then (if inb (S.1 o 8) 10 then (if inb ((wI S (o + 16) (S.1 o 8).toNatClampNeg a0).1 o 8) 10 then (if inb ((wI (wI S (o + 16) (S.1 o 8).toNatClampNeg a0) (o + 17) ((wI S (o + 16) (S.1 o 8).toNatClampNeg a0).1 o 8).toNatClampNeg a1).1 o 8) 10 then some (wI (wI (wI (wI S (o + 16) (S.1 o 8).toNatClampNeg a0) (o + 17) ((wI S (o + 16) (S.1 o 8).toNatClampNeg a0).1 o 8).toNatClampNeg a1) (o + 18) ((wI (wI S (o + 16) (S.1 o 8).toNatClampNeg a0) (o + 17) ((wI S (o + 16) (S.1 o 8).toNatClampNeg a0).1 o 8).toNatClampNeg a1).1 o 8).toNatClampNeg a2) o 8 (((wI (wI (wI S (o + 16) (S.1 o 8).toNatClampNeg a0) (o + 17) ((wI S (o + 16) (S.1 o 8).toNatClampNeg a0).1 o 8).toNatClampNeg a1) (o + 18) ((wI (wI S (o + 16) (S.1 o 8).toNatClampNeg a0) (o + 17) ((wI S (o + 16) (S.1 o 8).toNatClampNeg a0).1 o 8).toNatClampNeg a1).1 o 8).toNatClampNeg a2).1 o 8) + 1), 1) else none) else none) else none) else some (S, 0))
theorem ret0_addNote {S : jS} {T : jT} {Y : jS × jT} {o : Nat} {a0 : Int32} {a1 : Int32} {a2 : Int32} {S1 : jS} {x : Int32} (hh : LayBook T o) (h : f0_addNote S o a0 a1 a2 = some (S1, x)) : Ret M0_addNote 1 0 0 [rc o, vi a0, vi a1, vi a2] ((S, T), Y) (some (vi x)) ((S1, T), Y) := by
  refine Ret.of (by decide +kernel) (Nat.le_of_ble_eq_true rfl) ?_
  unfold f0_addNote at h
  show Go _ _ _ _ _ _ 0 [(0, rc o), (1, vi a0), (2, vi a1), (3, vi a2)] [] ((S, T), Y) _
  refine go_blk rfl [(.aload_n 0, 1, 0, 0, 0, .inl 0), (.getfield 42, 3, 0, 8, 0, .inl 0), (.bipush 10, 2, 0, 0, 0, .inl 10)] 0 6 _ _ _ (by decide +kernel) ?_
  refine And.intro hh.1 ?_
  show Go _ _ _ _ _ _ 6 [(0, rc o), (1, vi a0), (2, vi a1), (3, vi a2)] [vi 10, vi (S.1 o 8)] ((S, T), Y) _
  refine ite_el h (fun q1 h => ?_) (fun q1 h => ?_)
  · refine go_icmp_lt (off := 5) (tgt := 11) (by decide +kernel) (by decide) (fun _ => ?_) (fun z => absurd q1 z)
    refine gd_el h (fun q2 h => ?_)
    refine go_blk rfl [(.aload_n 0, 1, 0, 0, 0, .inl 0), (.getfield 32, 3, 0, 5, 1, .inl 0), (.aload_n 0, 1, 0, 0, 0, .inl 0), (.getfield 42, 3, 0, 8, 0, .inl 0), (.iload_n 1, 1, 1, 0, 0, .inl 0), (.iastore, 1, 20, 0, 0, .inl 0)] 11 21 _ _ _ (by decide +kernel) ?_
    refine And.intro hh.1 (Exists.intro _ (And.intro (gRc hh.2.2.2.2.1.1) ?_))
    refine And.intro hh.1 ?_
    refine And.intro hh.2.2.2.2.1.2.1 (Exists.intro _ (And.intro hh.2.2.2.2.1.2.2 (And.intro (inb_in q2) ?_)))
    show Go _ _ _ _ _ _ 21 [(0, rc o), (1, vi a0), (2, vi a1), (3, vi a2)] [] ((wI S (o + 16) (S.1 o 8).toNatClampNeg a0, T), Y) _
    refine gd_el h (fun q3 h => ?_)
    refine go_blk rfl [(.aload_n 0, 1, 0, 0, 0, .inl 0), (.getfield 36, 3, 0, 6, 1, .inl 0), (.aload_n 0, 1, 0, 0, 0, .inl 0), (.getfield 42, 3, 0, 8, 0, .inl 0), (.iload_n 2, 1, 2, 0, 0, .inl 0), (.iastore, 1, 20, 0, 0, .inl 0)] 21 31 _ _ _ (by decide +kernel) ?_
    refine And.intro hh.1 (Exists.intro _ (And.intro (gRc hh.2.2.2.2.2.1.1) ?_))
    refine And.intro hh.1 ?_
    refine And.intro hh.2.2.2.2.2.1.2.1 (Exists.intro _ (And.intro hh.2.2.2.2.2.1.2.2 (And.intro (inb_in q3) ?_)))
    show Go _ _ _ _ _ _ 31 [(0, rc o), (1, vi a0), (2, vi a1), (3, vi a2)] [] ((wI (wI S (o + 16) (S.1 o 8).toNatClampNeg a0) (o + 17) ((wI S (o + 16) (S.1 o 8).toNatClampNeg a0).1 o 8).toNatClampNeg a1, T), Y) _
    refine gd_el h (fun q4 h => ?_)
    refine go_blk rfl [(.aload_n 0, 1, 0, 0, 0, .inl 0), (.getfield 39, 3, 0, 7, 1, .inl 0), (.aload_n 0, 1, 0, 0, 0, .inl 0), (.getfield 42, 3, 0, 8, 0, .inl 0), (.iload_n 3, 1, 3, 0, 0, .inl 0), (.iastore, 1, 20, 0, 0, .inl 0)] 31 41 _ _ _ (by decide +kernel) ?_
    refine And.intro hh.1 (Exists.intro _ (And.intro (gRc hh.2.2.2.2.2.2.1.1) ?_))
    refine And.intro hh.1 ?_
    refine And.intro hh.2.2.2.2.2.2.1.2.1 (Exists.intro _ (And.intro hh.2.2.2.2.2.2.1.2.2 (And.intro (inb_in q4) ?_)))
    show Go _ _ _ _ _ _ 41 [(0, rc o), (1, vi a0), (2, vi a1), (3, vi a2)] [] ((wI (wI (wI S (o + 16) (S.1 o 8).toNatClampNeg a0) (o + 17) ((wI S (o + 16) (S.1 o 8).toNatClampNeg a0).1 o 8).toNatClampNeg a1) (o + 18) ((wI (wI S (o + 16) (S.1 o 8).toNatClampNeg a0) (o + 17) ((wI S (o + 16) (S.1 o 8).toNatClampNeg a0).1 o 8).toNatClampNeg a1).1 o 8).toNatClampNeg a2, T), Y) _
    refine go_blk rfl [(.aload_n 0, 1, 0, 0, 0, .inl 0), (.dup, 1, 0, 0, 0, .inl 0), (.getfield 42, 3, 0, 8, 0, .inl 0), (.iconst 1, 1, 0, 0, 0, .inl 1), (.iadd, 1, 0, 0, 0, .inl 0), (.putfield 42, 3, 0, 8, 0, .inl 0)] 41 51 _ _ _ (by decide +kernel) ?_
    refine And.intro hh.1 ?_
    refine And.intro hh.1 (And.intro trivial ?_)
    show Go _ _ _ _ _ _ 51 [(0, rc o), (1, vi a0), (2, vi a1), (3, vi a2)] [] ((wI (wI (wI (wI S (o + 16) (S.1 o 8).toNatClampNeg a0) (o + 17) ((wI S (o + 16) (S.1 o 8).toNatClampNeg a0).1 o 8).toNatClampNeg a1) (o + 18) ((wI (wI S (o + 16) (S.1 o 8).toNatClampNeg a0) (o + 17) ((wI S (o + 16) (S.1 o 8).toNatClampNeg a0).1 o 8).toNatClampNeg a1).1 o 8).toNatClampNeg a2) o 8 (((wI (wI (wI S (o + 16) (S.1 o 8).toNatClampNeg a0) (o + 17) ((wI S (o + 16) (S.1 o 8).toNatClampNeg a0).1 o 8).toNatClampNeg a1) (o + 18) ((wI (wI S (o + 16) (S.1 o 8).toNatClampNeg a0) (o + 17) ((wI S (o + 16) (S.1 o 8).toNatClampNeg a0).1 o 8).toNatClampNeg a1).1 o 8).toNatClampNeg a2).1 o 8) + 1), T), Y) _
    refine go_blk rfl [(.iconst 1, 1, 0, 0, 0, .inl 1)] 51 52 _ _ _ (by decide +kernel) ?_
    show Go _ _ _ _ _ _ 52 [(0, rc o), (1, vi a0), (2, vi a1), (3, vi a2)] [vi 1] ((wI (wI (wI (wI S (o + 16) (S.1 o 8).toNatClampNeg a0) (o + 17) ((wI S (o + 16) (S.1 o 8).toNatClampNeg a0).1 o 8).toNatClampNeg a1) (o + 18) ((wI (wI S (o + 16) (S.1 o 8).toNatClampNeg a0) (o + 17) ((wI S (o + 16) (S.1 o 8).toNatClampNeg a0).1 o 8).toNatClampNeg a1).1 o 8).toNatClampNeg a2) o 8 (((wI (wI (wI S (o + 16) (S.1 o 8).toNatClampNeg a0) (o + 17) ((wI S (o + 16) (S.1 o 8).toNatClampNeg a0).1 o 8).toNatClampNeg a1) (o + 18) ((wI (wI S (o + 16) (S.1 o 8).toNatClampNeg a0) (o + 17) ((wI S (o + 16) (S.1 o 8).toNatClampNeg a0).1 o 8).toNatClampNeg a1).1 o 8).toNatClampNeg a2).1 o 8) + 1), T), Y) _
    obtain ⟨rfl, rfl⟩ := Prod.mk.inj (Option.some.inj h)
    exact go_ireturn (by decide +kernel) rfl rfl ⟨rfl, rfl⟩
  · refine go_icmp_lt (off := 5) (tgt := 11) (by decide +kernel) (by decide) (fun z => absurd z q1) (fun _ => ?_)
    refine go_blk rfl [(.iconst 0, 1, 0, 0, 0, .inl 0)] 9 10 _ _ _ (by decide +kernel) ?_
    show Go _ _ _ _ _ _ 10 [(0, rc o), (1, vi a0), (2, vi a1), (3, vi a2)] [vi 0] ((S, T), Y) _
    obtain ⟨rfl, rfl⟩ := Prod.mk.inj (Option.some.inj h)
    exact go_ireturn (by decide +kernel) rfl rfl ⟨rfl, rfl⟩
def f13_bitCount (a0 : Int32) : Option Int32 := some ((((((((a0 - ((iush a0 1) &&& 1431655765)) &&& 858993459) + ((iush (a0 - ((iush a0 1) &&& 1431655765)) 2) &&& 858993459)) + (iush (((a0 - ((iush a0 1) &&& 1431655765)) &&& 858993459) + ((iush (a0 - ((iush a0 1) &&& 1431655765)) 2) &&& 858993459)) 4)) &&& 252645135) + (iush (((((a0 - ((iush a0 1) &&& 1431655765)) &&& 858993459) + ((iush (a0 - ((iush a0 1) &&& 1431655765)) 2) &&& 858993459)) + (iush (((a0 - ((iush a0 1) &&& 1431655765)) &&& 858993459) + ((iush (a0 - ((iush a0 1) &&& 1431655765)) 2) &&& 858993459)) 4)) &&& 252645135) 8)) + (iush ((((((a0 - ((iush a0 1) &&& 1431655765)) &&& 858993459) + ((iush (a0 - ((iush a0 1) &&& 1431655765)) 2) &&& 858993459)) + (iush (((a0 - ((iush a0 1) &&& 1431655765)) &&& 858993459) + ((iush (a0 - ((iush a0 1) &&& 1431655765)) 2) &&& 858993459)) 4)) &&& 252645135) + (iush (((((a0 - ((iush a0 1) &&& 1431655765)) &&& 858993459) + ((iush (a0 - ((iush a0 1) &&& 1431655765)) 2) &&& 858993459)) + (iush (((a0 - ((iush a0 1) &&& 1431655765)) &&& 858993459) + ((iush (a0 - ((iush a0 1) &&& 1431655765)) 2) &&& 858993459)) 4)) &&& 252645135) 8)) 16)) &&& 63)
theorem ret13_bitCount {μ : jMem} {a0 : Int32} {x : Int32} (h : f13_bitCount a0 = some x) : Ret M13_bitCount 1 0 0 [vi a0] μ (some (vi x)) μ := by
  refine Ret.of (by decide +kernel) (Nat.le_of_ble_eq_true rfl) ?_
  unfold f13_bitCount at h
  show Go _ _ _ _ _ _ 0 [(0, vi a0)] [] μ _
  refine go_blk rfl [(.iload_n 0, 1, 0, 0, 0, .inl 0), (.iload_n 0, 1, 0, 0, 0, .inl 0), (.iconst 1, 1, 0, 0, 0, .inl 1), (.iushr, 1, 0, 0, 0, .inl 0), (.ldc_w 265, 3, 0, 0, 0, .inl 1431655765), (.iand, 1, 0, 0, 0, .inl 0), (.isub, 1, 0, 0, 0, .inl 0), (.istore_n 0, 1, 0, 0, 0, .inl 0), (.iload_n 0, 1, 0, 0, 0, .inl 0), (.ldc_w 266, 3, 0, 0, 0, .inl 858993459), (.iand, 1, 0, 0, 0, .inl 0), (.iload_n 0, 1, 0, 0, 0, .inl 0), (.iconst 2, 1, 0, 0, 0, .inl 2), (.iushr, 1, 0, 0, 0, .inl 0), (.ldc_w 266, 3, 0, 0, 0, .inl 858993459), (.iand, 1, 0, 0, 0, .inl 0), (.iadd, 1, 0, 0, 0, .inl 0), (.istore_n 0, 1, 0, 0, 0, .inl 0), (.iload_n 0, 1, 0, 0, 0, .inl 0), (.iload_n 0, 1, 0, 0, 0, .inl 0), (.iconst 4, 1, 0, 0, 0, .inl 4), (.iushr, 1, 0, 0, 0, .inl 0), (.iadd, 1, 0, 0, 0, .inl 0), (.ldc_w 267, 3, 0, 0, 0, .inl 252645135), (.iand, 1, 0, 0, 0, .inl 0), (.istore_n 0, 1, 0, 0, 0, .inl 0), (.iload_n 0, 1, 0, 0, 0, .inl 0), (.iload_n 0, 1, 0, 0, 0, .inl 0), (.bipush 8, 2, 0, 0, 0, .inl 8), (.iushr, 1, 0, 0, 0, .inl 0), (.iadd, 1, 0, 0, 0, .inl 0), (.istore_n 0, 1, 0, 0, 0, .inl 0), (.iload_n 0, 1, 0, 0, 0, .inl 0), (.iload_n 0, 1, 0, 0, 0, .inl 0), (.bipush 16, 2, 0, 0, 0, .inl 16), (.iushr, 1, 0, 0, 0, .inl 0), (.iadd, 1, 0, 0, 0, .inl 0), (.istore_n 0, 1, 0, 0, 0, .inl 0), (.iload_n 0, 1, 0, 0, 0, .inl 0), (.bipush 63, 2, 0, 0, 0, .inl 63), (.iand, 1, 0, 0, 0, .inl 0)] 0 52 _ _ _ (by decide +kernel) ?_
  show Go _ _ _ _ _ _ 52 [(0, vi (((((((a0 - ((iush a0 1) &&& 1431655765)) &&& 858993459) + ((iush (a0 - ((iush a0 1) &&& 1431655765)) 2) &&& 858993459)) + (iush (((a0 - ((iush a0 1) &&& 1431655765)) &&& 858993459) + ((iush (a0 - ((iush a0 1) &&& 1431655765)) 2) &&& 858993459)) 4)) &&& 252645135) + (iush (((((a0 - ((iush a0 1) &&& 1431655765)) &&& 858993459) + ((iush (a0 - ((iush a0 1) &&& 1431655765)) 2) &&& 858993459)) + (iush (((a0 - ((iush a0 1) &&& 1431655765)) &&& 858993459) + ((iush (a0 - ((iush a0 1) &&& 1431655765)) 2) &&& 858993459)) 4)) &&& 252645135) 8)) + (iush ((((((a0 - ((iush a0 1) &&& 1431655765)) &&& 858993459) + ((iush (a0 - ((iush a0 1) &&& 1431655765)) 2) &&& 858993459)) + (iush (((a0 - ((iush a0 1) &&& 1431655765)) &&& 858993459) + ((iush (a0 - ((iush a0 1) &&& 1431655765)) 2) &&& 858993459)) 4)) &&& 252645135) + (iush (((((a0 - ((iush a0 1) &&& 1431655765)) &&& 858993459) + ((iush (a0 - ((iush a0 1) &&& 1431655765)) 2) &&& 858993459)) + (iush (((a0 - ((iush a0 1) &&& 1431655765)) &&& 858993459) + ((iush (a0 - ((iush a0 1) &&& 1431655765)) 2) &&& 858993459)) 4)) &&& 252645135) 8)) 16)))] [vi ((((((((a0 - ((iush a0 1) &&& 1431655765)) &&& 858993459) + ((iush (a0 - ((iush a0 1) &&& 1431655765)) 2) &&& 858993459)) + (iush (((a0 - ((iush a0 1) &&& 1431655765)) &&& 858993459) + ((iush (a0 - ((iush a0 1) &&& 1431655765)) 2) &&& 858993459)) 4)) &&& 252645135) + (iush (((((a0 - ((iush a0 1) &&& 1431655765)) &&& 858993459) + ((iush (a0 - ((iush a0 1) &&& 1431655765)) 2) &&& 858993459)) + (iush (((a0 - ((iush a0 1) &&& 1431655765)) &&& 858993459) + ((iush (a0 - ((iush a0 1) &&& 1431655765)) 2) &&& 858993459)) 4)) &&& 252645135) 8)) + (iush ((((((a0 - ((iush a0 1) &&& 1431655765)) &&& 858993459) + ((iush (a0 - ((iush a0 1) &&& 1431655765)) 2) &&& 858993459)) + (iush (((a0 - ((iush a0 1) &&& 1431655765)) &&& 858993459) + ((iush (a0 - ((iush a0 1) &&& 1431655765)) 2) &&& 858993459)) 4)) &&& 252645135) + (iush (((((a0 - ((iush a0 1) &&& 1431655765)) &&& 858993459) + ((iush (a0 - ((iush a0 1) &&& 1431655765)) 2) &&& 858993459)) + (iush (((a0 - ((iush a0 1) &&& 1431655765)) &&& 858993459) + ((iush (a0 - ((iush a0 1) &&& 1431655765)) 2) &&& 858993459)) 4)) &&& 252645135) 8)) 16)) &&& 63)] μ _
  obtain rfl := Option.some.inj h
  exact go_ireturn (by decide +kernel) rfl rfl ⟨rfl, rfl⟩
def f4_isOver (S : jS) (o : Nat) : Option Int32 := Option.bind (f13_bitCount (S.1 o 4)) (fun r1 => (if r1 ≤ 1 then some 1 else (if (S.1 o 3) = 0 then some 1 else some 0)))
theorem ret4_isOver {S : jS} {T : jT} {Y : jS × jT} {o : Nat} {x : Int32} (hh : LayHall T o) (h : f4_isOver S o = some x) : Ret M4_isOver 2 0 0 [rc o] ((S, T), Y) (some (vi x)) ((S, T), Y) := by
  refine Ret.of (by decide +kernel) (Nat.le_of_ble_eq_true rfl) ?_
  unfold f4_isOver at h
  show Go _ _ _ _ _ _ 0 [(0, rc o)] [] ((S, T), Y) _
  refine go_blk rfl [(.aload_n 0, 1, 0, 0, 0, .inl 0), (.getfield 24, 3, 4, 4, 0, .inl 0)] 0 4 _ _ _ (by decide +kernel) ?_
  refine And.intro hh.1 ?_
  show Go _ _ _ _ _ _ 4 [(0, rc o)] [vi (S.1 o 4)] ((S, T), Y) _
  obtain ⟨r1, hr1, h⟩ := bind_el h
  refine go_callS (idx := 61) (z := 0) (M' := M13_bitCount) (n := 1) (A := [vi (S.1 o 4)]) (v' := some (vi r1)) (μ' := ((S, T), Y)) (d' := 1) (mc' := 0) (ms' := 0) (kc' := 0) (ks' := 0) (by decide +kernel) ml_4_61 rfl ws13_bitCount rfl (ret13_bitCount hr1) (by decide) rfl rfl (Nat.le_of_ble_eq_true rfl) rfl (jag rfl rfl) ?_
  show Go _ _ _ _ _ _ 7 [(0, rc o)] [vi r1] ((S, T), Y) _
  refine go_blk rfl [(.iconst 1, 1, 0, 0, 0, .inl 1)] 7 8 _ _ _ (by decide +kernel) ?_
  show Go _ _ _ _ _ _ 8 [(0, rc o)] [vi 1, vi r1] ((S, T), Y) _
  refine ite_el h (fun q1 h => ?_) (fun q1 h => ?_)
  · refine go_icmp_le (off := 10) (tgt := 18) (by decide +kernel) (by decide) (fun _ => ?_) (fun z => absurd q1 z)
    refine go_blk rfl [(.iconst 1, 1, 0, 0, 0, .inl 1)] 18 19 _ _ _ (by decide +kernel) ?_
    show Go _ _ _ _ _ _ 19 [(0, rc o)] [vi 1] ((S, T), Y) _
    refine go_goto (off := 4) (tgt := 23) (by decide +kernel) (by decide) ?_
    obtain rfl := Option.some.inj h
    exact go_ireturn (by decide +kernel) rfl rfl ⟨rfl, rfl⟩
  · refine go_icmp_le (off := 10) (tgt := 18) (by decide +kernel) (by decide) (fun z => absurd z q1) (fun _ => ?_)
    refine go_blk rfl [(.aload_n 0, 1, 0, 0, 0, .inl 0), (.getfield 21, 3, 4, 3, 0, .inl 0)] 11 15 _ _ _ (by decide +kernel) ?_
    refine And.intro hh.1 ?_
    show Go _ _ _ _ _ _ 15 [(0, rc o)] [vi (S.1 o 3)] ((S, T), Y) _
    refine ite_el h (fun q2 h => ?_) (fun q2 h => ?_)
    · refine go_if_ne (off := 7) (tgt := 22) (by decide +kernel) (by decide) (fun z => absurd q2 z) (fun _ => ?_)
      refine go_blk rfl [(.iconst 1, 1, 0, 0, 0, .inl 1)] 18 19 _ _ _ (by decide +kernel) ?_
      show Go _ _ _ _ _ _ 19 [(0, rc o)] [vi 1] ((S, T), Y) _
      refine go_goto (off := 4) (tgt := 23) (by decide +kernel) (by decide) ?_
      obtain rfl := Option.some.inj h
      exact go_ireturn (by decide +kernel) rfl rfl ⟨rfl, rfl⟩
    · refine go_if_ne (off := 7) (tgt := 22) (by decide +kernel) (by decide) (fun _ => ?_) (fun z => absurd z q2)
      refine go_blk rfl [(.iconst 0, 1, 0, 0, 0, .inl 0)] 22 23 _ _ _ (by decide +kernel) ?_
      show Go _ _ _ _ _ _ 23 [(0, rc o)] [vi 0] ((S, T), Y) _
      obtain rfl := Option.some.inj h
      exact go_ireturn (by decide +kernel) rfl rfl ⟨rfl, rfl⟩
def f6_pop (S : jS) (o : Nat) : Option (jS × Int64) := (if (S.1 o 2) ≤ 0 then some (S, 0) else (if (S.1 o 2) ≤ 64 then (if inb ((wI S o 2 ((S.1 o 2) - 1)).1 o 2) 64 then some (wI S o 2 ((S.1 o 2) - 1), (wI S o 2 ((S.1 o 2) - 1)).2 (o + 2) ((wI S o 2 ((S.1 o 2) - 1)).1 o 2).toNatClampNeg) else none) else some (S, 0)))
theorem ret6_pop {S : jS} {T : jT} {Y : jS × jT} {o : Nat} {S1 : jS} {x : Int64} (hh : LayRule T o) (h : f6_pop S o = some (S1, x)) : Ret M6_pop 1 0 0 [rc o] ((S, T), Y) (some (vl x)) ((S1, T), Y) := by
  refine Ret.of (by decide +kernel) (Nat.le_of_ble_eq_true rfl) ?_
  unfold f6_pop at h
  show Go _ _ _ _ _ _ 0 [(0, rc o)] [] ((S, T), Y) _
  refine go_blk rfl [(.aload_n 0, 1, 0, 0, 0, .inl 0), (.getfield 13, 3, 6, 2, 0, .inl 0)] 0 4 _ _ _ (by decide +kernel) ?_
  refine And.intro hh.1 ?_
  show Go _ _ _ _ _ _ 4 [(0, rc o)] [vi (S.1 o 2)] ((S, T), Y) _
  refine ite_el h (fun q1 h => ?_) (fun q1 h => ?_)
  · refine go_if_le (off := 12) (tgt := 16) (by decide +kernel) (by decide) (fun _ => ?_) (fun z => absurd q1 z)
    refine go_blk rfl [(.lconst 0, 1, 0, 0, 0, .inr (.inl 0))] 16 17 _ _ _ (by decide +kernel) ?_
    show Go _ _ _ _ _ _ 17 [(0, rc o)] [vl 0] ((S, T), Y) _
    obtain ⟨rfl, rfl⟩ := Prod.mk.inj (Option.some.inj h)
    exact go_lreturn (by decide +kernel) rfl ⟨rfl, rfl⟩
  · refine go_if_le (off := 12) (tgt := 16) (by decide +kernel) (by decide) (fun z => absurd z q1) (fun _ => ?_)
    refine go_blk rfl [(.aload_n 0, 1, 0, 0, 0, .inl 0), (.getfield 13, 3, 6, 2, 0, .inl 0), (.bipush 64, 2, 0, 0, 0, .inl 64)] 7 13 _ _ _ (by decide +kernel) ?_
    refine And.intro hh.1 ?_
    show Go _ _ _ _ _ _ 13 [(0, rc o)] [vi 64, vi (S.1 o 2)] ((S, T), Y) _
    refine ite_el h (fun q2 h => ?_) (fun q2 h => ?_)
    · refine go_icmp_le (off := 5) (tgt := 18) (by decide +kernel) (by decide) (fun _ => ?_) (fun z => absurd q2 z)
      refine go_blk rfl [(.aload_n 0, 1, 0, 0, 0, .inl 0), (.dup, 1, 0, 0, 0, .inl 0), (.getfield 13, 3, 6, 2, 0, .inl 0), (.iconst 1, 1, 0, 0, 0, .inl 1), (.isub, 1, 0, 0, 0, .inl 0), (.putfield 13, 3, 6, 2, 0, .inl 0)] 18 28 _ _ _ (by decide +kernel) ?_
      refine And.intro hh.1 ?_
      refine And.intro hh.1 (And.intro trivial ?_)
      show Go _ _ _ _ _ _ 28 [(0, rc o)] [] ((wI S o 2 ((S.1 o 2) - 1), T), Y) _
      refine gd_el h (fun q3 h => ?_)
      refine go_blk rfl [(.aload_n 0, 1, 0, 0, 0, .inl 0), (.getfield 9, 3, 6, 1, 1, .inl 0), (.aload_n 0, 1, 0, 0, 0, .inl 0), (.getfield 13, 3, 6, 2, 0, .inl 0), (.laload, 1, 23, 0, 0, .inl 0)] 28 37 _ _ _ (by decide +kernel) ?_
      refine And.intro hh.1 (Exists.intro _ (And.intro (gRc hh.2.2.1) ?_))
      refine And.intro hh.1 ?_
      refine And.intro hh.2.2.2.1 (Exists.intro _ (And.intro hh.2.2.2.2 (And.intro (inb_in q3) ?_)))
      show Go _ _ _ _ _ _ 37 [(0, rc o)] [vl ((wI S o 2 ((S.1 o 2) - 1)).2 (o + 2) ((wI S o 2 ((S.1 o 2) - 1)).1 o 2).toNatClampNeg)] ((wI S o 2 ((S.1 o 2) - 1), T), Y) _
      obtain ⟨rfl, rfl⟩ := Prod.mk.inj (Option.some.inj h)
      exact go_lreturn (by decide +kernel) rfl ⟨rfl, rfl⟩
    · refine go_icmp_le (off := 5) (tgt := 18) (by decide +kernel) (by decide) (fun z => absurd z q2) (fun _ => ?_)
      refine go_blk rfl [(.lconst 0, 1, 0, 0, 0, .inr (.inl 0))] 16 17 _ _ _ (by decide +kernel) ?_
      show Go _ _ _ _ _ _ 17 [(0, rc o)] [vl 0] ((S, T), Y) _
      obtain ⟨rfl, rfl⟩ := Prod.mk.inj (Option.some.inj h)
      exact go_lreturn (by decide +kernel) rfl ⟨rfl, rfl⟩
def f6_push (S : jS) (o : Nat) (a0 : Int64) : Option (jS × Unit) := (if (S.1 o 2) < 0 then some (S, ()) else (if 64 ≤ (S.1 o 2) then some (S, ()) else (if inb (S.1 o 2) 64 then some (wI (wL S (o + 2) (S.1 o 2).toNatClampNeg a0) o 2 (((wL S (o + 2) (S.1 o 2).toNatClampNeg a0).1 o 2) + 1), ()) else none)))
theorem ret6_push {S : jS} {T : jT} {Y : jS × jT} {o : Nat} {a0 : Int64} {S1 : jS} {x : Unit} (hh : LayRule T o) (h : f6_push S o a0 = some (S1, x)) : Ret M6_push 1 0 0 [rc o, vl a0] ((S, T), Y) (none) ((S1, T), Y) := by
  refine Ret.of (by decide +kernel) (Nat.le_of_ble_eq_true rfl) ?_
  unfold f6_push at h
  show Go _ _ _ _ _ _ 0 [(0, rc o), (1, vl a0)] [] ((S, T), Y) _
  refine go_blk rfl [(.aload_n 0, 1, 0, 0, 0, .inl 0), (.getfield 13, 3, 6, 2, 0, .inl 0)] 0 4 _ _ _ (by decide +kernel) ?_
  refine And.intro hh.1 ?_
  show Go _ _ _ _ _ _ 4 [(0, rc o), (1, vl a0)] [vi (S.1 o 2)] ((S, T), Y) _
  refine ite_el h (fun q1 h => ?_) (fun q1 h => ?_)
  · refine go_if_lt (off := 32) (tgt := 36) (by decide +kernel) (by decide) (fun _ => ?_) (fun z => absurd q1 z)
    obtain ⟨rfl, rfl⟩ := Prod.mk.inj (Option.some.inj h)
    exact go_return (by decide +kernel) rfl ⟨rfl, rfl⟩
  · refine go_if_lt (off := 32) (tgt := 36) (by decide +kernel) (by decide) (fun z => absurd z q1) (fun _ => ?_)
    refine go_blk rfl [(.aload_n 0, 1, 0, 0, 0, .inl 0), (.getfield 13, 3, 6, 2, 0, .inl 0), (.bipush 64, 2, 0, 0, 0, .inl 64)] 7 13 _ _ _ (by decide +kernel) ?_
    refine And.intro hh.1 ?_
    show Go _ _ _ _ _ _ 13 [(0, rc o), (1, vl a0)] [vi 64, vi (S.1 o 2)] ((S, T), Y) _
    refine ite_el h (fun q2 h => ?_) (fun q2 h => ?_)
    · refine go_icmp_ge (off := 23) (tgt := 36) (by decide +kernel) (by decide) (fun _ => ?_) (fun z => absurd q2 z)
      obtain ⟨rfl, rfl⟩ := Prod.mk.inj (Option.some.inj h)
      exact go_return (by decide +kernel) rfl ⟨rfl, rfl⟩
    · refine go_icmp_ge (off := 23) (tgt := 36) (by decide +kernel) (by decide) (fun z => absurd z q2) (fun _ => ?_)
      refine gd_el h (fun q3 h => ?_)
      refine go_blk rfl [(.aload_n 0, 1, 0, 0, 0, .inl 0), (.getfield 9, 3, 6, 1, 1, .inl 0), (.aload_n 0, 1, 0, 0, 0, .inl 0), (.getfield 13, 3, 6, 2, 0, .inl 0), (.lload_n 1, 1, 1, 0, 0, .inl 0), (.lastore, 1, 23, 0, 0, .inl 0)] 16 26 _ _ _ (by decide +kernel) ?_
      refine And.intro hh.1 (Exists.intro _ (And.intro (gRc hh.2.2.1) ?_))
      refine And.intro hh.1 ?_
      refine And.intro hh.2.2.2.1 (Exists.intro _ (And.intro hh.2.2.2.2 (And.intro (inb_in q3) ?_)))
      show Go _ _ _ _ _ _ 26 [(0, rc o), (1, vl a0)] [] ((wL S (o + 2) (S.1 o 2).toNatClampNeg a0, T), Y) _
      refine go_blk rfl [(.aload_n 0, 1, 0, 0, 0, .inl 0), (.dup, 1, 0, 0, 0, .inl 0), (.getfield 13, 3, 6, 2, 0, .inl 0), (.iconst 1, 1, 0, 0, 0, .inl 1), (.iadd, 1, 0, 0, 0, .inl 0), (.putfield 13, 3, 6, 2, 0, .inl 0)] 26 36 _ _ _ (by decide +kernel) ?_
      refine And.intro hh.1 ?_
      refine And.intro hh.1 (And.intro trivial ?_)
      show Go _ _ _ _ _ _ 36 [(0, rc o), (1, vl a0)] [] ((wI (wL S (o + 2) (S.1 o 2).toNatClampNeg a0) o 2 (((wL S (o + 2) (S.1 o 2).toNatClampNeg a0).1 o 2) + 1), T), Y) _
      obtain ⟨rfl, rfl⟩ := Prod.mk.inj (Option.some.inj h)
      exact go_return (by decide +kernel) rfl ⟨rfl, rfl⟩
def f4_greatestStep_L1 (S : jS) (o : Nat) : Nat → Int32 → Int32 → Option Int32
  | 0, _, _ => none
  | n + 1, l1, l2 => (if (S.1 o 2) ≤ l2 then some l1 else Option.bind (if (((S.1 o 4) >>> (l2 &&& 31)) &&& 1) = 1 then (if inb l2 7 then (if (S.1 (o + 3) l2.toNatClampNeg) ≤ l1 then some l1 else some (S.1 (o + 3) l2.toNatClampNeg)) else none) else some l1) (fun (y1 : Int32) => f4_greatestStep_L1 S o n y1 (l2 + 1)))
def f4_greatestStep (S : jS) (o : Nat) : Option Int32 := Option.bind (f4_greatestStep_L1 S o jF 0 0) (fun y2 => some y2)
theorem f4_greatestStep_L1_ok {T : jT} {Y : jS × jT} {S : jS} {o : Nat} {Q : Option jV → jMem → Prop} (hh : LayHall T o) : ∀ (n : Nat) (l1 : Int32) (l2 : Int32) (r : Int32), f4_greatestStep_L1 S o n l1 l2 = some r → Go M4_greatestStep 1 0 0 0 0 47 [(1, vi r)] [] ((S, T), Y) Q → Go M4_greatestStep 1 0 0 0 0 4 [(0, rc o), (1, vi l1), (2, vi l2)] [] ((S, T), Y) Q := by
  intro n
  induction n with
  | zero => intro l1 l2 r h k; exact absurd h (by intro z; cases z)
  | succ n ih =>
    intro l1 l2 r h k
    rw [f4_greatestStep_L1] at h
    refine go_blk rfl [(.iload_n 2, 1, 2, 0, 0, .inl 0), (.aload_n 0, 1, 0, 0, 0, .inl 0), (.getfield 18, 3, 4, 2, 0, .inl 0)] 4 9 _ _ _ (by decide +kernel) ?_
    refine And.intro hh.1 ?_
    show Go _ _ _ _ _ _ 9 [(0, rc o), (1, vi l1), (2, vi l2)] [vi (S.1 o 2), vi l2] ((S, T), Y) _
    refine ite_el h (fun q1 h => ?_) (fun q1 h => ?_)
    · refine go_icmp_ge (off := 38) (tgt := 47) (by decide +kernel) (by decide) (fun _ => ?_) (fun z => absurd q1 z)
      obtain rfl := Option.some.inj h
      refine go_pick [1] rfl ?_
      exact k
    · refine go_icmp_ge (off := 38) (tgt := 47) (by decide +kernel) (by decide) (fun z => absurd z q1) (fun _ => ?_)
      refine go_blk rfl [(.aload_n 0, 1, 0, 0, 0, .inl 0), (.getfield 24, 3, 4, 4, 0, .inl 0), (.iload_n 2, 1, 2, 0, 0, .inl 0), (.ishr, 1, 0, 0, 0, .inl 0), (.iconst 1, 1, 0, 0, 0, .inl 1), (.iand, 1, 0, 0, 0, .inl 0), (.iconst 1, 1, 0, 0, 0, .inl 1)] 12 21 _ _ _ (by decide +kernel) ?_
      refine And.intro hh.1 ?_
      show Go _ _ _ _ _ _ 21 [(0, rc o), (1, vi l1), (2, vi l2)] [vi 1, vi (((S.1 o 4) >>> (l2 &&& 31)) &&& 1)] ((S, T), Y) _
      obtain ⟨y1, hy1, h⟩ := bind_el h
      have key : Go M4_greatestStep 1 0 0 0 0 41 [(0, rc o), (1, vi y1), (2, vi l2)] [] ((S, T), Y) Q := by
        refine go_blk rfl [(.iinc 2 1, 3, 2, 0, 0, .inl 1)] 41 44 _ _ _ (by decide +kernel) ?_
        show Go _ _ _ _ _ _ 44 [(2, vi (l2 + 1)), (0, rc o), (1, vi y1)] [] ((S, T), Y) _
        refine go_goto (off := (-40)) (tgt := 4) (by decide +kernel) (by decide) ?_
        refine go_pick [1, 2, 0] rfl ?_
        exact ih _ _ _ h k
      replace h := hy1
      refine ite_el h (fun q2 h => ?_) (fun q2 h => ?_)
      · refine go_icmp_ne (off := 20) (tgt := 41) (by decide +kernel) (by decide) (fun z => absurd q2 z) (fun _ => ?_)
        refine gd_el h (fun q3 h => ?_)
        refine go_blk rfl [(.aload_n 0, 1, 0, 0, 0, .inl 0), (.getfield 43, 3, 4, 10, 1, .inl 0), (.iload_n 2, 1, 2, 0, 0, .inl 0), (.iaload, 1, 20, 0, 0, .inl 0), (.iload_n 1, 1, 1, 0, 0, .inl 0)] 24 31 _ _ _ (by decide +kernel) ?_
        refine And.intro hh.1 (Exists.intro _ (And.intro (gRc hh.2.2.2.1.1) ?_))
        refine And.intro hh.2.2.2.1.2.1 (Exists.intro _ (And.intro hh.2.2.2.1.2.2 (And.intro (inb_in q3) ?_)))
        show Go _ _ _ _ _ _ 31 [(0, rc o), (1, vi l1), (2, vi l2)] [vi l1, vi (S.1 (o + 3) l2.toNatClampNeg)] ((S, T), Y) _
        refine ite_el h (fun q4 h => ?_) (fun q4 h => ?_)
        · refine go_icmp_le (off := 10) (tgt := 41) (by decide +kernel) (by decide) (fun _ => ?_) (fun z => absurd q4 z)
          obtain rfl := Option.some.inj h
          refine go_pick [0, 1, 2] rfl ?_
          exact key
        · refine go_icmp_le (off := 10) (tgt := 41) (by decide +kernel) (by decide) (fun z => absurd z q4) (fun _ => ?_)
          refine go_blk rfl [(.aload_n 0, 1, 0, 0, 0, .inl 0), (.getfield 43, 3, 4, 10, 1, .inl 0), (.iload_n 2, 1, 2, 0, 0, .inl 0), (.iaload, 1, 20, 0, 0, .inl 0), (.istore_n 1, 1, 1, 0, 0, .inl 0)] 34 41 _ _ _ (by decide +kernel) ?_
          refine And.intro hh.1 (Exists.intro _ (And.intro (gRc hh.2.2.2.1.1) ?_))
          refine And.intro hh.2.2.2.1.2.1 (Exists.intro _ (And.intro hh.2.2.2.1.2.2 (And.intro (inb_in q3) ?_)))
          show Go _ _ _ _ _ _ 41 [(1, vi (S.1 (o + 3) l2.toNatClampNeg)), (0, rc o), (2, vi l2)] [] ((S, T), Y) _
          obtain rfl := Option.some.inj h
          refine go_pick [1, 0, 2] rfl ?_
          exact key
      · refine go_icmp_ne (off := 20) (tgt := 41) (by decide +kernel) (by decide) (fun _ => ?_) (fun z => absurd z q2)
        obtain rfl := Option.some.inj h
        refine go_pick [0, 1, 2] rfl ?_
        exact key
theorem ret4_greatestStep {S : jS} {T : jT} {Y : jS × jT} {o : Nat} {x : Int32} (hh : LayHall T o) (h : f4_greatestStep S o = some x) : Ret M4_greatestStep 1 0 0 [rc o] ((S, T), Y) (some (vi x)) ((S, T), Y) := by
  refine Ret.of (by decide +kernel) (Nat.le_of_ble_eq_true rfl) ?_
  unfold f4_greatestStep at h
  show Go _ _ _ _ _ _ 0 [(0, rc o)] [] ((S, T), Y) _
  refine go_blk rfl [(.iconst 0, 1, 0, 0, 0, .inl 0), (.istore_n 1, 1, 1, 0, 0, .inl 0), (.iconst 0, 1, 0, 0, 0, .inl 0), (.istore_n 2, 1, 2, 0, 0, .inl 0)] 0 4 _ _ _ (by decide +kernel) ?_
  show Go _ _ _ _ _ _ 4 [(2, vi 0), (1, vi 0), (0, rc o)] [] ((S, T), Y) _
  refine go_pick [2, 1, 0] rfl ?_
  obtain ⟨y2, hy2, h⟩ := bind_el h
  refine f4_greatestStep_L1_ok hh _ _ _ _ hy2 ?_
  show Go _ _ _ _ _ _ 47 [(1, vi y2)] [] ((S, T), Y) _
  refine go_blk rfl [(.iload_n 1, 1, 1, 0, 0, .inl 0)] 47 48 _ _ _ (by decide +kernel) ?_
  show Go _ _ _ _ _ _ 48 [(1, vi y2)] [vi y2] ((S, T), Y) _
  obtain rfl := Option.some.inj h
  exact go_ireturn (by decide +kernel) rfl rfl ⟨rfl, rfl⟩
def f4_leastStep_L1 (S : jS) (o : Nat) : Nat → Int32 → Int32 → Option Int32
  | 0, _, _ => none
  | n + 1, l1, l2 => (if (S.1 o 2) ≤ l2 then some l1 else Option.bind (if (((S.1 o 4) >>> (l2 &&& 31)) &&& 1) = 1 then (if inb l2 7 then (if l1 ≤ (S.1 (o + 3) l2.toNatClampNeg) then some l1 else some (S.1 (o + 3) l2.toNatClampNeg)) else none) else some l1) (fun (y1 : Int32) => f4_leastStep_L1 S o n y1 (l2 + 1)))
def f4_leastStep (S : jS) (o : Nat) : Option Int32 := Option.bind (f4_leastStep_L1 S o jF 6 0) (fun y2 => some y2)
theorem f4_leastStep_L1_ok {T : jT} {Y : jS × jT} {S : jS} {o : Nat} {Q : Option jV → jMem → Prop} (hh : LayHall T o) : ∀ (n : Nat) (l1 : Int32) (l2 : Int32) (r : Int32), f4_leastStep_L1 S o n l1 l2 = some r → Go M4_leastStep 1 0 0 0 0 48 [(1, vi r)] [] ((S, T), Y) Q → Go M4_leastStep 1 0 0 0 0 5 [(0, rc o), (1, vi l1), (2, vi l2)] [] ((S, T), Y) Q := by
  intro n
  induction n with
  | zero => intro l1 l2 r h k; exact absurd h (by intro z; cases z)
  | succ n ih =>
    intro l1 l2 r h k
    rw [f4_leastStep_L1] at h
    refine go_blk rfl [(.iload_n 2, 1, 2, 0, 0, .inl 0), (.aload_n 0, 1, 0, 0, 0, .inl 0), (.getfield 18, 3, 4, 2, 0, .inl 0)] 5 10 _ _ _ (by decide +kernel) ?_
    refine And.intro hh.1 ?_
    show Go _ _ _ _ _ _ 10 [(0, rc o), (1, vi l1), (2, vi l2)] [vi (S.1 o 2), vi l2] ((S, T), Y) _
    refine ite_el h (fun q1 h => ?_) (fun q1 h => ?_)
    · refine go_icmp_ge (off := 38) (tgt := 48) (by decide +kernel) (by decide) (fun _ => ?_) (fun z => absurd q1 z)
      obtain rfl := Option.some.inj h
      refine go_pick [1] rfl ?_
      exact k
    · refine go_icmp_ge (off := 38) (tgt := 48) (by decide +kernel) (by decide) (fun z => absurd z q1) (fun _ => ?_)
      refine go_blk rfl [(.aload_n 0, 1, 0, 0, 0, .inl 0), (.getfield 24, 3, 4, 4, 0, .inl 0), (.iload_n 2, 1, 2, 0, 0, .inl 0), (.ishr, 1, 0, 0, 0, .inl 0), (.iconst 1, 1, 0, 0, 0, .inl 1), (.iand, 1, 0, 0, 0, .inl 0), (.iconst 1, 1, 0, 0, 0, .inl 1)] 13 22 _ _ _ (by decide +kernel) ?_
      refine And.intro hh.1 ?_
      show Go _ _ _ _ _ _ 22 [(0, rc o), (1, vi l1), (2, vi l2)] [vi 1, vi (((S.1 o 4) >>> (l2 &&& 31)) &&& 1)] ((S, T), Y) _
      obtain ⟨y1, hy1, h⟩ := bind_el h
      have key : Go M4_leastStep 1 0 0 0 0 42 [(0, rc o), (1, vi y1), (2, vi l2)] [] ((S, T), Y) Q := by
        refine go_blk rfl [(.iinc 2 1, 3, 2, 0, 0, .inl 1)] 42 45 _ _ _ (by decide +kernel) ?_
        show Go _ _ _ _ _ _ 45 [(2, vi (l2 + 1)), (0, rc o), (1, vi y1)] [] ((S, T), Y) _
        refine go_goto (off := (-40)) (tgt := 5) (by decide +kernel) (by decide) ?_
        refine go_pick [1, 2, 0] rfl ?_
        exact ih _ _ _ h k
      replace h := hy1
      refine ite_el h (fun q2 h => ?_) (fun q2 h => ?_)
      · refine go_icmp_ne (off := 20) (tgt := 42) (by decide +kernel) (by decide) (fun z => absurd q2 z) (fun _ => ?_)
        refine gd_el h (fun q3 h => ?_)
        refine go_blk rfl [(.aload_n 0, 1, 0, 0, 0, .inl 0), (.getfield 43, 3, 4, 10, 1, .inl 0), (.iload_n 2, 1, 2, 0, 0, .inl 0), (.iaload, 1, 20, 0, 0, .inl 0), (.iload_n 1, 1, 1, 0, 0, .inl 0)] 25 32 _ _ _ (by decide +kernel) ?_
        refine And.intro hh.1 (Exists.intro _ (And.intro (gRc hh.2.2.2.1.1) ?_))
        refine And.intro hh.2.2.2.1.2.1 (Exists.intro _ (And.intro hh.2.2.2.1.2.2 (And.intro (inb_in q3) ?_)))
        show Go _ _ _ _ _ _ 32 [(0, rc o), (1, vi l1), (2, vi l2)] [vi l1, vi (S.1 (o + 3) l2.toNatClampNeg)] ((S, T), Y) _
        refine ite_el h (fun q4 h => ?_) (fun q4 h => ?_)
        · refine go_icmp_ge (off := 10) (tgt := 42) (by decide +kernel) (by decide) (fun _ => ?_) (fun z => absurd q4 z)
          obtain rfl := Option.some.inj h
          refine go_pick [0, 1, 2] rfl ?_
          exact key
        · refine go_icmp_ge (off := 10) (tgt := 42) (by decide +kernel) (by decide) (fun z => absurd z q4) (fun _ => ?_)
          refine go_blk rfl [(.aload_n 0, 1, 0, 0, 0, .inl 0), (.getfield 43, 3, 4, 10, 1, .inl 0), (.iload_n 2, 1, 2, 0, 0, .inl 0), (.iaload, 1, 20, 0, 0, .inl 0), (.istore_n 1, 1, 1, 0, 0, .inl 0)] 35 42 _ _ _ (by decide +kernel) ?_
          refine And.intro hh.1 (Exists.intro _ (And.intro (gRc hh.2.2.2.1.1) ?_))
          refine And.intro hh.2.2.2.1.2.1 (Exists.intro _ (And.intro hh.2.2.2.1.2.2 (And.intro (inb_in q3) ?_)))
          show Go _ _ _ _ _ _ 42 [(1, vi (S.1 (o + 3) l2.toNatClampNeg)), (0, rc o), (2, vi l2)] [] ((S, T), Y) _
          obtain rfl := Option.some.inj h
          refine go_pick [1, 0, 2] rfl ?_
          exact key
      · refine go_icmp_ne (off := 20) (tgt := 42) (by decide +kernel) (by decide) (fun _ => ?_) (fun z => absurd z q2)
        obtain rfl := Option.some.inj h
        refine go_pick [0, 1, 2] rfl ?_
        exact key
theorem ret4_leastStep {S : jS} {T : jT} {Y : jS × jT} {o : Nat} {x : Int32} (hh : LayHall T o) (h : f4_leastStep S o = some x) : Ret M4_leastStep 1 0 0 [rc o] ((S, T), Y) (some (vi x)) ((S, T), Y) := by
  refine Ret.of (by decide +kernel) (Nat.le_of_ble_eq_true rfl) ?_
  unfold f4_leastStep at h
  show Go _ _ _ _ _ _ 0 [(0, rc o)] [] ((S, T), Y) _
  refine go_blk rfl [(.bipush 6, 2, 0, 0, 0, .inl 6), (.istore_n 1, 1, 1, 0, 0, .inl 0), (.iconst 0, 1, 0, 0, 0, .inl 0), (.istore_n 2, 1, 2, 0, 0, .inl 0)] 0 5 _ _ _ (by decide +kernel) ?_
  show Go _ _ _ _ _ _ 5 [(2, vi 0), (1, vi 6), (0, rc o)] [] ((S, T), Y) _
  refine go_pick [2, 1, 0] rfl ?_
  obtain ⟨y2, hy2, h⟩ := bind_el h
  refine f4_leastStep_L1_ok hh _ _ _ _ hy2 ?_
  show Go _ _ _ _ _ _ 48 [(1, vi y2)] [] ((S, T), Y) _
  refine go_blk rfl [(.iload_n 1, 1, 1, 0, 0, .inl 0)] 48 49 _ _ _ (by decide +kernel) ?_
  show Go _ _ _ _ _ _ 49 [(1, vi y2)] [vi y2] ((S, T), Y) _
  obtain rfl := Option.some.inj h
  exact go_ireturn (by decide +kernel) rfl rfl ⟨rfl, rfl⟩
def f4_countNear_L1 (S : jS) (o : Nat) : Nat → Int32 → Int32 → Option Int32
  | 0, _, _ => none
  | n + 1, l1, l2 => (if (S.1 o 1) ≤ l2 then some l1 else (if inb l2 6 then f4_countNear_L1 S o n (l1 ||| ((((S.1 o 3) >>> (l2 &&& 31)) &&& 1) <<< ((S.1 (o + 1) l2.toNatClampNeg) &&& 31))) (l2 + 1) else none))
def f4_countNear_L2 (S : jS) (o : Nat) (l1 : Int32) : Nat → Int32 → Int32 → Option Int32
  | 0, _, _ => none
  | n + 1, l2, l3 => (if (S.1 o 2) ≤ l3 then some l2 else (if inb l3 7 then f4_countNear_L2 S o l1 n (l2 + ((((S.1 o 4) >>> (l3 &&& 31)) &&& (l1 >>> ((S.1 (o + 2) l3.toNatClampNeg) &&& 31))) &&& 1)) (l3 + 1) else none))
def f4_countNear (S : jS) (o : Nat) : Option Int32 := Option.bind (f4_countNear_L1 S o jF 0 0) (fun y1 => Option.bind (f4_countNear_L2 S o y1 jF 0 0) (fun y2 => some y2))
theorem f4_countNear_L1_ok {T : jT} {Y : jS × jT} {S : jS} {o : Nat} {Q : Option jV → jMem → Prop} (hh : LayHall T o) : ∀ (n : Nat) (l1 : Int32) (l2 : Int32) (r : Int32), f4_countNear_L1 S o n l1 l2 = some r → Go M4_countNear 1 0 0 0 0 36 [(0, rc o), (1, vi r)] [] ((S, T), Y) Q → Go M4_countNear 1 0 0 0 0 4 [(0, rc o), (1, vi l1), (2, vi l2)] [] ((S, T), Y) Q := by
  intro n
  induction n with
  | zero => intro l1 l2 r h k; exact absurd h (by intro z; cases z)
  | succ n ih =>
    intro l1 l2 r h k
    rw [f4_countNear_L1] at h
    refine go_blk rfl [(.iload_n 2, 1, 2, 0, 0, .inl 0), (.aload_n 0, 1, 0, 0, 0, .inl 0), (.getfield 15, 3, 4, 1, 0, .inl 0)] 4 9 _ _ _ (by decide +kernel) ?_
    refine And.intro hh.1 ?_
    show Go _ _ _ _ _ _ 9 [(0, rc o), (1, vi l1), (2, vi l2)] [vi (S.1 o 1), vi l2] ((S, T), Y) _
    refine ite_el h (fun q1 h => ?_) (fun q1 h => ?_)
    · refine go_icmp_ge (off := 27) (tgt := 36) (by decide +kernel) (by decide) (fun _ => ?_) (fun z => absurd q1 z)
      obtain rfl := Option.some.inj h
      refine go_pick [0, 1] rfl ?_
      exact k
    · refine go_icmp_ge (off := 27) (tgt := 36) (by decide +kernel) (by decide) (fun z => absurd z q1) (fun _ => ?_)
      refine gd_el h (fun q2 h => ?_)
      refine go_blk rfl [(.iload_n 1, 1, 1, 0, 0, .inl 0), (.aload_n 0, 1, 0, 0, 0, .inl 0), (.getfield 21, 3, 4, 3, 0, .inl 0), (.iload_n 2, 1, 2, 0, 0, .inl 0), (.ishr, 1, 0, 0, 0, .inl 0), (.iconst 1, 1, 0, 0, 0, .inl 1), (.iand, 1, 0, 0, 0, .inl 0), (.aload_n 0, 1, 0, 0, 0, .inl 0), (.getfield 36, 3, 4, 8, 1, .inl 0), (.iload_n 2, 1, 2, 0, 0, .inl 0), (.iaload, 1, 20, 0, 0, .inl 0), (.ishl, 1, 0, 0, 0, .inl 0), (.ior, 1, 0, 0, 0, .inl 0), (.istore_n 1, 1, 1, 0, 0, .inl 0), (.iinc 2 1, 3, 2, 0, 0, .inl 1)] 12 33 _ _ _ (by decide +kernel) ?_
      refine And.intro hh.1 ?_
      refine And.intro hh.1 (Exists.intro _ (And.intro (gRc hh.2.1.1) ?_))
      refine And.intro hh.2.1.2.1 (Exists.intro _ (And.intro hh.2.1.2.2 (And.intro (inb_in q2) ?_)))
      show Go _ _ _ _ _ _ 33 [(2, vi (l2 + 1)), (1, vi (l1 ||| ((((S.1 o 3) >>> (l2 &&& 31)) &&& 1) <<< ((S.1 (o + 1) l2.toNatClampNeg) &&& 31)))), (0, rc o)] [] ((S, T), Y) _
      refine go_goto (off := (-29)) (tgt := 4) (by decide +kernel) (by decide) ?_
      refine go_pick [2, 1, 0] rfl ?_
      exact ih _ _ _ h k
theorem f4_countNear_L2_ok {T : jT} {Y : jS × jT} {S : jS} {o : Nat} {l1 : Int32} {Q : Option jV → jMem → Prop} (hh : LayHall T o) : ∀ (n : Nat) (l2 : Int32) (l3 : Int32) (r : Int32), f4_countNear_L2 S o l1 n l2 l3 = some r → Go M4_countNear 1 0 0 0 0 74 [(2, vi r)] [] ((S, T), Y) Q → Go M4_countNear 1 0 0 0 0 40 [(0, rc o), (1, vi l1), (2, vi l2), (3, vi l3)] [] ((S, T), Y) Q := by
  intro n
  induction n with
  | zero => intro l2 l3 r h k; exact absurd h (by intro z; cases z)
  | succ n ih =>
    intro l2 l3 r h k
    rw [f4_countNear_L2] at h
    refine go_blk rfl [(.iload_n 3, 1, 3, 0, 0, .inl 0), (.aload_n 0, 1, 0, 0, 0, .inl 0), (.getfield 18, 3, 4, 2, 0, .inl 0)] 40 45 _ _ _ (by decide +kernel) ?_
    refine And.intro hh.1 ?_
    show Go _ _ _ _ _ _ 45 [(0, rc o), (1, vi l1), (2, vi l2), (3, vi l3)] [vi (S.1 o 2), vi l3] ((S, T), Y) _
    refine ite_el h (fun q3 h => ?_) (fun q3 h => ?_)
    · refine go_icmp_ge (off := 29) (tgt := 74) (by decide +kernel) (by decide) (fun _ => ?_) (fun z => absurd q3 z)
      obtain rfl := Option.some.inj h
      refine go_pick [2] rfl ?_
      exact k
    · refine go_icmp_ge (off := 29) (tgt := 74) (by decide +kernel) (by decide) (fun z => absurd z q3) (fun _ => ?_)
      refine gd_el h (fun q4 h => ?_)
      refine go_blk rfl [(.iload_n 2, 1, 2, 0, 0, .inl 0), (.aload_n 0, 1, 0, 0, 0, .inl 0), (.getfield 24, 3, 4, 4, 0, .inl 0), (.iload_n 3, 1, 3, 0, 0, .inl 0), (.ishr, 1, 0, 0, 0, .inl 0), (.iload_n 1, 1, 1, 0, 0, .inl 0), (.aload_n 0, 1, 0, 0, 0, .inl 0), (.getfield 40, 3, 4, 9, 1, .inl 0), (.iload_n 3, 1, 3, 0, 0, .inl 0), (.iaload, 1, 20, 0, 0, .inl 0), (.ishr, 1, 0, 0, 0, .inl 0), (.iand, 1, 0, 0, 0, .inl 0), (.iconst 1, 1, 0, 0, 0, .inl 1), (.iand, 1, 0, 0, 0, .inl 0), (.iadd, 1, 0, 0, 0, .inl 0), (.istore_n 2, 1, 2, 0, 0, .inl 0), (.iinc 3 1, 3, 3, 0, 0, .inl 1)] 48 71 _ _ _ (by decide +kernel) ?_
      refine And.intro hh.1 ?_
      refine And.intro hh.1 (Exists.intro _ (And.intro (gRc hh.2.2.1.1) ?_))
      refine And.intro hh.2.2.1.2.1 (Exists.intro _ (And.intro hh.2.2.1.2.2 (And.intro (inb_in q4) ?_)))
      show Go _ _ _ _ _ _ 71 [(3, vi (l3 + 1)), (2, vi (l2 + ((((S.1 o 4) >>> (l3 &&& 31)) &&& (l1 >>> ((S.1 (o + 2) l3.toNatClampNeg) &&& 31))) &&& 1))), (0, rc o), (1, vi l1)] [] ((S, T), Y) _
      refine go_goto (off := (-31)) (tgt := 40) (by decide +kernel) (by decide) ?_
      refine go_pick [2, 3, 1, 0] rfl ?_
      exact ih _ _ _ h k
theorem ret4_countNear {S : jS} {T : jT} {Y : jS × jT} {o : Nat} {x : Int32} (hh : LayHall T o) (h : f4_countNear S o = some x) : Ret M4_countNear 1 0 0 [rc o] ((S, T), Y) (some (vi x)) ((S, T), Y) := by
  refine Ret.of (by decide +kernel) (Nat.le_of_ble_eq_true rfl) ?_
  unfold f4_countNear at h
  show Go _ _ _ _ _ _ 0 [(0, rc o)] [] ((S, T), Y) _
  refine go_blk rfl [(.iconst 0, 1, 0, 0, 0, .inl 0), (.istore_n 1, 1, 1, 0, 0, .inl 0), (.iconst 0, 1, 0, 0, 0, .inl 0), (.istore_n 2, 1, 2, 0, 0, .inl 0)] 0 4 _ _ _ (by decide +kernel) ?_
  show Go _ _ _ _ _ _ 4 [(2, vi 0), (1, vi 0), (0, rc o)] [] ((S, T), Y) _
  refine go_pick [2, 1, 0] rfl ?_
  obtain ⟨y1, hy1, h⟩ := bind_el h
  refine f4_countNear_L1_ok hh _ _ _ _ hy1 ?_
  show Go _ _ _ _ _ _ 36 [(0, rc o), (1, vi y1)] [] ((S, T), Y) _
  refine go_blk rfl [(.iconst 0, 1, 0, 0, 0, .inl 0), (.istore_n 2, 1, 2, 0, 0, .inl 0), (.iconst 0, 1, 0, 0, 0, .inl 0), (.istore_n 3, 1, 3, 0, 0, .inl 0)] 36 40 _ _ _ (by decide +kernel) ?_
  show Go _ _ _ _ _ _ 40 [(3, vi 0), (2, vi 0), (0, rc o), (1, vi y1)] [] ((S, T), Y) _
  refine go_pick [2, 3, 1, 0] rfl ?_
  obtain ⟨y2, hy2, h⟩ := bind_el h
  refine f4_countNear_L2_ok hh _ _ _ _ hy2 ?_
  show Go _ _ _ _ _ _ 74 [(2, vi y2)] [] ((S, T), Y) _
  refine go_blk rfl [(.iload_n 2, 1, 2, 0, 0, .inl 0)] 74 75 _ _ _ (by decide +kernel) ?_
  show Go _ _ _ _ _ _ 75 [(2, vi y2)] [vi y2] ((S, T), Y) _
  obtain rfl := Option.some.inj h
  exact go_ireturn (by decide +kernel) rfl rfl ⟨rfl, rfl⟩
def f4_tiredTogether_L1 (S : jS) (o : Nat) : Nat → Int32 → Int32 → Option Int32
  | 0, _, _ => none
  | n + 1, l1, l2 => (if (S.1 o 2) ≤ l2 then some l1 else (if inb l2 7 then f4_tiredTogether_L1 S o n (l1 + ((((S.1 o 4) >>> (l2 &&& 31)) &&& 1) * (S.1 (o + 5) l2.toNatClampNeg))) (l2 + 1) else none))
def f4_tiredTogether (S : jS) (o : Nat) : Option Int32 := Option.bind (f4_tiredTogether_L1 S o jF 0 0) (fun y1 => some y1)
theorem f4_tiredTogether_L1_ok {T : jT} {Y : jS × jT} {S : jS} {o : Nat} {Q : Option jV → jMem → Prop} (hh : LayHall T o) : ∀ (n : Nat) (l1 : Int32) (l2 : Int32) (r : Int32), f4_tiredTogether_L1 S o n l1 l2 = some r → Go M4_tiredTogether 1 0 0 0 0 36 [(1, vi r)] [] ((S, T), Y) Q → Go M4_tiredTogether 1 0 0 0 0 4 [(0, rc o), (1, vi l1), (2, vi l2)] [] ((S, T), Y) Q := by
  intro n
  induction n with
  | zero => intro l1 l2 r h k; exact absurd h (by intro z; cases z)
  | succ n ih =>
    intro l1 l2 r h k
    rw [f4_tiredTogether_L1] at h
    refine go_blk rfl [(.iload_n 2, 1, 2, 0, 0, .inl 0), (.aload_n 0, 1, 0, 0, 0, .inl 0), (.getfield 18, 3, 4, 2, 0, .inl 0)] 4 9 _ _ _ (by decide +kernel) ?_
    refine And.intro hh.1 ?_
    show Go _ _ _ _ _ _ 9 [(0, rc o), (1, vi l1), (2, vi l2)] [vi (S.1 o 2), vi l2] ((S, T), Y) _
    refine ite_el h (fun q1 h => ?_) (fun q1 h => ?_)
    · refine go_icmp_ge (off := 27) (tgt := 36) (by decide +kernel) (by decide) (fun _ => ?_) (fun z => absurd q1 z)
      obtain rfl := Option.some.inj h
      refine go_pick [1] rfl ?_
      exact k
    · refine go_icmp_ge (off := 27) (tgt := 36) (by decide +kernel) (by decide) (fun z => absurd z q1) (fun _ => ?_)
      refine gd_el h (fun q2 h => ?_)
      refine go_blk rfl [(.iload_n 1, 1, 1, 0, 0, .inl 0), (.aload_n 0, 1, 0, 0, 0, .inl 0), (.getfield 24, 3, 4, 4, 0, .inl 0), (.iload_n 2, 1, 2, 0, 0, .inl 0), (.ishr, 1, 0, 0, 0, .inl 0), (.iconst 1, 1, 0, 0, 0, .inl 1), (.iand, 1, 0, 0, 0, .inl 0), (.aload_n 0, 1, 0, 0, 0, .inl 0), (.getfield 49, 3, 4, 12, 1, .inl 0), (.iload_n 2, 1, 2, 0, 0, .inl 0), (.iaload, 1, 20, 0, 0, .inl 0), (.imul, 1, 0, 0, 0, .inl 0), (.iadd, 1, 0, 0, 0, .inl 0), (.istore_n 1, 1, 1, 0, 0, .inl 0), (.iinc 2 1, 3, 2, 0, 0, .inl 1)] 12 33 _ _ _ (by decide +kernel) ?_
      refine And.intro hh.1 ?_
      refine And.intro hh.1 (Exists.intro _ (And.intro (gRc hh.2.2.2.2.2.1.1) ?_))
      refine And.intro hh.2.2.2.2.2.1.2.1 (Exists.intro _ (And.intro hh.2.2.2.2.2.1.2.2 (And.intro (inb_in q2) ?_)))
      show Go _ _ _ _ _ _ 33 [(2, vi (l2 + 1)), (1, vi (l1 + ((((S.1 o 4) >>> (l2 &&& 31)) &&& 1) * (S.1 (o + 5) l2.toNatClampNeg)))), (0, rc o)] [] ((S, T), Y) _
      refine go_goto (off := (-29)) (tgt := 4) (by decide +kernel) (by decide) ?_
      refine go_pick [2, 1, 0] rfl ?_
      exact ih _ _ _ h k
theorem ret4_tiredTogether {S : jS} {T : jT} {Y : jS × jT} {o : Nat} {x : Int32} (hh : LayHall T o) (h : f4_tiredTogether S o = some x) : Ret M4_tiredTogether 1 0 0 [rc o] ((S, T), Y) (some (vi x)) ((S, T), Y) := by
  refine Ret.of (by decide +kernel) (Nat.le_of_ble_eq_true rfl) ?_
  unfold f4_tiredTogether at h
  show Go _ _ _ _ _ _ 0 [(0, rc o)] [] ((S, T), Y) _
  refine go_blk rfl [(.iconst 0, 1, 0, 0, 0, .inl 0), (.istore_n 1, 1, 1, 0, 0, .inl 0), (.iconst 0, 1, 0, 0, 0, .inl 0), (.istore_n 2, 1, 2, 0, 0, .inl 0)] 0 4 _ _ _ (by decide +kernel) ?_
  show Go _ _ _ _ _ _ 4 [(2, vi 0), (1, vi 0), (0, rc o)] [] ((S, T), Y) _
  refine go_pick [2, 1, 0] rfl ?_
  obtain ⟨y1, hy1, h⟩ := bind_el h
  refine f4_tiredTogether_L1_ok hh _ _ _ _ hy1 ?_
  show Go _ _ _ _ _ _ 36 [(1, vi y1)] [] ((S, T), Y) _
  refine go_blk rfl [(.iload_n 1, 1, 1, 0, 0, .inl 0)] 36 37 _ _ _ (by decide +kernel) ?_
  show Go _ _ _ _ _ _ 37 [(1, vi y1)] [vi y1] ((S, T), Y) _
  obtain rfl := Option.some.inj h
  exact go_ireturn (by decide +kernel) rfl rfl ⟨rfl, rfl⟩
def f4_valueOf (S : jS) (o : Nat) (a0 : Int32) : Option Int64 := (if a0 = 0 then some ((S.1 o 0).toInt64) else (if a0 = 1 then some ((S.1 o 5).toInt64) else (if a0 = 2 then Option.bind (f13_bitCount (S.1 o 4)) (fun r1 => some r1.toInt64) else (if a0 = 3 then Option.bind (f13_bitCount (S.1 o 3)) (fun r2 => some r2.toInt64) else (if a0 = 4 then some ((S.1 o 6).toInt64) else (if a0 = 5 then some ((S.1 o 7).toInt64) else (if a0 = 6 then Option.bind (f4_greatestStep S o) (fun r3 => some r3.toInt64) else (if a0 = 7 then Option.bind (f4_leastStep S o) (fun r4 => some r4.toInt64) else (if a0 = 8 then Option.bind (f4_countNear S o) (fun r5 => some r5.toInt64) else Option.bind (f4_tiredTogether S o) (fun r6 => some r6.toInt64))))))))))
theorem ret4_valueOf {S : jS} {T : jT} {Y : jS × jT} {o : Nat} {a0 : Int32} {x : Int64} (hh : LayHall T o) (h : f4_valueOf S o a0 = some x) : Ret M4_valueOf 2 0 0 [rc o, vi a0] ((S, T), Y) (some (vl x)) ((S, T), Y) := by
  refine Ret.of (by decide +kernel) (Nat.le_of_ble_eq_true rfl) ?_
  unfold f4_valueOf at h
  show Go _ _ _ _ _ _ 0 [(0, rc o), (1, vi a0)] [] ((S, T), Y) _
  refine go_blk rfl [(.iload_n 1, 1, 1, 0, 0, .inl 0)] 0 1 _ _ _ (by decide +kernel) ?_
  show Go _ _ _ _ _ _ 1 [(0, rc o), (1, vi a0)] [vi a0] ((S, T), Y) _
  refine ite_el h (fun q1 h => ?_) (fun q1 h => ?_)
  · refine go_tableIn (dflt := 111) (lo := 0) (hi := 8) (offs := #[51, 57, 63, 72, 81, 87, 93, 99, 105]) (len := 51) (off := 51) (tgt := 52) (by decide +kernel) (by rw [q1]; decide) (by rw [q1]; decide) (by rw [q1]; decide) (by decide) ?_
    refine go_blk rfl [(.aload_n 0, 1, 0, 0, 0, .inl 0), (.getfield 9, 3, 4, 0, 0, .inl 0), (.i2l, 1, 0, 0, 0, .inl 0)] 52 57 _ _ _ (by decide +kernel) ?_
    refine And.intro hh.1 ?_
    show Go _ _ _ _ _ _ 57 [(0, rc o), (1, vi a0)] [vl ((S.1 o 0).toInt64)] ((S, T), Y) _
    obtain rfl := Option.some.inj h
    exact go_lreturn (by decide +kernel) rfl ⟨rfl, rfl⟩
  refine ite_el h (fun q2 h => ?_) (fun q2 h => ?_)
  · refine go_tableIn (dflt := 111) (lo := 0) (hi := 8) (offs := #[51, 57, 63, 72, 81, 87, 93, 99, 105]) (len := 51) (off := 57) (tgt := 58) (by decide +kernel) (by rw [q2]; decide) (by rw [q2]; decide) (by rw [q2]; decide) (by decide) ?_
    refine go_blk rfl [(.aload_n 0, 1, 0, 0, 0, .inl 0), (.getfield 27, 3, 4, 5, 0, .inl 0), (.i2l, 1, 0, 0, 0, .inl 0)] 58 63 _ _ _ (by decide +kernel) ?_
    refine And.intro hh.1 ?_
    show Go _ _ _ _ _ _ 63 [(0, rc o), (1, vi a0)] [vl ((S.1 o 5).toInt64)] ((S, T), Y) _
    obtain rfl := Option.some.inj h
    exact go_lreturn (by decide +kernel) rfl ⟨rfl, rfl⟩
  refine ite_el h (fun q3 h => ?_) (fun q3 h => ?_)
  · refine go_tableIn (dflt := 111) (lo := 0) (hi := 8) (offs := #[51, 57, 63, 72, 81, 87, 93, 99, 105]) (len := 51) (off := 63) (tgt := 64) (by decide +kernel) (by rw [q3]; decide) (by rw [q3]; decide) (by rw [q3]; decide) (by decide) ?_
    refine go_blk rfl [(.aload_n 0, 1, 0, 0, 0, .inl 0), (.getfield 24, 3, 4, 4, 0, .inl 0)] 64 68 _ _ _ (by decide +kernel) ?_
    refine And.intro hh.1 ?_
    show Go _ _ _ _ _ _ 68 [(0, rc o), (1, vi a0)] [vi (S.1 o 4)] ((S, T), Y) _
    obtain ⟨r1, hr1, h⟩ := bind_el h
    refine go_callS (idx := 61) (z := 0) (M' := M13_bitCount) (n := 1) (A := [vi (S.1 o 4)]) (v' := some (vi r1)) (μ' := ((S, T), Y)) (d' := 1) (mc' := 0) (ms' := 0) (kc' := 0) (ks' := 0) (by decide +kernel) ml_4_61 rfl ws13_bitCount rfl (ret13_bitCount hr1) (by decide) rfl rfl (Nat.le_of_ble_eq_true rfl) rfl (jag rfl rfl) ?_
    show Go _ _ _ _ _ _ 71 [(0, rc o), (1, vi a0)] [vi r1] ((S, T), Y) _
    refine go_blk rfl [(.i2l, 1, 0, 0, 0, .inl 0)] 71 72 _ _ _ (by decide +kernel) ?_
    show Go _ _ _ _ _ _ 72 [(0, rc o), (1, vi a0)] [vl r1.toInt64] ((S, T), Y) _
    obtain rfl := Option.some.inj h
    exact go_lreturn (by decide +kernel) rfl ⟨rfl, rfl⟩
  refine ite_el h (fun q4 h => ?_) (fun q4 h => ?_)
  · refine go_tableIn (dflt := 111) (lo := 0) (hi := 8) (offs := #[51, 57, 63, 72, 81, 87, 93, 99, 105]) (len := 51) (off := 72) (tgt := 73) (by decide +kernel) (by rw [q4]; decide) (by rw [q4]; decide) (by rw [q4]; decide) (by decide) ?_
    refine go_blk rfl [(.aload_n 0, 1, 0, 0, 0, .inl 0), (.getfield 21, 3, 4, 3, 0, .inl 0)] 73 77 _ _ _ (by decide +kernel) ?_
    refine And.intro hh.1 ?_
    show Go _ _ _ _ _ _ 77 [(0, rc o), (1, vi a0)] [vi (S.1 o 3)] ((S, T), Y) _
    obtain ⟨r2, hr2, h⟩ := bind_el h
    refine go_callS (idx := 61) (z := 0) (M' := M13_bitCount) (n := 1) (A := [vi (S.1 o 3)]) (v' := some (vi r2)) (μ' := ((S, T), Y)) (d' := 1) (mc' := 0) (ms' := 0) (kc' := 0) (ks' := 0) (by decide +kernel) ml_4_61 rfl ws13_bitCount rfl (ret13_bitCount hr2) (by decide) rfl rfl (Nat.le_of_ble_eq_true rfl) rfl (jag rfl rfl) ?_
    show Go _ _ _ _ _ _ 80 [(0, rc o), (1, vi a0)] [vi r2] ((S, T), Y) _
    refine go_blk rfl [(.i2l, 1, 0, 0, 0, .inl 0)] 80 81 _ _ _ (by decide +kernel) ?_
    show Go _ _ _ _ _ _ 81 [(0, rc o), (1, vi a0)] [vl r2.toInt64] ((S, T), Y) _
    obtain rfl := Option.some.inj h
    exact go_lreturn (by decide +kernel) rfl ⟨rfl, rfl⟩
  refine ite_el h (fun q5 h => ?_) (fun q5 h => ?_)
  · refine go_tableIn (dflt := 111) (lo := 0) (hi := 8) (offs := #[51, 57, 63, 72, 81, 87, 93, 99, 105]) (len := 51) (off := 81) (tgt := 82) (by decide +kernel) (by rw [q5]; decide) (by rw [q5]; decide) (by rw [q5]; decide) (by decide) ?_
    refine go_blk rfl [(.aload_n 0, 1, 0, 0, 0, .inl 0), (.getfield 30, 3, 4, 6, 0, .inl 0), (.i2l, 1, 0, 0, 0, .inl 0)] 82 87 _ _ _ (by decide +kernel) ?_
    refine And.intro hh.1 ?_
    show Go _ _ _ _ _ _ 87 [(0, rc o), (1, vi a0)] [vl ((S.1 o 6).toInt64)] ((S, T), Y) _
    obtain rfl := Option.some.inj h
    exact go_lreturn (by decide +kernel) rfl ⟨rfl, rfl⟩
  refine ite_el h (fun q6 h => ?_) (fun q6 h => ?_)
  · refine go_tableIn (dflt := 111) (lo := 0) (hi := 8) (offs := #[51, 57, 63, 72, 81, 87, 93, 99, 105]) (len := 51) (off := 87) (tgt := 88) (by decide +kernel) (by rw [q6]; decide) (by rw [q6]; decide) (by rw [q6]; decide) (by decide) ?_
    refine go_blk rfl [(.aload_n 0, 1, 0, 0, 0, .inl 0), (.getfield 33, 3, 4, 7, 0, .inl 0), (.i2l, 1, 0, 0, 0, .inl 0)] 88 93 _ _ _ (by decide +kernel) ?_
    refine And.intro hh.1 ?_
    show Go _ _ _ _ _ _ 93 [(0, rc o), (1, vi a0)] [vl ((S.1 o 7).toInt64)] ((S, T), Y) _
    obtain rfl := Option.some.inj h
    exact go_lreturn (by decide +kernel) rfl ⟨rfl, rfl⟩
  refine ite_el h (fun q7 h => ?_) (fun q7 h => ?_)
  · refine go_tableIn (dflt := 111) (lo := 0) (hi := 8) (offs := #[51, 57, 63, 72, 81, 87, 93, 99, 105]) (len := 51) (off := 93) (tgt := 94) (by decide +kernel) (by rw [q7]; decide) (by rw [q7]; decide) (by rw [q7]; decide) (by decide) ?_
    refine go_blk rfl [(.aload_n 0, 1, 0, 0, 0, .inl 0)] 94 95 _ _ _ (by decide +kernel) ?_
    show Go _ _ _ _ _ _ 95 [(0, rc o), (1, vi a0)] [rc o] ((S, T), Y) _
    obtain ⟨r3, hr3, h⟩ := bind_el h
    refine go_callV (idx := 89) (z := 0) (M' := M4_greatestStep) (n := 0) (A := []) (v' := some (vi r3)) (μ' := ((S, T), Y)) (d' := 1) (mc' := 0) (ms' := 0) (kc' := 0) (ks' := 0) (ci := 4) (x := .inl o) (by decide +kernel) ml_4_89 rfl wv4_greatestStep rfl (by decide) rfl hh.1 (ret4_greatestStep hh hr3) (by decide) rfl rfl (Nat.le_of_ble_eq_true rfl) rfl (jag rfl rfl) ?_
    show Go _ _ _ _ _ _ 98 [(0, rc o), (1, vi a0)] [vi r3] ((S, T), Y) _
    refine go_blk rfl [(.i2l, 1, 0, 0, 0, .inl 0)] 98 99 _ _ _ (by decide +kernel) ?_
    show Go _ _ _ _ _ _ 99 [(0, rc o), (1, vi a0)] [vl r3.toInt64] ((S, T), Y) _
    obtain rfl := Option.some.inj h
    exact go_lreturn (by decide +kernel) rfl ⟨rfl, rfl⟩
  refine ite_el h (fun q8 h => ?_) (fun q8 h => ?_)
  · refine go_tableIn (dflt := 111) (lo := 0) (hi := 8) (offs := #[51, 57, 63, 72, 81, 87, 93, 99, 105]) (len := 51) (off := 99) (tgt := 100) (by decide +kernel) (by rw [q8]; decide) (by rw [q8]; decide) (by rw [q8]; decide) (by decide) ?_
    refine go_blk rfl [(.aload_n 0, 1, 0, 0, 0, .inl 0)] 100 101 _ _ _ (by decide +kernel) ?_
    show Go _ _ _ _ _ _ 101 [(0, rc o), (1, vi a0)] [rc o] ((S, T), Y) _
    obtain ⟨r4, hr4, h⟩ := bind_el h
    refine go_callV (idx := 93) (z := 0) (M' := M4_leastStep) (n := 0) (A := []) (v' := some (vi r4)) (μ' := ((S, T), Y)) (d' := 1) (mc' := 0) (ms' := 0) (kc' := 0) (ks' := 0) (ci := 4) (x := .inl o) (by decide +kernel) ml_4_93 rfl wv4_leastStep rfl (by decide) rfl hh.1 (ret4_leastStep hh hr4) (by decide) rfl rfl (Nat.le_of_ble_eq_true rfl) rfl (jag rfl rfl) ?_
    show Go _ _ _ _ _ _ 104 [(0, rc o), (1, vi a0)] [vi r4] ((S, T), Y) _
    refine go_blk rfl [(.i2l, 1, 0, 0, 0, .inl 0)] 104 105 _ _ _ (by decide +kernel) ?_
    show Go _ _ _ _ _ _ 105 [(0, rc o), (1, vi a0)] [vl r4.toInt64] ((S, T), Y) _
    obtain rfl := Option.some.inj h
    exact go_lreturn (by decide +kernel) rfl ⟨rfl, rfl⟩
  refine ite_el h (fun q9 h => ?_) (fun q9 h => ?_)
  · refine go_tableIn (dflt := 111) (lo := 0) (hi := 8) (offs := #[51, 57, 63, 72, 81, 87, 93, 99, 105]) (len := 51) (off := 105) (tgt := 106) (by decide +kernel) (by rw [q9]; decide) (by rw [q9]; decide) (by rw [q9]; decide) (by decide) ?_
    refine go_blk rfl [(.aload_n 0, 1, 0, 0, 0, .inl 0)] 106 107 _ _ _ (by decide +kernel) ?_
    show Go _ _ _ _ _ _ 107 [(0, rc o), (1, vi a0)] [rc o] ((S, T), Y) _
    obtain ⟨r5, hr5, h⟩ := bind_el h
    refine go_callV (idx := 96) (z := 0) (M' := M4_countNear) (n := 0) (A := []) (v' := some (vi r5)) (μ' := ((S, T), Y)) (d' := 1) (mc' := 0) (ms' := 0) (kc' := 0) (ks' := 0) (ci := 4) (x := .inl o) (by decide +kernel) ml_4_96 rfl wv4_countNear rfl (by decide) rfl hh.1 (ret4_countNear hh hr5) (by decide) rfl rfl (Nat.le_of_ble_eq_true rfl) rfl (jag rfl rfl) ?_
    show Go _ _ _ _ _ _ 110 [(0, rc o), (1, vi a0)] [vi r5] ((S, T), Y) _
    refine go_blk rfl [(.i2l, 1, 0, 0, 0, .inl 0)] 110 111 _ _ _ (by decide +kernel) ?_
    show Go _ _ _ _ _ _ 111 [(0, rc o), (1, vi a0)] [vl r5.toInt64] ((S, T), Y) _
    obtain rfl := Option.some.inj h
    exact go_lreturn (by decide +kernel) rfl ⟨rfl, rfl⟩
  refine go_tableOut (dflt := 111) (lo := 0) (hi := 8) (offs := #[51, 57, 63, 72, 81, 87, 93, 99, 105]) (len := 51) (tgt := 112) (by decide +kernel) (by have z0 : a0.toInt ≠ 0 := tb_ne q1 (by decide); have z1 : a0.toInt ≠ 1 := tb_ne q2 (by decide); have z2 : a0.toInt ≠ 2 := tb_ne q3 (by decide); have z3 : a0.toInt ≠ 3 := tb_ne q4 (by decide); have z4 : a0.toInt ≠ 4 := tb_ne q5 (by decide); have z5 : a0.toInt ≠ 5 := tb_ne q6 (by decide); have z6 : a0.toInt ≠ 6 := tb_ne q7 (by decide); have z7 : a0.toInt ≠ 7 := tb_ne q8 (by decide); have z8 : a0.toInt ≠ 8 := tb_ne q9 (by decide); omega) (by decide) ?_
  refine go_blk rfl [(.aload_n 0, 1, 0, 0, 0, .inl 0)] 112 113 _ _ _ (by decide +kernel) ?_
  show Go _ _ _ _ _ _ 113 [(0, rc o), (1, vi a0)] [rc o] ((S, T), Y) _
  obtain ⟨r6, hr6, h⟩ := bind_el h
  refine go_callV (idx := 99) (z := 0) (M' := M4_tiredTogether) (n := 0) (A := []) (v' := some (vi r6)) (μ' := ((S, T), Y)) (d' := 1) (mc' := 0) (ms' := 0) (kc' := 0) (ks' := 0) (ci := 4) (x := .inl o) (by decide +kernel) ml_4_99 rfl wv4_tiredTogether rfl (by decide) rfl hh.1 (ret4_tiredTogether hh hr6) (by decide) rfl rfl (Nat.le_of_ble_eq_true rfl) rfl (jag rfl rfl) ?_
  show Go _ _ _ _ _ _ 116 [(0, rc o), (1, vi a0)] [vi r6] ((S, T), Y) _
  refine go_blk rfl [(.i2l, 1, 0, 0, 0, .inl 0)] 116 117 _ _ _ (by decide +kernel) ?_
  show Go _ _ _ _ _ _ 117 [(0, rc o), (1, vi a0)] [vl r6.toInt64] ((S, T), Y) _
  obtain rfl := Option.some.inj h
  exact go_lreturn (by decide +kernel) rfl ⟨rfl, rfl⟩
def f6_join (a0 : Int32) (a1 : Int64) (a2 : Int64) : Option Int64 := (if a0 = (-21) then some (a1 &&& a2) else (if a0 = (-20) then (if (lg_cmp a1 a2) ≤ 0 then some 0 else some 1) else (if a0 = (-19) then (if (lg_cmp a1 a2) < 0 then some 0 else some 1) else (if a0 = (-18) then (if (lg_cmp a1 a2) = 0 then some 1 else some 0) else (if a0 = (-17) then (if 0 < (lg_cmp a1 a2) then some 0 else some 1) else (if a0 = (-16) then (if 0 ≤ (lg_cmp a1 a2) then some 0 else some 1) else (if a0 = (-15) then (if (lg_cmp a2 0) = 0 then some 0 else (if ¬ a2 = 0 then some (lrm a1 a2) else none)) else (if a0 = (-14) then (if (lg_cmp a2 0) = 0 then some 0 else (if ¬ a2 = 0 then some (a1 / a2) else none)) else (if a0 = (-13) then some (a1 * a2) else (if a0 = (-12) then some (a1 - a2) else (if a0 = (-11) then some (a1 + a2) else some (a1 ||| a2))))))))))))
theorem ret6_join {μ : jMem} {a0 : Int32} {a1 : Int64} {a2 : Int64} {x : Int64} (h : f6_join a0 a1 a2 = some x) : Ret M6_join 1 0 0 [vi a0, vl a1, vl a2] μ (some (vl x)) μ := by
  refine Ret.of (by decide +kernel) (Nat.le_of_ble_eq_true rfl) ?_
  unfold f6_join at h
  show Go _ _ _ _ _ _ 0 [(0, vi a0), (1, vl a1), (3, vl a2)] [] μ _
  refine go_blk rfl [(.iload_n 0, 1, 0, 0, 0, .inl 0)] 0 1 _ _ _ (by decide +kernel) ?_
  show Go _ _ _ _ _ _ 1 [(0, vi a0), (1, vl a1), (3, vl a2)] [vi a0] μ _
  refine ite_el h (fun q10 h => ?_) (fun q10 h => ?_)
  · refine go_tableIn (dflt := 163) (lo := (-21)) (hi := (-11)) (offs := #[159, 147, 135, 123, 111, 99, 85, 71, 67, 63, 59]) (len := 59) (off := 159) (tgt := 160) (by decide +kernel) (by rw [q10]; decide) (by rw [q10]; decide) (by rw [q10]; decide) (by decide) ?_
    refine go_blk rfl [(.lload_n 1, 1, 1, 0, 0, .inl 0), (.lload_n 3, 1, 3, 0, 0, .inl 0), (.land, 1, 0, 0, 0, .inl 0)] 160 163 _ _ _ (by decide +kernel) ?_
    show Go _ _ _ _ _ _ 163 [(0, vi a0), (1, vl a1), (3, vl a2)] [vl (a1 &&& a2)] μ _
    obtain rfl := Option.some.inj h
    exact go_lreturn (by decide +kernel) rfl ⟨rfl, rfl⟩
  refine ite_el h (fun q11 h => ?_) (fun q11 h => ?_)
  · refine go_tableIn (dflt := 163) (lo := (-21)) (hi := (-11)) (offs := #[159, 147, 135, 123, 111, 99, 85, 71, 67, 63, 59]) (len := 59) (off := 147) (tgt := 148) (by decide +kernel) (by rw [q11]; decide) (by rw [q11]; decide) (by rw [q11]; decide) (by decide) ?_
    refine go_blk rfl [(.lload_n 1, 1, 1, 0, 0, .inl 0), (.lload_n 3, 1, 3, 0, 0, .inl 0), (.lcmp, 1, 0, 0, 0, .inl 0)] 148 151 _ _ _ (by decide +kernel) ?_
    show Go _ _ _ _ _ _ 151 [(0, vi a0), (1, vl a1), (3, vl a2)] [vi (lg_cmp a1 a2)] μ _
    refine ite_el h (fun q1 h => ?_) (fun q1 h => ?_)
    · refine go_if_le (off := 7) (tgt := 158) (by decide +kernel) (by decide) (fun _ => ?_) (fun z => absurd q1 z)
      refine go_blk rfl [(.lconst 0, 1, 0, 0, 0, .inr (.inl 0))] 158 159 _ _ _ (by decide +kernel) ?_
      show Go _ _ _ _ _ _ 159 [(0, vi a0), (1, vl a1), (3, vl a2)] [vl 0] μ _
      obtain rfl := Option.some.inj h
      exact go_lreturn (by decide +kernel) rfl ⟨rfl, rfl⟩
    · refine go_if_le (off := 7) (tgt := 158) (by decide +kernel) (by decide) (fun z => absurd z q1) (fun _ => ?_)
      refine go_blk rfl [(.lconst 1, 1, 0, 0, 0, .inr (.inl 1))] 154 155 _ _ _ (by decide +kernel) ?_
      show Go _ _ _ _ _ _ 155 [(0, vi a0), (1, vl a1), (3, vl a2)] [vl 1] μ _
      refine go_goto (off := 4) (tgt := 159) (by decide +kernel) (by decide) ?_
      obtain rfl := Option.some.inj h
      exact go_lreturn (by decide +kernel) rfl ⟨rfl, rfl⟩
  refine ite_el h (fun q12 h => ?_) (fun q12 h => ?_)
  · refine go_tableIn (dflt := 163) (lo := (-21)) (hi := (-11)) (offs := #[159, 147, 135, 123, 111, 99, 85, 71, 67, 63, 59]) (len := 59) (off := 135) (tgt := 136) (by decide +kernel) (by rw [q12]; decide) (by rw [q12]; decide) (by rw [q12]; decide) (by decide) ?_
    refine go_blk rfl [(.lload_n 1, 1, 1, 0, 0, .inl 0), (.lload_n 3, 1, 3, 0, 0, .inl 0), (.lcmp, 1, 0, 0, 0, .inl 0)] 136 139 _ _ _ (by decide +kernel) ?_
    show Go _ _ _ _ _ _ 139 [(0, vi a0), (1, vl a1), (3, vl a2)] [vi (lg_cmp a1 a2)] μ _
    refine ite_el h (fun q2 h => ?_) (fun q2 h => ?_)
    · refine go_if_lt (off := 7) (tgt := 146) (by decide +kernel) (by decide) (fun _ => ?_) (fun z => absurd q2 z)
      refine go_blk rfl [(.lconst 0, 1, 0, 0, 0, .inr (.inl 0))] 146 147 _ _ _ (by decide +kernel) ?_
      show Go _ _ _ _ _ _ 147 [(0, vi a0), (1, vl a1), (3, vl a2)] [vl 0] μ _
      obtain rfl := Option.some.inj h
      exact go_lreturn (by decide +kernel) rfl ⟨rfl, rfl⟩
    · refine go_if_lt (off := 7) (tgt := 146) (by decide +kernel) (by decide) (fun z => absurd z q2) (fun _ => ?_)
      refine go_blk rfl [(.lconst 1, 1, 0, 0, 0, .inr (.inl 1))] 142 143 _ _ _ (by decide +kernel) ?_
      show Go _ _ _ _ _ _ 143 [(0, vi a0), (1, vl a1), (3, vl a2)] [vl 1] μ _
      refine go_goto (off := 4) (tgt := 147) (by decide +kernel) (by decide) ?_
      obtain rfl := Option.some.inj h
      exact go_lreturn (by decide +kernel) rfl ⟨rfl, rfl⟩
  refine ite_el h (fun q13 h => ?_) (fun q13 h => ?_)
  · refine go_tableIn (dflt := 163) (lo := (-21)) (hi := (-11)) (offs := #[159, 147, 135, 123, 111, 99, 85, 71, 67, 63, 59]) (len := 59) (off := 123) (tgt := 124) (by decide +kernel) (by rw [q13]; decide) (by rw [q13]; decide) (by rw [q13]; decide) (by decide) ?_
    refine go_blk rfl [(.lload_n 1, 1, 1, 0, 0, .inl 0), (.lload_n 3, 1, 3, 0, 0, .inl 0), (.lcmp, 1, 0, 0, 0, .inl 0)] 124 127 _ _ _ (by decide +kernel) ?_
    show Go _ _ _ _ _ _ 127 [(0, vi a0), (1, vl a1), (3, vl a2)] [vi (lg_cmp a1 a2)] μ _
    refine ite_el h (fun q3 h => ?_) (fun q3 h => ?_)
    · refine go_if_ne (off := 7) (tgt := 134) (by decide +kernel) (by decide) (fun z => absurd q3 z) (fun _ => ?_)
      refine go_blk rfl [(.lconst 1, 1, 0, 0, 0, .inr (.inl 1))] 130 131 _ _ _ (by decide +kernel) ?_
      show Go _ _ _ _ _ _ 131 [(0, vi a0), (1, vl a1), (3, vl a2)] [vl 1] μ _
      refine go_goto (off := 4) (tgt := 135) (by decide +kernel) (by decide) ?_
      obtain rfl := Option.some.inj h
      exact go_lreturn (by decide +kernel) rfl ⟨rfl, rfl⟩
    · refine go_if_ne (off := 7) (tgt := 134) (by decide +kernel) (by decide) (fun _ => ?_) (fun z => absurd z q3)
      refine go_blk rfl [(.lconst 0, 1, 0, 0, 0, .inr (.inl 0))] 134 135 _ _ _ (by decide +kernel) ?_
      show Go _ _ _ _ _ _ 135 [(0, vi a0), (1, vl a1), (3, vl a2)] [vl 0] μ _
      obtain rfl := Option.some.inj h
      exact go_lreturn (by decide +kernel) rfl ⟨rfl, rfl⟩
  refine ite_el h (fun q14 h => ?_) (fun q14 h => ?_)
  · refine go_tableIn (dflt := 163) (lo := (-21)) (hi := (-11)) (offs := #[159, 147, 135, 123, 111, 99, 85, 71, 67, 63, 59]) (len := 59) (off := 111) (tgt := 112) (by decide +kernel) (by rw [q14]; decide) (by rw [q14]; decide) (by rw [q14]; decide) (by decide) ?_
    refine go_blk rfl [(.lload_n 1, 1, 1, 0, 0, .inl 0), (.lload_n 3, 1, 3, 0, 0, .inl 0), (.lcmp, 1, 0, 0, 0, .inl 0)] 112 115 _ _ _ (by decide +kernel) ?_
    show Go _ _ _ _ _ _ 115 [(0, vi a0), (1, vl a1), (3, vl a2)] [vi (lg_cmp a1 a2)] μ _
    refine ite_el h (fun q4 h => ?_) (fun q4 h => ?_)
    · refine go_if_gt (off := 7) (tgt := 122) (by decide +kernel) (by decide) (fun _ => ?_) (fun z => absurd q4 z)
      refine go_blk rfl [(.lconst 0, 1, 0, 0, 0, .inr (.inl 0))] 122 123 _ _ _ (by decide +kernel) ?_
      show Go _ _ _ _ _ _ 123 [(0, vi a0), (1, vl a1), (3, vl a2)] [vl 0] μ _
      obtain rfl := Option.some.inj h
      exact go_lreturn (by decide +kernel) rfl ⟨rfl, rfl⟩
    · refine go_if_gt (off := 7) (tgt := 122) (by decide +kernel) (by decide) (fun z => absurd z q4) (fun _ => ?_)
      refine go_blk rfl [(.lconst 1, 1, 0, 0, 0, .inr (.inl 1))] 118 119 _ _ _ (by decide +kernel) ?_
      show Go _ _ _ _ _ _ 119 [(0, vi a0), (1, vl a1), (3, vl a2)] [vl 1] μ _
      refine go_goto (off := 4) (tgt := 123) (by decide +kernel) (by decide) ?_
      obtain rfl := Option.some.inj h
      exact go_lreturn (by decide +kernel) rfl ⟨rfl, rfl⟩
  refine ite_el h (fun q15 h => ?_) (fun q15 h => ?_)
  · refine go_tableIn (dflt := 163) (lo := (-21)) (hi := (-11)) (offs := #[159, 147, 135, 123, 111, 99, 85, 71, 67, 63, 59]) (len := 59) (off := 99) (tgt := 100) (by decide +kernel) (by rw [q15]; decide) (by rw [q15]; decide) (by rw [q15]; decide) (by decide) ?_
    refine go_blk rfl [(.lload_n 1, 1, 1, 0, 0, .inl 0), (.lload_n 3, 1, 3, 0, 0, .inl 0), (.lcmp, 1, 0, 0, 0, .inl 0)] 100 103 _ _ _ (by decide +kernel) ?_
    show Go _ _ _ _ _ _ 103 [(0, vi a0), (1, vl a1), (3, vl a2)] [vi (lg_cmp a1 a2)] μ _
    refine ite_el h (fun q5 h => ?_) (fun q5 h => ?_)
    · refine go_if_ge (off := 7) (tgt := 110) (by decide +kernel) (by decide) (fun _ => ?_) (fun z => absurd q5 z)
      refine go_blk rfl [(.lconst 0, 1, 0, 0, 0, .inr (.inl 0))] 110 111 _ _ _ (by decide +kernel) ?_
      show Go _ _ _ _ _ _ 111 [(0, vi a0), (1, vl a1), (3, vl a2)] [vl 0] μ _
      obtain rfl := Option.some.inj h
      exact go_lreturn (by decide +kernel) rfl ⟨rfl, rfl⟩
    · refine go_if_ge (off := 7) (tgt := 110) (by decide +kernel) (by decide) (fun z => absurd z q5) (fun _ => ?_)
      refine go_blk rfl [(.lconst 1, 1, 0, 0, 0, .inr (.inl 1))] 106 107 _ _ _ (by decide +kernel) ?_
      show Go _ _ _ _ _ _ 107 [(0, vi a0), (1, vl a1), (3, vl a2)] [vl 1] μ _
      refine go_goto (off := 4) (tgt := 111) (by decide +kernel) (by decide) ?_
      obtain rfl := Option.some.inj h
      exact go_lreturn (by decide +kernel) rfl ⟨rfl, rfl⟩
  refine ite_el h (fun q16 h => ?_) (fun q16 h => ?_)
  · refine go_tableIn (dflt := 163) (lo := (-21)) (hi := (-11)) (offs := #[159, 147, 135, 123, 111, 99, 85, 71, 67, 63, 59]) (len := 59) (off := 85) (tgt := 86) (by decide +kernel) (by rw [q16]; decide) (by rw [q16]; decide) (by rw [q16]; decide) (by decide) ?_
    refine go_blk rfl [(.lload_n 3, 1, 3, 0, 0, .inl 0), (.lconst 0, 1, 0, 0, 0, .inr (.inl 0)), (.lcmp, 1, 0, 0, 0, .inl 0)] 86 89 _ _ _ (by decide +kernel) ?_
    show Go _ _ _ _ _ _ 89 [(0, vi a0), (1, vl a1), (3, vl a2)] [vi (lg_cmp a2 0)] μ _
    refine ite_el h (fun q6 h => ?_) (fun q6 h => ?_)
    · refine go_if_ne (off := 7) (tgt := 96) (by decide +kernel) (by decide) (fun z => absurd q6 z) (fun _ => ?_)
      refine go_blk rfl [(.lconst 0, 1, 0, 0, 0, .inr (.inl 0))] 92 93 _ _ _ (by decide +kernel) ?_
      show Go _ _ _ _ _ _ 93 [(0, vi a0), (1, vl a1), (3, vl a2)] [vl 0] μ _
      refine go_goto (off := 6) (tgt := 99) (by decide +kernel) (by decide) ?_
      obtain rfl := Option.some.inj h
      exact go_lreturn (by decide +kernel) rfl ⟨rfl, rfl⟩
    · refine go_if_ne (off := 7) (tgt := 96) (by decide +kernel) (by decide) (fun _ => ?_) (fun z => absurd z q6)
      refine gd_el h (fun q7 h => ?_)
      refine go_blk rfl [(.lload_n 1, 1, 1, 0, 0, .inl 0), (.lload_n 3, 1, 3, 0, 0, .inl 0), (.lrem, 1, 0, 0, 0, .inl 0)] 96 99 _ _ _ (by decide +kernel) ?_
      refine And.intro q7 ?_
      show Go _ _ _ _ _ _ 99 [(0, vi a0), (1, vl a1), (3, vl a2)] [vl (lrm a1 a2)] μ _
      obtain rfl := Option.some.inj h
      exact go_lreturn (by decide +kernel) rfl ⟨rfl, rfl⟩
  refine ite_el h (fun q17 h => ?_) (fun q17 h => ?_)
  · refine go_tableIn (dflt := 163) (lo := (-21)) (hi := (-11)) (offs := #[159, 147, 135, 123, 111, 99, 85, 71, 67, 63, 59]) (len := 59) (off := 71) (tgt := 72) (by decide +kernel) (by rw [q17]; decide) (by rw [q17]; decide) (by rw [q17]; decide) (by decide) ?_
    refine go_blk rfl [(.lload_n 3, 1, 3, 0, 0, .inl 0), (.lconst 0, 1, 0, 0, 0, .inr (.inl 0)), (.lcmp, 1, 0, 0, 0, .inl 0)] 72 75 _ _ _ (by decide +kernel) ?_
    show Go _ _ _ _ _ _ 75 [(0, vi a0), (1, vl a1), (3, vl a2)] [vi (lg_cmp a2 0)] μ _
    refine ite_el h (fun q8 h => ?_) (fun q8 h => ?_)
    · refine go_if_ne (off := 7) (tgt := 82) (by decide +kernel) (by decide) (fun z => absurd q8 z) (fun _ => ?_)
      refine go_blk rfl [(.lconst 0, 1, 0, 0, 0, .inr (.inl 0))] 78 79 _ _ _ (by decide +kernel) ?_
      show Go _ _ _ _ _ _ 79 [(0, vi a0), (1, vl a1), (3, vl a2)] [vl 0] μ _
      refine go_goto (off := 6) (tgt := 85) (by decide +kernel) (by decide) ?_
      obtain rfl := Option.some.inj h
      exact go_lreturn (by decide +kernel) rfl ⟨rfl, rfl⟩
    · refine go_if_ne (off := 7) (tgt := 82) (by decide +kernel) (by decide) (fun _ => ?_) (fun z => absurd z q8)
      refine gd_el h (fun q9 h => ?_)
      refine go_blk rfl [(.lload_n 1, 1, 1, 0, 0, .inl 0), (.lload_n 3, 1, 3, 0, 0, .inl 0), (.ldiv, 1, 0, 0, 0, .inl 0)] 82 85 _ _ _ (by decide +kernel) ?_
      refine And.intro q9 ?_
      show Go _ _ _ _ _ _ 85 [(0, vi a0), (1, vl a1), (3, vl a2)] [vl (a1 / a2)] μ _
      obtain rfl := Option.some.inj h
      exact go_lreturn (by decide +kernel) rfl ⟨rfl, rfl⟩
  refine ite_el h (fun q18 h => ?_) (fun q18 h => ?_)
  · refine go_tableIn (dflt := 163) (lo := (-21)) (hi := (-11)) (offs := #[159, 147, 135, 123, 111, 99, 85, 71, 67, 63, 59]) (len := 59) (off := 67) (tgt := 68) (by decide +kernel) (by rw [q18]; decide) (by rw [q18]; decide) (by rw [q18]; decide) (by decide) ?_
    refine go_blk rfl [(.lload_n 1, 1, 1, 0, 0, .inl 0), (.lload_n 3, 1, 3, 0, 0, .inl 0), (.lmul, 1, 0, 0, 0, .inl 0)] 68 71 _ _ _ (by decide +kernel) ?_
    show Go _ _ _ _ _ _ 71 [(0, vi a0), (1, vl a1), (3, vl a2)] [vl (a1 * a2)] μ _
    obtain rfl := Option.some.inj h
    exact go_lreturn (by decide +kernel) rfl ⟨rfl, rfl⟩
  refine ite_el h (fun q19 h => ?_) (fun q19 h => ?_)
  · refine go_tableIn (dflt := 163) (lo := (-21)) (hi := (-11)) (offs := #[159, 147, 135, 123, 111, 99, 85, 71, 67, 63, 59]) (len := 59) (off := 63) (tgt := 64) (by decide +kernel) (by rw [q19]; decide) (by rw [q19]; decide) (by rw [q19]; decide) (by decide) ?_
    refine go_blk rfl [(.lload_n 1, 1, 1, 0, 0, .inl 0), (.lload_n 3, 1, 3, 0, 0, .inl 0), (.lsub, 1, 0, 0, 0, .inl 0)] 64 67 _ _ _ (by decide +kernel) ?_
    show Go _ _ _ _ _ _ 67 [(0, vi a0), (1, vl a1), (3, vl a2)] [vl (a1 - a2)] μ _
    obtain rfl := Option.some.inj h
    exact go_lreturn (by decide +kernel) rfl ⟨rfl, rfl⟩
  refine ite_el h (fun q20 h => ?_) (fun q20 h => ?_)
  · refine go_tableIn (dflt := 163) (lo := (-21)) (hi := (-11)) (offs := #[159, 147, 135, 123, 111, 99, 85, 71, 67, 63, 59]) (len := 59) (off := 59) (tgt := 60) (by decide +kernel) (by rw [q20]; decide) (by rw [q20]; decide) (by rw [q20]; decide) (by decide) ?_
    refine go_blk rfl [(.lload_n 1, 1, 1, 0, 0, .inl 0), (.lload_n 3, 1, 3, 0, 0, .inl 0), (.ladd, 1, 0, 0, 0, .inl 0)] 60 63 _ _ _ (by decide +kernel) ?_
    show Go _ _ _ _ _ _ 63 [(0, vi a0), (1, vl a1), (3, vl a2)] [vl (a1 + a2)] μ _
    obtain rfl := Option.some.inj h
    exact go_lreturn (by decide +kernel) rfl ⟨rfl, rfl⟩
  refine go_tableOut (dflt := 163) (lo := (-21)) (hi := (-11)) (offs := #[159, 147, 135, 123, 111, 99, 85, 71, 67, 63, 59]) (len := 59) (tgt := 164) (by decide +kernel) (by have z0 : a0.toInt ≠ (-21) := tb_ne q10 (by decide); have z1 : a0.toInt ≠ (-20) := tb_ne q11 (by decide); have z2 : a0.toInt ≠ (-19) := tb_ne q12 (by decide); have z3 : a0.toInt ≠ (-18) := tb_ne q13 (by decide); have z4 : a0.toInt ≠ (-17) := tb_ne q14 (by decide); have z5 : a0.toInt ≠ (-16) := tb_ne q15 (by decide); have z6 : a0.toInt ≠ (-15) := tb_ne q16 (by decide); have z7 : a0.toInt ≠ (-14) := tb_ne q17 (by decide); have z8 : a0.toInt ≠ (-13) := tb_ne q18 (by decide); have z9 : a0.toInt ≠ (-12) := tb_ne q19 (by decide); have z10 : a0.toInt ≠ (-11) := tb_ne q20 (by decide); omega) (by decide) ?_
  refine go_blk rfl [(.lload_n 1, 1, 1, 0, 0, .inl 0), (.lload_n 3, 1, 3, 0, 0, .inl 0), (.lor, 1, 0, 0, 0, .inl 0)] 164 167 _ _ _ (by decide +kernel) ?_
  show Go _ _ _ _ _ _ 167 [(0, vi a0), (1, vl a1), (3, vl a2)] [vl (a1 ||| a2)] μ _
  obtain rfl := Option.some.inj h
  exact go_lreturn (by decide +kernel) rfl ⟨rfl, rfl⟩
