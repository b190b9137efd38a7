/-! rows of beats: the methods (from the generator; the recursion by depth) -/
def f2_rowsFrom_L1 (F : jS → Int32 → Int32 → Int32 → Option (jS × Int32)) (T : jT) (l1 : Int32) (l2 : Int32) (l3 : Int32) : Nat → jS → Int32 → Int32 → Option (jS × Int32)
  | 0, _, _, _ => none
  | n + 1, S, l4, l5 => (if 6 < l5 then some (S, l4) else (if inb l1 4 then (if inb (l1 + 1) 5 then (if inb l1 5 then Option.bind (T.1 28 (l1 + 1).toNatClampNeg) (fun b14 => Option.bind (T.1 28 l1.toNatClampNeg) (fun b16 => Option.bind (f4_copyFrom (wI S 65 l1.toNatClampNeg l5) b14 b16) (fun r5 => Option.bind (f3_roundOf r5.1 b14 l5) (fun r6 => Option.bind (F r6.1 (l1 + 1) l2 l3) (fun r7 => f2_rowsFrom_L1 F T l1 l2 l3 n r7.1 (l4 + r7.2) (l5 + 1)))))) else none) else none) else none))
def f2_rowsB (F : jS → Int32 → Int32 → Int32 → Option (jS × Int32)) (T : jT) (S : jS) (a0 : Int32) (a1 : Int32) (a2 : Int32) : Option (jS × Int32) := (if a0 < 0 then some (S, 0) else (if 4 < a0 then some (S, 0) else (if inb a0 5 then Option.bind (T.1 28 a0.toNatClampNeg) (fun b4 => Option.bind (f4_isIn S b4 a2) (fun r1 => (if r1 = 0 then some (S, 0) else (if a1 ≤ a0 then Option.bind (f2_rowsOfRest S a0 a1) (fun r2 => some (r2.1, r2.2)) else (if a0 = 4 then Option.bind (f2_rowsOfRest S a0 a1) (fun r3 => some (r3.1, r3.2)) else Option.bind (f4_isOver S b4) (fun r4 => (if r4 = 0 then Option.bind (f2_rowsFrom_L1 F T a0 a1 a2 jF S 0 1) (fun y8 => some (y8.1, y8.2)) else Option.bind (f2_rowsOfRest S a0 a1) (fun r9 => some (r9.1, r9.2))))))))) else none)))
theorem f2_rowsFrom_L1_ok {F : jS → Int32 → Int32 → Int32 → Option (jS × Int32)} {D : Nat} {T : jT} {Y : jS × jT} {l1 : Int32} {l2 : Int32} {l3 : Int32} {Q : Option jV → jMem → Prop} (hT : LayC T) (hF : ∀ {S : jS} {a0 a1 a2 : Int32} {S1 : jS} {x : Int32}, F S a0 a1 a2 = some (S1, x) → Ret M2_rowsFrom (D + 4) 0 0 [rc 20, vi a0, vi a1, vi a2] ((S, T), Y) (some (vi x)) ((S1, T), Y)) : ∀ (n : Nat) (S : jS) (l4 : Int32) (l5 : Int32) (r : (jS × Int32)), f2_rowsFrom_L1 F T l1 l2 l3 n S l4 l5 = some r → Go M2_rowsFrom (D + 5) 0 0 0 0 129 [(4, vi r.2)] [] ((r.1, T), Y) Q → Go M2_rowsFrom (D + 5) 0 0 0 0 59 [(0, rc 20), (1, vi l1), (2, vi l2), (3, vi l3), (4, vi l4), (5, vi l5)] [] ((S, T), Y) Q := by
  intro n
  induction n with
  | zero => intro S l4 l5 r h k; exact absurd h (by intro z; cases z)
  | succ n ih =>
    intro S l4 l5 r h k
    rw [f2_rowsFrom_L1] at h
    refine go_blk rfl [(.iload 5, 2, 5, 0, 0, .inl 0), (.bipush 6, 2, 0, 0, 0, .inl 6)] 59 63 _ _ _ (by decide +kernel) ?_
    show Go _ _ _ _ _ _ 63 [(0, rc 20), (1, vi l1), (2, vi l2), (3, vi l3), (4, vi l4), (5, vi l5)] [vi 6, vi l5] ((S, T), Y) _
    refine ite_el h (fun q10 h => ?_) (fun q10 h => ?_)
    · refine go_icmp_gt (off := 66) (tgt := 129) (by decide +kernel) (by decide) (fun _ => ?_) (fun z => absurd q10 z)
      obtain rfl := Option.some.inj h
      refine go_pick [4] rfl ?_
      exact k
    · refine go_icmp_gt (off := 66) (tgt := 129) (by decide +kernel) (by decide) (fun z => absurd z q10) (fun _ => ?_)
      refine gd_el h (fun q11 h => ?_)
      refine go_blk rfl [(.aload_n 0, 1, 0, 0, 0, .inl 0), (.getfield 22, 3, 2, 3, 1, .inl 0), (.iload_n 1, 1, 1, 0, 0, .inl 0), (.iload 5, 2, 5, 0, 0, .inl 0), (.iastore, 1, 20, 0, 0, .inl 0)] 66 74 _ _ _ (by decide +kernel) ?_
      refine And.intro (lc_t20 hT) (Exists.intro _ (And.intro (gRc (lc_r2_3 hT)) ?_))
      refine And.intro (lc_t65 hT) (Exists.intro _ (And.intro (lc_n65 hT) (And.intro (inb_in q11) ?_)))
      show Go _ _ _ _ _ _ 74 [(0, rc 20), (1, vi l1), (2, vi l2), (3, vi l3), (4, vi l4), (5, vi l5)] [] ((wI S 65 l1.toNatClampNeg l5, T), Y) _
      refine gd_el h (fun q12 h => ?_)
      refine gd_el h (fun q13 h => ?_)
      refine go_blk rfl [(.aload_n 0, 1, 0, 0, 0, .inl 0), (.getfield 18, 3, 2, 2, 1, .inl 0), (.iload_n 1, 1, 1, 0, 0, .inl 0), (.iconst 1, 1, 0, 0, 0, .inl 1), (.iadd, 1, 0, 0, 0, .inl 0), (.aaload, 1, 24, 0, 0, .inl 0), (.aload_n 0, 1, 0, 0, 0, .inl 0), (.getfield 18, 3, 2, 2, 1, .inl 0), (.iload_n 1, 1, 1, 0, 0, .inl 0), (.aaload, 1, 24, 0, 0, .inl 0)] 74 88 _ _ _ (by decide +kernel) ?_
      refine And.intro (lc_t20 hT) (Exists.intro _ (And.intro (gRc (lc_r2_2 hT)) ?_))
      refine And.intro (lc_t28 hT) (Exists.intro _ (And.intro (lc_n28 hT) (And.intro (inb_in q12) (Exists.intro _ (And.intro gRo ?_)))))
      refine And.intro (lc_t20 hT) (Exists.intro _ (And.intro (gRc (lc_r2_2 hT)) ?_))
      refine And.intro (lc_t28 hT) (Exists.intro _ (And.intro (lc_n28 hT) (And.intro (inb_in q13) (Exists.intro _ (And.intro gRo ?_)))))
      show Go _ _ _ _ _ _ 88 [(0, rc 20), (1, vi l1), (2, vi l2), (3, vi l3), (4, vi l4), (5, vi l5)] [vo (T.1 28 l1.toNatClampNeg), vo (T.1 28 (l1 + 1).toNatClampNeg)] ((wI S 65 l1.toNatClampNeg l5, T), Y) _
      obtain ⟨b14, o15, h⟩ := bind_el h
      rw [o15]
      obtain ⟨b16, o17, h⟩ := bind_el h
      rw [o17]
      obtain ⟨r5, hr5, h⟩ := bind_el h
      refine go_callV (idx := 50) (z := 1) (M' := M4_copyFrom) (n := 1) (A := [rc b16]) (v' := none) (μ' := ((r5.1, T), Y)) (d' := 2) (mc' := 0) (ms' := 0) (kc' := 0) (ks' := 0) (ci := 4) (x := .inl b14) (by decide +kernel) ml_2_50 rfl wv4_copyFrom rfl (by decide) rfl (((lc_e28 hT) (l1 + 1).toNatClampNeg) b14 o15).1 (ret4_copyFrom (((lc_e28 hT) (l1 + 1).toNatClampNeg) b14 o15) (((lc_e28 hT) l1.toNatClampNeg) b16 o17) hr5) (by omega) rfl rfl (Nat.le_of_ble_eq_true rfl) rfl (jag rfl rfl) ?_
      show Go _ _ _ _ _ _ 91 [(0, rc 20), (1, vi l1), (2, vi l2), (3, vi l3), (4, vi l4), (5, vi l5)] [] ((r5.1, T), Y) _
      refine go_blk rfl [(.aload_n 0, 1, 0, 0, 0, .inl 0), (.getfield 46, 3, 2, 0, 1, .inl 0), (.aload_n 0, 1, 0, 0, 0, .inl 0), (.getfield 18, 3, 2, 2, 1, .inl 0), (.iload_n 1, 1, 1, 0, 0, .inl 0), (.iconst 1, 1, 0, 0, 0, .inl 1), (.iadd, 1, 0, 0, 0, .inl 0), (.aaload, 1, 24, 0, 0, .inl 0), (.iload 5, 2, 5, 0, 0, .inl 0)] 91 105 _ _ _ (by decide +kernel) ?_
      refine And.intro (lc_t20 hT) (Exists.intro _ (And.intro (gRc (lc_r2_0 hT)) ?_))
      refine And.intro (lc_t20 hT) (Exists.intro _ (And.intro (gRc (lc_r2_2 hT)) ?_))
      refine And.intro (lc_t28 hT) (Exists.intro _ (And.intro (lc_n28 hT) (And.intro (inb_in q12) (Exists.intro _ (And.intro (gRc o15) ?_)))))
      show Go _ _ _ _ _ _ 105 [(0, rc 20), (1, vi l1), (2, vi l2), (3, vi l3), (4, vi l4), (5, vi l5)] [vi l5, rc b14, rc 17] ((r5.1, T), Y) _
      obtain ⟨r6, hr6, h⟩ := bind_el h
      refine go_callV (idx := 71) (z := 1) (M' := M3_roundOf) (n := 2) (A := [rc b14, vi l5]) (v' := some (vi r6.2)) (μ' := ((r6.1, T), Y)) (d' := 4) (mc' := 0) (ms' := 0) (kc' := 0) (ks' := 0) (ci := 3) (x := .inl 17) (by decide +kernel) ml_2_71 rfl wv3_roundOf rfl (by decide) rfl (lc_t17 hT) (ret3_roundOf hT (((lc_e28 hT) (l1 + 1).toNatClampNeg) b14 o15) hr6) (by omega) rfl rfl (Nat.le_of_ble_eq_true rfl) rfl (jag rfl rfl) ?_
      show Go _ _ _ _ _ _ 108 [(0, rc 20), (1, vi l1), (2, vi l2), (3, vi l3), (4, vi l4), (5, vi l5)] [vi r6.2] ((r6.1, T), Y) _
      refine go_blk rfl [(.pop, 1, 0, 0, 0, .inl 0), (.iload 4, 2, 4, 0, 0, .inl 0), (.aload_n 0, 1, 0, 0, 0, .inl 0), (.iload_n 1, 1, 1, 0, 0, .inl 0), (.iconst 1, 1, 0, 0, 0, .inl 1), (.iadd, 1, 0, 0, 0, .inl 0), (.iload_n 2, 1, 2, 0, 0, .inl 0), (.iload_n 3, 1, 3, 0, 0, .inl 0)] 108 117 _ _ _ (by decide +kernel) ?_
      show Go _ _ _ _ _ _ 117 [(0, rc 20), (1, vi l1), (2, vi l2), (3, vi l3), (4, vi l4), (5, vi l5)] [vi l3, vi l2, vi (l1 + 1), rc 20, vi l4] ((r6.1, T), Y) _
      obtain ⟨r7, hr7, h⟩ := bind_el h
      refine go_callV (idx := 79) (z := 0) (M' := M2_rowsFrom) (n := 3) (A := [vi (l1 + 1), vi l2, vi l3]) (v' := some (vi r7.2)) (μ' := ((r7.1, T), Y)) (d' := D + 4) (mc' := 0) (ms' := 0) (kc' := 0) (ks' := 0) (ci := 2) (x := .inl 20) (by decide +kernel) ml_2_79 rfl wv2_rowsFrom rfl (by decide) rfl (lc_t20 hT) (hF hr7) (by omega) rfl rfl (Nat.le_of_ble_eq_true rfl) rfl (jag rfl rfl) ?_
      show Go _ _ _ _ _ _ 120 [(0, rc 20), (1, vi l1), (2, vi l2), (3, vi l3), (4, vi l4), (5, vi l5)] [vi r7.2, vi l4] ((r7.1, T), Y) _
      refine go_blk rfl [(.iadd, 1, 0, 0, 0, .inl 0), (.istore 4, 2, 4, 0, 0, .inl 0), (.iinc 5 1, 3, 5, 0, 0, .inl 1)] 120 126 _ _ _ (by decide +kernel) ?_
      show Go _ _ _ _ _ _ 126 [(5, vi (l5 + 1)), (4, vi (l4 + r7.2)), (0, rc 20), (1, vi l1), (2, vi l2), (3, vi l3)] [] ((r7.1, T), Y) _
      refine go_goto (off := (-67)) (tgt := 59) (by decide +kernel) (by decide) ?_
      refine go_pick [2, 3, 4, 5, 1, 0] rfl ?_
      exact ih _ _ _ _ h k
theorem ret2_rowsB {F : jS → Int32 → Int32 → Int32 → Option (jS × Int32)} {D : Nat} {S : jS} {T : jT} {Y : jS × jT} {a0 : Int32} {a1 : Int32} {a2 : Int32} {S1 : jS} {x : Int32} (hT : LayC T) (hF : ∀ {S : jS} {a0 a1 a2 : Int32} {S1 : jS} {x : Int32}, F S a0 a1 a2 = some (S1, x) → Ret M2_rowsFrom (D + 4) 0 0 [rc 20, vi a0, vi a1, vi a2] ((S, T), Y) (some (vi x)) ((S1, T), Y)) (h : f2_rowsB F T S a0 a1 a2 = some (S1, x)) : Ret M2_rowsFrom (D + 5) 0 0 [rc 20, vi a0, vi a1, vi a2] ((S, T), Y) (some (vi x)) ((S1, T), Y) := by
  refine Ret.of (by decide +kernel) (Nat.le_of_ble_eq_true rfl) ?_
  unfold f2_rowsB at h
  show Go _ _ _ _ _ _ 0 [(0, rc 20), (1, vi a0), (2, vi a1), (3, vi a2)] [] ((S, T), Y) _
  refine go_blk rfl [(.iload_n 1, 1, 1, 0, 0, .inl 0)] 0 1 _ _ _ (by decide +kernel) ?_
  show Go _ _ _ _ _ _ 1 [(0, rc 20), (1, vi a0), (2, vi a1), (3, vi a2)] [vi a0] ((S, T), Y) _
  refine ite_el h (fun q1 h => ?_) (fun q1 h => ?_)
  · refine go_if_lt (off := 21) (tgt := 22) (by decide +kernel) (by decide) (fun _ => ?_) (fun z => absurd q1 z)
    refine go_blk rfl [(.iconst 0, 1, 0, 0, 0, .inl 0)] 22 23 _ _ _ (by decide +kernel) ?_
    show Go _ _ _ _ _ _ 23 [(0, rc 20), (1, vi a0), (2, vi a1), (3, vi a2)] [vi 0] ((S, T), Y) _
    obtain ⟨rfl, rfl⟩ := Prod.mk.inj (Option.some.inj h)
    exact go_ireturn (by decide +kernel) rfl rfl ⟨rfl, rfl⟩
  · refine go_if_lt (off := 21) (tgt := 22) (by decide +kernel) (by decide) (fun z => absurd z q1) (fun _ => ?_)
    refine go_blk rfl [(.iload_n 1, 1, 1, 0, 0, .inl 0), (.iconst 4, 1, 0, 0, 0, .inl 4)] 4 6 _ _ _ (by decide +kernel) ?_
    show Go _ _ _ _ _ _ 6 [(0, rc 20), (1, vi a0), (2, vi a1), (3, vi a2)] [vi 4, vi a0] ((S, T), Y) _
    refine ite_el h (fun q2 h => ?_) (fun q2 h => ?_)
    · refine go_icmp_gt (off := 16) (tgt := 22) (by decide +kernel) (by decide) (fun _ => ?_) (fun z => absurd q2 z)
      refine go_blk rfl [(.iconst 0, 1, 0, 0, 0, .inl 0)] 22 23 _ _ _ (by decide +kernel) ?_
      show Go _ _ _ _ _ _ 23 [(0, rc 20), (1, vi a0), (2, vi a1), (3, vi a2)] [vi 0] ((S, T), Y) _
      obtain ⟨rfl, rfl⟩ := Prod.mk.inj (Option.some.inj h)
      exact go_ireturn (by decide +kernel) rfl rfl ⟨rfl, rfl⟩
    · refine go_icmp_gt (off := 16) (tgt := 22) (by decide +kernel) (by decide) (fun z => absurd z q2) (fun _ => ?_)
      refine gd_el h (fun q3 h => ?_)
      refine go_blk rfl [(.aload_n 0, 1, 0, 0, 0, .inl 0), (.getfield 18, 3, 2, 2, 1, .inl 0), (.iload_n 1, 1, 1, 0, 0, .inl 0), (.aaload, 1, 24, 0, 0, .inl 0), (.iload_n 3, 1, 3, 0, 0, .inl 0)] 9 16 _ _ _ (by decide +kernel) ?_
      refine And.intro (lc_t20 hT) (Exists.intro _ (And.intro (gRc (lc_r2_2 hT)) ?_))
      refine And.intro (lc_t28 hT) (Exists.intro _ (And.intro (lc_n28 hT) (And.intro (inb_in q3) (Exists.intro _ (And.intro gRo ?_)))))
      show Go _ _ _ _ _ _ 16 [(0, rc 20), (1, vi a0), (2, vi a1), (3, vi a2)] [vi a2, vo (T.1 28 a0.toNatClampNeg)] ((S, T), Y) _
      obtain ⟨b4, o5, h⟩ := bind_el h
      rw [o5]
      obtain ⟨r1, hr1, h⟩ := bind_el h
      refine go_callV (idx := 64) (z := 1) (M' := M4_isIn) (n := 1) (A := [vi a2]) (v' := some (vi r1)) (μ' := ((S, T), Y)) (d' := 2) (mc' := 0) (ms' := 0) (kc' := 0) (ks' := 0) (ci := 4) (x := .inl b4) (by decide +kernel) ml_2_64 rfl wv4_isIn rfl (by decide) rfl (((lc_e28 hT) a0.toNatClampNeg) b4 o5).1 (ret4_isIn (((lc_e28 hT) a0.toNatClampNeg) b4 o5) hr1) (by omega) rfl rfl (Nat.le_of_ble_eq_true rfl) rfl (jag rfl rfl) ?_
      show Go _ _ _ _ _ _ 19 [(0, rc 20), (1, vi a0), (2, vi a1), (3, vi a2)] [vi r1] ((S, T), Y) _
      refine ite_el h (fun q6 h => ?_) (fun q6 h => ?_)
      · refine go_if_ne (off := 5) (tgt := 24) (by decide +kernel) (by decide) (fun z => absurd q6 z) (fun _ => ?_)
        refine go_blk rfl [(.iconst 0, 1, 0, 0, 0, .inl 0)] 22 23 _ _ _ (by decide +kernel) ?_
        show Go _ _ _ _ _ _ 23 [(0, rc 20), (1, vi a0), (2, vi a1), (3, vi a2)] [vi 0] ((S, T), Y) _
        obtain ⟨rfl, rfl⟩ := Prod.mk.inj (Option.some.inj h)
        exact go_ireturn (by decide +kernel) rfl rfl ⟨rfl, rfl⟩
      · refine go_if_ne (off := 5) (tgt := 24) (by decide +kernel) (by decide) (fun _ => ?_) (fun z => absurd z q6)
        refine go_blk rfl [(.iload_n 1, 1, 1, 0, 0, .inl 0), (.iload_n 2, 1, 2, 0, 0, .inl 0)] 24 26 _ _ _ (by decide +kernel) ?_
        show Go _ _ _ _ _ _ 26 [(0, rc 20), (1, vi a0), (2, vi a1), (3, vi a2)] [vi a1, vi a0] ((S, T), Y) _
        refine ite_el h (fun q7 h => ?_) (fun q7 h => ?_)
        · refine go_icmp_ge (off := 20) (tgt := 46) (by decide +kernel) (by decide) (fun _ => ?_) (fun z => absurd q7 z)
          refine go_blk rfl [(.aload_n 0, 1, 0, 0, 0, .inl 0), (.iload_n 1, 1, 1, 0, 0, .inl 0), (.iload_n 2, 1, 2, 0, 0, .inl 0)] 46 49 _ _ _ (by decide +kernel) ?_
          show Go _ _ _ _ _ _ 49 [(0, rc 20), (1, vi a0), (2, vi a1), (3, vi a2)] [vi a1, vi a0, rc 20] ((S, T), Y) _
          obtain ⟨r2, hr2, h⟩ := bind_el h
          refine go_callV (idx := 83) (z := 0) (M' := M2_rowsOfRest) (n := 2) (A := [vi a0, vi a1]) (v' := some (vi r2.2)) (μ' := ((r2.1, T), Y)) (d' := 2) (mc' := 0) (ms' := 0) (kc' := 0) (ks' := 0) (ci := 2) (x := .inl 20) (by decide +kernel) ml_2_83 rfl wv2_rowsOfRest rfl (by decide) rfl (lc_t20 hT) (ret2_rowsOfRest hT hr2) (by omega) rfl rfl (Nat.le_of_ble_eq_true rfl) rfl (jag rfl rfl) ?_
          show Go _ _ _ _ _ _ 52 [(0, rc 20), (1, vi a0), (2, vi a1), (3, vi a2)] [vi r2.2] ((r2.1, T), Y) _
          obtain ⟨rfl, rfl⟩ := Prod.mk.inj (Option.some.inj h)
          exact go_ireturn (by decide +kernel) rfl rfl ⟨rfl, rfl⟩
        · refine go_icmp_ge (off := 20) (tgt := 46) (by decide +kernel) (by decide) (fun z => absurd z q7) (fun _ => ?_)
          refine go_blk rfl [(.iload_n 1, 1, 1, 0, 0, .inl 0), (.iconst 4, 1, 0, 0, 0, .inl 4)] 29 31 _ _ _ (by decide +kernel) ?_
          show Go _ _ _ _ _ _ 31 [(0, rc 20), (1, vi a0), (2, vi a1), (3, vi a2)] [vi 4, vi a0] ((S, T), Y) _
          refine ite_el h (fun q8 h => ?_) (fun q8 h => ?_)
          · refine go_icmp_eq (off := 15) (tgt := 46) (by decide +kernel) (by decide) (fun _ => ?_) (fun z => absurd q8 z)
            refine go_blk rfl [(.aload_n 0, 1, 0, 0, 0, .inl 0), (.iload_n 1, 1, 1, 0, 0, .inl 0), (.iload_n 2, 1, 2, 0, 0, .inl 0)] 46 49 _ _ _ (by decide +kernel) ?_
            show Go _ _ _ _ _ _ 49 [(0, rc 20), (1, vi a0), (2, vi a1), (3, vi a2)] [vi a1, vi a0, rc 20] ((S, T), Y) _
            obtain ⟨r3, hr3, h⟩ := bind_el h
            refine go_callV (idx := 83) (z := 0) (M' := M2_rowsOfRest) (n := 2) (A := [vi a0, vi a1]) (v' := some (vi r3.2)) (μ' := ((r3.1, T), Y)) (d' := 2) (mc' := 0) (ms' := 0) (kc' := 0) (ks' := 0) (ci := 2) (x := .inl 20) (by decide +kernel) ml_2_83 rfl wv2_rowsOfRest rfl (by decide) rfl (lc_t20 hT) (ret2_rowsOfRest hT hr3) (by omega) rfl rfl (Nat.le_of_ble_eq_true rfl) rfl (jag rfl rfl) ?_
            show Go _ _ _ _ _ _ 52 [(0, rc 20), (1, vi a0), (2, vi a1), (3, vi a2)] [vi r3.2] ((r3.1, T), Y) _
            obtain ⟨rfl, rfl⟩ := Prod.mk.inj (Option.some.inj h)
            exact go_ireturn (by decide +kernel) rfl rfl ⟨rfl, rfl⟩
          · refine go_icmp_eq (off := 15) (tgt := 46) (by decide +kernel) (by decide) (fun z => absurd z q8) (fun _ => ?_)
            refine go_blk rfl [(.aload_n 0, 1, 0, 0, 0, .inl 0), (.getfield 18, 3, 2, 2, 1, .inl 0), (.iload_n 1, 1, 1, 0, 0, .inl 0), (.aaload, 1, 24, 0, 0, .inl 0)] 34 40 _ _ _ (by decide +kernel) ?_
            refine And.intro (lc_t20 hT) (Exists.intro _ (And.intro (gRc (lc_r2_2 hT)) ?_))
            refine And.intro (lc_t28 hT) (Exists.intro _ (And.intro (lc_n28 hT) (And.intro (inb_in q3) (Exists.intro _ (And.intro (gRc o5) ?_)))))
            show Go _ _ _ _ _ _ 40 [(0, rc 20), (1, vi a0), (2, vi a1), (3, vi a2)] [rc b4] ((S, T), Y) _
            obtain ⟨r4, hr4, h⟩ := bind_el h
            refine go_callV (idx := 60) (z := 1) (M' := M4_isOver) (n := 0) (A := []) (v' := some (vi r4)) (μ' := ((S, T), Y)) (d' := 2) (mc' := 0) (ms' := 0) (kc' := 0) (ks' := 0) (ci := 4) (x := .inl b4) (by decide +kernel) ml_2_60 rfl wv4_isOver rfl (by decide) rfl (((lc_e28 hT) a0.toNatClampNeg) b4 o5).1 (ret4_isOver (((lc_e28 hT) a0.toNatClampNeg) b4 o5) hr4) (by omega) rfl rfl (Nat.le_of_ble_eq_true rfl) rfl (jag rfl rfl) ?_
            show Go _ _ _ _ _ _ 43 [(0, rc 20), (1, vi a0), (2, vi a1), (3, vi a2)] [vi r4] ((S, T), Y) _
            refine ite_el h (fun q9 h => ?_) (fun q9 h => ?_)
            · refine go_if_eq (off := 10) (tgt := 53) (by decide +kernel) (by decide) (fun _ => ?_) (fun z => absurd q9 z)
              refine go_blk rfl [(.iconst 0, 1, 0, 0, 0, .inl 0), (.istore 4, 2, 4, 0, 0, .inl 0), (.iconst 1, 1, 0, 0, 0, .inl 1), (.istore 5, 2, 5, 0, 0, .inl 0)] 53 59 _ _ _ (by decide +kernel) ?_
              show Go _ _ _ _ _ _ 59 [(5, vi 1), (4, vi 0), (0, rc 20), (1, vi a0), (2, vi a1), (3, vi a2)] [] ((S, T), Y) _
              refine go_pick [2, 3, 4, 5, 1, 0] rfl ?_
              obtain ⟨y8, hy8, h⟩ := bind_el h
              refine f2_rowsFrom_L1_ok hT hF _ _ _ _ _ hy8 ?_
              show Go _ _ _ _ _ _ 129 [(4, vi y8.2)] [] ((y8.1, T), Y) _
              refine go_blk rfl [(.iload 4, 2, 4, 0, 0, .inl 0)] 129 131 _ _ _ (by decide +kernel) ?_
              show Go _ _ _ _ _ _ 131 [(4, vi y8.2)] [vi y8.2] ((y8.1, T), Y) _
              obtain ⟨rfl, rfl⟩ := Prod.mk.inj (Option.some.inj h)
              exact go_ireturn (by decide +kernel) rfl rfl ⟨rfl, rfl⟩
            · refine go_if_eq (off := 10) (tgt := 53) (by decide +kernel) (by decide) (fun z => absurd z q9) (fun _ => ?_)
              refine go_blk rfl [(.aload_n 0, 1, 0, 0, 0, .inl 0), (.iload_n 1, 1, 1, 0, 0, .inl 0), (.iload_n 2, 1, 2, 0, 0, .inl 0)] 46 49 _ _ _ (by decide +kernel) ?_
              show Go _ _ _ _ _ _ 49 [(0, rc 20), (1, vi a0), (2, vi a1), (3, vi a2)] [vi a1, vi a0, rc 20] ((S, T), Y) _
              obtain ⟨r9, hr9, h⟩ := bind_el h
              refine go_callV (idx := 83) (z := 0) (M' := M2_rowsOfRest) (n := 2) (A := [vi a0, vi a1]) (v' := some (vi r9.2)) (μ' := ((r9.1, T), Y)) (d' := 2) (mc' := 0) (ms' := 0) (kc' := 0) (ks' := 0) (ci := 2) (x := .inl 20) (by decide +kernel) ml_2_83 rfl wv2_rowsOfRest rfl (by decide) rfl (lc_t20 hT) (ret2_rowsOfRest hT hr9) (by omega) rfl rfl (Nat.le_of_ble_eq_true rfl) rfl (jag rfl rfl) ?_
              show Go _ _ _ _ _ _ 52 [(0, rc 20), (1, vi a0), (2, vi a1), (3, vi a2)] [vi r9.2] ((r9.1, T), Y) _
              obtain ⟨rfl, rfl⟩ := Prod.mk.inj (Option.some.inj h)
              exact go_ireturn (by decide +kernel) rfl rfl ⟨rfl, rfl⟩
def f2_rF (T : jT) : Nat → jS → Int32 → Int32 → Int32 → Option (jS × Int32)
  | 0, _, _, _, _ => none
  | n + 1, S, a0, a1, a2 => f2_rowsB (f2_rF T n) T S a0 a1 a2
theorem ret2_rF {T : jT} {Y : jS × jT} (hT : LayC T) : ∀ (n : Nat) {S : jS} {a0 a1 a2 : Int32} {S1 : jS} {x : Int32}, f2_rF T n S a0 a1 a2 = some (S1, x) → Ret M2_rowsFrom (n + 4) 0 0 [rc 20, vi a0, vi a1, vi a2] ((S, T), Y) (some (vi x)) ((S1, T), Y) := by
  intro n
  induction n with
  | zero => intro S a0 a1 a2 S1 x h; cases h
  | succ n ih => intro S a0 a1 a2 S1 x h; exact ret2_rowsB (D := n) hT (fun g => ih g) h
def f2_countRows (T : jT) (S : jS) (a0 : Nat) (a1 : Int32) (a2 : Int32) : Option (jS × Int32) := Option.bind (f4_copyFrom (wI S 20 5 0) 30 a0) (fun r1 => Option.bind (f2_rF T 5 r1.1 0 a2 a1) (fun r2 => some (r2.1, r2.2)))
theorem ret2_countRows {S : jS} {T : jT} {Y : jS × jT} {a0 : Nat} {a1 : Int32} {a2 : Int32} {S1 : jS} {x : Int32} (hT : LayC T) (h0 : LayHall T a0) (h : f2_countRows T S a0 a1 a2 = some (S1, x)) : Ret M2_countRows 10 0 0 [rc 20, rc a0, vi a1, vi a2] ((S, T), Y) (some (vi x)) ((S1, T), Y) := by
  refine Ret.of (by decide +kernel) (Nat.le_of_ble_eq_true rfl) ?_
  unfold f2_countRows at h
  show Go _ _ _ _ _ _ 0 [(0, rc 20), (1, rc a0), (2, vi a1), (3, vi a2)] [] ((S, T), Y) _
  refine go_blk rfl [(.aload_n 0, 1, 0, 0, 0, .inl 0), (.iconst 0, 1, 0, 0, 0, .inl 0), (.putfield 29, 3, 2, 5, 2, .inl 0)] 0 5 _ _ _ (by decide +kernel) ?_
  refine And.intro (lc_t20 hT) (And.intro ⟨rfl, Or.inl rfl⟩ ?_)
  show Go _ _ _ _ _ _ 5 [(0, rc 20), (1, rc a0), (2, vi a1), (3, vi a2)] [] ((wI S 20 5 0, T), Y) _
  refine go_blk rfl [(.aload_n 0, 1, 0, 0, 0, .inl 0), (.getfield 18, 3, 2, 2, 1, .inl 0), (.iconst 0, 1, 0, 0, 0, .inl 0), (.aaload, 1, 24, 0, 0, .inl 0), (.aload_n 1, 1, 1, 0, 0, .inl 0)] 5 12 _ _ _ (by decide +kernel) ?_
  refine And.intro (lc_t20 hT) (Exists.intro _ (And.intro (gRc (lc_r2_2 hT)) ?_))
  refine And.intro (lc_t28 hT) (Exists.intro _ (And.intro (lc_n28 hT) (And.intro (inb_in (by decide)) (Exists.intro _ (And.intro (gRc (lc_r101_0 hT)) ?_)))))
  show Go _ _ _ _ _ _ 12 [(0, rc 20), (1, rc a0), (2, vi a1), (3, vi a2)] [rc a0, rc 30] ((wI S 20 5 0, T), Y) _
  obtain ⟨r1, hr1, h⟩ := bind_el h
  refine go_callV (idx := 50) (z := 1) (M' := M4_copyFrom) (n := 1) (A := [rc a0]) (v' := none) (μ' := ((r1.1, T), Y)) (d' := 2) (mc' := 0) (ms' := 0) (kc' := 0) (ks' := 0) (ci := 4) (x := .inl 30) (by decide +kernel) ml_2_50 rfl wv4_copyFrom rfl (by decide) rfl (lc_h30 hT).1 (ret4_copyFrom (lc_h30 hT) h0 hr1) (by decide) rfl rfl (Nat.le_of_ble_eq_true rfl) rfl (jag rfl rfl) ?_
  show Go _ _ _ _ _ _ 15 [(0, rc 20), (1, rc a0), (2, vi a1), (3, vi a2)] [] ((r1.1, T), Y) _
  refine go_blk rfl [(.aload_n 0, 1, 0, 0, 0, .inl 0), (.iconst 0, 1, 0, 0, 0, .inl 0), (.iload_n 3, 1, 3, 0, 0, .inl 0), (.iload_n 2, 1, 2, 0, 0, .inl 0)] 15 19 _ _ _ (by decide +kernel) ?_
  show Go _ _ _ _ _ _ 19 [(0, rc 20), (1, rc a0), (2, vi a1), (3, vi a2)] [vi a1, vi a2, vi 0, rc 20] ((r1.1, T), Y) _
  obtain ⟨r2, hr2, h⟩ := bind_el h
  refine go_callV (idx := 79) (z := 0) (M' := M2_rowsFrom) (n := 3) (A := [vi 0, vi a2, vi a1]) (v' := some (vi r2.2)) (μ' := ((r2.1, T), Y)) (d' := 9) (mc' := 0) (ms' := 0) (kc' := 0) (ks' := 0) (ci := 2) (x := .inl 20) (by decide +kernel) ml_2_79 rfl wv2_rowsFrom rfl (by decide) rfl (lc_t20 hT) (ret2_rF hT 5 hr2) (by decide) rfl rfl (Nat.le_of_ble_eq_true rfl) rfl (jag rfl rfl) ?_
  show Go _ _ _ _ _ _ 22 [(0, rc 20), (1, rc a0), (2, vi a1), (3, vi a2)] [vi r2.2] ((r2.1, T), Y) _
  obtain ⟨rfl, rfl⟩ := Prod.mk.inj (Option.some.inj h)
  exact go_ireturn (by decide +kernel) rfl rfl ⟨rfl, rfl⟩
def f10_row (T : jT) (S : jS) (a0 : Int32) (a1 : Int32) (a2 : Int32) : Option (jS × Int32) := Option.bind (f4_isIn S (100 + 8) a0) (fun r1 => (if r1 = 0 then some (S, (-3)) else (if a1 < 1 then some (S, (-3)) else (if 4 < a1 then some (S, (-3)) else (if a2 < 0 then some (S, (-3)) else (if a2 ≤ 4 then (if a2 ≤ a1 then Option.bind (f2_countRows T S (100 + 8) a0 a1) (fun r2 => (if a2 = 0 then some (r2.1, r2.2) else (if r2.2 = 0 then some (r2.1, (-2)) else (if inb (a2 - 1) 4 then some (r2.1, r2.1.1 66 (a2 - 1).toNatClampNeg) else none)))) else some (S, (-1))) else some (S, (-3))))))))
theorem ret10_row {S : jS} {T : jT} {Y : jS × jT} {a0 : Int32} {a1 : Int32} {a2 : Int32} {S1 : jS} {x : Int32} (hT : LayC T) (h : f10_row T S a0 a1 a2 = some (S1, x)) : Ret M10_row 11 0 0 [rc 0, vi a0, vi a1, vi a2] ((S, T), Y) (some (vi x)) ((S1, T), Y) := by
  refine Ret.of (by decide +kernel) (Nat.le_of_ble_eq_true rfl) ?_
  unfold f10_row at h
  show Go _ _ _ _ _ _ 0 [(0, rc 0), (1, vi a0), (2, vi a1), (3, vi a2)] [] ((S, T), Y) _
  refine go_blk rfl [(.aload_n 0, 1, 0, 0, 0, .inl 0), (.getfield 45, 3, 10, 5, 1, .inl 0), (.getfield 102, 3, 0, 1, 1, .inl 0), (.astore 4, 2, 4, 0, 0, .inl 0), (.aload 4, 2, 4, 0, 0, .inl 0), (.iload_n 1, 1, 1, 0, 0, .inl 0)] 0 12 _ _ _ (by decide +kernel) ?_
  refine And.intro (lc_t0 hT) (Exists.intro _ (And.intro (gRc (lc_r10_5 hT)) ?_))
  refine And.intro (lc_b100 hT).1 (Exists.intro _ (And.intro (gRc (lc_b100 hT).2.2.1.1) ?_))
  show Go _ _ _ _ _ _ 12 [(4, rc (100 + 8)), (0, rc 0), (1, vi a0), (2, vi a1), (3, vi a2)] [vi a0, rc (100 + 8)] ((S, T), Y) _
  obtain ⟨r1, hr1, h⟩ := bind_el h
  refine go_callV (idx := 211) (z := 1) (M' := M4_isIn) (n := 1) (A := [vi a0]) (v' := some (vi r1)) (μ' := ((S, T), Y)) (d' := 2) (mc' := 0) (ms' := 0) (kc' := 0) (ks' := 0) (ci := 4) (x := .inl (100 + 8)) (by decide +kernel) ml_10_211 rfl wv4_isIn rfl (by decide) rfl ((lc_b100 hT).2.2.1.2).1 (ret4_isIn ((lc_b100 hT).2.2.1.2) hr1) (by decide) rfl rfl (Nat.le_of_ble_eq_true rfl) rfl (jag rfl rfl) ?_
  show Go _ _ _ _ _ _ 15 [(4, rc (100 + 8)), (0, rc 0), (1, vi a0), (2, vi a1), (3, vi a2)] [vi r1] ((S, T), Y) _
  refine ite_el h (fun q1 h => ?_) (fun q1 h => ?_)
  · refine go_if_eq (off := 22) (tgt := 37) (by decide +kernel) (by decide) (fun _ => ?_) (fun z => absurd q1 z)
    refine go_blk rfl [(.bipush (-3), 2, 0, 0, 0, .inl (-3))] 37 39 _ _ _ (by decide +kernel) ?_
    show Go _ _ _ _ _ _ 39 [(4, rc (100 + 8)), (0, rc 0), (1, vi a0), (2, vi a1), (3, vi a2)] [vi ((-3))] ((S, T), Y) _
    obtain ⟨rfl, rfl⟩ := Prod.mk.inj (Option.some.inj h)
    exact go_ireturn (by decide +kernel) rfl rfl ⟨rfl, rfl⟩
  · refine go_if_eq (off := 22) (tgt := 37) (by decide +kernel) (by decide) (fun z => absurd z q1) (fun _ => ?_)
    refine go_blk rfl [(.iload_n 2, 1, 2, 0, 0, .inl 0), (.iconst 1, 1, 0, 0, 0, .inl 1)] 18 20 _ _ _ (by decide +kernel) ?_
    show Go _ _ _ _ _ _ 20 [(4, rc (100 + 8)), (0, rc 0), (1, vi a0), (2, vi a1), (3, vi a2)] [vi 1, vi a1] ((S, T), Y) _
    refine ite_el h (fun q2 h => ?_) (fun q2 h => ?_)
    · refine go_icmp_lt (off := 17) (tgt := 37) (by decide +kernel) (by decide) (fun _ => ?_) (fun z => absurd q2 z)
      refine go_blk rfl [(.bipush (-3), 2, 0, 0, 0, .inl (-3))] 37 39 _ _ _ (by decide +kernel) ?_
      show Go _ _ _ _ _ _ 39 [(4, rc (100 + 8)), (0, rc 0), (1, vi a0), (2, vi a1), (3, vi a2)] [vi ((-3))] ((S, T), Y) _
      obtain ⟨rfl, rfl⟩ := Prod.mk.inj (Option.some.inj h)
      exact go_ireturn (by decide +kernel) rfl rfl ⟨rfl, rfl⟩
    · refine go_icmp_lt (off := 17) (tgt := 37) (by decide +kernel) (by decide) (fun z => absurd z q2) (fun _ => ?_)
      refine go_blk rfl [(.iload_n 2, 1, 2, 0, 0, .inl 0), (.iconst 4, 1, 0, 0, 0, .inl 4)] 23 25 _ _ _ (by decide +kernel) ?_
      show Go _ _ _ _ _ _ 25 [(4, rc (100 + 8)), (0, rc 0), (1, vi a0), (2, vi a1), (3, vi a2)] [vi 4, vi a1] ((S, T), Y) _
      refine ite_el h (fun q3 h => ?_) (fun q3 h => ?_)
      · refine go_icmp_gt (off := 12) (tgt := 37) (by decide +kernel) (by decide) (fun _ => ?_) (fun z => absurd q3 z)
        refine go_blk rfl [(.bipush (-3), 2, 0, 0, 0, .inl (-3))] 37 39 _ _ _ (by decide +kernel) ?_
        show Go _ _ _ _ _ _ 39 [(4, rc (100 + 8)), (0, rc 0), (1, vi a0), (2, vi a1), (3, vi a2)] [vi ((-3))] ((S, T), Y) _
        obtain ⟨rfl, rfl⟩ := Prod.mk.inj (Option.some.inj h)
        exact go_ireturn (by decide +kernel) rfl rfl ⟨rfl, rfl⟩
      · refine go_icmp_gt (off := 12) (tgt := 37) (by decide +kernel) (by decide) (fun z => absurd z q3) (fun _ => ?_)
        refine go_blk rfl [(.iload_n 3, 1, 3, 0, 0, .inl 0)] 28 29 _ _ _ (by decide +kernel) ?_
        show Go _ _ _ _ _ _ 29 [(4, rc (100 + 8)), (0, rc 0), (1, vi a0), (2, vi a1), (3, vi a2)] [vi a2] ((S, T), Y) _
        refine ite_el h (fun q4 h => ?_) (fun q4 h => ?_)
        · refine go_if_lt (off := 8) (tgt := 37) (by decide +kernel) (by decide) (fun _ => ?_) (fun z => absurd q4 z)
          refine go_blk rfl [(.bipush (-3), 2, 0, 0, 0, .inl (-3))] 37 39 _ _ _ (by decide +kernel) ?_
          show Go _ _ _ _ _ _ 39 [(4, rc (100 + 8)), (0, rc 0), (1, vi a0), (2, vi a1), (3, vi a2)] [vi ((-3))] ((S, T), Y) _
          obtain ⟨rfl, rfl⟩ := Prod.mk.inj (Option.some.inj h)
          exact go_ireturn (by decide +kernel) rfl rfl ⟨rfl, rfl⟩
        · refine go_if_lt (off := 8) (tgt := 37) (by decide +kernel) (by decide) (fun z => absurd z q4) (fun _ => ?_)
          refine go_blk rfl [(.iload_n 3, 1, 3, 0, 0, .inl 0), (.iconst 4, 1, 0, 0, 0, .inl 4)] 32 34 _ _ _ (by decide +kernel) ?_
          show Go _ _ _ _ _ _ 34 [(4, rc (100 + 8)), (0, rc 0), (1, vi a0), (2, vi a1), (3, vi a2)] [vi 4, vi a2] ((S, T), Y) _
          refine ite_el h (fun q5 h => ?_) (fun q5 h => ?_)
          · refine go_icmp_le (off := 6) (tgt := 40) (by decide +kernel) (by decide) (fun _ => ?_) (fun z => absurd q5 z)
            refine go_blk rfl [(.iload_n 3, 1, 3, 0, 0, .inl 0), (.iload_n 2, 1, 2, 0, 0, .inl 0)] 40 42 _ _ _ (by decide +kernel) ?_
            show Go _ _ _ _ _ _ 42 [(4, rc (100 + 8)), (0, rc 0), (1, vi a0), (2, vi a1), (3, vi a2)] [vi a1, vi a2] ((S, T), Y) _
            refine ite_el h (fun q6 h => ?_) (fun q6 h => ?_)
            · refine go_icmp_le (off := 5) (tgt := 47) (by decide +kernel) (by decide) (fun _ => ?_) (fun z => absurd q6 z)
              refine go_blk rfl [(.aload_n 0, 1, 0, 0, 0, .inl 0), (.getfield 65, 3, 10, 8, 1, .inl 0), (.aload 4, 2, 4, 0, 0, .inl 0), (.iload_n 1, 1, 1, 0, 0, .inl 0), (.iload_n 2, 1, 2, 0, 0, .inl 0)] 47 55 _ _ _ (by decide +kernel) ?_
              refine And.intro (lc_t0 hT) (Exists.intro _ (And.intro (gRc (lc_r10_8 hT)) ?_))
              show Go _ _ _ _ _ _ 55 [(4, rc (100 + 8)), (0, rc 0), (1, vi a0), (2, vi a1), (3, vi a2)] [vi a1, vi a0, rc (100 + 8), rc 20] ((S, T), Y) _
              obtain ⟨r2, hr2, h⟩ := bind_el h
              refine go_callV (idx := 224) (z := 1) (M' := M2_countRows) (n := 3) (A := [rc (100 + 8), vi a0, vi a1]) (v' := some (vi r2.2)) (μ' := ((r2.1, T), Y)) (d' := 10) (mc' := 0) (ms' := 0) (kc' := 0) (ks' := 0) (ci := 2) (x := .inl 20) (by decide +kernel) ml_10_224 rfl wv2_countRows rfl (by decide) rfl (lc_t20 hT) (ret2_countRows hT ((lc_b100 hT).2.2.1.2) hr2) (by decide) rfl rfl (Nat.le_of_ble_eq_true rfl) rfl (jag rfl rfl) ?_
              show Go _ _ _ _ _ _ 58 [(4, rc (100 + 8)), (0, rc 0), (1, vi a0), (2, vi a1), (3, vi a2)] [vi r2.2] ((r2.1, T), Y) _
              refine go_blk rfl [(.istore 5, 2, 5, 0, 0, .inl 0), (.iload_n 3, 1, 3, 0, 0, .inl 0)] 58 61 _ _ _ (by decide +kernel) ?_
              show Go _ _ _ _ _ _ 61 [(5, vi r2.2), (4, rc (100 + 8)), (0, rc 0), (1, vi a0), (2, vi a1), (3, vi a2)] [vi a2] ((r2.1, T), Y) _
              refine ite_el h (fun q7 h => ?_) (fun q7 h => ?_)
              · refine go_if_ne (off := 6) (tgt := 67) (by decide +kernel) (by decide) (fun z => absurd q7 z) (fun _ => ?_)
                refine go_blk rfl [(.iload 5, 2, 5, 0, 0, .inl 0)] 64 66 _ _ _ (by decide +kernel) ?_
                show Go _ _ _ _ _ _ 66 [(5, vi r2.2), (4, rc (100 + 8)), (0, rc 0), (1, vi a0), (2, vi a1), (3, vi a2)] [vi r2.2] ((r2.1, T), Y) _
                obtain ⟨rfl, rfl⟩ := Prod.mk.inj (Option.some.inj h)
                exact go_ireturn (by decide +kernel) rfl rfl ⟨rfl, rfl⟩
              · refine go_if_ne (off := 6) (tgt := 67) (by decide +kernel) (by decide) (fun _ => ?_) (fun z => absurd z q7)
                refine go_blk rfl [(.iload 5, 2, 5, 0, 0, .inl 0)] 67 69 _ _ _ (by decide +kernel) ?_
                show Go _ _ _ _ _ _ 69 [(5, vi r2.2), (4, rc (100 + 8)), (0, rc 0), (1, vi a0), (2, vi a1), (3, vi a2)] [vi r2.2] ((r2.1, T), Y) _
                refine ite_el h (fun q8 h => ?_) (fun q8 h => ?_)
                · refine go_if_ne (off := 8) (tgt := 77) (by decide +kernel) (by decide) (fun z => absurd q8 z) (fun _ => ?_)
                  refine go_blk rfl [(.bipush (-2), 2, 0, 0, 0, .inl (-2))] 72 74 _ _ _ (by decide +kernel) ?_
                  show Go _ _ _ _ _ _ 74 [(5, vi r2.2), (4, rc (100 + 8)), (0, rc 0), (1, vi a0), (2, vi a1), (3, vi a2)] [vi ((-2))] ((r2.1, T), Y) _
                  refine go_goto (off := 14) (tgt := 88) (by decide +kernel) (by decide) ?_
                  obtain ⟨rfl, rfl⟩ := Prod.mk.inj (Option.some.inj h)
                  exact go_ireturn (by decide +kernel) rfl rfl ⟨rfl, rfl⟩
                · refine go_if_ne (off := 8) (tgt := 77) (by decide +kernel) (by decide) (fun _ => ?_) (fun z => absurd z q8)
                  refine gd_el h (fun q9 h => ?_)
                  refine go_blk rfl [(.aload_n 0, 1, 0, 0, 0, .inl 0), (.getfield 65, 3, 10, 8, 1, .inl 0), (.getfield 228, 3, 2, 4, 1, .inl 0), (.iload_n 3, 1, 3, 0, 0, .inl 0), (.iconst 1, 1, 0, 0, 0, .inl 1), (.isub, 1, 0, 0, 0, .inl 0), (.iaload, 1, 20, 0, 0, .inl 0)] 77 88 _ _ _ (by decide +kernel) ?_
                  refine And.intro (lc_t0 hT) (Exists.intro _ (And.intro (gRc (lc_r10_8 hT)) ?_))
                  refine And.intro (lc_t20 hT) (Exists.intro _ (And.intro (gRc (lc_r2_4 hT)) ?_))
                  refine And.intro (lc_t66 hT) (Exists.intro _ (And.intro (lc_n66 hT) (And.intro (inb_in q9) ?_)))
                  show Go _ _ _ _ _ _ 88 [(5, vi r2.2), (4, rc (100 + 8)), (0, rc 0), (1, vi a0), (2, vi a1), (3, vi a2)] [vi (r2.1.1 66 (a2 - 1).toNatClampNeg)] ((r2.1, T), Y) _
                  obtain ⟨rfl, rfl⟩ := Prod.mk.inj (Option.some.inj h)
                  exact go_ireturn (by decide +kernel) rfl rfl ⟨rfl, rfl⟩
            · refine go_icmp_le (off := 5) (tgt := 47) (by decide +kernel) (by decide) (fun z => absurd z q6) (fun _ => ?_)
              refine go_blk rfl [(.iconst (-1), 1, 0, 0, 0, .inl (-1))] 45 46 _ _ _ (by decide +kernel) ?_
              show Go _ _ _ _ _ _ 46 [(4, rc (100 + 8)), (0, rc 0), (1, vi a0), (2, vi a1), (3, vi a2)] [vi ((-1))] ((S, T), Y) _
              obtain ⟨rfl, rfl⟩ := Prod.mk.inj (Option.some.inj h)
              exact go_ireturn (by decide +kernel) rfl rfl ⟨rfl, rfl⟩
          · refine go_icmp_le (off := 6) (tgt := 40) (by decide +kernel) (by decide) (fun z => absurd z q5) (fun _ => ?_)
            refine go_blk rfl [(.bipush (-3), 2, 0, 0, 0, .inl (-3))] 37 39 _ _ _ (by decide +kernel) ?_
            show Go _ _ _ _ _ _ 39 [(4, rc (100 + 8)), (0, rc 0), (1, vi a0), (2, vi a1), (3, vi a2)] [vi ((-3))] ((S, T), Y) _
            obtain ⟨rfl, rfl⟩ := Prod.mk.inj (Option.some.inj h)
            exact go_ireturn (by decide +kernel) rfl rfl ⟨rfl, rfl⟩
