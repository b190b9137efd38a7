def f6_sumFor_L1 (T : jT) (o : Nat) (a0 : Nat) : Nat → jS → Int32 → Option (jS × Int64)
  | 0, _, _ => none
  | n + 1, S, l2 => (if (nI (T.2.2.1 (o + 1))) ≤ l2 then some (S, 0) else (if inb l2 (T.2.2.1 (o + 1)) then (if (S.1 (o + 1) l2.toNatClampNeg) = ((-24)) then Option.bind (f6_pop S o) (fun r1 => some (r1.1, r1.2)) else (if (S.1 (o + 1) l2.toNatClampNeg) = ((-25)) then Option.bind (f6_pop S o) (fun r2 => Option.bind (f6_pop r2.1 o) (fun r3 => (if (lg_cmp r2.2 0) = 0 then f6_sumFor_L1 T o a0 n r3.1 (l2 + 1) else some (r3.1, r3.2)))) else Option.bind (if (S.1 (o + 1) l2.toNatClampNeg) < 0 then (if (S.1 (o + 1) l2.toNatClampNeg) < ((-10)) then (if (S.1 (o + 1) l2.toNatClampNeg) = ((-23)) then Option.bind (f6_pop S o) (fun r4 => Option.bind (f6_push r4.1 o (1 - r4.2)) (fun r5 => some r5.1)) else Option.bind (f6_pop S o) (fun r6 => Option.bind (f6_pop r6.1 o) (fun r7 => Option.bind (f6_join (S.1 (o + 1) l2.toNatClampNeg) r7.2 r6.2) (fun r8 => Option.bind (f6_push r7.1 o r8) (fun r9 => some r9.1))))) else Option.bind (f4_valueOf S a0 (((-1)) - (S.1 (o + 1) l2.toNatClampNeg))) (fun r10 => Option.bind (f6_push S o r10) (fun r11 => some r11.1))) else Option.bind (f6_push S o ((S.1 (o + 1) l2.toNatClampNeg).toInt64)) (fun r12 => some r12.1)) (fun (y13 : jS) => f6_sumFor_L1 T o a0 n y13 (l2 + 1)))) else none))
def f6_sumFor (T : jT) (S : jS) (o : Nat) (a0 : Nat) : Option (jS × Int64) := f6_sumFor_L1 T o a0 jF (wI S o 2 0) 0
theorem f6_sumFor_L1_ok {T : jT} {Y : jS × jT} {o : Nat} {a0 : Nat} {S1 : jS} {x : Int64} (hh : LayRule T o) (h0 : LayHall T a0) : ∀ (n : Nat) (S : jS) (l2 : Int32), f6_sumFor_L1 T o a0 n S l2 = some (S1, x) → Go M6_sumFor 3 0 0 0 0 7 [(0, rc o), (1, rc a0), (2, vi l2)] [] ((S, T), Y) (eqQ (some (vl x)) ((S1, T), Y)) := by
  intro n
  induction n with
  | zero => intro S l2 h; exact absurd h (by intro z; cases z)
  | succ n ih =>
    intro S l2 h
    rw [f6_sumFor_L1] at h
    refine go_blk rfl [(.iload_n 2, 1, 2, 0, 0, .inl 0), (.aload_n 0, 1, 0, 0, 0, .inl 0), (.getfield 17, 3, 6, 0, 1, .inl 0), (.arraylength, 1, 20, 0, 0, .inl 0)] 7 13 _ _ _ (by decide +kernel) ?_
    refine And.intro hh.1 (Exists.intro _ (And.intro (gRc hh.2.1.1) ?_))
    refine And.intro hh.2.1.2 (Exists.intro _ (And.intro rfl ?_))
    show Go _ _ _ _ _ _ 13 [(0, rc o), (1, rc a0), (2, vi l2)] [vi (nI (T.2.2.1 (o + 1))), vi l2] ((S, T), Y) _
    refine ite_el h (fun q1 h => ?_) (fun q1 h => ?_)
    · refine go_icmp_ge (off := 130) (tgt := 143) (by decide +kernel) (by decide) (fun _ => ?_) (fun z => absurd q1 z)
      refine go_blk rfl [(.lconst 0, 1, 0, 0, 0, .inr (.inl 0))] 143 144 _ _ _ (by decide +kernel) ?_
      show Go _ _ _ _ _ _ 144 [(0, rc o), (1, rc a0), (2, vi l2)] [vl 0] ((S, T), Y) _
      obtain ⟨rfl, rfl⟩ := Prod.mk.inj (Option.some.inj h)
      exact go_lreturn (by decide +kernel) rfl ⟨rfl, rfl⟩
    · refine go_icmp_ge (off := 130) (tgt := 143) (by decide +kernel) (by decide) (fun z => absurd z q1) (fun _ => ?_)
      refine gd_el h (fun q2 h => ?_)
      refine go_blk rfl [(.aload_n 0, 1, 0, 0, 0, .inl 0), (.getfield 17, 3, 6, 0, 1, .inl 0), (.iload_n 2, 1, 2, 0, 0, .inl 0), (.iaload, 1, 20, 0, 0, .inl 0), (.istore_n 3, 1, 3, 0, 0, .inl 0), (.iload_n 3, 1, 3, 0, 0, .inl 0), (.bipush (-24), 2, 0, 0, 0, .inl (-24))] 16 26 _ _ _ (by decide +kernel) ?_
      refine And.intro hh.1 (Exists.intro _ (And.intro (gRc hh.2.1.1) ?_))
      refine And.intro hh.2.1.2 (Exists.intro _ (And.intro rfl (And.intro (inb_in q2) ?_)))
      show Go _ _ _ _ _ _ 26 [(3, vi (S.1 (o + 1) l2.toNatClampNeg)), (0, rc o), (1, rc a0), (2, vi l2)] [vi ((-24)), vi (S.1 (o + 1) l2.toNatClampNeg)] ((S, T), Y) _
      refine ite_el h (fun q3 h => ?_) (fun q3 h => ?_)
      · refine go_icmp_ne (off := 8) (tgt := 34) (by decide +kernel) (by decide) (fun z => absurd q3 z) (fun _ => ?_)
        refine go_blk rfl [(.aload_n 0, 1, 0, 0, 0, .inl 0)] 29 30 _ _ _ (by decide +kernel) ?_
        show Go _ _ _ _ _ _ 30 [(3, vi (S.1 (o + 1) l2.toNatClampNeg)), (0, rc o), (1, rc a0), (2, vi l2)] [rc o] ((S, T), Y) _
        obtain ⟨r1, hr1, h⟩ := bind_el h
        refine go_callV (idx := 21) (z := 0) (M' := M6_pop) (n := 0) (A := []) (v' := some (vl r1.2)) (μ' := ((r1.1, T), Y)) (d' := 1) (mc' := 0) (ms' := 0) (kc' := 0) (ks' := 0) (ci := 6) (x := .inl o) (by decide +kernel) ml_6_21 rfl wv6_pop rfl (by decide) rfl hh.1 (ret6_pop hh hr1) (by decide) rfl rfl (Nat.le_of_ble_eq_true rfl) rfl (jag rfl rfl) ?_
        show Go _ _ _ _ _ _ 33 [(3, vi (S.1 (o + 1) l2.toNatClampNeg)), (0, rc o), (1, rc a0), (2, vi l2)] [vl r1.2] ((r1.1, T), Y) _
        obtain ⟨rfl, rfl⟩ := Prod.mk.inj (Option.some.inj h)
        exact go_lreturn (by decide +kernel) rfl ⟨rfl, rfl⟩
      · refine go_icmp_ne (off := 8) (tgt := 34) (by decide +kernel) (by decide) (fun _ => ?_) (fun z => absurd z q3)
        refine go_blk rfl [(.iload_n 3, 1, 3, 0, 0, .inl 0), (.bipush (-25), 2, 0, 0, 0, .inl (-25))] 34 37 _ _ _ (by decide +kernel) ?_
        show Go _ _ _ _ _ _ 37 [(3, vi (S.1 (o + 1) l2.toNatClampNeg)), (0, rc o), (1, rc a0), (2, vi l2)] [vi ((-25)), vi (S.1 (o + 1) l2.toNatClampNeg)] ((S, T), Y) _
        refine ite_el h (fun q4 h => ?_) (fun q4 h => ?_)
        · refine go_icmp_ne (off := 28) (tgt := 65) (by decide +kernel) (by decide) (fun z => absurd q4 z) (fun _ => ?_)
          refine go_blk rfl [(.aload_n 0, 1, 0, 0, 0, .inl 0)] 40 41 _ _ _ (by decide +kernel) ?_
          show Go _ _ _ _ _ _ 41 [(3, vi (S.1 (o + 1) l2.toNatClampNeg)), (0, rc o), (1, rc a0), (2, vi l2)] [rc o] ((S, T), Y) _
          obtain ⟨r2, hr2, h⟩ := bind_el h
          refine go_callV (idx := 21) (z := 0) (M' := M6_pop) (n := 0) (A := []) (v' := some (vl r2.2)) (μ' := ((r2.1, T), Y)) (d' := 1) (mc' := 0) (ms' := 0) (kc' := 0) (ks' := 0) (ci := 6) (x := .inl o) (by decide +kernel) ml_6_21 rfl wv6_pop rfl (by decide) rfl hh.1 (ret6_pop hh hr2) (by decide) rfl rfl (Nat.le_of_ble_eq_true rfl) rfl (jag rfl rfl) ?_
          show Go _ _ _ _ _ _ 44 [(3, vi (S.1 (o + 1) l2.toNatClampNeg)), (0, rc o), (1, rc a0), (2, vi l2)] [vl r2.2] ((r2.1, T), Y) _
          refine go_blk rfl [(.lstore 4, 2, 4, 0, 0, .inl 0), (.aload_n 0, 1, 0, 0, 0, .inl 0)] 44 47 _ _ _ (by decide +kernel) ?_
          show Go _ _ _ _ _ _ 47 [(4, vl r2.2), (3, vi (S.1 (o + 1) l2.toNatClampNeg)), (0, rc o), (1, rc a0), (2, vi l2)] [rc o] ((r2.1, T), Y) _
          obtain ⟨r3, hr3, h⟩ := bind_el h
          refine go_callV (idx := 21) (z := 0) (M' := M6_pop) (n := 0) (A := []) (v' := some (vl r3.2)) (μ' := ((r3.1, T), Y)) (d' := 1) (mc' := 0) (ms' := 0) (kc' := 0) (ks' := 0) (ci := 6) (x := .inl o) (by decide +kernel) ml_6_21 rfl wv6_pop rfl (by decide) rfl hh.1 (ret6_pop hh hr3) (by decide) rfl rfl (Nat.le_of_ble_eq_true rfl) rfl (jag rfl rfl) ?_
          show Go _ _ _ _ _ _ 50 [(4, vl r2.2), (3, vi (S.1 (o + 1) l2.toNatClampNeg)), (0, rc o), (1, rc a0), (2, vi l2)] [vl r3.2] ((r3.1, T), Y) _
          refine go_blk rfl [(.lstore 6, 2, 6, 0, 0, .inl 0), (.lload 4, 2, 4, 0, 0, .inl 0), (.lconst 0, 1, 0, 0, 0, .inr (.inl 0)), (.lcmp, 1, 0, 0, 0, .inl 0)] 50 56 _ _ _ (by decide +kernel) ?_
          show Go _ _ _ _ _ _ 56 [(6, vl r3.2), (4, vl r2.2), (3, vi (S.1 (o + 1) l2.toNatClampNeg)), (0, rc o), (1, rc a0), (2, vi l2)] [vi (lg_cmp r2.2 0)] ((r3.1, T), Y) _
          refine ite_el h (fun q5 h => ?_) (fun q5 h => ?_)
          · refine go_if_eq (off := 6) (tgt := 62) (by decide +kernel) (by decide) (fun _ => ?_) (fun z => absurd q5 z)
            refine go_goto (off := 75) (tgt := 137) (by decide +kernel) (by decide) ?_
            refine go_blk rfl [(.iinc 2 1, 3, 2, 0, 0, .inl 1)] 137 140 _ _ _ (by decide +kernel) ?_
            show Go _ _ _ _ _ _ 140 [(2, vi (l2 + 1)), (6, vl r3.2), (4, vl r2.2), (3, vi (S.1 (o + 1) l2.toNatClampNeg)), (0, rc o), (1, rc a0)] [] ((r3.1, T), Y) _
            refine go_goto (off := (-133)) (tgt := 7) (by decide +kernel) (by decide) ?_
            refine go_pick [4, 5, 0] rfl ?_
            exact ih _ _ h
          · refine go_if_eq (off := 6) (tgt := 62) (by decide +kernel) (by decide) (fun z => absurd z q5) (fun _ => ?_)
            refine go_blk rfl [(.lload 6, 2, 6, 0, 0, .inl 0)] 59 61 _ _ _ (by decide +kernel) ?_
            show Go _ _ _ _ _ _ 61 [(6, vl r3.2), (4, vl r2.2), (3, vi (S.1 (o + 1) l2.toNatClampNeg)), (0, rc o), (1, rc a0), (2, vi l2)] [vl r3.2] ((r3.1, T), Y) _
            obtain ⟨rfl, rfl⟩ := Prod.mk.inj (Option.some.inj h)
            exact go_lreturn (by decide +kernel) rfl ⟨rfl, rfl⟩
        · refine go_icmp_ne (off := 28) (tgt := 65) (by decide +kernel) (by decide) (fun _ => ?_) (fun z => absurd z q4)
          refine go_blk rfl [(.iload_n 3, 1, 3, 0, 0, .inl 0)] 65 66 _ _ _ (by decide +kernel) ?_
          show Go _ _ _ _ _ _ 66 [(3, vi (S.1 (o + 1) l2.toNatClampNeg)), (0, rc o), (1, rc a0), (2, vi l2)] [vi (S.1 (o + 1) l2.toNatClampNeg)] ((S, T), Y) _
          obtain ⟨y13, hy13, h⟩ := bind_el h
          have key : Go M6_sumFor 3 0 0 0 0 137 [(0, rc o), (1, rc a0), (2, vi l2)] [] ((y13, T), Y) (eqQ (some (vl x)) ((S1, T), Y)) := by
            refine go_blk rfl [(.iinc 2 1, 3, 2, 0, 0, .inl 1)] 137 140 _ _ _ (by decide +kernel) ?_
            show Go _ _ _ _ _ _ 140 [(2, vi (l2 + 1)), (0, rc o), (1, rc a0)] [] ((y13, T), Y) _
            refine go_goto (off := (-133)) (tgt := 7) (by decide +kernel) (by decide) ?_
            refine go_pick [1, 2, 0] rfl ?_
            exact ih _ _ h
          replace h := hy13
          refine ite_el h (fun q6 h => ?_) (fun q6 h => ?_)
          · refine go_if_lt (off := 12) (tgt := 78) (by decide +kernel) (by decide) (fun _ => ?_) (fun z => absurd q6 z)
            refine go_blk rfl [(.iload_n 3, 1, 3, 0, 0, .inl 0), (.bipush (-10), 2, 0, 0, 0, .inl (-10))] 78 81 _ _ _ (by decide +kernel) ?_
            show Go _ _ _ _ _ _ 81 [(3, vi (S.1 (o + 1) l2.toNatClampNeg)), (0, rc o), (1, rc a0), (2, vi l2)] [vi ((-10)), vi (S.1 (o + 1) l2.toNatClampNeg)] ((S, T), Y) _
            refine ite_el h (fun q7 h => ?_) (fun q7 h => ?_)
            · refine go_icmp_lt (off := 17) (tgt := 98) (by decide +kernel) (by decide) (fun _ => ?_) (fun z => absurd q7 z)
              refine go_blk rfl [(.iload_n 3, 1, 3, 0, 0, .inl 0), (.bipush (-23), 2, 0, 0, 0, .inl (-23))] 98 101 _ _ _ (by decide +kernel) ?_
              show Go _ _ _ _ _ _ 101 [(3, vi (S.1 (o + 1) l2.toNatClampNeg)), (0, rc o), (1, rc a0), (2, vi l2)] [vi ((-23)), vi (S.1 (o + 1) l2.toNatClampNeg)] ((S, T), Y) _
              refine ite_el h (fun q8 h => ?_) (fun q8 h => ?_)
              · refine go_icmp_ne (off := 16) (tgt := 117) (by decide +kernel) (by decide) (fun z => absurd q8 z) (fun _ => ?_)
                refine go_blk rfl [(.aload_n 0, 1, 0, 0, 0, .inl 0), (.lconst 1, 1, 0, 0, 0, .inr (.inl 1)), (.aload_n 0, 1, 0, 0, 0, .inl 0)] 104 107 _ _ _ (by decide +kernel) ?_
                show Go _ _ _ _ _ _ 107 [(3, vi (S.1 (o + 1) l2.toNatClampNeg)), (0, rc o), (1, rc a0), (2, vi l2)] [rc o, vl 1, rc o] ((S, T), Y) _
                obtain ⟨r4, hr4, h⟩ := bind_el h
                refine go_callV (idx := 21) (z := 0) (M' := M6_pop) (n := 0) (A := []) (v' := some (vl r4.2)) (μ' := ((r4.1, T), Y)) (d' := 1) (mc' := 0) (ms' := 0) (kc' := 0) (ks' := 0) (ci := 6) (x := .inl o) (by decide +kernel) ml_6_21 rfl wv6_pop rfl (by decide) rfl hh.1 (ret6_pop hh hr4) (by decide) rfl rfl (Nat.le_of_ble_eq_true rfl) rfl (jag rfl rfl) ?_
                show Go _ _ _ _ _ _ 110 [(3, vi (S.1 (o + 1) l2.toNatClampNeg)), (0, rc o), (1, rc a0), (2, vi l2)] [vl r4.2, vl 1, rc o] ((r4.1, T), Y) _
                refine go_blk rfl [(.lsub, 1, 0, 0, 0, .inl 0)] 110 111 _ _ _ (by decide +kernel) ?_
                show Go _ _ _ _ _ _ 111 [(3, vi (S.1 (o + 1) l2.toNatClampNeg)), (0, rc o), (1, rc a0), (2, vi l2)] [vl (1 - r4.2), rc o] ((r4.1, T), Y) _
                obtain ⟨r5, hr5, h⟩ := bind_el h
                refine go_callV (idx := 25) (z := 0) (M' := M6_push) (n := 1) (A := [vl (1 - r4.2)]) (v' := none) (μ' := ((r5.1, T), Y)) (d' := 1) (mc' := 0) (ms' := 0) (kc' := 0) (ks' := 0) (ci := 6) (x := .inl o) (by decide +kernel) ml_6_25 rfl wv6_push rfl (by decide) rfl hh.1 (ret6_push hh hr5) (by decide) rfl rfl (Nat.le_of_ble_eq_true rfl) rfl (jag rfl rfl) ?_
                show Go _ _ _ _ _ _ 114 [(3, vi (S.1 (o + 1) l2.toNatClampNeg)), (0, rc o), (1, rc a0), (2, vi l2)] [] ((r5.1, T), Y) _
                refine go_goto (off := 23) (tgt := 137) (by decide +kernel) (by decide) ?_
                obtain rfl := Option.some.inj h
                refine go_pick [1, 2, 3] rfl ?_
                exact key
              · refine go_icmp_ne (off := 16) (tgt := 117) (by decide +kernel) (by decide) (fun _ => ?_) (fun z => absurd z q8)
                refine go_blk rfl [(.aload_n 0, 1, 0, 0, 0, .inl 0)] 117 118 _ _ _ (by decide +kernel) ?_
                show Go _ _ _ _ _ _ 118 [(3, vi (S.1 (o + 1) l2.toNatClampNeg)), (0, rc o), (1, rc a0), (2, vi l2)] [rc o] ((S, T), Y) _
                obtain ⟨r6, hr6, h⟩ := bind_el h
                refine go_callV (idx := 21) (z := 0) (M' := M6_pop) (n := 0) (A := []) (v' := some (vl r6.2)) (μ' := ((r6.1, T), Y)) (d' := 1) (mc' := 0) (ms' := 0) (kc' := 0) (ks' := 0) (ci := 6) (x := .inl o) (by decide +kernel) ml_6_21 rfl wv6_pop rfl (by decide) rfl hh.1 (ret6_pop hh hr6) (by decide) rfl rfl (Nat.le_of_ble_eq_true rfl) rfl (jag rfl rfl) ?_
                show Go _ _ _ _ _ _ 121 [(3, vi (S.1 (o + 1) l2.toNatClampNeg)), (0, rc o), (1, rc a0), (2, vi l2)] [vl r6.2] ((r6.1, T), Y) _
                refine go_blk rfl [(.lstore 4, 2, 4, 0, 0, .inl 0), (.aload_n 0, 1, 0, 0, 0, .inl 0), (.iload_n 3, 1, 3, 0, 0, .inl 0), (.aload_n 0, 1, 0, 0, 0, .inl 0)] 121 126 _ _ _ (by decide +kernel) ?_
                show Go _ _ _ _ _ _ 126 [(4, vl r6.2), (3, vi (S.1 (o + 1) l2.toNatClampNeg)), (0, rc o), (1, rc a0), (2, vi l2)] [rc o, vi (S.1 (o + 1) l2.toNatClampNeg), rc o] ((r6.1, T), Y) _
                obtain ⟨r7, hr7, h⟩ := bind_el h
                refine go_callV (idx := 21) (z := 0) (M' := M6_pop) (n := 0) (A := []) (v' := some (vl r7.2)) (μ' := ((r7.1, T), Y)) (d' := 1) (mc' := 0) (ms' := 0) (kc' := 0) (ks' := 0) (ci := 6) (x := .inl o) (by decide +kernel) ml_6_21 rfl wv6_pop rfl (by decide) rfl hh.1 (ret6_pop hh hr7) (by decide) rfl rfl (Nat.le_of_ble_eq_true rfl) rfl (jag rfl rfl) ?_
                show Go _ _ _ _ _ _ 129 [(4, vl r6.2), (3, vi (S.1 (o + 1) l2.toNatClampNeg)), (0, rc o), (1, rc a0), (2, vi l2)] [vl r7.2, vi (S.1 (o + 1) l2.toNatClampNeg), rc o] ((r7.1, T), Y) _
                refine go_blk rfl [(.lload 4, 2, 4, 0, 0, .inl 0)] 129 131 _ _ _ (by decide +kernel) ?_
                show Go _ _ _ _ _ _ 131 [(4, vl r6.2), (3, vi (S.1 (o + 1) l2.toNatClampNeg)), (0, rc o), (1, rc a0), (2, vi l2)] [vl r6.2, vl r7.2, vi (S.1 (o + 1) l2.toNatClampNeg), rc o] ((r7.1, T), Y) _
                obtain ⟨r8, hr8, h⟩ := bind_el h
                refine go_callS (idx := 35) (z := 0) (M' := M6_join) (n := 3) (A := [vi (S.1 (o + 1) l2.toNatClampNeg), vl r7.2, vl r6.2]) (v' := some (vl r8)) (μ' := ((r7.1, T), Y)) (d' := 1) (mc' := 0) (ms' := 0) (kc' := 0) (ks' := 0) (by decide +kernel) ml_6_35 rfl ws6_join rfl (ret6_join hr8) (by decide) rfl rfl (Nat.le_of_ble_eq_true rfl) rfl (jag rfl rfl) ?_
                show Go _ _ _ _ _ _ 134 [(4, vl r6.2), (3, vi (S.1 (o + 1) l2.toNatClampNeg)), (0, rc o), (1, rc a0), (2, vi l2)] [vl r8, rc o] ((r7.1, T), Y) _
                obtain ⟨r9, hr9, h⟩ := bind_el h
                refine go_callV (idx := 25) (z := 0) (M' := M6_push) (n := 1) (A := [vl r8]) (v' := none) (μ' := ((r9.1, T), Y)) (d' := 1) (mc' := 0) (ms' := 0) (kc' := 0) (ks' := 0) (ci := 6) (x := .inl o) (by decide +kernel) ml_6_25 rfl wv6_push rfl (by decide) rfl hh.1 (ret6_push hh hr9) (by decide) rfl rfl (Nat.le_of_ble_eq_true rfl) rfl (jag rfl rfl) ?_
                show Go _ _ _ _ _ _ 137 [(4, vl r6.2), (3, vi (S.1 (o + 1) l2.toNatClampNeg)), (0, rc o), (1, rc a0), (2, vi l2)] [] ((r9.1, T), Y) _
                obtain rfl := Option.some.inj h
                refine go_pick [2, 3, 4] rfl ?_
                exact key
            · refine go_icmp_lt (off := 17) (tgt := 98) (by decide +kernel) (by decide) (fun z => absurd z q7) (fun _ => ?_)
              refine go_blk rfl [(.aload_n 0, 1, 0, 0, 0, .inl 0), (.aload_n 1, 1, 1, 0, 0, .inl 0), (.iconst (-1), 1, 0, 0, 0, .inl (-1)), (.iload_n 3, 1, 3, 0, 0, .inl 0), (.isub, 1, 0, 0, 0, .inl 0)] 84 89 _ _ _ (by decide +kernel) ?_
              show Go _ _ _ _ _ _ 89 [(3, vi (S.1 (o + 1) l2.toNatClampNeg)), (0, rc o), (1, rc a0), (2, vi l2)] [vi (((-1)) - (S.1 (o + 1) l2.toNatClampNeg)), rc a0, rc o] ((S, T), Y) _
              obtain ⟨r10, hr10, h⟩ := bind_el h
              refine go_callV (idx := 29) (z := 1) (M' := M4_valueOf) (n := 1) (A := [vi (((-1)) - (S.1 (o + 1) l2.toNatClampNeg))]) (v' := some (vl r10)) (μ' := ((S, T), Y)) (d' := 2) (mc' := 0) (ms' := 0) (kc' := 0) (ks' := 0) (ci := 4) (x := .inl a0) (by decide +kernel) ml_6_29 rfl wv4_valueOf rfl (by decide) rfl h0.1 (ret4_valueOf h0 hr10) (by decide) rfl rfl (Nat.le_of_ble_eq_true rfl) rfl (jag rfl rfl) ?_
              show Go _ _ _ _ _ _ 92 [(3, vi (S.1 (o + 1) l2.toNatClampNeg)), (0, rc o), (1, rc a0), (2, vi l2)] [vl r10, rc o] ((S, T), Y) _
              obtain ⟨r11, hr11, h⟩ := bind_el h
              refine go_callV (idx := 25) (z := 0) (M' := M6_push) (n := 1) (A := [vl r10]) (v' := none) (μ' := ((r11.1, T), Y)) (d' := 1) (mc' := 0) (ms' := 0) (kc' := 0) (ks' := 0) (ci := 6) (x := .inl o) (by decide +kernel) ml_6_25 rfl wv6_push rfl (by decide) rfl hh.1 (ret6_push hh hr11) (by decide) rfl rfl (Nat.le_of_ble_eq_true rfl) rfl (jag rfl rfl) ?_
              show Go _ _ _ _ _ _ 95 [(3, vi (S.1 (o + 1) l2.toNatClampNeg)), (0, rc o), (1, rc a0), (2, vi l2)] [] ((r11.1, T), Y) _
              refine go_goto (off := 42) (tgt := 137) (by decide +kernel) (by decide) ?_
              obtain rfl := Option.some.inj h
              refine go_pick [1, 2, 3] rfl ?_
              exact key
          · refine go_if_lt (off := 12) (tgt := 78) (by decide +kernel) (by decide) (fun z => absurd z q6) (fun _ => ?_)
            refine go_blk rfl [(.aload_n 0, 1, 0, 0, 0, .inl 0), (.iload_n 3, 1, 3, 0, 0, .inl 0), (.i2l, 1, 0, 0, 0, .inl 0)] 69 72 _ _ _ (by decide +kernel) ?_
            show Go _ _ _ _ _ _ 72 [(3, vi (S.1 (o + 1) l2.toNatClampNeg)), (0, rc o), (1, rc a0), (2, vi l2)] [vl ((S.1 (o + 1) l2.toNatClampNeg).toInt64), rc o] ((S, T), Y) _
            obtain ⟨r12, hr12, h⟩ := bind_el h
            refine go_callV (idx := 25) (z := 0) (M' := M6_push) (n := 1) (A := [vl ((S.1 (o + 1) l2.toNatClampNeg).toInt64)]) (v' := none) (μ' := ((r12.1, T), Y)) (d' := 1) (mc' := 0) (ms' := 0) (kc' := 0) (ks' := 0) (ci := 6) (x := .inl o) (by decide +kernel) ml_6_25 rfl wv6_push rfl (by decide) rfl hh.1 (ret6_push hh hr12) (by decide) rfl rfl (Nat.le_of_ble_eq_true rfl) rfl (jag rfl rfl) ?_
            show Go _ _ _ _ _ _ 75 [(3, vi (S.1 (o + 1) l2.toNatClampNeg)), (0, rc o), (1, rc a0), (2, vi l2)] [] ((r12.1, T), Y) _
            refine go_goto (off := 62) (tgt := 137) (by decide +kernel) (by decide) ?_
            obtain rfl := Option.some.inj h
            refine go_pick [1, 2, 3] rfl ?_
            exact key
theorem ret6_sumFor {S : jS} {T : jT} {Y : jS × jT} {o : Nat} {a0 : Nat} {S1 : jS} {x : Int64} (hh : LayRule T o) (h0 : LayHall T a0) (h : f6_sumFor T S o a0 = some (S1, x)) : Ret M6_sumFor 3 0 0 [rc o, rc a0] ((S, T), Y) (some (vl x)) ((S1, T), Y) := by
  refine Ret.of (by decide +kernel) (Nat.le_of_ble_eq_true rfl) ?_
  unfold f6_sumFor at h
  show Go _ _ _ _ _ _ 0 [(0, rc o), (1, rc a0)] [] ((S, T), Y) _
  refine go_blk rfl [(.aload_n 0, 1, 0, 0, 0, .inl 0), (.iconst 0, 1, 0, 0, 0, .inl 0), (.putfield 13, 3, 6, 2, 0, .inl 0)] 0 5 _ _ _ (by decide +kernel) ?_
  refine And.intro hh.1 (And.intro trivial ?_)
  show Go _ _ _ _ _ _ 5 [(0, rc o), (1, rc a0)] [] ((wI S o 2 0, T), Y) _
  refine go_blk rfl [(.iconst 0, 1, 0, 0, 0, .inl 0), (.istore_n 2, 1, 2, 0, 0, .inl 0)] 5 7 _ _ _ (by decide +kernel) ?_
  show Go _ _ _ _ _ _ 7 [(2, vi 0), (0, rc o), (1, rc a0)] [] ((wI S o 2 0, T), Y) _
  refine go_pick [1, 2, 0] rfl ?_
  exact f6_sumFor_L1_ok hh h0 _ _ _ h
def f3_walk_L1 (a0 : Nat) (l2 : Int32) : Nat → jS → Int32 → Option jS
  | 0, _, _ => none
  | n + 1, S, l3 => (if (S.1 a0 2) ≤ l3 then some S else (if (S.1 a0 0) ≤ 0 then some S else Option.bind (if (((S.1 a0 4) >>> (l3 &&& 31)) &&& 1) = 1 then (if inb l3 7 then (if ¬ (S.1 a0 0) = 0 then some (wI S (a0 + 2) l3.toNatClampNeg (irm ((S.1 (a0 + 2) l3.toNatClampNeg) + ((S.1 (a0 + 3) l3.toNatClampNeg) * l2)) (S.1 a0 0))) else none) else none) else some S) (fun (y1 : jS) => f3_walk_L1 a0 l2 n y1 (l3 + 1))))
def f3_walk (S : jS) (a0 : Nat) (a1 : Int32) : Option (jS × Unit) := Option.bind (f3_walk_L1 a0 a1 jF S 0) (fun y2 => some (y2, ()))
theorem f3_walk_L1_ok {T : jT} {Y : jS × jT} {a0 : Nat} {l2 : Int32} {Q : Option jV → jMem → Prop} (hT : LayC T) (h0 : LayHall T a0) : ∀ (n : Nat) (S : jS) (l3 : Int32) (r : jS), f3_walk_L1 a0 l2 n S l3 = some r → Go M3_walk 1 0 0 0 0 61 [] [] ((r, T), Y) Q → Go M3_walk 1 0 0 0 0 2 [(1, rc a0), (2, vi l2), (3, vi l3)] [] ((S, T), Y) Q := by
  intro n
  induction n with
  | zero => intro S l3 r h k; exact absurd h (by intro z; cases z)
  | succ n ih =>
    intro S l3 r h k
    rw [f3_walk_L1] at h
    refine go_blk rfl [(.iload_n 3, 1, 3, 0, 0, .inl 0), (.aload_n 1, 1, 1, 0, 0, .inl 0), (.getfield 72, 3, 4, 2, 0, .inl 0)] 2 7 _ _ _ (by decide +kernel) ?_
    refine And.intro h0.1 ?_
    show Go _ _ _ _ _ _ 7 [(1, rc a0), (2, vi l2), (3, vi l3)] [vi (S.1 a0 2), vi l3] ((S, T), Y) _
    refine ite_el h (fun q1 h => ?_) (fun q1 h => ?_)
    · refine go_icmp_ge (off := 54) (tgt := 61) (by decide +kernel) (by decide) (fun _ => ?_) (fun z => absurd q1 z)
      obtain rfl := Option.some.inj h
      refine go_pick [] rfl ?_
      exact k
    · refine go_icmp_ge (off := 54) (tgt := 61) (by decide +kernel) (by decide) (fun z => absurd z q1) (fun _ => ?_)
      refine go_blk rfl [(.aload_n 1, 1, 1, 0, 0, .inl 0), (.getfield 75, 3, 4, 0, 0, .inl 0)] 10 14 _ _ _ (by decide +kernel) ?_
      refine And.intro h0.1 ?_
      show Go _ _ _ _ _ _ 14 [(1, rc a0), (2, vi l2), (3, vi l3)] [vi (S.1 a0 0)] ((S, T), Y) _
      refine ite_el h (fun q2 h => ?_) (fun q2 h => ?_)
      · refine go_if_le (off := 47) (tgt := 61) (by decide +kernel) (by decide) (fun _ => ?_) (fun z => absurd q2 z)
        obtain rfl := Option.some.inj h
        refine go_pick [] rfl ?_
        exact k
      · refine go_if_le (off := 47) (tgt := 61) (by decide +kernel) (by decide) (fun z => absurd z q2) (fun _ => ?_)
        refine go_blk rfl [(.aload_n 1, 1, 1, 0, 0, .inl 0), (.getfield 78, 3, 4, 4, 0, .inl 0), (.iload_n 3, 1, 3, 0, 0, .inl 0), (.ishr, 1, 0, 0, 0, .inl 0), (.iconst 1, 1, 0, 0, 0, .inl 1), (.iand, 1, 0, 0, 0, .inl 0), (.iconst 1, 1, 0, 0, 0, .inl 1)] 17 26 _ _ _ (by decide +kernel) ?_
        refine And.intro h0.1 ?_
        show Go _ _ _ _ _ _ 26 [(1, rc a0), (2, vi l2), (3, vi l3)] [vi 1, vi (((S.1 a0 4) >>> (l3 &&& 31)) &&& 1)] ((S, T), Y) _
        obtain ⟨y1, hy1, h⟩ := bind_el h
        have key : Go M3_walk 1 0 0 0 0 55 [(1, rc a0), (2, vi l2), (3, vi l3)] [] ((y1, T), Y) Q := by
          refine go_blk rfl [(.iinc 3 1, 3, 3, 0, 0, .inl 1)] 55 58 _ _ _ (by decide +kernel) ?_
          show Go _ _ _ _ _ _ 58 [(3, vi (l3 + 1)), (1, rc a0), (2, vi l2)] [] ((y1, T), Y) _
          refine go_goto (off := (-56)) (tgt := 2) (by decide +kernel) (by decide) ?_
          refine go_pick [1, 2, 0] rfl ?_
          exact ih _ _ _ h k
        replace h := hy1
        refine ite_el h (fun q3 h => ?_) (fun q3 h => ?_)
        · refine go_icmp_ne (off := 29) (tgt := 55) (by decide +kernel) (by decide) (fun z => absurd q3 z) (fun _ => ?_)
          refine gd_el h (fun q4 h => ?_)
          refine gd_el h (fun q5 h => ?_)
          refine go_blk rfl [(.aload_n 1, 1, 1, 0, 0, .inl 0), (.getfield 81, 3, 4, 9, 1, .inl 0), (.iload_n 3, 1, 3, 0, 0, .inl 0), (.aload_n 1, 1, 1, 0, 0, .inl 0), (.getfield 81, 3, 4, 9, 1, .inl 0), (.iload_n 3, 1, 3, 0, 0, .inl 0), (.iaload, 1, 20, 0, 0, .inl 0), (.aload_n 1, 1, 1, 0, 0, .inl 0), (.getfield 84, 3, 4, 10, 1, .inl 0), (.iload_n 3, 1, 3, 0, 0, .inl 0), (.iaload, 1, 20, 0, 0, .inl 0), (.iload_n 2, 1, 2, 0, 0, .inl 0), (.imul, 1, 0, 0, 0, .inl 0), (.iadd, 1, 0, 0, 0, .inl 0), (.aload_n 1, 1, 1, 0, 0, .inl 0), (.getfield 75, 3, 4, 0, 0, .inl 0), (.irem, 1, 0, 0, 0, .inl 0), (.iastore, 1, 20, 0, 0, .inl 0)] 29 55 _ _ _ (by decide +kernel) ?_
          refine And.intro h0.1 (Exists.intro _ (And.intro (gRc h0.2.2.1.1) ?_))
          refine And.intro h0.1 (Exists.intro _ (And.intro (gRc h0.2.2.1.1) ?_))
          refine And.intro h0.2.2.1.2.1 (Exists.intro _ (And.intro h0.2.2.1.2.2 (And.intro (inb_in q4) ?_)))
          refine And.intro h0.1 (Exists.intro _ (And.intro (gRc h0.2.2.2.1.1) ?_))
          refine And.intro h0.2.2.2.1.2.1 (Exists.intro _ (And.intro h0.2.2.2.1.2.2 (And.intro (inb_in q4) ?_)))
          refine And.intro h0.1 ?_
          refine And.intro q5 ?_
          refine And.intro h0.2.2.1.2.1 (Exists.intro _ (And.intro h0.2.2.1.2.2 (And.intro (inb_in q4) ?_)))
          show Go _ _ _ _ _ _ 55 [(1, rc a0), (2, vi l2), (3, vi l3)] [] ((wI S (a0 + 2) l3.toNatClampNeg (irm ((S.1 (a0 + 2) l3.toNatClampNeg) + ((S.1 (a0 + 3) l3.toNatClampNeg) * l2)) (S.1 a0 0)), T), Y) _
          obtain rfl := Option.some.inj h
          refine go_pick [0, 1, 2] rfl ?_
          exact key
        · refine go_icmp_ne (off := 29) (tgt := 55) (by decide +kernel) (by decide) (fun _ => ?_) (fun z => absurd z q3)
          obtain rfl := Option.some.inj h
          refine go_pick [0, 1, 2] rfl ?_
          exact key
theorem ret3_walk {S : jS} {T : jT} {Y : jS × jT} {a0 : Nat} {a1 : Int32} {S1 : jS} {x : Unit} (hT : LayC T) (h0 : LayHall T a0) (h : f3_walk S a0 a1 = some (S1, x)) : Ret M3_walk 1 0 0 [rc 17, rc a0, vi a1] ((S, T), Y) (none) ((S1, T), Y) := by
  refine Ret.of (by decide +kernel) (Nat.le_of_ble_eq_true rfl) ?_
  unfold f3_walk at h
  show Go _ _ _ _ _ _ 0 [(0, rc 17), (1, rc a0), (2, vi a1)] [] ((S, T), Y) _
  refine go_blk rfl [(.iconst 0, 1, 0, 0, 0, .inl 0), (.istore_n 3, 1, 3, 0, 0, .inl 0)] 0 2 _ _ _ (by decide +kernel) ?_
  show Go _ _ _ _ _ _ 2 [(3, vi 0), (0, rc 17), (1, rc a0), (2, vi a1)] [] ((S, T), Y) _
  refine go_pick [2, 3, 0] rfl ?_
  obtain ⟨y2, hy2, h⟩ := bind_el h
  refine f3_walk_L1_ok hT h0 _ _ _ _ hy2 ?_
  show Go _ _ _ _ _ _ 61 [] [] ((y2, T), Y) _
  obtain ⟨rfl, rfl⟩ := Prod.mk.inj (Option.some.inj h)
  exact go_return (by decide +kernel) rfl ⟨rfl, rfl⟩
def f4_timeFor (S : jS) (o : Nat) (a0 : Int32) (a1 : Int32) : Option Int32 := (if inb a0 7 then (if inb a1 6 then (if 1 ≤ (S.1 (o + 4) a0.toNatClampNeg) then (if ¬ (S.1 (o + 4) a0.toNatClampNeg) = 0 then some (((mmin (mabs ((S.1 (o + 2) a0.toNatClampNeg) - (S.1 (o + 1) a1.toNatClampNeg))) ((S.1 o 0) - (mabs ((S.1 (o + 2) a0.toNatClampNeg) - (S.1 (o + 1) a1.toNatClampNeg))))) * (10 + (S.1 (o + 5) a0.toNatClampNeg))) / (S.1 (o + 4) a0.toNatClampNeg)) else none) else some 0) else none) else none)
theorem ret4_timeFor {S : jS} {T : jT} {Y : jS × jT} {o : Nat} {a0 : Int32} {a1 : Int32} {x : Int32} (hh : LayHall T o) (h : f4_timeFor S o a0 a1 = some x) : Ret M4_timeFor 2 0 0 [rc o, vi a0, vi a1] ((S, T), Y) (some (vi x)) ((S, T), Y) := by
  refine Ret.of (by decide +kernel) (Nat.le_of_ble_eq_true rfl) ?_
  unfold f4_timeFor at h
  show Go _ _ _ _ _ _ 0 [(0, rc o), (1, vi a0), (2, vi a1)] [] ((S, T), Y) _
  refine gd_el h (fun q1 h => ?_)
  refine gd_el h (fun q2 h => ?_)
  refine go_blk rfl [(.aload_n 0, 1, 0, 0, 0, .inl 0), (.getfield 40, 3, 4, 9, 1, .inl 0), (.iload_n 1, 1, 1, 0, 0, .inl 0), (.iaload, 1, 20, 0, 0, .inl 0), (.aload_n 0, 1, 0, 0, 0, .inl 0), (.getfield 36, 3, 4, 8, 1, .inl 0), (.iload_n 2, 1, 2, 0, 0, .inl 0), (.iaload, 1, 20, 0, 0, .inl 0), (.isub, 1, 0, 0, 0, .inl 0)] 0 13 _ _ _ (by decide +kernel) ?_
  refine And.intro hh.1 (Exists.intro _ (And.intro (gRc hh.2.2.1.1) ?_))
  refine And.intro hh.2.2.1.2.1 (Exists.intro _ (And.intro hh.2.2.1.2.2 (And.intro (inb_in q1) ?_)))
  refine And.intro hh.1 (Exists.intro _ (And.intro (gRc hh.2.1.1) ?_))
  refine And.intro hh.2.1.2.1 (Exists.intro _ (And.intro hh.2.1.2.2 (And.intro (inb_in q2) ?_)))
  show Go _ _ _ _ _ _ 13 [(0, rc o), (1, vi a0), (2, vi a1)] [vi ((S.1 (o + 2) a0.toNatClampNeg) - (S.1 (o + 1) a1.toNatClampNeg))] ((S, T), Y) _
  refine go_mabs (idx := 80) (by decide +kernel) ml_4_80 rfl (by decide) (Nat.le_of_ble_eq_true rfl) ?_
  show Go _ _ _ _ _ _ 16 [(0, rc o), (1, vi a0), (2, vi a1)] [vi (mabs ((S.1 (o + 2) a0.toNatClampNeg) - (S.1 (o + 1) a1.toNatClampNeg)))] ((S, T), Y) _
  refine go_blk rfl [(.istore_n 3, 1, 3, 0, 0, .inl 0), (.iload_n 3, 1, 3, 0, 0, .inl 0), (.aload_n 0, 1, 0, 0, 0, .inl 0), (.getfield 9, 3, 4, 0, 0, .inl 0), (.iload_n 3, 1, 3, 0, 0, .inl 0), (.isub, 1, 0, 0, 0, .inl 0)] 16 24 _ _ _ (by decide +kernel) ?_
  refine And.intro hh.1 ?_
  show Go _ _ _ _ _ _ 24 [(3, vi (mabs ((S.1 (o + 2) a0.toNatClampNeg) - (S.1 (o + 1) a1.toNatClampNeg)))), (0, rc o), (1, vi a0), (2, vi a1)] [vi ((S.1 o 0) - (mabs ((S.1 (o + 2) a0.toNatClampNeg) - (S.1 (o + 1) a1.toNatClampNeg)))), vi (mabs ((S.1 (o + 2) a0.toNatClampNeg) - (S.1 (o + 1) a1.toNatClampNeg)))] ((S, T), Y) _
  refine go_mmin (idx := 85) (by decide +kernel) ml_4_85 rfl (by decide) (Nat.le_of_ble_eq_true rfl) ?_
  show Go _ _ _ _ _ _ 27 [(3, vi (mabs ((S.1 (o + 2) a0.toNatClampNeg) - (S.1 (o + 1) a1.toNatClampNeg)))), (0, rc o), (1, vi a0), (2, vi a1)] [vi (mmin (mabs ((S.1 (o + 2) a0.toNatClampNeg) - (S.1 (o + 1) a1.toNatClampNeg))) ((S.1 o 0) - (mabs ((S.1 (o + 2) a0.toNatClampNeg) - (S.1 (o + 1) a1.toNatClampNeg)))))] ((S, T), Y) _
  refine go_blk rfl [(.istore 4, 2, 4, 0, 0, .inl 0), (.aload_n 0, 1, 0, 0, 0, .inl 0), (.getfield 46, 3, 4, 11, 1, .inl 0), (.iload_n 1, 1, 1, 0, 0, .inl 0), (.iaload, 1, 20, 0, 0, .inl 0), (.istore 5, 2, 5, 0, 0, .inl 0), (.iload 5, 2, 5, 0, 0, .inl 0), (.iconst 1, 1, 0, 0, 0, .inl 1)] 27 40 _ _ _ (by decide +kernel) ?_
  refine And.intro hh.1 (Exists.intro _ (And.intro (gRc hh.2.2.2.2.1.1) ?_))
  refine And.intro hh.2.2.2.2.1.2.1 (Exists.intro _ (And.intro hh.2.2.2.2.1.2.2 (And.intro (inb_in q1) ?_)))
  show Go _ _ _ _ _ _ 40 [(5, vi (S.1 (o + 4) a0.toNatClampNeg)), (4, vi (mmin (mabs ((S.1 (o + 2) a0.toNatClampNeg) - (S.1 (o + 1) a1.toNatClampNeg))) ((S.1 o 0) - (mabs ((S.1 (o + 2) a0.toNatClampNeg) - (S.1 (o + 1) a1.toNatClampNeg)))))), (3, vi (mabs ((S.1 (o + 2) a0.toNatClampNeg) - (S.1 (o + 1) a1.toNatClampNeg)))), (0, rc o), (1, vi a0), (2, vi a1)] [vi 1, vi (S.1 (o + 4) a0.toNatClampNeg)] ((S, T), Y) _
  refine ite_el h (fun q3 h => ?_) (fun q3 h => ?_)
  · refine go_icmp_ge (off := 7) (tgt := 47) (by decide +kernel) (by decide) (fun _ => ?_) (fun z => absurd q3 z)
    refine gd_el h (fun q4 h => ?_)
    refine go_blk rfl [(.iload 4, 2, 4, 0, 0, .inl 0), (.bipush 10, 2, 0, 0, 0, .inl 10), (.aload_n 0, 1, 0, 0, 0, .inl 0), (.getfield 49, 3, 4, 12, 1, .inl 0), (.iload_n 1, 1, 1, 0, 0, .inl 0), (.iaload, 1, 20, 0, 0, .inl 0), (.iadd, 1, 0, 0, 0, .inl 0), (.imul, 1, 0, 0, 0, .inl 0), (.iload 5, 2, 5, 0, 0, .inl 0), (.idiv, 1, 0, 0, 0, .inl 0)] 47 62 _ _ _ (by decide +kernel) ?_
    refine And.intro hh.1 (Exists.intro _ (And.intro (gRc hh.2.2.2.2.2.1.1) ?_))
    refine And.intro hh.2.2.2.2.2.1.2.1 (Exists.intro _ (And.intro hh.2.2.2.2.2.1.2.2 (And.intro (inb_in q1) ?_)))
    refine And.intro q4 ?_
    show Go _ _ _ _ _ _ 62 [(5, vi (S.1 (o + 4) a0.toNatClampNeg)), (4, vi (mmin (mabs ((S.1 (o + 2) a0.toNatClampNeg) - (S.1 (o + 1) a1.toNatClampNeg))) ((S.1 o 0) - (mabs ((S.1 (o + 2) a0.toNatClampNeg) - (S.1 (o + 1) a1.toNatClampNeg)))))), (3, vi (mabs ((S.1 (o + 2) a0.toNatClampNeg) - (S.1 (o + 1) a1.toNatClampNeg)))), (0, rc o), (1, vi a0), (2, vi a1)] [vi (((mmin (mabs ((S.1 (o + 2) a0.toNatClampNeg) - (S.1 (o + 1) a1.toNatClampNeg))) ((S.1 o 0) - (mabs ((S.1 (o + 2) a0.toNatClampNeg) - (S.1 (o + 1) a1.toNatClampNeg))))) * (10 + (S.1 (o + 5) a0.toNatClampNeg))) / (S.1 (o + 4) a0.toNatClampNeg))] ((S, T), Y) _
    obtain rfl := Option.some.inj h
    exact go_ireturn (by decide +kernel) rfl rfl ⟨rfl, rfl⟩
  · refine go_icmp_ge (off := 7) (tgt := 47) (by decide +kernel) (by decide) (fun z => absurd z q3) (fun _ => ?_)
    refine go_blk rfl [(.iconst 0, 1, 0, 0, 0, .inl 0)] 43 44 _ _ _ (by decide +kernel) ?_
    show Go _ _ _ _ _ _ 44 [(5, vi (S.1 (o + 4) a0.toNatClampNeg)), (4, vi (mmin (mabs ((S.1 (o + 2) a0.toNatClampNeg) - (S.1 (o + 1) a1.toNatClampNeg))) ((S.1 o 0) - (mabs ((S.1 (o + 2) a0.toNatClampNeg) - (S.1 (o + 1) a1.toNatClampNeg)))))), (3, vi (mabs ((S.1 (o + 2) a0.toNatClampNeg) - (S.1 (o + 1) a1.toNatClampNeg)))), (0, rc o), (1, vi a0), (2, vi a1)] [vi 0] ((S, T), Y) _
    refine go_goto (off := 18) (tgt := 62) (by decide +kernel) (by decide) ?_
    obtain rfl := Option.some.inj h
    exact go_ireturn (by decide +kernel) rfl rfl ⟨rfl, rfl⟩
def f3_measure_L2 (a0 : Nat) (l2 : Int32) : Nat → jS → Int32 → Option jS
  | 0, _, _ => none
  | n + 1, S, l3 => (if (S.1 a0 1) ≤ l3 then some S else Option.bind (f4_timeFor S a0 l2 l3) (fun r1 => (if inb ((l2 * 6) + l3) 42 then f3_measure_L2 a0 l2 n (wI S 18 ((l2 * 6) + l3).toNatClampNeg r1) (l3 + 1) else none)))
def f3_measure_L1 (a0 : Nat) : Nat → jS → Int32 → Option jS
  | 0, _, _ => none
  | n + 1, S, l2 => (if (S.1 a0 2) ≤ l2 then some S else Option.bind (if (((S.1 a0 4) >>> (l2 &&& 31)) &&& 1) = 1 then Option.bind (f3_measure_L2 a0 l2 jF S 0) (fun y2 => some y2) else some S) (fun (y3 : jS) => f3_measure_L1 a0 n y3 (l2 + 1)))
def f3_measure (S : jS) (a0 : Nat) : Option (jS × Unit) := Option.bind (f3_measure_L1 a0 jF S 0) (fun y4 => some (y4, ()))
theorem f3_measure_L2_ok {T : jT} {Y : jS × jT} {a0 : Nat} {l2 : Int32} {Q : Option jV → jMem → Prop} (hT : LayC T) (h0 : LayHall T a0) : ∀ (n : Nat) (S : jS) (l3 : Int32) (r : jS), f3_measure_L2 a0 l2 n S l3 = some r → Go M3_measure 3 0 0 0 0 55 [(0, rc 17), (1, rc a0), (2, vi l2)] [] ((r, T), Y) Q → Go M3_measure 3 0 0 0 0 24 [(0, rc 17), (1, rc a0), (2, vi l2), (3, vi l3)] [] ((S, T), Y) Q := by
  intro n
  induction n with
  | zero => intro S l3 r h k; exact absurd h (by intro z; cases z)
  | succ n ih =>
    intro S l3 r h k
    rw [f3_measure_L2] at h
    refine go_blk rfl [(.iload_n 3, 1, 3, 0, 0, .inl 0), (.aload_n 1, 1, 1, 0, 0, .inl 0), (.getfield 94, 3, 4, 1, 0, .inl 0)] 24 29 _ _ _ (by decide +kernel) ?_
    refine And.intro h0.1 ?_
    show Go _ _ _ _ _ _ 29 [(0, rc 17), (1, rc a0), (2, vi l2), (3, vi l3)] [vi (S.1 a0 1), vi l3] ((S, T), Y) _
    refine ite_el h (fun q3 h => ?_) (fun q3 h => ?_)
    · refine go_icmp_ge (off := 26) (tgt := 55) (by decide +kernel) (by decide) (fun _ => ?_) (fun z => absurd q3 z)
      obtain rfl := Option.some.inj h
      refine go_pick [0, 1, 2] rfl ?_
      exact k
    · refine go_icmp_ge (off := 26) (tgt := 55) (by decide +kernel) (by decide) (fun z => absurd z q3) (fun _ => ?_)
      refine go_blk rfl [(.aload_n 0, 1, 0, 0, 0, .inl 0), (.getfield 11, 3, 3, 0, 1, .inl 0), (.iload_n 2, 1, 2, 0, 0, .inl 0), (.bipush 6, 2, 0, 0, 0, .inl 6), (.imul, 1, 0, 0, 0, .inl 0), (.iload_n 3, 1, 3, 0, 0, .inl 0), (.iadd, 1, 0, 0, 0, .inl 0), (.aload_n 1, 1, 1, 0, 0, .inl 0), (.iload_n 2, 1, 2, 0, 0, .inl 0), (.iload_n 3, 1, 3, 0, 0, .inl 0)] 32 45 _ _ _ (by decide +kernel) ?_
      refine And.intro (lc_t17 hT) (Exists.intro _ (And.intro (gRc (lc_r3_0 hT)) ?_))
      show Go _ _ _ _ _ _ 45 [(0, rc 17), (1, rc a0), (2, vi l2), (3, vi l3)] [vi l3, vi l2, rc a0, vi ((l2 * 6) + l3), rc 18] ((S, T), Y) _
      obtain ⟨r1, hr1, h⟩ := bind_el h
      refine go_callV (idx := 97) (z := 1) (M' := M4_timeFor) (n := 2) (A := [vi l2, vi l3]) (v' := some (vi r1)) (μ' := ((S, T), Y)) (d' := 2) (mc' := 0) (ms' := 0) (kc' := 0) (ks' := 0) (ci := 4) (x := .inl a0) (by decide +kernel) ml_3_97 rfl wv4_timeFor rfl (by decide) rfl h0.1 (ret4_timeFor h0 hr1) (by decide) rfl rfl (Nat.le_of_ble_eq_true rfl) rfl (jag rfl rfl) ?_
      show Go _ _ _ _ _ _ 48 [(0, rc 17), (1, rc a0), (2, vi l2), (3, vi l3)] [vi r1, vi ((l2 * 6) + l3), rc 18] ((S, T), Y) _
      refine gd_el h (fun q4 h => ?_)
      refine go_blk rfl [(.iastore, 1, 20, 0, 0, .inl 0)] 48 49 _ _ _ (by decide +kernel) ?_
      refine And.intro (lc_t18 hT) (Exists.intro _ (And.intro (lc_n18 hT) (And.intro (inb_in q4) ?_)))
      show Go _ _ _ _ _ _ 49 [(0, rc 17), (1, rc a0), (2, vi l2), (3, vi l3)] [] ((wI S 18 ((l2 * 6) + l3).toNatClampNeg r1, T), Y) _
      refine go_blk rfl [(.iinc 3 1, 3, 3, 0, 0, .inl 1)] 49 52 _ _ _ (by decide +kernel) ?_
      show Go _ _ _ _ _ _ 52 [(3, vi (l3 + 1)), (0, rc 17), (1, rc a0), (2, vi l2)] [] ((wI S 18 ((l2 * 6) + l3).toNatClampNeg r1, T), Y) _
      refine go_goto (off := (-28)) (tgt := 24) (by decide +kernel) (by decide) ?_
      refine go_pick [1, 2, 3, 0] rfl ?_
      exact ih _ _ _ h k
theorem f3_measure_L1_ok {T : jT} {Y : jS × jT} {a0 : Nat} {Q : Option jV → jMem → Prop} (hT : LayC T) (h0 : LayHall T a0) : ∀ (n : Nat) (S : jS) (l2 : Int32) (r : jS), f3_measure_L1 a0 n S l2 = some r → Go M3_measure 3 0 0 0 0 61 [] [] ((r, T), Y) Q → Go M3_measure 3 0 0 0 0 2 [(0, rc 17), (1, rc a0), (2, vi l2)] [] ((S, T), Y) Q := by
  intro n
  induction n with
  | zero => intro S l2 r h k; exact absurd h (by intro z; cases z)
  | succ n ih =>
    intro S l2 r h k
    rw [f3_measure_L1] at h
    refine go_blk rfl [(.iload_n 2, 1, 2, 0, 0, .inl 0), (.aload_n 1, 1, 1, 0, 0, .inl 0), (.getfield 72, 3, 4, 2, 0, .inl 0)] 2 7 _ _ _ (by decide +kernel) ?_
    refine And.intro h0.1 ?_
    show Go _ _ _ _ _ _ 7 [(0, rc 17), (1, rc a0), (2, vi l2)] [vi (S.1 a0 2), vi l2] ((S, T), Y) _
    refine ite_el h (fun q1 h => ?_) (fun q1 h => ?_)
    · refine go_icmp_ge (off := 54) (tgt := 61) (by decide +kernel) (by decide) (fun _ => ?_) (fun z => absurd q1 z)
      obtain rfl := Option.some.inj h
      refine go_pick [] rfl ?_
      exact k
    · refine go_icmp_ge (off := 54) (tgt := 61) (by decide +kernel) (by decide) (fun z => absurd z q1) (fun _ => ?_)
      refine go_blk rfl [(.aload_n 1, 1, 1, 0, 0, .inl 0), (.getfield 78, 3, 4, 4, 0, .inl 0), (.iload_n 2, 1, 2, 0, 0, .inl 0), (.ishr, 1, 0, 0, 0, .inl 0), (.iconst 1, 1, 0, 0, 0, .inl 1), (.iand, 1, 0, 0, 0, .inl 0), (.iconst 1, 1, 0, 0, 0, .inl 1)] 10 19 _ _ _ (by decide +kernel) ?_
      refine And.intro h0.1 ?_
      show Go _ _ _ _ _ _ 19 [(0, rc 17), (1, rc a0), (2, vi l2)] [vi 1, vi (((S.1 a0 4) >>> (l2 &&& 31)) &&& 1)] ((S, T), Y) _
      obtain ⟨y3, hy3, h⟩ := bind_el h
      have key : Go M3_measure 3 0 0 0 0 55 [(0, rc 17), (1, rc a0), (2, vi l2)] [] ((y3, T), Y) Q := by
        refine go_blk rfl [(.iinc 2 1, 3, 2, 0, 0, .inl 1)] 55 58 _ _ _ (by decide +kernel) ?_
        show Go _ _ _ _ _ _ 58 [(2, vi (l2 + 1)), (0, rc 17), (1, rc a0)] [] ((y3, T), Y) _
        refine go_goto (off := (-56)) (tgt := 2) (by decide +kernel) (by decide) ?_
        refine go_pick [1, 2, 0] rfl ?_
        exact ih _ _ _ h k
      replace h := hy3
      refine ite_el h (fun q2 h => ?_) (fun q2 h => ?_)
      · refine go_icmp_ne (off := 36) (tgt := 55) (by decide +kernel) (by decide) (fun z => absurd q2 z) (fun _ => ?_)
        refine go_blk rfl [(.iconst 0, 1, 0, 0, 0, .inl 0), (.istore_n 3, 1, 3, 0, 0, .inl 0)] 22 24 _ _ _ (by decide +kernel) ?_
        show Go _ _ _ _ _ _ 24 [(3, vi 0), (0, rc 17), (1, rc a0), (2, vi l2)] [] ((S, T), Y) _
        refine go_pick [1, 2, 3, 0] rfl ?_
        obtain ⟨y2, hy2, h⟩ := bind_el h
        refine f3_measure_L2_ok hT h0 _ _ _ _ hy2 ?_
        show Go _ _ _ _ _ _ 55 [(0, rc 17), (1, rc a0), (2, vi l2)] [] ((y2, T), Y) _
        obtain rfl := Option.some.inj h
        refine go_pick [0, 1, 2] rfl ?_
        exact key
      · refine go_icmp_ne (off := 36) (tgt := 55) (by decide +kernel) (by decide) (fun _ => ?_) (fun z => absurd z q2)
        obtain rfl := Option.some.inj h
        refine go_pick [0, 1, 2] rfl ?_
        exact key
theorem ret3_measure {S : jS} {T : jT} {Y : jS × jT} {a0 : Nat} {S1 : jS} {x : Unit} (hT : LayC T) (h0 : LayHall T a0) (h : f3_measure S a0 = some (S1, x)) : Ret M3_measure 3 0 0 [rc 17, rc a0] ((S, T), Y) (none) ((S1, T), Y) := by
  refine Ret.of (by decide +kernel) (Nat.le_of_ble_eq_true rfl) ?_
  unfold f3_measure at h
  show Go _ _ _ _ _ _ 0 [(0, rc 17), (1, rc a0)] [] ((S, T), Y) _
  refine go_blk rfl [(.iconst 0, 1, 0, 0, 0, .inl 0), (.istore_n 2, 1, 2, 0, 0, .inl 0)] 0 2 _ _ _ (by decide +kernel) ?_
  show Go _ _ _ _ _ _ 2 [(2, vi 0), (0, rc 17), (1, rc a0)] [] ((S, T), Y) _
  refine go_pick [1, 2, 0] rfl ?_
  obtain ⟨y4, hy4, h⟩ := bind_el h
  refine f3_measure_L1_ok hT h0 _ _ _ _ hy4 ?_
  show Go _ _ _ _ _ _ 61 [] [] ((y4, T), Y) _
  obtain ⟨rfl, rfl⟩ := Prod.mk.inj (Option.some.inj h)
  exact go_return (by decide +kernel) rfl ⟨rfl, rfl⟩
def f3_nearestPair_L2 (S : jS) (l1 : Int32) (l2 : Int32) (l4 : Int32) : Nat → Int32 → Int32 → Option Int32
  | 0, _, _ => none
  | n + 1, l3, l5 => (if 6 ≤ l5 then some l3 else Option.bind (if ((l2 >>> (l5 &&& 31)) &&& 1) = 1 then (if l3 = ((-1)) then some ((l4 * 6) + l5) else (if inb ((l4 * 6) + l5) 42 then (if inb l3 42 then (if (S.1 18 l3.toNatClampNeg) ≤ (S.1 18 ((l4 * 6) + l5).toNatClampNeg) then some l3 else some ((l4 * 6) + l5)) else none) else none)) else some l3) (fun (y1 : Int32) => f3_nearestPair_L2 S l1 l2 l4 n y1 (l5 + 1)))
def f3_nearestPair_L1 (S : jS) (l1 : Int32) (l2 : Int32) : Nat → Int32 → Int32 → Option Int32
  | 0, _, _ => none
  | n + 1, l3, l4 => (if 7 ≤ l4 then some l3 else Option.bind (if ((l1 >>> (l4 &&& 31)) &&& 1) = 0 then some l3 else Option.bind (f3_nearestPair_L2 S l1 l2 l4 jF l3 0) (fun y2 => some y2)) (fun (y3 : Int32) => f3_nearestPair_L1 S l1 l2 n y3 (l4 + 1)))
def f3_nearestPair (S : jS) (a0 : Int32) (a1 : Int32) : Option Int32 := Option.bind (f3_nearestPair_L1 S a0 a1 jF ((-1)) 0) (fun y4 => some y4)
theorem f3_nearestPair_L2_ok {T : jT} {Y : jS × jT} {S : jS} {l1 : Int32} {l2 : Int32} {l4 : Int32} {Q : Option jV → jMem → Prop} (hT : LayC T) : ∀ (n : Nat) (l3 : Int32) (l5 : Int32) (r : Int32), f3_nearestPair_L2 S l1 l2 l4 n l3 l5 = some r → Go M3_nearestPair 1 0 0 0 0 84 [(0, rc 17), (1, vi l1), (2, vi l2), (3, vi r), (4, vi l4)] [] ((S, T), Y) Q → Go M3_nearestPair 1 0 0 0 0 27 [(0, rc 17), (1, vi l1), (2, vi l2), (3, vi l3), (4, vi l4), (5, vi l5)] [] ((S, T), Y) Q := by
  intro n
  induction n with
  | zero => intro l3 l5 r h k; exact absurd h (by intro z; cases z)
  | succ n ih =>
    intro l3 l5 r h k
    rw [f3_nearestPair_L2] at h
    refine go_blk rfl [(.iload 5, 2, 5, 0, 0, .inl 0), (.bipush 6, 2, 0, 0, 0, .inl 6)] 27 31 _ _ _ (by decide +kernel) ?_
    show Go _ _ _ _ _ _ 31 [(0, rc 17), (1, vi l1), (2, vi l2), (3, vi l3), (4, vi l4), (5, vi l5)] [vi 6, vi l5] ((S, T), Y) _
    refine ite_el h (fun q3 h => ?_) (fun q3 h => ?_)
    · refine go_icmp_ge (off := 53) (tgt := 84) (by decide +kernel) (by decide) (fun _ => ?_) (fun z => absurd q3 z)
      obtain rfl := Option.some.inj h
      refine go_pick [0, 1, 2, 3, 4] rfl ?_
      exact k
    · refine go_icmp_ge (off := 53) (tgt := 84) (by decide +kernel) (by decide) (fun z => absurd z q3) (fun _ => ?_)
      refine go_blk rfl [(.iload 4, 2, 4, 0, 0, .inl 0), (.bipush 6, 2, 0, 0, 0, .inl 6), (.imul, 1, 0, 0, 0, .inl 0), (.iload 5, 2, 5, 0, 0, .inl 0), (.iadd, 1, 0, 0, 0, .inl 0), (.istore 6, 2, 6, 0, 0, .inl 0), (.iload_n 2, 1, 2, 0, 0, .inl 0), (.iload 5, 2, 5, 0, 0, .inl 0), (.ishr, 1, 0, 0, 0, .inl 0), (.iconst 1, 1, 0, 0, 0, .inl 1), (.iand, 1, 0, 0, 0, .inl 0), (.iconst 1, 1, 0, 0, 0, .inl 1)] 34 51 _ _ _ (by decide +kernel) ?_
      show Go _ _ _ _ _ _ 51 [(6, vi ((l4 * 6) + l5)), (0, rc 17), (1, vi l1), (2, vi l2), (3, vi l3), (4, vi l4), (5, vi l5)] [vi 1, vi ((l2 >>> (l5 &&& 31)) &&& 1)] ((S, T), Y) _
      obtain ⟨y1, hy1, h⟩ := bind_el h
      have key : Go M3_nearestPair 1 0 0 0 0 78 [(0, rc 17), (1, vi l1), (2, vi l2), (3, vi y1), (4, vi l4), (5, vi l5)] [] ((S, T), Y) Q := by
        refine go_blk rfl [(.iinc 5 1, 3, 5, 0, 0, .inl 1)] 78 81 _ _ _ (by decide +kernel) ?_
        show Go _ _ _ _ _ _ 81 [(5, vi (l5 + 1)), (0, rc 17), (1, vi l1), (2, vi l2), (3, vi y1), (4, vi l4)] [] ((S, T), Y) _
        refine go_goto (off := (-54)) (tgt := 27) (by decide +kernel) (by decide) ?_
        refine go_pick [1, 2, 3, 4, 5, 0] rfl ?_
        exact ih _ _ _ h k
      replace h := hy1
      refine ite_el h (fun q4 h => ?_) (fun q4 h => ?_)
      · refine go_icmp_ne (off := 27) (tgt := 78) (by decide +kernel) (by decide) (fun z => absurd q4 z) (fun _ => ?_)
        refine go_blk rfl [(.iload_n 3, 1, 3, 0, 0, .inl 0), (.iconst (-1), 1, 0, 0, 0, .inl (-1))] 54 56 _ _ _ (by decide +kernel) ?_
        show Go _ _ _ _ _ _ 56 [(6, vi ((l4 * 6) + l5)), (0, rc 17), (1, vi l1), (2, vi l2), (3, vi l3), (4, vi l4), (5, vi l5)] [vi ((-1)), vi l3] ((S, T), Y) _
        refine ite_el h (fun q5 h => ?_) (fun q5 h => ?_)
        · refine go_icmp_eq (off := 19) (tgt := 75) (by decide +kernel) (by decide) (fun _ => ?_) (fun z => absurd q5 z)
          refine go_blk rfl [(.iload 6, 2, 6, 0, 0, .inl 0), (.istore_n 3, 1, 3, 0, 0, .inl 0)] 75 78 _ _ _ (by decide +kernel) ?_
          show Go _ _ _ _ _ _ 78 [(3, vi ((l4 * 6) + l5)), (6, vi ((l4 * 6) + l5)), (0, rc 17), (1, vi l1), (2, vi l2), (4, vi l4), (5, vi l5)] [] ((S, T), Y) _
          obtain rfl := Option.some.inj h
          refine go_pick [2, 3, 4, 0, 5, 6] rfl ?_
          exact key
        · refine go_icmp_eq (off := 19) (tgt := 75) (by decide +kernel) (by decide) (fun z => absurd z q5) (fun _ => ?_)
          refine gd_el h (fun q6 h => ?_)
          refine gd_el h (fun q7 h => ?_)
          refine go_blk rfl [(.aload_n 0, 1, 0, 0, 0, .inl 0), (.getfield 11, 3, 3, 0, 1, .inl 0), (.iload 6, 2, 6, 0, 0, .inl 0), (.iaload, 1, 20, 0, 0, .inl 0), (.aload_n 0, 1, 0, 0, 0, .inl 0), (.getfield 11, 3, 3, 0, 1, .inl 0), (.iload_n 3, 1, 3, 0, 0, .inl 0), (.iaload, 1, 20, 0, 0, .inl 0)] 59 72 _ _ _ (by decide +kernel) ?_
          refine And.intro (lc_t17 hT) (Exists.intro _ (And.intro (gRc (lc_r3_0 hT)) ?_))
          refine And.intro (lc_t18 hT) (Exists.intro _ (And.intro (lc_n18 hT) (And.intro (inb_in q6) ?_)))
          refine And.intro (lc_t17 hT) (Exists.intro _ (And.intro (gRc (lc_r3_0 hT)) ?_))
          refine And.intro (lc_t18 hT) (Exists.intro _ (And.intro (lc_n18 hT) (And.intro (inb_in q7) ?_)))
          show Go _ _ _ _ _ _ 72 [(6, vi ((l4 * 6) + l5)), (0, rc 17), (1, vi l1), (2, vi l2), (3, vi l3), (4, vi l4), (5, vi l5)] [vi (S.1 18 l3.toNatClampNeg), vi (S.1 18 ((l4 * 6) + l5).toNatClampNeg)] ((S, T), Y) _
          refine ite_el h (fun q8 h => ?_) (fun q8 h => ?_)
          · refine go_icmp_ge (off := 6) (tgt := 78) (by decide +kernel) (by decide) (fun _ => ?_) (fun z => absurd q8 z)
            obtain rfl := Option.some.inj h
            refine go_pick [1, 2, 3, 4, 5, 6] rfl ?_
            exact key
          · refine go_icmp_ge (off := 6) (tgt := 78) (by decide +kernel) (by decide) (fun z => absurd z q8) (fun _ => ?_)
            refine go_blk rfl [(.iload 6, 2, 6, 0, 0, .inl 0), (.istore_n 3, 1, 3, 0, 0, .inl 0)] 75 78 _ _ _ (by decide +kernel) ?_
            show Go _ _ _ _ _ _ 78 [(3, vi ((l4 * 6) + l5)), (6, vi ((l4 * 6) + l5)), (0, rc 17), (1, vi l1), (2, vi l2), (4, vi l4), (5, vi l5)] [] ((S, T), Y) _
            obtain rfl := Option.some.inj h
            refine go_pick [2, 3, 4, 0, 5, 6] rfl ?_
            exact key
      · refine go_icmp_ne (off := 27) (tgt := 78) (by decide +kernel) (by decide) (fun _ => ?_) (fun z => absurd z q4)
        obtain rfl := Option.some.inj h
        refine go_pick [1, 2, 3, 4, 5, 6] rfl ?_
        exact key
theorem f3_nearestPair_L1_ok {T : jT} {Y : jS × jT} {S : jS} {l1 : Int32} {l2 : Int32} {Q : Option jV → jMem → Prop} (hT : LayC T) : ∀ (n : Nat) (l3 : Int32) (l4 : Int32) (r : Int32), f3_nearestPair_L1 S l1 l2 n l3 l4 = some r → Go M3_nearestPair 1 0 0 0 0 90 [(3, vi r)] [] ((S, T), Y) Q → Go M3_nearestPair 1 0 0 0 0 5 [(0, rc 17), (1, vi l1), (2, vi l2), (3, vi l3), (4, vi l4)] [] ((S, T), Y) Q := by
  intro n
  induction n with
  | zero => intro l3 l4 r h k; exact absurd h (by intro z; cases z)
  | succ n ih =>
    intro l3 l4 r h k
    rw [f3_nearestPair_L1] at h
    refine go_blk rfl [(.iload 4, 2, 4, 0, 0, .inl 0), (.bipush 7, 2, 0, 0, 0, .inl 7)] 5 9 _ _ _ (by decide +kernel) ?_
    show Go _ _ _ _ _ _ 9 [(0, rc 17), (1, vi l1), (2, vi l2), (3, vi l3), (4, vi l4)] [vi 7, vi l4] ((S, T), Y) _
    refine ite_el h (fun q1 h => ?_) (fun q1 h => ?_)
    · refine go_icmp_ge (off := 81) (tgt := 90) (by decide +kernel) (by decide) (fun _ => ?_) (fun z => absurd q1 z)
      obtain rfl := Option.some.inj h
      refine go_pick [3] rfl ?_
      exact k
    · refine go_icmp_ge (off := 81) (tgt := 90) (by decide +kernel) (by decide) (fun z => absurd z q1) (fun _ => ?_)
      refine go_blk rfl [(.iload_n 1, 1, 1, 0, 0, .inl 0), (.iload 4, 2, 4, 0, 0, .inl 0), (.ishr, 1, 0, 0, 0, .inl 0), (.iconst 1, 1, 0, 0, 0, .inl 1), (.iand, 1, 0, 0, 0, .inl 0)] 12 18 _ _ _ (by decide +kernel) ?_
      show Go _ _ _ _ _ _ 18 [(0, rc 17), (1, vi l1), (2, vi l2), (3, vi l3), (4, vi l4)] [vi ((l1 >>> (l4 &&& 31)) &&& 1)] ((S, T), Y) _
      obtain ⟨y3, hy3, h⟩ := bind_el h
      have key : Go M3_nearestPair 1 0 0 0 0 84 [(0, rc 17), (1, vi l1), (2, vi l2), (3, vi y3), (4, vi l4)] [] ((S, T), Y) Q := by
        refine go_blk rfl [(.iinc 4 1, 3, 4, 0, 0, .inl 1)] 84 87 _ _ _ (by decide +kernel) ?_
        show Go _ _ _ _ _ _ 87 [(4, vi (l4 + 1)), (0, rc 17), (1, vi l1), (2, vi l2), (3, vi y3)] [] ((S, T), Y) _
        refine go_goto (off := (-82)) (tgt := 5) (by decide +kernel) (by decide) ?_
        refine go_pick [1, 2, 3, 4, 0] rfl ?_
        exact ih _ _ _ h k
      replace h := hy3
      refine ite_el h (fun q2 h => ?_) (fun q2 h => ?_)
      · refine go_if_ne (off := 6) (tgt := 24) (by decide +kernel) (by decide) (fun z => absurd q2 z) (fun _ => ?_)
        refine go_goto (off := 63) (tgt := 84) (by decide +kernel) (by decide) ?_
        obtain rfl := Option.some.inj h
        refine go_pick [0, 1, 2, 3, 4] rfl ?_
        exact key
      · refine go_if_ne (off := 6) (tgt := 24) (by decide +kernel) (by decide) (fun _ => ?_) (fun z => absurd z q2)
        refine go_blk rfl [(.iconst 0, 1, 0, 0, 0, .inl 0), (.istore 5, 2, 5, 0, 0, .inl 0)] 24 27 _ _ _ (by decide +kernel) ?_
        show Go _ _ _ _ _ _ 27 [(5, vi 0), (0, rc 17), (1, vi l1), (2, vi l2), (3, vi l3), (4, vi l4)] [] ((S, T), Y) _
        refine go_pick [1, 2, 3, 4, 5, 0] rfl ?_
        obtain ⟨y2, hy2, h⟩ := bind_el h
        refine f3_nearestPair_L2_ok hT _ _ _ _ hy2 ?_
        show Go _ _ _ _ _ _ 84 [(0, rc 17), (1, vi l1), (2, vi l2), (3, vi y2), (4, vi l4)] [] ((S, T), Y) _
        obtain rfl := Option.some.inj h
        refine go_pick [0, 1, 2, 3, 4] rfl ?_
        exact key
theorem ret3_nearestPair {S : jS} {T : jT} {Y : jS × jT} {a0 : Int32} {a1 : Int32} {x : Int32} (hT : LayC T) (h : f3_nearestPair S a0 a1 = some x) : Ret M3_nearestPair 1 0 0 [rc 17, vi a0, vi a1] ((S, T), Y) (some (vi x)) ((S, T), Y) := by
  refine Ret.of (by decide +kernel) (Nat.le_of_ble_eq_true rfl) ?_
  unfold f3_nearestPair at h
  show Go _ _ _ _ _ _ 0 [(0, rc 17), (1, vi a0), (2, vi a1)] [] ((S, T), Y) _
  refine go_blk rfl [(.iconst (-1), 1, 0, 0, 0, .inl (-1)), (.istore_n 3, 1, 3, 0, 0, .inl 0), (.iconst 0, 1, 0, 0, 0, .inl 0), (.istore 4, 2, 4, 0, 0, .inl 0)] 0 5 _ _ _ (by decide +kernel) ?_
  show Go _ _ _ _ _ _ 5 [(4, vi 0), (3, vi ((-1))), (0, rc 17), (1, vi a0), (2, vi a1)] [] ((S, T), Y) _
  refine go_pick [2, 3, 4, 1, 0] rfl ?_
  obtain ⟨y4, hy4, h⟩ := bind_el h
  refine f3_nearestPair_L1_ok hT _ _ _ _ hy4 ?_
  show Go _ _ _ _ _ _ 90 [(3, vi y4)] [] ((S, T), Y) _
  refine go_blk rfl [(.iload_n 3, 1, 3, 0, 0, .inl 0)] 90 91 _ _ _ (by decide +kernel) ?_
  show Go _ _ _ _ _ _ 91 [(3, vi y4)] [vi y4] ((S, T), Y) _
  obtain rfl := Option.some.inj h
  exact go_ireturn (by decide +kernel) rfl rfl ⟨rfl, rfl⟩
def f3_seatAll_L1 (a0 : Nat) : Nat → jS → Int32 → Int32 → Int32 → Option (jS × Int32)
  | 0, _, _, _, _ => none
  | n + 1, S, l2, l3, l4 => (if 6 ≤ l4 then some (S, (S.1 a0 4) &&& (l2 ^^^ ((-1)))) else Option.bind (f3_nearestPair S l2 l3) (fun r1 => (if r1 = ((-1)) then some (S, (S.1 a0 4) &&& (l2 ^^^ ((-1)))) else (if inb (r1 / 6) 7 then f3_seatAll_L1 a0 n (wI (wI S 17 2 (irm r1 6)) 19 (r1 / 6).toNatClampNeg ((wI S 17 2 (irm r1 6)).1 17 2)) (l2 &&& (((1 : Int32) <<< ((r1 / 6) &&& 31)) ^^^ ((-1)))) (l3 &&& (((1 : Int32) <<< (((wI (wI S 17 2 (irm r1 6)) 19 (r1 / 6).toNatClampNeg ((wI S 17 2 (irm r1 6)).1 17 2)).1 17 2) &&& 31)) ^^^ ((-1)))) (l4 + 1) else none))))
def f3_seatAll (S : jS) (a0 : Nat) : Option (jS × Int32) := f3_seatAll_L1 a0 jF (wI S 17 2 ((-1))) (S.1 a0 4) (S.1 a0 3) 0
theorem f3_seatAll_L1_ok {T : jT} {Y : jS × jT} {a0 : Nat} {S1 : jS} {x : Int32} (hT : LayC T) (h0 : LayHall T a0) : ∀ (n : Nat) (S : jS) (l2 : Int32) (l3 : Int32) (l4 : Int32), f3_seatAll_L1 a0 n S l2 l3 l4 = some (S1, x) → Go M3_seatAll 2 0 0 0 0 18 [(0, rc 17), (1, rc a0), (2, vi l2), (3, vi l3), (4, vi l4)] [] ((S, T), Y) (eqQ (some (vi x)) ((S1, T), Y)) := by
  intro n
  induction n with
  | zero => intro S l2 l3 l4 h; exact absurd h (by intro z; cases z)
  | succ n ih =>
    intro S l2 l3 l4 h
    rw [f3_seatAll_L1] at h
    refine go_blk rfl [(.iload 4, 2, 4, 0, 0, .inl 0), (.bipush 6, 2, 0, 0, 0, .inl 6)] 18 22 _ _ _ (by decide +kernel) ?_
    show Go _ _ _ _ _ _ 22 [(0, rc 17), (1, rc a0), (2, vi l2), (3, vi l3), (4, vi l4)] [vi 6, vi l4] ((S, T), Y) _
    refine ite_el h (fun q1 h => ?_) (fun q1 h => ?_)
    · refine go_icmp_ge (off := 73) (tgt := 95) (by decide +kernel) (by decide) (fun _ => ?_) (fun z => absurd q1 z)
      refine go_blk rfl [(.aload_n 1, 1, 1, 0, 0, .inl 0), (.getfield 78, 3, 4, 4, 0, .inl 0), (.iload_n 2, 1, 2, 0, 0, .inl 0), (.iconst (-1), 1, 0, 0, 0, .inl (-1)), (.ixor, 1, 0, 0, 0, .inl 0), (.iand, 1, 0, 0, 0, .inl 0)] 95 103 _ _ _ (by decide +kernel) ?_
      refine And.intro h0.1 ?_
      show Go _ _ _ _ _ _ 103 [(0, rc 17), (1, rc a0), (2, vi l2), (3, vi l3), (4, vi l4)] [vi ((S.1 a0 4) &&& (l2 ^^^ ((-1))))] ((S, T), Y) _
      obtain ⟨rfl, rfl⟩ := Prod.mk.inj (Option.some.inj h)
      exact go_ireturn (by decide +kernel) rfl rfl ⟨rfl, rfl⟩
    · refine go_icmp_ge (off := 73) (tgt := 95) (by decide +kernel) (by decide) (fun z => absurd z q1) (fun _ => ?_)
      refine go_blk rfl [(.aload_n 0, 1, 0, 0, 0, .inl 0), (.iload_n 2, 1, 2, 0, 0, .inl 0), (.iload_n 3, 1, 3, 0, 0, .inl 0)] 25 28 _ _ _ (by decide +kernel) ?_
      show Go _ _ _ _ _ _ 28 [(0, rc 17), (1, rc a0), (2, vi l2), (3, vi l3), (4, vi l4)] [vi l3, vi l2, rc 17] ((S, T), Y) _
      obtain ⟨r1, hr1, h⟩ := bind_el h
      refine go_callV (idx := 90) (z := 0) (M' := M3_nearestPair) (n := 2) (A := [vi l2, vi l3]) (v' := some (vi r1)) (μ' := ((S, T), Y)) (d' := 1) (mc' := 0) (ms' := 0) (kc' := 0) (ks' := 0) (ci := 3) (x := .inl 17) (by decide +kernel) ml_3_90 rfl wv3_nearestPair rfl (by decide) rfl (lc_t17 hT) (ret3_nearestPair hT hr1) (by decide) rfl rfl (Nat.le_of_ble_eq_true rfl) rfl (jag rfl rfl) ?_
      show Go _ _ _ _ _ _ 31 [(0, rc 17), (1, rc a0), (2, vi l2), (3, vi l3), (4, vi l4)] [vi r1] ((S, T), Y) _
      refine go_blk rfl [(.istore 5, 2, 5, 0, 0, .inl 0), (.iload 5, 2, 5, 0, 0, .inl 0), (.iconst (-1), 1, 0, 0, 0, .inl (-1))] 31 36 _ _ _ (by decide +kernel) ?_
      show Go _ _ _ _ _ _ 36 [(5, vi r1), (0, rc 17), (1, rc a0), (2, vi l2), (3, vi l3), (4, vi l4)] [vi ((-1)), vi r1] ((S, T), Y) _
      refine ite_el h (fun q2 h => ?_) (fun q2 h => ?_)
      · refine go_icmp_ne (off := 6) (tgt := 42) (by decide +kernel) (by decide) (fun z => absurd q2 z) (fun _ => ?_)
        refine go_goto (off := 56) (tgt := 95) (by decide +kernel) (by decide) ?_
        refine go_blk rfl [(.aload_n 1, 1, 1, 0, 0, .inl 0), (.getfield 78, 3, 4, 4, 0, .inl 0), (.iload_n 2, 1, 2, 0, 0, .inl 0), (.iconst (-1), 1, 0, 0, 0, .inl (-1)), (.ixor, 1, 0, 0, 0, .inl 0), (.iand, 1, 0, 0, 0, .inl 0)] 95 103 _ _ _ (by decide +kernel) ?_
        refine And.intro h0.1 ?_
        show Go _ _ _ _ _ _ 103 [(5, vi r1), (0, rc 17), (1, rc a0), (2, vi l2), (3, vi l3), (4, vi l4)] [vi ((S.1 a0 4) &&& (l2 ^^^ ((-1))))] ((S, T), Y) _
        obtain ⟨rfl, rfl⟩ := Prod.mk.inj (Option.some.inj h)
        exact go_ireturn (by decide +kernel) rfl rfl ⟨rfl, rfl⟩
      · refine go_icmp_ne (off := 6) (tgt := 42) (by decide +kernel) (by decide) (fun _ => ?_) (fun z => absurd z q2)
        refine go_blk rfl [(.iload 5, 2, 5, 0, 0, .inl 0), (.bipush 6, 2, 0, 0, 0, .inl 6), (.idiv, 1, 0, 0, 0, .inl 0), (.istore 6, 2, 6, 0, 0, .inl 0), (.aload_n 0, 1, 0, 0, 0, .inl 0), (.iload 5, 2, 5, 0, 0, .inl 0), (.bipush 6, 2, 0, 0, 0, .inl 6), (.irem, 1, 0, 0, 0, .inl 0), (.putfield 18, 3, 3, 2, 0, .inl 0)] 42 58 _ _ _ (by decide +kernel) ?_
        refine And.intro (by decide) ?_
        refine And.intro (by decide) ?_
        refine And.intro (lc_t17 hT) (And.intro trivial ?_)
        show Go _ _ _ _ _ _ 58 [(6, vi (r1 / 6)), (5, vi r1), (0, rc 17), (1, rc a0), (2, vi l2), (3, vi l3), (4, vi l4)] [] ((wI S 17 2 (irm r1 6), T), Y) _
        refine gd_el h (fun q3 h => ?_)
        refine go_blk rfl [(.aload_n 0, 1, 0, 0, 0, .inl 0), (.getfield 15, 3, 3, 1, 1, .inl 0), (.iload 6, 2, 6, 0, 0, .inl 0), (.aload_n 0, 1, 0, 0, 0, .inl 0), (.getfield 18, 3, 3, 2, 0, .inl 0), (.iastore, 1, 20, 0, 0, .inl 0)] 58 69 _ _ _ (by decide +kernel) ?_
        refine And.intro (lc_t17 hT) (Exists.intro _ (And.intro (gRc (lc_r3_1 hT)) ?_))
        refine And.intro (lc_t17 hT) ?_
        refine And.intro (lc_t19 hT) (Exists.intro _ (And.intro (lc_n19 hT) (And.intro (inb_in q3) ?_)))
        show Go _ _ _ _ _ _ 69 [(6, vi (r1 / 6)), (5, vi r1), (0, rc 17), (1, rc a0), (2, vi l2), (3, vi l3), (4, vi l4)] [] ((wI (wI S 17 2 (irm r1 6)) 19 (r1 / 6).toNatClampNeg ((wI S 17 2 (irm r1 6)).1 17 2), T), Y) _
        refine go_blk rfl [(.iload_n 2, 1, 2, 0, 0, .inl 0), (.iconst 1, 1, 0, 0, 0, .inl 1), (.iload 6, 2, 6, 0, 0, .inl 0), (.ishl, 1, 0, 0, 0, .inl 0), (.iconst (-1), 1, 0, 0, 0, .inl (-1)), (.ixor, 1, 0, 0, 0, .inl 0), (.iand, 1, 0, 0, 0, .inl 0), (.istore_n 2, 1, 2, 0, 0, .inl 0), (.iload_n 3, 1, 3, 0, 0, .inl 0), (.iconst 1, 1, 0, 0, 0, .inl 1), (.aload_n 0, 1, 0, 0, 0, .inl 0), (.getfield 18, 3, 3, 2, 0, .inl 0), (.ishl, 1, 0, 0, 0, .inl 0), (.iconst (-1), 1, 0, 0, 0, .inl (-1)), (.ixor, 1, 0, 0, 0, .inl 0), (.iand, 1, 0, 0, 0, .inl 0), (.istore_n 3, 1, 3, 0, 0, .inl 0), (.iinc 4 1, 3, 4, 0, 0, .inl 1)] 69 92 _ _ _ (by decide +kernel) ?_
        refine And.intro (lc_t17 hT) ?_
        show Go _ _ _ _ _ _ 92 [(4, vi (l4 + 1)), (3, vi (l3 &&& (((1 : Int32) <<< (((wI (wI S 17 2 (irm r1 6)) 19 (r1 / 6).toNatClampNeg ((wI S 17 2 (irm r1 6)).1 17 2)).1 17 2) &&& 31)) ^^^ ((-1))))), (2, vi (l2 &&& (((1 : Int32) <<< ((r1 / 6) &&& 31)) ^^^ ((-1))))), (6, vi (r1 / 6)), (5, vi r1), (0, rc 17), (1, rc a0)] [] ((wI (wI S 17 2 (irm r1 6)) 19 (r1 / 6).toNatClampNeg ((wI S 17 2 (irm r1 6)).1 17 2), T), Y) _
        refine go_goto (off := (-74)) (tgt := 18) (by decide +kernel) (by decide) ?_
        refine go_pick [5, 6, 2, 1, 0] rfl ?_
        exact ih _ _ _ _ h
theorem ret3_seatAll {S : jS} {T : jT} {Y : jS × jT} {a0 : Nat} {S1 : jS} {x : Int32} (hT : LayC T) (h0 : LayHall T a0) (h : f3_seatAll S a0 = some (S1, x)) : Ret M3_seatAll 2 0 0 [rc 17, rc a0] ((S, T), Y) (some (vi x)) ((S1, T), Y) := by
  refine Ret.of (by decide +kernel) (Nat.le_of_ble_eq_true rfl) ?_
  unfold f3_seatAll at h
  show Go _ _ _ _ _ _ 0 [(0, rc 17), (1, rc a0)] [] ((S, T), Y) _
  refine go_blk rfl [(.aload_n 1, 1, 1, 0, 0, .inl 0), (.getfield 78, 3, 4, 4, 0, .inl 0), (.istore_n 2, 1, 2, 0, 0, .inl 0), (.aload_n 1, 1, 1, 0, 0, .inl 0), (.getfield 87, 3, 4, 3, 0, .inl 0), (.istore_n 3, 1, 3, 0, 0, .inl 0), (.aload_n 0, 1, 0, 0, 0, .inl 0), (.iconst (-1), 1, 0, 0, 0, .inl (-1)), (.putfield 18, 3, 3, 2, 0, .inl 0)] 0 15 _ _ _ (by decide +kernel) ?_
  refine And.intro h0.1 ?_
  refine And.intro h0.1 ?_
  refine And.intro (lc_t17 hT) (And.intro trivial ?_)
  show Go _ _ _ _ _ _ 15 [(3, vi (S.1 a0 3)), (2, vi (S.1 a0 4)), (0, rc 17), (1, rc a0)] [] ((wI S 17 2 ((-1)), T), Y) _
  refine go_blk rfl [(.iconst 0, 1, 0, 0, 0, .inl 0), (.istore 4, 2, 4, 0, 0, .inl 0)] 15 18 _ _ _ (by decide +kernel) ?_
  show Go _ _ _ _ _ _ 18 [(4, vi 0), (3, vi (S.1 a0 3)), (2, vi (S.1 a0 4)), (0, rc 17), (1, rc a0)] [] ((wI S 17 2 ((-1)), T), Y) _
  refine go_pick [3, 4, 2, 1, 0] rfl ?_
  exact f3_seatAll_L1_ok hT h0 _ _ _ _ _ h
def f3_sit (S : jS) (a0 : Nat) (a1 : Int32) (a2 : Int32) : Option (jS × Unit) := (if inb a1 7 then Option.bind (if 999 ≤ (S.1 (a0 + 6) a1.toNatClampNeg) then some S else some (wI S (a0 + 6) a1.toNatClampNeg ((S.1 (a0 + 6) a1.toNatClampNeg) + 1))) (fun (y1 : jS) => (if inb a2 6 then (if (y1.1 (a0 + 2) a1.toNatClampNeg) = (y1.1 (a0 + 1) a2.toNatClampNeg) then some (y1, ()) else (if 30 ≤ ((wI y1 (a0 + 2) a1.toNatClampNeg (y1.1 (a0 + 1) a2.toNatClampNeg)).1 (a0 + 5) a1.toNatClampNeg) then some (wI y1 (a0 + 2) a1.toNatClampNeg (y1.1 (a0 + 1) a2.toNatClampNeg), ()) else some (wI (wI y1 (a0 + 2) a1.toNatClampNeg (y1.1 (a0 + 1) a2.toNatClampNeg)) (a0 + 5) a1.toNatClampNeg (((wI y1 (a0 + 2) a1.toNatClampNeg (y1.1 (a0 + 1) a2.toNatClampNeg)).1 (a0 + 5) a1.toNatClampNeg) + 1), ()))) else none)) else none)
theorem ret3_sit {S : jS} {T : jT} {Y : jS × jT} {a0 : Nat} {a1 : Int32} {a2 : Int32} {S1 : jS} {x : Unit} (hT : LayC T) (h0 : LayHall T a0) (h : f3_sit S a0 a1 a2 = some (S1, x)) : Ret M3_sit 1 0 0 [rc a0, vi a1, vi a2] ((S, T), Y) (none) ((S1, T), Y) := by
  refine Ret.of (by decide +kernel) (Nat.le_of_ble_eq_true rfl) ?_
  unfold f3_sit at h
  show Go _ _ _ _ _ _ 0 [(0, rc a0), (1, vi a1), (2, vi a2)] [] ((S, T), Y) _
  refine gd_el h (fun q1 h => ?_)
  refine go_blk rfl [(.aload_n 0, 1, 0, 0, 0, .inl 0), (.getfield 107, 3, 4, 13, 1, .inl 0), (.iload_n 1, 1, 1, 0, 0, .inl 0), (.iaload, 1, 20, 0, 0, .inl 0), (.sipush 999, 3, 0, 0, 0, .inl 999)] 0 9 _ _ _ (by decide +kernel) ?_
  refine And.intro h0.1 (Exists.intro _ (And.intro (gRc h0.2.2.2.2.2.2.1) ?_))
  refine And.intro h0.2.2.2.2.2.2.2.1 (Exists.intro _ (And.intro h0.2.2.2.2.2.2.2.2 (And.intro (inb_in q1) ?_)))
  show Go _ _ _ _ _ _ 9 [(0, rc a0), (1, vi a1), (2, vi a2)] [vi 999, vi (S.1 (a0 + 6) a1.toNatClampNeg)] ((S, T), Y) _
  obtain ⟨y1, hy1, h⟩ := bind_el h
  have key : Go M3_sit 1 0 0 0 0 22 [(0, rc a0), (1, vi a1), (2, vi a2)] [] ((y1, T), Y) (eqQ none ((S1, T), Y)) := by
    refine gd_el h (fun q3 h => ?_)
    refine go_blk rfl [(.aload_n 0, 1, 0, 0, 0, .inl 0), (.getfield 81, 3, 4, 9, 1, .inl 0), (.iload_n 1, 1, 1, 0, 0, .inl 0), (.iaload, 1, 20, 0, 0, .inl 0), (.aload_n 0, 1, 0, 0, 0, .inl 0), (.getfield 110, 3, 4, 8, 1, .inl 0), (.iload_n 2, 1, 2, 0, 0, .inl 0), (.iaload, 1, 20, 0, 0, .inl 0)] 22 34 _ _ _ (by decide +kernel) ?_
    refine And.intro h0.1 (Exists.intro _ (And.intro (gRc h0.2.2.1.1) ?_))
    refine And.intro h0.2.2.1.2.1 (Exists.intro _ (And.intro h0.2.2.1.2.2 (And.intro (inb_in q1) ?_)))
    refine And.intro h0.1 (Exists.intro _ (And.intro (gRc h0.2.1.1) ?_))
    refine And.intro h0.2.1.2.1 (Exists.intro _ (And.intro h0.2.1.2.2 (And.intro (inb_in q3) ?_)))
    show Go _ _ _ _ _ _ 34 [(0, rc a0), (1, vi a1), (2, vi a2)] [vi (y1.1 (a0 + 1) a2.toNatClampNeg), vi (y1.1 (a0 + 2) a1.toNatClampNeg)] ((y1, T), Y) _
    refine ite_el h (fun q4 h => ?_) (fun q4 h => ?_)
    · refine go_icmp_ne (off := 4) (tgt := 38) (by decide +kernel) (by decide) (fun z => absurd q4 z) (fun _ => ?_)
      obtain ⟨rfl, rfl⟩ := Prod.mk.inj (Option.some.inj h)
      exact go_return (by decide +kernel) rfl ⟨rfl, rfl⟩
    · refine go_icmp_ne (off := 4) (tgt := 38) (by decide +kernel) (by decide) (fun _ => ?_) (fun z => absurd z q4)
      refine go_blk rfl [(.aload_n 0, 1, 0, 0, 0, .inl 0), (.getfield 81, 3, 4, 9, 1, .inl 0), (.iload_n 1, 1, 1, 0, 0, .inl 0), (.aload_n 0, 1, 0, 0, 0, .inl 0), (.getfield 110, 3, 4, 8, 1, .inl 0), (.iload_n 2, 1, 2, 0, 0, .inl 0), (.iaload, 1, 20, 0, 0, .inl 0), (.iastore, 1, 20, 0, 0, .inl 0)] 38 50 _ _ _ (by decide +kernel) ?_
      refine And.intro h0.1 (Exists.intro _ (And.intro (gRc h0.2.2.1.1) ?_))
      refine And.intro h0.1 (Exists.intro _ (And.intro (gRc h0.2.1.1) ?_))
      refine And.intro h0.2.1.2.1 (Exists.intro _ (And.intro h0.2.1.2.2 (And.intro (inb_in q3) ?_)))
      refine And.intro h0.2.2.1.2.1 (Exists.intro _ (And.intro h0.2.2.1.2.2 (And.intro (inb_in q1) ?_)))
      show Go _ _ _ _ _ _ 50 [(0, rc a0), (1, vi a1), (2, vi a2)] [] ((wI y1 (a0 + 2) a1.toNatClampNeg (y1.1 (a0 + 1) a2.toNatClampNeg), T), Y) _
      refine go_blk rfl [(.aload_n 0, 1, 0, 0, 0, .inl 0), (.getfield 113, 3, 4, 12, 1, .inl 0), (.iload_n 1, 1, 1, 0, 0, .inl 0), (.iaload, 1, 20, 0, 0, .inl 0), (.bipush 30, 2, 0, 0, 0, .inl 30)] 50 58 _ _ _ (by decide +kernel) ?_
      refine And.intro h0.1 (Exists.intro _ (And.intro (gRc h0.2.2.2.2.2.1.1) ?_))
      refine And.intro h0.2.2.2.2.2.1.2.1 (Exists.intro _ (And.intro h0.2.2.2.2.2.1.2.2 (And.intro (inb_in q1) ?_)))
      show Go _ _ _ _ _ _ 58 [(0, rc a0), (1, vi a1), (2, vi a2)] [vi 30, vi ((wI y1 (a0 + 2) a1.toNatClampNeg (y1.1 (a0 + 1) a2.toNatClampNeg)).1 (a0 + 5) a1.toNatClampNeg)] ((wI y1 (a0 + 2) a1.toNatClampNeg (y1.1 (a0 + 1) a2.toNatClampNeg), T), Y) _
      refine ite_el h (fun q5 h => ?_) (fun q5 h => ?_)
      · refine go_icmp_ge (off := 13) (tgt := 71) (by decide +kernel) (by decide) (fun _ => ?_) (fun z => absurd q5 z)
        obtain ⟨rfl, rfl⟩ := Prod.mk.inj (Option.some.inj h)
        exact go_return (by decide +kernel) rfl ⟨rfl, rfl⟩
      · refine go_icmp_ge (off := 13) (tgt := 71) (by decide +kernel) (by decide) (fun z => absurd z q5) (fun _ => ?_)
        refine go_blk rfl [(.aload_n 0, 1, 0, 0, 0, .inl 0), (.getfield 113, 3, 4, 12, 1, .inl 0), (.iload_n 1, 1, 1, 0, 0, .inl 0), (.dup2, 1, 0, 0, 0, .inl 0), (.iaload, 1, 20, 0, 0, .inl 0), (.iconst 1, 1, 0, 0, 0, .inl 1), (.iadd, 1, 0, 0, 0, .inl 0), (.iastore, 1, 20, 0, 0, .inl 0)] 61 71 _ _ _ (by decide +kernel) ?_
        refine And.intro h0.1 (Exists.intro _ (And.intro (gRc h0.2.2.2.2.2.1.1) ?_))
        refine And.intro h0.2.2.2.2.2.1.2.1 (Exists.intro _ (And.intro h0.2.2.2.2.2.1.2.2 (And.intro (inb_in q1) ?_)))
        refine And.intro h0.2.2.2.2.2.1.2.1 (Exists.intro _ (And.intro h0.2.2.2.2.2.1.2.2 (And.intro (inb_in q1) ?_)))
        show Go _ _ _ _ _ _ 71 [(0, rc a0), (1, vi a1), (2, vi a2)] [] ((wI (wI y1 (a0 + 2) a1.toNatClampNeg (y1.1 (a0 + 1) a2.toNatClampNeg)) (a0 + 5) a1.toNatClampNeg (((wI y1 (a0 + 2) a1.toNatClampNeg (y1.1 (a0 + 1) a2.toNatClampNeg)).1 (a0 + 5) a1.toNatClampNeg) + 1), T), Y) _
        obtain ⟨rfl, rfl⟩ := Prod.mk.inj (Option.some.inj h)
        exact go_return (by decide +kernel) rfl ⟨rfl, rfl⟩
  replace h := hy1
  refine ite_el h (fun q2 h => ?_) (fun q2 h => ?_)
  · refine go_icmp_ge (off := 13) (tgt := 22) (by decide +kernel) (by decide) (fun _ => ?_) (fun z => absurd q2 z)
    obtain rfl := Option.some.inj h
    refine go_pick [0, 1, 2] rfl ?_
    exact key
  · refine go_icmp_ge (off := 13) (tgt := 22) (by decide +kernel) (by decide) (fun z => absurd z q2) (fun _ => ?_)
    refine go_blk rfl [(.aload_n 0, 1, 0, 0, 0, .inl 0), (.getfield 107, 3, 4, 13, 1, .inl 0), (.iload_n 1, 1, 1, 0, 0, .inl 0), (.dup2, 1, 0, 0, 0, .inl 0), (.iaload, 1, 20, 0, 0, .inl 0), (.iconst 1, 1, 0, 0, 0, .inl 1), (.iadd, 1, 0, 0, 0, .inl 0), (.iastore, 1, 20, 0, 0, .inl 0)] 12 22 _ _ _ (by decide +kernel) ?_
    refine And.intro h0.1 (Exists.intro _ (And.intro (gRc h0.2.2.2.2.2.2.1) ?_))
    refine And.intro h0.2.2.2.2.2.2.2.1 (Exists.intro _ (And.intro h0.2.2.2.2.2.2.2.2 (And.intro (inb_in q1) ?_)))
    refine And.intro h0.2.2.2.2.2.2.2.1 (Exists.intro _ (And.intro h0.2.2.2.2.2.2.2.2 (And.intro (inb_in q1) ?_)))
    show Go _ _ _ _ _ _ 22 [(0, rc a0), (1, vi a1), (2, vi a2)] [] ((wI S (a0 + 6) a1.toNatClampNeg ((S.1 (a0 + 6) a1.toNatClampNeg) + 1), T), Y) _
    obtain rfl := Option.some.inj h
    refine go_pick [0, 1, 2] rfl ?_
    exact key
def f3_settle_L1 (a0 : Nat) (l2 : Int32) : Nat → jS → Int32 → Option jS
  | 0, _, _ => none
  | n + 1, S, l3 => (if (S.1 a0 2) ≤ l3 then some S else Option.bind (if ((l2 >>> (l3 &&& 31)) &&& 1) = 1 then (if inb l3 7 then Option.bind (f3_sit S a0 l3 (S.1 19 l3.toNatClampNeg)) (fun r1 => some r1.1) else none) else (if (((S.1 a0 4) >>> (l3 &&& 31)) &&& 1) = 1 then some (wI (wI S a0 4 ((S.1 a0 4) &&& (((1 : Int32) <<< (l3 &&& 31)) ^^^ ((-1))))) a0 6 l3) else some S)) (fun (y2 : jS) => f3_settle_L1 a0 l2 n y2 (l3 + 1)))
def f3_settle (S : jS) (a0 : Nat) (a1 : Int32) : Option (jS × Unit) := Option.bind (f3_settle_L1 a0 a1 jF S 0) (fun y3 => (if (y3.1 17 2) = ((-1)) then some (y3, ()) else some (wI y3 a0 3 ((y3.1 a0 3) &&& (((1 : Int32) <<< ((y3.1 17 2) &&& 31)) ^^^ ((-1)))), ())))
theorem f3_settle_L1_ok {T : jT} {Y : jS × jT} {a0 : Nat} {l2 : Int32} {Q : Option jV → jMem → Prop} (hT : LayC T) (h0 : LayHall T a0) : ∀ (n : Nat) (S : jS) (l3 : Int32) (r : jS), f3_settle_L1 a0 l2 n S l3 = some r → Go M3_settle 2 0 0 0 0 70 [(0, rc 17), (1, rc a0)] [] ((r, T), Y) Q → Go M3_settle 2 0 0 0 0 2 [(0, rc 17), (1, rc a0), (2, vi l2), (3, vi l3)] [] ((S, T), Y) Q := by
  intro n
  induction n with
  | zero => intro S l3 r h k; exact absurd h (by intro z; cases z)
  | succ n ih =>
    intro S l3 r h k
    rw [f3_settle_L1] at h
    refine go_blk rfl [(.iload_n 3, 1, 3, 0, 0, .inl 0), (.aload_n 1, 1, 1, 0, 0, .inl 0), (.getfield 72, 3, 4, 2, 0, .inl 0)] 2 7 _ _ _ (by decide +kernel) ?_
    refine And.intro h0.1 ?_
    show Go _ _ _ _ _ _ 7 [(0, rc 17), (1, rc a0), (2, vi l2), (3, vi l3)] [vi (S.1 a0 2), vi l3] ((S, T), Y) _
    refine ite_el h (fun q1 h => ?_) (fun q1 h => ?_)
    · refine go_icmp_ge (off := 63) (tgt := 70) (by decide +kernel) (by decide) (fun _ => ?_) (fun z => absurd q1 z)
      obtain rfl := Option.some.inj h
      refine go_pick [0, 1] rfl ?_
      exact k
    · refine go_icmp_ge (off := 63) (tgt := 70) (by decide +kernel) (by decide) (fun z => absurd z q1) (fun _ => ?_)
      refine go_blk rfl [(.iload_n 2, 1, 2, 0, 0, .inl 0), (.iload_n 3, 1, 3, 0, 0, .inl 0), (.ishr, 1, 0, 0, 0, .inl 0), (.iconst 1, 1, 0, 0, 0, .inl 1), (.iand, 1, 0, 0, 0, .inl 0), (.iconst 1, 1, 0, 0, 0, .inl 1)] 10 16 _ _ _ (by decide +kernel) ?_
      show Go _ _ _ _ _ _ 16 [(0, rc 17), (1, rc a0), (2, vi l2), (3, vi l3)] [vi 1, vi ((l2 >>> (l3 &&& 31)) &&& 1)] ((S, T), Y) _
      obtain ⟨y2, hy2, h⟩ := bind_el h
      have key : Go M3_settle 2 0 0 0 0 64 [(0, rc 17), (1, rc a0), (2, vi l2), (3, vi l3)] [] ((y2, T), Y) Q := by
        refine go_blk rfl [(.iinc 3 1, 3, 3, 0, 0, .inl 1)] 64 67 _ _ _ (by decide +kernel) ?_
        show Go _ _ _ _ _ _ 67 [(3, vi (l3 + 1)), (0, rc 17), (1, rc a0), (2, vi l2)] [] ((y2, T), Y) _
        refine go_goto (off := (-65)) (tgt := 2) (by decide +kernel) (by decide) ?_
        refine go_pick [1, 2, 3, 0] rfl ?_
        exact ih _ _ _ h k
      replace h := hy2
      refine ite_el h (fun q2 h => ?_) (fun q2 h => ?_)
      · refine go_icmp_ne (off := 17) (tgt := 33) (by decide +kernel) (by decide) (fun z => absurd q2 z) (fun _ => ?_)
        refine gd_el h (fun q3 h => ?_)
        refine go_blk rfl [(.aload_n 1, 1, 1, 0, 0, .inl 0), (.iload_n 3, 1, 3, 0, 0, .inl 0), (.aload_n 0, 1, 0, 0, 0, .inl 0), (.getfield 15, 3, 3, 1, 1, .inl 0), (.iload_n 3, 1, 3, 0, 0, .inl 0), (.iaload, 1, 20, 0, 0, .inl 0)] 19 27 _ _ _ (by decide +kernel) ?_
        refine And.intro (lc_t17 hT) (Exists.intro _ (And.intro (gRc (lc_r3_1 hT)) ?_))
        refine And.intro (lc_t19 hT) (Exists.intro _ (And.intro (lc_n19 hT) (And.intro (inb_in q3) ?_)))
        show Go _ _ _ _ _ _ 27 [(0, rc 17), (1, rc a0), (2, vi l2), (3, vi l3)] [vi (S.1 19 l3.toNatClampNeg), vi l3, rc a0] ((S, T), Y) _
        obtain ⟨r1, hr1, h⟩ := bind_el h
        refine go_callS (idx := 100) (z := 0) (M' := M3_sit) (n := 3) (A := [rc a0, vi l3, vi (S.1 19 l3.toNatClampNeg)]) (v' := none) (μ' := ((r1.1, T), Y)) (d' := 1) (mc' := 0) (ms' := 0) (kc' := 0) (ks' := 0) (by decide +kernel) ml_3_100 rfl ws3_sit rfl (ret3_sit hT h0 hr1) (by decide) rfl rfl (Nat.le_of_ble_eq_true rfl) rfl (jag rfl rfl) ?_
        show Go _ _ _ _ _ _ 30 [(0, rc 17), (1, rc a0), (2, vi l2), (3, vi l3)] [] ((r1.1, T), Y) _
        refine go_goto (off := 34) (tgt := 64) (by decide +kernel) (by decide) ?_
        obtain rfl := Option.some.inj h
        refine go_pick [0, 1, 2, 3] rfl ?_
        exact key
      · refine go_icmp_ne (off := 17) (tgt := 33) (by decide +kernel) (by decide) (fun _ => ?_) (fun z => absurd z q2)
        refine go_blk rfl [(.aload_n 1, 1, 1, 0, 0, .inl 0), (.getfield 78, 3, 4, 4, 0, .inl 0), (.iload_n 3, 1, 3, 0, 0, .inl 0), (.ishr, 1, 0, 0, 0, .inl 0), (.iconst 1, 1, 0, 0, 0, .inl 1), (.iand, 1, 0, 0, 0, .inl 0), (.iconst 1, 1, 0, 0, 0, .inl 1)] 33 42 _ _ _ (by decide +kernel) ?_
        refine And.intro h0.1 ?_
        show Go _ _ _ _ _ _ 42 [(0, rc 17), (1, rc a0), (2, vi l2), (3, vi l3)] [vi 1, vi (((S.1 a0 4) >>> (l3 &&& 31)) &&& 1)] ((S, T), Y) _
        refine ite_el h (fun q4 h => ?_) (fun q4 h => ?_)
        · refine go_icmp_ne (off := 22) (tgt := 64) (by decide +kernel) (by decide) (fun z => absurd q4 z) (fun _ => ?_)
          refine go_blk rfl [(.aload_n 1, 1, 1, 0, 0, .inl 0), (.dup, 1, 0, 0, 0, .inl 0), (.getfield 78, 3, 4, 4, 0, .inl 0), (.iconst 1, 1, 0, 0, 0, .inl 1), (.iload_n 3, 1, 3, 0, 0, .inl 0), (.ishl, 1, 0, 0, 0, .inl 0), (.iconst (-1), 1, 0, 0, 0, .inl (-1)), (.ixor, 1, 0, 0, 0, .inl 0), (.iand, 1, 0, 0, 0, .inl 0), (.putfield 78, 3, 4, 4, 0, .inl 0)] 45 59 _ _ _ (by decide +kernel) ?_
          refine And.intro h0.1 ?_
          refine And.intro h0.1 (And.intro trivial ?_)
          show Go _ _ _ _ _ _ 59 [(0, rc 17), (1, rc a0), (2, vi l2), (3, vi l3)] [] ((wI S a0 4 ((S.1 a0 4) &&& (((1 : Int32) <<< (l3 &&& 31)) ^^^ ((-1)))), T), Y) _
          refine go_blk rfl [(.aload_n 1, 1, 1, 0, 0, .inl 0), (.iload_n 3, 1, 3, 0, 0, .inl 0), (.putfield 104, 3, 4, 6, 0, .inl 0)] 59 64 _ _ _ (by decide +kernel) ?_
          refine And.intro h0.1 (And.intro trivial ?_)
          show Go _ _ _ _ _ _ 64 [(0, rc 17), (1, rc a0), (2, vi l2), (3, vi l3)] [] ((wI (wI S a0 4 ((S.1 a0 4) &&& (((1 : Int32) <<< (l3 &&& 31)) ^^^ ((-1))))) a0 6 l3, T), Y) _
          obtain rfl := Option.some.inj h
          refine go_pick [0, 1, 2, 3] rfl ?_
          exact key
        · refine go_icmp_ne (off := 22) (tgt := 64) (by decide +kernel) (by decide) (fun _ => ?_) (fun z => absurd z q4)
          obtain rfl := Option.some.inj h
          refine go_pick [0, 1, 2, 3] rfl ?_
          exact key
theorem ret3_settle {S : jS} {T : jT} {Y : jS × jT} {a0 : Nat} {a1 : Int32} {S1 : jS} {x : Unit} (hT : LayC T) (h0 : LayHall T a0) (h : f3_settle S a0 a1 = some (S1, x)) : Ret M3_settle 2 0 0 [rc 17, rc a0, vi a1] ((S, T), Y) (none) ((S1, T), Y) := by
  refine Ret.of (by decide +kernel) (Nat.le_of_ble_eq_true rfl) ?_
  unfold f3_settle at h
  show Go _ _ _ _ _ _ 0 [(0, rc 17), (1, rc a0), (2, vi a1)] [] ((S, T), Y) _
  refine go_blk rfl [(.iconst 0, 1, 0, 0, 0, .inl 0), (.istore_n 3, 1, 3, 0, 0, .inl 0)] 0 2 _ _ _ (by decide +kernel) ?_
  show Go _ _ _ _ _ _ 2 [(3, vi 0), (0, rc 17), (1, rc a0), (2, vi a1)] [] ((S, T), Y) _
  refine go_pick [1, 2, 3, 0] rfl ?_
  obtain ⟨y3, hy3, h⟩ := bind_el h
  refine f3_settle_L1_ok hT h0 _ _ _ _ hy3 ?_
  show Go _ _ _ _ _ _ 70 [(0, rc 17), (1, rc a0)] [] ((y3, T), Y) _
  refine go_blk rfl [(.aload_n 0, 1, 0, 0, 0, .inl 0), (.getfield 18, 3, 3, 2, 0, .inl 0), (.iconst (-1), 1, 0, 0, 0, .inl (-1))] 70 75 _ _ _ (by decide +kernel) ?_
  refine And.intro (lc_t17 hT) ?_
  show Go _ _ _ _ _ _ 75 [(0, rc 17), (1, rc a0)] [vi ((-1)), vi (y3.1 17 2)] ((y3, T), Y) _
  refine ite_el h (fun q5 h => ?_) (fun q5 h => ?_)
  · refine go_icmp_eq (off := 20) (tgt := 95) (by decide +kernel) (by decide) (fun _ => ?_) (fun z => absurd q5 z)
    obtain ⟨rfl, rfl⟩ := Prod.mk.inj (Option.some.inj h)
    exact go_return (by decide +kernel) rfl ⟨rfl, rfl⟩
  · refine go_icmp_eq (off := 20) (tgt := 95) (by decide +kernel) (by decide) (fun z => absurd z q5) (fun _ => ?_)
    refine go_blk rfl [(.aload_n 1, 1, 1, 0, 0, .inl 0), (.dup, 1, 0, 0, 0, .inl 0), (.getfield 87, 3, 4, 3, 0, .inl 0), (.iconst 1, 1, 0, 0, 0, .inl 1), (.aload_n 0, 1, 0, 0, 0, .inl 0), (.getfield 18, 3, 3, 2, 0, .inl 0), (.ishl, 1, 0, 0, 0, .inl 0), (.iconst (-1), 1, 0, 0, 0, .inl (-1)), (.ixor, 1, 0, 0, 0, .inl 0), (.iand, 1, 0, 0, 0, .inl 0), (.putfield 87, 3, 4, 3, 0, .inl 0)] 78 95 _ _ _ (by decide +kernel) ?_
    refine And.intro h0.1 ?_
    refine And.intro (lc_t17 hT) ?_
    refine And.intro h0.1 (And.intro trivial ?_)
    show Go _ _ _ _ _ _ 95 [(0, rc 17), (1, rc a0)] [] ((wI y3 a0 3 ((y3.1 a0 3) &&& (((1 : Int32) <<< ((y3.1 17 2) &&& 31)) ^^^ ((-1)))), T), Y) _
    obtain ⟨rfl, rfl⟩ := Prod.mk.inj (Option.some.inj h)
    exact go_return (by decide +kernel) rfl ⟨rfl, rfl⟩
def f3_roundOf (S : jS) (a0 : Nat) (a1 : Int32) : Option (jS × Int32) := Option.bind (f3_walk S a0 a1) (fun r1 => Option.bind (f3_measure r1.1 a0) (fun r2 => Option.bind (f3_seatAll r2.1 a0) (fun r3 => Option.bind (f3_settle r3.1 a0 r3.2) (fun r4 => some (wI (wI r4.1 a0 7 a1) a0 5 (((wI r4.1 a0 7 a1).1 a0 5) + 1), r3.2)))))
theorem ret3_roundOf {S : jS} {T : jT} {Y : jS × jT} {a0 : Nat} {a1 : Int32} {S1 : jS} {x : Int32} (hT : LayC T) (h0 : LayHall T a0) (h : f3_roundOf S a0 a1 = some (S1, x)) : Ret M3_roundOf 4 0 0 [rc 17, rc a0, vi a1] ((S, T), Y) (some (vi x)) ((S1, T), Y) := by
  refine Ret.of (by decide +kernel) (Nat.le_of_ble_eq_true rfl) ?_
  unfold f3_roundOf at h
  show Go _ _ _ _ _ _ 0 [(0, rc 17), (1, rc a0), (2, vi a1)] [] ((S, T), Y) _
  refine go_blk rfl [(.aload_n 0, 1, 0, 0, 0, .inl 0), (.aload_n 1, 1, 1, 0, 0, .inl 0), (.iload_n 2, 1, 2, 0, 0, .inl 0)] 0 3 _ _ _ (by decide +kernel) ?_
  show Go _ _ _ _ _ _ 3 [(0, rc 17), (1, rc a0), (2, vi a1)] [vi a1, rc a0, rc 17] ((S, T), Y) _
  obtain ⟨r1, hr1, h⟩ := bind_el h
  refine go_callV (idx := 57) (z := 0) (M' := M3_walk) (n := 2) (A := [rc a0, vi a1]) (v' := none) (μ' := ((r1.1, T), Y)) (d' := 1) (mc' := 0) (ms' := 0) (kc' := 0) (ks' := 0) (ci := 3) (x := .inl 17) (by decide +kernel) ml_3_57 rfl wv3_walk rfl (by decide) rfl (lc_t17 hT) (ret3_walk hT h0 hr1) (by decide) rfl rfl (Nat.le_of_ble_eq_true rfl) rfl (jag rfl rfl) ?_
  show Go _ _ _ _ _ _ 6 [(0, rc 17), (1, rc a0), (2, vi a1)] [] ((r1.1, T), Y) _
  refine go_blk rfl [(.aload_n 0, 1, 0, 0, 0, .inl 0), (.aload_n 1, 1, 1, 0, 0, .inl 0)] 6 8 _ _ _ (by decide +kernel) ?_
  show Go _ _ _ _ _ _ 8 [(0, rc 17), (1, rc a0), (2, vi a1)] [rc a0, rc 17] ((r1.1, T), Y) _
  obtain ⟨r2, hr2, h⟩ := bind_el h
  refine go_callV (idx := 61) (z := 0) (M' := M3_measure) (n := 1) (A := [rc a0]) (v' := none) (μ' := ((r2.1, T), Y)) (d' := 3) (mc' := 0) (ms' := 0) (kc' := 0) (ks' := 0) (ci := 3) (x := .inl 17) (by decide +kernel) ml_3_61 rfl wv3_measure rfl (by decide) rfl (lc_t17 hT) (ret3_measure hT h0 hr2) (by decide) rfl rfl (Nat.le_of_ble_eq_true rfl) rfl (jag rfl rfl) ?_
  show Go _ _ _ _ _ _ 11 [(0, rc 17), (1, rc a0), (2, vi a1)] [] ((r2.1, T), Y) _
  refine go_blk rfl [(.aload_n 0, 1, 0, 0, 0, .inl 0), (.aload_n 1, 1, 1, 0, 0, .inl 0)] 11 13 _ _ _ (by decide +kernel) ?_
  show Go _ _ _ _ _ _ 13 [(0, rc 17), (1, rc a0), (2, vi a1)] [rc a0, rc 17] ((r2.1, T), Y) _
  obtain ⟨r3, hr3, h⟩ := bind_el h
  refine go_callV (idx := 65) (z := 0) (M' := M3_seatAll) (n := 1) (A := [rc a0]) (v' := some (vi r3.2)) (μ' := ((r3.1, T), Y)) (d' := 2) (mc' := 0) (ms' := 0) (kc' := 0) (ks' := 0) (ci := 3) (x := .inl 17) (by decide +kernel) ml_3_65 rfl wv3_seatAll rfl (by decide) rfl (lc_t17 hT) (ret3_seatAll hT h0 hr3) (by decide) rfl rfl (Nat.le_of_ble_eq_true rfl) rfl (jag rfl rfl) ?_
  show Go _ _ _ _ _ _ 16 [(0, rc 17), (1, rc a0), (2, vi a1)] [vi r3.2] ((r3.1, T), Y) _
  refine go_blk rfl [(.istore_n 3, 1, 3, 0, 0, .inl 0), (.aload_n 0, 1, 0, 0, 0, .inl 0), (.aload_n 1, 1, 1, 0, 0, .inl 0), (.iload_n 3, 1, 3, 0, 0, .inl 0)] 16 20 _ _ _ (by decide +kernel) ?_
  show Go _ _ _ _ _ _ 20 [(3, vi r3.2), (0, rc 17), (1, rc a0), (2, vi a1)] [vi r3.2, rc a0, rc 17] ((r3.1, T), Y) _
  obtain ⟨r4, hr4, h⟩ := bind_el h
  refine go_callV (idx := 69) (z := 0) (M' := M3_settle) (n := 2) (A := [rc a0, vi r3.2]) (v' := none) (μ' := ((r4.1, T), Y)) (d' := 2) (mc' := 0) (ms' := 0) (kc' := 0) (ks' := 0) (ci := 3) (x := .inl 17) (by decide +kernel) ml_3_69 rfl wv3_settle rfl (by decide) rfl (lc_t17 hT) (ret3_settle hT h0 hr4) (by decide) rfl rfl (Nat.le_of_ble_eq_true rfl) rfl (jag rfl rfl) ?_
  show Go _ _ _ _ _ _ 23 [(3, vi r3.2), (0, rc 17), (1, rc a0), (2, vi a1)] [] ((r4.1, T), Y) _
  refine go_blk rfl [(.aload_n 1, 1, 1, 0, 0, .inl 0), (.iload_n 2, 1, 2, 0, 0, .inl 0), (.putfield 28, 3, 4, 7, 0, .inl 0)] 23 28 _ _ _ (by decide +kernel) ?_
  refine And.intro h0.1 (And.intro trivial ?_)
  show Go _ _ _ _ _ _ 28 [(3, vi r3.2), (0, rc 17), (1, rc a0), (2, vi a1)] [] ((wI r4.1 a0 7 a1, T), Y) _
  refine go_blk rfl [(.aload_n 1, 1, 1, 0, 0, .inl 0), (.dup, 1, 0, 0, 0, .inl 0), (.getfield 31, 3, 4, 5, 0, .inl 0), (.iconst 1, 1, 0, 0, 0, .inl 1), (.iadd, 1, 0, 0, 0, .inl 0), (.putfield 31, 3, 4, 5, 0, .inl 0)] 28 38 _ _ _ (by decide +kernel) ?_
  refine And.intro h0.1 ?_
  refine And.intro h0.1 (And.intro trivial ?_)
  show Go _ _ _ _ _ _ 38 [(3, vi r3.2), (0, rc 17), (1, rc a0), (2, vi a1)] [] ((wI (wI r4.1 a0 7 a1) a0 5 (((wI r4.1 a0 7 a1).1 a0 5) + 1), T), Y) _
  refine go_blk rfl [(.iload_n 3, 1, 3, 0, 0, .inl 0)] 38 39 _ _ _ (by decide +kernel) ?_
  show Go _ _ _ _ _ _ 39 [(3, vi r3.2), (0, rc 17), (1, rc a0), (2, vi a1)] [vi r3.2] ((wI (wI r4.1 a0 7 a1) a0 5 (((wI r4.1 a0 7 a1).1 a0 5) + 1), T), Y) _
  obtain ⟨rfl, rfl⟩ := Prod.mk.inj (Option.some.inj h)
  exact go_ireturn (by decide +kernel) rfl rfl ⟨rfl, rfl⟩
def f3_roundBy (T : jT) (S : jS) (a0 : Nat) (a1 : Option Nat) : Option (jS × Int32) := Option.bind (f4_isOver S a0) (fun r1 => (if r1 = 0 then Option.bind (jopt a1 (some (8, S)) (fun b2 => Option.bind (f6_sumFor T S b2 a0) (fun r2 => some (r2.2, r2.1)))) (fun (y3 : Int64 × jS) => Option.bind (f3_roundOf y3.2 a0 ((mmaxL 1 (mminL 60 y3.1)).toInt32)) (fun r4 => some (r4.1, r4.2))) else some (wI (wI S a0 7 0) a0 5 (((wI S a0 7 0).1 a0 5) + 1), 0)))
theorem ret3_roundBy {S : jS} {T : jT} {Y : jS × jT} {a0 : Nat} {a1 : Option Nat} {S1 : jS} {x : Int32} (hT : LayC T) (h0 : LayHall T a0) (h1 : ∀ q, a1 = some q → LayRule T q) (h : f3_roundBy T S a0 a1 = some (S1, x)) : Ret M3_roundBy 5 0 0 [rc 17, rc a0, vo a1] ((S, T), Y) (some (vi x)) ((S1, T), Y) := by
  refine Ret.of (by decide +kernel) (Nat.le_of_ble_eq_true rfl) ?_
  unfold f3_roundBy at h
  show Go _ _ _ _ _ _ 0 [(0, rc 17), (1, rc a0), (2, vo a1)] [] ((S, T), Y) _
  refine go_blk rfl [(.aload_n 1, 1, 1, 0, 0, .inl 0)] 0 1 _ _ _ (by decide +kernel) ?_
  show Go _ _ _ _ _ _ 1 [(0, rc 17), (1, rc a0), (2, vo a1)] [rc a0] ((S, T), Y) _
  obtain ⟨r1, hr1, h⟩ := bind_el h
  refine go_callV (idx := 22) (z := 1) (M' := M4_isOver) (n := 0) (A := []) (v' := some (vi r1)) (μ' := ((S, T), Y)) (d' := 2) (mc' := 0) (ms' := 0) (kc' := 0) (ks' := 0) (ci := 4) (x := .inl a0) (by decide +kernel) ml_3_22 rfl wv4_isOver rfl (by decide) rfl h0.1 (ret4_isOver h0 hr1) (by decide) rfl rfl (Nat.le_of_ble_eq_true rfl) rfl (jag rfl rfl) ?_
  show Go _ _ _ _ _ _ 4 [(0, rc 17), (1, rc a0), (2, vo a1)] [vi r1] ((S, T), Y) _
  refine ite_el h (fun q1 h => ?_) (fun q1 h => ?_)
  · refine go_if_eq (off := 20) (tgt := 24) (by decide +kernel) (by decide) (fun _ => ?_) (fun z => absurd q1 z)
    refine go_blk rfl [(.aload_n 2, 1, 2, 0, 0, .inl 0)] 24 25 _ _ _ (by decide +kernel) ?_
    show Go _ _ _ _ _ _ 25 [(0, rc 17), (1, rc a0), (2, vo a1)] [vo a1] ((S, T), Y) _
    obtain ⟨y3, hy3, h⟩ := bind_el h
    have key : Go M3_roundBy 5 0 0 0 0 39 [(0, rc 17), (1, rc a0)] [vl y3.1] ((y3.2, T), Y) (eqQ (some (vi x)) ((S1, T), Y)) := by
      refine go_blk rfl [(.lstore_n 3, 1, 3, 0, 0, .inl 0), (.aload_n 0, 1, 0, 0, 0, .inl 0), (.aload_n 1, 1, 1, 0, 0, .inl 0), (.lconst 1, 1, 0, 0, 0, .inr (.inl 1)), (.ldc2_w 42, 3, 0, 0, 0, .inr (.inl 60)), (.lload_n 3, 1, 3, 0, 0, .inl 0)] 39 47 _ _ _ (by decide +kernel) ?_
      show Go _ _ _ _ _ _ 47 [(3, vl y3.1), (0, rc 17), (1, rc a0)] [vl y3.1, vl 60, vl 1, rc a0, rc 17] ((y3.2, T), Y) _
      refine go_mminL (idx := 44) (by decide +kernel) ml_3_44 rfl (by decide) (Nat.le_of_ble_eq_true rfl) ?_
      show Go _ _ _ _ _ _ 50 [(3, vl y3.1), (0, rc 17), (1, rc a0)] [vl (mminL 60 y3.1), vl 1, rc a0, rc 17] ((y3.2, T), Y) _
      refine go_mmaxL (idx := 50) (by decide +kernel) ml_3_50 rfl (by decide) (Nat.le_of_ble_eq_true rfl) ?_
      show Go _ _ _ _ _ _ 53 [(3, vl y3.1), (0, rc 17), (1, rc a0)] [vl (mmaxL 1 (mminL 60 y3.1)), rc a0, rc 17] ((y3.2, T), Y) _
      refine go_blk rfl [(.l2i, 1, 0, 0, 0, .inl 0)] 53 54 _ _ _ (by decide +kernel) ?_
      show Go _ _ _ _ _ _ 54 [(3, vl y3.1), (0, rc 17), (1, rc a0)] [vi ((mmaxL 1 (mminL 60 y3.1)).toInt32), rc a0, rc 17] ((y3.2, T), Y) _
      obtain ⟨r4, hr4, h⟩ := bind_el h
      refine go_callV (idx := 53) (z := 0) (M' := M3_roundOf) (n := 2) (A := [rc a0, vi ((mmaxL 1 (mminL 60 y3.1)).toInt32)]) (v' := some (vi r4.2)) (μ' := ((r4.1, T), Y)) (d' := 4) (mc' := 0) (ms' := 0) (kc' := 0) (ks' := 0) (ci := 3) (x := .inl 17) (by decide +kernel) ml_3_53 rfl wv3_roundOf rfl (by decide) rfl (lc_t17 hT) (ret3_roundOf hT h0 hr4) (by decide) rfl rfl (Nat.le_of_ble_eq_true rfl) rfl (jag rfl rfl) ?_
      show Go _ _ _ _ _ _ 57 [(3, vl y3.1), (0, rc 17), (1, rc a0)] [vi r4.2] ((r4.1, T), Y) _
      obtain ⟨rfl, rfl⟩ := Prod.mk.inj (Option.some.inj h)
      exact go_ireturn (by decide +kernel) rfl rfl ⟨rfl, rfl⟩
    replace h := hy3
    rcases opt_cs h with ⟨o3, h⟩ | ⟨b2, o3, h⟩
    · rw [o3]
      refine go_ifnonnull (off := 9) (tgt := 34) (by decide +kernel) (by decide) (fun z => absurd rfl z) (fun _ => ?_)
      show Go _ _ _ _ _ _ 28 [(0, rc 17), (1, rc a0), (2, vn)] [] ((S, T), Y) _
      refine go_blk rfl [(.ldc2_w 34, 3, 0, 0, 0, .inr (.inl 8))] 28 31 _ _ _ (by decide +kernel) ?_
      show Go _ _ _ _ _ _ 31 [(0, rc 17), (1, rc a0), (2, vn)] [vl 8] ((S, T), Y) _
      refine go_goto (off := 8) (tgt := 39) (by decide +kernel) (by decide) ?_
      obtain rfl := Option.some.inj h
      refine go_pick [0, 1] rfl ?_
      exact key
    · rw [o3]
      refine go_ifnonnull (off := 9) (tgt := 34) (by decide +kernel) (by decide) (fun _ => ?_) (fun z => by cases z)
      show Go _ _ _ _ _ _ 34 [(0, rc 17), (1, rc a0), (2, rc b2)] [] ((S, T), Y) _
      refine go_blk rfl [(.aload_n 2, 1, 2, 0, 0, .inl 0), (.aload_n 1, 1, 1, 0, 0, .inl 0)] 34 36 _ _ _ (by decide +kernel) ?_
      show Go _ _ _ _ _ _ 36 [(0, rc 17), (1, rc a0), (2, rc b2)] [rc a0, rc b2] ((S, T), Y) _
      obtain ⟨r2, hr2, h⟩ := bind_el h
      refine go_callV (idx := 36) (z := 1) (M' := M6_sumFor) (n := 1) (A := [rc a0]) (v' := some (vl r2.2)) (μ' := ((r2.1, T), Y)) (d' := 3) (mc' := 0) (ms' := 0) (kc' := 0) (ks' := 0) (ci := 6) (x := .inl b2) (by decide +kernel) ml_3_36 rfl wv6_sumFor rfl (by decide) rfl (h1 b2 o3).1 (ret6_sumFor (h1 b2 o3) h0 hr2) (by decide) rfl rfl (Nat.le_of_ble_eq_true rfl) rfl (jag rfl rfl) ?_
      show Go _ _ _ _ _ _ 39 [(0, rc 17), (1, rc a0), (2, rc b2)] [vl r2.2] ((r2.1, T), Y) _
      obtain rfl := Option.some.inj h
      refine go_pick [0, 1] rfl ?_
      exact key
  · refine go_if_eq (off := 20) (tgt := 24) (by decide +kernel) (by decide) (fun z => absurd z q1) (fun _ => ?_)
    refine go_blk rfl [(.aload_n 1, 1, 1, 0, 0, .inl 0), (.iconst 0, 1, 0, 0, 0, .inl 0), (.putfield 28, 3, 4, 7, 0, .inl 0)] 7 12 _ _ _ (by decide +kernel) ?_
    refine And.intro h0.1 (And.intro trivial ?_)
    show Go _ _ _ _ _ _ 12 [(0, rc 17), (1, rc a0), (2, vo a1)] [] ((wI S a0 7 0, T), Y) _
    refine go_blk rfl [(.aload_n 1, 1, 1, 0, 0, .inl 0), (.dup, 1, 0, 0, 0, .inl 0), (.getfield 31, 3, 4, 5, 0, .inl 0), (.iconst 1, 1, 0, 0, 0, .inl 1), (.iadd, 1, 0, 0, 0, .inl 0), (.putfield 31, 3, 4, 5, 0, .inl 0)] 12 22 _ _ _ (by decide +kernel) ?_
    refine And.intro h0.1 ?_
    refine And.intro h0.1 (And.intro trivial ?_)
    show Go _ _ _ _ _ _ 22 [(0, rc 17), (1, rc a0), (2, vo a1)] [] ((wI (wI S a0 7 0) a0 5 (((wI S a0 7 0).1 a0 5) + 1), T), Y) _
    refine go_blk rfl [(.iconst 0, 1, 0, 0, 0, .inl 0)] 22 23 _ _ _ (by decide +kernel) ?_
    show Go _ _ _ _ _ _ 23 [(0, rc 17), (1, rc a0), (2, vo a1)] [vi 0] ((wI (wI S a0 7 0) a0 5 (((wI S a0 7 0).1 a0 5) + 1), T), Y) _
    obtain ⟨rfl, rfl⟩ := Prod.mk.inj (Option.some.inj h)
    exact go_ireturn (by decide +kernel) rfl rfl ⟨rfl, rfl⟩
