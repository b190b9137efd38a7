def f5_takeNumber (S : jS) : Option (jS × Int32) := (if (S.1 1 4) = 3 then Option.bind (f5_lowest S) (fun r1 => (if (S.1 1 5) < r1 then Option.bind (f9_fail S 1) (fun r2 => (if r2.2 = 0 ∨ r2.2 = 1 then some (r2.1, r2.2) else none)) else Option.bind (f5_highest S) (fun r3 => (if r3 < (S.1 1 5) then Option.bind (f9_fail S 1) (fun r4 => (if r4.2 = 0 ∨ r4.2 = 1 then some (r4.1, r4.2) else none)) else (if (S.1 3 4) = 6 then Option.bind (f4_hasChairAt S 4 (S.1 1 5)) (fun r5 => (if r5 = 0 then Option.bind (if (S.1 3 3) < 0 then some S else (if (nI 3) ≤ (S.1 3 3) then some S else (if inb (S.1 3 3) 3 then some (wI (wI S 11 (S.1 3 3).toNatClampNeg (S.1 1 5)) 3 3 (((wI S 11 (S.1 3 3).toNatClampNeg (S.1 1 5)).1 3 3) + 1)) else none))) (fun (y6 : jS) => Option.bind (if (y6.1 3 4) = 7 then (if (y6.1 3 3) < (nI 3) then some y6 else Option.bind (f5_endClause y6) (fun r7 => some r7.1)) else Option.bind (f5_endClause y6) (fun r8 => some r8.1)) (fun (y9 : jS) => some (y9, 1))) else Option.bind (f9_fail S 1) (fun r10 => (if r10.2 = 0 ∨ r10.2 = 1 then some (r10.1, r10.2) else none)))) else Option.bind (if (S.1 3 3) < 0 then some S else (if (nI 3) ≤ (S.1 3 3) then some S else (if inb (S.1 3 3) 3 then some (wI (wI S 11 (S.1 3 3).toNatClampNeg (S.1 1 5)) 3 3 (((wI S 11 (S.1 3 3).toNatClampNeg (S.1 1 5)).1 3 3) + 1)) else none))) (fun (y11 : jS) => Option.bind (if (y11.1 3 4) = 7 then (if (y11.1 3 3) < (nI 3) then some y11 else Option.bind (f5_endClause y11) (fun r12 => some r12.1)) else Option.bind (f5_endClause y11) (fun r13 => some r13.1)) (fun (y14 : jS) => some (y14, 1)))))))) else Option.bind (f9_fail S (((if (S.1 1 4) = 4 then 1 else 0) : Int32))) (fun r15 => (if r15.2 = 0 ∨ r15.2 = 1 then some (r15.1, r15.2) else none)))
theorem ret5_takeNumber {S : jS} {T : jT} {Y : jS × jT} {S1 : jS} {x : Int32} (hT : LayC T) (h : f5_takeNumber S = some (S1, x)) : Ret M5_takeNumber 3 0 0 [rc 3] ((S, T), Y) (some (vi x)) ((S1, T), Y) := by
  refine Ret.of (by decide +kernel) (Nat.le_of_ble_eq_true rfl) ?_
  unfold f5_takeNumber at h
  show Go _ _ _ _ _ _ 0 [(0, rc 3)] [] ((S, T), Y) _
  refine go_blk rfl [(.aload_n 0, 1, 0, 0, 0, .inl 0), (.getfield 35, 3, 5, 0, 1, .inl 0), (.getfield 79, 3, 9, 5, 0, .inl 0), (.istore_n 1, 1, 1, 0, 0, .inl 0), (.aload_n 0, 1, 0, 0, 0, .inl 0), (.getfield 35, 3, 5, 0, 1, .inl 0), (.getfield 66, 3, 9, 4, 0, .inl 0), (.iconst 3, 1, 0, 0, 0, .inl 3)] 0 16 _ _ _ (by decide +kernel) ?_
  refine And.intro (lc_t3 hT) (Exists.intro _ (And.intro (gRc (lc_r5_0 hT)) ?_))
  refine And.intro (lc_t1 hT) ?_
  refine And.intro (lc_t3 hT) (Exists.intro _ (And.intro (gRc (lc_r5_0 hT)) ?_))
  refine And.intro (lc_t1 hT) ?_
  show Go _ _ _ _ _ _ 16 [(1, vi (S.1 1 5)), (0, rc 3)] [vi 3, vi (S.1 1 4)] ((S, T), Y) _
  refine ite_el h (fun q1 h => ?_) (fun q1 h => ?_)
  · refine go_icmp_eq (off := 27) (tgt := 43) (by decide +kernel) (by decide) (fun _ => ?_) (fun z => absurd q1 z)
    refine go_blk rfl [(.iload_n 1, 1, 1, 0, 0, .inl 0), (.aload_n 0, 1, 0, 0, 0, .inl 0)] 43 45 _ _ _ (by decide +kernel) ?_
    show Go _ _ _ _ _ _ 45 [(1, vi (S.1 1 5)), (0, rc 3)] [rc 3, vi (S.1 1 5)] ((S, T), Y) _
    obtain ⟨r1, hr1, h⟩ := bind_el h
    refine go_callV (idx := 82) (z := 0) (M' := M5_lowest) (n := 0) (A := []) (v' := some (vi r1)) (μ' := ((S, T), Y)) (d' := 1) (mc' := 0) (ms' := 0) (kc' := 0) (ks' := 0) (ci := 5) (x := .inl 3) (by decide +kernel) ml_5_82 rfl wv5_lowest rfl (by decide) rfl (lc_t3 hT) (ret5_lowest hT hr1) (by decide) rfl rfl (Nat.le_of_ble_eq_true rfl) rfl (jag rfl rfl) ?_
    show Go _ _ _ _ _ _ 48 [(1, vi (S.1 1 5)), (0, rc 3)] [vi r1, vi (S.1 1 5)] ((S, T), Y) _
    refine ite_el h (fun q2 h => ?_) (fun q2 h => ?_)
    · refine go_icmp_lt (off := 31) (tgt := 79) (by decide +kernel) (by decide) (fun _ => ?_) (fun z => absurd q2 z)
      refine go_blk rfl [(.aload_n 0, 1, 0, 0, 0, .inl 0), (.getfield 35, 3, 5, 0, 1, .inl 0), (.iconst 1, 1, 0, 0, 0, .inl 1)] 79 84 _ _ _ (by decide +kernel) ?_
      refine And.intro (lc_t3 hT) (Exists.intro _ (And.intro (gRc (lc_r5_0 hT)) ?_))
      show Go _ _ _ _ _ _ 84 [(1, vi (S.1 1 5)), (0, rc 3)] [vi 1, rc 1] ((S, T), Y) _
      obtain ⟨r2, hr2, h⟩ := bind_el h
      refine go_callV (idx := 69) (z := 1) (M' := M9_fail) (n := 1) (A := [vi 1]) (v' := some (vi r2.2)) (μ' := ((r2.1, T), Y)) (d' := 1) (mc' := 0) (ms' := 0) (kc' := 0) (ks' := 0) (ci := 9) (x := .inl 1) (by decide +kernel) ml_5_69 rfl wv9_fail rfl (by decide) rfl (lc_t1 hT) (ret9_fail hT hr2) (by decide) rfl rfl (Nat.le_of_ble_eq_true rfl) rfl (jag rfl rfl) ?_
      show Go _ _ _ _ _ _ 87 [(1, vi (S.1 1 5)), (0, rc 3)] [vi r2.2] ((r2.1, T), Y) _
      refine gd_el h (fun q h => ?_)
      obtain ⟨rfl, rfl⟩ := Prod.mk.inj (Option.some.inj h)
      exact go_ireturn (by decide +kernel) rfl (by rcases q with q | q <;> rw [q] <;> rfl) ⟨rfl, rfl⟩
    · refine go_icmp_lt (off := 31) (tgt := 79) (by decide +kernel) (by decide) (fun z => absurd z q2) (fun _ => ?_)
      refine go_blk rfl [(.iload_n 1, 1, 1, 0, 0, .inl 0), (.aload_n 0, 1, 0, 0, 0, .inl 0)] 51 53 _ _ _ (by decide +kernel) ?_
      show Go _ _ _ _ _ _ 53 [(1, vi (S.1 1 5)), (0, rc 3)] [rc 3, vi (S.1 1 5)] ((S, T), Y) _
      obtain ⟨r3, hr3, h⟩ := bind_el h
      refine go_callV (idx := 86) (z := 0) (M' := M5_highest) (n := 0) (A := []) (v' := some (vi r3)) (μ' := ((S, T), Y)) (d' := 1) (mc' := 0) (ms' := 0) (kc' := 0) (ks' := 0) (ci := 5) (x := .inl 3) (by decide +kernel) ml_5_86 rfl wv5_highest rfl (by decide) rfl (lc_t3 hT) (ret5_highest hT hr3) (by decide) rfl rfl (Nat.le_of_ble_eq_true rfl) rfl (jag rfl rfl) ?_
      show Go _ _ _ _ _ _ 56 [(1, vi (S.1 1 5)), (0, rc 3)] [vi r3, vi (S.1 1 5)] ((S, T), Y) _
      refine ite_el h (fun q3 h => ?_) (fun q3 h => ?_)
      · refine go_icmp_gt (off := 23) (tgt := 79) (by decide +kernel) (by decide) (fun _ => ?_) (fun z => absurd q3 z)
        refine go_blk rfl [(.aload_n 0, 1, 0, 0, 0, .inl 0), (.getfield 35, 3, 5, 0, 1, .inl 0), (.iconst 1, 1, 0, 0, 0, .inl 1)] 79 84 _ _ _ (by decide +kernel) ?_
        refine And.intro (lc_t3 hT) (Exists.intro _ (And.intro (gRc (lc_r5_0 hT)) ?_))
        show Go _ _ _ _ _ _ 84 [(1, vi (S.1 1 5)), (0, rc 3)] [vi 1, rc 1] ((S, T), Y) _
        obtain ⟨r4, hr4, h⟩ := bind_el h
        refine go_callV (idx := 69) (z := 1) (M' := M9_fail) (n := 1) (A := [vi 1]) (v' := some (vi r4.2)) (μ' := ((r4.1, T), Y)) (d' := 1) (mc' := 0) (ms' := 0) (kc' := 0) (ks' := 0) (ci := 9) (x := .inl 1) (by decide +kernel) ml_5_69 rfl wv9_fail rfl (by decide) rfl (lc_t1 hT) (ret9_fail hT hr4) (by decide) rfl rfl (Nat.le_of_ble_eq_true rfl) rfl (jag rfl rfl) ?_
        show Go _ _ _ _ _ _ 87 [(1, vi (S.1 1 5)), (0, rc 3)] [vi r4.2] ((r4.1, T), Y) _
        refine gd_el h (fun q h => ?_)
        obtain ⟨rfl, rfl⟩ := Prod.mk.inj (Option.some.inj h)
        exact go_ireturn (by decide +kernel) rfl (by rcases q with q | q <;> rw [q] <;> rfl) ⟨rfl, rfl⟩
      · refine go_icmp_gt (off := 23) (tgt := 79) (by decide +kernel) (by decide) (fun z => absurd z q3) (fun _ => ?_)
        refine go_blk rfl [(.aload_n 0, 1, 0, 0, 0, .inl 0), (.getfield 26, 3, 5, 4, 0, .inl 0), (.bipush 6, 2, 0, 0, 0, .inl 6)] 59 65 _ _ _ (by decide +kernel) ?_
        refine And.intro (lc_t3 hT) ?_
        show Go _ _ _ _ _ _ 65 [(1, vi (S.1 1 5)), (0, rc 3)] [vi 6, vi (S.1 3 4)] ((S, T), Y) _
        refine ite_el h (fun q4 h => ?_) (fun q4 h => ?_)
        · refine go_icmp_ne (off := 23) (tgt := 88) (by decide +kernel) (by decide) (fun z => absurd q4 z) (fun _ => ?_)
          refine go_blk rfl [(.aload_n 0, 1, 0, 0, 0, .inl 0), (.getfield 12, 3, 5, 1, 1, .inl 0), (.iload_n 1, 1, 1, 0, 0, .inl 0)] 68 73 _ _ _ (by decide +kernel) ?_
          refine And.intro (lc_t3 hT) (Exists.intro _ (And.intro (gRc (lc_r5_1 hT)) ?_))
          show Go _ _ _ _ _ _ 73 [(1, vi (S.1 1 5)), (0, rc 3)] [vi (S.1 1 5), rc 4] ((S, T), Y) _
          obtain ⟨r5, hr5, h⟩ := bind_el h
          refine go_callV (idx := 89) (z := 1) (M' := M4_hasChairAt) (n := 1) (A := [vi (S.1 1 5)]) (v' := some (vi r5)) (μ' := ((S, T), Y)) (d' := 1) (mc' := 0) (ms' := 0) (kc' := 0) (ks' := 0) (ci := 4) (x := .inl 4) (by decide +kernel) ml_5_89 rfl wv4_hasChairAt rfl (by decide) rfl (lc_h4 hT).1 (ret4_hasChairAt (lc_h4 hT) hr5) (by decide) rfl rfl (Nat.le_of_ble_eq_true rfl) rfl (jag rfl rfl) ?_
          show Go _ _ _ _ _ _ 76 [(1, vi (S.1 1 5)), (0, rc 3)] [vi r5] ((S, T), Y) _
          refine ite_el h (fun q5 h => ?_) (fun q5 h => ?_)
          · refine go_if_eq (off := 12) (tgt := 88) (by decide +kernel) (by decide) (fun _ => ?_) (fun z => absurd q5 z)
            refine go_blk rfl [(.aload_n 0, 1, 0, 0, 0, .inl 0), (.getfield 22, 3, 5, 3, 0, .inl 0)] 88 92 _ _ _ (by decide +kernel) ?_
            refine And.intro (lc_t3 hT) ?_
            show Go _ _ _ _ _ _ 92 [(1, vi (S.1 1 5)), (0, rc 3)] [vi (S.1 3 3)] ((S, T), Y) _
            obtain ⟨y6, hy6, h⟩ := bind_el h
            have key : Go M5_takeNumber 3 0 0 0 0 127 [(0, rc 3)] [] ((y6, T), Y) (eqQ (some (vi x)) ((S1, T), Y)) := by
              refine go_blk rfl [(.aload_n 0, 1, 0, 0, 0, .inl 0), (.getfield 26, 3, 5, 4, 0, .inl 0), (.bipush 7, 2, 0, 0, 0, .inl 7)] 127 133 _ _ _ (by decide +kernel) ?_
              refine And.intro (lc_t3 hT) ?_
              show Go _ _ _ _ _ _ 133 [(0, rc 3)] [vi 7, vi (y6.1 3 4)] ((y6, T), Y) _
              obtain ⟨y9, hy9, h⟩ := bind_el h
              have key : Go M5_takeNumber 3 0 0 0 0 152 [] [] ((y9, T), Y) (eqQ (some (vi x)) ((S1, T), Y)) := by
                refine go_blk rfl [(.iconst 1, 1, 0, 0, 0, .inl 1)] 152 153 _ _ _ (by decide +kernel) ?_
                show Go _ _ _ _ _ _ 153 [] [vi 1] ((y9, T), Y) _
                obtain ⟨rfl, rfl⟩ := Prod.mk.inj (Option.some.inj h)
                exact go_ireturn (by decide +kernel) rfl rfl ⟨rfl, rfl⟩
              replace h := hy9
              refine ite_el h (fun q9 h => ?_) (fun q9 h => ?_)
              · refine go_icmp_ne (off := 15) (tgt := 148) (by decide +kernel) (by decide) (fun z => absurd q9 z) (fun _ => ?_)
                refine go_blk rfl [(.aload_n 0, 1, 0, 0, 0, .inl 0), (.getfield 22, 3, 5, 3, 0, .inl 0), (.aload_n 0, 1, 0, 0, 0, .inl 0), (.getfield 18, 3, 5, 2, 1, .inl 0), (.arraylength, 1, 20, 0, 0, .inl 0)] 136 145 _ _ _ (by decide +kernel) ?_
                refine And.intro (lc_t3 hT) ?_
                refine And.intro (lc_t3 hT) (Exists.intro _ (And.intro (gRc (lc_r5_2 hT)) ?_))
                refine And.intro (lc_t11 hT) (Exists.intro _ (And.intro (lc_n11 hT) ?_))
                show Go _ _ _ _ _ _ 145 [(0, rc 3)] [vi (nI 3), vi (y6.1 3 3)] ((y6, T), Y) _
                refine ite_el h (fun q10 h => ?_) (fun q10 h => ?_)
                · refine go_icmp_lt (off := 7) (tgt := 152) (by decide +kernel) (by decide) (fun _ => ?_) (fun z => absurd q10 z)
                  obtain rfl := Option.some.inj h
                  refine go_pick [] rfl ?_
                  exact key
                · refine go_icmp_lt (off := 7) (tgt := 152) (by decide +kernel) (by decide) (fun z => absurd z q10) (fun _ => ?_)
                  refine go_blk rfl [(.aload_n 0, 1, 0, 0, 0, .inl 0)] 148 149 _ _ _ (by decide +kernel) ?_
                  show Go _ _ _ _ _ _ 149 [(0, rc 3)] [rc 3] ((y6, T), Y) _
                  obtain ⟨r7, hr7, h⟩ := bind_el h
                  refine go_callV (idx := 92) (z := 0) (M' := M5_endClause) (n := 0) (A := []) (v' := none) (μ' := ((r7.1, T), Y)) (d' := 2) (mc' := 0) (ms' := 0) (kc' := 0) (ks' := 0) (ci := 5) (x := .inl 3) (by decide +kernel) ml_5_92 rfl wv5_endClause rfl (by decide) rfl (lc_t3 hT) (ret5_endClause hT hr7) (by decide) rfl rfl (Nat.le_of_ble_eq_true rfl) rfl (jag rfl rfl) ?_
                  show Go _ _ _ _ _ _ 152 [(0, rc 3)] [] ((r7.1, T), Y) _
                  obtain rfl := Option.some.inj h
                  refine go_pick [] rfl ?_
                  exact key
              · refine go_icmp_ne (off := 15) (tgt := 148) (by decide +kernel) (by decide) (fun _ => ?_) (fun z => absurd z q9)
                refine go_blk rfl [(.aload_n 0, 1, 0, 0, 0, .inl 0)] 148 149 _ _ _ (by decide +kernel) ?_
                show Go _ _ _ _ _ _ 149 [(0, rc 3)] [rc 3] ((y6, T), Y) _
                obtain ⟨r8, hr8, h⟩ := bind_el h
                refine go_callV (idx := 92) (z := 0) (M' := M5_endClause) (n := 0) (A := []) (v' := none) (μ' := ((r8.1, T), Y)) (d' := 2) (mc' := 0) (ms' := 0) (kc' := 0) (ks' := 0) (ci := 5) (x := .inl 3) (by decide +kernel) ml_5_92 rfl wv5_endClause rfl (by decide) rfl (lc_t3 hT) (ret5_endClause hT hr8) (by decide) rfl rfl (Nat.le_of_ble_eq_true rfl) rfl (jag rfl rfl) ?_
                show Go _ _ _ _ _ _ 152 [(0, rc 3)] [] ((r8.1, T), Y) _
                obtain rfl := Option.some.inj h
                refine go_pick [] rfl ?_
                exact key
            replace h := hy6
            refine ite_el h (fun q6 h => ?_) (fun q6 h => ?_)
            · refine go_if_lt (off := 35) (tgt := 127) (by decide +kernel) (by decide) (fun _ => ?_) (fun z => absurd q6 z)
              obtain rfl := Option.some.inj h
              refine go_pick [1] rfl ?_
              exact key
            · refine go_if_lt (off := 35) (tgt := 127) (by decide +kernel) (by decide) (fun z => absurd z q6) (fun _ => ?_)
              refine go_blk rfl [(.aload_n 0, 1, 0, 0, 0, .inl 0), (.getfield 22, 3, 5, 3, 0, .inl 0), (.aload_n 0, 1, 0, 0, 0, .inl 0), (.getfield 18, 3, 5, 2, 1, .inl 0), (.arraylength, 1, 20, 0, 0, .inl 0)] 95 104 _ _ _ (by decide +kernel) ?_
              refine And.intro (lc_t3 hT) ?_
              refine And.intro (lc_t3 hT) (Exists.intro _ (And.intro (gRc (lc_r5_2 hT)) ?_))
              refine And.intro (lc_t11 hT) (Exists.intro _ (And.intro (lc_n11 hT) ?_))
              show Go _ _ _ _ _ _ 104 [(1, vi (S.1 1 5)), (0, rc 3)] [vi (nI 3), vi (S.1 3 3)] ((S, T), Y) _
              refine ite_el h (fun q7 h => ?_) (fun q7 h => ?_)
              · refine go_icmp_ge (off := 23) (tgt := 127) (by decide +kernel) (by decide) (fun _ => ?_) (fun z => absurd q7 z)
                obtain rfl := Option.some.inj h
                refine go_pick [1] rfl ?_
                exact key
              · refine go_icmp_ge (off := 23) (tgt := 127) (by decide +kernel) (by decide) (fun z => absurd z q7) (fun _ => ?_)
                refine gd_el h (fun q8 h => ?_)
                refine go_blk rfl [(.aload_n 0, 1, 0, 0, 0, .inl 0), (.getfield 18, 3, 5, 2, 1, .inl 0), (.aload_n 0, 1, 0, 0, 0, .inl 0), (.getfield 22, 3, 5, 3, 0, .inl 0), (.iload_n 1, 1, 1, 0, 0, .inl 0), (.iastore, 1, 20, 0, 0, .inl 0)] 107 117 _ _ _ (by decide +kernel) ?_
                refine And.intro (lc_t3 hT) (Exists.intro _ (And.intro (gRc (lc_r5_2 hT)) ?_))
                refine And.intro (lc_t3 hT) ?_
                refine And.intro (lc_t11 hT) (Exists.intro _ (And.intro (lc_n11 hT) (And.intro (inb_in q8) ?_)))
                show Go _ _ _ _ _ _ 117 [(1, vi (S.1 1 5)), (0, rc 3)] [] ((wI S 11 (S.1 3 3).toNatClampNeg (S.1 1 5), T), Y) _
                refine go_blk rfl [(.aload_n 0, 1, 0, 0, 0, .inl 0), (.dup, 1, 0, 0, 0, .inl 0), (.getfield 22, 3, 5, 3, 0, .inl 0), (.iconst 1, 1, 0, 0, 0, .inl 1), (.iadd, 1, 0, 0, 0, .inl 0), (.putfield 22, 3, 5, 3, 0, .inl 0)] 117 127 _ _ _ (by decide +kernel) ?_
                refine And.intro (lc_t3 hT) ?_
                refine And.intro (lc_t3 hT) (And.intro trivial ?_)
                show Go _ _ _ _ _ _ 127 [(1, vi (S.1 1 5)), (0, rc 3)] [] ((wI (wI S 11 (S.1 3 3).toNatClampNeg (S.1 1 5)) 3 3 (((wI S 11 (S.1 3 3).toNatClampNeg (S.1 1 5)).1 3 3) + 1), T), Y) _
                obtain rfl := Option.some.inj h
                refine go_pick [1] rfl ?_
                exact key
          · refine go_if_eq (off := 12) (tgt := 88) (by decide +kernel) (by decide) (fun z => absurd z q5) (fun _ => ?_)
            refine go_blk rfl [(.aload_n 0, 1, 0, 0, 0, .inl 0), (.getfield 35, 3, 5, 0, 1, .inl 0), (.iconst 1, 1, 0, 0, 0, .inl 1)] 79 84 _ _ _ (by decide +kernel) ?_
            refine And.intro (lc_t3 hT) (Exists.intro _ (And.intro (gRc (lc_r5_0 hT)) ?_))
            show Go _ _ _ _ _ _ 84 [(1, vi (S.1 1 5)), (0, rc 3)] [vi 1, rc 1] ((S, T), Y) _
            obtain ⟨r10, hr10, h⟩ := bind_el h
            refine go_callV (idx := 69) (z := 1) (M' := M9_fail) (n := 1) (A := [vi 1]) (v' := some (vi r10.2)) (μ' := ((r10.1, T), Y)) (d' := 1) (mc' := 0) (ms' := 0) (kc' := 0) (ks' := 0) (ci := 9) (x := .inl 1) (by decide +kernel) ml_5_69 rfl wv9_fail rfl (by decide) rfl (lc_t1 hT) (ret9_fail hT hr10) (by decide) rfl rfl (Nat.le_of_ble_eq_true rfl) rfl (jag rfl rfl) ?_
            show Go _ _ _ _ _ _ 87 [(1, vi (S.1 1 5)), (0, rc 3)] [vi r10.2] ((r10.1, T), Y) _
            refine gd_el h (fun q h => ?_)
            obtain ⟨rfl, rfl⟩ := Prod.mk.inj (Option.some.inj h)
            exact go_ireturn (by decide +kernel) rfl (by rcases q with q | q <;> rw [q] <;> rfl) ⟨rfl, rfl⟩
        · refine go_icmp_ne (off := 23) (tgt := 88) (by decide +kernel) (by decide) (fun _ => ?_) (fun z => absurd z q4)
          refine go_blk rfl [(.aload_n 0, 1, 0, 0, 0, .inl 0), (.getfield 22, 3, 5, 3, 0, .inl 0)] 88 92 _ _ _ (by decide +kernel) ?_
          refine And.intro (lc_t3 hT) ?_
          show Go _ _ _ _ _ _ 92 [(1, vi (S.1 1 5)), (0, rc 3)] [vi (S.1 3 3)] ((S, T), Y) _
          obtain ⟨y11, hy11, h⟩ := bind_el h
          have key : Go M5_takeNumber 3 0 0 0 0 127 [(0, rc 3)] [] ((y11, T), Y) (eqQ (some (vi x)) ((S1, T), Y)) := by
            refine go_blk rfl [(.aload_n 0, 1, 0, 0, 0, .inl 0), (.getfield 26, 3, 5, 4, 0, .inl 0), (.bipush 7, 2, 0, 0, 0, .inl 7)] 127 133 _ _ _ (by decide +kernel) ?_
            refine And.intro (lc_t3 hT) ?_
            show Go _ _ _ _ _ _ 133 [(0, rc 3)] [vi 7, vi (y11.1 3 4)] ((y11, T), Y) _
            obtain ⟨y14, hy14, h⟩ := bind_el h
            have key : Go M5_takeNumber 3 0 0 0 0 152 [] [] ((y14, T), Y) (eqQ (some (vi x)) ((S1, T), Y)) := by
              refine go_blk rfl [(.iconst 1, 1, 0, 0, 0, .inl 1)] 152 153 _ _ _ (by decide +kernel) ?_
              show Go _ _ _ _ _ _ 153 [] [vi 1] ((y14, T), Y) _
              obtain ⟨rfl, rfl⟩ := Prod.mk.inj (Option.some.inj h)
              exact go_ireturn (by decide +kernel) rfl rfl ⟨rfl, rfl⟩
            replace h := hy14
            refine ite_el h (fun q14 h => ?_) (fun q14 h => ?_)
            · refine go_icmp_ne (off := 15) (tgt := 148) (by decide +kernel) (by decide) (fun z => absurd q14 z) (fun _ => ?_)
              refine go_blk rfl [(.aload_n 0, 1, 0, 0, 0, .inl 0), (.getfield 22, 3, 5, 3, 0, .inl 0), (.aload_n 0, 1, 0, 0, 0, .inl 0), (.getfield 18, 3, 5, 2, 1, .inl 0), (.arraylength, 1, 20, 0, 0, .inl 0)] 136 145 _ _ _ (by decide +kernel) ?_
              refine And.intro (lc_t3 hT) ?_
              refine And.intro (lc_t3 hT) (Exists.intro _ (And.intro (gRc (lc_r5_2 hT)) ?_))
              refine And.intro (lc_t11 hT) (Exists.intro _ (And.intro (lc_n11 hT) ?_))
              show Go _ _ _ _ _ _ 145 [(0, rc 3)] [vi (nI 3), vi (y11.1 3 3)] ((y11, T), Y) _
              refine ite_el h (fun q15 h => ?_) (fun q15 h => ?_)
              · refine go_icmp_lt (off := 7) (tgt := 152) (by decide +kernel) (by decide) (fun _ => ?_) (fun z => absurd q15 z)
                obtain rfl := Option.some.inj h
                refine go_pick [] rfl ?_
                exact key
              · refine go_icmp_lt (off := 7) (tgt := 152) (by decide +kernel) (by decide) (fun z => absurd z q15) (fun _ => ?_)
                refine go_blk rfl [(.aload_n 0, 1, 0, 0, 0, .inl 0)] 148 149 _ _ _ (by decide +kernel) ?_
                show Go _ _ _ _ _ _ 149 [(0, rc 3)] [rc 3] ((y11, T), Y) _
                obtain ⟨r12, hr12, h⟩ := bind_el h
                refine go_callV (idx := 92) (z := 0) (M' := M5_endClause) (n := 0) (A := []) (v' := none) (μ' := ((r12.1, T), Y)) (d' := 2) (mc' := 0) (ms' := 0) (kc' := 0) (ks' := 0) (ci := 5) (x := .inl 3) (by decide +kernel) ml_5_92 rfl wv5_endClause rfl (by decide) rfl (lc_t3 hT) (ret5_endClause hT hr12) (by decide) rfl rfl (Nat.le_of_ble_eq_true rfl) rfl (jag rfl rfl) ?_
                show Go _ _ _ _ _ _ 152 [(0, rc 3)] [] ((r12.1, T), Y) _
                obtain rfl := Option.some.inj h
                refine go_pick [] rfl ?_
                exact key
            · refine go_icmp_ne (off := 15) (tgt := 148) (by decide +kernel) (by decide) (fun _ => ?_) (fun z => absurd z q14)
              refine go_blk rfl [(.aload_n 0, 1, 0, 0, 0, .inl 0)] 148 149 _ _ _ (by decide +kernel) ?_
              show Go _ _ _ _ _ _ 149 [(0, rc 3)] [rc 3] ((y11, T), Y) _
              obtain ⟨r13, hr13, h⟩ := bind_el h
              refine go_callV (idx := 92) (z := 0) (M' := M5_endClause) (n := 0) (A := []) (v' := none) (μ' := ((r13.1, T), Y)) (d' := 2) (mc' := 0) (ms' := 0) (kc' := 0) (ks' := 0) (ci := 5) (x := .inl 3) (by decide +kernel) ml_5_92 rfl wv5_endClause rfl (by decide) rfl (lc_t3 hT) (ret5_endClause hT hr13) (by decide) rfl rfl (Nat.le_of_ble_eq_true rfl) rfl (jag rfl rfl) ?_
              show Go _ _ _ _ _ _ 152 [(0, rc 3)] [] ((r13.1, T), Y) _
              obtain rfl := Option.some.inj h
              refine go_pick [] rfl ?_
              exact key
          replace h := hy11
          refine ite_el h (fun q11 h => ?_) (fun q11 h => ?_)
          · refine go_if_lt (off := 35) (tgt := 127) (by decide +kernel) (by decide) (fun _ => ?_) (fun z => absurd q11 z)
            obtain rfl := Option.some.inj h
            refine go_pick [1] rfl ?_
            exact key
          · refine go_if_lt (off := 35) (tgt := 127) (by decide +kernel) (by decide) (fun z => absurd z q11) (fun _ => ?_)
            refine go_blk rfl [(.aload_n 0, 1, 0, 0, 0, .inl 0), (.getfield 22, 3, 5, 3, 0, .inl 0), (.aload_n 0, 1, 0, 0, 0, .inl 0), (.getfield 18, 3, 5, 2, 1, .inl 0), (.arraylength, 1, 20, 0, 0, .inl 0)] 95 104 _ _ _ (by decide +kernel) ?_
            refine And.intro (lc_t3 hT) ?_
            refine And.intro (lc_t3 hT) (Exists.intro _ (And.intro (gRc (lc_r5_2 hT)) ?_))
            refine And.intro (lc_t11 hT) (Exists.intro _ (And.intro (lc_n11 hT) ?_))
            show Go _ _ _ _ _ _ 104 [(1, vi (S.1 1 5)), (0, rc 3)] [vi (nI 3), vi (S.1 3 3)] ((S, T), Y) _
            refine ite_el h (fun q12 h => ?_) (fun q12 h => ?_)
            · refine go_icmp_ge (off := 23) (tgt := 127) (by decide +kernel) (by decide) (fun _ => ?_) (fun z => absurd q12 z)
              obtain rfl := Option.some.inj h
              refine go_pick [1] rfl ?_
              exact key
            · refine go_icmp_ge (off := 23) (tgt := 127) (by decide +kernel) (by decide) (fun z => absurd z q12) (fun _ => ?_)
              refine gd_el h (fun q13 h => ?_)
              refine go_blk rfl [(.aload_n 0, 1, 0, 0, 0, .inl 0), (.getfield 18, 3, 5, 2, 1, .inl 0), (.aload_n 0, 1, 0, 0, 0, .inl 0), (.getfield 22, 3, 5, 3, 0, .inl 0), (.iload_n 1, 1, 1, 0, 0, .inl 0), (.iastore, 1, 20, 0, 0, .inl 0)] 107 117 _ _ _ (by decide +kernel) ?_
              refine And.intro (lc_t3 hT) (Exists.intro _ (And.intro (gRc (lc_r5_2 hT)) ?_))
              refine And.intro (lc_t3 hT) ?_
              refine And.intro (lc_t11 hT) (Exists.intro _ (And.intro (lc_n11 hT) (And.intro (inb_in q13) ?_)))
              show Go _ _ _ _ _ _ 117 [(1, vi (S.1 1 5)), (0, rc 3)] [] ((wI S 11 (S.1 3 3).toNatClampNeg (S.1 1 5), T), Y) _
              refine go_blk rfl [(.aload_n 0, 1, 0, 0, 0, .inl 0), (.dup, 1, 0, 0, 0, .inl 0), (.getfield 22, 3, 5, 3, 0, .inl 0), (.iconst 1, 1, 0, 0, 0, .inl 1), (.iadd, 1, 0, 0, 0, .inl 0), (.putfield 22, 3, 5, 3, 0, .inl 0)] 117 127 _ _ _ (by decide +kernel) ?_
              refine And.intro (lc_t3 hT) ?_
              refine And.intro (lc_t3 hT) (And.intro trivial ?_)
              show Go _ _ _ _ _ _ 127 [(1, vi (S.1 1 5)), (0, rc 3)] [] ((wI (wI S 11 (S.1 3 3).toNatClampNeg (S.1 1 5)) 3 3 (((wI S 11 (S.1 3 3).toNatClampNeg (S.1 1 5)).1 3 3) + 1), T), Y) _
              obtain rfl := Option.some.inj h
              refine go_pick [1] rfl ?_
              exact key
  · refine go_icmp_eq (off := 27) (tgt := 43) (by decide +kernel) (by decide) (fun z => absurd z q1) (fun _ => ?_)
    refine go_blk rfl [(.aload_n 0, 1, 0, 0, 0, .inl 0), (.getfield 35, 3, 5, 0, 1, .inl 0), (.aload_n 0, 1, 0, 0, 0, .inl 0), (.getfield 35, 3, 5, 0, 1, .inl 0), (.getfield 66, 3, 9, 4, 0, .inl 0), (.iconst 4, 1, 0, 0, 0, .inl 4)] 19 31 _ _ _ (by decide +kernel) ?_
    refine And.intro (lc_t3 hT) (Exists.intro _ (And.intro (gRc (lc_r5_0 hT)) ?_))
    refine And.intro (lc_t3 hT) (Exists.intro _ (And.intro (gRc (lc_r5_0 hT)) ?_))
    refine And.intro (lc_t1 hT) ?_
    show Go _ _ _ _ _ _ 31 [(1, vi (S.1 1 5)), (0, rc 3)] [vi 4, vi (S.1 1 4), rc 1] ((S, T), Y) _
    have key : ∀ z0 : Int32, z0 = ((if (S.1 1 4) = 4 then 1 else 0) : Int32) → Go M5_takeNumber 3 0 0 0 0 39 [] [vi z0, rc 1] ((S, T), Y) (eqQ (some (vi x)) ((S1, T), Y)) := by
      intro z0 ez0
      subst ez0
      obtain ⟨r15, hr15, h⟩ := bind_el h
      refine go_callV (idx := 69) (z := 1) (M' := M9_fail) (n := 1) (A := [vi (((if (S.1 1 4) = 4 then 1 else 0) : Int32))]) (v' := some (vi r15.2)) (μ' := ((r15.1, T), Y)) (d' := 1) (mc' := 0) (ms' := 0) (kc' := 0) (ks' := 0) (ci := 9) (x := .inl 1) (by decide +kernel) ml_5_69 rfl wv9_fail rfl (by decide) rfl (lc_t1 hT) (ret9_fail hT hr15) (by decide) rfl rfl (Nat.le_of_ble_eq_true rfl) rfl (jag rfl rfl) ?_
      show Go _ _ _ _ _ _ 42 [] [vi r15.2] ((r15.1, T), Y) _
      refine gd_el h (fun q h => ?_)
      obtain ⟨rfl, rfl⟩ := Prod.mk.inj (Option.some.inj h)
      exact go_ireturn (by decide +kernel) rfl (by rcases q with q | q <;> rw [q] <;> rfl) ⟨rfl, rfl⟩
    clear h
    by_cases q16 : (S.1 1 4) = 4
    · refine go_icmp_ne (off := 7) (tgt := 38) (by decide +kernel) (by decide) (fun z => absurd q16 z) (fun _ => ?_)
      refine go_blk rfl [(.iconst 1, 1, 0, 0, 0, .inl 1)] 34 35 _ _ _ (by decide +kernel) ?_
      show Go _ _ _ _ _ _ 35 [(1, vi (S.1 1 5)), (0, rc 3)] [vi 1, rc 1] ((S, T), Y) _
      refine go_goto (off := 4) (tgt := 39) (by decide +kernel) (by decide) ?_
      refine go_pick [] rfl ?_; exact key _ (by rw [if_pos q16])
    · refine go_icmp_ne (off := 7) (tgt := 38) (by decide +kernel) (by decide) (fun _ => ?_) (fun z => absurd z q16)
      refine go_blk rfl [(.iconst 0, 1, 0, 0, 0, .inl 0)] 38 39 _ _ _ (by decide +kernel) ?_
      show Go _ _ _ _ _ _ 39 [(1, vi (S.1 1 5)), (0, rc 3)] [vi 0, rc 1] ((S, T), Y) _
      refine go_pick [] rfl ?_; exact key _ (by rw [if_neg q16])
def f5_takeBehindClause (S : jS) : Option (jS × Int32) := (if (S.1 1 4) = 8 then some (wI S 3 6 (((if (S.1 1 4) = 8 then 0 else 3) : Int32)), 1) else (if (S.1 1 4) = 1 then some (wI S 3 6 (((if (S.1 1 4) = 8 then 0 else 3) : Int32)), 1) else Option.bind (f9_fail S 0) (fun r1 => (if r1.2 = 0 ∨ r1.2 = 1 then some (r1.1, r1.2) else none))))
theorem ret5_takeBehindClause {S : jS} {T : jT} {Y : jS × jT} {S1 : jS} {x : Int32} (hT : LayC T) (h : f5_takeBehindClause S = some (S1, x)) : Ret M5_takeBehindClause 2 0 0 [rc 3] ((S, T), Y) (some (vi x)) ((S1, T), Y) := by
  refine Ret.of (by decide +kernel) (Nat.le_of_ble_eq_true rfl) ?_
  unfold f5_takeBehindClause at h
  show Go _ _ _ _ _ _ 0 [(0, rc 3)] [] ((S, T), Y) _
  refine go_blk rfl [(.aload_n 0, 1, 0, 0, 0, .inl 0), (.getfield 35, 3, 5, 0, 1, .inl 0), (.getfield 66, 3, 9, 4, 0, .inl 0), (.bipush 8, 2, 0, 0, 0, .inl 8)] 0 9 _ _ _ (by decide +kernel) ?_
  refine And.intro (lc_t3 hT) (Exists.intro _ (And.intro (gRc (lc_r5_0 hT)) ?_))
  refine And.intro (lc_t1 hT) ?_
  show Go _ _ _ _ _ _ 9 [(0, rc 3)] [vi 8, vi (S.1 1 4)] ((S, T), Y) _
  refine ite_el h (fun q1 h => ?_) (fun q1 h => ?_)
  · refine go_icmp_eq (off := 23) (tgt := 32) (by decide +kernel) (by decide) (fun _ => ?_) (fun z => absurd q1 z)
    refine go_blk rfl [(.aload_n 0, 1, 0, 0, 0, .inl 0), (.aload_n 0, 1, 0, 0, 0, .inl 0), (.getfield 35, 3, 5, 0, 1, .inl 0), (.getfield 66, 3, 9, 4, 0, .inl 0), (.bipush 8, 2, 0, 0, 0, .inl 8)] 32 42 _ _ _ (by decide +kernel) ?_
    refine And.intro (lc_t3 hT) (Exists.intro _ (And.intro (gRc (lc_r5_0 hT)) ?_))
    refine And.intro (lc_t1 hT) ?_
    show Go _ _ _ _ _ _ 42 [(0, rc 3)] [vi 8, vi (S.1 1 4), rc 3] ((S, T), Y) _
    have key : ∀ z0 : Int32, z0 = ((if (S.1 1 4) = 8 then 0 else 3) : Int32) → Go M5_takeBehindClause 2 0 0 0 0 50 [] [vi z0, rc 3] ((S, T), Y) (eqQ (some (vi x)) ((S1, T), Y)) := by
      intro z0 ez0
      subst ez0
      refine go_blk rfl [(.putfield 32, 3, 5, 6, 0, .inl 0)] 50 53 _ _ _ (by decide +kernel) ?_
      refine And.intro (lc_t3 hT) (And.intro trivial ?_)
      show Go _ _ _ _ _ _ 53 [] [] ((wI S 3 6 (((if (S.1 1 4) = 8 then 0 else 3) : Int32)), T), Y) _
      refine go_blk rfl [(.iconst 1, 1, 0, 0, 0, .inl 1)] 53 54 _ _ _ (by decide +kernel) ?_
      show Go _ _ _ _ _ _ 54 [] [vi 1] ((wI S 3 6 (((if (S.1 1 4) = 8 then 0 else 3) : Int32)), T), Y) _
      obtain ⟨rfl, rfl⟩ := Prod.mk.inj (Option.some.inj h)
      exact go_ireturn (by decide +kernel) rfl rfl ⟨rfl, rfl⟩
    clear h
    by_cases q2 : (S.1 1 4) = 8
    · refine go_icmp_ne (off := 7) (tgt := 49) (by decide +kernel) (by decide) (fun z => absurd q2 z) (fun _ => ?_)
      refine go_blk rfl [(.iconst 0, 1, 0, 0, 0, .inl 0)] 45 46 _ _ _ (by decide +kernel) ?_
      show Go _ _ _ _ _ _ 46 [(0, rc 3)] [vi 0, rc 3] ((S, T), Y) _
      refine go_goto (off := 4) (tgt := 50) (by decide +kernel) (by decide) ?_
      refine go_pick [] rfl ?_; exact key _ (by rw [if_pos q2])
    · refine go_icmp_ne (off := 7) (tgt := 49) (by decide +kernel) (by decide) (fun _ => ?_) (fun z => absurd z q2)
      refine go_blk rfl [(.iconst 3, 1, 0, 0, 0, .inl 3)] 49 50 _ _ _ (by decide +kernel) ?_
      show Go _ _ _ _ _ _ 50 [(0, rc 3)] [vi 3, rc 3] ((S, T), Y) _
      refine go_pick [] rfl ?_; exact key _ (by rw [if_neg q2])
  · refine go_icmp_eq (off := 23) (tgt := 32) (by decide +kernel) (by decide) (fun z => absurd z q1) (fun _ => ?_)
    refine go_blk rfl [(.aload_n 0, 1, 0, 0, 0, .inl 0), (.getfield 35, 3, 5, 0, 1, .inl 0), (.getfield 66, 3, 9, 4, 0, .inl 0), (.iconst 1, 1, 0, 0, 0, .inl 1)] 12 20 _ _ _ (by decide +kernel) ?_
    refine And.intro (lc_t3 hT) (Exists.intro _ (And.intro (gRc (lc_r5_0 hT)) ?_))
    refine And.intro (lc_t1 hT) ?_
    show Go _ _ _ _ _ _ 20 [(0, rc 3)] [vi 1, vi (S.1 1 4)] ((S, T), Y) _
    refine ite_el h (fun q3 h => ?_) (fun q3 h => ?_)
    · refine go_icmp_eq (off := 12) (tgt := 32) (by decide +kernel) (by decide) (fun _ => ?_) (fun z => absurd q3 z)
      refine go_blk rfl [(.aload_n 0, 1, 0, 0, 0, .inl 0), (.aload_n 0, 1, 0, 0, 0, .inl 0), (.getfield 35, 3, 5, 0, 1, .inl 0), (.getfield 66, 3, 9, 4, 0, .inl 0), (.bipush 8, 2, 0, 0, 0, .inl 8)] 32 42 _ _ _ (by decide +kernel) ?_
      refine And.intro (lc_t3 hT) (Exists.intro _ (And.intro (gRc (lc_r5_0 hT)) ?_))
      refine And.intro (lc_t1 hT) ?_
      show Go _ _ _ _ _ _ 42 [(0, rc 3)] [vi 8, vi (S.1 1 4), rc 3] ((S, T), Y) _
      have key : ∀ z0 : Int32, z0 = ((if (S.1 1 4) = 8 then 0 else 3) : Int32) → Go M5_takeBehindClause 2 0 0 0 0 50 [] [vi z0, rc 3] ((S, T), Y) (eqQ (some (vi x)) ((S1, T), Y)) := by
        intro z0 ez0
        subst ez0
        refine go_blk rfl [(.putfield 32, 3, 5, 6, 0, .inl 0)] 50 53 _ _ _ (by decide +kernel) ?_
        refine And.intro (lc_t3 hT) (And.intro trivial ?_)
        show Go _ _ _ _ _ _ 53 [] [] ((wI S 3 6 (((if (S.1 1 4) = 8 then 0 else 3) : Int32)), T), Y) _
        refine go_blk rfl [(.iconst 1, 1, 0, 0, 0, .inl 1)] 53 54 _ _ _ (by decide +kernel) ?_
        show Go _ _ _ _ _ _ 54 [] [vi 1] ((wI S 3 6 (((if (S.1 1 4) = 8 then 0 else 3) : Int32)), T), Y) _
        obtain ⟨rfl, rfl⟩ := Prod.mk.inj (Option.some.inj h)
        exact go_ireturn (by decide +kernel) rfl rfl ⟨rfl, rfl⟩
      clear h
      by_cases q4 : (S.1 1 4) = 8
      · refine go_icmp_ne (off := 7) (tgt := 49) (by decide +kernel) (by decide) (fun z => absurd q4 z) (fun _ => ?_)
        refine go_blk rfl [(.iconst 0, 1, 0, 0, 0, .inl 0)] 45 46 _ _ _ (by decide +kernel) ?_
        show Go _ _ _ _ _ _ 46 [(0, rc 3)] [vi 0, rc 3] ((S, T), Y) _
        refine go_goto (off := 4) (tgt := 50) (by decide +kernel) (by decide) ?_
        refine go_pick [] rfl ?_; exact key _ (by rw [if_pos q4])
      · refine go_icmp_ne (off := 7) (tgt := 49) (by decide +kernel) (by decide) (fun _ => ?_) (fun z => absurd z q4)
        refine go_blk rfl [(.iconst 3, 1, 0, 0, 0, .inl 3)] 49 50 _ _ _ (by decide +kernel) ?_
        show Go _ _ _ _ _ _ 50 [(0, rc 3)] [vi 3, rc 3] ((S, T), Y) _
        refine go_pick [] rfl ?_; exact key _ (by rw [if_neg q4])
    · refine go_icmp_eq (off := 12) (tgt := 32) (by decide +kernel) (by decide) (fun z => absurd z q3) (fun _ => ?_)
      refine go_blk rfl [(.aload_n 0, 1, 0, 0, 0, .inl 0), (.getfield 35, 3, 5, 0, 1, .inl 0), (.iconst 0, 1, 0, 0, 0, .inl 0)] 23 28 _ _ _ (by decide +kernel) ?_
      refine And.intro (lc_t3 hT) (Exists.intro _ (And.intro (gRc (lc_r5_0 hT)) ?_))
      show Go _ _ _ _ _ _ 28 [(0, rc 3)] [vi 0, rc 1] ((S, T), Y) _
      obtain ⟨r1, hr1, h⟩ := bind_el h
      refine go_callV (idx := 69) (z := 1) (M' := M9_fail) (n := 1) (A := [vi 0]) (v' := some (vi r1.2)) (μ' := ((r1.1, T), Y)) (d' := 1) (mc' := 0) (ms' := 0) (kc' := 0) (ks' := 0) (ci := 9) (x := .inl 1) (by decide +kernel) ml_5_69 rfl wv9_fail rfl (by decide) rfl (lc_t1 hT) (ret9_fail hT hr1) (by decide) rfl rfl (Nat.le_of_ble_eq_true rfl) rfl (jag rfl rfl) ?_
      show Go _ _ _ _ _ _ 31 [(0, rc 3)] [vi r1.2] ((r1.1, T), Y) _
      refine gd_el h (fun q h => ?_)
      obtain ⟨rfl, rfl⟩ := Prod.mk.inj (Option.some.inj h)
      exact go_ireturn (by decide +kernel) rfl (by rcases q with q | q <;> rw [q] <;> rfl) ⟨rfl, rfl⟩
def f5_takeSign (S : jS) : Option (jS × Int32) := (if (S.1 3 6) = 0 then Option.bind (f5_takeWord S) (fun r1 => (if r1.2 = 0 ∨ r1.2 = 1 then some (r1.1, r1.2) else none)) else (if (S.1 3 6) = 1 then Option.bind (f5_takeNumber S) (fun r2 => (if r2.2 = 0 ∨ r2.2 = 1 then some (r2.1, r2.2) else none)) else Option.bind (f5_takeBehindClause S) (fun r3 => (if r3.2 = 0 ∨ r3.2 = 1 then some (r3.1, r3.2) else none))))
theorem ret5_takeSign {S : jS} {T : jT} {Y : jS × jT} {S1 : jS} {x : Int32} (hT : LayC T) (h : f5_takeSign S = some (S1, x)) : Ret M5_takeSign 4 0 0 [rc 3] ((S, T), Y) (some (vi x)) ((S1, T), Y) := by
  refine Ret.of (by decide +kernel) (Nat.le_of_ble_eq_true rfl) ?_
  unfold f5_takeSign at h
  show Go _ _ _ _ _ _ 0 [(0, rc 3)] [] ((S, T), Y) _
  refine go_blk rfl [(.aload_n 0, 1, 0, 0, 0, .inl 0), (.getfield 32, 3, 5, 6, 0, .inl 0)] 0 4 _ _ _ (by decide +kernel) ?_
  refine And.intro (lc_t3 hT) ?_
  show Go _ _ _ _ _ _ 4 [(0, rc 3)] [vi (S.1 3 6)] ((S, T), Y) _
  refine ite_el h (fun q1 h => ?_) (fun q1 h => ?_)
  · refine go_lookup (dflt := 38) (ps := #[(0, 28), (1, 33)]) (len := 28) (off := 28) (tgt := 32) (by decide +kernel) (by decide) (by rw [q1]; decide) (by decide) ?_
    refine go_blk rfl [(.aload_n 0, 1, 0, 0, 0, .inl 0)] 32 33 _ _ _ (by decide +kernel) ?_
    show Go _ _ _ _ _ _ 33 [(0, rc 3)] [rc 3] ((S, T), Y) _
    obtain ⟨r1, hr1, h⟩ := bind_el h
    refine go_callV (idx := 57) (z := 0) (M' := M5_takeWord) (n := 0) (A := []) (v' := some (vi r1.2)) (μ' := ((r1.1, T), Y)) (d' := 2) (mc' := 0) (ms' := 0) (kc' := 0) (ks' := 0) (ci := 5) (x := .inl 3) (by decide +kernel) ml_5_57 rfl wv5_takeWord rfl (by decide) rfl (lc_t3 hT) (ret5_takeWord hT hr1) (by decide) rfl rfl (Nat.le_of_ble_eq_true rfl) rfl (jag rfl rfl) ?_
    show Go _ _ _ _ _ _ 36 [(0, rc 3)] [vi r1.2] ((r1.1, T), Y) _
    refine gd_el h (fun q h => ?_)
    obtain ⟨rfl, rfl⟩ := Prod.mk.inj (Option.some.inj h)
    exact go_ireturn (by decide +kernel) rfl (by rcases q with q | q <;> rw [q] <;> rfl) ⟨rfl, rfl⟩
  refine ite_el h (fun q2 h => ?_) (fun q2 h => ?_)
  · refine go_lookup (dflt := 38) (ps := #[(0, 28), (1, 33)]) (len := 28) (off := 33) (tgt := 37) (by decide +kernel) (by decide) (by rw [q2]; decide) (by decide) ?_
    refine go_blk rfl [(.aload_n 0, 1, 0, 0, 0, .inl 0)] 37 38 _ _ _ (by decide +kernel) ?_
    show Go _ _ _ _ _ _ 38 [(0, rc 3)] [rc 3] ((S, T), Y) _
    obtain ⟨r2, hr2, h⟩ := bind_el h
    refine go_callV (idx := 60) (z := 0) (M' := M5_takeNumber) (n := 0) (A := []) (v' := some (vi r2.2)) (μ' := ((r2.1, T), Y)) (d' := 3) (mc' := 0) (ms' := 0) (kc' := 0) (ks' := 0) (ci := 5) (x := .inl 3) (by decide +kernel) ml_5_60 rfl wv5_takeNumber rfl (by decide) rfl (lc_t3 hT) (ret5_takeNumber hT hr2) (by decide) rfl rfl (Nat.le_of_ble_eq_true rfl) rfl (jag rfl rfl) ?_
    show Go _ _ _ _ _ _ 41 [(0, rc 3)] [vi r2.2] ((r2.1, T), Y) _
    refine gd_el h (fun q h => ?_)
    obtain ⟨rfl, rfl⟩ := Prod.mk.inj (Option.some.inj h)
    exact go_ireturn (by decide +kernel) rfl (by rcases q with q | q <;> rw [q] <;> rfl) ⟨rfl, rfl⟩
  refine go_lookup (dflt := 38) (ps := #[(0, 28), (1, 33)]) (len := 28) (off := 38) (tgt := 42) (by decide +kernel) (by decide) (by have z0 : (S.1 3 6).toInt ≠ 0 := tb_ne q1 (by decide); have z1 : (S.1 3 6).toInt ≠ 1 := tb_ne q2 (by decide); exact lk_out _ _ _ (by simp only [List.forall_mem_cons, List.not_mem_nil]; refine ⟨by intro z; omega, by intro z; omega, fun _ z => nomatch z⟩)) (by decide) ?_
  refine go_blk rfl [(.aload_n 0, 1, 0, 0, 0, .inl 0)] 42 43 _ _ _ (by decide +kernel) ?_
  show Go _ _ _ _ _ _ 43 [(0, rc 3)] [rc 3] ((S, T), Y) _
  obtain ⟨r3, hr3, h⟩ := bind_el h
  refine go_callV (idx := 63) (z := 0) (M' := M5_takeBehindClause) (n := 0) (A := []) (v' := some (vi r3.2)) (μ' := ((r3.1, T), Y)) (d' := 2) (mc' := 0) (ms' := 0) (kc' := 0) (ks' := 0) (ci := 5) (x := .inl 3) (by decide +kernel) ml_5_63 rfl wv5_takeBehindClause rfl (by decide) rfl (lc_t3 hT) (ret5_takeBehindClause hT hr3) (by decide) rfl rfl (Nat.le_of_ble_eq_true rfl) rfl (jag rfl rfl) ?_
  show Go _ _ _ _ _ _ 46 [(0, rc 3)] [vi r3.2] ((r3.1, T), Y) _
  refine gd_el h (fun q h => ?_)
  obtain ⟨rfl, rfl⟩ := Prod.mk.inj (Option.some.inj h)
  exact go_ireturn (by decide +kernel) rfl (by rcases q with q | q <;> rw [q] <;> rfl) ⟨rfl, rfl⟩
def f5_read_L1  : Nat → jS → Int32 → Option (jS × Int32)
  | 0, _, _ => none
  | n + 1, S, l1 => (if 400 < l1 then some (S, 0) else (if (S.1 3 6) = 3 then some (S, 0) else Option.bind (f9_readSign S) (fun r3 => Option.bind (f5_takeSign r3.1) (fun r4 => (if r4.2 = 0 then some (r4.1, r4.1.1 1 6) else f5_read_L1 n r4.1 (l1 + 1))))))
def f5_read (S : jS) : Option (jS × Int32) := Option.bind (f9_rewind S) (fun r1 => Option.bind (f4_clear r1.1 4) (fun r2 => f5_read_L1 jF (wI (wI r2.1 3 5 0) 3 6 0) 0))
theorem f5_read_L1_ok {T : jT} {Y : jS × jT} {S1 : jS} {x : Int32} (hT : LayC T) : ∀ (n : Nat) (S : jS) (l1 : Int32), f5_read_L1 n S l1 = some (S1, x) → Go M5_read 8 0 0 0 0 26 [(0, rc 3), (1, vi l1)] [] ((S, T), Y) (eqQ (some (vi x)) ((S1, T), Y)) := by
  intro n
  induction n with
  | zero => intro S l1 h; exact absurd h (by intro z; cases z)
  | succ n ih =>
    intro S l1 h
    rw [f5_read_L1] at h
    refine go_blk rfl [(.iload_n 1, 1, 1, 0, 0, .inl 0), (.sipush 400, 3, 0, 0, 0, .inl 400)] 26 30 _ _ _ (by decide +kernel) ?_
    show Go _ _ _ _ _ _ 30 [(0, rc 3), (1, vi l1)] [vi 400, vi l1] ((S, T), Y) _
    refine ite_el h (fun q1 h => ?_) (fun q1 h => ?_)
    · refine go_icmp_gt (off := 39) (tgt := 69) (by decide +kernel) (by decide) (fun _ => ?_) (fun z => absurd q1 z)
      refine go_blk rfl [(.iconst 0, 1, 0, 0, 0, .inl 0)] 69 70 _ _ _ (by decide +kernel) ?_
      show Go _ _ _ _ _ _ 70 [(0, rc 3), (1, vi l1)] [vi 0] ((S, T), Y) _
      obtain ⟨rfl, rfl⟩ := Prod.mk.inj (Option.some.inj h)
      exact go_ireturn (by decide +kernel) rfl rfl ⟨rfl, rfl⟩
    · refine go_icmp_gt (off := 39) (tgt := 69) (by decide +kernel) (by decide) (fun z => absurd z q1) (fun _ => ?_)
      refine go_blk rfl [(.aload_n 0, 1, 0, 0, 0, .inl 0), (.getfield 32, 3, 5, 6, 0, .inl 0), (.iconst 3, 1, 0, 0, 0, .inl 3)] 33 38 _ _ _ (by decide +kernel) ?_
      refine And.intro (lc_t3 hT) ?_
      show Go _ _ _ _ _ _ 38 [(0, rc 3), (1, vi l1)] [vi 3, vi (S.1 3 6)] ((S, T), Y) _
      refine ite_el h (fun q2 h => ?_) (fun q2 h => ?_)
      · refine go_icmp_eq (off := 31) (tgt := 69) (by decide +kernel) (by decide) (fun _ => ?_) (fun z => absurd q2 z)
        refine go_blk rfl [(.iconst 0, 1, 0, 0, 0, .inl 0)] 69 70 _ _ _ (by decide +kernel) ?_
        show Go _ _ _ _ _ _ 70 [(0, rc 3), (1, vi l1)] [vi 0] ((S, T), Y) _
        obtain ⟨rfl, rfl⟩ := Prod.mk.inj (Option.some.inj h)
        exact go_ireturn (by decide +kernel) rfl rfl ⟨rfl, rfl⟩
      · refine go_icmp_eq (off := 31) (tgt := 69) (by decide +kernel) (by decide) (fun z => absurd z q2) (fun _ => ?_)
        refine go_blk rfl [(.aload_n 0, 1, 0, 0, 0, .inl 0), (.getfield 35, 3, 5, 0, 1, .inl 0)] 41 45 _ _ _ (by decide +kernel) ?_
        refine And.intro (lc_t3 hT) (Exists.intro _ (And.intro (gRc (lc_r5_0 hT)) ?_))
        show Go _ _ _ _ _ _ 45 [(0, rc 3), (1, vi l1)] [rc 1] ((S, T), Y) _
        obtain ⟨r3, hr3, h⟩ := bind_el h
        refine go_callV (idx := 47) (z := 1) (M' := M9_readSign) (n := 0) (A := []) (v' := none) (μ' := ((r3.1, T), Y)) (d' := 7) (mc' := 0) (ms' := 0) (kc' := 0) (ks' := 0) (ci := 9) (x := .inl 1) (by decide +kernel) ml_5_47 rfl wv9_readSign rfl (by decide) rfl (lc_t1 hT) (ret9_readSign hT hr3) (by decide) rfl rfl (Nat.le_of_ble_eq_true rfl) rfl (jag rfl rfl) ?_
        show Go _ _ _ _ _ _ 48 [(0, rc 3), (1, vi l1)] [] ((r3.1, T), Y) _
        refine go_blk rfl [(.aload_n 0, 1, 0, 0, 0, .inl 0)] 48 49 _ _ _ (by decide +kernel) ?_
        show Go _ _ _ _ _ _ 49 [(0, rc 3), (1, vi l1)] [rc 3] ((r3.1, T), Y) _
        obtain ⟨r4, hr4, h⟩ := bind_el h
        refine go_callV (idx := 50) (z := 0) (M' := M5_takeSign) (n := 0) (A := []) (v' := some (vi r4.2)) (μ' := ((r4.1, T), Y)) (d' := 4) (mc' := 0) (ms' := 0) (kc' := 0) (ks' := 0) (ci := 5) (x := .inl 3) (by decide +kernel) ml_5_50 rfl wv5_takeSign rfl (by decide) rfl (lc_t3 hT) (ret5_takeSign hT hr4) (by decide) rfl rfl (Nat.le_of_ble_eq_true rfl) rfl (jag rfl rfl) ?_
        show Go _ _ _ _ _ _ 52 [(0, rc 3), (1, vi l1)] [vi r4.2] ((r4.1, T), Y) _
        refine ite_el h (fun q3 h => ?_) (fun q3 h => ?_)
        · refine go_if_ne (off := 11) (tgt := 63) (by decide +kernel) (by decide) (fun z => absurd q3 z) (fun _ => ?_)
          refine go_blk rfl [(.aload_n 0, 1, 0, 0, 0, .inl 0), (.getfield 35, 3, 5, 0, 1, .inl 0), (.getfield 54, 3, 9, 6, 0, .inl 0)] 55 62 _ _ _ (by decide +kernel) ?_
          refine And.intro (lc_t3 hT) (Exists.intro _ (And.intro (gRc (lc_r5_0 hT)) ?_))
          refine And.intro (lc_t1 hT) ?_
          show Go _ _ _ _ _ _ 62 [(0, rc 3), (1, vi l1)] [vi (r4.1.1 1 6)] ((r4.1, T), Y) _
          obtain ⟨rfl, rfl⟩ := Prod.mk.inj (Option.some.inj h)
          exact go_ireturn (by decide +kernel) rfl rfl ⟨rfl, rfl⟩
        · refine go_if_ne (off := 11) (tgt := 63) (by decide +kernel) (by decide) (fun _ => ?_) (fun z => absurd z q3)
          refine go_blk rfl [(.iinc 1 1, 3, 1, 0, 0, .inl 1)] 63 66 _ _ _ (by decide +kernel) ?_
          show Go _ _ _ _ _ _ 66 [(1, vi (l1 + 1)), (0, rc 3)] [] ((r4.1, T), Y) _
          refine go_goto (off := (-40)) (tgt := 26) (by decide +kernel) (by decide) ?_
          refine go_pick [1, 0] rfl ?_
          exact ih _ _ h
theorem ret5_read {S : jS} {T : jT} {Y : jS × jT} {S1 : jS} {x : Int32} (hT : LayC T) (h : f5_read S = some (S1, x)) : Ret M5_read 8 0 0 [rc 3] ((S, T), Y) (some (vi x)) ((S1, T), Y) := by
  refine Ret.of (by decide +kernel) (Nat.le_of_ble_eq_true rfl) ?_
  unfold f5_read at h
  show Go _ _ _ _ _ _ 0 [(0, rc 3)] [] ((S, T), Y) _
  refine go_blk rfl [(.aload_n 0, 1, 0, 0, 0, .inl 0), (.getfield 35, 3, 5, 0, 1, .inl 0)] 0 4 _ _ _ (by decide +kernel) ?_
  refine And.intro (lc_t3 hT) (Exists.intro _ (And.intro (gRc (lc_r5_0 hT)) ?_))
  show Go _ _ _ _ _ _ 4 [(0, rc 3)] [rc 1] ((S, T), Y) _
  obtain ⟨r1, hr1, h⟩ := bind_el h
  refine go_callV (idx := 39) (z := 1) (M' := M9_rewind) (n := 0) (A := []) (v' := none) (μ' := ((r1.1, T), Y)) (d' := 1) (mc' := 0) (ms' := 0) (kc' := 0) (ks' := 0) (ci := 9) (x := .inl 1) (by decide +kernel) ml_5_39 rfl wv9_rewind rfl (by decide) rfl (lc_t1 hT) (ret9_rewind hT hr1) (by decide) rfl rfl (Nat.le_of_ble_eq_true rfl) rfl (jag rfl rfl) ?_
  show Go _ _ _ _ _ _ 7 [(0, rc 3)] [] ((r1.1, T), Y) _
  refine go_blk rfl [(.aload_n 0, 1, 0, 0, 0, .inl 0), (.getfield 12, 3, 5, 1, 1, .inl 0)] 7 11 _ _ _ (by decide +kernel) ?_
  refine And.intro (lc_t3 hT) (Exists.intro _ (And.intro (gRc (lc_r5_1 hT)) ?_))
  show Go _ _ _ _ _ _ 11 [(0, rc 3)] [rc 4] ((r1.1, T), Y) _
  obtain ⟨r2, hr2, h⟩ := bind_el h
  refine go_callV (idx := 44) (z := 1) (M' := M4_clear) (n := 0) (A := []) (v' := none) (μ' := ((r2.1, T), Y)) (d' := 1) (mc' := 0) (ms' := 0) (kc' := 0) (ks' := 0) (ci := 4) (x := .inl 4) (by decide +kernel) ml_5_44 rfl wv4_clear rfl (by decide) rfl (lc_h4 hT).1 (ret4_clear (lc_h4 hT) hr2) (by decide) rfl rfl (Nat.le_of_ble_eq_true rfl) rfl (jag rfl rfl) ?_
  show Go _ _ _ _ _ _ 14 [(0, rc 3)] [] ((r2.1, T), Y) _
  refine go_blk rfl [(.aload_n 0, 1, 0, 0, 0, .inl 0), (.iconst 0, 1, 0, 0, 0, .inl 0), (.putfield 29, 3, 5, 5, 0, .inl 0)] 14 19 _ _ _ (by decide +kernel) ?_
  refine And.intro (lc_t3 hT) (And.intro trivial ?_)
  show Go _ _ _ _ _ _ 19 [(0, rc 3)] [] ((wI r2.1 3 5 0, T), Y) _
  refine go_blk rfl [(.aload_n 0, 1, 0, 0, 0, .inl 0), (.iconst 0, 1, 0, 0, 0, .inl 0), (.putfield 32, 3, 5, 6, 0, .inl 0)] 19 24 _ _ _ (by decide +kernel) ?_
  refine And.intro (lc_t3 hT) (And.intro trivial ?_)
  show Go _ _ _ _ _ _ 24 [(0, rc 3)] [] ((wI (wI r2.1 3 5 0) 3 6 0, T), Y) _
  refine go_blk rfl [(.iconst 0, 1, 0, 0, 0, .inl 0), (.istore_n 1, 1, 1, 0, 0, .inl 0)] 24 26 _ _ _ (by decide +kernel) ?_
  show Go _ _ _ _ _ _ 26 [(1, vi 0), (0, rc 3)] [] ((wI (wI r2.1 3 5 0) 3 6 0, T), Y) _
  refine go_pick [1, 0] rfl ?_
  exact f5_read_L1_ok hT _ _ _ h
def f7_takePlay (S : jS) : Option (jS × Int32) := (if (S.1 1 4) = ((-24)) then (if (S.1 12 6) < 12 then some (wI (wI (wI S 12 6 ((S.1 12 6) + 1)) 12 9 0) 12 5 2, 1) else Option.bind (f9_fail S 4) (fun r1 => (if r1.2 = 0 ∨ r1.2 = 1 then some (r1.1, r1.2) else none))) else Option.bind (f9_fail S 0) (fun r2 => (if r2.2 = 0 ∨ r2.2 = 1 then some (r2.1, r2.2) else none)))
theorem ret7_takePlay {S : jS} {T : jT} {Y : jS × jT} {S1 : jS} {x : Int32} (hT : LayC T) (h : f7_takePlay S = some (S1, x)) : Ret M7_takePlay 2 0 0 [rc 12] ((S, T), Y) (some (vi x)) ((S1, T), Y) := by
  refine Ret.of (by decide +kernel) (Nat.le_of_ble_eq_true rfl) ?_
  unfold f7_takePlay at h
  show Go _ _ _ _ _ _ 0 [(0, rc 12)] [] ((S, T), Y) _
  refine go_blk rfl [(.aload_n 0, 1, 0, 0, 0, .inl 0), (.getfield 44, 3, 7, 0, 1, .inl 0), (.getfield 89, 3, 9, 4, 0, .inl 0), (.bipush (-24), 2, 0, 0, 0, .inl (-24))] 0 9 _ _ _ (by decide +kernel) ?_
  refine And.intro (lc_t12 hT) (Exists.intro _ (And.intro (gRc (lc_r7_0 hT)) ?_))
  refine And.intro (lc_t1 hT) ?_
  show Go _ _ _ _ _ _ 9 [(0, rc 12)] [vi ((-24)), vi (S.1 1 4)] ((S, T), Y) _
  refine ite_el h (fun q1 h => ?_) (fun q1 h => ?_)
  · refine go_icmp_eq (off := 12) (tgt := 21) (by decide +kernel) (by decide) (fun _ => ?_) (fun z => absurd q1 z)
    refine go_blk rfl [(.aload_n 0, 1, 0, 0, 0, .inl 0), (.getfield 28, 3, 7, 6, 0, .inl 0), (.bipush 12, 2, 0, 0, 0, .inl 12)] 21 27 _ _ _ (by decide +kernel) ?_
    refine And.intro (lc_t12 hT) ?_
    show Go _ _ _ _ _ _ 27 [(0, rc 12)] [vi 12, vi (S.1 12 6)] ((S, T), Y) _
    refine ite_el h (fun q2 h => ?_) (fun q2 h => ?_)
    · refine go_icmp_lt (off := 12) (tgt := 39) (by decide +kernel) (by decide) (fun _ => ?_) (fun z => absurd q2 z)
      refine go_blk rfl [(.aload_n 0, 1, 0, 0, 0, .inl 0), (.dup, 1, 0, 0, 0, .inl 0), (.getfield 28, 3, 7, 6, 0, .inl 0), (.iconst 1, 1, 0, 0, 0, .inl 1), (.iadd, 1, 0, 0, 0, .inl 0), (.putfield 28, 3, 7, 6, 0, .inl 0)] 39 49 _ _ _ (by decide +kernel) ?_
      refine And.intro (lc_t12 hT) ?_
      refine And.intro (lc_t12 hT) (And.intro trivial ?_)
      show Go _ _ _ _ _ _ 49 [(0, rc 12)] [] ((wI S 12 6 ((S.1 12 6) + 1), T), Y) _
      refine go_blk rfl [(.aload_n 0, 1, 0, 0, 0, .inl 0), (.iconst 0, 1, 0, 0, 0, .inl 0), (.putfield 37, 3, 7, 9, 2, .inl 0)] 49 54 _ _ _ (by decide +kernel) ?_
      refine And.intro (lc_t12 hT) (And.intro ⟨rfl, Or.inl rfl⟩ ?_)
      show Go _ _ _ _ _ _ 54 [(0, rc 12)] [] ((wI (wI S 12 6 ((S.1 12 6) + 1)) 12 9 0, T), Y) _
      refine go_blk rfl [(.aload_n 0, 1, 0, 0, 0, .inl 0), (.iconst 2, 1, 0, 0, 0, .inl 2), (.putfield 25, 3, 7, 5, 0, .inl 0)] 54 59 _ _ _ (by decide +kernel) ?_
      refine And.intro (lc_t12 hT) (And.intro trivial ?_)
      show Go _ _ _ _ _ _ 59 [(0, rc 12)] [] ((wI (wI (wI S 12 6 ((S.1 12 6) + 1)) 12 9 0) 12 5 2, T), Y) _
      refine go_blk rfl [(.iconst 1, 1, 0, 0, 0, .inl 1)] 59 60 _ _ _ (by decide +kernel) ?_
      show Go _ _ _ _ _ _ 60 [(0, rc 12)] [vi 1] ((wI (wI (wI S 12 6 ((S.1 12 6) + 1)) 12 9 0) 12 5 2, T), Y) _
      obtain ⟨rfl, rfl⟩ := Prod.mk.inj (Option.some.inj h)
      exact go_ireturn (by decide +kernel) rfl rfl ⟨rfl, rfl⟩
    · refine go_icmp_lt (off := 12) (tgt := 39) (by decide +kernel) (by decide) (fun z => absurd z q2) (fun _ => ?_)
      refine go_blk rfl [(.aload_n 0, 1, 0, 0, 0, .inl 0), (.getfield 44, 3, 7, 0, 1, .inl 0), (.iconst 4, 1, 0, 0, 0, .inl 4)] 30 35 _ _ _ (by decide +kernel) ?_
      refine And.intro (lc_t12 hT) (Exists.intro _ (And.intro (gRc (lc_r7_0 hT)) ?_))
      show Go _ _ _ _ _ _ 35 [(0, rc 12)] [vi 4, rc 1] ((S, T), Y) _
      obtain ⟨r1, hr1, h⟩ := bind_el h
      refine go_callV (idx := 92) (z := 1) (M' := M9_fail) (n := 1) (A := [vi 4]) (v' := some (vi r1.2)) (μ' := ((r1.1, T), Y)) (d' := 1) (mc' := 0) (ms' := 0) (kc' := 0) (ks' := 0) (ci := 9) (x := .inl 1) (by decide +kernel) ml_7_92 rfl wv9_fail rfl (by decide) rfl (lc_t1 hT) (ret9_fail hT hr1) (by decide) rfl rfl (Nat.le_of_ble_eq_true rfl) rfl (jag rfl rfl) ?_
      show Go _ _ _ _ _ _ 38 [(0, rc 12)] [vi r1.2] ((r1.1, T), Y) _
      refine gd_el h (fun q h => ?_)
      obtain ⟨rfl, rfl⟩ := Prod.mk.inj (Option.some.inj h)
      exact go_ireturn (by decide +kernel) rfl (by rcases q with q | q <;> rw [q] <;> rfl) ⟨rfl, rfl⟩
  · refine go_icmp_eq (off := 12) (tgt := 21) (by decide +kernel) (by decide) (fun z => absurd z q1) (fun _ => ?_)
    refine go_blk rfl [(.aload_n 0, 1, 0, 0, 0, .inl 0), (.getfield 44, 3, 7, 0, 1, .inl 0), (.iconst 0, 1, 0, 0, 0, .inl 0)] 12 17 _ _ _ (by decide +kernel) ?_
    refine And.intro (lc_t12 hT) (Exists.intro _ (And.intro (gRc (lc_r7_0 hT)) ?_))
    show Go _ _ _ _ _ _ 17 [(0, rc 12)] [vi 0, rc 1] ((S, T), Y) _
    obtain ⟨r2, hr2, h⟩ := bind_el h
    refine go_callV (idx := 92) (z := 1) (M' := M9_fail) (n := 1) (A := [vi 0]) (v' := some (vi r2.2)) (μ' := ((r2.1, T), Y)) (d' := 1) (mc' := 0) (ms' := 0) (kc' := 0) (ks' := 0) (ci := 9) (x := .inl 1) (by decide +kernel) ml_7_92 rfl wv9_fail rfl (by decide) rfl (lc_t1 hT) (ret9_fail hT hr2) (by decide) rfl rfl (Nat.le_of_ble_eq_true rfl) rfl (jag rfl rfl) ?_
    show Go _ _ _ _ _ _ 20 [(0, rc 12)] [vi r2.2] ((r2.1, T), Y) _
    refine gd_el h (fun q h => ?_)
    obtain ⟨rfl, rfl⟩ := Prod.mk.inj (Option.some.inj h)
    exact go_ireturn (by decide +kernel) rfl (by rcases q with q | q <;> rw [q] <;> rfl) ⟨rfl, rfl⟩
def f7_emit (S : jS) (a0 : Int32) : Option (jS × Unit) := (if 400 ≤ (S.1 12 2) then some (S, ()) else (if inb (S.1 12 2) 400 then some (wI (wI S 13 (S.1 12 2).toNatClampNeg a0) 12 2 (((wI S 13 (S.1 12 2).toNatClampNeg a0).1 12 2) + 1), ()) else none))
theorem ret7_emit {S : jS} {T : jT} {Y : jS × jT} {a0 : Int32} {S1 : jS} {x : Unit} (hT : LayC T) (h : f7_emit S a0 = some (S1, x)) : Ret M7_emit 1 0 0 [rc 12, vi a0] ((S, T), Y) (none) ((S1, T), Y) := by
  refine Ret.of (by decide +kernel) (Nat.le_of_ble_eq_true rfl) ?_
  unfold f7_emit at h
  show Go _ _ _ _ _ _ 0 [(0, rc 12), (1, vi a0)] [] ((S, T), Y) _
  refine go_blk rfl [(.aload_n 0, 1, 0, 0, 0, .inl 0), (.getfield 15, 3, 7, 2, 0, .inl 0), (.sipush 400, 3, 0, 0, 0, .inl 400)] 0 7 _ _ _ (by decide +kernel) ?_
  refine And.intro (lc_t12 hT) ?_
  show Go _ _ _ _ _ _ 7 [(0, rc 12), (1, vi a0)] [vi 400, vi (S.1 12 2)] ((S, T), Y) _
  refine ite_el h (fun q1 h => ?_) (fun q1 h => ?_)
  · refine go_icmp_ge (off := 23) (tgt := 30) (by decide +kernel) (by decide) (fun _ => ?_) (fun z => absurd q1 z)
    obtain ⟨rfl, rfl⟩ := Prod.mk.inj (Option.some.inj h)
    exact go_return (by decide +kernel) rfl ⟨rfl, rfl⟩
  · refine go_icmp_ge (off := 23) (tgt := 30) (by decide +kernel) (by decide) (fun z => absurd z q1) (fun _ => ?_)
    refine gd_el h (fun q2 h => ?_)
    refine go_blk rfl [(.aload_n 0, 1, 0, 0, 0, .inl 0), (.getfield 9, 3, 7, 1, 1, .inl 0), (.aload_n 0, 1, 0, 0, 0, .inl 0), (.getfield 15, 3, 7, 2, 0, .inl 0), (.iload_n 1, 1, 1, 0, 0, .inl 0), (.iastore, 1, 20, 0, 0, .inl 0)] 10 20 _ _ _ (by decide +kernel) ?_
    refine And.intro (lc_t12 hT) (Exists.intro _ (And.intro (gRc (lc_r7_1 hT)) ?_))
    refine And.intro (lc_t12 hT) ?_
    refine And.intro (lc_t13 hT) (Exists.intro _ (And.intro (lc_n13 hT) (And.intro (inb_in q2) ?_)))
    show Go _ _ _ _ _ _ 20 [(0, rc 12), (1, vi a0)] [] ((wI S 13 (S.1 12 2).toNatClampNeg a0, T), Y) _
    refine go_blk rfl [(.aload_n 0, 1, 0, 0, 0, .inl 0), (.dup, 1, 0, 0, 0, .inl 0), (.getfield 15, 3, 7, 2, 0, .inl 0), (.iconst 1, 1, 0, 0, 0, .inl 1), (.iadd, 1, 0, 0, 0, .inl 0), (.putfield 15, 3, 7, 2, 0, .inl 0)] 20 30 _ _ _ (by decide +kernel) ?_
    refine And.intro (lc_t12 hT) ?_
    refine And.intro (lc_t12 hT) (And.intro trivial ?_)
    show Go _ _ _ _ _ _ 30 [(0, rc 12), (1, vi a0)] [] ((wI (wI S 13 (S.1 12 2).toNatClampNeg a0) 12 2 (((wI S 13 (S.1 12 2).toNatClampNeg a0).1 12 2) + 1), T), Y) _
    obtain ⟨rfl, rfl⟩ := Prod.mk.inj (Option.some.inj h)
    exact go_return (by decide +kernel) rfl ⟨rfl, rfl⟩
def f7_takeValue (S : jS) : Option (jS × Int32) := (if (((if (S.1 1 4) = 3 then 1 else 0) : Int32)) = 0 then (if (((if 0 ≤ (S.1 1 4) then 0 else (if (S.1 1 4) < ((-10)) then 0 else 1)) : Int32)) = 0 then Option.bind (f9_fail S (((if (S.1 1 4) = 4 then 1 else 0) : Int32))) (fun r1 => (if r1.2 = 0 ∨ r1.2 = 1 then some (r1.1, r1.2) else none)) else (if (S.1 12 7) < 60 then Option.bind (f7_emit (wI S 12 7 ((S.1 12 7) + 1)) (((if (((if (S.1 1 4) = 3 then 1 else 0) : Int32)) = 0 then ((wI S 12 7 ((S.1 12 7) + 1)).1 1 4) else ((wI S 12 7 ((S.1 12 7) + 1)).1 1 5)) : Int32))) (fun r2 => some (wI r2.1 12 5 3, 1)) else Option.bind (f9_fail S 3) (fun r3 => (if r3.2 = 0 ∨ r3.2 = 1 then some (r3.1, r3.2) else none)))) else (if (S.1 12 7) < 60 then Option.bind (f7_emit (wI S 12 7 ((S.1 12 7) + 1)) (((if (((if (S.1 1 4) = 3 then 1 else 0) : Int32)) = 0 then ((wI S 12 7 ((S.1 12 7) + 1)).1 1 4) else ((wI S 12 7 ((S.1 12 7) + 1)).1 1 5)) : Int32))) (fun r4 => some (wI r4.1 12 5 3, 1)) else Option.bind (f9_fail S 3) (fun r5 => (if r5.2 = 0 ∨ r5.2 = 1 then some (r5.1, r5.2) else none))))
theorem ret7_takeValue {S : jS} {T : jT} {Y : jS × jT} {S1 : jS} {x : Int32} (hT : LayC T) (h : f7_takeValue S = some (S1, x)) : Ret M7_takeValue 2 0 0 [rc 12] ((S, T), Y) (some (vi x)) ((S1, T), Y) := by
  refine Ret.of (by decide +kernel) (Nat.le_of_ble_eq_true rfl) ?_
  unfold f7_takeValue at h
  show Go _ _ _ _ _ _ 0 [(0, rc 12)] [] ((S, T), Y) _
  refine go_blk rfl [(.aload_n 0, 1, 0, 0, 0, .inl 0), (.getfield 44, 3, 7, 0, 1, .inl 0), (.getfield 89, 3, 9, 4, 0, .inl 0), (.iconst 3, 1, 0, 0, 0, .inl 3)] 0 8 _ _ _ (by decide +kernel) ?_
  refine And.intro (lc_t12 hT) (Exists.intro _ (And.intro (gRc (lc_r7_0 hT)) ?_))
  refine And.intro (lc_t1 hT) ?_
  show Go _ _ _ _ _ _ 8 [(0, rc 12)] [vi 3, vi (S.1 1 4)] ((S, T), Y) _
  have key : ∀ z0 : Int32, z0 = ((if (S.1 1 4) = 3 then 1 else 0) : Int32) → Go M7_takeValue 2 0 0 0 0 16 [(0, rc 12)] [vi z0] ((S, T), Y) (eqQ (some (vi x)) ((S1, T), Y)) := by
    intro z0 ez0
    subst ez0
    refine go_blk rfl [(.istore_n 1, 1, 1, 0, 0, .inl 0), (.aload_n 0, 1, 0, 0, 0, .inl 0), (.getfield 44, 3, 7, 0, 1, .inl 0), (.getfield 89, 3, 9, 4, 0, .inl 0)] 16 24 _ _ _ (by decide +kernel) ?_
    refine And.intro (lc_t12 hT) (Exists.intro _ (And.intro (gRc (lc_r7_0 hT)) ?_))
    refine And.intro (lc_t1 hT) ?_
    show Go _ _ _ _ _ _ 24 [(1, vi (((if (S.1 1 4) = 3 then 1 else 0) : Int32))), (0, rc 12)] [vi (S.1 1 4)] ((S, T), Y) _
    have key : ∀ z0 : Int32, z0 = ((if 0 ≤ (S.1 1 4) then 0 else (if (S.1 1 4) < ((-10)) then 0 else 1)) : Int32) → Go M7_takeValue 2 0 0 0 0 44 [(0, rc 12), (1, vi (((if (S.1 1 4) = 3 then 1 else 0) : Int32)))] [vi z0] ((S, T), Y) (eqQ (some (vi x)) ((S1, T), Y)) := by
      intro z0 ez0
      subst ez0
      refine go_blk rfl [(.istore_n 2, 1, 2, 0, 0, .inl 0), (.iload_n 1, 1, 1, 0, 0, .inl 0)] 44 46 _ _ _ (by decide +kernel) ?_
      show Go _ _ _ _ _ _ 46 [(2, vi (((if 0 ≤ (S.1 1 4) then 0 else (if (S.1 1 4) < ((-10)) then 0 else 1)) : Int32))), (0, rc 12), (1, vi (((if (S.1 1 4) = 3 then 1 else 0) : Int32)))] [vi (((if (S.1 1 4) = 3 then 1 else 0) : Int32))] ((S, T), Y) _
      refine ite_el h (fun q4 h => ?_) (fun q4 h => ?_)
      · refine go_if_ne (off := 31) (tgt := 77) (by decide +kernel) (by decide) (fun z => absurd q4 z) (fun _ => ?_)
        refine go_blk rfl [(.iload_n 2, 1, 2, 0, 0, .inl 0)] 49 50 _ _ _ (by decide +kernel) ?_
        show Go _ _ _ _ _ _ 50 [(2, vi (((if 0 ≤ (S.1 1 4) then 0 else (if (S.1 1 4) < ((-10)) then 0 else 1)) : Int32))), (0, rc 12), (1, vi (((if (S.1 1 4) = 3 then 1 else 0) : Int32)))] [vi (((if 0 ≤ (S.1 1 4) then 0 else (if (S.1 1 4) < ((-10)) then 0 else 1)) : Int32))] ((S, T), Y) _
        refine ite_el h (fun q5 h => ?_) (fun q5 h => ?_)
        · refine go_if_ne (off := 27) (tgt := 77) (by decide +kernel) (by decide) (fun z => absurd q5 z) (fun _ => ?_)
          refine go_blk rfl [(.aload_n 0, 1, 0, 0, 0, .inl 0), (.getfield 44, 3, 7, 0, 1, .inl 0), (.aload_n 0, 1, 0, 0, 0, .inl 0), (.getfield 44, 3, 7, 0, 1, .inl 0), (.getfield 89, 3, 9, 4, 0, .inl 0), (.iconst 4, 1, 0, 0, 0, .inl 4)] 53 65 _ _ _ (by decide +kernel) ?_
          refine And.intro (lc_t12 hT) (Exists.intro _ (And.intro (gRc (lc_r7_0 hT)) ?_))
          refine And.intro (lc_t12 hT) (Exists.intro _ (And.intro (gRc (lc_r7_0 hT)) ?_))
          refine And.intro (lc_t1 hT) ?_
          show Go _ _ _ _ _ _ 65 [(2, vi (((if 0 ≤ (S.1 1 4) then 0 else (if (S.1 1 4) < ((-10)) then 0 else 1)) : Int32))), (0, rc 12), (1, vi (((if (S.1 1 4) = 3 then 1 else 0) : Int32)))] [vi 4, vi (S.1 1 4), rc 1] ((S, T), Y) _
          have key : ∀ z0 : Int32, z0 = ((if (S.1 1 4) = 4 then 1 else 0) : Int32) → Go M7_takeValue 2 0 0 0 0 73 [] [vi z0, rc 1] ((S, T), Y) (eqQ (some (vi x)) ((S1, T), Y)) := by
            intro z0 ez0
            subst ez0
            obtain ⟨r1, hr1, h⟩ := bind_el h
            refine go_callV (idx := 92) (z := 1) (M' := M9_fail) (n := 1) (A := [vi (((if (S.1 1 4) = 4 then 1 else 0) : Int32))]) (v' := some (vi r1.2)) (μ' := ((r1.1, T), Y)) (d' := 1) (mc' := 0) (ms' := 0) (kc' := 0) (ks' := 0) (ci := 9) (x := .inl 1) (by decide +kernel) ml_7_92 rfl wv9_fail rfl (by decide) rfl (lc_t1 hT) (ret9_fail hT hr1) (by decide) rfl rfl (Nat.le_of_ble_eq_true rfl) rfl (jag rfl rfl) ?_
            show Go _ _ _ _ _ _ 76 [] [vi r1.2] ((r1.1, T), Y) _
            refine gd_el h (fun q h => ?_)
            obtain ⟨rfl, rfl⟩ := Prod.mk.inj (Option.some.inj h)
            exact go_ireturn (by decide +kernel) rfl (by rcases q with q | q <;> rw [q] <;> rfl) ⟨rfl, rfl⟩
          clear h
          by_cases q6 : (S.1 1 4) = 4
          · refine go_icmp_ne (off := 7) (tgt := 72) (by decide +kernel) (by decide) (fun z => absurd q6 z) (fun _ => ?_)
            refine go_blk rfl [(.iconst 1, 1, 0, 0, 0, .inl 1)] 68 69 _ _ _ (by decide +kernel) ?_
            show Go _ _ _ _ _ _ 69 [(2, vi (((if 0 ≤ (S.1 1 4) then 0 else (if (S.1 1 4) < ((-10)) then 0 else 1)) : Int32))), (0, rc 12), (1, vi (((if (S.1 1 4) = 3 then 1 else 0) : Int32)))] [vi 1, rc 1] ((S, T), Y) _
            refine go_goto (off := 4) (tgt := 73) (by decide +kernel) (by decide) ?_
            refine go_pick [] rfl ?_; exact key _ (by rw [if_pos q6])
          · refine go_icmp_ne (off := 7) (tgt := 72) (by decide +kernel) (by decide) (fun _ => ?_) (fun z => absurd z q6)
            refine go_blk rfl [(.iconst 0, 1, 0, 0, 0, .inl 0)] 72 73 _ _ _ (by decide +kernel) ?_
            show Go _ _ _ _ _ _ 73 [(2, vi (((if 0 ≤ (S.1 1 4) then 0 else (if (S.1 1 4) < ((-10)) then 0 else 1)) : Int32))), (0, rc 12), (1, vi (((if (S.1 1 4) = 3 then 1 else 0) : Int32)))] [vi 0, rc 1] ((S, T), Y) _
            refine go_pick [] rfl ?_; exact key _ (by rw [if_neg q6])
        · refine go_if_ne (off := 27) (tgt := 77) (by decide +kernel) (by decide) (fun _ => ?_) (fun z => absurd z q5)
          refine go_blk rfl [(.aload_n 0, 1, 0, 0, 0, .inl 0), (.getfield 31, 3, 7, 7, 0, .inl 0), (.bipush 60, 2, 0, 0, 0, .inl 60)] 77 83 _ _ _ (by decide +kernel) ?_
          refine And.intro (lc_t12 hT) ?_
          show Go _ _ _ _ _ _ 83 [(2, vi (((if 0 ≤ (S.1 1 4) then 0 else (if (S.1 1 4) < ((-10)) then 0 else 1)) : Int32))), (0, rc 12), (1, vi (((if (S.1 1 4) = 3 then 1 else 0) : Int32)))] [vi 60, vi (S.1 12 7)] ((S, T), Y) _
          refine ite_el h (fun q7 h => ?_) (fun q7 h => ?_)
          · refine go_icmp_lt (off := 12) (tgt := 95) (by decide +kernel) (by decide) (fun _ => ?_) (fun z => absurd q7 z)
            refine go_blk rfl [(.aload_n 0, 1, 0, 0, 0, .inl 0), (.dup, 1, 0, 0, 0, .inl 0), (.getfield 31, 3, 7, 7, 0, .inl 0), (.iconst 1, 1, 0, 0, 0, .inl 1), (.iadd, 1, 0, 0, 0, .inl 0), (.putfield 31, 3, 7, 7, 0, .inl 0)] 95 105 _ _ _ (by decide +kernel) ?_
            refine And.intro (lc_t12 hT) ?_
            refine And.intro (lc_t12 hT) (And.intro trivial ?_)
            show Go _ _ _ _ _ _ 105 [(2, vi (((if 0 ≤ (S.1 1 4) then 0 else (if (S.1 1 4) < ((-10)) then 0 else 1)) : Int32))), (0, rc 12), (1, vi (((if (S.1 1 4) = 3 then 1 else 0) : Int32)))] [] ((wI S 12 7 ((S.1 12 7) + 1), T), Y) _
            refine go_blk rfl [(.aload_n 0, 1, 0, 0, 0, .inl 0), (.iload_n 1, 1, 1, 0, 0, .inl 0)] 105 107 _ _ _ (by decide +kernel) ?_
            show Go _ _ _ _ _ _ 107 [(2, vi (((if 0 ≤ (S.1 1 4) then 0 else (if (S.1 1 4) < ((-10)) then 0 else 1)) : Int32))), (0, rc 12), (1, vi (((if (S.1 1 4) = 3 then 1 else 0) : Int32)))] [vi (((if (S.1 1 4) = 3 then 1 else 0) : Int32)), rc 12] ((wI S 12 7 ((S.1 12 7) + 1), T), Y) _
            have key : ∀ z0 : Int32, z0 = ((if (((if (S.1 1 4) = 3 then 1 else 0) : Int32)) = 0 then ((wI S 12 7 ((S.1 12 7) + 1)).1 1 4) else ((wI S 12 7 ((S.1 12 7) + 1)).1 1 5)) : Int32) → Go M7_takeValue 2 0 0 0 0 127 [(0, rc 12)] [vi z0, rc 12] ((wI S 12 7 ((S.1 12 7) + 1), T), Y) (eqQ (some (vi x)) ((S1, T), Y)) := by
              intro z0 ez0
              subst ez0
              obtain ⟨r2, hr2, h⟩ := bind_el h
              refine go_callV (idx := 103) (z := 0) (M' := M7_emit) (n := 1) (A := [vi (((if (((if (S.1 1 4) = 3 then 1 else 0) : Int32)) = 0 then ((wI S 12 7 ((S.1 12 7) + 1)).1 1 4) else ((wI S 12 7 ((S.1 12 7) + 1)).1 1 5)) : Int32))]) (v' := none) (μ' := ((r2.1, T), Y)) (d' := 1) (mc' := 0) (ms' := 0) (kc' := 0) (ks' := 0) (ci := 7) (x := .inl 12) (by decide +kernel) ml_7_103 rfl wv7_emit rfl (by decide) rfl (lc_t12 hT) (ret7_emit hT hr2) (by decide) rfl rfl (Nat.le_of_ble_eq_true rfl) rfl (jag rfl rfl) ?_
              show Go _ _ _ _ _ _ 130 [(0, rc 12)] [] ((r2.1, T), Y) _
              refine go_blk rfl [(.aload_n 0, 1, 0, 0, 0, .inl 0), (.iconst 3, 1, 0, 0, 0, .inl 3), (.putfield 25, 3, 7, 5, 0, .inl 0)] 130 135 _ _ _ (by decide +kernel) ?_
              refine And.intro (lc_t12 hT) (And.intro trivial ?_)
              show Go _ _ _ _ _ _ 135 [(0, rc 12)] [] ((wI r2.1 12 5 3, T), Y) _
              refine go_blk rfl [(.iconst 1, 1, 0, 0, 0, .inl 1)] 135 136 _ _ _ (by decide +kernel) ?_
              show Go _ _ _ _ _ _ 136 [(0, rc 12)] [vi 1] ((wI r2.1 12 5 3, T), Y) _
              obtain ⟨rfl, rfl⟩ := Prod.mk.inj (Option.some.inj h)
              exact go_ireturn (by decide +kernel) rfl rfl ⟨rfl, rfl⟩
            clear h
            by_cases q8 : (((if (S.1 1 4) = 3 then 1 else 0) : Int32)) = 0
            · refine go_if_eq (off := 13) (tgt := 120) (by decide +kernel) (by decide) (fun _ => ?_) (fun z => absurd q8 z)
              refine go_blk rfl [(.aload_n 0, 1, 0, 0, 0, .inl 0), (.getfield 44, 3, 7, 0, 1, .inl 0), (.getfield 89, 3, 9, 4, 0, .inl 0)] 120 127 _ _ _ (by decide +kernel) ?_
              refine And.intro (lc_t12 hT) (Exists.intro _ (And.intro (gRc (lc_r7_0 hT)) ?_))
              refine And.intro (lc_t1 hT) ?_
              show Go _ _ _ _ _ _ 127 [(2, vi (((if 0 ≤ (S.1 1 4) then 0 else (if (S.1 1 4) < ((-10)) then 0 else 1)) : Int32))), (0, rc 12), (1, vi (((if (S.1 1 4) = 3 then 1 else 0) : Int32)))] [vi ((wI S 12 7 ((S.1 12 7) + 1)).1 1 4), rc 12] ((wI S 12 7 ((S.1 12 7) + 1), T), Y) _
              refine go_pick [1] rfl ?_; exact key _ (by rw [if_pos q8])
            · refine go_if_eq (off := 13) (tgt := 120) (by decide +kernel) (by decide) (fun z => absurd z q8) (fun _ => ?_)
              refine go_blk rfl [(.aload_n 0, 1, 0, 0, 0, .inl 0), (.getfield 44, 3, 7, 0, 1, .inl 0), (.getfield 100, 3, 9, 5, 0, .inl 0)] 110 117 _ _ _ (by decide +kernel) ?_
              refine And.intro (lc_t12 hT) (Exists.intro _ (And.intro (gRc (lc_r7_0 hT)) ?_))
              refine And.intro (lc_t1 hT) ?_
              show Go _ _ _ _ _ _ 117 [(2, vi (((if 0 ≤ (S.1 1 4) then 0 else (if (S.1 1 4) < ((-10)) then 0 else 1)) : Int32))), (0, rc 12), (1, vi (((if (S.1 1 4) = 3 then 1 else 0) : Int32)))] [vi ((wI S 12 7 ((S.1 12 7) + 1)).1 1 5), rc 12] ((wI S 12 7 ((S.1 12 7) + 1), T), Y) _
              refine go_goto (off := 10) (tgt := 127) (by decide +kernel) (by decide) ?_
              refine go_pick [1] rfl ?_; exact key _ (by rw [if_neg q8])
          · refine go_icmp_lt (off := 12) (tgt := 95) (by decide +kernel) (by decide) (fun z => absurd z q7) (fun _ => ?_)
            refine go_blk rfl [(.aload_n 0, 1, 0, 0, 0, .inl 0), (.getfield 44, 3, 7, 0, 1, .inl 0), (.iconst 3, 1, 0, 0, 0, .inl 3)] 86 91 _ _ _ (by decide +kernel) ?_
            refine And.intro (lc_t12 hT) (Exists.intro _ (And.intro (gRc (lc_r7_0 hT)) ?_))
            show Go _ _ _ _ _ _ 91 [(2, vi (((if 0 ≤ (S.1 1 4) then 0 else (if (S.1 1 4) < ((-10)) then 0 else 1)) : Int32))), (0, rc 12), (1, vi (((if (S.1 1 4) = 3 then 1 else 0) : Int32)))] [vi 3, rc 1] ((S, T), Y) _
            obtain ⟨r3, hr3, h⟩ := bind_el h
            refine go_callV (idx := 92) (z := 1) (M' := M9_fail) (n := 1) (A := [vi 3]) (v' := some (vi r3.2)) (μ' := ((r3.1, T), Y)) (d' := 1) (mc' := 0) (ms' := 0) (kc' := 0) (ks' := 0) (ci := 9) (x := .inl 1) (by decide +kernel) ml_7_92 rfl wv9_fail rfl (by decide) rfl (lc_t1 hT) (ret9_fail hT hr3) (by decide) rfl rfl (Nat.le_of_ble_eq_true rfl) rfl (jag rfl rfl) ?_
            show Go _ _ _ _ _ _ 94 [(2, vi (((if 0 ≤ (S.1 1 4) then 0 else (if (S.1 1 4) < ((-10)) then 0 else 1)) : Int32))), (0, rc 12), (1, vi (((if (S.1 1 4) = 3 then 1 else 0) : Int32)))] [vi r3.2] ((r3.1, T), Y) _
            refine gd_el h (fun q h => ?_)
            obtain ⟨rfl, rfl⟩ := Prod.mk.inj (Option.some.inj h)
            exact go_ireturn (by decide +kernel) rfl (by rcases q with q | q <;> rw [q] <;> rfl) ⟨rfl, rfl⟩
      · refine go_if_ne (off := 31) (tgt := 77) (by decide +kernel) (by decide) (fun _ => ?_) (fun z => absurd z q4)
        refine go_blk rfl [(.aload_n 0, 1, 0, 0, 0, .inl 0), (.getfield 31, 3, 7, 7, 0, .inl 0), (.bipush 60, 2, 0, 0, 0, .inl 60)] 77 83 _ _ _ (by decide +kernel) ?_
        refine And.intro (lc_t12 hT) ?_
        show Go _ _ _ _ _ _ 83 [(2, vi (((if 0 ≤ (S.1 1 4) then 0 else (if (S.1 1 4) < ((-10)) then 0 else 1)) : Int32))), (0, rc 12), (1, vi (((if (S.1 1 4) = 3 then 1 else 0) : Int32)))] [vi 60, vi (S.1 12 7)] ((S, T), Y) _
        refine ite_el h (fun q9 h => ?_) (fun q9 h => ?_)
        · refine go_icmp_lt (off := 12) (tgt := 95) (by decide +kernel) (by decide) (fun _ => ?_) (fun z => absurd q9 z)
          refine go_blk rfl [(.aload_n 0, 1, 0, 0, 0, .inl 0), (.dup, 1, 0, 0, 0, .inl 0), (.getfield 31, 3, 7, 7, 0, .inl 0), (.iconst 1, 1, 0, 0, 0, .inl 1), (.iadd, 1, 0, 0, 0, .inl 0), (.putfield 31, 3, 7, 7, 0, .inl 0)] 95 105 _ _ _ (by decide +kernel) ?_
          refine And.intro (lc_t12 hT) ?_
          refine And.intro (lc_t12 hT) (And.intro trivial ?_)
          show Go _ _ _ _ _ _ 105 [(2, vi (((if 0 ≤ (S.1 1 4) then 0 else (if (S.1 1 4) < ((-10)) then 0 else 1)) : Int32))), (0, rc 12), (1, vi (((if (S.1 1 4) = 3 then 1 else 0) : Int32)))] [] ((wI S 12 7 ((S.1 12 7) + 1), T), Y) _
          refine go_blk rfl [(.aload_n 0, 1, 0, 0, 0, .inl 0), (.iload_n 1, 1, 1, 0, 0, .inl 0)] 105 107 _ _ _ (by decide +kernel) ?_
          show Go _ _ _ _ _ _ 107 [(2, vi (((if 0 ≤ (S.1 1 4) then 0 else (if (S.1 1 4) < ((-10)) then 0 else 1)) : Int32))), (0, rc 12), (1, vi (((if (S.1 1 4) = 3 then 1 else 0) : Int32)))] [vi (((if (S.1 1 4) = 3 then 1 else 0) : Int32)), rc 12] ((wI S 12 7 ((S.1 12 7) + 1), T), Y) _
          have key : ∀ z0 : Int32, z0 = ((if (((if (S.1 1 4) = 3 then 1 else 0) : Int32)) = 0 then ((wI S 12 7 ((S.1 12 7) + 1)).1 1 4) else ((wI S 12 7 ((S.1 12 7) + 1)).1 1 5)) : Int32) → Go M7_takeValue 2 0 0 0 0 127 [(0, rc 12)] [vi z0, rc 12] ((wI S 12 7 ((S.1 12 7) + 1), T), Y) (eqQ (some (vi x)) ((S1, T), Y)) := by
            intro z0 ez0
            subst ez0
            obtain ⟨r4, hr4, h⟩ := bind_el h
            refine go_callV (idx := 103) (z := 0) (M' := M7_emit) (n := 1) (A := [vi (((if (((if (S.1 1 4) = 3 then 1 else 0) : Int32)) = 0 then ((wI S 12 7 ((S.1 12 7) + 1)).1 1 4) else ((wI S 12 7 ((S.1 12 7) + 1)).1 1 5)) : Int32))]) (v' := none) (μ' := ((r4.1, T), Y)) (d' := 1) (mc' := 0) (ms' := 0) (kc' := 0) (ks' := 0) (ci := 7) (x := .inl 12) (by decide +kernel) ml_7_103 rfl wv7_emit rfl (by decide) rfl (lc_t12 hT) (ret7_emit hT hr4) (by decide) rfl rfl (Nat.le_of_ble_eq_true rfl) rfl (jag rfl rfl) ?_
            show Go _ _ _ _ _ _ 130 [(0, rc 12)] [] ((r4.1, T), Y) _
            refine go_blk rfl [(.aload_n 0, 1, 0, 0, 0, .inl 0), (.iconst 3, 1, 0, 0, 0, .inl 3), (.putfield 25, 3, 7, 5, 0, .inl 0)] 130 135 _ _ _ (by decide +kernel) ?_
            refine And.intro (lc_t12 hT) (And.intro trivial ?_)
            show Go _ _ _ _ _ _ 135 [(0, rc 12)] [] ((wI r4.1 12 5 3, T), Y) _
            refine go_blk rfl [(.iconst 1, 1, 0, 0, 0, .inl 1)] 135 136 _ _ _ (by decide +kernel) ?_
            show Go _ _ _ _ _ _ 136 [(0, rc 12)] [vi 1] ((wI r4.1 12 5 3, T), Y) _
            obtain ⟨rfl, rfl⟩ := Prod.mk.inj (Option.some.inj h)
            exact go_ireturn (by decide +kernel) rfl rfl ⟨rfl, rfl⟩
          clear h
          by_cases q10 : (((if (S.1 1 4) = 3 then 1 else 0) : Int32)) = 0
          · refine go_if_eq (off := 13) (tgt := 120) (by decide +kernel) (by decide) (fun _ => ?_) (fun z => absurd q10 z)
            refine go_blk rfl [(.aload_n 0, 1, 0, 0, 0, .inl 0), (.getfield 44, 3, 7, 0, 1, .inl 0), (.getfield 89, 3, 9, 4, 0, .inl 0)] 120 127 _ _ _ (by decide +kernel) ?_
            refine And.intro (lc_t12 hT) (Exists.intro _ (And.intro (gRc (lc_r7_0 hT)) ?_))
            refine And.intro (lc_t1 hT) ?_
            show Go _ _ _ _ _ _ 127 [(2, vi (((if 0 ≤ (S.1 1 4) then 0 else (if (S.1 1 4) < ((-10)) then 0 else 1)) : Int32))), (0, rc 12), (1, vi (((if (S.1 1 4) = 3 then 1 else 0) : Int32)))] [vi ((wI S 12 7 ((S.1 12 7) + 1)).1 1 4), rc 12] ((wI S 12 7 ((S.1 12 7) + 1), T), Y) _
            refine go_pick [1] rfl ?_; exact key _ (by rw [if_pos q10])
          · refine go_if_eq (off := 13) (tgt := 120) (by decide +kernel) (by decide) (fun z => absurd z q10) (fun _ => ?_)
            refine go_blk rfl [(.aload_n 0, 1, 0, 0, 0, .inl 0), (.getfield 44, 3, 7, 0, 1, .inl 0), (.getfield 100, 3, 9, 5, 0, .inl 0)] 110 117 _ _ _ (by decide +kernel) ?_
            refine And.intro (lc_t12 hT) (Exists.intro _ (And.intro (gRc (lc_r7_0 hT)) ?_))
            refine And.intro (lc_t1 hT) ?_
            show Go _ _ _ _ _ _ 117 [(2, vi (((if 0 ≤ (S.1 1 4) then 0 else (if (S.1 1 4) < ((-10)) then 0 else 1)) : Int32))), (0, rc 12), (1, vi (((if (S.1 1 4) = 3 then 1 else 0) : Int32)))] [vi ((wI S 12 7 ((S.1 12 7) + 1)).1 1 5), rc 12] ((wI S 12 7 ((S.1 12 7) + 1), T), Y) _
            refine go_goto (off := 10) (tgt := 127) (by decide +kernel) (by decide) ?_
            refine go_pick [1] rfl ?_; exact key _ (by rw [if_neg q10])
        · refine go_icmp_lt (off := 12) (tgt := 95) (by decide +kernel) (by decide) (fun z => absurd z q9) (fun _ => ?_)
          refine go_blk rfl [(.aload_n 0, 1, 0, 0, 0, .inl 0), (.getfield 44, 3, 7, 0, 1, .inl 0), (.iconst 3, 1, 0, 0, 0, .inl 3)] 86 91 _ _ _ (by decide +kernel) ?_
          refine And.intro (lc_t12 hT) (Exists.intro _ (And.intro (gRc (lc_r7_0 hT)) ?_))
          show Go _ _ _ _ _ _ 91 [(2, vi (((if 0 ≤ (S.1 1 4) then 0 else (if (S.1 1 4) < ((-10)) then 0 else 1)) : Int32))), (0, rc 12), (1, vi (((if (S.1 1 4) = 3 then 1 else 0) : Int32)))] [vi 3, rc 1] ((S, T), Y) _
          obtain ⟨r5, hr5, h⟩ := bind_el h
          refine go_callV (idx := 92) (z := 1) (M' := M9_fail) (n := 1) (A := [vi 3]) (v' := some (vi r5.2)) (μ' := ((r5.1, T), Y)) (d' := 1) (mc' := 0) (ms' := 0) (kc' := 0) (ks' := 0) (ci := 9) (x := .inl 1) (by decide +kernel) ml_7_92 rfl wv9_fail rfl (by decide) rfl (lc_t1 hT) (ret9_fail hT hr5) (by decide) rfl rfl (Nat.le_of_ble_eq_true rfl) rfl (jag rfl rfl) ?_
          show Go _ _ _ _ _ _ 94 [(2, vi (((if 0 ≤ (S.1 1 4) then 0 else (if (S.1 1 4) < ((-10)) then 0 else 1)) : Int32))), (0, rc 12), (1, vi (((if (S.1 1 4) = 3 then 1 else 0) : Int32)))] [vi r5.2] ((r5.1, T), Y) _
          refine gd_el h (fun q h => ?_)
          obtain ⟨rfl, rfl⟩ := Prod.mk.inj (Option.some.inj h)
          exact go_ireturn (by decide +kernel) rfl (by rcases q with q | q <;> rw [q] <;> rfl) ⟨rfl, rfl⟩
    clear h
    by_cases q2 : 0 ≤ (S.1 1 4)
    · refine go_if_ge (off := 19) (tgt := 43) (by decide +kernel) (by decide) (fun _ => ?_) (fun z => absurd q2 z)
      refine go_blk rfl [(.iconst 0, 1, 0, 0, 0, .inl 0)] 43 44 _ _ _ (by decide +kernel) ?_
      show Go _ _ _ _ _ _ 44 [(1, vi (((if (S.1 1 4) = 3 then 1 else 0) : Int32))), (0, rc 12)] [vi 0] ((S, T), Y) _
      refine go_pick [1, 0] rfl ?_; exact key _ (by rw [if_pos q2])
    · refine go_if_ge (off := 19) (tgt := 43) (by decide +kernel) (by decide) (fun z => absurd z q2) (fun _ => ?_)
      refine go_blk rfl [(.aload_n 0, 1, 0, 0, 0, .inl 0), (.getfield 44, 3, 7, 0, 1, .inl 0), (.getfield 89, 3, 9, 4, 0, .inl 0), (.bipush (-10), 2, 0, 0, 0, .inl (-10))] 27 36 _ _ _ (by decide +kernel) ?_
      refine And.intro (lc_t12 hT) (Exists.intro _ (And.intro (gRc (lc_r7_0 hT)) ?_))
      refine And.intro (lc_t1 hT) ?_
      show Go _ _ _ _ _ _ 36 [(1, vi (((if (S.1 1 4) = 3 then 1 else 0) : Int32))), (0, rc 12)] [vi ((-10)), vi (S.1 1 4)] ((S, T), Y) _
      by_cases q3 : (S.1 1 4) < ((-10))
      · refine go_icmp_lt (off := 7) (tgt := 43) (by decide +kernel) (by decide) (fun _ => ?_) (fun z => absurd q3 z)
        refine go_blk rfl [(.iconst 0, 1, 0, 0, 0, .inl 0)] 43 44 _ _ _ (by decide +kernel) ?_
        show Go _ _ _ _ _ _ 44 [(1, vi (((if (S.1 1 4) = 3 then 1 else 0) : Int32))), (0, rc 12)] [vi 0] ((S, T), Y) _
        refine go_pick [1, 0] rfl ?_; exact key _ (by rw [if_neg q2, if_pos q3])
      · refine go_icmp_lt (off := 7) (tgt := 43) (by decide +kernel) (by decide) (fun z => absurd z q3) (fun _ => ?_)
        refine go_blk rfl [(.iconst 1, 1, 0, 0, 0, .inl 1)] 39 40 _ _ _ (by decide +kernel) ?_
        show Go _ _ _ _ _ _ 40 [(1, vi (((if (S.1 1 4) = 3 then 1 else 0) : Int32))), (0, rc 12)] [vi 1] ((S, T), Y) _
        refine go_goto (off := 4) (tgt := 44) (by decide +kernel) (by decide) ?_
        refine go_pick [1, 0] rfl ?_; exact key _ (by rw [if_neg q2, if_neg q3])
  clear h
  by_cases q1 : (S.1 1 4) = 3
  · refine go_icmp_ne (off := 7) (tgt := 15) (by decide +kernel) (by decide) (fun z => absurd q1 z) (fun _ => ?_)
    refine go_blk rfl [(.iconst 1, 1, 0, 0, 0, .inl 1)] 11 12 _ _ _ (by decide +kernel) ?_
    show Go _ _ _ _ _ _ 12 [(0, rc 12)] [vi 1] ((S, T), Y) _
    refine go_goto (off := 4) (tgt := 16) (by decide +kernel) (by decide) ?_
    refine go_pick [0] rfl ?_; exact key _ (by rw [if_pos q1])
  · refine go_icmp_ne (off := 7) (tgt := 15) (by decide +kernel) (by decide) (fun _ => ?_) (fun z => absurd z q1)
    refine go_blk rfl [(.iconst 0, 1, 0, 0, 0, .inl 0)] 15 16 _ _ _ (by decide +kernel) ?_
    show Go _ _ _ _ _ _ 16 [(0, rc 12)] [vi 0] ((S, T), Y) _
    refine go_pick [0] rfl ?_; exact key _ (by rw [if_neg q1])
def f7_push (S : jS) (a0 : Int32) : Option (jS × Unit) := Option.bind (if (S.1 12 4) < 0 then some S else (if 64 ≤ (S.1 12 4) then some S else (if inb (S.1 12 4) 64 then some (wI (wI S 14 (S.1 12 4).toNatClampNeg (S.1 1 4)) 12 4 (((wI S 14 (S.1 12 4).toNatClampNeg (S.1 1 4)).1 12 4) + 1)) else none))) (fun (y1 : jS) => some (wI y1 12 5 a0, ()))
theorem ret7_push {S : jS} {T : jT} {Y : jS × jT} {a0 : Int32} {S1 : jS} {x : Unit} (hT : LayC T) (h : f7_push S a0 = some (S1, x)) : Ret M7_push 1 0 0 [rc 12, vi a0] ((S, T), Y) (none) ((S1, T), Y) := by
  refine Ret.of (by decide +kernel) (Nat.le_of_ble_eq_true rfl) ?_
  unfold f7_push at h
  show Go _ _ _ _ _ _ 0 [(0, rc 12), (1, vi a0)] [] ((S, T), Y) _
  refine go_blk rfl [(.aload_n 0, 1, 0, 0, 0, .inl 0), (.getfield 22, 3, 7, 4, 0, .inl 0)] 0 4 _ _ _ (by decide +kernel) ?_
  refine And.intro (lc_t12 hT) ?_
  show Go _ _ _ _ _ _ 4 [(0, rc 12), (1, vi a0)] [vi (S.1 12 4)] ((S, T), Y) _
  obtain ⟨y1, hy1, h⟩ := bind_el h
  have key : Go M7_push 1 0 0 0 0 42 [(0, rc 12), (1, vi a0)] [] ((y1, T), Y) (eqQ none ((S1, T), Y)) := by
    refine go_blk rfl [(.aload_n 0, 1, 0, 0, 0, .inl 0), (.iload_n 1, 1, 1, 0, 0, .inl 0), (.putfield 25, 3, 7, 5, 0, .inl 0)] 42 47 _ _ _ (by decide +kernel) ?_
    refine And.intro (lc_t12 hT) (And.intro trivial ?_)
    show Go _ _ _ _ _ _ 47 [(0, rc 12), (1, vi a0)] [] ((wI y1 12 5 a0, T), Y) _
    obtain ⟨rfl, rfl⟩ := Prod.mk.inj (Option.some.inj h)
    exact go_return (by decide +kernel) rfl ⟨rfl, rfl⟩
  replace h := hy1
  refine ite_el h (fun q1 h => ?_) (fun q1 h => ?_)
  · refine go_if_lt (off := 38) (tgt := 42) (by decide +kernel) (by decide) (fun _ => ?_) (fun z => absurd q1 z)
    obtain rfl := Option.some.inj h
    refine go_pick [0, 1] rfl ?_
    exact key
  · refine go_if_lt (off := 38) (tgt := 42) (by decide +kernel) (by decide) (fun z => absurd z q1) (fun _ => ?_)
    refine go_blk rfl [(.aload_n 0, 1, 0, 0, 0, .inl 0), (.getfield 22, 3, 7, 4, 0, .inl 0), (.bipush 64, 2, 0, 0, 0, .inl 64)] 7 13 _ _ _ (by decide +kernel) ?_
    refine And.intro (lc_t12 hT) ?_
    show Go _ _ _ _ _ _ 13 [(0, rc 12), (1, vi a0)] [vi 64, vi (S.1 12 4)] ((S, T), Y) _
    refine ite_el h (fun q2 h => ?_) (fun q2 h => ?_)
    · refine go_icmp_ge (off := 29) (tgt := 42) (by decide +kernel) (by decide) (fun _ => ?_) (fun z => absurd q2 z)
      obtain rfl := Option.some.inj h
      refine go_pick [0, 1] rfl ?_
      exact key
    · refine go_icmp_ge (off := 29) (tgt := 42) (by decide +kernel) (by decide) (fun z => absurd z q2) (fun _ => ?_)
      refine gd_el h (fun q3 h => ?_)
      refine go_blk rfl [(.aload_n 0, 1, 0, 0, 0, .inl 0), (.getfield 19, 3, 7, 3, 1, .inl 0), (.aload_n 0, 1, 0, 0, 0, .inl 0), (.getfield 22, 3, 7, 4, 0, .inl 0), (.aload_n 0, 1, 0, 0, 0, .inl 0), (.getfield 44, 3, 7, 0, 1, .inl 0), (.getfield 89, 3, 9, 4, 0, .inl 0), (.iastore, 1, 20, 0, 0, .inl 0)] 16 32 _ _ _ (by decide +kernel) ?_
      refine And.intro (lc_t12 hT) (Exists.intro _ (And.intro (gRc (lc_r7_3 hT)) ?_))
      refine And.intro (lc_t12 hT) ?_
      refine And.intro (lc_t12 hT) (Exists.intro _ (And.intro (gRc (lc_r7_0 hT)) ?_))
      refine And.intro (lc_t1 hT) ?_
      refine And.intro (lc_t14 hT) (Exists.intro _ (And.intro (lc_n14 hT) (And.intro (inb_in q3) ?_)))
      show Go _ _ _ _ _ _ 32 [(0, rc 12), (1, vi a0)] [] ((wI S 14 (S.1 12 4).toNatClampNeg (S.1 1 4), T), Y) _
      refine go_blk rfl [(.aload_n 0, 1, 0, 0, 0, .inl 0), (.dup, 1, 0, 0, 0, .inl 0), (.getfield 22, 3, 7, 4, 0, .inl 0), (.iconst 1, 1, 0, 0, 0, .inl 1), (.iadd, 1, 0, 0, 0, .inl 0), (.putfield 22, 3, 7, 4, 0, .inl 0)] 32 42 _ _ _ (by decide +kernel) ?_
      refine And.intro (lc_t12 hT) ?_
      refine And.intro (lc_t12 hT) (And.intro trivial ?_)
      show Go _ _ _ _ _ _ 42 [(0, rc 12), (1, vi a0)] [] ((wI (wI S 14 (S.1 12 4).toNatClampNeg (S.1 1 4)) 12 4 (((wI S 14 (S.1 12 4).toNatClampNeg (S.1 1 4)).1 12 4) + 1), T), Y) _
      obtain rfl := Option.some.inj h
      refine go_pick [0, 1] rfl ?_
      exact key
def f7_takeFact (S : jS) : Option (jS × Int32) := (if ((wI S 12 10 0).1 1 4) = ((-26)) then (if ((wI S 12 10 0).1 12 8) < 10 then Option.bind (f7_push (wI (wI S 12 10 0) 12 8 (((wI S 12 10 0).1 12 8) + 1)) 1) (fun r1 => some (r1.1, 1)) else Option.bind (f9_fail (wI S 12 10 0) 2) (fun r2 => (if r2.2 = 0 ∨ r2.2 = 1 then some (r2.1, r2.2) else none))) else (if ((wI S 12 10 0).1 1 4) = ((-23)) then (if ((wI S 12 10 0).1 12 8) < 10 then Option.bind (f7_push (wI (wI S 12 10 0) 12 8 (((wI S 12 10 0).1 12 8) + 1)) 1) (fun r3 => some (r3.1, 1)) else Option.bind (f9_fail (wI S 12 10 0) 2) (fun r4 => (if r4.2 = 0 ∨ r4.2 = 1 then some (r4.1, r4.2) else none))) else Option.bind (f7_takeValue (wI S 12 10 0)) (fun r5 => (if r5.2 = 0 ∨ r5.2 = 1 then some (r5.1, r5.2) else none))))
theorem ret7_takeFact {S : jS} {T : jT} {Y : jS × jT} {S1 : jS} {x : Int32} (hT : LayC T) (h : f7_takeFact S = some (S1, x)) : Ret M7_takeFact 3 0 0 [rc 12] ((S, T), Y) (some (vi x)) ((S1, T), Y) := by
  refine Ret.of (by decide +kernel) (Nat.le_of_ble_eq_true rfl) ?_
  unfold f7_takeFact at h
  show Go _ _ _ _ _ _ 0 [(0, rc 12)] [] ((S, T), Y) _
  refine go_blk rfl [(.aload_n 0, 1, 0, 0, 0, .inl 0), (.iconst 0, 1, 0, 0, 0, .inl 0), (.putfield 41, 3, 7, 10, 2, .inl 0)] 0 5 _ _ _ (by decide +kernel) ?_
  refine And.intro (lc_t12 hT) (And.intro ⟨rfl, Or.inl rfl⟩ ?_)
  show Go _ _ _ _ _ _ 5 [(0, rc 12)] [] ((wI S 12 10 0, T), Y) _
  refine go_blk rfl [(.aload_n 0, 1, 0, 0, 0, .inl 0), (.getfield 44, 3, 7, 0, 1, .inl 0), (.getfield 89, 3, 9, 4, 0, .inl 0), (.bipush (-26), 2, 0, 0, 0, .inl (-26))] 5 14 _ _ _ (by decide +kernel) ?_
  refine And.intro (lc_t12 hT) (Exists.intro _ (And.intro (gRc (lc_r7_0 hT)) ?_))
  refine And.intro (lc_t1 hT) ?_
  show Go _ _ _ _ _ _ 14 [(0, rc 12)] [vi ((-26)), vi ((wI S 12 10 0).1 1 4)] ((wI S 12 10 0, T), Y) _
  refine ite_el h (fun q1 h => ?_) (fun q1 h => ?_)
  · refine go_icmp_eq (off := 20) (tgt := 34) (by decide +kernel) (by decide) (fun _ => ?_) (fun z => absurd q1 z)
    refine go_blk rfl [(.aload_n 0, 1, 0, 0, 0, .inl 0), (.getfield 34, 3, 7, 8, 0, .inl 0), (.bipush 10, 2, 0, 0, 0, .inl 10)] 34 40 _ _ _ (by decide +kernel) ?_
    refine And.intro (lc_t12 hT) ?_
    show Go _ _ _ _ _ _ 40 [(0, rc 12)] [vi 10, vi ((wI S 12 10 0).1 12 8)] ((wI S 12 10 0, T), Y) _
    refine ite_el h (fun q2 h => ?_) (fun q2 h => ?_)
    · refine go_icmp_lt (off := 12) (tgt := 52) (by decide +kernel) (by decide) (fun _ => ?_) (fun z => absurd q2 z)
      refine go_blk rfl [(.aload_n 0, 1, 0, 0, 0, .inl 0), (.dup, 1, 0, 0, 0, .inl 0), (.getfield 34, 3, 7, 8, 0, .inl 0), (.iconst 1, 1, 0, 0, 0, .inl 1), (.iadd, 1, 0, 0, 0, .inl 0), (.putfield 34, 3, 7, 8, 0, .inl 0)] 52 62 _ _ _ (by decide +kernel) ?_
      refine And.intro (lc_t12 hT) ?_
      refine And.intro (lc_t12 hT) (And.intro trivial ?_)
      show Go _ _ _ _ _ _ 62 [(0, rc 12)] [] ((wI (wI S 12 10 0) 12 8 (((wI S 12 10 0).1 12 8) + 1), T), Y) _
      refine go_blk rfl [(.aload_n 0, 1, 0, 0, 0, .inl 0), (.iconst 1, 1, 0, 0, 0, .inl 1)] 62 64 _ _ _ (by decide +kernel) ?_
      show Go _ _ _ _ _ _ 64 [(0, rc 12)] [vi 1, rc 12] ((wI (wI S 12 10 0) 12 8 (((wI S 12 10 0).1 12 8) + 1), T), Y) _
      obtain ⟨r1, hr1, h⟩ := bind_el h
      refine go_callV (idx := 96) (z := 0) (M' := M7_push) (n := 1) (A := [vi 1]) (v' := none) (μ' := ((r1.1, T), Y)) (d' := 1) (mc' := 0) (ms' := 0) (kc' := 0) (ks' := 0) (ci := 7) (x := .inl 12) (by decide +kernel) ml_7_96 rfl wv7_push rfl (by decide) rfl (lc_t12 hT) (ret7_push hT hr1) (by decide) rfl rfl (Nat.le_of_ble_eq_true rfl) rfl (jag rfl rfl) ?_
      show Go _ _ _ _ _ _ 67 [(0, rc 12)] [] ((r1.1, T), Y) _
      refine go_blk rfl [(.iconst 1, 1, 0, 0, 0, .inl 1)] 67 68 _ _ _ (by decide +kernel) ?_
      show Go _ _ _ _ _ _ 68 [(0, rc 12)] [vi 1] ((r1.1, T), Y) _
      obtain ⟨rfl, rfl⟩ := Prod.mk.inj (Option.some.inj h)
      exact go_ireturn (by decide +kernel) rfl rfl ⟨rfl, rfl⟩
    · refine go_icmp_lt (off := 12) (tgt := 52) (by decide +kernel) (by decide) (fun z => absurd z q2) (fun _ => ?_)
      refine go_blk rfl [(.aload_n 0, 1, 0, 0, 0, .inl 0), (.getfield 44, 3, 7, 0, 1, .inl 0), (.iconst 2, 1, 0, 0, 0, .inl 2)] 43 48 _ _ _ (by decide +kernel) ?_
      refine And.intro (lc_t12 hT) (Exists.intro _ (And.intro (gRc (lc_r7_0 hT)) ?_))
      show Go _ _ _ _ _ _ 48 [(0, rc 12)] [vi 2, rc 1] ((wI S 12 10 0, T), Y) _
      obtain ⟨r2, hr2, h⟩ := bind_el h
      refine go_callV (idx := 92) (z := 1) (M' := M9_fail) (n := 1) (A := [vi 2]) (v' := some (vi r2.2)) (μ' := ((r2.1, T), Y)) (d' := 1) (mc' := 0) (ms' := 0) (kc' := 0) (ks' := 0) (ci := 9) (x := .inl 1) (by decide +kernel) ml_7_92 rfl wv9_fail rfl (by decide) rfl (lc_t1 hT) (ret9_fail hT hr2) (by decide) rfl rfl (Nat.le_of_ble_eq_true rfl) rfl (jag rfl rfl) ?_
      show Go _ _ _ _ _ _ 51 [(0, rc 12)] [vi r2.2] ((r2.1, T), Y) _
      refine gd_el h (fun q h => ?_)
      obtain ⟨rfl, rfl⟩ := Prod.mk.inj (Option.some.inj h)
      exact go_ireturn (by decide +kernel) rfl (by rcases q with q | q <;> rw [q] <;> rfl) ⟨rfl, rfl⟩
  · refine go_icmp_eq (off := 20) (tgt := 34) (by decide +kernel) (by decide) (fun z => absurd z q1) (fun _ => ?_)
    refine go_blk rfl [(.aload_n 0, 1, 0, 0, 0, .inl 0), (.getfield 44, 3, 7, 0, 1, .inl 0), (.getfield 89, 3, 9, 4, 0, .inl 0), (.bipush (-23), 2, 0, 0, 0, .inl (-23))] 17 26 _ _ _ (by decide +kernel) ?_
    refine And.intro (lc_t12 hT) (Exists.intro _ (And.intro (gRc (lc_r7_0 hT)) ?_))
    refine And.intro (lc_t1 hT) ?_
    show Go _ _ _ _ _ _ 26 [(0, rc 12)] [vi ((-23)), vi ((wI S 12 10 0).1 1 4)] ((wI S 12 10 0, T), Y) _
    refine ite_el h (fun q3 h => ?_) (fun q3 h => ?_)
    · refine go_icmp_eq (off := 8) (tgt := 34) (by decide +kernel) (by decide) (fun _ => ?_) (fun z => absurd q3 z)
      refine go_blk rfl [(.aload_n 0, 1, 0, 0, 0, .inl 0), (.getfield 34, 3, 7, 8, 0, .inl 0), (.bipush 10, 2, 0, 0, 0, .inl 10)] 34 40 _ _ _ (by decide +kernel) ?_
      refine And.intro (lc_t12 hT) ?_
      show Go _ _ _ _ _ _ 40 [(0, rc 12)] [vi 10, vi ((wI S 12 10 0).1 12 8)] ((wI S 12 10 0, T), Y) _
      refine ite_el h (fun q4 h => ?_) (fun q4 h => ?_)
      · refine go_icmp_lt (off := 12) (tgt := 52) (by decide +kernel) (by decide) (fun _ => ?_) (fun z => absurd q4 z)
        refine go_blk rfl [(.aload_n 0, 1, 0, 0, 0, .inl 0), (.dup, 1, 0, 0, 0, .inl 0), (.getfield 34, 3, 7, 8, 0, .inl 0), (.iconst 1, 1, 0, 0, 0, .inl 1), (.iadd, 1, 0, 0, 0, .inl 0), (.putfield 34, 3, 7, 8, 0, .inl 0)] 52 62 _ _ _ (by decide +kernel) ?_
        refine And.intro (lc_t12 hT) ?_
        refine And.intro (lc_t12 hT) (And.intro trivial ?_)
        show Go _ _ _ _ _ _ 62 [(0, rc 12)] [] ((wI (wI S 12 10 0) 12 8 (((wI S 12 10 0).1 12 8) + 1), T), Y) _
        refine go_blk rfl [(.aload_n 0, 1, 0, 0, 0, .inl 0), (.iconst 1, 1, 0, 0, 0, .inl 1)] 62 64 _ _ _ (by decide +kernel) ?_
        show Go _ _ _ _ _ _ 64 [(0, rc 12)] [vi 1, rc 12] ((wI (wI S 12 10 0) 12 8 (((wI S 12 10 0).1 12 8) + 1), T), Y) _
        obtain ⟨r3, hr3, h⟩ := bind_el h
        refine go_callV (idx := 96) (z := 0) (M' := M7_push) (n := 1) (A := [vi 1]) (v' := none) (μ' := ((r3.1, T), Y)) (d' := 1) (mc' := 0) (ms' := 0) (kc' := 0) (ks' := 0) (ci := 7) (x := .inl 12) (by decide +kernel) ml_7_96 rfl wv7_push rfl (by decide) rfl (lc_t12 hT) (ret7_push hT hr3) (by decide) rfl rfl (Nat.le_of_ble_eq_true rfl) rfl (jag rfl rfl) ?_
        show Go _ _ _ _ _ _ 67 [(0, rc 12)] [] ((r3.1, T), Y) _
        refine go_blk rfl [(.iconst 1, 1, 0, 0, 0, .inl 1)] 67 68 _ _ _ (by decide +kernel) ?_
        show Go _ _ _ _ _ _ 68 [(0, rc 12)] [vi 1] ((r3.1, T), Y) _
        obtain ⟨rfl, rfl⟩ := Prod.mk.inj (Option.some.inj h)
        exact go_ireturn (by decide +kernel) rfl rfl ⟨rfl, rfl⟩
      · refine go_icmp_lt (off := 12) (tgt := 52) (by decide +kernel) (by decide) (fun z => absurd z q4) (fun _ => ?_)
        refine go_blk rfl [(.aload_n 0, 1, 0, 0, 0, .inl 0), (.getfield 44, 3, 7, 0, 1, .inl 0), (.iconst 2, 1, 0, 0, 0, .inl 2)] 43 48 _ _ _ (by decide +kernel) ?_
        refine And.intro (lc_t12 hT) (Exists.intro _ (And.intro (gRc (lc_r7_0 hT)) ?_))
        show Go _ _ _ _ _ _ 48 [(0, rc 12)] [vi 2, rc 1] ((wI S 12 10 0, T), Y) _
        obtain ⟨r4, hr4, h⟩ := bind_el h
        refine go_callV (idx := 92) (z := 1) (M' := M9_fail) (n := 1) (A := [vi 2]) (v' := some (vi r4.2)) (μ' := ((r4.1, T), Y)) (d' := 1) (mc' := 0) (ms' := 0) (kc' := 0) (ks' := 0) (ci := 9) (x := .inl 1) (by decide +kernel) ml_7_92 rfl wv9_fail rfl (by decide) rfl (lc_t1 hT) (ret9_fail hT hr4) (by decide) rfl rfl (Nat.le_of_ble_eq_true rfl) rfl (jag rfl rfl) ?_
        show Go _ _ _ _ _ _ 51 [(0, rc 12)] [vi r4.2] ((r4.1, T), Y) _
        refine gd_el h (fun q h => ?_)
        obtain ⟨rfl, rfl⟩ := Prod.mk.inj (Option.some.inj h)
        exact go_ireturn (by decide +kernel) rfl (by rcases q with q | q <;> rw [q] <;> rfl) ⟨rfl, rfl⟩
    · refine go_icmp_eq (off := 8) (tgt := 34) (by decide +kernel) (by decide) (fun z => absurd z q3) (fun _ => ?_)
      refine go_blk rfl [(.aload_n 0, 1, 0, 0, 0, .inl 0)] 29 30 _ _ _ (by decide +kernel) ?_
      show Go _ _ _ _ _ _ 30 [(0, rc 12)] [rc 12] ((wI S 12 10 0, T), Y) _
      obtain ⟨r5, hr5, h⟩ := bind_el h
      refine go_callV (idx := 80) (z := 0) (M' := M7_takeValue) (n := 0) (A := []) (v' := some (vi r5.2)) (μ' := ((r5.1, T), Y)) (d' := 2) (mc' := 0) (ms' := 0) (kc' := 0) (ks' := 0) (ci := 7) (x := .inl 12) (by decide +kernel) ml_7_80 rfl wv7_takeValue rfl (by decide) rfl (lc_t12 hT) (ret7_takeValue hT hr5) (by decide) rfl rfl (Nat.le_of_ble_eq_true rfl) rfl (jag rfl rfl) ?_
      show Go _ _ _ _ _ _ 33 [(0, rc 12)] [vi r5.2] ((r5.1, T), Y) _
      refine gd_el h (fun q h => ?_)
      obtain ⟨rfl, rfl⟩ := Prod.mk.inj (Option.some.inj h)
      exact go_ireturn (by decide +kernel) rfl (by rcases q with q | q <;> rw [q] <;> rfl) ⟨rfl, rfl⟩
