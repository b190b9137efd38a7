def f11_compared (S : jS) : Option (jS × Unit) := Option.bind (f11_sum S) (fun r1 => Option.bind (f11_sign r1.1) (fun r2 => (if r2 = 60 then Option.bind (f11_isCounted r1.1 (r1.1.1 0 20)) (fun r3 => Option.bind (if r2 = 61 then some 0 else Option.bind (f11_sign (wI r3.1 0 20 ((r3.1.1 0 20) + 1))) (fun r4 => (if r4 = 61 then some 1 else some 0))) (fun (y5 : Int32) => Option.bind (f11_sum (wI (wI r3.1 0 20 ((r3.1.1 0 20) + 1)) 0 20 (((wI r3.1 0 20 ((r3.1.1 0 20) + 1)).1 0 20) + (((if y5 = 0 then 0 else 1) : Int32))))) (fun r6 => Option.bind (if r2 = 61 then some 6 else (if r2 = 60 then (if y5 = 0 then some 4 else some 5) else (if y5 = 0 then some 8 else some 7))) (fun (y7 : Int32) => Option.bind (f11_entry r6.1 y7 0) (fun r8 => some (r8.1, ())))))) else (if r2 = 61 then Option.bind (f11_isCounted r1.1 (r1.1.1 0 20)) (fun r9 => Option.bind (if r2 = 61 then some 0 else Option.bind (f11_sign (wI r9.1 0 20 ((r9.1.1 0 20) + 1))) (fun r10 => (if r10 = 61 then some 1 else some 0))) (fun (y11 : Int32) => Option.bind (f11_sum (wI (wI r9.1 0 20 ((r9.1.1 0 20) + 1)) 0 20 (((wI r9.1 0 20 ((r9.1.1 0 20) + 1)).1 0 20) + (((if y11 = 0 then 0 else 1) : Int32))))) (fun r12 => Option.bind (if r2 = 61 then some 6 else (if r2 = 60 then (if y11 = 0 then some 4 else some 5) else (if y11 = 0 then some 8 else some 7))) (fun (y13 : Int32) => Option.bind (f11_entry r12.1 y13 0) (fun r14 => some (r14.1, ())))))) else (if r2 = 62 then Option.bind (f11_isCounted r1.1 (r1.1.1 0 20)) (fun r15 => Option.bind (if r2 = 61 then some 0 else Option.bind (f11_sign (wI r15.1 0 20 ((r15.1.1 0 20) + 1))) (fun r16 => (if r16 = 61 then some 1 else some 0))) (fun (y17 : Int32) => Option.bind (f11_sum (wI (wI r15.1 0 20 ((r15.1.1 0 20) + 1)) 0 20 (((wI r15.1 0 20 ((r15.1.1 0 20) + 1)).1 0 20) + (((if y17 = 0 then 0 else 1) : Int32))))) (fun r18 => Option.bind (if r2 = 61 then some 6 else (if r2 = 60 then (if y17 = 0 then some 4 else some 5) else (if y17 = 0 then some 8 else some 7))) (fun (y19 : Int32) => Option.bind (f11_entry r18.1 y19 0) (fun r20 => some (r20.1, ())))))) else Option.bind (f11_fails r1.1 0 (r1.1.1 0 20)) (fun r21 => some (r21.1, ())))))))
theorem ret11_compared {S : jS} {T : jT} {Y : jS × jT} {S1 : jS} {x : Unit} (hT : LayM T) (h : f11_compared S = some (S1, x)) : Ret M11_compared 9 0 0 [rm 0] (Y, (S, T)) (none) (Y, (S1, T)) := by
  refine Ret.of (by decide +kernel) (Nat.le_of_ble_eq_true rfl) ?_
  unfold f11_compared at h
  show Go _ _ _ _ _ _ 0 [(0, rm 0)] [] (Y, (S, T)) _
  refine go_blk rfl [(.aload_n 0, 1, 0, 0, 0, .inl 0)] 0 1 _ _ _ (by decide +kernel) ?_
  show Go _ _ _ _ _ _ 1 [(0, rm 0)] [rm 0] (Y, (S, T)) _
  obtain ⟨r1, hr1, h⟩ := bind_el h
  refine go_callV (idx := 246) (z := 0) (M' := M11_sum) (n := 0) (A := []) (v' := none) (μ' := (Y, (r1.1, T))) (d' := 8) (mc' := 0) (ms' := 0) (kc' := 0) (ks' := 0) (ci := 11) (x := .inr (.inl 0)) (by decide +kernel) ml_11_246 rfl wv11_sum rfl (by decide) rfl (lm_t0 hT) (ret11_sum hT hr1) (by decide) rfl rfl (Nat.le_of_ble_eq_true rfl) rfl (jag rfl rfl) ?_
  show Go _ _ _ _ _ _ 4 [(0, rm 0)] [] (Y, (r1.1, T)) _
  refine go_blk rfl [(.aload_n 0, 1, 0, 0, 0, .inl 0)] 4 5 _ _ _ (by decide +kernel) ?_
  show Go _ _ _ _ _ _ 5 [(0, rm 0)] [rm 0] (Y, (r1.1, T)) _
  obtain ⟨r2, hr2, h⟩ := bind_el h
  refine go_callV (idx := 184) (z := 0) (M' := M11_sign) (n := 0) (A := []) (v' := some (vi r2)) (μ' := (Y, (r1.1, T))) (d' := 1) (mc' := 0) (ms' := 0) (kc' := 0) (ks' := 0) (ci := 11) (x := .inr (.inl 0)) (by decide +kernel) ml_11_184 rfl wv11_sign rfl (by decide) rfl (lm_t0 hT) (ret11_sign hT hr2) (by decide) rfl rfl (Nat.le_of_ble_eq_true rfl) rfl (jag rfl rfl) ?_
  show Go _ _ _ _ _ _ 8 [(0, rm 0)] [vi r2] (Y, (r1.1, T)) _
  refine go_blk rfl [(.istore_n 1, 1, 1, 0, 0, .inl 0), (.iload_n 1, 1, 1, 0, 0, .inl 0), (.bipush 60, 2, 0, 0, 0, .inl 60)] 8 12 _ _ _ (by decide +kernel) ?_
  show Go _ _ _ _ _ _ 12 [(1, vi r2), (0, rm 0)] [vi 60, vi r2] (Y, (r1.1, T)) _
  refine ite_el h (fun q1 h => ?_) (fun q1 h => ?_)
  · refine go_icmp_eq (off := 25) (tgt := 37) (by decide +kernel) (by decide) (fun _ => ?_) (fun z => absurd q1 z)
    refine go_blk rfl [(.aload_n 0, 1, 0, 0, 0, .inl 0), (.aload_n 0, 1, 0, 0, 0, .inl 0), (.getfield 181, 3, 11, 20, 0, .inl 0)] 37 42 _ _ _ (by decide +kernel) ?_
    refine And.intro (lm_t0 hT) ?_
    show Go _ _ _ _ _ _ 42 [(1, vi r2), (0, rm 0)] [vi (r1.1.1 0 20), rm 0] (Y, (r1.1, T)) _
    obtain ⟨r3, hr3, h⟩ := bind_el h
    refine go_callV (idx := 230) (z := 0) (M' := M11_isCounted) (n := 1) (A := [vi (r1.1.1 0 20)]) (v' := none) (μ' := (Y, (r3.1, T))) (d' := 2) (mc' := 0) (ms' := 0) (kc' := 0) (ks' := 0) (ci := 11) (x := .inr (.inl 0)) (by decide +kernel) ml_11_230 rfl wv11_isCounted rfl (by decide) rfl (lm_t0 hT) (ret11_isCounted hT hr3) (by decide) rfl rfl (Nat.le_of_ble_eq_true rfl) rfl (jag rfl rfl) ?_
    show Go _ _ _ _ _ _ 45 [(1, vi r2), (0, rm 0)] [] (Y, (r3.1, T)) _
    refine go_blk rfl [(.aload_n 0, 1, 0, 0, 0, .inl 0), (.dup, 1, 0, 0, 0, .inl 0), (.getfield 181, 3, 11, 20, 0, .inl 0), (.iconst 1, 1, 0, 0, 0, .inl 1), (.iadd, 1, 0, 0, 0, .inl 0), (.putfield 181, 3, 11, 20, 0, .inl 0)] 45 55 _ _ _ (by decide +kernel) ?_
    refine And.intro (lm_t0 hT) ?_
    refine And.intro (lm_t0 hT) (And.intro trivial ?_)
    show Go _ _ _ _ _ _ 55 [(1, vi r2), (0, rm 0)] [] (Y, (wI r3.1 0 20 ((r3.1.1 0 20) + 1), T)) _
    refine go_blk rfl [(.iload_n 1, 1, 1, 0, 0, .inl 0), (.bipush 61, 2, 0, 0, 0, .inl 61)] 55 58 _ _ _ (by decide +kernel) ?_
    show Go _ _ _ _ _ _ 58 [(1, vi r2), (0, rm 0)] [vi 61, vi r2] (Y, (wI r3.1 0 20 ((r3.1.1 0 20) + 1), T)) _
    obtain ⟨y5, hy5, h⟩ := bind_el h
    have key : Go M11_compared 9 0 0 0 0 75 [(0, rm 0), (1, vi r2)] [vi y5] (Y, (wI r3.1 0 20 ((r3.1.1 0 20) + 1), T)) (eqQ none (Y, (S1, T))) := by
      refine go_blk rfl [(.istore_n 2, 1, 2, 0, 0, .inl 0), (.aload_n 0, 1, 0, 0, 0, .inl 0), (.dup, 1, 0, 0, 0, .inl 0), (.getfield 181, 3, 11, 20, 0, .inl 0), (.iload_n 2, 1, 2, 0, 0, .inl 0)] 75 82 _ _ _ (by decide +kernel) ?_
      refine And.intro (lm_t0 hT) ?_
      show Go _ _ _ _ _ _ 82 [(2, vi y5), (0, rm 0), (1, vi r2)] [vi y5, vi ((wI r3.1 0 20 ((r3.1.1 0 20) + 1)).1 0 20), rm 0] (Y, (wI r3.1 0 20 ((r3.1.1 0 20) + 1), T)) _
      have key : ∀ z0 : Int32, z0 = ((if y5 = 0 then 0 else 1) : Int32) → Go M11_compared 9 0 0 0 0 90 [(0, rm 0), (1, vi r2), (2, vi y5)] [vi z0, vi ((wI r3.1 0 20 ((r3.1.1 0 20) + 1)).1 0 20), rm 0] (Y, (wI r3.1 0 20 ((r3.1.1 0 20) + 1), T)) (eqQ none (Y, (S1, T))) := by
        intro z0 ez0
        subst ez0
        refine go_blk rfl [(.iadd, 1, 0, 0, 0, .inl 0), (.putfield 181, 3, 11, 20, 0, .inl 0)] 90 94 _ _ _ (by decide +kernel) ?_
        refine And.intro (lm_t0 hT) (And.intro trivial ?_)
        show Go _ _ _ _ _ _ 94 [(0, rm 0), (1, vi r2), (2, vi y5)] [] (Y, (wI (wI r3.1 0 20 ((r3.1.1 0 20) + 1)) 0 20 (((wI r3.1 0 20 ((r3.1.1 0 20) + 1)).1 0 20) + (((if y5 = 0 then 0 else 1) : Int32))), T)) _
        refine go_blk rfl [(.aload_n 0, 1, 0, 0, 0, .inl 0)] 94 95 _ _ _ (by decide +kernel) ?_
        show Go _ _ _ _ _ _ 95 [(0, rm 0), (1, vi r2), (2, vi y5)] [rm 0] (Y, (wI (wI r3.1 0 20 ((r3.1.1 0 20) + 1)) 0 20 (((wI r3.1 0 20 ((r3.1.1 0 20) + 1)).1 0 20) + (((if y5 = 0 then 0 else 1) : Int32))), T)) _
        obtain ⟨r6, hr6, h⟩ := bind_el h
        refine go_callV (idx := 246) (z := 0) (M' := M11_sum) (n := 0) (A := []) (v' := none) (μ' := (Y, (r6.1, T))) (d' := 8) (mc' := 0) (ms' := 0) (kc' := 0) (ks' := 0) (ci := 11) (x := .inr (.inl 0)) (by decide +kernel) ml_11_246 rfl wv11_sum rfl (by decide) rfl (lm_t0 hT) (ret11_sum hT hr6) (by decide) rfl rfl (Nat.le_of_ble_eq_true rfl) rfl (jag rfl rfl) ?_
        show Go _ _ _ _ _ _ 98 [(0, rm 0), (1, vi r2), (2, vi y5)] [] (Y, (r6.1, T)) _
        refine go_blk rfl [(.aload_n 0, 1, 0, 0, 0, .inl 0), (.iload_n 1, 1, 1, 0, 0, .inl 0), (.bipush 61, 2, 0, 0, 0, .inl 61)] 98 102 _ _ _ (by decide +kernel) ?_
        show Go _ _ _ _ _ _ 102 [(0, rm 0), (1, vi r2), (2, vi y5)] [vi 61, vi r2, rm 0] (Y, (r6.1, T)) _
        obtain ⟨y7, hy7, h⟩ := bind_el h
        have key : Go M11_compared 9 0 0 0 0 139 [] [vi y7, rm 0] (Y, (r6.1, T)) (eqQ none (Y, (S1, T))) := by
          refine go_blk rfl [(.iconst 0, 1, 0, 0, 0, .inl 0)] 139 140 _ _ _ (by decide +kernel) ?_
          show Go _ _ _ _ _ _ 140 [] [vi 0, vi y7, rm 0] (Y, (r6.1, T)) _
          obtain ⟨r8, hr8, h⟩ := bind_el h
          refine go_callV (idx := 233) (z := 0) (M' := M11_entry) (n := 2) (A := [vi y7, vi 0]) (v' := none) (μ' := (Y, (r8.1, T))) (d' := 1) (mc' := 0) (ms' := 0) (kc' := 0) (ks' := 0) (ci := 11) (x := .inr (.inl 0)) (by decide +kernel) ml_11_233 rfl wv11_entry rfl (by decide) rfl (lm_t0 hT) (ret11_entry hT hr8) (by decide) rfl rfl (Nat.le_of_ble_eq_true rfl) rfl (jag rfl rfl) ?_
          show Go _ _ _ _ _ _ 143 [] [] (Y, (r8.1, T)) _
          obtain ⟨rfl, rfl⟩ := Prod.mk.inj (Option.some.inj h)
          exact go_return (by decide +kernel) rfl ⟨rfl, rfl⟩
        replace h := hy7
        refine ite_el h (fun q5 h => ?_) (fun q5 h => ?_)
        · refine go_icmp_ne (off := 8) (tgt := 110) (by decide +kernel) (by decide) (fun z => absurd q5 z) (fun _ => ?_)
          refine go_blk rfl [(.bipush 6, 2, 0, 0, 0, .inl 6)] 105 107 _ _ _ (by decide +kernel) ?_
          show Go _ _ _ _ _ _ 107 [(0, rm 0), (1, vi r2), (2, vi y5)] [vi 6, rm 0] (Y, (r6.1, T)) _
          refine go_goto (off := 32) (tgt := 139) (by decide +kernel) (by decide) ?_
          obtain rfl := Option.some.inj h
          refine go_pick [] rfl ?_
          exact key
        · refine go_icmp_ne (off := 8) (tgt := 110) (by decide +kernel) (by decide) (fun _ => ?_) (fun z => absurd z q5)
          refine go_blk rfl [(.iload_n 1, 1, 1, 0, 0, .inl 0), (.bipush 60, 2, 0, 0, 0, .inl 60)] 110 113 _ _ _ (by decide +kernel) ?_
          show Go _ _ _ _ _ _ 113 [(0, rm 0), (1, vi r2), (2, vi y5)] [vi 60, vi r2, rm 0] (Y, (r6.1, T)) _
          refine ite_el h (fun q6 h => ?_) (fun q6 h => ?_)
          · refine go_icmp_ne (off := 15) (tgt := 128) (by decide +kernel) (by decide) (fun z => absurd q6 z) (fun _ => ?_)
            refine go_blk rfl [(.iload_n 2, 1, 2, 0, 0, .inl 0)] 116 117 _ _ _ (by decide +kernel) ?_
            show Go _ _ _ _ _ _ 117 [(0, rm 0), (1, vi r2), (2, vi y5)] [vi y5, rm 0] (Y, (r6.1, T)) _
            refine ite_el h (fun q7 h => ?_) (fun q7 h => ?_)
            · refine go_if_eq (off := 7) (tgt := 124) (by decide +kernel) (by decide) (fun _ => ?_) (fun z => absurd q7 z)
              refine go_blk rfl [(.iconst 4, 1, 0, 0, 0, .inl 4)] 124 125 _ _ _ (by decide +kernel) ?_
              show Go _ _ _ _ _ _ 125 [(0, rm 0), (1, vi r2), (2, vi y5)] [vi 4, rm 0] (Y, (r6.1, T)) _
              refine go_goto (off := 14) (tgt := 139) (by decide +kernel) (by decide) ?_
              obtain rfl := Option.some.inj h
              refine go_pick [] rfl ?_
              exact key
            · refine go_if_eq (off := 7) (tgt := 124) (by decide +kernel) (by decide) (fun z => absurd z q7) (fun _ => ?_)
              refine go_blk rfl [(.iconst 5, 1, 0, 0, 0, .inl 5)] 120 121 _ _ _ (by decide +kernel) ?_
              show Go _ _ _ _ _ _ 121 [(0, rm 0), (1, vi r2), (2, vi y5)] [vi 5, rm 0] (Y, (r6.1, T)) _
              refine go_goto (off := 18) (tgt := 139) (by decide +kernel) (by decide) ?_
              obtain rfl := Option.some.inj h
              refine go_pick [] rfl ?_
              exact key
          · refine go_icmp_ne (off := 15) (tgt := 128) (by decide +kernel) (by decide) (fun _ => ?_) (fun z => absurd z q6)
            refine go_blk rfl [(.iload_n 2, 1, 2, 0, 0, .inl 0)] 128 129 _ _ _ (by decide +kernel) ?_
            show Go _ _ _ _ _ _ 129 [(0, rm 0), (1, vi r2), (2, vi y5)] [vi y5, rm 0] (Y, (r6.1, T)) _
            refine ite_el h (fun q8 h => ?_) (fun q8 h => ?_)
            · refine go_if_eq (off := 8) (tgt := 137) (by decide +kernel) (by decide) (fun _ => ?_) (fun z => absurd q8 z)
              refine go_blk rfl [(.bipush 8, 2, 0, 0, 0, .inl 8)] 137 139 _ _ _ (by decide +kernel) ?_
              show Go _ _ _ _ _ _ 139 [(0, rm 0), (1, vi r2), (2, vi y5)] [vi 8, rm 0] (Y, (r6.1, T)) _
              obtain rfl := Option.some.inj h
              refine go_pick [] rfl ?_
              exact key
            · refine go_if_eq (off := 8) (tgt := 137) (by decide +kernel) (by decide) (fun z => absurd z q8) (fun _ => ?_)
              refine go_blk rfl [(.bipush 7, 2, 0, 0, 0, .inl 7)] 132 134 _ _ _ (by decide +kernel) ?_
              show Go _ _ _ _ _ _ 134 [(0, rm 0), (1, vi r2), (2, vi y5)] [vi 7, rm 0] (Y, (r6.1, T)) _
              refine go_goto (off := 5) (tgt := 139) (by decide +kernel) (by decide) ?_
              obtain rfl := Option.some.inj h
              refine go_pick [] rfl ?_
              exact key
      clear h
      by_cases q4 : y5 = 0
      · refine go_if_eq (off := 7) (tgt := 89) (by decide +kernel) (by decide) (fun _ => ?_) (fun z => absurd q4 z)
        refine go_blk rfl [(.iconst 0, 1, 0, 0, 0, .inl 0)] 89 90 _ _ _ (by decide +kernel) ?_
        show Go _ _ _ _ _ _ 90 [(2, vi y5), (0, rm 0), (1, vi r2)] [vi 0, vi ((wI r3.1 0 20 ((r3.1.1 0 20) + 1)).1 0 20), rm 0] (Y, (wI r3.1 0 20 ((r3.1.1 0 20) + 1), T)) _
        refine go_pick [1, 2, 0] rfl ?_; exact key _ (by rw [if_pos q4])
      · refine go_if_eq (off := 7) (tgt := 89) (by decide +kernel) (by decide) (fun z => absurd z q4) (fun _ => ?_)
        refine go_blk rfl [(.iconst 1, 1, 0, 0, 0, .inl 1)] 85 86 _ _ _ (by decide +kernel) ?_
        show Go _ _ _ _ _ _ 86 [(2, vi y5), (0, rm 0), (1, vi r2)] [vi 1, vi ((wI r3.1 0 20 ((r3.1.1 0 20) + 1)).1 0 20), rm 0] (Y, (wI r3.1 0 20 ((r3.1.1 0 20) + 1), T)) _
        refine go_goto (off := 4) (tgt := 90) (by decide +kernel) (by decide) ?_
        refine go_pick [1, 2, 0] rfl ?_; exact key _ (by rw [if_neg q4])
    replace h := hy5
    refine ite_el h (fun q2 h => ?_) (fun q2 h => ?_)
    · refine go_icmp_eq (off := 16) (tgt := 74) (by decide +kernel) (by decide) (fun _ => ?_) (fun z => absurd q2 z)
      refine go_blk rfl [(.iconst 0, 1, 0, 0, 0, .inl 0)] 74 75 _ _ _ (by decide +kernel) ?_
      show Go _ _ _ _ _ _ 75 [(1, vi r2), (0, rm 0)] [vi 0] (Y, (wI r3.1 0 20 ((r3.1.1 0 20) + 1), T)) _
      obtain rfl := Option.some.inj h
      refine go_pick [1, 0] rfl ?_
      exact key
    · refine go_icmp_eq (off := 16) (tgt := 74) (by decide +kernel) (by decide) (fun z => absurd z q2) (fun _ => ?_)
      refine go_blk rfl [(.aload_n 0, 1, 0, 0, 0, .inl 0)] 61 62 _ _ _ (by decide +kernel) ?_
      show Go _ _ _ _ _ _ 62 [(1, vi r2), (0, rm 0)] [rm 0] (Y, (wI r3.1 0 20 ((r3.1.1 0 20) + 1), T)) _
      obtain ⟨r4, hr4, h⟩ := bind_el h
      refine go_callV (idx := 184) (z := 0) (M' := M11_sign) (n := 0) (A := []) (v' := some (vi r4)) (μ' := (Y, (wI r3.1 0 20 ((r3.1.1 0 20) + 1), T))) (d' := 1) (mc' := 0) (ms' := 0) (kc' := 0) (ks' := 0) (ci := 11) (x := .inr (.inl 0)) (by decide +kernel) ml_11_184 rfl wv11_sign rfl (by decide) rfl (lm_t0 hT) (ret11_sign hT hr4) (by decide) rfl rfl (Nat.le_of_ble_eq_true rfl) rfl (jag rfl rfl) ?_
      show Go _ _ _ _ _ _ 65 [(1, vi r2), (0, rm 0)] [vi r4] (Y, (wI r3.1 0 20 ((r3.1.1 0 20) + 1), T)) _
      refine go_blk rfl [(.bipush 61, 2, 0, 0, 0, .inl 61)] 65 67 _ _ _ (by decide +kernel) ?_
      show Go _ _ _ _ _ _ 67 [(1, vi r2), (0, rm 0)] [vi 61, vi r4] (Y, (wI r3.1 0 20 ((r3.1.1 0 20) + 1), T)) _
      refine ite_el h (fun q3 h => ?_) (fun q3 h => ?_)
      · refine go_icmp_ne (off := 7) (tgt := 74) (by decide +kernel) (by decide) (fun z => absurd q3 z) (fun _ => ?_)
        refine go_blk rfl [(.iconst 1, 1, 0, 0, 0, .inl 1)] 70 71 _ _ _ (by decide +kernel) ?_
        show Go _ _ _ _ _ _ 71 [(1, vi r2), (0, rm 0)] [vi 1] (Y, (wI r3.1 0 20 ((r3.1.1 0 20) + 1), T)) _
        refine go_goto (off := 4) (tgt := 75) (by decide +kernel) (by decide) ?_
        obtain rfl := Option.some.inj h
        refine go_pick [1, 0] rfl ?_
        exact key
      · refine go_icmp_ne (off := 7) (tgt := 74) (by decide +kernel) (by decide) (fun _ => ?_) (fun z => absurd z q3)
        refine go_blk rfl [(.iconst 0, 1, 0, 0, 0, .inl 0)] 74 75 _ _ _ (by decide +kernel) ?_
        show Go _ _ _ _ _ _ 75 [(1, vi r2), (0, rm 0)] [vi 0] (Y, (wI r3.1 0 20 ((r3.1.1 0 20) + 1), T)) _
        obtain rfl := Option.some.inj h
        refine go_pick [1, 0] rfl ?_
        exact key
  · refine go_icmp_eq (off := 25) (tgt := 37) (by decide +kernel) (by decide) (fun z => absurd z q1) (fun _ => ?_)
    refine go_blk rfl [(.iload_n 1, 1, 1, 0, 0, .inl 0), (.bipush 61, 2, 0, 0, 0, .inl 61)] 15 18 _ _ _ (by decide +kernel) ?_
    show Go _ _ _ _ _ _ 18 [(1, vi r2), (0, rm 0)] [vi 61, vi r2] (Y, (r1.1, T)) _
    refine ite_el h (fun q9 h => ?_) (fun q9 h => ?_)
    · refine go_icmp_eq (off := 19) (tgt := 37) (by decide +kernel) (by decide) (fun _ => ?_) (fun z => absurd q9 z)
      refine go_blk rfl [(.aload_n 0, 1, 0, 0, 0, .inl 0), (.aload_n 0, 1, 0, 0, 0, .inl 0), (.getfield 181, 3, 11, 20, 0, .inl 0)] 37 42 _ _ _ (by decide +kernel) ?_
      refine And.intro (lm_t0 hT) ?_
      show Go _ _ _ _ _ _ 42 [(1, vi r2), (0, rm 0)] [vi (r1.1.1 0 20), rm 0] (Y, (r1.1, T)) _
      obtain ⟨r9, hr9, h⟩ := bind_el h
      refine go_callV (idx := 230) (z := 0) (M' := M11_isCounted) (n := 1) (A := [vi (r1.1.1 0 20)]) (v' := none) (μ' := (Y, (r9.1, T))) (d' := 2) (mc' := 0) (ms' := 0) (kc' := 0) (ks' := 0) (ci := 11) (x := .inr (.inl 0)) (by decide +kernel) ml_11_230 rfl wv11_isCounted rfl (by decide) rfl (lm_t0 hT) (ret11_isCounted hT hr9) (by decide) rfl rfl (Nat.le_of_ble_eq_true rfl) rfl (jag rfl rfl) ?_
      show Go _ _ _ _ _ _ 45 [(1, vi r2), (0, rm 0)] [] (Y, (r9.1, T)) _
      refine go_blk rfl [(.aload_n 0, 1, 0, 0, 0, .inl 0), (.dup, 1, 0, 0, 0, .inl 0), (.getfield 181, 3, 11, 20, 0, .inl 0), (.iconst 1, 1, 0, 0, 0, .inl 1), (.iadd, 1, 0, 0, 0, .inl 0), (.putfield 181, 3, 11, 20, 0, .inl 0)] 45 55 _ _ _ (by decide +kernel) ?_
      refine And.intro (lm_t0 hT) ?_
      refine And.intro (lm_t0 hT) (And.intro trivial ?_)
      show Go _ _ _ _ _ _ 55 [(1, vi r2), (0, rm 0)] [] (Y, (wI r9.1 0 20 ((r9.1.1 0 20) + 1), T)) _
      refine go_blk rfl [(.iload_n 1, 1, 1, 0, 0, .inl 0), (.bipush 61, 2, 0, 0, 0, .inl 61)] 55 58 _ _ _ (by decide +kernel) ?_
      show Go _ _ _ _ _ _ 58 [(1, vi r2), (0, rm 0)] [vi 61, vi r2] (Y, (wI r9.1 0 20 ((r9.1.1 0 20) + 1), T)) _
      obtain ⟨y11, hy11, h⟩ := bind_el h
      have key : Go M11_compared 9 0 0 0 0 75 [(0, rm 0), (1, vi r2)] [vi y11] (Y, (wI r9.1 0 20 ((r9.1.1 0 20) + 1), T)) (eqQ none (Y, (S1, T))) := by
        refine go_blk rfl [(.istore_n 2, 1, 2, 0, 0, .inl 0), (.aload_n 0, 1, 0, 0, 0, .inl 0), (.dup, 1, 0, 0, 0, .inl 0), (.getfield 181, 3, 11, 20, 0, .inl 0), (.iload_n 2, 1, 2, 0, 0, .inl 0)] 75 82 _ _ _ (by decide +kernel) ?_
        refine And.intro (lm_t0 hT) ?_
        show Go _ _ _ _ _ _ 82 [(2, vi y11), (0, rm 0), (1, vi r2)] [vi y11, vi ((wI r9.1 0 20 ((r9.1.1 0 20) + 1)).1 0 20), rm 0] (Y, (wI r9.1 0 20 ((r9.1.1 0 20) + 1), T)) _
        have key : ∀ z0 : Int32, z0 = ((if y11 = 0 then 0 else 1) : Int32) → Go M11_compared 9 0 0 0 0 90 [(0, rm 0), (1, vi r2), (2, vi y11)] [vi z0, vi ((wI r9.1 0 20 ((r9.1.1 0 20) + 1)).1 0 20), rm 0] (Y, (wI r9.1 0 20 ((r9.1.1 0 20) + 1), T)) (eqQ none (Y, (S1, T))) := by
          intro z0 ez0
          subst ez0
          refine go_blk rfl [(.iadd, 1, 0, 0, 0, .inl 0), (.putfield 181, 3, 11, 20, 0, .inl 0)] 90 94 _ _ _ (by decide +kernel) ?_
          refine And.intro (lm_t0 hT) (And.intro trivial ?_)
          show Go _ _ _ _ _ _ 94 [(0, rm 0), (1, vi r2), (2, vi y11)] [] (Y, (wI (wI r9.1 0 20 ((r9.1.1 0 20) + 1)) 0 20 (((wI r9.1 0 20 ((r9.1.1 0 20) + 1)).1 0 20) + (((if y11 = 0 then 0 else 1) : Int32))), T)) _
          refine go_blk rfl [(.aload_n 0, 1, 0, 0, 0, .inl 0)] 94 95 _ _ _ (by decide +kernel) ?_
          show Go _ _ _ _ _ _ 95 [(0, rm 0), (1, vi r2), (2, vi y11)] [rm 0] (Y, (wI (wI r9.1 0 20 ((r9.1.1 0 20) + 1)) 0 20 (((wI r9.1 0 20 ((r9.1.1 0 20) + 1)).1 0 20) + (((if y11 = 0 then 0 else 1) : Int32))), T)) _
          obtain ⟨r12, hr12, h⟩ := bind_el h
          refine go_callV (idx := 246) (z := 0) (M' := M11_sum) (n := 0) (A := []) (v' := none) (μ' := (Y, (r12.1, T))) (d' := 8) (mc' := 0) (ms' := 0) (kc' := 0) (ks' := 0) (ci := 11) (x := .inr (.inl 0)) (by decide +kernel) ml_11_246 rfl wv11_sum rfl (by decide) rfl (lm_t0 hT) (ret11_sum hT hr12) (by decide) rfl rfl (Nat.le_of_ble_eq_true rfl) rfl (jag rfl rfl) ?_
          show Go _ _ _ _ _ _ 98 [(0, rm 0), (1, vi r2), (2, vi y11)] [] (Y, (r12.1, T)) _
          refine go_blk rfl [(.aload_n 0, 1, 0, 0, 0, .inl 0), (.iload_n 1, 1, 1, 0, 0, .inl 0), (.bipush 61, 2, 0, 0, 0, .inl 61)] 98 102 _ _ _ (by decide +kernel) ?_
          show Go _ _ _ _ _ _ 102 [(0, rm 0), (1, vi r2), (2, vi y11)] [vi 61, vi r2, rm 0] (Y, (r12.1, T)) _
          obtain ⟨y13, hy13, h⟩ := bind_el h
          have key : Go M11_compared 9 0 0 0 0 139 [] [vi y13, rm 0] (Y, (r12.1, T)) (eqQ none (Y, (S1, T))) := by
            refine go_blk rfl [(.iconst 0, 1, 0, 0, 0, .inl 0)] 139 140 _ _ _ (by decide +kernel) ?_
            show Go _ _ _ _ _ _ 140 [] [vi 0, vi y13, rm 0] (Y, (r12.1, T)) _
            obtain ⟨r14, hr14, h⟩ := bind_el h
            refine go_callV (idx := 233) (z := 0) (M' := M11_entry) (n := 2) (A := [vi y13, vi 0]) (v' := none) (μ' := (Y, (r14.1, T))) (d' := 1) (mc' := 0) (ms' := 0) (kc' := 0) (ks' := 0) (ci := 11) (x := .inr (.inl 0)) (by decide +kernel) ml_11_233 rfl wv11_entry rfl (by decide) rfl (lm_t0 hT) (ret11_entry hT hr14) (by decide) rfl rfl (Nat.le_of_ble_eq_true rfl) rfl (jag rfl rfl) ?_
            show Go _ _ _ _ _ _ 143 [] [] (Y, (r14.1, T)) _
            obtain ⟨rfl, rfl⟩ := Prod.mk.inj (Option.some.inj h)
            exact go_return (by decide +kernel) rfl ⟨rfl, rfl⟩
          replace h := hy13
          refine ite_el h (fun q13 h => ?_) (fun q13 h => ?_)
          · refine go_icmp_ne (off := 8) (tgt := 110) (by decide +kernel) (by decide) (fun z => absurd q13 z) (fun _ => ?_)
            refine go_blk rfl [(.bipush 6, 2, 0, 0, 0, .inl 6)] 105 107 _ _ _ (by decide +kernel) ?_
            show Go _ _ _ _ _ _ 107 [(0, rm 0), (1, vi r2), (2, vi y11)] [vi 6, rm 0] (Y, (r12.1, T)) _
            refine go_goto (off := 32) (tgt := 139) (by decide +kernel) (by decide) ?_
            obtain rfl := Option.some.inj h
            refine go_pick [] rfl ?_
            exact key
          · refine go_icmp_ne (off := 8) (tgt := 110) (by decide +kernel) (by decide) (fun _ => ?_) (fun z => absurd z q13)
            refine go_blk rfl [(.iload_n 1, 1, 1, 0, 0, .inl 0), (.bipush 60, 2, 0, 0, 0, .inl 60)] 110 113 _ _ _ (by decide +kernel) ?_
            show Go _ _ _ _ _ _ 113 [(0, rm 0), (1, vi r2), (2, vi y11)] [vi 60, vi r2, rm 0] (Y, (r12.1, T)) _
            refine ite_el h (fun q14 h => ?_) (fun q14 h => ?_)
            · refine go_icmp_ne (off := 15) (tgt := 128) (by decide +kernel) (by decide) (fun z => absurd q14 z) (fun _ => ?_)
              refine go_blk rfl [(.iload_n 2, 1, 2, 0, 0, .inl 0)] 116 117 _ _ _ (by decide +kernel) ?_
              show Go _ _ _ _ _ _ 117 [(0, rm 0), (1, vi r2), (2, vi y11)] [vi y11, rm 0] (Y, (r12.1, T)) _
              refine ite_el h (fun q15 h => ?_) (fun q15 h => ?_)
              · refine go_if_eq (off := 7) (tgt := 124) (by decide +kernel) (by decide) (fun _ => ?_) (fun z => absurd q15 z)
                refine go_blk rfl [(.iconst 4, 1, 0, 0, 0, .inl 4)] 124 125 _ _ _ (by decide +kernel) ?_
                show Go _ _ _ _ _ _ 125 [(0, rm 0), (1, vi r2), (2, vi y11)] [vi 4, rm 0] (Y, (r12.1, T)) _
                refine go_goto (off := 14) (tgt := 139) (by decide +kernel) (by decide) ?_
                obtain rfl := Option.some.inj h
                refine go_pick [] rfl ?_
                exact key
              · refine go_if_eq (off := 7) (tgt := 124) (by decide +kernel) (by decide) (fun z => absurd z q15) (fun _ => ?_)
                refine go_blk rfl [(.iconst 5, 1, 0, 0, 0, .inl 5)] 120 121 _ _ _ (by decide +kernel) ?_
                show Go _ _ _ _ _ _ 121 [(0, rm 0), (1, vi r2), (2, vi y11)] [vi 5, rm 0] (Y, (r12.1, T)) _
                refine go_goto (off := 18) (tgt := 139) (by decide +kernel) (by decide) ?_
                obtain rfl := Option.some.inj h
                refine go_pick [] rfl ?_
                exact key
            · refine go_icmp_ne (off := 15) (tgt := 128) (by decide +kernel) (by decide) (fun _ => ?_) (fun z => absurd z q14)
              refine go_blk rfl [(.iload_n 2, 1, 2, 0, 0, .inl 0)] 128 129 _ _ _ (by decide +kernel) ?_
              show Go _ _ _ _ _ _ 129 [(0, rm 0), (1, vi r2), (2, vi y11)] [vi y11, rm 0] (Y, (r12.1, T)) _
              refine ite_el h (fun q16 h => ?_) (fun q16 h => ?_)
              · refine go_if_eq (off := 8) (tgt := 137) (by decide +kernel) (by decide) (fun _ => ?_) (fun z => absurd q16 z)
                refine go_blk rfl [(.bipush 8, 2, 0, 0, 0, .inl 8)] 137 139 _ _ _ (by decide +kernel) ?_
                show Go _ _ _ _ _ _ 139 [(0, rm 0), (1, vi r2), (2, vi y11)] [vi 8, rm 0] (Y, (r12.1, T)) _
                obtain rfl := Option.some.inj h
                refine go_pick [] rfl ?_
                exact key
              · refine go_if_eq (off := 8) (tgt := 137) (by decide +kernel) (by decide) (fun z => absurd z q16) (fun _ => ?_)
                refine go_blk rfl [(.bipush 7, 2, 0, 0, 0, .inl 7)] 132 134 _ _ _ (by decide +kernel) ?_
                show Go _ _ _ _ _ _ 134 [(0, rm 0), (1, vi r2), (2, vi y11)] [vi 7, rm 0] (Y, (r12.1, T)) _
                refine go_goto (off := 5) (tgt := 139) (by decide +kernel) (by decide) ?_
                obtain rfl := Option.some.inj h
                refine go_pick [] rfl ?_
                exact key
        clear h
        by_cases q12 : y11 = 0
        · refine go_if_eq (off := 7) (tgt := 89) (by decide +kernel) (by decide) (fun _ => ?_) (fun z => absurd q12 z)
          refine go_blk rfl [(.iconst 0, 1, 0, 0, 0, .inl 0)] 89 90 _ _ _ (by decide +kernel) ?_
          show Go _ _ _ _ _ _ 90 [(2, vi y11), (0, rm 0), (1, vi r2)] [vi 0, vi ((wI r9.1 0 20 ((r9.1.1 0 20) + 1)).1 0 20), rm 0] (Y, (wI r9.1 0 20 ((r9.1.1 0 20) + 1), T)) _
          refine go_pick [1, 2, 0] rfl ?_; exact key _ (by rw [if_pos q12])
        · refine go_if_eq (off := 7) (tgt := 89) (by decide +kernel) (by decide) (fun z => absurd z q12) (fun _ => ?_)
          refine go_blk rfl [(.iconst 1, 1, 0, 0, 0, .inl 1)] 85 86 _ _ _ (by decide +kernel) ?_
          show Go _ _ _ _ _ _ 86 [(2, vi y11), (0, rm 0), (1, vi r2)] [vi 1, vi ((wI r9.1 0 20 ((r9.1.1 0 20) + 1)).1 0 20), rm 0] (Y, (wI r9.1 0 20 ((r9.1.1 0 20) + 1), T)) _
          refine go_goto (off := 4) (tgt := 90) (by decide +kernel) (by decide) ?_
          refine go_pick [1, 2, 0] rfl ?_; exact key _ (by rw [if_neg q12])
      replace h := hy11
      refine ite_el h (fun q10 h => ?_) (fun q10 h => ?_)
      · refine go_icmp_eq (off := 16) (tgt := 74) (by decide +kernel) (by decide) (fun _ => ?_) (fun z => absurd q10 z)
        refine go_blk rfl [(.iconst 0, 1, 0, 0, 0, .inl 0)] 74 75 _ _ _ (by decide +kernel) ?_
        show Go _ _ _ _ _ _ 75 [(1, vi r2), (0, rm 0)] [vi 0] (Y, (wI r9.1 0 20 ((r9.1.1 0 20) + 1), T)) _
        obtain rfl := Option.some.inj h
        refine go_pick [1, 0] rfl ?_
        exact key
      · refine go_icmp_eq (off := 16) (tgt := 74) (by decide +kernel) (by decide) (fun z => absurd z q10) (fun _ => ?_)
        refine go_blk rfl [(.aload_n 0, 1, 0, 0, 0, .inl 0)] 61 62 _ _ _ (by decide +kernel) ?_
        show Go _ _ _ _ _ _ 62 [(1, vi r2), (0, rm 0)] [rm 0] (Y, (wI r9.1 0 20 ((r9.1.1 0 20) + 1), T)) _
        obtain ⟨r10, hr10, h⟩ := bind_el h
        refine go_callV (idx := 184) (z := 0) (M' := M11_sign) (n := 0) (A := []) (v' := some (vi r10)) (μ' := (Y, (wI r9.1 0 20 ((r9.1.1 0 20) + 1), T))) (d' := 1) (mc' := 0) (ms' := 0) (kc' := 0) (ks' := 0) (ci := 11) (x := .inr (.inl 0)) (by decide +kernel) ml_11_184 rfl wv11_sign rfl (by decide) rfl (lm_t0 hT) (ret11_sign hT hr10) (by decide) rfl rfl (Nat.le_of_ble_eq_true rfl) rfl (jag rfl rfl) ?_
        show Go _ _ _ _ _ _ 65 [(1, vi r2), (0, rm 0)] [vi r10] (Y, (wI r9.1 0 20 ((r9.1.1 0 20) + 1), T)) _
        refine go_blk rfl [(.bipush 61, 2, 0, 0, 0, .inl 61)] 65 67 _ _ _ (by decide +kernel) ?_
        show Go _ _ _ _ _ _ 67 [(1, vi r2), (0, rm 0)] [vi 61, vi r10] (Y, (wI r9.1 0 20 ((r9.1.1 0 20) + 1), T)) _
        refine ite_el h (fun q11 h => ?_) (fun q11 h => ?_)
        · refine go_icmp_ne (off := 7) (tgt := 74) (by decide +kernel) (by decide) (fun z => absurd q11 z) (fun _ => ?_)
          refine go_blk rfl [(.iconst 1, 1, 0, 0, 0, .inl 1)] 70 71 _ _ _ (by decide +kernel) ?_
          show Go _ _ _ _ _ _ 71 [(1, vi r2), (0, rm 0)] [vi 1] (Y, (wI r9.1 0 20 ((r9.1.1 0 20) + 1), T)) _
          refine go_goto (off := 4) (tgt := 75) (by decide +kernel) (by decide) ?_
          obtain rfl := Option.some.inj h
          refine go_pick [1, 0] rfl ?_
          exact key
        · refine go_icmp_ne (off := 7) (tgt := 74) (by decide +kernel) (by decide) (fun _ => ?_) (fun z => absurd z q11)
          refine go_blk rfl [(.iconst 0, 1, 0, 0, 0, .inl 0)] 74 75 _ _ _ (by decide +kernel) ?_
          show Go _ _ _ _ _ _ 75 [(1, vi r2), (0, rm 0)] [vi 0] (Y, (wI r9.1 0 20 ((r9.1.1 0 20) + 1), T)) _
          obtain rfl := Option.some.inj h
          refine go_pick [1, 0] rfl ?_
          exact key
    · refine go_icmp_eq (off := 19) (tgt := 37) (by decide +kernel) (by decide) (fun z => absurd z q9) (fun _ => ?_)
      refine go_blk rfl [(.iload_n 1, 1, 1, 0, 0, .inl 0), (.bipush 62, 2, 0, 0, 0, .inl 62)] 21 24 _ _ _ (by decide +kernel) ?_
      show Go _ _ _ _ _ _ 24 [(1, vi r2), (0, rm 0)] [vi 62, vi r2] (Y, (r1.1, T)) _
      refine ite_el h (fun q17 h => ?_) (fun q17 h => ?_)
      · refine go_icmp_eq (off := 13) (tgt := 37) (by decide +kernel) (by decide) (fun _ => ?_) (fun z => absurd q17 z)
        refine go_blk rfl [(.aload_n 0, 1, 0, 0, 0, .inl 0), (.aload_n 0, 1, 0, 0, 0, .inl 0), (.getfield 181, 3, 11, 20, 0, .inl 0)] 37 42 _ _ _ (by decide +kernel) ?_
        refine And.intro (lm_t0 hT) ?_
        show Go _ _ _ _ _ _ 42 [(1, vi r2), (0, rm 0)] [vi (r1.1.1 0 20), rm 0] (Y, (r1.1, T)) _
        obtain ⟨r15, hr15, h⟩ := bind_el h
        refine go_callV (idx := 230) (z := 0) (M' := M11_isCounted) (n := 1) (A := [vi (r1.1.1 0 20)]) (v' := none) (μ' := (Y, (r15.1, T))) (d' := 2) (mc' := 0) (ms' := 0) (kc' := 0) (ks' := 0) (ci := 11) (x := .inr (.inl 0)) (by decide +kernel) ml_11_230 rfl wv11_isCounted rfl (by decide) rfl (lm_t0 hT) (ret11_isCounted hT hr15) (by decide) rfl rfl (Nat.le_of_ble_eq_true rfl) rfl (jag rfl rfl) ?_
        show Go _ _ _ _ _ _ 45 [(1, vi r2), (0, rm 0)] [] (Y, (r15.1, T)) _
        refine go_blk rfl [(.aload_n 0, 1, 0, 0, 0, .inl 0), (.dup, 1, 0, 0, 0, .inl 0), (.getfield 181, 3, 11, 20, 0, .inl 0), (.iconst 1, 1, 0, 0, 0, .inl 1), (.iadd, 1, 0, 0, 0, .inl 0), (.putfield 181, 3, 11, 20, 0, .inl 0)] 45 55 _ _ _ (by decide +kernel) ?_
        refine And.intro (lm_t0 hT) ?_
        refine And.intro (lm_t0 hT) (And.intro trivial ?_)
        show Go _ _ _ _ _ _ 55 [(1, vi r2), (0, rm 0)] [] (Y, (wI r15.1 0 20 ((r15.1.1 0 20) + 1), T)) _
        refine go_blk rfl [(.iload_n 1, 1, 1, 0, 0, .inl 0), (.bipush 61, 2, 0, 0, 0, .inl 61)] 55 58 _ _ _ (by decide +kernel) ?_
        show Go _ _ _ _ _ _ 58 [(1, vi r2), (0, rm 0)] [vi 61, vi r2] (Y, (wI r15.1 0 20 ((r15.1.1 0 20) + 1), T)) _
        obtain ⟨y17, hy17, h⟩ := bind_el h
        have key : Go M11_compared 9 0 0 0 0 75 [(0, rm 0), (1, vi r2)] [vi y17] (Y, (wI r15.1 0 20 ((r15.1.1 0 20) + 1), T)) (eqQ none (Y, (S1, T))) := by
          refine go_blk rfl [(.istore_n 2, 1, 2, 0, 0, .inl 0), (.aload_n 0, 1, 0, 0, 0, .inl 0), (.dup, 1, 0, 0, 0, .inl 0), (.getfield 181, 3, 11, 20, 0, .inl 0), (.iload_n 2, 1, 2, 0, 0, .inl 0)] 75 82 _ _ _ (by decide +kernel) ?_
          refine And.intro (lm_t0 hT) ?_
          show Go _ _ _ _ _ _ 82 [(2, vi y17), (0, rm 0), (1, vi r2)] [vi y17, vi ((wI r15.1 0 20 ((r15.1.1 0 20) + 1)).1 0 20), rm 0] (Y, (wI r15.1 0 20 ((r15.1.1 0 20) + 1), T)) _
          have key : ∀ z0 : Int32, z0 = ((if y17 = 0 then 0 else 1) : Int32) → Go M11_compared 9 0 0 0 0 90 [(0, rm 0), (1, vi r2), (2, vi y17)] [vi z0, vi ((wI r15.1 0 20 ((r15.1.1 0 20) + 1)).1 0 20), rm 0] (Y, (wI r15.1 0 20 ((r15.1.1 0 20) + 1), T)) (eqQ none (Y, (S1, T))) := by
            intro z0 ez0
            subst ez0
            refine go_blk rfl [(.iadd, 1, 0, 0, 0, .inl 0), (.putfield 181, 3, 11, 20, 0, .inl 0)] 90 94 _ _ _ (by decide +kernel) ?_
            refine And.intro (lm_t0 hT) (And.intro trivial ?_)
            show Go _ _ _ _ _ _ 94 [(0, rm 0), (1, vi r2), (2, vi y17)] [] (Y, (wI (wI r15.1 0 20 ((r15.1.1 0 20) + 1)) 0 20 (((wI r15.1 0 20 ((r15.1.1 0 20) + 1)).1 0 20) + (((if y17 = 0 then 0 else 1) : Int32))), T)) _
            refine go_blk rfl [(.aload_n 0, 1, 0, 0, 0, .inl 0)] 94 95 _ _ _ (by decide +kernel) ?_
            show Go _ _ _ _ _ _ 95 [(0, rm 0), (1, vi r2), (2, vi y17)] [rm 0] (Y, (wI (wI r15.1 0 20 ((r15.1.1 0 20) + 1)) 0 20 (((wI r15.1 0 20 ((r15.1.1 0 20) + 1)).1 0 20) + (((if y17 = 0 then 0 else 1) : Int32))), T)) _
            obtain ⟨r18, hr18, h⟩ := bind_el h
            refine go_callV (idx := 246) (z := 0) (M' := M11_sum) (n := 0) (A := []) (v' := none) (μ' := (Y, (r18.1, T))) (d' := 8) (mc' := 0) (ms' := 0) (kc' := 0) (ks' := 0) (ci := 11) (x := .inr (.inl 0)) (by decide +kernel) ml_11_246 rfl wv11_sum rfl (by decide) rfl (lm_t0 hT) (ret11_sum hT hr18) (by decide) rfl rfl (Nat.le_of_ble_eq_true rfl) rfl (jag rfl rfl) ?_
            show Go _ _ _ _ _ _ 98 [(0, rm 0), (1, vi r2), (2, vi y17)] [] (Y, (r18.1, T)) _
            refine go_blk rfl [(.aload_n 0, 1, 0, 0, 0, .inl 0), (.iload_n 1, 1, 1, 0, 0, .inl 0), (.bipush 61, 2, 0, 0, 0, .inl 61)] 98 102 _ _ _ (by decide +kernel) ?_
            show Go _ _ _ _ _ _ 102 [(0, rm 0), (1, vi r2), (2, vi y17)] [vi 61, vi r2, rm 0] (Y, (r18.1, T)) _
            obtain ⟨y19, hy19, h⟩ := bind_el h
            have key : Go M11_compared 9 0 0 0 0 139 [] [vi y19, rm 0] (Y, (r18.1, T)) (eqQ none (Y, (S1, T))) := by
              refine go_blk rfl [(.iconst 0, 1, 0, 0, 0, .inl 0)] 139 140 _ _ _ (by decide +kernel) ?_
              show Go _ _ _ _ _ _ 140 [] [vi 0, vi y19, rm 0] (Y, (r18.1, T)) _
              obtain ⟨r20, hr20, h⟩ := bind_el h
              refine go_callV (idx := 233) (z := 0) (M' := M11_entry) (n := 2) (A := [vi y19, vi 0]) (v' := none) (μ' := (Y, (r20.1, T))) (d' := 1) (mc' := 0) (ms' := 0) (kc' := 0) (ks' := 0) (ci := 11) (x := .inr (.inl 0)) (by decide +kernel) ml_11_233 rfl wv11_entry rfl (by decide) rfl (lm_t0 hT) (ret11_entry hT hr20) (by decide) rfl rfl (Nat.le_of_ble_eq_true rfl) rfl (jag rfl rfl) ?_
              show Go _ _ _ _ _ _ 143 [] [] (Y, (r20.1, T)) _
              obtain ⟨rfl, rfl⟩ := Prod.mk.inj (Option.some.inj h)
              exact go_return (by decide +kernel) rfl ⟨rfl, rfl⟩
            replace h := hy19
            refine ite_el h (fun q21 h => ?_) (fun q21 h => ?_)
            · refine go_icmp_ne (off := 8) (tgt := 110) (by decide +kernel) (by decide) (fun z => absurd q21 z) (fun _ => ?_)
              refine go_blk rfl [(.bipush 6, 2, 0, 0, 0, .inl 6)] 105 107 _ _ _ (by decide +kernel) ?_
              show Go _ _ _ _ _ _ 107 [(0, rm 0), (1, vi r2), (2, vi y17)] [vi 6, rm 0] (Y, (r18.1, T)) _
              refine go_goto (off := 32) (tgt := 139) (by decide +kernel) (by decide) ?_
              obtain rfl := Option.some.inj h
              refine go_pick [] rfl ?_
              exact key
            · refine go_icmp_ne (off := 8) (tgt := 110) (by decide +kernel) (by decide) (fun _ => ?_) (fun z => absurd z q21)
              refine go_blk rfl [(.iload_n 1, 1, 1, 0, 0, .inl 0), (.bipush 60, 2, 0, 0, 0, .inl 60)] 110 113 _ _ _ (by decide +kernel) ?_
              show Go _ _ _ _ _ _ 113 [(0, rm 0), (1, vi r2), (2, vi y17)] [vi 60, vi r2, rm 0] (Y, (r18.1, T)) _
              refine ite_el h (fun q22 h => ?_) (fun q22 h => ?_)
              · refine go_icmp_ne (off := 15) (tgt := 128) (by decide +kernel) (by decide) (fun z => absurd q22 z) (fun _ => ?_)
                refine go_blk rfl [(.iload_n 2, 1, 2, 0, 0, .inl 0)] 116 117 _ _ _ (by decide +kernel) ?_
                show Go _ _ _ _ _ _ 117 [(0, rm 0), (1, vi r2), (2, vi y17)] [vi y17, rm 0] (Y, (r18.1, T)) _
                refine ite_el h (fun q23 h => ?_) (fun q23 h => ?_)
                · refine go_if_eq (off := 7) (tgt := 124) (by decide +kernel) (by decide) (fun _ => ?_) (fun z => absurd q23 z)
                  refine go_blk rfl [(.iconst 4, 1, 0, 0, 0, .inl 4)] 124 125 _ _ _ (by decide +kernel) ?_
                  show Go _ _ _ _ _ _ 125 [(0, rm 0), (1, vi r2), (2, vi y17)] [vi 4, rm 0] (Y, (r18.1, T)) _
                  refine go_goto (off := 14) (tgt := 139) (by decide +kernel) (by decide) ?_
                  obtain rfl := Option.some.inj h
                  refine go_pick [] rfl ?_
                  exact key
                · refine go_if_eq (off := 7) (tgt := 124) (by decide +kernel) (by decide) (fun z => absurd z q23) (fun _ => ?_)
                  refine go_blk rfl [(.iconst 5, 1, 0, 0, 0, .inl 5)] 120 121 _ _ _ (by decide +kernel) ?_
                  show Go _ _ _ _ _ _ 121 [(0, rm 0), (1, vi r2), (2, vi y17)] [vi 5, rm 0] (Y, (r18.1, T)) _
                  refine go_goto (off := 18) (tgt := 139) (by decide +kernel) (by decide) ?_
                  obtain rfl := Option.some.inj h
                  refine go_pick [] rfl ?_
                  exact key
              · refine go_icmp_ne (off := 15) (tgt := 128) (by decide +kernel) (by decide) (fun _ => ?_) (fun z => absurd z q22)
                refine go_blk rfl [(.iload_n 2, 1, 2, 0, 0, .inl 0)] 128 129 _ _ _ (by decide +kernel) ?_
                show Go _ _ _ _ _ _ 129 [(0, rm 0), (1, vi r2), (2, vi y17)] [vi y17, rm 0] (Y, (r18.1, T)) _
                refine ite_el h (fun q24 h => ?_) (fun q24 h => ?_)
                · refine go_if_eq (off := 8) (tgt := 137) (by decide +kernel) (by decide) (fun _ => ?_) (fun z => absurd q24 z)
                  refine go_blk rfl [(.bipush 8, 2, 0, 0, 0, .inl 8)] 137 139 _ _ _ (by decide +kernel) ?_
                  show Go _ _ _ _ _ _ 139 [(0, rm 0), (1, vi r2), (2, vi y17)] [vi 8, rm 0] (Y, (r18.1, T)) _
                  obtain rfl := Option.some.inj h
                  refine go_pick [] rfl ?_
                  exact key
                · refine go_if_eq (off := 8) (tgt := 137) (by decide +kernel) (by decide) (fun z => absurd z q24) (fun _ => ?_)
                  refine go_blk rfl [(.bipush 7, 2, 0, 0, 0, .inl 7)] 132 134 _ _ _ (by decide +kernel) ?_
                  show Go _ _ _ _ _ _ 134 [(0, rm 0), (1, vi r2), (2, vi y17)] [vi 7, rm 0] (Y, (r18.1, T)) _
                  refine go_goto (off := 5) (tgt := 139) (by decide +kernel) (by decide) ?_
                  obtain rfl := Option.some.inj h
                  refine go_pick [] rfl ?_
                  exact key
          clear h
          by_cases q20 : y17 = 0
          · refine go_if_eq (off := 7) (tgt := 89) (by decide +kernel) (by decide) (fun _ => ?_) (fun z => absurd q20 z)
            refine go_blk rfl [(.iconst 0, 1, 0, 0, 0, .inl 0)] 89 90 _ _ _ (by decide +kernel) ?_
            show Go _ _ _ _ _ _ 90 [(2, vi y17), (0, rm 0), (1, vi r2)] [vi 0, vi ((wI r15.1 0 20 ((r15.1.1 0 20) + 1)).1 0 20), rm 0] (Y, (wI r15.1 0 20 ((r15.1.1 0 20) + 1), T)) _
            refine go_pick [1, 2, 0] rfl ?_; exact key _ (by rw [if_pos q20])
          · refine go_if_eq (off := 7) (tgt := 89) (by decide +kernel) (by decide) (fun z => absurd z q20) (fun _ => ?_)
            refine go_blk rfl [(.iconst 1, 1, 0, 0, 0, .inl 1)] 85 86 _ _ _ (by decide +kernel) ?_
            show Go _ _ _ _ _ _ 86 [(2, vi y17), (0, rm 0), (1, vi r2)] [vi 1, vi ((wI r15.1 0 20 ((r15.1.1 0 20) + 1)).1 0 20), rm 0] (Y, (wI r15.1 0 20 ((r15.1.1 0 20) + 1), T)) _
            refine go_goto (off := 4) (tgt := 90) (by decide +kernel) (by decide) ?_
            refine go_pick [1, 2, 0] rfl ?_; exact key _ (by rw [if_neg q20])
        replace h := hy17
        refine ite_el h (fun q18 h => ?_) (fun q18 h => ?_)
        · refine go_icmp_eq (off := 16) (tgt := 74) (by decide +kernel) (by decide) (fun _ => ?_) (fun z => absurd q18 z)
          refine go_blk rfl [(.iconst 0, 1, 0, 0, 0, .inl 0)] 74 75 _ _ _ (by decide +kernel) ?_
          show Go _ _ _ _ _ _ 75 [(1, vi r2), (0, rm 0)] [vi 0] (Y, (wI r15.1 0 20 ((r15.1.1 0 20) + 1), T)) _
          obtain rfl := Option.some.inj h
          refine go_pick [1, 0] rfl ?_
          exact key
        · refine go_icmp_eq (off := 16) (tgt := 74) (by decide +kernel) (by decide) (fun z => absurd z q18) (fun _ => ?_)
          refine go_blk rfl [(.aload_n 0, 1, 0, 0, 0, .inl 0)] 61 62 _ _ _ (by decide +kernel) ?_
          show Go _ _ _ _ _ _ 62 [(1, vi r2), (0, rm 0)] [rm 0] (Y, (wI r15.1 0 20 ((r15.1.1 0 20) + 1), T)) _
          obtain ⟨r16, hr16, h⟩ := bind_el h
          refine go_callV (idx := 184) (z := 0) (M' := M11_sign) (n := 0) (A := []) (v' := some (vi r16)) (μ' := (Y, (wI r15.1 0 20 ((r15.1.1 0 20) + 1), T))) (d' := 1) (mc' := 0) (ms' := 0) (kc' := 0) (ks' := 0) (ci := 11) (x := .inr (.inl 0)) (by decide +kernel) ml_11_184 rfl wv11_sign rfl (by decide) rfl (lm_t0 hT) (ret11_sign hT hr16) (by decide) rfl rfl (Nat.le_of_ble_eq_true rfl) rfl (jag rfl rfl) ?_
          show Go _ _ _ _ _ _ 65 [(1, vi r2), (0, rm 0)] [vi r16] (Y, (wI r15.1 0 20 ((r15.1.1 0 20) + 1), T)) _
          refine go_blk rfl [(.bipush 61, 2, 0, 0, 0, .inl 61)] 65 67 _ _ _ (by decide +kernel) ?_
          show Go _ _ _ _ _ _ 67 [(1, vi r2), (0, rm 0)] [vi 61, vi r16] (Y, (wI r15.1 0 20 ((r15.1.1 0 20) + 1), T)) _
          refine ite_el h (fun q19 h => ?_) (fun q19 h => ?_)
          · refine go_icmp_ne (off := 7) (tgt := 74) (by decide +kernel) (by decide) (fun z => absurd q19 z) (fun _ => ?_)
            refine go_blk rfl [(.iconst 1, 1, 0, 0, 0, .inl 1)] 70 71 _ _ _ (by decide +kernel) ?_
            show Go _ _ _ _ _ _ 71 [(1, vi r2), (0, rm 0)] [vi 1] (Y, (wI r15.1 0 20 ((r15.1.1 0 20) + 1), T)) _
            refine go_goto (off := 4) (tgt := 75) (by decide +kernel) (by decide) ?_
            obtain rfl := Option.some.inj h
            refine go_pick [1, 0] rfl ?_
            exact key
          · refine go_icmp_ne (off := 7) (tgt := 74) (by decide +kernel) (by decide) (fun _ => ?_) (fun z => absurd z q19)
            refine go_blk rfl [(.iconst 0, 1, 0, 0, 0, .inl 0)] 74 75 _ _ _ (by decide +kernel) ?_
            show Go _ _ _ _ _ _ 75 [(1, vi r2), (0, rm 0)] [vi 0] (Y, (wI r15.1 0 20 ((r15.1.1 0 20) + 1), T)) _
            obtain rfl := Option.some.inj h
            refine go_pick [1, 0] rfl ?_
            exact key
      · refine go_icmp_eq (off := 13) (tgt := 37) (by decide +kernel) (by decide) (fun z => absurd z q17) (fun _ => ?_)
        refine go_blk rfl [(.aload_n 0, 1, 0, 0, 0, .inl 0), (.iconst 0, 1, 0, 0, 0, .inl 0), (.aload_n 0, 1, 0, 0, 0, .inl 0), (.getfield 181, 3, 11, 20, 0, .inl 0)] 27 33 _ _ _ (by decide +kernel) ?_
        refine And.intro (lm_t0 hT) ?_
        show Go _ _ _ _ _ _ 33 [(1, vi r2), (0, rm 0)] [vi (r1.1.1 0 20), vi 0, rm 0] (Y, (r1.1, T)) _
        obtain ⟨r21, hr21, h⟩ := bind_el h
        refine go_callV (idx := 217) (z := 0) (M' := M11_fails) (n := 2) (A := [vi 0, vi (r1.1.1 0 20)]) (v' := none) (μ' := (Y, (r21.1, T))) (d' := 1) (mc' := 0) (ms' := 0) (kc' := 0) (ks' := 0) (ci := 11) (x := .inr (.inl 0)) (by decide +kernel) ml_11_217 rfl wv11_fails rfl (by decide) rfl (lm_t0 hT) (ret11_fails hT hr21) (by decide) rfl rfl (Nat.le_of_ble_eq_true rfl) rfl (jag rfl rfl) ?_
        show Go _ _ _ _ _ _ 36 [(1, vi r2), (0, rm 0)] [] (Y, (r21.1, T)) _
        obtain ⟨rfl, rfl⟩ := Prod.mk.inj (Option.some.inj h)
        exact go_return (by decide +kernel) rfl ⟨rfl, rfl⟩
def f11_top (S : jS) : Option Int32 := (if (S.1 0 27) = 0 then some ((-1)) else (if inb ((S.1 0 27) - 1) 402 then some (S.1 36 ((S.1 0 27) - 1).toNatClampNeg) else none))
theorem ret11_top {S : jS} {T : jT} {Y : jS × jT} {x : Int32} (hT : LayM T) (h : f11_top S = some x) : Ret M11_top 1 0 0 [rm 0] (Y, (S, T)) (some (vi x)) (Y, (S, T)) := by
  refine Ret.of (by decide +kernel) (Nat.le_of_ble_eq_true rfl) ?_
  unfold f11_top at h
  show Go _ _ _ _ _ _ 0 [(0, rm 0)] [] (Y, (S, T)) _
  refine go_blk rfl [(.aload_n 0, 1, 0, 0, 0, .inl 0), (.getfield 249, 3, 11, 27, 0, .inl 0)] 0 4 _ _ _ (by decide +kernel) ?_
  refine And.intro (lm_t0 hT) ?_
  show Go _ _ _ _ _ _ 4 [(0, rm 0)] [vi (S.1 0 27)] (Y, (S, T)) _
  refine ite_el h (fun q1 h => ?_) (fun q1 h => ?_)
  · refine go_if_ne (off := 7) (tgt := 11) (by decide +kernel) (by decide) (fun z => absurd q1 z) (fun _ => ?_)
    refine go_blk rfl [(.iconst (-1), 1, 0, 0, 0, .inl (-1))] 7 8 _ _ _ (by decide +kernel) ?_
    show Go _ _ _ _ _ _ 8 [(0, rm 0)] [vi ((-1))] (Y, (S, T)) _
    refine go_goto (off := 14) (tgt := 22) (by decide +kernel) (by decide) ?_
    obtain rfl := Option.some.inj h
    exact go_ireturn (by decide +kernel) rfl rfl ⟨rfl, rfl⟩
  · refine go_if_ne (off := 7) (tgt := 11) (by decide +kernel) (by decide) (fun _ => ?_) (fun z => absurd z q1)
    refine gd_el h (fun q2 h => ?_)
    refine go_blk rfl [(.aload_n 0, 1, 0, 0, 0, .inl 0), (.getfield 90, 3, 11, 36, 1, .inl 0), (.aload_n 0, 1, 0, 0, 0, .inl 0), (.getfield 249, 3, 11, 27, 0, .inl 0), (.iconst 1, 1, 0, 0, 0, .inl 1), (.isub, 1, 0, 0, 0, .inl 0), (.iaload, 1, 20, 0, 0, .inl 0)] 11 22 _ _ _ (by decide +kernel) ?_
    refine And.intro (lm_t0 hT) (Exists.intro _ (And.intro (gRm (lm_r36 hT)) ?_))
    refine And.intro (lm_t0 hT) ?_
    refine And.intro (lm_t36 hT) (Exists.intro _ (And.intro (lm_n36 hT) (And.intro (inb_in q2) ?_)))
    show Go _ _ _ _ _ _ 22 [(0, rm 0)] [vi (S.1 36 ((S.1 0 27) - 1).toNatClampNeg)] (Y, (S, T)) _
    obtain rfl := Option.some.inj h
    exact go_ireturn (by decide +kernel) rfl rfl ⟨rfl, rfl⟩
def f11_opens (S : jS) (a0 : Int32) : Option (jS × Unit) := Option.bind (if a0 = 9 then Option.bind (if (S.1 0 25) = 10 then Option.bind (f11_fails S 2 (S.1 0 20)) (fun r1 => some r1.1) else some S) (fun (y2 : jS) => some (wI y2 0 25 ((y2.1 0 25) + 1))) else (if a0 = 12 then Option.bind (if (S.1 0 25) = 10 then Option.bind (f11_fails S 2 (S.1 0 20)) (fun r3 => some r3.1) else some S) (fun (y4 : jS) => some (wI y4 0 25 ((y4.1 0 25) + 1))) else some S)) (fun (y5 : jS) => (if inb (y5.1 0 27) 402 then some (wI (wI y5 36 (y5.1 0 27).toNatClampNeg a0) 0 27 (((wI y5 36 (y5.1 0 27).toNatClampNeg a0).1 0 27) + 1), ()) else none))
theorem ret11_opens {S : jS} {T : jT} {Y : jS × jT} {a0 : Int32} {S1 : jS} {x : Unit} (hT : LayM T) (h : f11_opens S a0 = some (S1, x)) : Ret M11_opens 2 0 0 [rm 0, vi a0] (Y, (S, T)) (none) (Y, (S1, T)) := by
  refine Ret.of (by decide +kernel) (Nat.le_of_ble_eq_true rfl) ?_
  unfold f11_opens at h
  show Go _ _ _ _ _ _ 0 [(0, rm 0), (1, vi a0)] [] (Y, (S, T)) _
  refine go_blk rfl [(.iload_n 1, 1, 1, 0, 0, .inl 0), (.bipush 9, 2, 0, 0, 0, .inl 9)] 0 3 _ _ _ (by decide +kernel) ?_
  show Go _ _ _ _ _ _ 3 [(0, rm 0), (1, vi a0)] [vi 9, vi a0] (Y, (S, T)) _
  obtain ⟨y5, hy5, h⟩ := bind_el h
  have key : Go M11_opens 2 0 0 0 0 40 [(0, rm 0), (1, vi a0)] [] (Y, (y5, T)) (eqQ none (Y, (S1, T))) := by
    refine gd_el h (fun q5 h => ?_)
    refine go_blk rfl [(.aload_n 0, 1, 0, 0, 0, .inl 0), (.getfield 90, 3, 11, 36, 1, .inl 0), (.aload_n 0, 1, 0, 0, 0, .inl 0), (.getfield 249, 3, 11, 27, 0, .inl 0), (.iload_n 1, 1, 1, 0, 0, .inl 0), (.iastore, 1, 20, 0, 0, .inl 0)] 40 50 _ _ _ (by decide +kernel) ?_
    refine And.intro (lm_t0 hT) (Exists.intro _ (And.intro (gRm (lm_r36 hT)) ?_))
    refine And.intro (lm_t0 hT) ?_
    refine And.intro (lm_t36 hT) (Exists.intro _ (And.intro (lm_n36 hT) (And.intro (inb_in q5) ?_)))
    show Go _ _ _ _ _ _ 50 [(0, rm 0), (1, vi a0)] [] (Y, (wI y5 36 (y5.1 0 27).toNatClampNeg a0, T)) _
    refine go_blk rfl [(.aload_n 0, 1, 0, 0, 0, .inl 0), (.dup, 1, 0, 0, 0, .inl 0), (.getfield 249, 3, 11, 27, 0, .inl 0), (.iconst 1, 1, 0, 0, 0, .inl 1), (.iadd, 1, 0, 0, 0, .inl 0), (.putfield 249, 3, 11, 27, 0, .inl 0)] 50 60 _ _ _ (by decide +kernel) ?_
    refine And.intro (lm_t0 hT) ?_
    refine And.intro (lm_t0 hT) (And.intro trivial ?_)
    show Go _ _ _ _ _ _ 60 [(0, rm 0), (1, vi a0)] [] (Y, (wI (wI y5 36 (y5.1 0 27).toNatClampNeg a0) 0 27 (((wI y5 36 (y5.1 0 27).toNatClampNeg a0).1 0 27) + 1), T)) _
    obtain ⟨rfl, rfl⟩ := Prod.mk.inj (Option.some.inj h)
    exact go_return (by decide +kernel) rfl ⟨rfl, rfl⟩
  replace h := hy5
  refine ite_el h (fun q1 h => ?_) (fun q1 h => ?_)
  · refine go_icmp_eq (off := 9) (tgt := 12) (by decide +kernel) (by decide) (fun _ => ?_) (fun z => absurd q1 z)
    refine go_blk rfl [(.aload_n 0, 1, 0, 0, 0, .inl 0), (.getfield 252, 3, 11, 25, 0, .inl 0), (.bipush 10, 2, 0, 0, 0, .inl 10)] 12 18 _ _ _ (by decide +kernel) ?_
    refine And.intro (lm_t0 hT) ?_
    show Go _ _ _ _ _ _ 18 [(0, rm 0), (1, vi a0)] [vi 10, vi (S.1 0 25)] (Y, (S, T)) _
    obtain ⟨y2, hy2, h⟩ := bind_el h
    have key : Go M11_opens 2 0 0 0 0 30 [(0, rm 0), (1, vi a0)] [] (Y, (y2, T)) (eqQ none (Y, (S1, T))) := by
      refine go_blk rfl [(.aload_n 0, 1, 0, 0, 0, .inl 0), (.dup, 1, 0, 0, 0, .inl 0), (.getfield 252, 3, 11, 25, 0, .inl 0), (.iconst 1, 1, 0, 0, 0, .inl 1), (.iadd, 1, 0, 0, 0, .inl 0), (.putfield 252, 3, 11, 25, 0, .inl 0)] 30 40 _ _ _ (by decide +kernel) ?_
      refine And.intro (lm_t0 hT) ?_
      refine And.intro (lm_t0 hT) (And.intro trivial ?_)
      show Go _ _ _ _ _ _ 40 [(0, rm 0), (1, vi a0)] [] (Y, (wI y2 0 25 ((y2.1 0 25) + 1), T)) _
      obtain rfl := Option.some.inj h
      refine go_pick [0, 1] rfl ?_
      exact key
    replace h := hy2
    refine ite_el h (fun q2 h => ?_) (fun q2 h => ?_)
    · refine go_icmp_ne (off := 12) (tgt := 30) (by decide +kernel) (by decide) (fun z => absurd q2 z) (fun _ => ?_)
      refine go_blk rfl [(.aload_n 0, 1, 0, 0, 0, .inl 0), (.iconst 2, 1, 0, 0, 0, .inl 2), (.aload_n 0, 1, 0, 0, 0, .inl 0), (.getfield 181, 3, 11, 20, 0, .inl 0)] 21 27 _ _ _ (by decide +kernel) ?_
      refine And.intro (lm_t0 hT) ?_
      show Go _ _ _ _ _ _ 27 [(0, rm 0), (1, vi a0)] [vi (S.1 0 20), vi 2, rm 0] (Y, (S, T)) _
      obtain ⟨r1, hr1, h⟩ := bind_el h
      refine go_callV (idx := 217) (z := 0) (M' := M11_fails) (n := 2) (A := [vi 2, vi (S.1 0 20)]) (v' := none) (μ' := (Y, (r1.1, T))) (d' := 1) (mc' := 0) (ms' := 0) (kc' := 0) (ks' := 0) (ci := 11) (x := .inr (.inl 0)) (by decide +kernel) ml_11_217 rfl wv11_fails rfl (by decide) rfl (lm_t0 hT) (ret11_fails hT hr1) (by decide) rfl rfl (Nat.le_of_ble_eq_true rfl) rfl (jag rfl rfl) ?_
      show Go _ _ _ _ _ _ 30 [(0, rm 0), (1, vi a0)] [] (Y, (r1.1, T)) _
      obtain rfl := Option.some.inj h
      refine go_pick [0, 1] rfl ?_
      exact key
    · refine go_icmp_ne (off := 12) (tgt := 30) (by decide +kernel) (by decide) (fun _ => ?_) (fun z => absurd z q2)
      obtain rfl := Option.some.inj h
      refine go_pick [0, 1] rfl ?_
      exact key
  · refine go_icmp_eq (off := 9) (tgt := 12) (by decide +kernel) (by decide) (fun z => absurd z q1) (fun _ => ?_)
    refine go_blk rfl [(.iload_n 1, 1, 1, 0, 0, .inl 0), (.bipush 12, 2, 0, 0, 0, .inl 12)] 6 9 _ _ _ (by decide +kernel) ?_
    show Go _ _ _ _ _ _ 9 [(0, rm 0), (1, vi a0)] [vi 12, vi a0] (Y, (S, T)) _
    refine ite_el h (fun q3 h => ?_) (fun q3 h => ?_)
    · refine go_icmp_ne (off := 31) (tgt := 40) (by decide +kernel) (by decide) (fun z => absurd q3 z) (fun _ => ?_)
      refine go_blk rfl [(.aload_n 0, 1, 0, 0, 0, .inl 0), (.getfield 252, 3, 11, 25, 0, .inl 0), (.bipush 10, 2, 0, 0, 0, .inl 10)] 12 18 _ _ _ (by decide +kernel) ?_
      refine And.intro (lm_t0 hT) ?_
      show Go _ _ _ _ _ _ 18 [(0, rm 0), (1, vi a0)] [vi 10, vi (S.1 0 25)] (Y, (S, T)) _
      obtain ⟨y4, hy4, h⟩ := bind_el h
      have key : Go M11_opens 2 0 0 0 0 30 [(0, rm 0), (1, vi a0)] [] (Y, (y4, T)) (eqQ none (Y, (S1, T))) := by
        refine go_blk rfl [(.aload_n 0, 1, 0, 0, 0, .inl 0), (.dup, 1, 0, 0, 0, .inl 0), (.getfield 252, 3, 11, 25, 0, .inl 0), (.iconst 1, 1, 0, 0, 0, .inl 1), (.iadd, 1, 0, 0, 0, .inl 0), (.putfield 252, 3, 11, 25, 0, .inl 0)] 30 40 _ _ _ (by decide +kernel) ?_
        refine And.intro (lm_t0 hT) ?_
        refine And.intro (lm_t0 hT) (And.intro trivial ?_)
        show Go _ _ _ _ _ _ 40 [(0, rm 0), (1, vi a0)] [] (Y, (wI y4 0 25 ((y4.1 0 25) + 1), T)) _
        obtain rfl := Option.some.inj h
        refine go_pick [0, 1] rfl ?_
        exact key
      replace h := hy4
      refine ite_el h (fun q4 h => ?_) (fun q4 h => ?_)
      · refine go_icmp_ne (off := 12) (tgt := 30) (by decide +kernel) (by decide) (fun z => absurd q4 z) (fun _ => ?_)
        refine go_blk rfl [(.aload_n 0, 1, 0, 0, 0, .inl 0), (.iconst 2, 1, 0, 0, 0, .inl 2), (.aload_n 0, 1, 0, 0, 0, .inl 0), (.getfield 181, 3, 11, 20, 0, .inl 0)] 21 27 _ _ _ (by decide +kernel) ?_
        refine And.intro (lm_t0 hT) ?_
        show Go _ _ _ _ _ _ 27 [(0, rm 0), (1, vi a0)] [vi (S.1 0 20), vi 2, rm 0] (Y, (S, T)) _
        obtain ⟨r3, hr3, h⟩ := bind_el h
        refine go_callV (idx := 217) (z := 0) (M' := M11_fails) (n := 2) (A := [vi 2, vi (S.1 0 20)]) (v' := none) (μ' := (Y, (r3.1, T))) (d' := 1) (mc' := 0) (ms' := 0) (kc' := 0) (ks' := 0) (ci := 11) (x := .inr (.inl 0)) (by decide +kernel) ml_11_217 rfl wv11_fails rfl (by decide) rfl (lm_t0 hT) (ret11_fails hT hr3) (by decide) rfl rfl (Nat.le_of_ble_eq_true rfl) rfl (jag rfl rfl) ?_
        show Go _ _ _ _ _ _ 30 [(0, rm 0), (1, vi a0)] [] (Y, (r3.1, T)) _
        obtain rfl := Option.some.inj h
        refine go_pick [0, 1] rfl ?_
        exact key
      · refine go_icmp_ne (off := 12) (tgt := 30) (by decide +kernel) (by decide) (fun _ => ?_) (fun z => absurd z q4)
        obtain rfl := Option.some.inj h
        refine go_pick [0, 1] rfl ?_
        exact key
    · refine go_icmp_ne (off := 31) (tgt := 40) (by decide +kernel) (by decide) (fun _ => ?_) (fun z => absurd z q3)
      obtain rfl := Option.some.inj h
      refine go_pick [0, 1] rfl ?_
      exact key
def f11_answers_L1 (l1 : Int32) : Nat → jS → Option jS
  | 0, _ => none
  | n + 1, S => Option.bind (f11_top S) (fun r3 => (if r3 = l1 then (if (S.1 0 21) = 0 then Option.bind (f11_entry S l1 0) (fun r4 => f11_answers_L1 l1 n (wI (wI r4.1 0 27 ((r4.1.1 0 27) - 1)) 0 25 (((wI r4.1 0 27 ((r4.1.1 0 27) - 1)).1 0 25) - (((if l1 = 9 then 1 else 0) : Int32))))) else some S) else some S))
def f11_answers (S : jS) (a0 : Int32) : Option (jS × Unit) := Option.bind (f11_top S) (fun r1 => (if r1 = a0 then (if (S.1 0 21) = 0 then Option.bind (f11_entry S a0 0) (fun r2 => Option.bind (f11_answers_L1 a0 jF (wI (wI r2.1 0 27 ((r2.1.1 0 27) - 1)) 0 25 (((wI r2.1 0 27 ((r2.1.1 0 27) - 1)).1 0 25) - (((if a0 = 9 then 1 else 0) : Int32))))) (fun y5 => some (y5, ()))) else some (S, ())) else some (S, ())))
theorem f11_answers_L1_ok {T : jT} {Y : jS × jT} {l1 : Int32} {Q : Option jV → jMem → Prop} (hT : LayM T) : ∀ (n : Nat) (S : jS) (r : jS), f11_answers_L1 l1 n S = some r → Go M11_answers 2 0 0 0 0 54 [] [] (Y, (r, T)) Q → Go M11_answers 2 0 0 0 0 0 [(0, rm 0), (1, vi l1)] [] (Y, (S, T)) Q := by
  intro n
  induction n with
  | zero => intro S r h k; exact absurd h (by intro z; cases z)
  | succ n ih =>
    intro S r h k
    rw [f11_answers_L1] at h
    refine go_blk rfl [(.aload_n 0, 1, 0, 0, 0, .inl 0)] 0 1 _ _ _ (by decide +kernel) ?_
    show Go _ _ _ _ _ _ 1 [(0, rm 0), (1, vi l1)] [rm 0] (Y, (S, T)) _
    obtain ⟨r3, hr3, h⟩ := bind_el h
    refine go_callV (idx := 255) (z := 0) (M' := M11_top) (n := 0) (A := []) (v' := some (vi r3)) (μ' := (Y, (S, T))) (d' := 1) (mc' := 0) (ms' := 0) (kc' := 0) (ks' := 0) (ci := 11) (x := .inr (.inl 0)) (by decide +kernel) ml_11_255 rfl wv11_top rfl (by decide) rfl (lm_t0 hT) (ret11_top hT hr3) (by decide) rfl rfl (Nat.le_of_ble_eq_true rfl) rfl (jag rfl rfl) ?_
    show Go _ _ _ _ _ _ 4 [(0, rm 0), (1, vi l1)] [vi r3] (Y, (S, T)) _
    refine go_blk rfl [(.iload_n 1, 1, 1, 0, 0, .inl 0)] 4 5 _ _ _ (by decide +kernel) ?_
    show Go _ _ _ _ _ _ 5 [(0, rm 0), (1, vi l1)] [vi l1, vi r3] (Y, (S, T)) _
    refine ite_el h (fun q4 h => ?_) (fun q4 h => ?_)
    · refine go_icmp_ne (off := 49) (tgt := 54) (by decide +kernel) (by decide) (fun z => absurd q4 z) (fun _ => ?_)
      refine go_blk rfl [(.aload_n 0, 1, 0, 0, 0, .inl 0), (.getfield 178, 3, 11, 21, 0, .inl 0)] 8 12 _ _ _ (by decide +kernel) ?_
      refine And.intro (lm_t0 hT) ?_
      show Go _ _ _ _ _ _ 12 [(0, rm 0), (1, vi l1)] [vi (S.1 0 21)] (Y, (S, T)) _
      refine ite_el h (fun q5 h => ?_) (fun q5 h => ?_)
      · refine go_if_ne (off := 42) (tgt := 54) (by decide +kernel) (by decide) (fun z => absurd q5 z) (fun _ => ?_)
        refine go_blk rfl [(.aload_n 0, 1, 0, 0, 0, .inl 0), (.iload_n 1, 1, 1, 0, 0, .inl 0), (.iconst 0, 1, 0, 0, 0, .inl 0)] 15 18 _ _ _ (by decide +kernel) ?_
        show Go _ _ _ _ _ _ 18 [(0, rm 0), (1, vi l1)] [vi 0, vi l1, rm 0] (Y, (S, T)) _
        obtain ⟨r4, hr4, h⟩ := bind_el h
        refine go_callV (idx := 233) (z := 0) (M' := M11_entry) (n := 2) (A := [vi l1, vi 0]) (v' := none) (μ' := (Y, (r4.1, T))) (d' := 1) (mc' := 0) (ms' := 0) (kc' := 0) (ks' := 0) (ci := 11) (x := .inr (.inl 0)) (by decide +kernel) ml_11_233 rfl wv11_entry rfl (by decide) rfl (lm_t0 hT) (ret11_entry hT hr4) (by decide) rfl rfl (Nat.le_of_ble_eq_true rfl) rfl (jag rfl rfl) ?_
        show Go _ _ _ _ _ _ 21 [(0, rm 0), (1, vi l1)] [] (Y, (r4.1, T)) _
        refine go_blk rfl [(.aload_n 0, 1, 0, 0, 0, .inl 0), (.dup, 1, 0, 0, 0, .inl 0), (.getfield 249, 3, 11, 27, 0, .inl 0), (.iconst 1, 1, 0, 0, 0, .inl 1), (.isub, 1, 0, 0, 0, .inl 0), (.putfield 249, 3, 11, 27, 0, .inl 0)] 21 31 _ _ _ (by decide +kernel) ?_
        refine And.intro (lm_t0 hT) ?_
        refine And.intro (lm_t0 hT) (And.intro trivial ?_)
        show Go _ _ _ _ _ _ 31 [(0, rm 0), (1, vi l1)] [] (Y, (wI r4.1 0 27 ((r4.1.1 0 27) - 1), T)) _
        refine go_blk rfl [(.aload_n 0, 1, 0, 0, 0, .inl 0), (.dup, 1, 0, 0, 0, .inl 0), (.getfield 252, 3, 11, 25, 0, .inl 0), (.iload_n 1, 1, 1, 0, 0, .inl 0), (.bipush 9, 2, 0, 0, 0, .inl 9)] 31 39 _ _ _ (by decide +kernel) ?_
        refine And.intro (lm_t0 hT) ?_
        show Go _ _ _ _ _ _ 39 [(0, rm 0), (1, vi l1)] [vi 9, vi l1, vi ((wI r4.1 0 27 ((r4.1.1 0 27) - 1)).1 0 25), rm 0] (Y, (wI r4.1 0 27 ((r4.1.1 0 27) - 1), T)) _
        have key : ∀ z0 : Int32, z0 = ((if l1 = 9 then 1 else 0) : Int32) → Go M11_answers 2 0 0 0 0 47 [(0, rm 0), (1, vi l1)] [vi z0, vi ((wI r4.1 0 27 ((r4.1.1 0 27) - 1)).1 0 25), rm 0] (Y, (wI r4.1 0 27 ((r4.1.1 0 27) - 1), T)) Q := by
          intro z0 ez0
          subst ez0
          refine go_blk rfl [(.isub, 1, 0, 0, 0, .inl 0), (.putfield 252, 3, 11, 25, 0, .inl 0)] 47 51 _ _ _ (by decide +kernel) ?_
          refine And.intro (lm_t0 hT) (And.intro trivial ?_)
          show Go _ _ _ _ _ _ 51 [(0, rm 0), (1, vi l1)] [] (Y, (wI (wI r4.1 0 27 ((r4.1.1 0 27) - 1)) 0 25 (((wI r4.1 0 27 ((r4.1.1 0 27) - 1)).1 0 25) - (((if l1 = 9 then 1 else 0) : Int32))), T)) _
          refine go_goto (off := (-51)) (tgt := 0) (by decide +kernel) (by decide) ?_
          refine go_pick [0, 1] rfl ?_
          exact ih _ _ h k
        clear h
        by_cases q6 : l1 = 9
        · refine go_icmp_ne (off := 7) (tgt := 46) (by decide +kernel) (by decide) (fun z => absurd q6 z) (fun _ => ?_)
          refine go_blk rfl [(.iconst 1, 1, 0, 0, 0, .inl 1)] 42 43 _ _ _ (by decide +kernel) ?_
          show Go _ _ _ _ _ _ 43 [(0, rm 0), (1, vi l1)] [vi 1, vi ((wI r4.1 0 27 ((r4.1.1 0 27) - 1)).1 0 25), rm 0] (Y, (wI r4.1 0 27 ((r4.1.1 0 27) - 1), T)) _
          refine go_goto (off := 4) (tgt := 47) (by decide +kernel) (by decide) ?_
          refine go_pick [0, 1] rfl ?_; exact key _ (by rw [if_pos q6])
        · refine go_icmp_ne (off := 7) (tgt := 46) (by decide +kernel) (by decide) (fun _ => ?_) (fun z => absurd z q6)
          refine go_blk rfl [(.iconst 0, 1, 0, 0, 0, .inl 0)] 46 47 _ _ _ (by decide +kernel) ?_
          show Go _ _ _ _ _ _ 47 [(0, rm 0), (1, vi l1)] [vi 0, vi ((wI r4.1 0 27 ((r4.1.1 0 27) - 1)).1 0 25), rm 0] (Y, (wI r4.1 0 27 ((r4.1.1 0 27) - 1), T)) _
          refine go_pick [0, 1] rfl ?_; exact key _ (by rw [if_neg q6])
      · refine go_if_ne (off := 42) (tgt := 54) (by decide +kernel) (by decide) (fun _ => ?_) (fun z => absurd z q5)
        obtain rfl := Option.some.inj h
        refine go_pick [] rfl ?_
        exact k
    · refine go_icmp_ne (off := 49) (tgt := 54) (by decide +kernel) (by decide) (fun _ => ?_) (fun z => absurd z q4)
      obtain rfl := Option.some.inj h
      refine go_pick [] rfl ?_
      exact k
theorem ret11_answers {S : jS} {T : jT} {Y : jS × jT} {a0 : Int32} {S1 : jS} {x : Unit} (hT : LayM T) (h : f11_answers S a0 = some (S1, x)) : Ret M11_answers 2 0 0 [rm 0, vi a0] (Y, (S, T)) (none) (Y, (S1, T)) := by
  refine Ret.of (by decide +kernel) (Nat.le_of_ble_eq_true rfl) ?_
  unfold f11_answers at h
  show Go _ _ _ _ _ _ 0 [(0, rm 0), (1, vi a0)] [] (Y, (S, T)) _
  refine go_blk rfl [(.aload_n 0, 1, 0, 0, 0, .inl 0)] 0 1 _ _ _ (by decide +kernel) ?_
  show Go _ _ _ _ _ _ 1 [(0, rm 0), (1, vi a0)] [rm 0] (Y, (S, T)) _
  obtain ⟨r1, hr1, h⟩ := bind_el h
  refine go_callV (idx := 255) (z := 0) (M' := M11_top) (n := 0) (A := []) (v' := some (vi r1)) (μ' := (Y, (S, T))) (d' := 1) (mc' := 0) (ms' := 0) (kc' := 0) (ks' := 0) (ci := 11) (x := .inr (.inl 0)) (by decide +kernel) ml_11_255 rfl wv11_top rfl (by decide) rfl (lm_t0 hT) (ret11_top hT hr1) (by decide) rfl rfl (Nat.le_of_ble_eq_true rfl) rfl (jag rfl rfl) ?_
  show Go _ _ _ _ _ _ 4 [(0, rm 0), (1, vi a0)] [vi r1] (Y, (S, T)) _
  refine go_blk rfl [(.iload_n 1, 1, 1, 0, 0, .inl 0)] 4 5 _ _ _ (by decide +kernel) ?_
  show Go _ _ _ _ _ _ 5 [(0, rm 0), (1, vi a0)] [vi a0, vi r1] (Y, (S, T)) _
  refine ite_el h (fun q1 h => ?_) (fun q1 h => ?_)
  · refine go_icmp_ne (off := 49) (tgt := 54) (by decide +kernel) (by decide) (fun z => absurd q1 z) (fun _ => ?_)
    refine go_blk rfl [(.aload_n 0, 1, 0, 0, 0, .inl 0), (.getfield 178, 3, 11, 21, 0, .inl 0)] 8 12 _ _ _ (by decide +kernel) ?_
    refine And.intro (lm_t0 hT) ?_
    show Go _ _ _ _ _ _ 12 [(0, rm 0), (1, vi a0)] [vi (S.1 0 21)] (Y, (S, T)) _
    refine ite_el h (fun q2 h => ?_) (fun q2 h => ?_)
    · refine go_if_ne (off := 42) (tgt := 54) (by decide +kernel) (by decide) (fun z => absurd q2 z) (fun _ => ?_)
      refine go_blk rfl [(.aload_n 0, 1, 0, 0, 0, .inl 0), (.iload_n 1, 1, 1, 0, 0, .inl 0), (.iconst 0, 1, 0, 0, 0, .inl 0)] 15 18 _ _ _ (by decide +kernel) ?_
      show Go _ _ _ _ _ _ 18 [(0, rm 0), (1, vi a0)] [vi 0, vi a0, rm 0] (Y, (S, T)) _
      obtain ⟨r2, hr2, h⟩ := bind_el h
      refine go_callV (idx := 233) (z := 0) (M' := M11_entry) (n := 2) (A := [vi a0, vi 0]) (v' := none) (μ' := (Y, (r2.1, T))) (d' := 1) (mc' := 0) (ms' := 0) (kc' := 0) (ks' := 0) (ci := 11) (x := .inr (.inl 0)) (by decide +kernel) ml_11_233 rfl wv11_entry rfl (by decide) rfl (lm_t0 hT) (ret11_entry hT hr2) (by decide) rfl rfl (Nat.le_of_ble_eq_true rfl) rfl (jag rfl rfl) ?_
      show Go _ _ _ _ _ _ 21 [(0, rm 0), (1, vi a0)] [] (Y, (r2.1, T)) _
      refine go_blk rfl [(.aload_n 0, 1, 0, 0, 0, .inl 0), (.dup, 1, 0, 0, 0, .inl 0), (.getfield 249, 3, 11, 27, 0, .inl 0), (.iconst 1, 1, 0, 0, 0, .inl 1), (.isub, 1, 0, 0, 0, .inl 0), (.putfield 249, 3, 11, 27, 0, .inl 0)] 21 31 _ _ _ (by decide +kernel) ?_
      refine And.intro (lm_t0 hT) ?_
      refine And.intro (lm_t0 hT) (And.intro trivial ?_)
      show Go _ _ _ _ _ _ 31 [(0, rm 0), (1, vi a0)] [] (Y, (wI r2.1 0 27 ((r2.1.1 0 27) - 1), T)) _
      refine go_blk rfl [(.aload_n 0, 1, 0, 0, 0, .inl 0), (.dup, 1, 0, 0, 0, .inl 0), (.getfield 252, 3, 11, 25, 0, .inl 0), (.iload_n 1, 1, 1, 0, 0, .inl 0), (.bipush 9, 2, 0, 0, 0, .inl 9)] 31 39 _ _ _ (by decide +kernel) ?_
      refine And.intro (lm_t0 hT) ?_
      show Go _ _ _ _ _ _ 39 [(0, rm 0), (1, vi a0)] [vi 9, vi a0, vi ((wI r2.1 0 27 ((r2.1.1 0 27) - 1)).1 0 25), rm 0] (Y, (wI r2.1 0 27 ((r2.1.1 0 27) - 1), T)) _
      have key : ∀ z0 : Int32, z0 = ((if a0 = 9 then 1 else 0) : Int32) → Go M11_answers 2 0 0 0 0 47 [(0, rm 0), (1, vi a0)] [vi z0, vi ((wI r2.1 0 27 ((r2.1.1 0 27) - 1)).1 0 25), rm 0] (Y, (wI r2.1 0 27 ((r2.1.1 0 27) - 1), T)) (eqQ none (Y, (S1, T))) := by
        intro z0 ez0
        subst ez0
        refine go_blk rfl [(.isub, 1, 0, 0, 0, .inl 0), (.putfield 252, 3, 11, 25, 0, .inl 0)] 47 51 _ _ _ (by decide +kernel) ?_
        refine And.intro (lm_t0 hT) (And.intro trivial ?_)
        show Go _ _ _ _ _ _ 51 [(0, rm 0), (1, vi a0)] [] (Y, (wI (wI r2.1 0 27 ((r2.1.1 0 27) - 1)) 0 25 (((wI r2.1 0 27 ((r2.1.1 0 27) - 1)).1 0 25) - (((if a0 = 9 then 1 else 0) : Int32))), T)) _
        refine go_goto (off := (-51)) (tgt := 0) (by decide +kernel) (by decide) ?_
        refine go_pick [0, 1] rfl ?_
        obtain ⟨y5, hy5, h⟩ := bind_el h
        refine f11_answers_L1_ok hT _ _ _ hy5 ?_
        show Go _ _ _ _ _ _ 54 [] [] (Y, (y5, T)) _
        obtain ⟨rfl, rfl⟩ := Prod.mk.inj (Option.some.inj h)
        exact go_return (by decide +kernel) rfl ⟨rfl, rfl⟩
      clear h
      by_cases q3 : a0 = 9
      · refine go_icmp_ne (off := 7) (tgt := 46) (by decide +kernel) (by decide) (fun z => absurd q3 z) (fun _ => ?_)
        refine go_blk rfl [(.iconst 1, 1, 0, 0, 0, .inl 1)] 42 43 _ _ _ (by decide +kernel) ?_
        show Go _ _ _ _ _ _ 43 [(0, rm 0), (1, vi a0)] [vi 1, vi ((wI r2.1 0 27 ((r2.1.1 0 27) - 1)).1 0 25), rm 0] (Y, (wI r2.1 0 27 ((r2.1.1 0 27) - 1), T)) _
        refine go_goto (off := 4) (tgt := 47) (by decide +kernel) (by decide) ?_
        refine go_pick [0, 1] rfl ?_; exact key _ (by rw [if_pos q3])
      · refine go_icmp_ne (off := 7) (tgt := 46) (by decide +kernel) (by decide) (fun _ => ?_) (fun z => absurd z q3)
        refine go_blk rfl [(.iconst 0, 1, 0, 0, 0, .inl 0)] 46 47 _ _ _ (by decide +kernel) ?_
        show Go _ _ _ _ _ _ 47 [(0, rm 0), (1, vi a0)] [vi 0, vi ((wI r2.1 0 27 ((r2.1.1 0 27) - 1)).1 0 25), rm 0] (Y, (wI r2.1 0 27 ((r2.1.1 0 27) - 1), T)) _
        refine go_pick [0, 1] rfl ?_; exact key _ (by rw [if_neg q3])
    · refine go_if_ne (off := 42) (tgt := 54) (by decide +kernel) (by decide) (fun _ => ?_) (fun z => absurd z q2)
      obtain ⟨rfl, rfl⟩ := Prod.mk.inj (Option.some.inj h)
      exact go_return (by decide +kernel) rfl ⟨rfl, rfl⟩
  · refine go_icmp_ne (off := 49) (tgt := 54) (by decide +kernel) (by decide) (fun _ => ?_) (fun z => absurd z q1)
    obtain ⟨rfl, rfl⟩ := Prod.mk.inj (Option.some.inj h)
    exact go_return (by decide +kernel) rfl ⟨rfl, rfl⟩
def f11_fact (S : jS) : Option (jS × Int32) := Option.bind (f11_blanks S) (fun r1 => Option.bind (f11_stood r1.1 10) (fun r2 => (if r2 = 0 then Option.bind (f11_sign r1.1) (fun r3 => (if r3 = 91 then Option.bind (f11_opens r1.1 12) (fun r4 => some (wI r4.1 0 20 ((r4.1.1 0 20) + 1), 0)) else Option.bind (f11_compared r1.1) (fun r5 => some (r5.1, 1)))) else Option.bind (f11_opens r1.1 9) (fun r6 => some (wI r6.1 0 20 ((r6.1.1 0 20) + 3), 0)))))
theorem ret11_fact {S : jS} {T : jT} {Y : jS × jT} {S1 : jS} {x : Int32} (hT : LayM T) (h : f11_fact S = some (S1, x)) : Ret M11_fact 10 0 0 [rm 0] (Y, (S, T)) (some (vi x)) (Y, (S1, T)) := by
  refine Ret.of (by decide +kernel) (Nat.le_of_ble_eq_true rfl) ?_
  unfold f11_fact at h
  show Go _ _ _ _ _ _ 0 [(0, rm 0)] [] (Y, (S, T)) _
  refine go_blk rfl [(.aload_n 0, 1, 0, 0, 0, .inl 0)] 0 1 _ _ _ (by decide +kernel) ?_
  show Go _ _ _ _ _ _ 1 [(0, rm 0)] [rm 0] (Y, (S, T)) _
  obtain ⟨r1, hr1, h⟩ := bind_el h
  refine go_callV (idx := 201) (z := 0) (M' := M11_blanks) (n := 0) (A := []) (v' := none) (μ' := (Y, (r1.1, T))) (d' := 2) (mc' := 0) (ms' := 0) (kc' := 0) (ks' := 0) (ci := 11) (x := .inr (.inl 0)) (by decide +kernel) ml_11_201 rfl wv11_blanks rfl (by decide) rfl (lm_t0 hT) (ret11_blanks hT hr1) (by decide) rfl rfl (Nat.le_of_ble_eq_true rfl) rfl (jag rfl rfl) ?_
  show Go _ _ _ _ _ _ 4 [(0, rm 0)] [] (Y, (r1.1, T)) _
  refine go_blk rfl [(.aload_n 0, 1, 0, 0, 0, .inl 0), (.ldc_w 258, 3, 0, 0, 0, .inr (.inr (some (.inr (.inr 10)))))] 4 8 _ _ _ (by decide +kernel) ?_
  show Go _ _ _ _ _ _ 8 [(0, rm 0)] [rs 10, rm 0] (Y, (r1.1, T)) _
  obtain ⟨r2, hr2, h⟩ := bind_el h
  refine go_callV (idx := 204) (z := 0) (M' := M11_stood) (n := 1) (A := [rs 10]) (v' := some (vi r2)) (μ' := (Y, (r1.1, T))) (d' := 5) (mc' := 0) (ms' := 0) (kc' := 0) (ks' := 0) (ci := 11) (x := .inr (.inl 0)) (by decide +kernel) ml_11_204 rfl wv11_stood rfl (by decide) rfl (lm_t0 hT) (ret11_stood hT (by decide) hr2) (by decide) rfl rfl (Nat.le_of_ble_eq_true rfl) rfl (jag rfl rfl) ?_
  show Go _ _ _ _ _ _ 11 [(0, rm 0)] [vi r2] (Y, (r1.1, T)) _
  refine ite_el h (fun q1 h => ?_) (fun q1 h => ?_)
  · refine go_if_eq (off := 21) (tgt := 32) (by decide +kernel) (by decide) (fun _ => ?_) (fun z => absurd q1 z)
    refine go_blk rfl [(.aload_n 0, 1, 0, 0, 0, .inl 0)] 32 33 _ _ _ (by decide +kernel) ?_
    show Go _ _ _ _ _ _ 33 [(0, rm 0)] [rm 0] (Y, (r1.1, T)) _
    obtain ⟨r3, hr3, h⟩ := bind_el h
    refine go_callV (idx := 184) (z := 0) (M' := M11_sign) (n := 0) (A := []) (v' := some (vi r3)) (μ' := (Y, (r1.1, T))) (d' := 1) (mc' := 0) (ms' := 0) (kc' := 0) (ks' := 0) (ci := 11) (x := .inr (.inl 0)) (by decide +kernel) ml_11_184 rfl wv11_sign rfl (by decide) rfl (lm_t0 hT) (ret11_sign hT hr3) (by decide) rfl rfl (Nat.le_of_ble_eq_true rfl) rfl (jag rfl rfl) ?_
    show Go _ _ _ _ _ _ 36 [(0, rm 0)] [vi r3] (Y, (r1.1, T)) _
    refine go_blk rfl [(.bipush 91, 2, 0, 0, 0, .inl 91)] 36 38 _ _ _ (by decide +kernel) ?_
    show Go _ _ _ _ _ _ 38 [(0, rm 0)] [vi 91, vi r3] (Y, (r1.1, T)) _
    refine ite_el h (fun q2 h => ?_) (fun q2 h => ?_)
    · refine go_icmp_ne (off := 21) (tgt := 59) (by decide +kernel) (by decide) (fun z => absurd q2 z) (fun _ => ?_)
      refine go_blk rfl [(.aload_n 0, 1, 0, 0, 0, .inl 0), (.bipush 12, 2, 0, 0, 0, .inl 12)] 41 44 _ _ _ (by decide +kernel) ?_
      show Go _ _ _ _ _ _ 44 [(0, rm 0)] [vi 12, rm 0] (Y, (r1.1, T)) _
      obtain ⟨r4, hr4, h⟩ := bind_el h
      refine go_callV (idx := 260) (z := 0) (M' := M11_opens) (n := 1) (A := [vi 12]) (v' := none) (μ' := (Y, (r4.1, T))) (d' := 2) (mc' := 0) (ms' := 0) (kc' := 0) (ks' := 0) (ci := 11) (x := .inr (.inl 0)) (by decide +kernel) ml_11_260 rfl wv11_opens rfl (by decide) rfl (lm_t0 hT) (ret11_opens hT hr4) (by decide) rfl rfl (Nat.le_of_ble_eq_true rfl) rfl (jag rfl rfl) ?_
      show Go _ _ _ _ _ _ 47 [(0, rm 0)] [] (Y, (r4.1, T)) _
      refine go_blk rfl [(.aload_n 0, 1, 0, 0, 0, .inl 0), (.dup, 1, 0, 0, 0, .inl 0), (.getfield 181, 3, 11, 20, 0, .inl 0), (.iconst 1, 1, 0, 0, 0, .inl 1), (.iadd, 1, 0, 0, 0, .inl 0), (.putfield 181, 3, 11, 20, 0, .inl 0)] 47 57 _ _ _ (by decide +kernel) ?_
      refine And.intro (lm_t0 hT) ?_
      refine And.intro (lm_t0 hT) (And.intro trivial ?_)
      show Go _ _ _ _ _ _ 57 [(0, rm 0)] [] (Y, (wI r4.1 0 20 ((r4.1.1 0 20) + 1), T)) _
      refine go_blk rfl [(.iconst 0, 1, 0, 0, 0, .inl 0)] 57 58 _ _ _ (by decide +kernel) ?_
      show Go _ _ _ _ _ _ 58 [(0, rm 0)] [vi 0] (Y, (wI r4.1 0 20 ((r4.1.1 0 20) + 1), T)) _
      obtain ⟨rfl, rfl⟩ := Prod.mk.inj (Option.some.inj h)
      exact go_ireturn (by decide +kernel) rfl rfl ⟨rfl, rfl⟩
    · refine go_icmp_ne (off := 21) (tgt := 59) (by decide +kernel) (by decide) (fun _ => ?_) (fun z => absurd z q2)
      refine go_blk rfl [(.aload_n 0, 1, 0, 0, 0, .inl 0)] 59 60 _ _ _ (by decide +kernel) ?_
      show Go _ _ _ _ _ _ 60 [(0, rm 0)] [rm 0] (Y, (r1.1, T)) _
      obtain ⟨r5, hr5, h⟩ := bind_el h
      refine go_callV (idx := 263) (z := 0) (M' := M11_compared) (n := 0) (A := []) (v' := none) (μ' := (Y, (r5.1, T))) (d' := 9) (mc' := 0) (ms' := 0) (kc' := 0) (ks' := 0) (ci := 11) (x := .inr (.inl 0)) (by decide +kernel) ml_11_263 rfl wv11_compared rfl (by decide) rfl (lm_t0 hT) (ret11_compared hT hr5) (by decide) rfl rfl (Nat.le_of_ble_eq_true rfl) rfl (jag rfl rfl) ?_
      show Go _ _ _ _ _ _ 63 [(0, rm 0)] [] (Y, (r5.1, T)) _
      refine go_blk rfl [(.iconst 1, 1, 0, 0, 0, .inl 1)] 63 64 _ _ _ (by decide +kernel) ?_
      show Go _ _ _ _ _ _ 64 [(0, rm 0)] [vi 1] (Y, (r5.1, T)) _
      obtain ⟨rfl, rfl⟩ := Prod.mk.inj (Option.some.inj h)
      exact go_ireturn (by decide +kernel) rfl rfl ⟨rfl, rfl⟩
  · refine go_if_eq (off := 21) (tgt := 32) (by decide +kernel) (by decide) (fun z => absurd z q1) (fun _ => ?_)
    refine go_blk rfl [(.aload_n 0, 1, 0, 0, 0, .inl 0), (.bipush 9, 2, 0, 0, 0, .inl 9)] 14 17 _ _ _ (by decide +kernel) ?_
    show Go _ _ _ _ _ _ 17 [(0, rm 0)] [vi 9, rm 0] (Y, (r1.1, T)) _
    obtain ⟨r6, hr6, h⟩ := bind_el h
    refine go_callV (idx := 260) (z := 0) (M' := M11_opens) (n := 1) (A := [vi 9]) (v' := none) (μ' := (Y, (r6.1, T))) (d' := 2) (mc' := 0) (ms' := 0) (kc' := 0) (ks' := 0) (ci := 11) (x := .inr (.inl 0)) (by decide +kernel) ml_11_260 rfl wv11_opens rfl (by decide) rfl (lm_t0 hT) (ret11_opens hT hr6) (by decide) rfl rfl (Nat.le_of_ble_eq_true rfl) rfl (jag rfl rfl) ?_
    show Go _ _ _ _ _ _ 20 [(0, rm 0)] [] (Y, (r6.1, T)) _
    refine go_blk rfl [(.aload_n 0, 1, 0, 0, 0, .inl 0), (.dup, 1, 0, 0, 0, .inl 0), (.getfield 181, 3, 11, 20, 0, .inl 0), (.iconst 3, 1, 0, 0, 0, .inl 3), (.iadd, 1, 0, 0, 0, .inl 0), (.putfield 181, 3, 11, 20, 0, .inl 0)] 20 30 _ _ _ (by decide +kernel) ?_
    refine And.intro (lm_t0 hT) ?_
    refine And.intro (lm_t0 hT) (And.intro trivial ?_)
    show Go _ _ _ _ _ _ 30 [(0, rm 0)] [] (Y, (wI r6.1 0 20 ((r6.1.1 0 20) + 3), T)) _
    refine go_blk rfl [(.iconst 0, 1, 0, 0, 0, .inl 0)] 30 31 _ _ _ (by decide +kernel) ?_
    show Go _ _ _ _ _ _ 31 [(0, rm 0)] [vi 0] (Y, (wI r6.1 0 20 ((r6.1.1 0 20) + 3), T)) _
    obtain ⟨rfl, rfl⟩ := Prod.mk.inj (Option.some.inj h)
    exact go_ireturn (by decide +kernel) rfl rfl ⟨rfl, rfl⟩
