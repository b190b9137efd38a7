def f11_test_L1  : Nat → jS → Int32 → Int32 → Option jS
  | 0, _, _, _ => none
  | n + 1, S, l1, l2 => (if l2 = 0 then some S else (if (S.1 0 21) = 0 then (if l1 = 0 then Option.bind (f11_answers S 9) (fun r1 => Option.bind (f11_blanks r1.1) (fun r2 => Option.bind (f11_stood r2.1 0) (fun r3 => Option.bind (f11_stood r2.1 11) (fun r4 => Option.bind (f11_answers r2.1 10) (fun r5 => Option.bind (if r3 = 0 then (if r4 = 0 then Option.bind (f11_answers r5.1 11) (fun r6 => Option.bind (f11_top r6.1) (fun r7 => (if r7 = 12 then Option.bind (f11_sign r6.1) (fun r8 => Option.bind (if r8 = 93 then some r6.1 else Option.bind (f11_fails r6.1 0 (r6.1.1 0 20)) (fun r9 => some r9.1)) (fun (y10 : jS) => some (l1, l2, wI (wI (wI y10 0 20 ((y10.1 0 20) + 1)) 0 27 (((wI y10 0 20 ((y10.1 0 20) + 1)).1 0 27) - 1)) 0 25 (((wI (wI y10 0 20 ((y10.1 0 20) + 1)) 0 27 (((wI y10 0 20 ((y10.1 0 20) + 1)).1 0 27) - 1)).1 0 25) - 1)))) else some (l1, 0, r6.1)))) else Option.bind (if r4 = 0 then some r5.1 else Option.bind (f11_answers r5.1 11) (fun r11 => some r11.1)) (fun (y12 : jS) => Option.bind (f11_opens y12 (((if r3 = 0 then 11 else 10) : Int32))) (fun r13 => some (1, l2, wI r13.1 0 20 ((r13.1.1 0 20) + (((if r3 = 0 then 2 else 3) : Int32))))))) else Option.bind (if r4 = 0 then some r5.1 else Option.bind (f11_answers r5.1 11) (fun r14 => some r14.1)) (fun (y15 : jS) => Option.bind (f11_opens y15 (((if r3 = 0 then 11 else 10) : Int32))) (fun r16 => some (1, l2, wI r16.1 0 20 ((r16.1.1 0 20) + (((if r3 = 0 then 2 else 3) : Int32))))))) (fun (y17 : Int32 × Int32 × jS) => f11_test_L1 n y17.2.2 y17.1 y17.2.1)))))) else Option.bind (f11_fact S) (fun r18 => f11_test_L1 n r18.1 (((if r18.2 = 0 then 1 else 0) : Int32)) l2)) else some S))
def f11_test (S : jS) : Option (jS × Unit) := Option.bind (f11_test_L1 jF (wI S 0 27 0) 1 1) (fun y19 => some (y19, ()))
theorem f11_test_L1_ok {T : jT} {Y : jS × jT} {Q : Option jV → jMem → Prop} (hT : LayM T) : ∀ (n : Nat) (S : jS) (l1 : Int32) (l2 : Int32) (r : jS), f11_test_L1 n S l1 l2 = some r → Go M11_test 11 0 0 0 0 202 [] [] (Y, (r, T)) Q → Go M11_test 11 0 0 0 0 9 [(0, rm 0), (1, vi l1), (2, vi l2)] [] (Y, (S, T)) Q := by
  intro n
  induction n with
  | zero => intro S l1 l2 r h k; exact absurd h (by intro z; cases z)
  | succ n ih =>
    intro S l1 l2 r h k
    rw [f11_test_L1] at h
    refine go_blk rfl [(.iload_n 2, 1, 2, 0, 0, .inl 0)] 9 10 _ _ _ (by decide +kernel) ?_
    show Go _ _ _ _ _ _ 10 [(0, rm 0), (1, vi l1), (2, vi l2)] [vi l2] (Y, (S, T)) _
    refine ite_el h (fun q1 h => ?_) (fun q1 h => ?_)
    · refine go_if_eq (off := 192) (tgt := 202) (by decide +kernel) (by decide) (fun _ => ?_) (fun z => absurd q1 z)
      obtain rfl := Option.some.inj h
      refine go_pick [] rfl ?_
      exact k
    · refine go_if_eq (off := 192) (tgt := 202) (by decide +kernel) (by decide) (fun z => absurd z q1) (fun _ => ?_)
      refine go_blk rfl [(.aload_n 0, 1, 0, 0, 0, .inl 0), (.getfield 178, 3, 11, 21, 0, .inl 0)] 13 17 _ _ _ (by decide +kernel) ?_
      refine And.intro (lm_t0 hT) ?_
      show Go _ _ _ _ _ _ 17 [(0, rm 0), (1, vi l1), (2, vi l2)] [vi (S.1 0 21)] (Y, (S, T)) _
      refine ite_el h (fun q2 h => ?_) (fun q2 h => ?_)
      · refine go_if_ne (off := 185) (tgt := 202) (by decide +kernel) (by decide) (fun z => absurd q2 z) (fun _ => ?_)
        refine go_blk rfl [(.iload_n 1, 1, 1, 0, 0, .inl 0)] 20 21 _ _ _ (by decide +kernel) ?_
        show Go _ _ _ _ _ _ 21 [(0, rm 0), (1, vi l1), (2, vi l2)] [vi l1] (Y, (S, T)) _
        refine ite_el h (fun q3 h => ?_) (fun q3 h => ?_)
        · refine go_if_eq (off := 19) (tgt := 40) (by decide +kernel) (by decide) (fun _ => ?_) (fun z => absurd q3 z)
          refine go_blk rfl [(.aload_n 0, 1, 0, 0, 0, .inl 0), (.bipush 9, 2, 0, 0, 0, .inl 9)] 40 43 _ _ _ (by decide +kernel) ?_
          show Go _ _ _ _ _ _ 43 [(0, rm 0), (1, vi l1), (2, vi l2)] [vi 9, rm 0] (Y, (S, T)) _
          obtain ⟨r1, hr1, h⟩ := bind_el h
          refine go_callV (idx := 269) (z := 0) (M' := M11_answers) (n := 1) (A := [vi 9]) (v' := none) (μ' := (Y, (r1.1, T))) (d' := 2) (mc' := 0) (ms' := 0) (kc' := 0) (ks' := 0) (ci := 11) (x := .inr (.inl 0)) (by decide +kernel) ml_11_269 rfl wv11_answers rfl (by decide) rfl (lm_t0 hT) (ret11_answers hT hr1) (by decide) rfl rfl (Nat.le_of_ble_eq_true rfl) rfl (jag rfl rfl) ?_
          show Go _ _ _ _ _ _ 46 [(0, rm 0), (1, vi l1), (2, vi l2)] [] (Y, (r1.1, T)) _
          refine go_blk rfl [(.aload_n 0, 1, 0, 0, 0, .inl 0)] 46 47 _ _ _ (by decide +kernel) ?_
          show Go _ _ _ _ _ _ 47 [(0, rm 0), (1, vi l1), (2, vi l2)] [rm 0] (Y, (r1.1, T)) _
          obtain ⟨r2, hr2, h⟩ := bind_el h
          refine go_callV (idx := 201) (z := 0) (M' := M11_blanks) (n := 0) (A := []) (v' := none) (μ' := (Y, (r2.1, T))) (d' := 2) (mc' := 0) (ms' := 0) (kc' := 0) (ks' := 0) (ci := 11) (x := .inr (.inl 0)) (by decide +kernel) ml_11_201 rfl wv11_blanks rfl (by decide) rfl (lm_t0 hT) (ret11_blanks hT hr2) (by decide) rfl rfl (Nat.le_of_ble_eq_true rfl) rfl (jag rfl rfl) ?_
          show Go _ _ _ _ _ _ 50 [(0, rm 0), (1, vi l1), (2, vi l2)] [] (Y, (r2.1, T)) _
          refine go_blk rfl [(.aload_n 0, 1, 0, 0, 0, .inl 0), (.ldc_w 272, 3, 0, 0, 0, .inr (.inr (some (.inr (.inr 0)))))] 50 54 _ _ _ (by decide +kernel) ?_
          show Go _ _ _ _ _ _ 54 [(0, rm 0), (1, vi l1), (2, vi l2)] [rs 0, rm 0] (Y, (r2.1, T)) _
          obtain ⟨r3, hr3, h⟩ := bind_el h
          refine go_callV (idx := 204) (z := 0) (M' := M11_stood) (n := 1) (A := [rs 0]) (v' := some (vi r3)) (μ' := (Y, (r2.1, T))) (d' := 5) (mc' := 0) (ms' := 0) (kc' := 0) (ks' := 0) (ci := 11) (x := .inr (.inl 0)) (by decide +kernel) ml_11_204 rfl wv11_stood rfl (by decide) rfl (lm_t0 hT) (ret11_stood hT (by decide) hr3) (by decide) rfl rfl (Nat.le_of_ble_eq_true rfl) rfl (jag rfl rfl) ?_
          show Go _ _ _ _ _ _ 57 [(0, rm 0), (1, vi l1), (2, vi l2)] [vi r3] (Y, (r2.1, T)) _
          refine go_blk rfl [(.istore_n 3, 1, 3, 0, 0, .inl 0), (.aload_n 0, 1, 0, 0, 0, .inl 0), (.ldc_w 274, 3, 0, 0, 0, .inr (.inr (some (.inr (.inr 11)))))] 57 62 _ _ _ (by decide +kernel) ?_
          show Go _ _ _ _ _ _ 62 [(3, vi r3), (0, rm 0), (1, vi l1), (2, vi l2)] [rs 11, rm 0] (Y, (r2.1, T)) _
          obtain ⟨r4, hr4, h⟩ := bind_el h
          refine go_callV (idx := 204) (z := 0) (M' := M11_stood) (n := 1) (A := [rs 11]) (v' := some (vi r4)) (μ' := (Y, (r2.1, T))) (d' := 5) (mc' := 0) (ms' := 0) (kc' := 0) (ks' := 0) (ci := 11) (x := .inr (.inl 0)) (by decide +kernel) ml_11_204 rfl wv11_stood rfl (by decide) rfl (lm_t0 hT) (ret11_stood hT (by decide) hr4) (by decide) rfl rfl (Nat.le_of_ble_eq_true rfl) rfl (jag rfl rfl) ?_
          show Go _ _ _ _ _ _ 65 [(3, vi r3), (0, rm 0), (1, vi l1), (2, vi l2)] [vi r4] (Y, (r2.1, T)) _
          refine go_blk rfl [(.istore 4, 2, 4, 0, 0, .inl 0), (.aload_n 0, 1, 0, 0, 0, .inl 0), (.bipush 10, 2, 0, 0, 0, .inl 10)] 65 70 _ _ _ (by decide +kernel) ?_
          show Go _ _ _ _ _ _ 70 [(4, vi r4), (3, vi r3), (0, rm 0), (1, vi l1), (2, vi l2)] [vi 10, rm 0] (Y, (r2.1, T)) _
          obtain ⟨r5, hr5, h⟩ := bind_el h
          refine go_callV (idx := 269) (z := 0) (M' := M11_answers) (n := 1) (A := [vi 10]) (v' := none) (μ' := (Y, (r5.1, T))) (d' := 2) (mc' := 0) (ms' := 0) (kc' := 0) (ks' := 0) (ci := 11) (x := .inr (.inl 0)) (by decide +kernel) ml_11_269 rfl wv11_answers rfl (by decide) rfl (lm_t0 hT) (ret11_answers hT hr5) (by decide) rfl rfl (Nat.le_of_ble_eq_true rfl) rfl (jag rfl rfl) ?_
          show Go _ _ _ _ _ _ 73 [(4, vi r4), (3, vi r3), (0, rm 0), (1, vi l1), (2, vi l2)] [] (Y, (r5.1, T)) _
          refine go_blk rfl [(.iload_n 3, 1, 3, 0, 0, .inl 0)] 73 74 _ _ _ (by decide +kernel) ?_
          show Go _ _ _ _ _ _ 74 [(4, vi r4), (3, vi r3), (0, rm 0), (1, vi l1), (2, vi l2)] [vi r3] (Y, (r5.1, T)) _
          obtain ⟨y17, hy17, h⟩ := bind_el h
          have key : Go M11_test 11 0 0 0 0 199 [(0, rm 0), (1, vi y17.1), (2, vi y17.2.1)] [] (Y, (y17.2.2, T)) Q := by
            refine go_goto (off := (-190)) (tgt := 9) (by decide +kernel) (by decide) ?_
            refine go_pick [0, 1, 2] rfl ?_
            exact ih _ _ _ _ h k
          replace h := hy17
          refine ite_el h (fun q4 h => ?_) (fun q4 h => ?_)
          · refine go_if_ne (off := 8) (tgt := 82) (by decide +kernel) (by decide) (fun z => absurd q4 z) (fun _ => ?_)
            refine go_blk rfl [(.iload 4, 2, 4, 0, 0, .inl 0)] 77 79 _ _ _ (by decide +kernel) ?_
            show Go _ _ _ _ _ _ 79 [(4, vi r4), (3, vi r3), (0, rm 0), (1, vi l1), (2, vi l2)] [vi r4] (Y, (r5.1, T)) _
            refine ite_el h (fun q5 h => ?_) (fun q5 h => ?_)
            · refine go_if_eq (off := 52) (tgt := 131) (by decide +kernel) (by decide) (fun _ => ?_) (fun z => absurd q5 z)
              refine go_blk rfl [(.aload_n 0, 1, 0, 0, 0, .inl 0), (.bipush 11, 2, 0, 0, 0, .inl 11)] 131 134 _ _ _ (by decide +kernel) ?_
              show Go _ _ _ _ _ _ 134 [(4, vi r4), (3, vi r3), (0, rm 0), (1, vi l1), (2, vi l2)] [vi 11, rm 0] (Y, (r5.1, T)) _
              obtain ⟨r6, hr6, h⟩ := bind_el h
              refine go_callV (idx := 269) (z := 0) (M' := M11_answers) (n := 1) (A := [vi 11]) (v' := none) (μ' := (Y, (r6.1, T))) (d' := 2) (mc' := 0) (ms' := 0) (kc' := 0) (ks' := 0) (ci := 11) (x := .inr (.inl 0)) (by decide +kernel) ml_11_269 rfl wv11_answers rfl (by decide) rfl (lm_t0 hT) (ret11_answers hT hr6) (by decide) rfl rfl (Nat.le_of_ble_eq_true rfl) rfl (jag rfl rfl) ?_
              show Go _ _ _ _ _ _ 137 [(4, vi r4), (3, vi r3), (0, rm 0), (1, vi l1), (2, vi l2)] [] (Y, (r6.1, T)) _
              refine go_blk rfl [(.aload_n 0, 1, 0, 0, 0, .inl 0)] 137 138 _ _ _ (by decide +kernel) ?_
              show Go _ _ _ _ _ _ 138 [(4, vi r4), (3, vi r3), (0, rm 0), (1, vi l1), (2, vi l2)] [rm 0] (Y, (r6.1, T)) _
              obtain ⟨r7, hr7, h⟩ := bind_el h
              refine go_callV (idx := 255) (z := 0) (M' := M11_top) (n := 0) (A := []) (v' := some (vi r7)) (μ' := (Y, (r6.1, T))) (d' := 1) (mc' := 0) (ms' := 0) (kc' := 0) (ks' := 0) (ci := 11) (x := .inr (.inl 0)) (by decide +kernel) ml_11_255 rfl wv11_top rfl (by decide) rfl (lm_t0 hT) (ret11_top hT hr7) (by decide) rfl rfl (Nat.le_of_ble_eq_true rfl) rfl (jag rfl rfl) ?_
              show Go _ _ _ _ _ _ 141 [(4, vi r4), (3, vi r3), (0, rm 0), (1, vi l1), (2, vi l2)] [vi r7] (Y, (r6.1, T)) _
              refine go_blk rfl [(.bipush 12, 2, 0, 0, 0, .inl 12)] 141 143 _ _ _ (by decide +kernel) ?_
              show Go _ _ _ _ _ _ 143 [(4, vi r4), (3, vi r3), (0, rm 0), (1, vi l1), (2, vi l2)] [vi 12, vi r7] (Y, (r6.1, T)) _
              refine ite_el h (fun q6 h => ?_) (fun q6 h => ?_)
              · refine go_icmp_ne (off := 54) (tgt := 197) (by decide +kernel) (by decide) (fun z => absurd q6 z) (fun _ => ?_)
                refine go_blk rfl [(.aload_n 0, 1, 0, 0, 0, .inl 0)] 146 147 _ _ _ (by decide +kernel) ?_
                show Go _ _ _ _ _ _ 147 [(4, vi r4), (3, vi r3), (0, rm 0), (1, vi l1), (2, vi l2)] [rm 0] (Y, (r6.1, T)) _
                obtain ⟨r8, hr8, h⟩ := bind_el h
                refine go_callV (idx := 184) (z := 0) (M' := M11_sign) (n := 0) (A := []) (v' := some (vi r8)) (μ' := (Y, (r6.1, T))) (d' := 1) (mc' := 0) (ms' := 0) (kc' := 0) (ks' := 0) (ci := 11) (x := .inr (.inl 0)) (by decide +kernel) ml_11_184 rfl wv11_sign rfl (by decide) rfl (lm_t0 hT) (ret11_sign hT hr8) (by decide) rfl rfl (Nat.le_of_ble_eq_true rfl) rfl (jag rfl rfl) ?_
                show Go _ _ _ _ _ _ 150 [(4, vi r4), (3, vi r3), (0, rm 0), (1, vi l1), (2, vi l2)] [vi r8] (Y, (r6.1, T)) _
                refine go_blk rfl [(.bipush 93, 2, 0, 0, 0, .inl 93)] 150 152 _ _ _ (by decide +kernel) ?_
                show Go _ _ _ _ _ _ 152 [(4, vi r4), (3, vi r3), (0, rm 0), (1, vi l1), (2, vi l2)] [vi 93, vi r8] (Y, (r6.1, T)) _
                obtain ⟨y10, hy10, h⟩ := bind_el h
                have key : Go M11_test 11 0 0 0 0 164 [(0, rm 0), (1, vi l1), (2, vi l2)] [] (Y, (y10, T)) Q := by
                  refine go_blk rfl [(.aload_n 0, 1, 0, 0, 0, .inl 0), (.dup, 1, 0, 0, 0, .inl 0), (.getfield 181, 3, 11, 20, 0, .inl 0), (.iconst 1, 1, 0, 0, 0, .inl 1), (.iadd, 1, 0, 0, 0, .inl 0), (.putfield 181, 3, 11, 20, 0, .inl 0)] 164 174 _ _ _ (by decide +kernel) ?_
                  refine And.intro (lm_t0 hT) ?_
                  refine And.intro (lm_t0 hT) (And.intro trivial ?_)
                  show Go _ _ _ _ _ _ 174 [(0, rm 0), (1, vi l1), (2, vi l2)] [] (Y, (wI y10 0 20 ((y10.1 0 20) + 1), T)) _
                  refine go_blk rfl [(.aload_n 0, 1, 0, 0, 0, .inl 0), (.dup, 1, 0, 0, 0, .inl 0), (.getfield 249, 3, 11, 27, 0, .inl 0), (.iconst 1, 1, 0, 0, 0, .inl 1), (.isub, 1, 0, 0, 0, .inl 0), (.putfield 249, 3, 11, 27, 0, .inl 0)] 174 184 _ _ _ (by decide +kernel) ?_
                  refine And.intro (lm_t0 hT) ?_
                  refine And.intro (lm_t0 hT) (And.intro trivial ?_)
                  show Go _ _ _ _ _ _ 184 [(0, rm 0), (1, vi l1), (2, vi l2)] [] (Y, (wI (wI y10 0 20 ((y10.1 0 20) + 1)) 0 27 (((wI y10 0 20 ((y10.1 0 20) + 1)).1 0 27) - 1), T)) _
                  refine go_blk rfl [(.aload_n 0, 1, 0, 0, 0, .inl 0), (.dup, 1, 0, 0, 0, .inl 0), (.getfield 252, 3, 11, 25, 0, .inl 0), (.iconst 1, 1, 0, 0, 0, .inl 1), (.isub, 1, 0, 0, 0, .inl 0), (.putfield 252, 3, 11, 25, 0, .inl 0)] 184 194 _ _ _ (by decide +kernel) ?_
                  refine And.intro (lm_t0 hT) ?_
                  refine And.intro (lm_t0 hT) (And.intro trivial ?_)
                  show Go _ _ _ _ _ _ 194 [(0, rm 0), (1, vi l1), (2, vi l2)] [] (Y, (wI (wI (wI y10 0 20 ((y10.1 0 20) + 1)) 0 27 (((wI y10 0 20 ((y10.1 0 20) + 1)).1 0 27) - 1)) 0 25 (((wI (wI y10 0 20 ((y10.1 0 20) + 1)) 0 27 (((wI y10 0 20 ((y10.1 0 20) + 1)).1 0 27) - 1)).1 0 25) - 1), T)) _
                  refine go_goto (off := 5) (tgt := 199) (by decide +kernel) (by decide) ?_
                  obtain rfl := Option.some.inj h
                  refine go_pick [0, 1, 2] rfl ?_
                  exact key
                replace h := hy10
                refine ite_el h (fun q7 h => ?_) (fun q7 h => ?_)
                · refine go_icmp_eq (off := 12) (tgt := 164) (by decide +kernel) (by decide) (fun _ => ?_) (fun z => absurd q7 z)
                  obtain rfl := Option.some.inj h
                  refine go_pick [2, 3, 4] rfl ?_
                  exact key
                · refine go_icmp_eq (off := 12) (tgt := 164) (by decide +kernel) (by decide) (fun z => absurd z q7) (fun _ => ?_)
                  refine go_blk rfl [(.aload_n 0, 1, 0, 0, 0, .inl 0), (.iconst 0, 1, 0, 0, 0, .inl 0), (.aload_n 0, 1, 0, 0, 0, .inl 0), (.getfield 181, 3, 11, 20, 0, .inl 0)] 155 161 _ _ _ (by decide +kernel) ?_
                  refine And.intro (lm_t0 hT) ?_
                  show Go _ _ _ _ _ _ 161 [(4, vi r4), (3, vi r3), (0, rm 0), (1, vi l1), (2, vi l2)] [vi (r6.1.1 0 20), vi 0, rm 0] (Y, (r6.1, T)) _
                  obtain ⟨r9, hr9, h⟩ := bind_el h
                  refine go_callV (idx := 217) (z := 0) (M' := M11_fails) (n := 2) (A := [vi 0, vi (r6.1.1 0 20)]) (v' := none) (μ' := (Y, (r9.1, T))) (d' := 1) (mc' := 0) (ms' := 0) (kc' := 0) (ks' := 0) (ci := 11) (x := .inr (.inl 0)) (by decide +kernel) ml_11_217 rfl wv11_fails rfl (by decide) rfl (lm_t0 hT) (ret11_fails hT hr9) (by decide) rfl rfl (Nat.le_of_ble_eq_true rfl) rfl (jag rfl rfl) ?_
                  show Go _ _ _ _ _ _ 164 [(4, vi r4), (3, vi r3), (0, rm 0), (1, vi l1), (2, vi l2)] [] (Y, (r9.1, T)) _
                  obtain rfl := Option.some.inj h
                  refine go_pick [2, 3, 4] rfl ?_
                  exact key
              · refine go_icmp_ne (off := 54) (tgt := 197) (by decide +kernel) (by decide) (fun _ => ?_) (fun z => absurd z q6)
                refine go_blk rfl [(.iconst 0, 1, 0, 0, 0, .inl 0), (.istore_n 2, 1, 2, 0, 0, .inl 0)] 197 199 _ _ _ (by decide +kernel) ?_
                show Go _ _ _ _ _ _ 199 [(2, vi 0), (4, vi r4), (3, vi r3), (0, rm 0), (1, vi l1)] [] (Y, (r6.1, T)) _
                obtain rfl := Option.some.inj h
                refine go_pick [3, 4, 0] rfl ?_
                exact key
            · refine go_if_eq (off := 52) (tgt := 131) (by decide +kernel) (by decide) (fun z => absurd z q5) (fun _ => ?_)
              refine go_blk rfl [(.iload 4, 2, 4, 0, 0, .inl 0)] 82 84 _ _ _ (by decide +kernel) ?_
              show Go _ _ _ _ _ _ 84 [(4, vi r4), (3, vi r3), (0, rm 0), (1, vi l1), (2, vi l2)] [vi r4] (Y, (r5.1, T)) _
              obtain ⟨y12, hy12, h⟩ := bind_el h
              have key : Go M11_test 11 0 0 0 0 93 [(0, rm 0), (2, vi l2), (3, vi r3)] [] (Y, (y12, T)) Q := by
                refine go_blk rfl [(.aload_n 0, 1, 0, 0, 0, .inl 0), (.iload_n 3, 1, 3, 0, 0, .inl 0)] 93 95 _ _ _ (by decide +kernel) ?_
                show Go _ _ _ _ _ _ 95 [(0, rm 0), (2, vi l2), (3, vi r3)] [vi r3, rm 0] (Y, (y12, T)) _
                have key : ∀ z0 : Int32, z0 = ((if r3 = 0 then 11 else 10) : Int32) → Go M11_test 11 0 0 0 0 105 [(0, rm 0), (2, vi l2), (3, vi r3)] [vi z0, rm 0] (Y, (y12, T)) Q := by
                  intro z0 ez0
                  subst ez0
                  obtain ⟨r13, hr13, h⟩ := bind_el h
                  refine go_callV (idx := 260) (z := 0) (M' := M11_opens) (n := 1) (A := [vi (((if r3 = 0 then 11 else 10) : Int32))]) (v' := none) (μ' := (Y, (r13.1, T))) (d' := 2) (mc' := 0) (ms' := 0) (kc' := 0) (ks' := 0) (ci := 11) (x := .inr (.inl 0)) (by decide +kernel) ml_11_260 rfl wv11_opens rfl (by decide) rfl (lm_t0 hT) (ret11_opens hT hr13) (by decide) rfl rfl (Nat.le_of_ble_eq_true rfl) rfl (jag rfl rfl) ?_
                  show Go _ _ _ _ _ _ 108 [(0, rm 0), (2, vi l2), (3, vi r3)] [] (Y, (r13.1, T)) _
                  refine go_blk rfl [(.aload_n 0, 1, 0, 0, 0, .inl 0), (.dup, 1, 0, 0, 0, .inl 0), (.getfield 181, 3, 11, 20, 0, .inl 0), (.iload_n 3, 1, 3, 0, 0, .inl 0)] 108 114 _ _ _ (by decide +kernel) ?_
                  refine And.intro (lm_t0 hT) ?_
                  show Go _ _ _ _ _ _ 114 [(0, rm 0), (2, vi l2), (3, vi r3)] [vi r3, vi (r13.1.1 0 20), rm 0] (Y, (r13.1, T)) _
                  have key : ∀ z0 : Int32, z0 = ((if r3 = 0 then 2 else 3) : Int32) → Go M11_test 11 0 0 0 0 122 [(0, rm 0), (2, vi l2)] [vi z0, vi (r13.1.1 0 20), rm 0] (Y, (r13.1, T)) Q := by
                    intro z0 ez0
                    subst ez0
                    refine go_blk rfl [(.iadd, 1, 0, 0, 0, .inl 0), (.putfield 181, 3, 11, 20, 0, .inl 0)] 122 126 _ _ _ (by decide +kernel) ?_
                    refine And.intro (lm_t0 hT) (And.intro trivial ?_)
                    show Go _ _ _ _ _ _ 126 [(0, rm 0), (2, vi l2)] [] (Y, (wI r13.1 0 20 ((r13.1.1 0 20) + (((if r3 = 0 then 2 else 3) : Int32))), T)) _
                    refine go_blk rfl [(.iconst 1, 1, 0, 0, 0, .inl 1), (.istore_n 1, 1, 1, 0, 0, .inl 0)] 126 128 _ _ _ (by decide +kernel) ?_
                    show Go _ _ _ _ _ _ 128 [(1, vi 1), (0, rm 0), (2, vi l2)] [] (Y, (wI r13.1 0 20 ((r13.1.1 0 20) + (((if r3 = 0 then 2 else 3) : Int32))), T)) _
                    refine go_goto (off := 71) (tgt := 199) (by decide +kernel) (by decide) ?_
                    obtain rfl := Option.some.inj h
                    refine go_pick [1, 0, 2] rfl ?_
                    exact key
                  clear h
                  by_cases q10 : r3 = 0
                  · refine go_if_eq (off := 7) (tgt := 121) (by decide +kernel) (by decide) (fun _ => ?_) (fun z => absurd q10 z)
                    refine go_blk rfl [(.iconst 2, 1, 0, 0, 0, .inl 2)] 121 122 _ _ _ (by decide +kernel) ?_
                    show Go _ _ _ _ _ _ 122 [(0, rm 0), (2, vi l2), (3, vi r3)] [vi 2, vi (r13.1.1 0 20), rm 0] (Y, (r13.1, T)) _
                    refine go_pick [0, 1] rfl ?_; exact key _ (by rw [if_pos q10])
                  · refine go_if_eq (off := 7) (tgt := 121) (by decide +kernel) (by decide) (fun z => absurd z q10) (fun _ => ?_)
                    refine go_blk rfl [(.iconst 3, 1, 0, 0, 0, .inl 3)] 117 118 _ _ _ (by decide +kernel) ?_
                    show Go _ _ _ _ _ _ 118 [(0, rm 0), (2, vi l2), (3, vi r3)] [vi 3, vi (r13.1.1 0 20), rm 0] (Y, (r13.1, T)) _
                    refine go_goto (off := 4) (tgt := 122) (by decide +kernel) (by decide) ?_
                    refine go_pick [0, 1] rfl ?_; exact key _ (by rw [if_neg q10])
                clear h
                by_cases q9 : r3 = 0
                · refine go_if_eq (off := 8) (tgt := 103) (by decide +kernel) (by decide) (fun _ => ?_) (fun z => absurd q9 z)
                  refine go_blk rfl [(.bipush 11, 2, 0, 0, 0, .inl 11)] 103 105 _ _ _ (by decide +kernel) ?_
                  show Go _ _ _ _ _ _ 105 [(0, rm 0), (2, vi l2), (3, vi r3)] [vi 11, rm 0] (Y, (y12, T)) _
                  refine go_pick [0, 1, 2] rfl ?_; exact key _ (by rw [if_pos q9])
                · refine go_if_eq (off := 8) (tgt := 103) (by decide +kernel) (by decide) (fun z => absurd z q9) (fun _ => ?_)
                  refine go_blk rfl [(.bipush 10, 2, 0, 0, 0, .inl 10)] 98 100 _ _ _ (by decide +kernel) ?_
                  show Go _ _ _ _ _ _ 100 [(0, rm 0), (2, vi l2), (3, vi r3)] [vi 10, rm 0] (Y, (y12, T)) _
                  refine go_goto (off := 5) (tgt := 105) (by decide +kernel) (by decide) ?_
                  refine go_pick [0, 1, 2] rfl ?_; exact key _ (by rw [if_neg q9])
              replace h := hy12
              refine ite_el h (fun q8 h => ?_) (fun q8 h => ?_)
              · refine go_if_eq (off := 9) (tgt := 93) (by decide +kernel) (by decide) (fun _ => ?_) (fun z => absurd q8 z)
                obtain rfl := Option.some.inj h
                refine go_pick [2, 4, 1] rfl ?_
                exact key
              · refine go_if_eq (off := 9) (tgt := 93) (by decide +kernel) (by decide) (fun z => absurd z q8) (fun _ => ?_)
                refine go_blk rfl [(.aload_n 0, 1, 0, 0, 0, .inl 0), (.bipush 11, 2, 0, 0, 0, .inl 11)] 87 90 _ _ _ (by decide +kernel) ?_
                show Go _ _ _ _ _ _ 90 [(4, vi r4), (3, vi r3), (0, rm 0), (1, vi l1), (2, vi l2)] [vi 11, rm 0] (Y, (r5.1, T)) _
                obtain ⟨r11, hr11, h⟩ := bind_el h
                refine go_callV (idx := 269) (z := 0) (M' := M11_answers) (n := 1) (A := [vi 11]) (v' := none) (μ' := (Y, (r11.1, T))) (d' := 2) (mc' := 0) (ms' := 0) (kc' := 0) (ks' := 0) (ci := 11) (x := .inr (.inl 0)) (by decide +kernel) ml_11_269 rfl wv11_answers rfl (by decide) rfl (lm_t0 hT) (ret11_answers hT hr11) (by decide) rfl rfl (Nat.le_of_ble_eq_true rfl) rfl (jag rfl rfl) ?_
                show Go _ _ _ _ _ _ 93 [(4, vi r4), (3, vi r3), (0, rm 0), (1, vi l1), (2, vi l2)] [] (Y, (r11.1, T)) _
                obtain rfl := Option.some.inj h
                refine go_pick [2, 4, 1] rfl ?_
                exact key
          · refine go_if_ne (off := 8) (tgt := 82) (by decide +kernel) (by decide) (fun _ => ?_) (fun z => absurd z q4)
            refine go_blk rfl [(.iload 4, 2, 4, 0, 0, .inl 0)] 82 84 _ _ _ (by decide +kernel) ?_
            show Go _ _ _ _ _ _ 84 [(4, vi r4), (3, vi r3), (0, rm 0), (1, vi l1), (2, vi l2)] [vi r4] (Y, (r5.1, T)) _
            obtain ⟨y15, hy15, h⟩ := bind_el h
            have key : Go M11_test 11 0 0 0 0 93 [(0, rm 0), (2, vi l2), (3, vi r3)] [] (Y, (y15, T)) Q := by
              refine go_blk rfl [(.aload_n 0, 1, 0, 0, 0, .inl 0), (.iload_n 3, 1, 3, 0, 0, .inl 0)] 93 95 _ _ _ (by decide +kernel) ?_
              show Go _ _ _ _ _ _ 95 [(0, rm 0), (2, vi l2), (3, vi r3)] [vi r3, rm 0] (Y, (y15, T)) _
              have key : ∀ z0 : Int32, z0 = ((if r3 = 0 then 11 else 10) : Int32) → Go M11_test 11 0 0 0 0 105 [(0, rm 0), (2, vi l2), (3, vi r3)] [vi z0, rm 0] (Y, (y15, T)) Q := by
                intro z0 ez0
                subst ez0
                obtain ⟨r16, hr16, h⟩ := bind_el h
                refine go_callV (idx := 260) (z := 0) (M' := M11_opens) (n := 1) (A := [vi (((if r3 = 0 then 11 else 10) : Int32))]) (v' := none) (μ' := (Y, (r16.1, T))) (d' := 2) (mc' := 0) (ms' := 0) (kc' := 0) (ks' := 0) (ci := 11) (x := .inr (.inl 0)) (by decide +kernel) ml_11_260 rfl wv11_opens rfl (by decide) rfl (lm_t0 hT) (ret11_opens hT hr16) (by decide) rfl rfl (Nat.le_of_ble_eq_true rfl) rfl (jag rfl rfl) ?_
                show Go _ _ _ _ _ _ 108 [(0, rm 0), (2, vi l2), (3, vi r3)] [] (Y, (r16.1, T)) _
                refine go_blk rfl [(.aload_n 0, 1, 0, 0, 0, .inl 0), (.dup, 1, 0, 0, 0, .inl 0), (.getfield 181, 3, 11, 20, 0, .inl 0), (.iload_n 3, 1, 3, 0, 0, .inl 0)] 108 114 _ _ _ (by decide +kernel) ?_
                refine And.intro (lm_t0 hT) ?_
                show Go _ _ _ _ _ _ 114 [(0, rm 0), (2, vi l2), (3, vi r3)] [vi r3, vi (r16.1.1 0 20), rm 0] (Y, (r16.1, T)) _
                have key : ∀ z0 : Int32, z0 = ((if r3 = 0 then 2 else 3) : Int32) → Go M11_test 11 0 0 0 0 122 [(0, rm 0), (2, vi l2)] [vi z0, vi (r16.1.1 0 20), rm 0] (Y, (r16.1, T)) Q := by
                  intro z0 ez0
                  subst ez0
                  refine go_blk rfl [(.iadd, 1, 0, 0, 0, .inl 0), (.putfield 181, 3, 11, 20, 0, .inl 0)] 122 126 _ _ _ (by decide +kernel) ?_
                  refine And.intro (lm_t0 hT) (And.intro trivial ?_)
                  show Go _ _ _ _ _ _ 126 [(0, rm 0), (2, vi l2)] [] (Y, (wI r16.1 0 20 ((r16.1.1 0 20) + (((if r3 = 0 then 2 else 3) : Int32))), T)) _
                  refine go_blk rfl [(.iconst 1, 1, 0, 0, 0, .inl 1), (.istore_n 1, 1, 1, 0, 0, .inl 0)] 126 128 _ _ _ (by decide +kernel) ?_
                  show Go _ _ _ _ _ _ 128 [(1, vi 1), (0, rm 0), (2, vi l2)] [] (Y, (wI r16.1 0 20 ((r16.1.1 0 20) + (((if r3 = 0 then 2 else 3) : Int32))), T)) _
                  refine go_goto (off := 71) (tgt := 199) (by decide +kernel) (by decide) ?_
                  obtain rfl := Option.some.inj h
                  refine go_pick [1, 0, 2] rfl ?_
                  exact key
                clear h
                by_cases q13 : r3 = 0
                · refine go_if_eq (off := 7) (tgt := 121) (by decide +kernel) (by decide) (fun _ => ?_) (fun z => absurd q13 z)
                  refine go_blk rfl [(.iconst 2, 1, 0, 0, 0, .inl 2)] 121 122 _ _ _ (by decide +kernel) ?_
                  show Go _ _ _ _ _ _ 122 [(0, rm 0), (2, vi l2), (3, vi r3)] [vi 2, vi (r16.1.1 0 20), rm 0] (Y, (r16.1, T)) _
                  refine go_pick [0, 1] rfl ?_; exact key _ (by rw [if_pos q13])
                · refine go_if_eq (off := 7) (tgt := 121) (by decide +kernel) (by decide) (fun z => absurd z q13) (fun _ => ?_)
                  refine go_blk rfl [(.iconst 3, 1, 0, 0, 0, .inl 3)] 117 118 _ _ _ (by decide +kernel) ?_
                  show Go _ _ _ _ _ _ 118 [(0, rm 0), (2, vi l2), (3, vi r3)] [vi 3, vi (r16.1.1 0 20), rm 0] (Y, (r16.1, T)) _
                  refine go_goto (off := 4) (tgt := 122) (by decide +kernel) (by decide) ?_
                  refine go_pick [0, 1] rfl ?_; exact key _ (by rw [if_neg q13])
              clear h
              by_cases q12 : r3 = 0
              · refine go_if_eq (off := 8) (tgt := 103) (by decide +kernel) (by decide) (fun _ => ?_) (fun z => absurd q12 z)
                refine go_blk rfl [(.bipush 11, 2, 0, 0, 0, .inl 11)] 103 105 _ _ _ (by decide +kernel) ?_
                show Go _ _ _ _ _ _ 105 [(0, rm 0), (2, vi l2), (3, vi r3)] [vi 11, rm 0] (Y, (y15, T)) _
                refine go_pick [0, 1, 2] rfl ?_; exact key _ (by rw [if_pos q12])
              · refine go_if_eq (off := 8) (tgt := 103) (by decide +kernel) (by decide) (fun z => absurd z q12) (fun _ => ?_)
                refine go_blk rfl [(.bipush 10, 2, 0, 0, 0, .inl 10)] 98 100 _ _ _ (by decide +kernel) ?_
                show Go _ _ _ _ _ _ 100 [(0, rm 0), (2, vi l2), (3, vi r3)] [vi 10, rm 0] (Y, (y15, T)) _
                refine go_goto (off := 5) (tgt := 105) (by decide +kernel) (by decide) ?_
                refine go_pick [0, 1, 2] rfl ?_; exact key _ (by rw [if_neg q12])
            replace h := hy15
            refine ite_el h (fun q11 h => ?_) (fun q11 h => ?_)
            · refine go_if_eq (off := 9) (tgt := 93) (by decide +kernel) (by decide) (fun _ => ?_) (fun z => absurd q11 z)
              obtain rfl := Option.some.inj h
              refine go_pick [2, 4, 1] rfl ?_
              exact key
            · refine go_if_eq (off := 9) (tgt := 93) (by decide +kernel) (by decide) (fun z => absurd z q11) (fun _ => ?_)
              refine go_blk rfl [(.aload_n 0, 1, 0, 0, 0, .inl 0), (.bipush 11, 2, 0, 0, 0, .inl 11)] 87 90 _ _ _ (by decide +kernel) ?_
              show Go _ _ _ _ _ _ 90 [(4, vi r4), (3, vi r3), (0, rm 0), (1, vi l1), (2, vi l2)] [vi 11, rm 0] (Y, (r5.1, T)) _
              obtain ⟨r14, hr14, h⟩ := bind_el h
              refine go_callV (idx := 269) (z := 0) (M' := M11_answers) (n := 1) (A := [vi 11]) (v' := none) (μ' := (Y, (r14.1, T))) (d' := 2) (mc' := 0) (ms' := 0) (kc' := 0) (ks' := 0) (ci := 11) (x := .inr (.inl 0)) (by decide +kernel) ml_11_269 rfl wv11_answers rfl (by decide) rfl (lm_t0 hT) (ret11_answers hT hr14) (by decide) rfl rfl (Nat.le_of_ble_eq_true rfl) rfl (jag rfl rfl) ?_
              show Go _ _ _ _ _ _ 93 [(4, vi r4), (3, vi r3), (0, rm 0), (1, vi l1), (2, vi l2)] [] (Y, (r14.1, T)) _
              obtain rfl := Option.some.inj h
              refine go_pick [2, 4, 1] rfl ?_
              exact key
        · refine go_if_eq (off := 19) (tgt := 40) (by decide +kernel) (by decide) (fun z => absurd z q3) (fun _ => ?_)
          refine go_blk rfl [(.aload_n 0, 1, 0, 0, 0, .inl 0)] 24 25 _ _ _ (by decide +kernel) ?_
          show Go _ _ _ _ _ _ 25 [(0, rm 0), (1, vi l1), (2, vi l2)] [rm 0] (Y, (S, T)) _
          obtain ⟨r18, hr18, h⟩ := bind_el h
          refine go_callV (idx := 266) (z := 0) (M' := M11_fact) (n := 0) (A := []) (v' := some (vi r18.2)) (μ' := (Y, (r18.1, T))) (d' := 10) (mc' := 0) (ms' := 0) (kc' := 0) (ks' := 0) (ci := 11) (x := .inr (.inl 0)) (by decide +kernel) ml_11_266 rfl wv11_fact rfl (by decide) rfl (lm_t0 hT) (ret11_fact hT hr18) (by decide) rfl rfl (Nat.le_of_ble_eq_true rfl) rfl (jag rfl rfl) ?_
          show Go _ _ _ _ _ _ 28 [(0, rm 0), (1, vi l1), (2, vi l2)] [vi r18.2] (Y, (r18.1, T)) _
          have key : ∀ z0 : Int32, z0 = ((if r18.2 = 0 then 1 else 0) : Int32) → Go M11_test 11 0 0 0 0 36 [(0, rm 0), (2, vi l2)] [vi z0] (Y, (r18.1, T)) Q := by
            intro z0 ez0
            subst ez0
            refine go_blk rfl [(.istore_n 1, 1, 1, 0, 0, .inl 0)] 36 37 _ _ _ (by decide +kernel) ?_
            show Go _ _ _ _ _ _ 37 [(1, vi (((if r18.2 = 0 then 1 else 0) : Int32))), (0, rm 0), (2, vi l2)] [] (Y, (r18.1, T)) _
            refine go_goto (off := (-28)) (tgt := 9) (by decide +kernel) (by decide) ?_
            refine go_pick [1, 0, 2] rfl ?_
            exact ih _ _ _ _ h k
          clear h
          by_cases q14 : r18.2 = 0
          · refine go_if_ne (off := 7) (tgt := 35) (by decide +kernel) (by decide) (fun z => absurd q14 z) (fun _ => ?_)
            refine go_blk rfl [(.iconst 1, 1, 0, 0, 0, .inl 1)] 31 32 _ _ _ (by decide +kernel) ?_
            show Go _ _ _ _ _ _ 32 [(0, rm 0), (1, vi l1), (2, vi l2)] [vi 1] (Y, (r18.1, T)) _
            refine go_goto (off := 4) (tgt := 36) (by decide +kernel) (by decide) ?_
            refine go_pick [0, 2] rfl ?_; exact key _ (by rw [if_pos q14])
          · refine go_if_ne (off := 7) (tgt := 35) (by decide +kernel) (by decide) (fun _ => ?_) (fun z => absurd z q14)
            refine go_blk rfl [(.iconst 0, 1, 0, 0, 0, .inl 0)] 35 36 _ _ _ (by decide +kernel) ?_
            show Go _ _ _ _ _ _ 36 [(0, rm 0), (1, vi l1), (2, vi l2)] [vi 0] (Y, (r18.1, T)) _
            refine go_pick [0, 2] rfl ?_; exact key _ (by rw [if_neg q14])
      · refine go_if_ne (off := 185) (tgt := 202) (by decide +kernel) (by decide) (fun _ => ?_) (fun z => absurd z q2)
        obtain rfl := Option.some.inj h
        refine go_pick [] rfl ?_
        exact k
theorem ret11_test {S : jS} {T : jT} {Y : jS × jT} {S1 : jS} {x : Unit} (hT : LayM T) (h : f11_test S = some (S1, x)) : Ret M11_test 11 0 0 [rm 0] (Y, (S, T)) (none) (Y, (S1, T)) := by
  refine Ret.of (by decide +kernel) (Nat.le_of_ble_eq_true rfl) ?_
  unfold f11_test at h
  show Go _ _ _ _ _ _ 0 [(0, rm 0)] [] (Y, (S, T)) _
  refine go_blk rfl [(.aload_n 0, 1, 0, 0, 0, .inl 0), (.iconst 0, 1, 0, 0, 0, .inl 0), (.putfield 249, 3, 11, 27, 0, .inl 0)] 0 5 _ _ _ (by decide +kernel) ?_
  refine And.intro (lm_t0 hT) (And.intro trivial ?_)
  show Go _ _ _ _ _ _ 5 [(0, rm 0)] [] (Y, (wI S 0 27 0, T)) _
  refine go_blk rfl [(.iconst 1, 1, 0, 0, 0, .inl 1), (.istore_n 1, 1, 1, 0, 0, .inl 0), (.iconst 1, 1, 0, 0, 0, .inl 1), (.istore_n 2, 1, 2, 0, 0, .inl 0)] 5 9 _ _ _ (by decide +kernel) ?_
  show Go _ _ _ _ _ _ 9 [(2, vi 1), (1, vi 1), (0, rm 0)] [] (Y, (wI S 0 27 0, T)) _
  refine go_pick [2, 1, 0] rfl ?_
  obtain ⟨y19, hy19, h⟩ := bind_el h
  refine f11_test_L1_ok hT _ _ _ _ _ hy19 ?_
  show Go _ _ _ _ _ _ 202 [] [] (Y, (y19, T)) _
  obtain ⟨rfl, rfl⟩ := Prod.mk.inj (Option.some.inj h)
  exact go_return (by decide +kernel) rfl ⟨rfl, rfl⟩
def f11_amount (S : jS) (a0 : Int32) (a1 : Int32) : Option (jS × Int32) := Option.bind (f11_blanks S) (fun r1 => Option.bind (if (r1.1.1 0 21) = 0 then Option.bind (f11_digits r1.1 99999) (fun r2 => some (r2.2, r2.1)) else some (0, r1.1)) (fun (y3 : Int32 × jS) => Option.bind (if (y3.2.1 0 21) = 0 then Option.bind (f11_in y3.1.toInt64 a0.toInt64 a1.toInt64) (fun r4 => (if r4 = 0 then Option.bind (f11_fails y3.2 1 (r1.1.1 0 20)) (fun r5 => some r5.1) else some y3.2)) else some y3.2) (fun (y6 : jS) => some (y6, y3.1))))
theorem ret11_amount {S : jS} {T : jT} {Y : jS × jT} {a0 : Int32} {a1 : Int32} {S1 : jS} {x : Int32} (hT : LayM T) (h : f11_amount S a0 a1 = some (S1, x)) : Ret M11_amount 4 0 0 [rm 0, vi a0, vi a1] (Y, (S, T)) (some (vi x)) (Y, (S1, T)) := by
  refine Ret.of (by decide +kernel) (Nat.le_of_ble_eq_true rfl) ?_
  unfold f11_amount at h
  show Go _ _ _ _ _ _ 0 [(0, rm 0), (1, vi a0), (2, vi a1)] [] (Y, (S, T)) _
  refine go_blk rfl [(.aload_n 0, 1, 0, 0, 0, .inl 0)] 0 1 _ _ _ (by decide +kernel) ?_
  show Go _ _ _ _ _ _ 1 [(0, rm 0), (1, vi a0), (2, vi a1)] [rm 0] (Y, (S, T)) _
  obtain ⟨r1, hr1, h⟩ := bind_el h
  refine go_callV (idx := 201) (z := 0) (M' := M11_blanks) (n := 0) (A := []) (v' := none) (μ' := (Y, (r1.1, T))) (d' := 2) (mc' := 0) (ms' := 0) (kc' := 0) (ks' := 0) (ci := 11) (x := .inr (.inl 0)) (by decide +kernel) ml_11_201 rfl wv11_blanks rfl (by decide) rfl (lm_t0 hT) (ret11_blanks hT hr1) (by decide) rfl rfl (Nat.le_of_ble_eq_true rfl) rfl (jag rfl rfl) ?_
  show Go _ _ _ _ _ _ 4 [(0, rm 0), (1, vi a0), (2, vi a1)] [] (Y, (r1.1, T)) _
  refine go_blk rfl [(.aload_n 0, 1, 0, 0, 0, .inl 0), (.getfield 181, 3, 11, 20, 0, .inl 0), (.istore_n 3, 1, 3, 0, 0, .inl 0), (.aload_n 0, 1, 0, 0, 0, .inl 0), (.getfield 178, 3, 11, 21, 0, .inl 0)] 4 13 _ _ _ (by decide +kernel) ?_
  refine And.intro (lm_t0 hT) ?_
  refine And.intro (lm_t0 hT) ?_
  show Go _ _ _ _ _ _ 13 [(3, vi (r1.1.1 0 20)), (0, rm 0), (1, vi a0), (2, vi a1)] [vi (r1.1.1 0 21)] (Y, (r1.1, T)) _
  obtain ⟨y3, hy3, h⟩ := bind_el h
  have key : Go M11_amount 4 0 0 0 0 26 [(0, rm 0), (1, vi a0), (2, vi a1), (3, vi (r1.1.1 0 20))] [vi y3.1] (Y, (y3.2, T)) (eqQ (some (vi x)) (Y, (S1, T))) := by
    refine go_blk rfl [(.istore 4, 2, 4, 0, 0, .inl 0), (.aload_n 0, 1, 0, 0, 0, .inl 0), (.getfield 178, 3, 11, 21, 0, .inl 0)] 26 32 _ _ _ (by decide +kernel) ?_
    refine And.intro (lm_t0 hT) ?_
    show Go _ _ _ _ _ _ 32 [(4, vi y3.1), (0, rm 0), (1, vi a0), (2, vi a1), (3, vi (r1.1.1 0 20))] [vi (y3.2.1 0 21)] (Y, (y3.2, T)) _
    obtain ⟨y6, hy6, h⟩ := bind_el h
    have key : Go M11_amount 4 0 0 0 0 54 [(4, vi y3.1)] [] (Y, (y6, T)) (eqQ (some (vi x)) (Y, (S1, T))) := by
      refine go_blk rfl [(.iload 4, 2, 4, 0, 0, .inl 0)] 54 56 _ _ _ (by decide +kernel) ?_
      show Go _ _ _ _ _ _ 56 [(4, vi y3.1)] [vi y3.1] (Y, (y6, T)) _
      obtain ⟨rfl, rfl⟩ := Prod.mk.inj (Option.some.inj h)
      exact go_ireturn (by decide +kernel) rfl rfl ⟨rfl, rfl⟩
    replace h := hy6
    refine ite_el h (fun q2 h => ?_) (fun q2 h => ?_)
    · refine go_if_ne (off := 22) (tgt := 54) (by decide +kernel) (by decide) (fun z => absurd q2 z) (fun _ => ?_)
      refine go_blk rfl [(.iload 4, 2, 4, 0, 0, .inl 0), (.i2l, 1, 0, 0, 0, .inl 0), (.iload_n 1, 1, 1, 0, 0, .inl 0), (.i2l, 1, 0, 0, 0, .inl 0), (.iload_n 2, 1, 2, 0, 0, .inl 0), (.i2l, 1, 0, 0, 0, .inl 0)] 35 42 _ _ _ (by decide +kernel) ?_
      show Go _ _ _ _ _ _ 42 [(4, vi y3.1), (0, rm 0), (1, vi a0), (2, vi a1), (3, vi (r1.1.1 0 20))] [vl a1.toInt64, vl a0.toInt64, vl y3.1.toInt64] (Y, (y3.2, T)) _
      obtain ⟨r4, hr4, h⟩ := bind_el h
      refine go_callS (idx := 140) (z := 0) (M' := M11_in) (n := 3) (A := [vl y3.1.toInt64, vl a0.toInt64, vl a1.toInt64]) (v' := some (vi r4)) (μ' := (Y, (y3.2, T))) (d' := 1) (mc' := 0) (ms' := 0) (kc' := 0) (ks' := 0) (by decide +kernel) ml_11_140 rfl ws11_in rfl (ret11_in hr4) (by decide) rfl rfl (Nat.le_of_ble_eq_true rfl) rfl (jag rfl rfl) ?_
      show Go _ _ _ _ _ _ 45 [(4, vi y3.1), (0, rm 0), (1, vi a0), (2, vi a1), (3, vi (r1.1.1 0 20))] [vi r4] (Y, (y3.2, T)) _
      refine ite_el h (fun q3 h => ?_) (fun q3 h => ?_)
      · refine go_if_ne (off := 9) (tgt := 54) (by decide +kernel) (by decide) (fun z => absurd q3 z) (fun _ => ?_)
        refine go_blk rfl [(.aload_n 0, 1, 0, 0, 0, .inl 0), (.iconst 1, 1, 0, 0, 0, .inl 1), (.iload_n 3, 1, 3, 0, 0, .inl 0)] 48 51 _ _ _ (by decide +kernel) ?_
        show Go _ _ _ _ _ _ 51 [(4, vi y3.1), (0, rm 0), (1, vi a0), (2, vi a1), (3, vi (r1.1.1 0 20))] [vi (r1.1.1 0 20), vi 1, rm 0] (Y, (y3.2, T)) _
        obtain ⟨r5, hr5, h⟩ := bind_el h
        refine go_callV (idx := 217) (z := 0) (M' := M11_fails) (n := 2) (A := [vi 1, vi (r1.1.1 0 20)]) (v' := none) (μ' := (Y, (r5.1, T))) (d' := 1) (mc' := 0) (ms' := 0) (kc' := 0) (ks' := 0) (ci := 11) (x := .inr (.inl 0)) (by decide +kernel) ml_11_217 rfl wv11_fails rfl (by decide) rfl (lm_t0 hT) (ret11_fails hT hr5) (by decide) rfl rfl (Nat.le_of_ble_eq_true rfl) rfl (jag rfl rfl) ?_
        show Go _ _ _ _ _ _ 54 [(4, vi y3.1), (0, rm 0), (1, vi a0), (2, vi a1), (3, vi (r1.1.1 0 20))] [] (Y, (r5.1, T)) _
        obtain rfl := Option.some.inj h
        refine go_pick [0] rfl ?_
        exact key
      · refine go_if_ne (off := 9) (tgt := 54) (by decide +kernel) (by decide) (fun _ => ?_) (fun z => absurd z q3)
        obtain rfl := Option.some.inj h
        refine go_pick [0] rfl ?_
        exact key
    · refine go_if_ne (off := 22) (tgt := 54) (by decide +kernel) (by decide) (fun _ => ?_) (fun z => absurd z q2)
      obtain rfl := Option.some.inj h
      refine go_pick [0] rfl ?_
      exact key
  replace h := hy3
  refine ite_el h (fun q1 h => ?_) (fun q1 h => ?_)
  · refine go_if_ne (off := 12) (tgt := 25) (by decide +kernel) (by decide) (fun z => absurd q1 z) (fun _ => ?_)
    refine go_blk rfl [(.aload_n 0, 1, 0, 0, 0, .inl 0), (.ldc 225, 2, 0, 0, 0, .inl 99999)] 16 19 _ _ _ (by decide +kernel) ?_
    show Go _ _ _ _ _ _ 19 [(3, vi (r1.1.1 0 20)), (0, rm 0), (1, vi a0), (2, vi a1)] [vi 99999, rm 0] (Y, (r1.1, T)) _
    obtain ⟨r2, hr2, h⟩ := bind_el h
    refine go_callV (idx := 226) (z := 0) (M' := M11_digits) (n := 1) (A := [vi 99999]) (v' := some (vi r2.2)) (μ' := (Y, (r2.1, T))) (d' := 3) (mc' := 0) (ms' := 0) (kc' := 0) (ks' := 0) (ci := 11) (x := .inr (.inl 0)) (by decide +kernel) ml_11_226 rfl wv11_digits rfl (by decide) rfl (lm_t0 hT) (ret11_digits hT hr2) (by decide) rfl rfl (Nat.le_of_ble_eq_true rfl) rfl (jag rfl rfl) ?_
    show Go _ _ _ _ _ _ 22 [(3, vi (r1.1.1 0 20)), (0, rm 0), (1, vi a0), (2, vi a1)] [vi r2.2] (Y, (r2.1, T)) _
    refine go_goto (off := 4) (tgt := 26) (by decide +kernel) (by decide) ?_
    obtain rfl := Option.some.inj h
    refine go_pick [1, 2, 3, 0] rfl ?_
    exact key
  · refine go_if_ne (off := 12) (tgt := 25) (by decide +kernel) (by decide) (fun _ => ?_) (fun z => absurd z q1)
    refine go_blk rfl [(.iconst 0, 1, 0, 0, 0, .inl 0)] 25 26 _ _ _ (by decide +kernel) ?_
    show Go _ _ _ _ _ _ 26 [(3, vi (r1.1.1 0 20)), (0, rm 0), (1, vi a0), (2, vi a1)] [vi 0] (Y, (r1.1, T)) _
    obtain rfl := Option.some.inj h
    refine go_pick [1, 2, 3, 0] rfl ?_
    exact key
def f11_partyWord (a0 : Int32) : Option Nat := (if a0 = 0 then some 12 else (if a0 = 1 then some 2 else some 5))
theorem f11_partyWord_lt {a0 : Int32} {x : Nat} (h : f11_partyWord a0 = some x) : x < 18 := by
  unfold f11_partyWord at h
  repeat' (refine ite_el h (fun _ h => ?_) (fun _ h => ?_))
  all_goals (obtain rfl := Option.some.inj h; decide)
theorem ret11_partyWord {μ : jMem} {a0 : Int32} {x : Nat} (h : f11_partyWord a0 = some x) : Ret M11_partyWord 1 0 0 [vi a0] μ (some (rs x)) μ := by
  refine Ret.of (by decide +kernel) (Nat.le_of_ble_eq_true rfl) ?_
  unfold f11_partyWord at h
  show Go _ _ _ _ _ _ 0 [(0, vi a0)] [] μ _
  refine go_blk rfl [(.iload_n 0, 1, 0, 0, 0, .inl 0)] 0 1 _ _ _ (by decide +kernel) ?_
  show Go _ _ _ _ _ _ 1 [(0, vi a0)] [vi a0] μ _
  refine ite_el h (fun q1 h => ?_) (fun q1 h => ?_)
  · refine go_lookup (dflt := 35) (ps := #[(0, 27), (1, 31)]) (len := 27) (off := 27) (tgt := 28) (by decide +kernel) (by decide) (by rw [q1]; decide) (by decide) ?_
    refine go_blk rfl [(.ldc_w 276, 3, 0, 0, 0, .inr (.inr (some (.inr (.inr 12)))))] 28 31 _ _ _ (by decide +kernel) ?_
    show Go _ _ _ _ _ _ 31 [(0, vi a0)] [rs 12] μ _
    obtain rfl := Option.some.inj h
    exact go_areturn (by decide +kernel) rfl rfl ⟨rfl, rfl⟩
  refine ite_el h (fun q2 h => ?_) (fun q2 h => ?_)
  · refine go_lookup (dflt := 35) (ps := #[(0, 27), (1, 31)]) (len := 27) (off := 31) (tgt := 32) (by decide +kernel) (by decide) (by rw [q2]; decide) (by decide) ?_
    refine go_blk rfl [(.ldc_w 278, 3, 0, 0, 0, .inr (.inr (some (.inr (.inr 2)))))] 32 35 _ _ _ (by decide +kernel) ?_
    show Go _ _ _ _ _ _ 35 [(0, vi a0)] [rs 2] μ _
    obtain rfl := Option.some.inj h
    exact go_areturn (by decide +kernel) rfl rfl ⟨rfl, rfl⟩
  refine go_lookup (dflt := 35) (ps := #[(0, 27), (1, 31)]) (len := 27) (off := 35) (tgt := 36) (by decide +kernel) (by decide) (by have z0 : a0.toInt ≠ 0 := tb_ne q1 (by decide); have z1 : a0.toInt ≠ 1 := tb_ne q2 (by decide); exact lk_out _ _ _ (by simp only [List.forall_mem_cons, List.not_mem_nil]; refine ⟨by intro z; omega, by intro z; omega, fun _ z => nomatch z⟩)) (by decide) ?_
  refine go_blk rfl [(.ldc_w 280, 3, 0, 0, 0, .inr (.inr (some (.inr (.inr 5)))))] 36 39 _ _ _ (by decide +kernel) ?_
  show Go _ _ _ _ _ _ 39 [(0, vi a0)] [rs 5] μ _
  obtain rfl := Option.some.inj h
  exact go_areturn (by decide +kernel) rfl rfl ⟨rfl, rfl⟩
def f11_chairPart_L1 (l1 : Int32) (l2 : Int32) : Nat → jS → Int32 → Option jS
  | 0, _, _ => none
  | n + 1, S, l3 => (if (S.1 14 1) ≤ l3 then some S else Option.bind (if (S.1 0 21) = 0 then (if inb l3 6 then (if (S.1 15 l3.toNatClampNeg) = l2 then Option.bind (f11_fails S 1 l1) (fun r3 => some r3.1) else some S) else none) else some S) (fun (y4 : jS) => f11_chairPart_L1 l1 l2 n y4 (l3 + 1)))
def f11_chairPart (S : jS) : Option (jS × Unit) := Option.bind (f11_blanks S) (fun r1 => Option.bind (f11_amount r1.1 0 ((r1.1.1 14 0) - 1)) (fun r2 => Option.bind (f11_chairPart_L1 (r1.1.1 0 20) r2.2 jF r2.1 0) (fun y5 => (if inb (y5.1 14 1) 6 then some (wI (wI y5 15 (y5.1 14 1).toNatClampNeg r2.2) 14 1 (((wI y5 15 (y5.1 14 1).toNatClampNeg r2.2).1 14 1) + 1), ()) else none))))
theorem f11_chairPart_L1_ok {T : jT} {Y : jS × jT} {l1 : Int32} {l2 : Int32} {Q : Option jV → jMem → Prop} (hT : LayM T) : ∀ (n : Nat) (S : jS) (l3 : Int32) (r : jS), f11_chairPart_L1 l1 l2 n S l3 = some r → Go M11_chairPart 5 0 0 0 0 64 [(0, rm 0), (2, vi l2)] [] (Y, (r, T)) Q → Go M11_chairPart 5 0 0 0 0 25 [(0, rm 0), (1, vi l1), (2, vi l2), (3, vi l3)] [] (Y, (S, T)) Q := by
  intro n
  induction n with
  | zero => intro S l3 r h k; exact absurd h (by intro z; cases z)
  | succ n ih =>
    intro S l3 r h k
    rw [f11_chairPart_L1] at h
    refine go_blk rfl [(.iload_n 3, 1, 3, 0, 0, .inl 0), (.aload_n 0, 1, 0, 0, 0, .inl 0), (.getfield 49, 3, 11, 14, 1, .inl 0), (.iconst 1, 1, 0, 0, 0, .inl 1), (.iaload, 1, 20, 0, 0, .inl 0)] 25 32 _ _ _ (by decide +kernel) ?_
    refine And.intro (lm_t0 hT) (Exists.intro _ (And.intro (gRm (lm_r14 hT)) ?_))
    refine And.intro (lm_t14 hT) (Exists.intro _ (And.intro (lm_n14 hT) (And.intro (inb_in (by decide)) ?_)))
    show Go _ _ _ _ _ _ 32 [(0, rm 0), (1, vi l1), (2, vi l2), (3, vi l3)] [vi (S.1 14 1), vi l3] (Y, (S, T)) _
    refine ite_el h (fun q1 h => ?_) (fun q1 h => ?_)
    · refine go_icmp_ge (off := 32) (tgt := 64) (by decide +kernel) (by decide) (fun _ => ?_) (fun z => absurd q1 z)
      obtain rfl := Option.some.inj h
      refine go_pick [0, 2] rfl ?_
      exact k
    · refine go_icmp_ge (off := 32) (tgt := 64) (by decide +kernel) (by decide) (fun z => absurd z q1) (fun _ => ?_)
      refine go_blk rfl [(.aload_n 0, 1, 0, 0, 0, .inl 0), (.getfield 178, 3, 11, 21, 0, .inl 0)] 35 39 _ _ _ (by decide +kernel) ?_
      refine And.intro (lm_t0 hT) ?_
      show Go _ _ _ _ _ _ 39 [(0, rm 0), (1, vi l1), (2, vi l2), (3, vi l3)] [vi (S.1 0 21)] (Y, (S, T)) _
      obtain ⟨y4, hy4, h⟩ := bind_el h
      have key : Go M11_chairPart 5 0 0 0 0 58 [(0, rm 0), (1, vi l1), (2, vi l2), (3, vi l3)] [] (Y, (y4, T)) Q := by
        refine go_blk rfl [(.iinc 3 1, 3, 3, 0, 0, .inl 1)] 58 61 _ _ _ (by decide +kernel) ?_
        show Go _ _ _ _ _ _ 61 [(3, vi (l3 + 1)), (0, rm 0), (1, vi l1), (2, vi l2)] [] (Y, (y4, T)) _
        refine go_goto (off := (-36)) (tgt := 25) (by decide +kernel) (by decide) ?_
        refine go_pick [1, 2, 3, 0] rfl ?_
        exact ih _ _ _ h k
      replace h := hy4
      refine ite_el h (fun q2 h => ?_) (fun q2 h => ?_)
      · refine go_if_ne (off := 19) (tgt := 58) (by decide +kernel) (by decide) (fun z => absurd q2 z) (fun _ => ?_)
        refine gd_el h (fun q3 h => ?_)
        refine go_blk rfl [(.aload_n 0, 1, 0, 0, 0, .inl 0), (.getfield 52, 3, 11, 15, 1, .inl 0), (.iload_n 3, 1, 3, 0, 0, .inl 0), (.iaload, 1, 20, 0, 0, .inl 0), (.iload_n 2, 1, 2, 0, 0, .inl 0)] 42 49 _ _ _ (by decide +kernel) ?_
        refine And.intro (lm_t0 hT) (Exists.intro _ (And.intro (gRm (lm_r15 hT)) ?_))
        refine And.intro (lm_t15 hT) (Exists.intro _ (And.intro (lm_n15 hT) (And.intro (inb_in q3) ?_)))
        show Go _ _ _ _ _ _ 49 [(0, rm 0), (1, vi l1), (2, vi l2), (3, vi l3)] [vi l2, vi (S.1 15 l3.toNatClampNeg)] (Y, (S, T)) _
        refine ite_el h (fun q4 h => ?_) (fun q4 h => ?_)
        · refine go_icmp_ne (off := 9) (tgt := 58) (by decide +kernel) (by decide) (fun z => absurd q4 z) (fun _ => ?_)
          refine go_blk rfl [(.aload_n 0, 1, 0, 0, 0, .inl 0), (.iconst 1, 1, 0, 0, 0, .inl 1), (.iload_n 1, 1, 1, 0, 0, .inl 0)] 52 55 _ _ _ (by decide +kernel) ?_
          show Go _ _ _ _ _ _ 55 [(0, rm 0), (1, vi l1), (2, vi l2), (3, vi l3)] [vi l1, vi 1, rm 0] (Y, (S, T)) _
          obtain ⟨r3, hr3, h⟩ := bind_el h
          refine go_callV (idx := 217) (z := 0) (M' := M11_fails) (n := 2) (A := [vi 1, vi l1]) (v' := none) (μ' := (Y, (r3.1, T))) (d' := 1) (mc' := 0) (ms' := 0) (kc' := 0) (ks' := 0) (ci := 11) (x := .inr (.inl 0)) (by decide +kernel) ml_11_217 rfl wv11_fails rfl (by decide) rfl (lm_t0 hT) (ret11_fails hT hr3) (by decide) rfl rfl (Nat.le_of_ble_eq_true rfl) rfl (jag rfl rfl) ?_
          show Go _ _ _ _ _ _ 58 [(0, rm 0), (1, vi l1), (2, vi l2), (3, vi l3)] [] (Y, (r3.1, T)) _
          obtain rfl := Option.some.inj h
          refine go_pick [0, 1, 2, 3] rfl ?_
          exact key
        · refine go_icmp_ne (off := 9) (tgt := 58) (by decide +kernel) (by decide) (fun _ => ?_) (fun z => absurd z q4)
          obtain rfl := Option.some.inj h
          refine go_pick [0, 1, 2, 3] rfl ?_
          exact key
      · refine go_if_ne (off := 19) (tgt := 58) (by decide +kernel) (by decide) (fun _ => ?_) (fun z => absurd z q2)
        obtain rfl := Option.some.inj h
        refine go_pick [0, 1, 2, 3] rfl ?_
        exact key
theorem ret11_chairPart {S : jS} {T : jT} {Y : jS × jT} {S1 : jS} {x : Unit} (hT : LayM T) (h : f11_chairPart S = some (S1, x)) : Ret M11_chairPart 5 0 0 [rm 0] (Y, (S, T)) (none) (Y, (S1, T)) := by
  refine Ret.of (by decide +kernel) (Nat.le_of_ble_eq_true rfl) ?_
  unfold f11_chairPart at h
  show Go _ _ _ _ _ _ 0 [(0, rm 0)] [] (Y, (S, T)) _
  refine go_blk rfl [(.aload_n 0, 1, 0, 0, 0, .inl 0)] 0 1 _ _ _ (by decide +kernel) ?_
  show Go _ _ _ _ _ _ 1 [(0, rm 0)] [rm 0] (Y, (S, T)) _
  obtain ⟨r1, hr1, h⟩ := bind_el h
  refine go_callV (idx := 201) (z := 0) (M' := M11_blanks) (n := 0) (A := []) (v' := none) (μ' := (Y, (r1.1, T))) (d' := 2) (mc' := 0) (ms' := 0) (kc' := 0) (ks' := 0) (ci := 11) (x := .inr (.inl 0)) (by decide +kernel) ml_11_201 rfl wv11_blanks rfl (by decide) rfl (lm_t0 hT) (ret11_blanks hT hr1) (by decide) rfl rfl (Nat.le_of_ble_eq_true rfl) rfl (jag rfl rfl) ?_
  show Go _ _ _ _ _ _ 4 [(0, rm 0)] [] (Y, (r1.1, T)) _
  refine go_blk rfl [(.aload_n 0, 1, 0, 0, 0, .inl 0), (.getfield 181, 3, 11, 20, 0, .inl 0), (.istore_n 1, 1, 1, 0, 0, .inl 0), (.aload_n 0, 1, 0, 0, 0, .inl 0), (.iconst 0, 1, 0, 0, 0, .inl 0), (.aload_n 0, 1, 0, 0, 0, .inl 0), (.getfield 49, 3, 11, 14, 1, .inl 0), (.iconst 0, 1, 0, 0, 0, .inl 0), (.iaload, 1, 20, 0, 0, .inl 0), (.iconst 1, 1, 0, 0, 0, .inl 1), (.isub, 1, 0, 0, 0, .inl 0)] 4 19 _ _ _ (by decide +kernel) ?_
  refine And.intro (lm_t0 hT) ?_
  refine And.intro (lm_t0 hT) (Exists.intro _ (And.intro (gRm (lm_r14 hT)) ?_))
  refine And.intro (lm_t14 hT) (Exists.intro _ (And.intro (lm_n14 hT) (And.intro (inb_in (by decide)) ?_)))
  show Go _ _ _ _ _ _ 19 [(1, vi (r1.1.1 0 20)), (0, rm 0)] [vi ((r1.1.1 14 0) - 1), vi 0, rm 0] (Y, (r1.1, T)) _
  obtain ⟨r2, hr2, h⟩ := bind_el h
  refine go_callV (idx := 282) (z := 0) (M' := M11_amount) (n := 2) (A := [vi 0, vi ((r1.1.1 14 0) - 1)]) (v' := some (vi r2.2)) (μ' := (Y, (r2.1, T))) (d' := 4) (mc' := 0) (ms' := 0) (kc' := 0) (ks' := 0) (ci := 11) (x := .inr (.inl 0)) (by decide +kernel) ml_11_282 rfl wv11_amount rfl (by decide) rfl (lm_t0 hT) (ret11_amount hT hr2) (by decide) rfl rfl (Nat.le_of_ble_eq_true rfl) rfl (jag rfl rfl) ?_
  show Go _ _ _ _ _ _ 22 [(1, vi (r1.1.1 0 20)), (0, rm 0)] [vi r2.2] (Y, (r2.1, T)) _
  refine go_blk rfl [(.istore_n 2, 1, 2, 0, 0, .inl 0), (.iconst 0, 1, 0, 0, 0, .inl 0), (.istore_n 3, 1, 3, 0, 0, .inl 0)] 22 25 _ _ _ (by decide +kernel) ?_
  show Go _ _ _ _ _ _ 25 [(3, vi 0), (2, vi r2.2), (1, vi (r1.1.1 0 20)), (0, rm 0)] [] (Y, (r2.1, T)) _
  refine go_pick [3, 2, 1, 0] rfl ?_
  obtain ⟨y5, hy5, h⟩ := bind_el h
  refine f11_chairPart_L1_ok hT _ _ _ _ hy5 ?_
  show Go _ _ _ _ _ _ 64 [(0, rm 0), (2, vi r2.2)] [] (Y, (y5, T)) _
  refine gd_el h (fun q5 h => ?_)
  refine go_blk rfl [(.aload_n 0, 1, 0, 0, 0, .inl 0), (.getfield 52, 3, 11, 15, 1, .inl 0), (.aload_n 0, 1, 0, 0, 0, .inl 0), (.getfield 49, 3, 11, 14, 1, .inl 0), (.iconst 1, 1, 0, 0, 0, .inl 1), (.iaload, 1, 20, 0, 0, .inl 0), (.iload_n 2, 1, 2, 0, 0, .inl 0), (.iastore, 1, 20, 0, 0, .inl 0)] 64 76 _ _ _ (by decide +kernel) ?_
  refine And.intro (lm_t0 hT) (Exists.intro _ (And.intro (gRm (lm_r15 hT)) ?_))
  refine And.intro (lm_t0 hT) (Exists.intro _ (And.intro (gRm (lm_r14 hT)) ?_))
  refine And.intro (lm_t14 hT) (Exists.intro _ (And.intro (lm_n14 hT) (And.intro (inb_in (by decide)) ?_)))
  refine And.intro (lm_t15 hT) (Exists.intro _ (And.intro (lm_n15 hT) (And.intro (inb_in q5) ?_)))
  show Go _ _ _ _ _ _ 76 [(0, rm 0), (2, vi r2.2)] [] (Y, (wI y5 15 (y5.1 14 1).toNatClampNeg r2.2, T)) _
  refine go_blk rfl [(.aload_n 0, 1, 0, 0, 0, .inl 0), (.getfield 49, 3, 11, 14, 1, .inl 0), (.iconst 1, 1, 0, 0, 0, .inl 1), (.dup2, 1, 0, 0, 0, .inl 0), (.iaload, 1, 20, 0, 0, .inl 0), (.iconst 1, 1, 0, 0, 0, .inl 1), (.iadd, 1, 0, 0, 0, .inl 0), (.iastore, 1, 20, 0, 0, .inl 0)] 76 86 _ _ _ (by decide +kernel) ?_
  refine And.intro (lm_t0 hT) (Exists.intro _ (And.intro (gRm (lm_r14 hT)) ?_))
  refine And.intro (lm_t14 hT) (Exists.intro _ (And.intro (lm_n14 hT) (And.intro (inb_in (by decide)) ?_)))
  refine And.intro (lm_t14 hT) (Exists.intro _ (And.intro (lm_n14 hT) (And.intro (inb_in (by decide)) ?_)))
  show Go _ _ _ _ _ _ 86 [(0, rm 0), (2, vi r2.2)] [] (Y, (wI (wI y5 15 (y5.1 14 1).toNatClampNeg r2.2) 14 1 (((wI y5 15 (y5.1 14 1).toNatClampNeg r2.2).1 14 1) + 1), T)) _
  obtain ⟨rfl, rfl⟩ := Prod.mk.inj (Option.some.inj h)
  exact go_return (by decide +kernel) rfl ⟨rfl, rfl⟩
def f11_guestPart (S : jS) : Option (jS × Unit) := Option.bind (f11_amount S 0 ((S.1 14 0) - 1)) (fun r1 => (if inb (S.1 14 2) 7 then Option.bind (f11_amount (wI r1.1 16 (S.1 14 2).toNatClampNeg r1.2) 0 5) (fun r2 => Option.bind (f11_amount (wI r2.1 17 (S.1 14 2).toNatClampNeg r2.2) 1 9) (fun r3 => some (wI (wI r3.1 18 (S.1 14 2).toNatClampNeg r3.2) 14 2 (((wI r3.1 18 (S.1 14 2).toNatClampNeg r3.2).1 14 2) + 1), ()))) else none))
theorem ret11_guestPart {S : jS} {T : jT} {Y : jS × jT} {S1 : jS} {x : Unit} (hT : LayM T) (h : f11_guestPart S = some (S1, x)) : Ret M11_guestPart 5 0 0 [rm 0] (Y, (S, T)) (none) (Y, (S1, T)) := by
  refine Ret.of (by decide +kernel) (Nat.le_of_ble_eq_true rfl) ?_
  unfold f11_guestPart at h
  show Go _ _ _ _ _ _ 0 [(0, rm 0)] [] (Y, (S, T)) _
  refine go_blk rfl [(.aload_n 0, 1, 0, 0, 0, .inl 0), (.getfield 49, 3, 11, 14, 1, .inl 0), (.iconst 2, 1, 0, 0, 0, .inl 2), (.iaload, 1, 20, 0, 0, .inl 0), (.istore_n 1, 1, 1, 0, 0, .inl 0), (.aload_n 0, 1, 0, 0, 0, .inl 0), (.getfield 55, 3, 11, 16, 1, .inl 0), (.iload_n 1, 1, 1, 0, 0, .inl 0), (.aload_n 0, 1, 0, 0, 0, .inl 0), (.iconst 0, 1, 0, 0, 0, .inl 0), (.aload_n 0, 1, 0, 0, 0, .inl 0), (.getfield 49, 3, 11, 14, 1, .inl 0), (.iconst 0, 1, 0, 0, 0, .inl 0), (.iaload, 1, 20, 0, 0, .inl 0), (.iconst 1, 1, 0, 0, 0, .inl 1), (.isub, 1, 0, 0, 0, .inl 0)] 0 22 _ _ _ (by decide +kernel) ?_
  refine And.intro (lm_t0 hT) (Exists.intro _ (And.intro (gRm (lm_r14 hT)) ?_))
  refine And.intro (lm_t14 hT) (Exists.intro _ (And.intro (lm_n14 hT) (And.intro (inb_in (by decide)) ?_)))
  refine And.intro (lm_t0 hT) (Exists.intro _ (And.intro (gRm (lm_r16 hT)) ?_))
  refine And.intro (lm_t0 hT) (Exists.intro _ (And.intro (gRm (lm_r14 hT)) ?_))
  refine And.intro (lm_t14 hT) (Exists.intro _ (And.intro (lm_n14 hT) (And.intro (inb_in (by decide)) ?_)))
  show Go _ _ _ _ _ _ 22 [(1, vi (S.1 14 2)), (0, rm 0)] [vi ((S.1 14 0) - 1), vi 0, rm 0, vi (S.1 14 2), rm 16] (Y, (S, T)) _
  obtain ⟨r1, hr1, h⟩ := bind_el h
  refine go_callV (idx := 282) (z := 0) (M' := M11_amount) (n := 2) (A := [vi 0, vi ((S.1 14 0) - 1)]) (v' := some (vi r1.2)) (μ' := (Y, (r1.1, T))) (d' := 4) (mc' := 0) (ms' := 0) (kc' := 0) (ks' := 0) (ci := 11) (x := .inr (.inl 0)) (by decide +kernel) ml_11_282 rfl wv11_amount rfl (by decide) rfl (lm_t0 hT) (ret11_amount hT hr1) (by decide) rfl rfl (Nat.le_of_ble_eq_true rfl) rfl (jag rfl rfl) ?_
  show Go _ _ _ _ _ _ 25 [(1, vi (S.1 14 2)), (0, rm 0)] [vi r1.2, vi (S.1 14 2), rm 16] (Y, (r1.1, T)) _
  refine gd_el h (fun q1 h => ?_)
  refine go_blk rfl [(.iastore, 1, 20, 0, 0, .inl 0)] 25 26 _ _ _ (by decide +kernel) ?_
  refine And.intro (lm_t16 hT) (Exists.intro _ (And.intro (lm_n16 hT) (And.intro (inb_in q1) ?_)))
  show Go _ _ _ _ _ _ 26 [(1, vi (S.1 14 2)), (0, rm 0)] [] (Y, (wI r1.1 16 (S.1 14 2).toNatClampNeg r1.2, T)) _
  refine go_blk rfl [(.aload_n 0, 1, 0, 0, 0, .inl 0), (.getfield 58, 3, 11, 17, 1, .inl 0), (.iload_n 1, 1, 1, 0, 0, .inl 0), (.aload_n 0, 1, 0, 0, 0, .inl 0), (.iconst 0, 1, 0, 0, 0, .inl 0), (.iconst 5, 1, 0, 0, 0, .inl 5)] 26 34 _ _ _ (by decide +kernel) ?_
  refine And.intro (lm_t0 hT) (Exists.intro _ (And.intro (gRm (lm_r17 hT)) ?_))
  show Go _ _ _ _ _ _ 34 [(1, vi (S.1 14 2)), (0, rm 0)] [vi 5, vi 0, rm 0, vi (S.1 14 2), rm 17] (Y, (wI r1.1 16 (S.1 14 2).toNatClampNeg r1.2, T)) _
  obtain ⟨r2, hr2, h⟩ := bind_el h
  refine go_callV (idx := 282) (z := 0) (M' := M11_amount) (n := 2) (A := [vi 0, vi 5]) (v' := some (vi r2.2)) (μ' := (Y, (r2.1, T))) (d' := 4) (mc' := 0) (ms' := 0) (kc' := 0) (ks' := 0) (ci := 11) (x := .inr (.inl 0)) (by decide +kernel) ml_11_282 rfl wv11_amount rfl (by decide) rfl (lm_t0 hT) (ret11_amount hT hr2) (by decide) rfl rfl (Nat.le_of_ble_eq_true rfl) rfl (jag rfl rfl) ?_
  show Go _ _ _ _ _ _ 37 [(1, vi (S.1 14 2)), (0, rm 0)] [vi r2.2, vi (S.1 14 2), rm 17] (Y, (r2.1, T)) _
  refine go_blk rfl [(.iastore, 1, 20, 0, 0, .inl 0)] 37 38 _ _ _ (by decide +kernel) ?_
  refine And.intro (lm_t17 hT) (Exists.intro _ (And.intro (lm_n17 hT) (And.intro (inb_in q1) ?_)))
  show Go _ _ _ _ _ _ 38 [(1, vi (S.1 14 2)), (0, rm 0)] [] (Y, (wI r2.1 17 (S.1 14 2).toNatClampNeg r2.2, T)) _
  refine go_blk rfl [(.aload_n 0, 1, 0, 0, 0, .inl 0), (.getfield 61, 3, 11, 18, 1, .inl 0), (.iload_n 1, 1, 1, 0, 0, .inl 0), (.aload_n 0, 1, 0, 0, 0, .inl 0), (.iconst 1, 1, 0, 0, 0, .inl 1), (.bipush 9, 2, 0, 0, 0, .inl 9)] 38 47 _ _ _ (by decide +kernel) ?_
  refine And.intro (lm_t0 hT) (Exists.intro _ (And.intro (gRm (lm_r18 hT)) ?_))
  show Go _ _ _ _ _ _ 47 [(1, vi (S.1 14 2)), (0, rm 0)] [vi 9, vi 1, rm 0, vi (S.1 14 2), rm 18] (Y, (wI r2.1 17 (S.1 14 2).toNatClampNeg r2.2, T)) _
  obtain ⟨r3, hr3, h⟩ := bind_el h
  refine go_callV (idx := 282) (z := 0) (M' := M11_amount) (n := 2) (A := [vi 1, vi 9]) (v' := some (vi r3.2)) (μ' := (Y, (r3.1, T))) (d' := 4) (mc' := 0) (ms' := 0) (kc' := 0) (ks' := 0) (ci := 11) (x := .inr (.inl 0)) (by decide +kernel) ml_11_282 rfl wv11_amount rfl (by decide) rfl (lm_t0 hT) (ret11_amount hT hr3) (by decide) rfl rfl (Nat.le_of_ble_eq_true rfl) rfl (jag rfl rfl) ?_
  show Go _ _ _ _ _ _ 50 [(1, vi (S.1 14 2)), (0, rm 0)] [vi r3.2, vi (S.1 14 2), rm 18] (Y, (r3.1, T)) _
  refine go_blk rfl [(.iastore, 1, 20, 0, 0, .inl 0)] 50 51 _ _ _ (by decide +kernel) ?_
  refine And.intro (lm_t18 hT) (Exists.intro _ (And.intro (lm_n18 hT) (And.intro (inb_in q1) ?_)))
  show Go _ _ _ _ _ _ 51 [(1, vi (S.1 14 2)), (0, rm 0)] [] (Y, (wI r3.1 18 (S.1 14 2).toNatClampNeg r3.2, T)) _
  refine go_blk rfl [(.aload_n 0, 1, 0, 0, 0, .inl 0), (.getfield 49, 3, 11, 14, 1, .inl 0), (.iconst 2, 1, 0, 0, 0, .inl 2), (.dup2, 1, 0, 0, 0, .inl 0), (.iaload, 1, 20, 0, 0, .inl 0), (.iconst 1, 1, 0, 0, 0, .inl 1), (.iadd, 1, 0, 0, 0, .inl 0), (.iastore, 1, 20, 0, 0, .inl 0)] 51 61 _ _ _ (by decide +kernel) ?_
  refine And.intro (lm_t0 hT) (Exists.intro _ (And.intro (gRm (lm_r14 hT)) ?_))
  refine And.intro (lm_t14 hT) (Exists.intro _ (And.intro (lm_n14 hT) (And.intro (inb_in (by decide)) ?_)))
  refine And.intro (lm_t14 hT) (Exists.intro _ (And.intro (lm_n14 hT) (And.intro (inb_in (by decide)) ?_)))
  show Go _ _ _ _ _ _ 61 [(1, vi (S.1 14 2)), (0, rm 0)] [] (Y, (wI (wI r3.1 18 (S.1 14 2).toNatClampNeg r3.2) 14 2 (((wI r3.1 18 (S.1 14 2).toNatClampNeg r3.2).1 14 2) + 1), T)) _
  obtain ⟨rfl, rfl⟩ := Prod.mk.inj (Option.some.inj h)
  exact go_return (by decide +kernel) rfl ⟨rfl, rfl⟩
def f11_partyPart (S : jS) (a0 : Int32) : Option (jS × Unit) := (if a0 = 0 then Option.bind (f11_amount S 4 24) (fun r1 => some (wI r1.1 14 0 r1.2, ())) else (if a0 = 1 then Option.bind (f11_chairPart S) (fun r2 => some (r2.1, ())) else Option.bind (f11_guestPart S) (fun r3 => some (r3.1, ()))))
theorem ret11_partyPart {S : jS} {T : jT} {Y : jS × jT} {a0 : Int32} {S1 : jS} {x : Unit} (hT : LayM T) (h : f11_partyPart S a0 = some (S1, x)) : Ret M11_partyPart 6 0 0 [rm 0, vi a0] (Y, (S, T)) (none) (Y, (S1, T)) := by
  refine Ret.of (by decide +kernel) (Nat.le_of_ble_eq_true rfl) ?_
  unfold f11_partyPart at h
  show Go _ _ _ _ _ _ 0 [(0, rm 0), (1, vi a0)] [] (Y, (S, T)) _
  refine go_blk rfl [(.iload_n 1, 1, 1, 0, 0, .inl 0)] 0 1 _ _ _ (by decide +kernel) ?_
  show Go _ _ _ _ _ _ 1 [(0, rm 0), (1, vi a0)] [vi a0] (Y, (S, T)) _
  refine ite_el h (fun q1 h => ?_) (fun q1 h => ?_)
  · refine go_if_ne (off := 19) (tgt := 20) (by decide +kernel) (by decide) (fun z => absurd q1 z) (fun _ => ?_)
    refine go_blk rfl [(.aload_n 0, 1, 0, 0, 0, .inl 0), (.getfield 49, 3, 11, 14, 1, .inl 0), (.iconst 0, 1, 0, 0, 0, .inl 0), (.aload_n 0, 1, 0, 0, 0, .inl 0), (.iconst 4, 1, 0, 0, 0, .inl 4), (.bipush 24, 2, 0, 0, 0, .inl 24)] 4 13 _ _ _ (by decide +kernel) ?_
    refine And.intro (lm_t0 hT) (Exists.intro _ (And.intro (gRm (lm_r14 hT)) ?_))
    show Go _ _ _ _ _ _ 13 [(0, rm 0), (1, vi a0)] [vi 24, vi 4, rm 0, vi 0, rm 14] (Y, (S, T)) _
    obtain ⟨r1, hr1, h⟩ := bind_el h
    refine go_callV (idx := 282) (z := 0) (M' := M11_amount) (n := 2) (A := [vi 4, vi 24]) (v' := some (vi r1.2)) (μ' := (Y, (r1.1, T))) (d' := 4) (mc' := 0) (ms' := 0) (kc' := 0) (ks' := 0) (ci := 11) (x := .inr (.inl 0)) (by decide +kernel) ml_11_282 rfl wv11_amount rfl (by decide) rfl (lm_t0 hT) (ret11_amount hT hr1) (by decide) rfl rfl (Nat.le_of_ble_eq_true rfl) rfl (jag rfl rfl) ?_
    show Go _ _ _ _ _ _ 16 [(0, rm 0), (1, vi a0)] [vi r1.2, vi 0, rm 14] (Y, (r1.1, T)) _
    refine go_blk rfl [(.iastore, 1, 20, 0, 0, .inl 0)] 16 17 _ _ _ (by decide +kernel) ?_
    refine And.intro (lm_t14 hT) (Exists.intro _ (And.intro (lm_n14 hT) (And.intro (inb_in (by decide)) ?_)))
    show Go _ _ _ _ _ _ 17 [(0, rm 0), (1, vi a0)] [] (Y, (wI r1.1 14 0 r1.2, T)) _
    refine go_goto (off := 19) (tgt := 36) (by decide +kernel) (by decide) ?_
    obtain ⟨rfl, rfl⟩ := Prod.mk.inj (Option.some.inj h)
    exact go_return (by decide +kernel) rfl ⟨rfl, rfl⟩
  · refine go_if_ne (off := 19) (tgt := 20) (by decide +kernel) (by decide) (fun _ => ?_) (fun z => absurd z q1)
    refine go_blk rfl [(.iload_n 1, 1, 1, 0, 0, .inl 0), (.iconst 1, 1, 0, 0, 0, .inl 1)] 20 22 _ _ _ (by decide +kernel) ?_
    show Go _ _ _ _ _ _ 22 [(0, rm 0), (1, vi a0)] [vi 1, vi a0] (Y, (S, T)) _
    refine ite_el h (fun q2 h => ?_) (fun q2 h => ?_)
    · refine go_icmp_ne (off := 10) (tgt := 32) (by decide +kernel) (by decide) (fun z => absurd q2 z) (fun _ => ?_)
      refine go_blk rfl [(.aload_n 0, 1, 0, 0, 0, .inl 0)] 25 26 _ _ _ (by decide +kernel) ?_
      show Go _ _ _ _ _ _ 26 [(0, rm 0), (1, vi a0)] [rm 0] (Y, (S, T)) _
      obtain ⟨r2, hr2, h⟩ := bind_el h
      refine go_callV (idx := 286) (z := 0) (M' := M11_chairPart) (n := 0) (A := []) (v' := none) (μ' := (Y, (r2.1, T))) (d' := 5) (mc' := 0) (ms' := 0) (kc' := 0) (ks' := 0) (ci := 11) (x := .inr (.inl 0)) (by decide +kernel) ml_11_286 rfl wv11_chairPart rfl (by decide) rfl (lm_t0 hT) (ret11_chairPart hT hr2) (by decide) rfl rfl (Nat.le_of_ble_eq_true rfl) rfl (jag rfl rfl) ?_
      show Go _ _ _ _ _ _ 29 [(0, rm 0), (1, vi a0)] [] (Y, (r2.1, T)) _
      refine go_goto (off := 7) (tgt := 36) (by decide +kernel) (by decide) ?_
      obtain ⟨rfl, rfl⟩ := Prod.mk.inj (Option.some.inj h)
      exact go_return (by decide +kernel) rfl ⟨rfl, rfl⟩
    · refine go_icmp_ne (off := 10) (tgt := 32) (by decide +kernel) (by decide) (fun _ => ?_) (fun z => absurd z q2)
      refine go_blk rfl [(.aload_n 0, 1, 0, 0, 0, .inl 0)] 32 33 _ _ _ (by decide +kernel) ?_
      show Go _ _ _ _ _ _ 33 [(0, rm 0), (1, vi a0)] [rm 0] (Y, (S, T)) _
      obtain ⟨r3, hr3, h⟩ := bind_el h
      refine go_callV (idx := 289) (z := 0) (M' := M11_guestPart) (n := 0) (A := []) (v' := none) (μ' := (Y, (r3.1, T))) (d' := 5) (mc' := 0) (ms' := 0) (kc' := 0) (ks' := 0) (ci := 11) (x := .inr (.inl 0)) (by decide +kernel) ml_11_289 rfl wv11_guestPart rfl (by decide) rfl (lm_t0 hT) (ret11_guestPart hT hr3) (by decide) rfl rfl (Nat.le_of_ble_eq_true rfl) rfl (jag rfl rfl) ?_
      show Go _ _ _ _ _ _ 36 [(0, rm 0), (1, vi a0)] [] (Y, (r3.1, T)) _
      obtain ⟨rfl, rfl⟩ := Prod.mk.inj (Option.some.inj h)
      exact go_return (by decide +kernel) rfl ⟨rfl, rfl⟩
def f11_isOver (S : jS) (a0 : Int32) (a1 : Int32) : Option Int32 := (if a1 = 40 then some 1 else (if (((if a0 = 0 then 1 else 0) : Int32)) = (((if a1 = 0 then 1 else 0) : Int32)) then (if a0 = 1 then (if (S.1 14 1) = 6 then some 1 else (if a0 = 2 then (if (S.1 14 2) = 7 then some 1 else some 0) else some 0)) else (if a0 = 2 then (if (S.1 14 2) = 7 then some 1 else some 0) else some 0)) else some 1))
theorem ret11_isOver {S : jS} {T : jT} {Y : jS × jT} {a0 : Int32} {a1 : Int32} {x : Int32} (hT : LayM T) (h : f11_isOver S a0 a1 = some x) : Ret M11_isOver 1 0 0 [rm 0, vi a0, vi a1] (Y, (S, T)) (some (vi x)) (Y, (S, T)) := by
  refine Ret.of (by decide +kernel) (Nat.le_of_ble_eq_true rfl) ?_
  unfold f11_isOver at h
  show Go _ _ _ _ _ _ 0 [(0, rm 0), (1, vi a0), (2, vi a1)] [] (Y, (S, T)) _
  refine go_blk rfl [(.iload_n 2, 1, 2, 0, 0, .inl 0), (.bipush 40, 2, 0, 0, 0, .inl 40)] 0 3 _ _ _ (by decide +kernel) ?_
  show Go _ _ _ _ _ _ 3 [(0, rm 0), (1, vi a0), (2, vi a1)] [vi 40, vi a1] (Y, (S, T)) _
  refine ite_el h (fun q1 h => ?_) (fun q1 h => ?_)
  · refine go_icmp_eq (off := 24) (tgt := 27) (by decide +kernel) (by decide) (fun _ => ?_) (fun z => absurd q1 z)
    refine go_blk rfl [(.iconst 1, 1, 0, 0, 0, .inl 1)] 27 28 _ _ _ (by decide +kernel) ?_
    show Go _ _ _ _ _ _ 28 [(0, rm 0), (1, vi a0), (2, vi a1)] [vi 1] (Y, (S, T)) _
    obtain rfl := Option.some.inj h
    exact go_ireturn (by decide +kernel) rfl rfl ⟨rfl, rfl⟩
  · refine go_icmp_eq (off := 24) (tgt := 27) (by decide +kernel) (by decide) (fun z => absurd z q1) (fun _ => ?_)
    refine go_blk rfl [(.iload_n 1, 1, 1, 0, 0, .inl 0)] 6 7 _ _ _ (by decide +kernel) ?_
    show Go _ _ _ _ _ _ 7 [(0, rm 0), (1, vi a0), (2, vi a1)] [vi a0] (Y, (S, T)) _
    have key : ∀ z0 : Int32, z0 = ((if a0 = 0 then 1 else 0) : Int32) → Go M11_isOver 1 0 0 0 0 15 [(0, rm 0), (1, vi a0), (2, vi a1)] [vi z0] (Y, (S, T)) (eqQ (some (vi x)) (Y, (S, T))) := by
      intro z0 ez0
      subst ez0
      refine go_blk rfl [(.iload_n 2, 1, 2, 0, 0, .inl 0)] 15 16 _ _ _ (by decide +kernel) ?_
      show Go _ _ _ _ _ _ 16 [(0, rm 0), (1, vi a0), (2, vi a1)] [vi a1, vi (((if a0 = 0 then 1 else 0) : Int32))] (Y, (S, T)) _
      have key : ∀ z0 : Int32, z0 = ((if a1 = 0 then 1 else 0) : Int32) → Go M11_isOver 1 0 0 0 0 24 [(0, rm 0), (1, vi a0)] [vi z0, vi (((if a0 = 0 then 1 else 0) : Int32))] (Y, (S, T)) (eqQ (some (vi x)) (Y, (S, T))) := by
        intro z0 ez0
        subst ez0
        refine ite_el h (fun q4 h => ?_) (fun q4 h => ?_)
        · refine go_icmp_eq (off := 5) (tgt := 29) (by decide +kernel) (by decide) (fun _ => ?_) (fun z => absurd q4 z)
          refine go_blk rfl [(.iload_n 1, 1, 1, 0, 0, .inl 0), (.iconst 1, 1, 0, 0, 0, .inl 1)] 29 31 _ _ _ (by decide +kernel) ?_
          show Go _ _ _ _ _ _ 31 [(0, rm 0), (1, vi a0)] [vi 1, vi a0] (Y, (S, T)) _
          refine ite_el h (fun q5 h => ?_) (fun q5 h => ?_)
          · refine go_icmp_ne (off := 14) (tgt := 45) (by decide +kernel) (by decide) (fun z => absurd q5 z) (fun _ => ?_)
            refine go_blk rfl [(.aload_n 0, 1, 0, 0, 0, .inl 0), (.getfield 49, 3, 11, 14, 1, .inl 0), (.iconst 1, 1, 0, 0, 0, .inl 1), (.iaload, 1, 20, 0, 0, .inl 0), (.bipush 6, 2, 0, 0, 0, .inl 6)] 34 42 _ _ _ (by decide +kernel) ?_
            refine And.intro (lm_t0 hT) (Exists.intro _ (And.intro (gRm (lm_r14 hT)) ?_))
            refine And.intro (lm_t14 hT) (Exists.intro _ (And.intro (lm_n14 hT) (And.intro (inb_in (by decide)) ?_)))
            show Go _ _ _ _ _ _ 42 [(0, rm 0), (1, vi a0)] [vi 6, vi (S.1 14 1)] (Y, (S, T)) _
            refine ite_el h (fun q6 h => ?_) (fun q6 h => ?_)
            · refine go_icmp_eq (off := 19) (tgt := 61) (by decide +kernel) (by decide) (fun _ => ?_) (fun z => absurd q6 z)
              refine go_blk rfl [(.iconst 1, 1, 0, 0, 0, .inl 1)] 61 62 _ _ _ (by decide +kernel) ?_
              show Go _ _ _ _ _ _ 62 [(0, rm 0), (1, vi a0)] [vi 1] (Y, (S, T)) _
              refine go_goto (off := 4) (tgt := 66) (by decide +kernel) (by decide) ?_
              obtain rfl := Option.some.inj h
              exact go_ireturn (by decide +kernel) rfl rfl ⟨rfl, rfl⟩
            · refine go_icmp_eq (off := 19) (tgt := 61) (by decide +kernel) (by decide) (fun z => absurd z q6) (fun _ => ?_)
              refine go_blk rfl [(.iload_n 1, 1, 1, 0, 0, .inl 0), (.iconst 2, 1, 0, 0, 0, .inl 2)] 45 47 _ _ _ (by decide +kernel) ?_
              show Go _ _ _ _ _ _ 47 [(0, rm 0), (1, vi a0)] [vi 2, vi a0] (Y, (S, T)) _
              refine ite_el h (fun q7 h => ?_) (fun q7 h => ?_)
              · refine go_icmp_ne (off := 18) (tgt := 65) (by decide +kernel) (by decide) (fun z => absurd q7 z) (fun _ => ?_)
                refine go_blk rfl [(.aload_n 0, 1, 0, 0, 0, .inl 0), (.getfield 49, 3, 11, 14, 1, .inl 0), (.iconst 2, 1, 0, 0, 0, .inl 2), (.iaload, 1, 20, 0, 0, .inl 0), (.bipush 7, 2, 0, 0, 0, .inl 7)] 50 58 _ _ _ (by decide +kernel) ?_
                refine And.intro (lm_t0 hT) (Exists.intro _ (And.intro (gRm (lm_r14 hT)) ?_))
                refine And.intro (lm_t14 hT) (Exists.intro _ (And.intro (lm_n14 hT) (And.intro (inb_in (by decide)) ?_)))
                show Go _ _ _ _ _ _ 58 [(0, rm 0), (1, vi a0)] [vi 7, vi (S.1 14 2)] (Y, (S, T)) _
                refine ite_el h (fun q8 h => ?_) (fun q8 h => ?_)
                · refine go_icmp_ne (off := 7) (tgt := 65) (by decide +kernel) (by decide) (fun z => absurd q8 z) (fun _ => ?_)
                  refine go_blk rfl [(.iconst 1, 1, 0, 0, 0, .inl 1)] 61 62 _ _ _ (by decide +kernel) ?_
                  show Go _ _ _ _ _ _ 62 [(0, rm 0), (1, vi a0)] [vi 1] (Y, (S, T)) _
                  refine go_goto (off := 4) (tgt := 66) (by decide +kernel) (by decide) ?_
                  obtain rfl := Option.some.inj h
                  exact go_ireturn (by decide +kernel) rfl rfl ⟨rfl, rfl⟩
                · refine go_icmp_ne (off := 7) (tgt := 65) (by decide +kernel) (by decide) (fun _ => ?_) (fun z => absurd z q8)
                  refine go_blk rfl [(.iconst 0, 1, 0, 0, 0, .inl 0)] 65 66 _ _ _ (by decide +kernel) ?_
                  show Go _ _ _ _ _ _ 66 [(0, rm 0), (1, vi a0)] [vi 0] (Y, (S, T)) _
                  obtain rfl := Option.some.inj h
                  exact go_ireturn (by decide +kernel) rfl rfl ⟨rfl, rfl⟩
              · refine go_icmp_ne (off := 18) (tgt := 65) (by decide +kernel) (by decide) (fun _ => ?_) (fun z => absurd z q7)
                refine go_blk rfl [(.iconst 0, 1, 0, 0, 0, .inl 0)] 65 66 _ _ _ (by decide +kernel) ?_
                show Go _ _ _ _ _ _ 66 [(0, rm 0), (1, vi a0)] [vi 0] (Y, (S, T)) _
                obtain rfl := Option.some.inj h
                exact go_ireturn (by decide +kernel) rfl rfl ⟨rfl, rfl⟩
          · refine go_icmp_ne (off := 14) (tgt := 45) (by decide +kernel) (by decide) (fun _ => ?_) (fun z => absurd z q5)
            refine go_blk rfl [(.iload_n 1, 1, 1, 0, 0, .inl 0), (.iconst 2, 1, 0, 0, 0, .inl 2)] 45 47 _ _ _ (by decide +kernel) ?_
            show Go _ _ _ _ _ _ 47 [(0, rm 0), (1, vi a0)] [vi 2, vi a0] (Y, (S, T)) _
            refine ite_el h (fun q9 h => ?_) (fun q9 h => ?_)
            · refine go_icmp_ne (off := 18) (tgt := 65) (by decide +kernel) (by decide) (fun z => absurd q9 z) (fun _ => ?_)
              refine go_blk rfl [(.aload_n 0, 1, 0, 0, 0, .inl 0), (.getfield 49, 3, 11, 14, 1, .inl 0), (.iconst 2, 1, 0, 0, 0, .inl 2), (.iaload, 1, 20, 0, 0, .inl 0), (.bipush 7, 2, 0, 0, 0, .inl 7)] 50 58 _ _ _ (by decide +kernel) ?_
              refine And.intro (lm_t0 hT) (Exists.intro _ (And.intro (gRm (lm_r14 hT)) ?_))
              refine And.intro (lm_t14 hT) (Exists.intro _ (And.intro (lm_n14 hT) (And.intro (inb_in (by decide)) ?_)))
              show Go _ _ _ _ _ _ 58 [(0, rm 0), (1, vi a0)] [vi 7, vi (S.1 14 2)] (Y, (S, T)) _
              refine ite_el h (fun q10 h => ?_) (fun q10 h => ?_)
              · refine go_icmp_ne (off := 7) (tgt := 65) (by decide +kernel) (by decide) (fun z => absurd q10 z) (fun _ => ?_)
                refine go_blk rfl [(.iconst 1, 1, 0, 0, 0, .inl 1)] 61 62 _ _ _ (by decide +kernel) ?_
                show Go _ _ _ _ _ _ 62 [(0, rm 0), (1, vi a0)] [vi 1] (Y, (S, T)) _
                refine go_goto (off := 4) (tgt := 66) (by decide +kernel) (by decide) ?_
                obtain rfl := Option.some.inj h
                exact go_ireturn (by decide +kernel) rfl rfl ⟨rfl, rfl⟩
              · refine go_icmp_ne (off := 7) (tgt := 65) (by decide +kernel) (by decide) (fun _ => ?_) (fun z => absurd z q10)
                refine go_blk rfl [(.iconst 0, 1, 0, 0, 0, .inl 0)] 65 66 _ _ _ (by decide +kernel) ?_
                show Go _ _ _ _ _ _ 66 [(0, rm 0), (1, vi a0)] [vi 0] (Y, (S, T)) _
                obtain rfl := Option.some.inj h
                exact go_ireturn (by decide +kernel) rfl rfl ⟨rfl, rfl⟩
            · refine go_icmp_ne (off := 18) (tgt := 65) (by decide +kernel) (by decide) (fun _ => ?_) (fun z => absurd z q9)
              refine go_blk rfl [(.iconst 0, 1, 0, 0, 0, .inl 0)] 65 66 _ _ _ (by decide +kernel) ?_
              show Go _ _ _ _ _ _ 66 [(0, rm 0), (1, vi a0)] [vi 0] (Y, (S, T)) _
              obtain rfl := Option.some.inj h
              exact go_ireturn (by decide +kernel) rfl rfl ⟨rfl, rfl⟩
        · refine go_icmp_eq (off := 5) (tgt := 29) (by decide +kernel) (by decide) (fun z => absurd z q4) (fun _ => ?_)
          refine go_blk rfl [(.iconst 1, 1, 0, 0, 0, .inl 1)] 27 28 _ _ _ (by decide +kernel) ?_
          show Go _ _ _ _ _ _ 28 [(0, rm 0), (1, vi a0)] [vi 1] (Y, (S, T)) _
          obtain rfl := Option.some.inj h
          exact go_ireturn (by decide +kernel) rfl rfl ⟨rfl, rfl⟩
      clear h
      by_cases q3 : a1 = 0
      · refine go_if_ne (off := 7) (tgt := 23) (by decide +kernel) (by decide) (fun z => absurd q3 z) (fun _ => ?_)
        refine go_blk rfl [(.iconst 1, 1, 0, 0, 0, .inl 1)] 19 20 _ _ _ (by decide +kernel) ?_
        show Go _ _ _ _ _ _ 20 [(0, rm 0), (1, vi a0), (2, vi a1)] [vi 1, vi (((if a0 = 0 then 1 else 0) : Int32))] (Y, (S, T)) _
        refine go_goto (off := 4) (tgt := 24) (by decide +kernel) (by decide) ?_
        refine go_pick [0, 1] rfl ?_; exact key _ (by rw [if_pos q3])
      · refine go_if_ne (off := 7) (tgt := 23) (by decide +kernel) (by decide) (fun _ => ?_) (fun z => absurd z q3)
        refine go_blk rfl [(.iconst 0, 1, 0, 0, 0, .inl 0)] 23 24 _ _ _ (by decide +kernel) ?_
        show Go _ _ _ _ _ _ 24 [(0, rm 0), (1, vi a0), (2, vi a1)] [vi 0, vi (((if a0 = 0 then 1 else 0) : Int32))] (Y, (S, T)) _
        refine go_pick [0, 1] rfl ?_; exact key _ (by rw [if_neg q3])
    clear h
    by_cases q2 : a0 = 0
    · refine go_if_ne (off := 7) (tgt := 14) (by decide +kernel) (by decide) (fun z => absurd q2 z) (fun _ => ?_)
      refine go_blk rfl [(.iconst 1, 1, 0, 0, 0, .inl 1)] 10 11 _ _ _ (by decide +kernel) ?_
      show Go _ _ _ _ _ _ 11 [(0, rm 0), (1, vi a0), (2, vi a1)] [vi 1] (Y, (S, T)) _
      refine go_goto (off := 4) (tgt := 15) (by decide +kernel) (by decide) ?_
      refine go_pick [0, 1, 2] rfl ?_; exact key _ (by rw [if_pos q2])
    · refine go_if_ne (off := 7) (tgt := 14) (by decide +kernel) (by decide) (fun _ => ?_) (fun z => absurd z q2)
      refine go_blk rfl [(.iconst 0, 1, 0, 0, 0, .inl 0)] 14 15 _ _ _ (by decide +kernel) ?_
      show Go _ _ _ _ _ _ 15 [(0, rm 0), (1, vi a0), (2, vi a1)] [vi 0] (Y, (S, T)) _
      refine go_pick [0, 1, 2] rfl ?_; exact key _ (by rw [if_neg q2])
def f11_partyClause_L1 (S : jS) (l1 : Int32) (l2 : Int32) : Nat → Int32 → Option Int32
  | 0, _ => none
  | n + 1, l3 => (if 3 ≤ l3 then some l3 else Option.bind (f11_partyWord l3) (fun r2 => Option.bind (f11_stood S r2) (fun r3 => (if r3 = 0 then f11_partyClause_L1 S l1 l2 n (l3 + 1) else some l3))))
def f11_partyClause (S : jS) (a0 : Int32) : Option (jS × Unit) := Option.bind (f11_blanks S) (fun r1 => Option.bind (f11_partyClause_L1 r1.1 a0 (r1.1.1 0 20) jF 0) (fun y4 => (if y4 = 3 then Option.bind (f11_fails r1.1 0 (r1.1.1 0 20)) (fun r5 => some (r5.1, ())) else Option.bind (f11_isOver r1.1 y4 a0) (fun r6 => (if r6 = 0 then Option.bind (f11_partyWord y4) (fun r7 => Option.bind (f11_partyPart (wI r1.1 0 20 ((r1.1.1 0 20) + (slen r7))) y4) (fun r8 => some (r8.1, ()))) else Option.bind (f11_fails r1.1 4 (r1.1.1 0 20)) (fun r9 => some (r9.1, ())))))))
theorem f11_partyClause_L1_ok {T : jT} {Y : jS × jT} {S : jS} {l1 : Int32} {l2 : Int32} {Q : Option jV → jMem → Prop} (hT : LayM T) : ∀ (n : Nat) (l3 : Int32) (r : Int32), f11_partyClause_L1 S l1 l2 n l3 = some r → Go M11_partyClause 7 0 0 0 0 33 [(0, rm 0), (1, vi l1), (2, vi l2), (3, vi r)] [] (Y, (S, T)) Q → Go M11_partyClause 7 0 0 0 0 11 [(0, rm 0), (1, vi l1), (2, vi l2), (3, vi l3)] [] (Y, (S, T)) Q := by
  intro n
  induction n with
  | zero => intro l3 r h k; exact absurd h (by intro z; cases z)
  | succ n ih =>
    intro l3 r h k
    rw [f11_partyClause_L1] at h
    refine go_blk rfl [(.iload_n 3, 1, 3, 0, 0, .inl 0), (.iconst 3, 1, 0, 0, 0, .inl 3)] 11 13 _ _ _ (by decide +kernel) ?_
    show Go _ _ _ _ _ _ 13 [(0, rm 0), (1, vi l1), (2, vi l2), (3, vi l3)] [vi 3, vi l3] (Y, (S, T)) _
    refine ite_el h (fun q1 h => ?_) (fun q1 h => ?_)
    · refine go_icmp_ge (off := 20) (tgt := 33) (by decide +kernel) (by decide) (fun _ => ?_) (fun z => absurd q1 z)
      obtain rfl := Option.some.inj h
      refine go_pick [0, 1, 2, 3] rfl ?_
      exact k
    · refine go_icmp_ge (off := 20) (tgt := 33) (by decide +kernel) (by decide) (fun z => absurd z q1) (fun _ => ?_)
      refine go_blk rfl [(.aload_n 0, 1, 0, 0, 0, .inl 0), (.iload_n 3, 1, 3, 0, 0, .inl 0)] 16 18 _ _ _ (by decide +kernel) ?_
      show Go _ _ _ _ _ _ 18 [(0, rm 0), (1, vi l1), (2, vi l2), (3, vi l3)] [vi l3, rm 0] (Y, (S, T)) _
      obtain ⟨r2, hr2, h⟩ := bind_el h
      refine go_callS (idx := 292) (z := 0) (M' := M11_partyWord) (n := 1) (A := [vi l3]) (v' := some (rs r2)) (μ' := (Y, (S, T))) (d' := 1) (mc' := 0) (ms' := 0) (kc' := 0) (ks' := 0) (by decide +kernel) ml_11_292 rfl ws11_partyWord rfl (ret11_partyWord hr2) (by decide) rfl rfl (Nat.le_of_ble_eq_true rfl) rfl (jag rfl rfl) ?_
      show Go _ _ _ _ _ _ 21 [(0, rm 0), (1, vi l1), (2, vi l2), (3, vi l3)] [rs r2, rm 0] (Y, (S, T)) _
      obtain ⟨r3, hr3, h⟩ := bind_el h
      refine go_callV (idx := 204) (z := 0) (M' := M11_stood) (n := 1) (A := [rs r2]) (v' := some (vi r3)) (μ' := (Y, (S, T))) (d' := 5) (mc' := 0) (ms' := 0) (kc' := 0) (ks' := 0) (ci := 11) (x := .inr (.inl 0)) (by decide +kernel) ml_11_204 rfl wv11_stood rfl (by decide) rfl (lm_t0 hT) (ret11_stood hT (f11_partyWord_lt hr2) hr3) (by decide) rfl rfl (Nat.le_of_ble_eq_true rfl) rfl (jag rfl rfl) ?_
      show Go _ _ _ _ _ _ 24 [(0, rm 0), (1, vi l1), (2, vi l2), (3, vi l3)] [vi r3] (Y, (S, T)) _
      refine ite_el h (fun q2 h => ?_) (fun q2 h => ?_)
      · refine go_if_ne (off := 9) (tgt := 33) (by decide +kernel) (by decide) (fun z => absurd q2 z) (fun _ => ?_)
        refine go_blk rfl [(.iinc 3 1, 3, 3, 0, 0, .inl 1)] 27 30 _ _ _ (by decide +kernel) ?_
        show Go _ _ _ _ _ _ 30 [(3, vi (l3 + 1)), (0, rm 0), (1, vi l1), (2, vi l2)] [] (Y, (S, T)) _
        refine go_goto (off := (-19)) (tgt := 11) (by decide +kernel) (by decide) ?_
        refine go_pick [1, 2, 3, 0] rfl ?_
        exact ih _ _ h k
      · refine go_if_ne (off := 9) (tgt := 33) (by decide +kernel) (by decide) (fun _ => ?_) (fun z => absurd z q2)
        obtain rfl := Option.some.inj h
        refine go_pick [0, 1, 2, 3] rfl ?_
        exact k
theorem ret11_partyClause {S : jS} {T : jT} {Y : jS × jT} {a0 : Int32} {S1 : jS} {x : Unit} (hT : LayM T) (h : f11_partyClause S a0 = some (S1, x)) : Ret M11_partyClause 7 0 0 [rm 0, vi a0] (Y, (S, T)) (none) (Y, (S1, T)) := by
  refine Ret.of (by decide +kernel) (Nat.le_of_ble_eq_true rfl) ?_
  unfold f11_partyClause at h
  show Go _ _ _ _ _ _ 0 [(0, rm 0), (1, vi a0)] [] (Y, (S, T)) _
  refine go_blk rfl [(.aload_n 0, 1, 0, 0, 0, .inl 0)] 0 1 _ _ _ (by decide +kernel) ?_
  show Go _ _ _ _ _ _ 1 [(0, rm 0), (1, vi a0)] [rm 0] (Y, (S, T)) _
  obtain ⟨r1, hr1, h⟩ := bind_el h
  refine go_callV (idx := 201) (z := 0) (M' := M11_blanks) (n := 0) (A := []) (v' := none) (μ' := (Y, (r1.1, T))) (d' := 2) (mc' := 0) (ms' := 0) (kc' := 0) (ks' := 0) (ci := 11) (x := .inr (.inl 0)) (by decide +kernel) ml_11_201 rfl wv11_blanks rfl (by decide) rfl (lm_t0 hT) (ret11_blanks hT hr1) (by decide) rfl rfl (Nat.le_of_ble_eq_true rfl) rfl (jag rfl rfl) ?_
  show Go _ _ _ _ _ _ 4 [(0, rm 0), (1, vi a0)] [] (Y, (r1.1, T)) _
  refine go_blk rfl [(.aload_n 0, 1, 0, 0, 0, .inl 0), (.getfield 181, 3, 11, 20, 0, .inl 0), (.istore_n 2, 1, 2, 0, 0, .inl 0), (.iconst 0, 1, 0, 0, 0, .inl 0), (.istore_n 3, 1, 3, 0, 0, .inl 0)] 4 11 _ _ _ (by decide +kernel) ?_
  refine And.intro (lm_t0 hT) ?_
  show Go _ _ _ _ _ _ 11 [(3, vi 0), (2, vi (r1.1.1 0 20)), (0, rm 0), (1, vi a0)] [] (Y, (r1.1, T)) _
  refine go_pick [2, 3, 1, 0] rfl ?_
  obtain ⟨y4, hy4, h⟩ := bind_el h
  refine f11_partyClause_L1_ok hT _ _ _ hy4 ?_
  show Go _ _ _ _ _ _ 33 [(0, rm 0), (1, vi a0), (2, vi (r1.1.1 0 20)), (3, vi y4)] [] (Y, (r1.1, T)) _
  refine go_blk rfl [(.iload_n 3, 1, 3, 0, 0, .inl 0), (.iconst 3, 1, 0, 0, 0, .inl 3)] 33 35 _ _ _ (by decide +kernel) ?_
  show Go _ _ _ _ _ _ 35 [(0, rm 0), (1, vi a0), (2, vi (r1.1.1 0 20)), (3, vi y4)] [vi 3, vi y4] (Y, (r1.1, T)) _
  refine ite_el h (fun q3 h => ?_) (fun q3 h => ?_)
  · refine go_icmp_ne (off := 10) (tgt := 45) (by decide +kernel) (by decide) (fun z => absurd q3 z) (fun _ => ?_)
    refine go_blk rfl [(.aload_n 0, 1, 0, 0, 0, .inl 0), (.iconst 0, 1, 0, 0, 0, .inl 0), (.iload_n 2, 1, 2, 0, 0, .inl 0)] 38 41 _ _ _ (by decide +kernel) ?_
    show Go _ _ _ _ _ _ 41 [(0, rm 0), (1, vi a0), (2, vi (r1.1.1 0 20)), (3, vi y4)] [vi (r1.1.1 0 20), vi 0, rm 0] (Y, (r1.1, T)) _
    obtain ⟨r5, hr5, h⟩ := bind_el h
    refine go_callV (idx := 217) (z := 0) (M' := M11_fails) (n := 2) (A := [vi 0, vi (r1.1.1 0 20)]) (v' := none) (μ' := (Y, (r5.1, T))) (d' := 1) (mc' := 0) (ms' := 0) (kc' := 0) (ks' := 0) (ci := 11) (x := .inr (.inl 0)) (by decide +kernel) ml_11_217 rfl wv11_fails rfl (by decide) rfl (lm_t0 hT) (ret11_fails hT hr5) (by decide) rfl rfl (Nat.le_of_ble_eq_true rfl) rfl (jag rfl rfl) ?_
    show Go _ _ _ _ _ _ 44 [(0, rm 0), (1, vi a0), (2, vi (r1.1.1 0 20)), (3, vi y4)] [] (Y, (r5.1, T)) _
    obtain ⟨rfl, rfl⟩ := Prod.mk.inj (Option.some.inj h)
    exact go_return (by decide +kernel) rfl ⟨rfl, rfl⟩
  · refine go_icmp_ne (off := 10) (tgt := 45) (by decide +kernel) (by decide) (fun _ => ?_) (fun z => absurd z q3)
    refine go_blk rfl [(.aload_n 0, 1, 0, 0, 0, .inl 0), (.iload_n 3, 1, 3, 0, 0, .inl 0), (.iload_n 1, 1, 1, 0, 0, .inl 0)] 45 48 _ _ _ (by decide +kernel) ?_
    show Go _ _ _ _ _ _ 48 [(0, rm 0), (1, vi a0), (2, vi (r1.1.1 0 20)), (3, vi y4)] [vi a0, vi y4, rm 0] (Y, (r1.1, T)) _
    obtain ⟨r6, hr6, h⟩ := bind_el h
    refine go_callV (idx := 295) (z := 0) (M' := M11_isOver) (n := 2) (A := [vi y4, vi a0]) (v' := some (vi r6)) (μ' := (Y, (r1.1, T))) (d' := 1) (mc' := 0) (ms' := 0) (kc' := 0) (ks' := 0) (ci := 11) (x := .inr (.inl 0)) (by decide +kernel) ml_11_295 rfl wv11_isOver rfl (by decide) rfl (lm_t0 hT) (ret11_isOver hT hr6) (by decide) rfl rfl (Nat.le_of_ble_eq_true rfl) rfl (jag rfl rfl) ?_
    show Go _ _ _ _ _ _ 51 [(0, rm 0), (1, vi a0), (2, vi (r1.1.1 0 20)), (3, vi y4)] [vi r6] (Y, (r1.1, T)) _
    refine ite_el h (fun q4 h => ?_) (fun q4 h => ?_)
    · refine go_if_eq (off := 10) (tgt := 61) (by decide +kernel) (by decide) (fun _ => ?_) (fun z => absurd q4 z)
      refine go_blk rfl [(.aload_n 0, 1, 0, 0, 0, .inl 0), (.dup, 1, 0, 0, 0, .inl 0), (.getfield 181, 3, 11, 20, 0, .inl 0), (.iload_n 3, 1, 3, 0, 0, .inl 0)] 61 67 _ _ _ (by decide +kernel) ?_
      refine And.intro (lm_t0 hT) ?_
      show Go _ _ _ _ _ _ 67 [(0, rm 0), (1, vi a0), (2, vi (r1.1.1 0 20)), (3, vi y4)] [vi y4, vi (r1.1.1 0 20), rm 0] (Y, (r1.1, T)) _
      obtain ⟨r7, hr7, h⟩ := bind_el h
      refine go_callS (idx := 292) (z := 0) (M' := M11_partyWord) (n := 1) (A := [vi y4]) (v' := some (rs r7)) (μ' := (Y, (r1.1, T))) (d' := 1) (mc' := 0) (ms' := 0) (kc' := 0) (ks' := 0) (by decide +kernel) ml_11_292 rfl ws11_partyWord rfl (ret11_partyWord hr7) (by decide) rfl rfl (Nat.le_of_ble_eq_true rfl) rfl (jag rfl rfl) ?_
      show Go _ _ _ _ _ _ 70 [(0, rm 0), (1, vi a0), (2, vi (r1.1.1 0 20)), (3, vi y4)] [rs r7, vi (r1.1.1 0 20), rm 0] (Y, (r1.1, T)) _
      refine go_slen (idx := 192) (by decide +kernel) ml_11_192 rfl (f11_partyWord_lt hr7) (by decide) (Nat.le_of_ble_eq_true rfl) ?_
      show Go _ _ _ _ _ _ 73 [(0, rm 0), (1, vi a0), (2, vi (r1.1.1 0 20)), (3, vi y4)] [vi (slen r7), vi (r1.1.1 0 20), rm 0] (Y, (r1.1, T)) _
      refine go_blk rfl [(.iadd, 1, 0, 0, 0, .inl 0), (.putfield 181, 3, 11, 20, 0, .inl 0)] 73 77 _ _ _ (by decide +kernel) ?_
      refine And.intro (lm_t0 hT) (And.intro trivial ?_)
      show Go _ _ _ _ _ _ 77 [(0, rm 0), (1, vi a0), (2, vi (r1.1.1 0 20)), (3, vi y4)] [] (Y, (wI r1.1 0 20 ((r1.1.1 0 20) + (slen r7)), T)) _
      refine go_blk rfl [(.aload_n 0, 1, 0, 0, 0, .inl 0), (.iload_n 3, 1, 3, 0, 0, .inl 0)] 77 79 _ _ _ (by decide +kernel) ?_
      show Go _ _ _ _ _ _ 79 [(0, rm 0), (1, vi a0), (2, vi (r1.1.1 0 20)), (3, vi y4)] [vi y4, rm 0] (Y, (wI r1.1 0 20 ((r1.1.1 0 20) + (slen r7)), T)) _
      obtain ⟨r8, hr8, h⟩ := bind_el h
      refine go_callV (idx := 298) (z := 0) (M' := M11_partyPart) (n := 1) (A := [vi y4]) (v' := none) (μ' := (Y, (r8.1, T))) (d' := 6) (mc' := 0) (ms' := 0) (kc' := 0) (ks' := 0) (ci := 11) (x := .inr (.inl 0)) (by decide +kernel) ml_11_298 rfl wv11_partyPart rfl (by decide) rfl (lm_t0 hT) (ret11_partyPart hT hr8) (by decide) rfl rfl (Nat.le_of_ble_eq_true rfl) rfl (jag rfl rfl) ?_
      show Go _ _ _ _ _ _ 82 [(0, rm 0), (1, vi a0), (2, vi (r1.1.1 0 20)), (3, vi y4)] [] (Y, (r8.1, T)) _
      obtain ⟨rfl, rfl⟩ := Prod.mk.inj (Option.some.inj h)
      exact go_return (by decide +kernel) rfl ⟨rfl, rfl⟩
    · refine go_if_eq (off := 10) (tgt := 61) (by decide +kernel) (by decide) (fun z => absurd z q4) (fun _ => ?_)
      refine go_blk rfl [(.aload_n 0, 1, 0, 0, 0, .inl 0), (.iconst 4, 1, 0, 0, 0, .inl 4), (.iload_n 2, 1, 2, 0, 0, .inl 0)] 54 57 _ _ _ (by decide +kernel) ?_
      show Go _ _ _ _ _ _ 57 [(0, rm 0), (1, vi a0), (2, vi (r1.1.1 0 20)), (3, vi y4)] [vi (r1.1.1 0 20), vi 4, rm 0] (Y, (r1.1, T)) _
      obtain ⟨r9, hr9, h⟩ := bind_el h
      refine go_callV (idx := 217) (z := 0) (M' := M11_fails) (n := 2) (A := [vi 4, vi (r1.1.1 0 20)]) (v' := none) (μ' := (Y, (r9.1, T))) (d' := 1) (mc' := 0) (ms' := 0) (kc' := 0) (ks' := 0) (ci := 11) (x := .inr (.inl 0)) (by decide +kernel) ml_11_217 rfl wv11_fails rfl (by decide) rfl (lm_t0 hT) (ret11_fails hT hr9) (by decide) rfl rfl (Nat.le_of_ble_eq_true rfl) rfl (jag rfl rfl) ?_
      show Go _ _ _ _ _ _ 60 [(0, rm 0), (1, vi a0), (2, vi (r1.1.1 0 20)), (3, vi y4)] [] (Y, (r9.1, T)) _
      obtain ⟨rfl, rfl⟩ := Prod.mk.inj (Option.some.inj h)
      exact go_return (by decide +kernel) rfl ⟨rfl, rfl⟩
