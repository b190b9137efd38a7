def f11_value_L1 (S : jS) (l1 : Int32) : Nat → Int32 → Option Int32
  | 0, _ => none
  | n + 1, l2 => (if (S.1 0 28) ≤ l2 then some l2 else Option.bind (f11_wordOf l2) (fun r3 => Option.bind (f11_stood S r3) (fun r4 => (if r4 = 0 then f11_value_L1 S l1 n (l2 + 1) else some l2))))
def f11_value (S : jS) : Option (jS × Unit) := Option.bind (f11_blanks S) (fun r1 => Option.bind (f11_isDigit r1.1) (fun r2 => (if r2 = 0 then Option.bind (f11_value_L1 r1.1 (r1.1.1 0 20) jF 0) (fun y5 => (if y5 = (r1.1.1 0 28) then Option.bind (f11_fails r1.1 0 (r1.1.1 0 20)) (fun r6 => some (r6.1, ())) else Option.bind (f11_isCounted r1.1 (r1.1.1 0 20)) (fun r7 => Option.bind (f11_wordOf y5) (fun r8 => Option.bind (f11_entry (wI r7.1 0 20 ((r7.1.1 0 20) + (slen r8))) 1 y5) (fun r9 => some (r9.1, ())))))) else Option.bind (f11_digits r1.1 99999) (fun r10 => Option.bind (f11_isCounted r10.1 (r1.1.1 0 20)) (fun r11 => Option.bind (f11_entry r11.1 0 r10.2) (fun r12 => some (r12.1, ())))))))
theorem f11_value_L1_ok {T : jT} {Y : jS × jT} {S : jS} {l1 : Int32} {Q : Option jV → jMem → Prop} (hT : LayM T) : ∀ (n : Nat) (l2 : Int32) (r : Int32), f11_value_L1 S l1 n l2 = some r → Go M11_value 6 0 0 0 0 62 [(0, rm 0), (1, vi l1), (2, vi r)] [] (Y, (S, T)) Q → Go M11_value 6 0 0 0 0 37 [(0, rm 0), (1, vi l1), (2, vi l2)] [] (Y, (S, T)) Q := by
  intro n
  induction n with
  | zero => intro l2 r h k; exact absurd h (by intro z; cases z)
  | succ n ih =>
    intro l2 r h k
    rw [f11_value_L1] at h
    refine go_blk rfl [(.iload_n 2, 1, 2, 0, 0, .inl 0), (.aload_n 0, 1, 0, 0, 0, .inl 0), (.getfield 64, 3, 11, 28, 0, .inl 0)] 37 42 _ _ _ (by decide +kernel) ?_
    refine And.intro (lm_t0 hT) ?_
    show Go _ _ _ _ _ _ 42 [(0, rm 0), (1, vi l1), (2, vi l2)] [vi (S.1 0 28), vi l2] (Y, (S, T)) _
    refine ite_el h (fun q2 h => ?_) (fun q2 h => ?_)
    · refine go_icmp_ge (off := 20) (tgt := 62) (by decide +kernel) (by decide) (fun _ => ?_) (fun z => absurd q2 z)
      obtain rfl := Option.some.inj h
      refine go_pick [0, 1, 2] rfl ?_
      exact k
    · refine go_icmp_ge (off := 20) (tgt := 62) (by decide +kernel) (by decide) (fun z => absurd z q2) (fun _ => ?_)
      refine go_blk rfl [(.aload_n 0, 1, 0, 0, 0, .inl 0), (.iload_n 2, 1, 2, 0, 0, .inl 0)] 45 47 _ _ _ (by decide +kernel) ?_
      show Go _ _ _ _ _ _ 47 [(0, rm 0), (1, vi l1), (2, vi l2)] [vi l2, rm 0] (Y, (S, T)) _
      obtain ⟨r3, hr3, h⟩ := bind_el h
      refine go_callS (idx := 236) (z := 0) (M' := M11_wordOf) (n := 1) (A := [vi l2]) (v' := some (rs r3)) (μ' := (Y, (S, T))) (d' := 1) (mc' := 0) (ms' := 0) (kc' := 0) (ks' := 0) (by decide +kernel) ml_11_236 rfl ws11_wordOf rfl (ret11_wordOf hr3) (by decide) rfl rfl (Nat.le_of_ble_eq_true rfl) rfl (jag rfl rfl) ?_
      show Go _ _ _ _ _ _ 50 [(0, rm 0), (1, vi l1), (2, vi l2)] [rs r3, rm 0] (Y, (S, T)) _
      obtain ⟨r4, hr4, h⟩ := bind_el h
      refine go_callV (idx := 204) (z := 0) (M' := M11_stood) (n := 1) (A := [rs r3]) (v' := some (vi r4)) (μ' := (Y, (S, T))) (d' := 5) (mc' := 0) (ms' := 0) (kc' := 0) (ks' := 0) (ci := 11) (x := .inr (.inl 0)) (by decide +kernel) ml_11_204 rfl wv11_stood rfl (by decide) rfl (lm_t0 hT) (ret11_stood hT (f11_wordOf_lt hr3) hr4) (by decide) rfl rfl (Nat.le_of_ble_eq_true rfl) rfl (jag rfl rfl) ?_
      show Go _ _ _ _ _ _ 53 [(0, rm 0), (1, vi l1), (2, vi l2)] [vi r4] (Y, (S, T)) _
      refine ite_el h (fun q3 h => ?_) (fun q3 h => ?_)
      · refine go_if_ne (off := 9) (tgt := 62) (by decide +kernel) (by decide) (fun z => absurd q3 z) (fun _ => ?_)
        refine go_blk rfl [(.iinc 2 1, 3, 2, 0, 0, .inl 1)] 56 59 _ _ _ (by decide +kernel) ?_
        show Go _ _ _ _ _ _ 59 [(2, vi (l2 + 1)), (0, rm 0), (1, vi l1)] [] (Y, (S, T)) _
        refine go_goto (off := (-22)) (tgt := 37) (by decide +kernel) (by decide) ?_
        refine go_pick [1, 2, 0] rfl ?_
        exact ih _ _ h k
      · refine go_if_ne (off := 9) (tgt := 62) (by decide +kernel) (by decide) (fun _ => ?_) (fun z => absurd z q3)
        obtain rfl := Option.some.inj h
        refine go_pick [0, 1, 2] rfl ?_
        exact k
theorem ret11_value {S : jS} {T : jT} {Y : jS × jT} {S1 : jS} {x : Unit} (hT : LayM T) (h : f11_value S = some (S1, x)) : Ret M11_value 6 0 0 [rm 0] (Y, (S, T)) (none) (Y, (S1, T)) := by
  refine Ret.of (by decide +kernel) (Nat.le_of_ble_eq_true rfl) ?_
  unfold f11_value at h
  show Go _ _ _ _ _ _ 0 [(0, rm 0)] [] (Y, (S, T)) _
  refine go_blk rfl [(.aload_n 0, 1, 0, 0, 0, .inl 0)] 0 1 _ _ _ (by decide +kernel) ?_
  show Go _ _ _ _ _ _ 1 [(0, rm 0)] [rm 0] (Y, (S, T)) _
  obtain ⟨r1, hr1, h⟩ := bind_el h
  refine go_callV (idx := 201) (z := 0) (M' := M11_blanks) (n := 0) (A := []) (v' := none) (μ' := (Y, (r1.1, T))) (d' := 2) (mc' := 0) (ms' := 0) (kc' := 0) (ks' := 0) (ci := 11) (x := .inr (.inl 0)) (by decide +kernel) ml_11_201 rfl wv11_blanks rfl (by decide) rfl (lm_t0 hT) (ret11_blanks hT hr1) (by decide) rfl rfl (Nat.le_of_ble_eq_true rfl) rfl (jag rfl rfl) ?_
  show Go _ _ _ _ _ _ 4 [(0, rm 0)] [] (Y, (r1.1, T)) _
  refine go_blk rfl [(.aload_n 0, 1, 0, 0, 0, .inl 0), (.getfield 181, 3, 11, 20, 0, .inl 0), (.istore_n 1, 1, 1, 0, 0, .inl 0), (.aload_n 0, 1, 0, 0, 0, .inl 0)] 4 10 _ _ _ (by decide +kernel) ?_
  refine And.intro (lm_t0 hT) ?_
  show Go _ _ _ _ _ _ 10 [(1, vi (r1.1.1 0 20)), (0, rm 0)] [rm 0] (Y, (r1.1, T)) _
  obtain ⟨r2, hr2, h⟩ := bind_el h
  refine go_callV (idx := 221) (z := 0) (M' := M11_isDigit) (n := 0) (A := []) (v' := some (vi r2)) (μ' := (Y, (r1.1, T))) (d' := 2) (mc' := 0) (ms' := 0) (kc' := 0) (ks' := 0) (ci := 11) (x := .inr (.inl 0)) (by decide +kernel) ml_11_221 rfl wv11_isDigit rfl (by decide) rfl (lm_t0 hT) (ret11_isDigit hT hr2) (by decide) rfl rfl (Nat.le_of_ble_eq_true rfl) rfl (jag rfl rfl) ?_
  show Go _ _ _ _ _ _ 13 [(1, vi (r1.1.1 0 20)), (0, rm 0)] [vi r2] (Y, (r1.1, T)) _
  refine ite_el h (fun q1 h => ?_) (fun q1 h => ?_)
  · refine go_if_eq (off := 22) (tgt := 35) (by decide +kernel) (by decide) (fun _ => ?_) (fun z => absurd q1 z)
    refine go_blk rfl [(.iconst 0, 1, 0, 0, 0, .inl 0), (.istore_n 2, 1, 2, 0, 0, .inl 0)] 35 37 _ _ _ (by decide +kernel) ?_
    show Go _ _ _ _ _ _ 37 [(2, vi 0), (1, vi (r1.1.1 0 20)), (0, rm 0)] [] (Y, (r1.1, T)) _
    refine go_pick [2, 1, 0] rfl ?_
    obtain ⟨y5, hy5, h⟩ := bind_el h
    refine f11_value_L1_ok hT _ _ _ hy5 ?_
    show Go _ _ _ _ _ _ 62 [(0, rm 0), (1, vi (r1.1.1 0 20)), (2, vi y5)] [] (Y, (r1.1, T)) _
    refine go_blk rfl [(.iload_n 2, 1, 2, 0, 0, .inl 0), (.aload_n 0, 1, 0, 0, 0, .inl 0), (.getfield 64, 3, 11, 28, 0, .inl 0)] 62 67 _ _ _ (by decide +kernel) ?_
    refine And.intro (lm_t0 hT) ?_
    show Go _ _ _ _ _ _ 67 [(0, rm 0), (1, vi (r1.1.1 0 20)), (2, vi y5)] [vi (r1.1.1 0 28), vi y5] (Y, (r1.1, T)) _
    refine ite_el h (fun q4 h => ?_) (fun q4 h => ?_)
    · refine go_icmp_ne (off := 10) (tgt := 77) (by decide +kernel) (by decide) (fun z => absurd q4 z) (fun _ => ?_)
      refine go_blk rfl [(.aload_n 0, 1, 0, 0, 0, .inl 0), (.iconst 0, 1, 0, 0, 0, .inl 0), (.iload_n 1, 1, 1, 0, 0, .inl 0)] 70 73 _ _ _ (by decide +kernel) ?_
      show Go _ _ _ _ _ _ 73 [(0, rm 0), (1, vi (r1.1.1 0 20)), (2, vi y5)] [vi (r1.1.1 0 20), vi 0, rm 0] (Y, (r1.1, T)) _
      obtain ⟨r6, hr6, h⟩ := bind_el h
      refine go_callV (idx := 217) (z := 0) (M' := M11_fails) (n := 2) (A := [vi 0, vi (r1.1.1 0 20)]) (v' := none) (μ' := (Y, (r6.1, T))) (d' := 1) (mc' := 0) (ms' := 0) (kc' := 0) (ks' := 0) (ci := 11) (x := .inr (.inl 0)) (by decide +kernel) ml_11_217 rfl wv11_fails rfl (by decide) rfl (lm_t0 hT) (ret11_fails hT hr6) (by decide) rfl rfl (Nat.le_of_ble_eq_true rfl) rfl (jag rfl rfl) ?_
      show Go _ _ _ _ _ _ 76 [(0, rm 0), (1, vi (r1.1.1 0 20)), (2, vi y5)] [] (Y, (r6.1, T)) _
      obtain ⟨rfl, rfl⟩ := Prod.mk.inj (Option.some.inj h)
      exact go_return (by decide +kernel) rfl ⟨rfl, rfl⟩
    · refine go_icmp_ne (off := 10) (tgt := 77) (by decide +kernel) (by decide) (fun _ => ?_) (fun z => absurd z q4)
      refine go_blk rfl [(.aload_n 0, 1, 0, 0, 0, .inl 0), (.iload_n 1, 1, 1, 0, 0, .inl 0)] 77 79 _ _ _ (by decide +kernel) ?_
      show Go _ _ _ _ _ _ 79 [(0, rm 0), (1, vi (r1.1.1 0 20)), (2, vi y5)] [vi (r1.1.1 0 20), rm 0] (Y, (r1.1, T)) _
      obtain ⟨r7, hr7, h⟩ := bind_el h
      refine go_callV (idx := 230) (z := 0) (M' := M11_isCounted) (n := 1) (A := [vi (r1.1.1 0 20)]) (v' := none) (μ' := (Y, (r7.1, T))) (d' := 2) (mc' := 0) (ms' := 0) (kc' := 0) (ks' := 0) (ci := 11) (x := .inr (.inl 0)) (by decide +kernel) ml_11_230 rfl wv11_isCounted rfl (by decide) rfl (lm_t0 hT) (ret11_isCounted hT hr7) (by decide) rfl rfl (Nat.le_of_ble_eq_true rfl) rfl (jag rfl rfl) ?_
      show Go _ _ _ _ _ _ 82 [(0, rm 0), (1, vi (r1.1.1 0 20)), (2, vi y5)] [] (Y, (r7.1, T)) _
      refine go_blk rfl [(.aload_n 0, 1, 0, 0, 0, .inl 0), (.dup, 1, 0, 0, 0, .inl 0), (.getfield 181, 3, 11, 20, 0, .inl 0), (.iload_n 2, 1, 2, 0, 0, .inl 0)] 82 88 _ _ _ (by decide +kernel) ?_
      refine And.intro (lm_t0 hT) ?_
      show Go _ _ _ _ _ _ 88 [(0, rm 0), (1, vi (r1.1.1 0 20)), (2, vi y5)] [vi y5, vi (r7.1.1 0 20), rm 0] (Y, (r7.1, T)) _
      obtain ⟨r8, hr8, h⟩ := bind_el h
      refine go_callS (idx := 236) (z := 0) (M' := M11_wordOf) (n := 1) (A := [vi y5]) (v' := some (rs r8)) (μ' := (Y, (r7.1, T))) (d' := 1) (mc' := 0) (ms' := 0) (kc' := 0) (ks' := 0) (by decide +kernel) ml_11_236 rfl ws11_wordOf rfl (ret11_wordOf hr8) (by decide) rfl rfl (Nat.le_of_ble_eq_true rfl) rfl (jag rfl rfl) ?_
      show Go _ _ _ _ _ _ 91 [(0, rm 0), (1, vi (r1.1.1 0 20)), (2, vi y5)] [rs r8, vi (r7.1.1 0 20), rm 0] (Y, (r7.1, T)) _
      refine go_slen (idx := 192) (by decide +kernel) ml_11_192 rfl (f11_wordOf_lt hr8) (by decide) (Nat.le_of_ble_eq_true rfl) ?_
      show Go _ _ _ _ _ _ 94 [(0, rm 0), (1, vi (r1.1.1 0 20)), (2, vi y5)] [vi (slen r8), vi (r7.1.1 0 20), rm 0] (Y, (r7.1, T)) _
      refine go_blk rfl [(.iadd, 1, 0, 0, 0, .inl 0), (.putfield 181, 3, 11, 20, 0, .inl 0)] 94 98 _ _ _ (by decide +kernel) ?_
      refine And.intro (lm_t0 hT) (And.intro trivial ?_)
      show Go _ _ _ _ _ _ 98 [(0, rm 0), (1, vi (r1.1.1 0 20)), (2, vi y5)] [] (Y, (wI r7.1 0 20 ((r7.1.1 0 20) + (slen r8)), T)) _
      refine go_blk rfl [(.aload_n 0, 1, 0, 0, 0, .inl 0), (.iconst 1, 1, 0, 0, 0, .inl 1), (.iload_n 2, 1, 2, 0, 0, .inl 0)] 98 101 _ _ _ (by decide +kernel) ?_
      show Go _ _ _ _ _ _ 101 [(0, rm 0), (1, vi (r1.1.1 0 20)), (2, vi y5)] [vi y5, vi 1, rm 0] (Y, (wI r7.1 0 20 ((r7.1.1 0 20) + (slen r8)), T)) _
      obtain ⟨r9, hr9, h⟩ := bind_el h
      refine go_callV (idx := 233) (z := 0) (M' := M11_entry) (n := 2) (A := [vi 1, vi y5]) (v' := none) (μ' := (Y, (r9.1, T))) (d' := 1) (mc' := 0) (ms' := 0) (kc' := 0) (ks' := 0) (ci := 11) (x := .inr (.inl 0)) (by decide +kernel) ml_11_233 rfl wv11_entry rfl (by decide) rfl (lm_t0 hT) (ret11_entry hT hr9) (by decide) rfl rfl (Nat.le_of_ble_eq_true rfl) rfl (jag rfl rfl) ?_
      show Go _ _ _ _ _ _ 104 [(0, rm 0), (1, vi (r1.1.1 0 20)), (2, vi y5)] [] (Y, (r9.1, T)) _
      obtain ⟨rfl, rfl⟩ := Prod.mk.inj (Option.some.inj h)
      exact go_return (by decide +kernel) rfl ⟨rfl, rfl⟩
  · refine go_if_eq (off := 22) (tgt := 35) (by decide +kernel) (by decide) (fun z => absurd z q1) (fun _ => ?_)
    refine go_blk rfl [(.aload_n 0, 1, 0, 0, 0, .inl 0), (.ldc 225, 2, 0, 0, 0, .inl 99999)] 16 19 _ _ _ (by decide +kernel) ?_
    show Go _ _ _ _ _ _ 19 [(1, vi (r1.1.1 0 20)), (0, rm 0)] [vi 99999, rm 0] (Y, (r1.1, T)) _
    obtain ⟨r10, hr10, h⟩ := bind_el h
    refine go_callV (idx := 226) (z := 0) (M' := M11_digits) (n := 1) (A := [vi 99999]) (v' := some (vi r10.2)) (μ' := (Y, (r10.1, T))) (d' := 3) (mc' := 0) (ms' := 0) (kc' := 0) (ks' := 0) (ci := 11) (x := .inr (.inl 0)) (by decide +kernel) ml_11_226 rfl wv11_digits rfl (by decide) rfl (lm_t0 hT) (ret11_digits hT hr10) (by decide) rfl rfl (Nat.le_of_ble_eq_true rfl) rfl (jag rfl rfl) ?_
    show Go _ _ _ _ _ _ 22 [(1, vi (r1.1.1 0 20)), (0, rm 0)] [vi r10.2] (Y, (r10.1, T)) _
    refine go_blk rfl [(.istore_n 2, 1, 2, 0, 0, .inl 0), (.aload_n 0, 1, 0, 0, 0, .inl 0), (.iload_n 1, 1, 1, 0, 0, .inl 0)] 22 25 _ _ _ (by decide +kernel) ?_
    show Go _ _ _ _ _ _ 25 [(2, vi r10.2), (1, vi (r1.1.1 0 20)), (0, rm 0)] [vi (r1.1.1 0 20), rm 0] (Y, (r10.1, T)) _
    obtain ⟨r11, hr11, h⟩ := bind_el h
    refine go_callV (idx := 230) (z := 0) (M' := M11_isCounted) (n := 1) (A := [vi (r1.1.1 0 20)]) (v' := none) (μ' := (Y, (r11.1, T))) (d' := 2) (mc' := 0) (ms' := 0) (kc' := 0) (ks' := 0) (ci := 11) (x := .inr (.inl 0)) (by decide +kernel) ml_11_230 rfl wv11_isCounted rfl (by decide) rfl (lm_t0 hT) (ret11_isCounted hT hr11) (by decide) rfl rfl (Nat.le_of_ble_eq_true rfl) rfl (jag rfl rfl) ?_
    show Go _ _ _ _ _ _ 28 [(2, vi r10.2), (1, vi (r1.1.1 0 20)), (0, rm 0)] [] (Y, (r11.1, T)) _
    refine go_blk rfl [(.aload_n 0, 1, 0, 0, 0, .inl 0), (.iconst 0, 1, 0, 0, 0, .inl 0), (.iload_n 2, 1, 2, 0, 0, .inl 0)] 28 31 _ _ _ (by decide +kernel) ?_
    show Go _ _ _ _ _ _ 31 [(2, vi r10.2), (1, vi (r1.1.1 0 20)), (0, rm 0)] [vi r10.2, vi 0, rm 0] (Y, (r11.1, T)) _
    obtain ⟨r12, hr12, h⟩ := bind_el h
    refine go_callV (idx := 233) (z := 0) (M' := M11_entry) (n := 2) (A := [vi 0, vi r10.2]) (v' := none) (μ' := (Y, (r12.1, T))) (d' := 1) (mc' := 0) (ms' := 0) (kc' := 0) (ks' := 0) (ci := 11) (x := .inr (.inl 0)) (by decide +kernel) ml_11_233 rfl wv11_entry rfl (by decide) rfl (lm_t0 hT) (ret11_entry hT hr12) (by decide) rfl rfl (Nat.le_of_ble_eq_true rfl) rfl (jag rfl rfl) ?_
    show Go _ _ _ _ _ _ 34 [(2, vi r10.2), (1, vi (r1.1.1 0 20)), (0, rm 0)] [] (Y, (r12.1, T)) _
    obtain ⟨rfl, rfl⟩ := Prod.mk.inj (Option.some.inj h)
    exact go_return (by decide +kernel) rfl ⟨rfl, rfl⟩
def f11_term_L1  : Nat → jS → Option jS
  | 0, _ => none
  | n + 1, S => (if (S.1 0 21) = 0 then Option.bind (f11_sign S) (fun r3 => (if r3 = 42 then Option.bind (f11_sign S) (fun r4 => Option.bind (if r4 = 42 then some 13 else Option.bind (f11_sign S) (fun r5 => (if r5 = 47 then some 14 else some 15))) (fun (y6 : Int32) => Option.bind (f11_value (wI S 0 20 ((S.1 0 20) + 1))) (fun r7 => Option.bind (f11_entry r7.1 y6 0) (fun r8 => Option.bind (f11_blanks r8.1) (fun r9 => f11_term_L1 n r9.1))))) else Option.bind (f11_sign S) (fun r10 => (if r10 = 47 then Option.bind (f11_sign S) (fun r11 => Option.bind (if r11 = 42 then some 13 else Option.bind (f11_sign S) (fun r12 => (if r12 = 47 then some 14 else some 15))) (fun (y13 : Int32) => Option.bind (f11_value (wI S 0 20 ((S.1 0 20) + 1))) (fun r14 => Option.bind (f11_entry r14.1 y13 0) (fun r15 => Option.bind (f11_blanks r15.1) (fun r16 => f11_term_L1 n r16.1))))) else Option.bind (f11_sign S) (fun r17 => (if r17 = 37 then Option.bind (f11_sign S) (fun r18 => Option.bind (if r18 = 42 then some 13 else Option.bind (f11_sign S) (fun r19 => (if r19 = 47 then some 14 else some 15))) (fun (y20 : Int32) => Option.bind (f11_value (wI S 0 20 ((S.1 0 20) + 1))) (fun r21 => Option.bind (f11_entry r21.1 y20 0) (fun r22 => Option.bind (f11_blanks r22.1) (fun r23 => f11_term_L1 n r23.1))))) else some S)))))) else some S)
def f11_term (S : jS) : Option (jS × Unit) := Option.bind (f11_value S) (fun r1 => Option.bind (f11_blanks r1.1) (fun r2 => Option.bind (f11_term_L1 jF r2.1) (fun y24 => some (y24, ()))))
theorem f11_term_L1_ok {T : jT} {Y : jS × jT} {Q : Option jV → jMem → Prop} (hT : LayM T) : ∀ (n : Nat) (S : jS) (r : jS), f11_term_L1 n S = some r → Go M11_term 7 0 0 0 0 100 [] [] (Y, (r, T)) Q → Go M11_term 7 0 0 0 0 8 [(0, rm 0)] [] (Y, (S, T)) Q := by
  intro n
  induction n with
  | zero => intro S r h k; exact absurd h (by intro z; cases z)
  | succ n ih =>
    intro S r h k
    rw [f11_term_L1] at h
    refine go_blk rfl [(.aload_n 0, 1, 0, 0, 0, .inl 0), (.getfield 178, 3, 11, 21, 0, .inl 0)] 8 12 _ _ _ (by decide +kernel) ?_
    refine And.intro (lm_t0 hT) ?_
    show Go _ _ _ _ _ _ 12 [(0, rm 0)] [vi (S.1 0 21)] (Y, (S, T)) _
    refine ite_el h (fun q1 h => ?_) (fun q1 h => ?_)
    · refine go_if_ne (off := 88) (tgt := 100) (by decide +kernel) (by decide) (fun z => absurd q1 z) (fun _ => ?_)
      refine go_blk rfl [(.aload_n 0, 1, 0, 0, 0, .inl 0)] 15 16 _ _ _ (by decide +kernel) ?_
      show Go _ _ _ _ _ _ 16 [(0, rm 0)] [rm 0] (Y, (S, T)) _
      obtain ⟨r3, hr3, h⟩ := bind_el h
      refine go_callV (idx := 184) (z := 0) (M' := M11_sign) (n := 0) (A := []) (v' := some (vi r3)) (μ' := (Y, (S, T))) (d' := 1) (mc' := 0) (ms' := 0) (kc' := 0) (ks' := 0) (ci := 11) (x := .inr (.inl 0)) (by decide +kernel) ml_11_184 rfl wv11_sign rfl (by decide) rfl (lm_t0 hT) (ret11_sign hT hr3) (by decide) rfl rfl (Nat.le_of_ble_eq_true rfl) rfl (jag rfl rfl) ?_
      show Go _ _ _ _ _ _ 19 [(0, rm 0)] [vi r3] (Y, (S, T)) _
      refine go_blk rfl [(.bipush 42, 2, 0, 0, 0, .inl 42)] 19 21 _ _ _ (by decide +kernel) ?_
      show Go _ _ _ _ _ _ 21 [(0, rm 0)] [vi 42, vi r3] (Y, (S, T)) _
      refine ite_el h (fun q2 h => ?_) (fun q2 h => ?_)
      · refine go_icmp_eq (off := 21) (tgt := 42) (by decide +kernel) (by decide) (fun _ => ?_) (fun z => absurd q2 z)
        refine go_blk rfl [(.aload_n 0, 1, 0, 0, 0, .inl 0)] 42 43 _ _ _ (by decide +kernel) ?_
        show Go _ _ _ _ _ _ 43 [(0, rm 0)] [rm 0] (Y, (S, T)) _
        obtain ⟨r4, hr4, h⟩ := bind_el h
        refine go_callV (idx := 184) (z := 0) (M' := M11_sign) (n := 0) (A := []) (v' := some (vi r4)) (μ' := (Y, (S, T))) (d' := 1) (mc' := 0) (ms' := 0) (kc' := 0) (ks' := 0) (ci := 11) (x := .inr (.inl 0)) (by decide +kernel) ml_11_184 rfl wv11_sign rfl (by decide) rfl (lm_t0 hT) (ret11_sign hT hr4) (by decide) rfl rfl (Nat.le_of_ble_eq_true rfl) rfl (jag rfl rfl) ?_
        show Go _ _ _ _ _ _ 46 [(0, rm 0)] [vi r4] (Y, (S, T)) _
        refine go_blk rfl [(.bipush 42, 2, 0, 0, 0, .inl 42)] 46 48 _ _ _ (by decide +kernel) ?_
        show Go _ _ _ _ _ _ 48 [(0, rm 0)] [vi 42, vi r4] (Y, (S, T)) _
        obtain ⟨y6, hy6, h⟩ := bind_el h
        have key : Go M11_term 7 0 0 0 0 72 [(0, rm 0)] [vi y6] (Y, (S, T)) Q := by
          refine go_blk rfl [(.istore_n 1, 1, 1, 0, 0, .inl 0), (.aload_n 0, 1, 0, 0, 0, .inl 0), (.dup, 1, 0, 0, 0, .inl 0), (.getfield 181, 3, 11, 20, 0, .inl 0), (.iconst 1, 1, 0, 0, 0, .inl 1), (.iadd, 1, 0, 0, 0, .inl 0), (.putfield 181, 3, 11, 20, 0, .inl 0)] 72 83 _ _ _ (by decide +kernel) ?_
          refine And.intro (lm_t0 hT) ?_
          refine And.intro (lm_t0 hT) (And.intro trivial ?_)
          show Go _ _ _ _ _ _ 83 [(1, vi y6), (0, rm 0)] [] (Y, (wI S 0 20 ((S.1 0 20) + 1), T)) _
          refine go_blk rfl [(.aload_n 0, 1, 0, 0, 0, .inl 0)] 83 84 _ _ _ (by decide +kernel) ?_
          show Go _ _ _ _ _ _ 84 [(1, vi y6), (0, rm 0)] [rm 0] (Y, (wI S 0 20 ((S.1 0 20) + 1), T)) _
          obtain ⟨r7, hr7, h⟩ := bind_el h
          refine go_callV (idx := 240) (z := 0) (M' := M11_value) (n := 0) (A := []) (v' := none) (μ' := (Y, (r7.1, T))) (d' := 6) (mc' := 0) (ms' := 0) (kc' := 0) (ks' := 0) (ci := 11) (x := .inr (.inl 0)) (by decide +kernel) ml_11_240 rfl wv11_value rfl (by decide) rfl (lm_t0 hT) (ret11_value hT hr7) (by decide) rfl rfl (Nat.le_of_ble_eq_true rfl) rfl (jag rfl rfl) ?_
          show Go _ _ _ _ _ _ 87 [(1, vi y6), (0, rm 0)] [] (Y, (r7.1, T)) _
          refine go_blk rfl [(.aload_n 0, 1, 0, 0, 0, .inl 0), (.iload_n 1, 1, 1, 0, 0, .inl 0), (.iconst 0, 1, 0, 0, 0, .inl 0)] 87 90 _ _ _ (by decide +kernel) ?_
          show Go _ _ _ _ _ _ 90 [(1, vi y6), (0, rm 0)] [vi 0, vi y6, rm 0] (Y, (r7.1, T)) _
          obtain ⟨r8, hr8, h⟩ := bind_el h
          refine go_callV (idx := 233) (z := 0) (M' := M11_entry) (n := 2) (A := [vi y6, vi 0]) (v' := none) (μ' := (Y, (r8.1, T))) (d' := 1) (mc' := 0) (ms' := 0) (kc' := 0) (ks' := 0) (ci := 11) (x := .inr (.inl 0)) (by decide +kernel) ml_11_233 rfl wv11_entry rfl (by decide) rfl (lm_t0 hT) (ret11_entry hT hr8) (by decide) rfl rfl (Nat.le_of_ble_eq_true rfl) rfl (jag rfl rfl) ?_
          show Go _ _ _ _ _ _ 93 [(1, vi y6), (0, rm 0)] [] (Y, (r8.1, T)) _
          refine go_blk rfl [(.aload_n 0, 1, 0, 0, 0, .inl 0)] 93 94 _ _ _ (by decide +kernel) ?_
          show Go _ _ _ _ _ _ 94 [(1, vi y6), (0, rm 0)] [rm 0] (Y, (r8.1, T)) _
          obtain ⟨r9, hr9, h⟩ := bind_el h
          refine go_callV (idx := 201) (z := 0) (M' := M11_blanks) (n := 0) (A := []) (v' := none) (μ' := (Y, (r9.1, T))) (d' := 2) (mc' := 0) (ms' := 0) (kc' := 0) (ks' := 0) (ci := 11) (x := .inr (.inl 0)) (by decide +kernel) ml_11_201 rfl wv11_blanks rfl (by decide) rfl (lm_t0 hT) (ret11_blanks hT hr9) (by decide) rfl rfl (Nat.le_of_ble_eq_true rfl) rfl (jag rfl rfl) ?_
          show Go _ _ _ _ _ _ 97 [(1, vi y6), (0, rm 0)] [] (Y, (r9.1, T)) _
          refine go_goto (off := (-89)) (tgt := 8) (by decide +kernel) (by decide) ?_
          refine go_pick [1] rfl ?_
          exact ih _ _ h k
        replace h := hy6
        refine ite_el h (fun q3 h => ?_) (fun q3 h => ?_)
        · refine go_icmp_ne (off := 8) (tgt := 56) (by decide +kernel) (by decide) (fun z => absurd q3 z) (fun _ => ?_)
          refine go_blk rfl [(.bipush 13, 2, 0, 0, 0, .inl 13)] 51 53 _ _ _ (by decide +kernel) ?_
          show Go _ _ _ _ _ _ 53 [(0, rm 0)] [vi 13] (Y, (S, T)) _
          refine go_goto (off := 19) (tgt := 72) (by decide +kernel) (by decide) ?_
          obtain rfl := Option.some.inj h
          refine go_pick [0] rfl ?_
          exact key
        · refine go_icmp_ne (off := 8) (tgt := 56) (by decide +kernel) (by decide) (fun _ => ?_) (fun z => absurd z q3)
          refine go_blk rfl [(.aload_n 0, 1, 0, 0, 0, .inl 0)] 56 57 _ _ _ (by decide +kernel) ?_
          show Go _ _ _ _ _ _ 57 [(0, rm 0)] [rm 0] (Y, (S, T)) _
          obtain ⟨r5, hr5, h⟩ := bind_el h
          refine go_callV (idx := 184) (z := 0) (M' := M11_sign) (n := 0) (A := []) (v' := some (vi r5)) (μ' := (Y, (S, T))) (d' := 1) (mc' := 0) (ms' := 0) (kc' := 0) (ks' := 0) (ci := 11) (x := .inr (.inl 0)) (by decide +kernel) ml_11_184 rfl wv11_sign rfl (by decide) rfl (lm_t0 hT) (ret11_sign hT hr5) (by decide) rfl rfl (Nat.le_of_ble_eq_true rfl) rfl (jag rfl rfl) ?_
          show Go _ _ _ _ _ _ 60 [(0, rm 0)] [vi r5] (Y, (S, T)) _
          refine go_blk rfl [(.bipush 47, 2, 0, 0, 0, .inl 47)] 60 62 _ _ _ (by decide +kernel) ?_
          show Go _ _ _ _ _ _ 62 [(0, rm 0)] [vi 47, vi r5] (Y, (S, T)) _
          refine ite_el h (fun q4 h => ?_) (fun q4 h => ?_)
          · refine go_icmp_ne (off := 8) (tgt := 70) (by decide +kernel) (by decide) (fun z => absurd q4 z) (fun _ => ?_)
            refine go_blk rfl [(.bipush 14, 2, 0, 0, 0, .inl 14)] 65 67 _ _ _ (by decide +kernel) ?_
            show Go _ _ _ _ _ _ 67 [(0, rm 0)] [vi 14] (Y, (S, T)) _
            refine go_goto (off := 5) (tgt := 72) (by decide +kernel) (by decide) ?_
            obtain rfl := Option.some.inj h
            refine go_pick [0] rfl ?_
            exact key
          · refine go_icmp_ne (off := 8) (tgt := 70) (by decide +kernel) (by decide) (fun _ => ?_) (fun z => absurd z q4)
            refine go_blk rfl [(.bipush 15, 2, 0, 0, 0, .inl 15)] 70 72 _ _ _ (by decide +kernel) ?_
            show Go _ _ _ _ _ _ 72 [(0, rm 0)] [vi 15] (Y, (S, T)) _
            obtain rfl := Option.some.inj h
            refine go_pick [0] rfl ?_
            exact key
      · refine go_icmp_eq (off := 21) (tgt := 42) (by decide +kernel) (by decide) (fun z => absurd z q2) (fun _ => ?_)
        refine go_blk rfl [(.aload_n 0, 1, 0, 0, 0, .inl 0)] 24 25 _ _ _ (by decide +kernel) ?_
        show Go _ _ _ _ _ _ 25 [(0, rm 0)] [rm 0] (Y, (S, T)) _
        obtain ⟨r10, hr10, h⟩ := bind_el h
        refine go_callV (idx := 184) (z := 0) (M' := M11_sign) (n := 0) (A := []) (v' := some (vi r10)) (μ' := (Y, (S, T))) (d' := 1) (mc' := 0) (ms' := 0) (kc' := 0) (ks' := 0) (ci := 11) (x := .inr (.inl 0)) (by decide +kernel) ml_11_184 rfl wv11_sign rfl (by decide) rfl (lm_t0 hT) (ret11_sign hT hr10) (by decide) rfl rfl (Nat.le_of_ble_eq_true rfl) rfl (jag rfl rfl) ?_
        show Go _ _ _ _ _ _ 28 [(0, rm 0)] [vi r10] (Y, (S, T)) _
        refine go_blk rfl [(.bipush 47, 2, 0, 0, 0, .inl 47)] 28 30 _ _ _ (by decide +kernel) ?_
        show Go _ _ _ _ _ _ 30 [(0, rm 0)] [vi 47, vi r10] (Y, (S, T)) _
        refine ite_el h (fun q5 h => ?_) (fun q5 h => ?_)
        · refine go_icmp_eq (off := 12) (tgt := 42) (by decide +kernel) (by decide) (fun _ => ?_) (fun z => absurd q5 z)
          refine go_blk rfl [(.aload_n 0, 1, 0, 0, 0, .inl 0)] 42 43 _ _ _ (by decide +kernel) ?_
          show Go _ _ _ _ _ _ 43 [(0, rm 0)] [rm 0] (Y, (S, T)) _
          obtain ⟨r11, hr11, h⟩ := bind_el h
          refine go_callV (idx := 184) (z := 0) (M' := M11_sign) (n := 0) (A := []) (v' := some (vi r11)) (μ' := (Y, (S, T))) (d' := 1) (mc' := 0) (ms' := 0) (kc' := 0) (ks' := 0) (ci := 11) (x := .inr (.inl 0)) (by decide +kernel) ml_11_184 rfl wv11_sign rfl (by decide) rfl (lm_t0 hT) (ret11_sign hT hr11) (by decide) rfl rfl (Nat.le_of_ble_eq_true rfl) rfl (jag rfl rfl) ?_
          show Go _ _ _ _ _ _ 46 [(0, rm 0)] [vi r11] (Y, (S, T)) _
          refine go_blk rfl [(.bipush 42, 2, 0, 0, 0, .inl 42)] 46 48 _ _ _ (by decide +kernel) ?_
          show Go _ _ _ _ _ _ 48 [(0, rm 0)] [vi 42, vi r11] (Y, (S, T)) _
          obtain ⟨y13, hy13, h⟩ := bind_el h
          have key : Go M11_term 7 0 0 0 0 72 [(0, rm 0)] [vi y13] (Y, (S, T)) Q := by
            refine go_blk rfl [(.istore_n 1, 1, 1, 0, 0, .inl 0), (.aload_n 0, 1, 0, 0, 0, .inl 0), (.dup, 1, 0, 0, 0, .inl 0), (.getfield 181, 3, 11, 20, 0, .inl 0), (.iconst 1, 1, 0, 0, 0, .inl 1), (.iadd, 1, 0, 0, 0, .inl 0), (.putfield 181, 3, 11, 20, 0, .inl 0)] 72 83 _ _ _ (by decide +kernel) ?_
            refine And.intro (lm_t0 hT) ?_
            refine And.intro (lm_t0 hT) (And.intro trivial ?_)
            show Go _ _ _ _ _ _ 83 [(1, vi y13), (0, rm 0)] [] (Y, (wI S 0 20 ((S.1 0 20) + 1), T)) _
            refine go_blk rfl [(.aload_n 0, 1, 0, 0, 0, .inl 0)] 83 84 _ _ _ (by decide +kernel) ?_
            show Go _ _ _ _ _ _ 84 [(1, vi y13), (0, rm 0)] [rm 0] (Y, (wI S 0 20 ((S.1 0 20) + 1), T)) _
            obtain ⟨r14, hr14, h⟩ := bind_el h
            refine go_callV (idx := 240) (z := 0) (M' := M11_value) (n := 0) (A := []) (v' := none) (μ' := (Y, (r14.1, T))) (d' := 6) (mc' := 0) (ms' := 0) (kc' := 0) (ks' := 0) (ci := 11) (x := .inr (.inl 0)) (by decide +kernel) ml_11_240 rfl wv11_value rfl (by decide) rfl (lm_t0 hT) (ret11_value hT hr14) (by decide) rfl rfl (Nat.le_of_ble_eq_true rfl) rfl (jag rfl rfl) ?_
            show Go _ _ _ _ _ _ 87 [(1, vi y13), (0, rm 0)] [] (Y, (r14.1, T)) _
            refine go_blk rfl [(.aload_n 0, 1, 0, 0, 0, .inl 0), (.iload_n 1, 1, 1, 0, 0, .inl 0), (.iconst 0, 1, 0, 0, 0, .inl 0)] 87 90 _ _ _ (by decide +kernel) ?_
            show Go _ _ _ _ _ _ 90 [(1, vi y13), (0, rm 0)] [vi 0, vi y13, rm 0] (Y, (r14.1, T)) _
            obtain ⟨r15, hr15, h⟩ := bind_el h
            refine go_callV (idx := 233) (z := 0) (M' := M11_entry) (n := 2) (A := [vi y13, vi 0]) (v' := none) (μ' := (Y, (r15.1, T))) (d' := 1) (mc' := 0) (ms' := 0) (kc' := 0) (ks' := 0) (ci := 11) (x := .inr (.inl 0)) (by decide +kernel) ml_11_233 rfl wv11_entry rfl (by decide) rfl (lm_t0 hT) (ret11_entry hT hr15) (by decide) rfl rfl (Nat.le_of_ble_eq_true rfl) rfl (jag rfl rfl) ?_
            show Go _ _ _ _ _ _ 93 [(1, vi y13), (0, rm 0)] [] (Y, (r15.1, T)) _
            refine go_blk rfl [(.aload_n 0, 1, 0, 0, 0, .inl 0)] 93 94 _ _ _ (by decide +kernel) ?_
            show Go _ _ _ _ _ _ 94 [(1, vi y13), (0, rm 0)] [rm 0] (Y, (r15.1, T)) _
            obtain ⟨r16, hr16, h⟩ := bind_el h
            refine go_callV (idx := 201) (z := 0) (M' := M11_blanks) (n := 0) (A := []) (v' := none) (μ' := (Y, (r16.1, T))) (d' := 2) (mc' := 0) (ms' := 0) (kc' := 0) (ks' := 0) (ci := 11) (x := .inr (.inl 0)) (by decide +kernel) ml_11_201 rfl wv11_blanks rfl (by decide) rfl (lm_t0 hT) (ret11_blanks hT hr16) (by decide) rfl rfl (Nat.le_of_ble_eq_true rfl) rfl (jag rfl rfl) ?_
            show Go _ _ _ _ _ _ 97 [(1, vi y13), (0, rm 0)] [] (Y, (r16.1, T)) _
            refine go_goto (off := (-89)) (tgt := 8) (by decide +kernel) (by decide) ?_
            refine go_pick [1] rfl ?_
            exact ih _ _ h k
          replace h := hy13
          refine ite_el h (fun q6 h => ?_) (fun q6 h => ?_)
          · refine go_icmp_ne (off := 8) (tgt := 56) (by decide +kernel) (by decide) (fun z => absurd q6 z) (fun _ => ?_)
            refine go_blk rfl [(.bipush 13, 2, 0, 0, 0, .inl 13)] 51 53 _ _ _ (by decide +kernel) ?_
            show Go _ _ _ _ _ _ 53 [(0, rm 0)] [vi 13] (Y, (S, T)) _
            refine go_goto (off := 19) (tgt := 72) (by decide +kernel) (by decide) ?_
            obtain rfl := Option.some.inj h
            refine go_pick [0] rfl ?_
            exact key
          · refine go_icmp_ne (off := 8) (tgt := 56) (by decide +kernel) (by decide) (fun _ => ?_) (fun z => absurd z q6)
            refine go_blk rfl [(.aload_n 0, 1, 0, 0, 0, .inl 0)] 56 57 _ _ _ (by decide +kernel) ?_
            show Go _ _ _ _ _ _ 57 [(0, rm 0)] [rm 0] (Y, (S, T)) _
            obtain ⟨r12, hr12, h⟩ := bind_el h
            refine go_callV (idx := 184) (z := 0) (M' := M11_sign) (n := 0) (A := []) (v' := some (vi r12)) (μ' := (Y, (S, T))) (d' := 1) (mc' := 0) (ms' := 0) (kc' := 0) (ks' := 0) (ci := 11) (x := .inr (.inl 0)) (by decide +kernel) ml_11_184 rfl wv11_sign rfl (by decide) rfl (lm_t0 hT) (ret11_sign hT hr12) (by decide) rfl rfl (Nat.le_of_ble_eq_true rfl) rfl (jag rfl rfl) ?_
            show Go _ _ _ _ _ _ 60 [(0, rm 0)] [vi r12] (Y, (S, T)) _
            refine go_blk rfl [(.bipush 47, 2, 0, 0, 0, .inl 47)] 60 62 _ _ _ (by decide +kernel) ?_
            show Go _ _ _ _ _ _ 62 [(0, rm 0)] [vi 47, vi r12] (Y, (S, T)) _
            refine ite_el h (fun q7 h => ?_) (fun q7 h => ?_)
            · refine go_icmp_ne (off := 8) (tgt := 70) (by decide +kernel) (by decide) (fun z => absurd q7 z) (fun _ => ?_)
              refine go_blk rfl [(.bipush 14, 2, 0, 0, 0, .inl 14)] 65 67 _ _ _ (by decide +kernel) ?_
              show Go _ _ _ _ _ _ 67 [(0, rm 0)] [vi 14] (Y, (S, T)) _
              refine go_goto (off := 5) (tgt := 72) (by decide +kernel) (by decide) ?_
              obtain rfl := Option.some.inj h
              refine go_pick [0] rfl ?_
              exact key
            · refine go_icmp_ne (off := 8) (tgt := 70) (by decide +kernel) (by decide) (fun _ => ?_) (fun z => absurd z q7)
              refine go_blk rfl [(.bipush 15, 2, 0, 0, 0, .inl 15)] 70 72 _ _ _ (by decide +kernel) ?_
              show Go _ _ _ _ _ _ 72 [(0, rm 0)] [vi 15] (Y, (S, T)) _
              obtain rfl := Option.some.inj h
              refine go_pick [0] rfl ?_
              exact key
        · refine go_icmp_eq (off := 12) (tgt := 42) (by decide +kernel) (by decide) (fun z => absurd z q5) (fun _ => ?_)
          refine go_blk rfl [(.aload_n 0, 1, 0, 0, 0, .inl 0)] 33 34 _ _ _ (by decide +kernel) ?_
          show Go _ _ _ _ _ _ 34 [(0, rm 0)] [rm 0] (Y, (S, T)) _
          obtain ⟨r17, hr17, h⟩ := bind_el h
          refine go_callV (idx := 184) (z := 0) (M' := M11_sign) (n := 0) (A := []) (v' := some (vi r17)) (μ' := (Y, (S, T))) (d' := 1) (mc' := 0) (ms' := 0) (kc' := 0) (ks' := 0) (ci := 11) (x := .inr (.inl 0)) (by decide +kernel) ml_11_184 rfl wv11_sign rfl (by decide) rfl (lm_t0 hT) (ret11_sign hT hr17) (by decide) rfl rfl (Nat.le_of_ble_eq_true rfl) rfl (jag rfl rfl) ?_
          show Go _ _ _ _ _ _ 37 [(0, rm 0)] [vi r17] (Y, (S, T)) _
          refine go_blk rfl [(.bipush 37, 2, 0, 0, 0, .inl 37)] 37 39 _ _ _ (by decide +kernel) ?_
          show Go _ _ _ _ _ _ 39 [(0, rm 0)] [vi 37, vi r17] (Y, (S, T)) _
          refine ite_el h (fun q8 h => ?_) (fun q8 h => ?_)
          · refine go_icmp_ne (off := 61) (tgt := 100) (by decide +kernel) (by decide) (fun z => absurd q8 z) (fun _ => ?_)
            refine go_blk rfl [(.aload_n 0, 1, 0, 0, 0, .inl 0)] 42 43 _ _ _ (by decide +kernel) ?_
            show Go _ _ _ _ _ _ 43 [(0, rm 0)] [rm 0] (Y, (S, T)) _
            obtain ⟨r18, hr18, h⟩ := bind_el h
            refine go_callV (idx := 184) (z := 0) (M' := M11_sign) (n := 0) (A := []) (v' := some (vi r18)) (μ' := (Y, (S, T))) (d' := 1) (mc' := 0) (ms' := 0) (kc' := 0) (ks' := 0) (ci := 11) (x := .inr (.inl 0)) (by decide +kernel) ml_11_184 rfl wv11_sign rfl (by decide) rfl (lm_t0 hT) (ret11_sign hT hr18) (by decide) rfl rfl (Nat.le_of_ble_eq_true rfl) rfl (jag rfl rfl) ?_
            show Go _ _ _ _ _ _ 46 [(0, rm 0)] [vi r18] (Y, (S, T)) _
            refine go_blk rfl [(.bipush 42, 2, 0, 0, 0, .inl 42)] 46 48 _ _ _ (by decide +kernel) ?_
            show Go _ _ _ _ _ _ 48 [(0, rm 0)] [vi 42, vi r18] (Y, (S, T)) _
            obtain ⟨y20, hy20, h⟩ := bind_el h
            have key : Go M11_term 7 0 0 0 0 72 [(0, rm 0)] [vi y20] (Y, (S, T)) Q := by
              refine go_blk rfl [(.istore_n 1, 1, 1, 0, 0, .inl 0), (.aload_n 0, 1, 0, 0, 0, .inl 0), (.dup, 1, 0, 0, 0, .inl 0), (.getfield 181, 3, 11, 20, 0, .inl 0), (.iconst 1, 1, 0, 0, 0, .inl 1), (.iadd, 1, 0, 0, 0, .inl 0), (.putfield 181, 3, 11, 20, 0, .inl 0)] 72 83 _ _ _ (by decide +kernel) ?_
              refine And.intro (lm_t0 hT) ?_
              refine And.intro (lm_t0 hT) (And.intro trivial ?_)
              show Go _ _ _ _ _ _ 83 [(1, vi y20), (0, rm 0)] [] (Y, (wI S 0 20 ((S.1 0 20) + 1), T)) _
              refine go_blk rfl [(.aload_n 0, 1, 0, 0, 0, .inl 0)] 83 84 _ _ _ (by decide +kernel) ?_
              show Go _ _ _ _ _ _ 84 [(1, vi y20), (0, rm 0)] [rm 0] (Y, (wI S 0 20 ((S.1 0 20) + 1), T)) _
              obtain ⟨r21, hr21, h⟩ := bind_el h
              refine go_callV (idx := 240) (z := 0) (M' := M11_value) (n := 0) (A := []) (v' := none) (μ' := (Y, (r21.1, T))) (d' := 6) (mc' := 0) (ms' := 0) (kc' := 0) (ks' := 0) (ci := 11) (x := .inr (.inl 0)) (by decide +kernel) ml_11_240 rfl wv11_value rfl (by decide) rfl (lm_t0 hT) (ret11_value hT hr21) (by decide) rfl rfl (Nat.le_of_ble_eq_true rfl) rfl (jag rfl rfl) ?_
              show Go _ _ _ _ _ _ 87 [(1, vi y20), (0, rm 0)] [] (Y, (r21.1, T)) _
              refine go_blk rfl [(.aload_n 0, 1, 0, 0, 0, .inl 0), (.iload_n 1, 1, 1, 0, 0, .inl 0), (.iconst 0, 1, 0, 0, 0, .inl 0)] 87 90 _ _ _ (by decide +kernel) ?_
              show Go _ _ _ _ _ _ 90 [(1, vi y20), (0, rm 0)] [vi 0, vi y20, rm 0] (Y, (r21.1, T)) _
              obtain ⟨r22, hr22, h⟩ := bind_el h
              refine go_callV (idx := 233) (z := 0) (M' := M11_entry) (n := 2) (A := [vi y20, vi 0]) (v' := none) (μ' := (Y, (r22.1, T))) (d' := 1) (mc' := 0) (ms' := 0) (kc' := 0) (ks' := 0) (ci := 11) (x := .inr (.inl 0)) (by decide +kernel) ml_11_233 rfl wv11_entry rfl (by decide) rfl (lm_t0 hT) (ret11_entry hT hr22) (by decide) rfl rfl (Nat.le_of_ble_eq_true rfl) rfl (jag rfl rfl) ?_
              show Go _ _ _ _ _ _ 93 [(1, vi y20), (0, rm 0)] [] (Y, (r22.1, T)) _
              refine go_blk rfl [(.aload_n 0, 1, 0, 0, 0, .inl 0)] 93 94 _ _ _ (by decide +kernel) ?_
              show Go _ _ _ _ _ _ 94 [(1, vi y20), (0, rm 0)] [rm 0] (Y, (r22.1, T)) _
              obtain ⟨r23, hr23, h⟩ := bind_el h
              refine go_callV (idx := 201) (z := 0) (M' := M11_blanks) (n := 0) (A := []) (v' := none) (μ' := (Y, (r23.1, T))) (d' := 2) (mc' := 0) (ms' := 0) (kc' := 0) (ks' := 0) (ci := 11) (x := .inr (.inl 0)) (by decide +kernel) ml_11_201 rfl wv11_blanks rfl (by decide) rfl (lm_t0 hT) (ret11_blanks hT hr23) (by decide) rfl rfl (Nat.le_of_ble_eq_true rfl) rfl (jag rfl rfl) ?_
              show Go _ _ _ _ _ _ 97 [(1, vi y20), (0, rm 0)] [] (Y, (r23.1, T)) _
              refine go_goto (off := (-89)) (tgt := 8) (by decide +kernel) (by decide) ?_
              refine go_pick [1] rfl ?_
              exact ih _ _ h k
            replace h := hy20
            refine ite_el h (fun q9 h => ?_) (fun q9 h => ?_)
            · refine go_icmp_ne (off := 8) (tgt := 56) (by decide +kernel) (by decide) (fun z => absurd q9 z) (fun _ => ?_)
              refine go_blk rfl [(.bipush 13, 2, 0, 0, 0, .inl 13)] 51 53 _ _ _ (by decide +kernel) ?_
              show Go _ _ _ _ _ _ 53 [(0, rm 0)] [vi 13] (Y, (S, T)) _
              refine go_goto (off := 19) (tgt := 72) (by decide +kernel) (by decide) ?_
              obtain rfl := Option.some.inj h
              refine go_pick [0] rfl ?_
              exact key
            · refine go_icmp_ne (off := 8) (tgt := 56) (by decide +kernel) (by decide) (fun _ => ?_) (fun z => absurd z q9)
              refine go_blk rfl [(.aload_n 0, 1, 0, 0, 0, .inl 0)] 56 57 _ _ _ (by decide +kernel) ?_
              show Go _ _ _ _ _ _ 57 [(0, rm 0)] [rm 0] (Y, (S, T)) _
              obtain ⟨r19, hr19, h⟩ := bind_el h
              refine go_callV (idx := 184) (z := 0) (M' := M11_sign) (n := 0) (A := []) (v' := some (vi r19)) (μ' := (Y, (S, T))) (d' := 1) (mc' := 0) (ms' := 0) (kc' := 0) (ks' := 0) (ci := 11) (x := .inr (.inl 0)) (by decide +kernel) ml_11_184 rfl wv11_sign rfl (by decide) rfl (lm_t0 hT) (ret11_sign hT hr19) (by decide) rfl rfl (Nat.le_of_ble_eq_true rfl) rfl (jag rfl rfl) ?_
              show Go _ _ _ _ _ _ 60 [(0, rm 0)] [vi r19] (Y, (S, T)) _
              refine go_blk rfl [(.bipush 47, 2, 0, 0, 0, .inl 47)] 60 62 _ _ _ (by decide +kernel) ?_
              show Go _ _ _ _ _ _ 62 [(0, rm 0)] [vi 47, vi r19] (Y, (S, T)) _
              refine ite_el h (fun q10 h => ?_) (fun q10 h => ?_)
              · refine go_icmp_ne (off := 8) (tgt := 70) (by decide +kernel) (by decide) (fun z => absurd q10 z) (fun _ => ?_)
                refine go_blk rfl [(.bipush 14, 2, 0, 0, 0, .inl 14)] 65 67 _ _ _ (by decide +kernel) ?_
                show Go _ _ _ _ _ _ 67 [(0, rm 0)] [vi 14] (Y, (S, T)) _
                refine go_goto (off := 5) (tgt := 72) (by decide +kernel) (by decide) ?_
                obtain rfl := Option.some.inj h
                refine go_pick [0] rfl ?_
                exact key
              · refine go_icmp_ne (off := 8) (tgt := 70) (by decide +kernel) (by decide) (fun _ => ?_) (fun z => absurd z q10)
                refine go_blk rfl [(.bipush 15, 2, 0, 0, 0, .inl 15)] 70 72 _ _ _ (by decide +kernel) ?_
                show Go _ _ _ _ _ _ 72 [(0, rm 0)] [vi 15] (Y, (S, T)) _
                obtain rfl := Option.some.inj h
                refine go_pick [0] rfl ?_
                exact key
          · refine go_icmp_ne (off := 61) (tgt := 100) (by decide +kernel) (by decide) (fun _ => ?_) (fun z => absurd z q8)
            obtain rfl := Option.some.inj h
            refine go_pick [] rfl ?_
            exact k
    · refine go_if_ne (off := 88) (tgt := 100) (by decide +kernel) (by decide) (fun _ => ?_) (fun z => absurd z q1)
      obtain rfl := Option.some.inj h
      refine go_pick [] rfl ?_
      exact k
theorem ret11_term {S : jS} {T : jT} {Y : jS × jT} {S1 : jS} {x : Unit} (hT : LayM T) (h : f11_term S = some (S1, x)) : Ret M11_term 7 0 0 [rm 0] (Y, (S, T)) (none) (Y, (S1, T)) := by
  refine Ret.of (by decide +kernel) (Nat.le_of_ble_eq_true rfl) ?_
  unfold f11_term at h
  show Go _ _ _ _ _ _ 0 [(0, rm 0)] [] (Y, (S, T)) _
  refine go_blk rfl [(.aload_n 0, 1, 0, 0, 0, .inl 0)] 0 1 _ _ _ (by decide +kernel) ?_
  show Go _ _ _ _ _ _ 1 [(0, rm 0)] [rm 0] (Y, (S, T)) _
  obtain ⟨r1, hr1, h⟩ := bind_el h
  refine go_callV (idx := 240) (z := 0) (M' := M11_value) (n := 0) (A := []) (v' := none) (μ' := (Y, (r1.1, T))) (d' := 6) (mc' := 0) (ms' := 0) (kc' := 0) (ks' := 0) (ci := 11) (x := .inr (.inl 0)) (by decide +kernel) ml_11_240 rfl wv11_value rfl (by decide) rfl (lm_t0 hT) (ret11_value hT hr1) (by decide) rfl rfl (Nat.le_of_ble_eq_true rfl) rfl (jag rfl rfl) ?_
  show Go _ _ _ _ _ _ 4 [(0, rm 0)] [] (Y, (r1.1, T)) _
  refine go_blk rfl [(.aload_n 0, 1, 0, 0, 0, .inl 0)] 4 5 _ _ _ (by decide +kernel) ?_
  show Go _ _ _ _ _ _ 5 [(0, rm 0)] [rm 0] (Y, (r1.1, T)) _
  obtain ⟨r2, hr2, h⟩ := bind_el h
  refine go_callV (idx := 201) (z := 0) (M' := M11_blanks) (n := 0) (A := []) (v' := none) (μ' := (Y, (r2.1, T))) (d' := 2) (mc' := 0) (ms' := 0) (kc' := 0) (ks' := 0) (ci := 11) (x := .inr (.inl 0)) (by decide +kernel) ml_11_201 rfl wv11_blanks rfl (by decide) rfl (lm_t0 hT) (ret11_blanks hT hr2) (by decide) rfl rfl (Nat.le_of_ble_eq_true rfl) rfl (jag rfl rfl) ?_
  show Go _ _ _ _ _ _ 8 [(0, rm 0)] [] (Y, (r2.1, T)) _
  refine go_pick [0] rfl ?_
  obtain ⟨y24, hy24, h⟩ := bind_el h
  refine f11_term_L1_ok hT _ _ _ hy24 ?_
  show Go _ _ _ _ _ _ 100 [] [] (Y, (y24, T)) _
  obtain ⟨rfl, rfl⟩ := Prod.mk.inj (Option.some.inj h)
  exact go_return (by decide +kernel) rfl ⟨rfl, rfl⟩
def f11_sum_L1  : Nat → jS → Option jS
  | 0, _ => none
  | n + 1, S => (if (S.1 0 21) = 0 then Option.bind (f11_sign S) (fun r2 => (if r2 = 43 then Option.bind (f11_sign S) (fun r3 => Option.bind (f11_term (wI S 0 20 ((S.1 0 20) + 1))) (fun r4 => Option.bind (f11_entry r4.1 (((if r3 = 43 then 2 else 3) : Int32)) 0) (fun r5 => f11_sum_L1 n r5.1))) else Option.bind (f11_sign S) (fun r6 => (if r6 = 45 then Option.bind (f11_sign S) (fun r7 => Option.bind (f11_term (wI S 0 20 ((S.1 0 20) + 1))) (fun r8 => Option.bind (f11_entry r8.1 (((if r7 = 43 then 2 else 3) : Int32)) 0) (fun r9 => f11_sum_L1 n r9.1))) else some S)))) else some S)
def f11_sum (S : jS) : Option (jS × Unit) := Option.bind (f11_term S) (fun r1 => Option.bind (f11_sum_L1 jF r1.1) (fun y10 => some (y10, ())))
theorem f11_sum_L1_ok {T : jT} {Y : jS × jT} {Q : Option jV → jMem → Prop} (hT : LayM T) : ∀ (n : Nat) (S : jS) (r : jS), f11_sum_L1 n S = some r → Go M11_sum 8 0 0 0 0 67 [] [] (Y, (r, T)) Q → Go M11_sum 8 0 0 0 0 4 [(0, rm 0)] [] (Y, (S, T)) Q := by
  intro n
  induction n with
  | zero => intro S r h k; exact absurd h (by intro z; cases z)
  | succ n ih =>
    intro S r h k
    rw [f11_sum_L1] at h
    refine go_blk rfl [(.aload_n 0, 1, 0, 0, 0, .inl 0), (.getfield 178, 3, 11, 21, 0, .inl 0)] 4 8 _ _ _ (by decide +kernel) ?_
    refine And.intro (lm_t0 hT) ?_
    show Go _ _ _ _ _ _ 8 [(0, rm 0)] [vi (S.1 0 21)] (Y, (S, T)) _
    refine ite_el h (fun q1 h => ?_) (fun q1 h => ?_)
    · refine go_if_ne (off := 59) (tgt := 67) (by decide +kernel) (by decide) (fun z => absurd q1 z) (fun _ => ?_)
      refine go_blk rfl [(.aload_n 0, 1, 0, 0, 0, .inl 0)] 11 12 _ _ _ (by decide +kernel) ?_
      show Go _ _ _ _ _ _ 12 [(0, rm 0)] [rm 0] (Y, (S, T)) _
      obtain ⟨r2, hr2, h⟩ := bind_el h
      refine go_callV (idx := 184) (z := 0) (M' := M11_sign) (n := 0) (A := []) (v' := some (vi r2)) (μ' := (Y, (S, T))) (d' := 1) (mc' := 0) (ms' := 0) (kc' := 0) (ks' := 0) (ci := 11) (x := .inr (.inl 0)) (by decide +kernel) ml_11_184 rfl wv11_sign rfl (by decide) rfl (lm_t0 hT) (ret11_sign hT hr2) (by decide) rfl rfl (Nat.le_of_ble_eq_true rfl) rfl (jag rfl rfl) ?_
      show Go _ _ _ _ _ _ 15 [(0, rm 0)] [vi r2] (Y, (S, T)) _
      refine go_blk rfl [(.bipush 43, 2, 0, 0, 0, .inl 43)] 15 17 _ _ _ (by decide +kernel) ?_
      show Go _ _ _ _ _ _ 17 [(0, rm 0)] [vi 43, vi r2] (Y, (S, T)) _
      refine ite_el h (fun q2 h => ?_) (fun q2 h => ?_)
      · refine go_icmp_eq (off := 12) (tgt := 29) (by decide +kernel) (by decide) (fun _ => ?_) (fun z => absurd q2 z)
        refine go_blk rfl [(.aload_n 0, 1, 0, 0, 0, .inl 0)] 29 30 _ _ _ (by decide +kernel) ?_
        show Go _ _ _ _ _ _ 30 [(0, rm 0)] [rm 0] (Y, (S, T)) _
        obtain ⟨r3, hr3, h⟩ := bind_el h
        refine go_callV (idx := 184) (z := 0) (M' := M11_sign) (n := 0) (A := []) (v' := some (vi r3)) (μ' := (Y, (S, T))) (d' := 1) (mc' := 0) (ms' := 0) (kc' := 0) (ks' := 0) (ci := 11) (x := .inr (.inl 0)) (by decide +kernel) ml_11_184 rfl wv11_sign rfl (by decide) rfl (lm_t0 hT) (ret11_sign hT hr3) (by decide) rfl rfl (Nat.le_of_ble_eq_true rfl) rfl (jag rfl rfl) ?_
        show Go _ _ _ _ _ _ 33 [(0, rm 0)] [vi r3] (Y, (S, T)) _
        refine go_blk rfl [(.bipush 43, 2, 0, 0, 0, .inl 43)] 33 35 _ _ _ (by decide +kernel) ?_
        show Go _ _ _ _ _ _ 35 [(0, rm 0)] [vi 43, vi r3] (Y, (S, T)) _
        have key : ∀ z0 : Int32, z0 = ((if r3 = 43 then 2 else 3) : Int32) → Go M11_sum 8 0 0 0 0 43 [(0, rm 0)] [vi z0] (Y, (S, T)) Q := by
          intro z0 ez0
          subst ez0
          refine go_blk rfl [(.istore_n 1, 1, 1, 0, 0, .inl 0), (.aload_n 0, 1, 0, 0, 0, .inl 0), (.dup, 1, 0, 0, 0, .inl 0), (.getfield 181, 3, 11, 20, 0, .inl 0), (.iconst 1, 1, 0, 0, 0, .inl 1), (.iadd, 1, 0, 0, 0, .inl 0), (.putfield 181, 3, 11, 20, 0, .inl 0)] 43 54 _ _ _ (by decide +kernel) ?_
          refine And.intro (lm_t0 hT) ?_
          refine And.intro (lm_t0 hT) (And.intro trivial ?_)
          show Go _ _ _ _ _ _ 54 [(1, vi (((if r3 = 43 then 2 else 3) : Int32))), (0, rm 0)] [] (Y, (wI S 0 20 ((S.1 0 20) + 1), T)) _
          refine go_blk rfl [(.aload_n 0, 1, 0, 0, 0, .inl 0)] 54 55 _ _ _ (by decide +kernel) ?_
          show Go _ _ _ _ _ _ 55 [(1, vi (((if r3 = 43 then 2 else 3) : Int32))), (0, rm 0)] [rm 0] (Y, (wI S 0 20 ((S.1 0 20) + 1), T)) _
          obtain ⟨r4, hr4, h⟩ := bind_el h
          refine go_callV (idx := 243) (z := 0) (M' := M11_term) (n := 0) (A := []) (v' := none) (μ' := (Y, (r4.1, T))) (d' := 7) (mc' := 0) (ms' := 0) (kc' := 0) (ks' := 0) (ci := 11) (x := .inr (.inl 0)) (by decide +kernel) ml_11_243 rfl wv11_term rfl (by decide) rfl (lm_t0 hT) (ret11_term hT hr4) (by decide) rfl rfl (Nat.le_of_ble_eq_true rfl) rfl (jag rfl rfl) ?_
          show Go _ _ _ _ _ _ 58 [(1, vi (((if r3 = 43 then 2 else 3) : Int32))), (0, rm 0)] [] (Y, (r4.1, T)) _
          refine go_blk rfl [(.aload_n 0, 1, 0, 0, 0, .inl 0), (.iload_n 1, 1, 1, 0, 0, .inl 0), (.iconst 0, 1, 0, 0, 0, .inl 0)] 58 61 _ _ _ (by decide +kernel) ?_
          show Go _ _ _ _ _ _ 61 [(1, vi (((if r3 = 43 then 2 else 3) : Int32))), (0, rm 0)] [vi 0, vi (((if r3 = 43 then 2 else 3) : Int32)), rm 0] (Y, (r4.1, T)) _
          obtain ⟨r5, hr5, h⟩ := bind_el h
          refine go_callV (idx := 233) (z := 0) (M' := M11_entry) (n := 2) (A := [vi (((if r3 = 43 then 2 else 3) : Int32)), vi 0]) (v' := none) (μ' := (Y, (r5.1, T))) (d' := 1) (mc' := 0) (ms' := 0) (kc' := 0) (ks' := 0) (ci := 11) (x := .inr (.inl 0)) (by decide +kernel) ml_11_233 rfl wv11_entry rfl (by decide) rfl (lm_t0 hT) (ret11_entry hT hr5) (by decide) rfl rfl (Nat.le_of_ble_eq_true rfl) rfl (jag rfl rfl) ?_
          show Go _ _ _ _ _ _ 64 [(1, vi (((if r3 = 43 then 2 else 3) : Int32))), (0, rm 0)] [] (Y, (r5.1, T)) _
          refine go_goto (off := (-60)) (tgt := 4) (by decide +kernel) (by decide) ?_
          refine go_pick [1] rfl ?_
          exact ih _ _ h k
        clear h
        by_cases q3 : r3 = 43
        · refine go_icmp_ne (off := 7) (tgt := 42) (by decide +kernel) (by decide) (fun z => absurd q3 z) (fun _ => ?_)
          refine go_blk rfl [(.iconst 2, 1, 0, 0, 0, .inl 2)] 38 39 _ _ _ (by decide +kernel) ?_
          show Go _ _ _ _ _ _ 39 [(0, rm 0)] [vi 2] (Y, (S, T)) _
          refine go_goto (off := 4) (tgt := 43) (by decide +kernel) (by decide) ?_
          refine go_pick [0] rfl ?_; exact key _ (by rw [if_pos q3])
        · refine go_icmp_ne (off := 7) (tgt := 42) (by decide +kernel) (by decide) (fun _ => ?_) (fun z => absurd z q3)
          refine go_blk rfl [(.iconst 3, 1, 0, 0, 0, .inl 3)] 42 43 _ _ _ (by decide +kernel) ?_
          show Go _ _ _ _ _ _ 43 [(0, rm 0)] [vi 3] (Y, (S, T)) _
          refine go_pick [0] rfl ?_; exact key _ (by rw [if_neg q3])
      · refine go_icmp_eq (off := 12) (tgt := 29) (by decide +kernel) (by decide) (fun z => absurd z q2) (fun _ => ?_)
        refine go_blk rfl [(.aload_n 0, 1, 0, 0, 0, .inl 0)] 20 21 _ _ _ (by decide +kernel) ?_
        show Go _ _ _ _ _ _ 21 [(0, rm 0)] [rm 0] (Y, (S, T)) _
        obtain ⟨r6, hr6, h⟩ := bind_el h
        refine go_callV (idx := 184) (z := 0) (M' := M11_sign) (n := 0) (A := []) (v' := some (vi r6)) (μ' := (Y, (S, T))) (d' := 1) (mc' := 0) (ms' := 0) (kc' := 0) (ks' := 0) (ci := 11) (x := .inr (.inl 0)) (by decide +kernel) ml_11_184 rfl wv11_sign rfl (by decide) rfl (lm_t0 hT) (ret11_sign hT hr6) (by decide) rfl rfl (Nat.le_of_ble_eq_true rfl) rfl (jag rfl rfl) ?_
        show Go _ _ _ _ _ _ 24 [(0, rm 0)] [vi r6] (Y, (S, T)) _
        refine go_blk rfl [(.bipush 45, 2, 0, 0, 0, .inl 45)] 24 26 _ _ _ (by decide +kernel) ?_
        show Go _ _ _ _ _ _ 26 [(0, rm 0)] [vi 45, vi r6] (Y, (S, T)) _
        refine ite_el h (fun q4 h => ?_) (fun q4 h => ?_)
        · refine go_icmp_ne (off := 41) (tgt := 67) (by decide +kernel) (by decide) (fun z => absurd q4 z) (fun _ => ?_)
          refine go_blk rfl [(.aload_n 0, 1, 0, 0, 0, .inl 0)] 29 30 _ _ _ (by decide +kernel) ?_
          show Go _ _ _ _ _ _ 30 [(0, rm 0)] [rm 0] (Y, (S, T)) _
          obtain ⟨r7, hr7, h⟩ := bind_el h
          refine go_callV (idx := 184) (z := 0) (M' := M11_sign) (n := 0) (A := []) (v' := some (vi r7)) (μ' := (Y, (S, T))) (d' := 1) (mc' := 0) (ms' := 0) (kc' := 0) (ks' := 0) (ci := 11) (x := .inr (.inl 0)) (by decide +kernel) ml_11_184 rfl wv11_sign rfl (by decide) rfl (lm_t0 hT) (ret11_sign hT hr7) (by decide) rfl rfl (Nat.le_of_ble_eq_true rfl) rfl (jag rfl rfl) ?_
          show Go _ _ _ _ _ _ 33 [(0, rm 0)] [vi r7] (Y, (S, T)) _
          refine go_blk rfl [(.bipush 43, 2, 0, 0, 0, .inl 43)] 33 35 _ _ _ (by decide +kernel) ?_
          show Go _ _ _ _ _ _ 35 [(0, rm 0)] [vi 43, vi r7] (Y, (S, T)) _
          have key : ∀ z0 : Int32, z0 = ((if r7 = 43 then 2 else 3) : Int32) → Go M11_sum 8 0 0 0 0 43 [(0, rm 0)] [vi z0] (Y, (S, T)) Q := by
            intro z0 ez0
            subst ez0
            refine go_blk rfl [(.istore_n 1, 1, 1, 0, 0, .inl 0), (.aload_n 0, 1, 0, 0, 0, .inl 0), (.dup, 1, 0, 0, 0, .inl 0), (.getfield 181, 3, 11, 20, 0, .inl 0), (.iconst 1, 1, 0, 0, 0, .inl 1), (.iadd, 1, 0, 0, 0, .inl 0), (.putfield 181, 3, 11, 20, 0, .inl 0)] 43 54 _ _ _ (by decide +kernel) ?_
            refine And.intro (lm_t0 hT) ?_
            refine And.intro (lm_t0 hT) (And.intro trivial ?_)
            show Go _ _ _ _ _ _ 54 [(1, vi (((if r7 = 43 then 2 else 3) : Int32))), (0, rm 0)] [] (Y, (wI S 0 20 ((S.1 0 20) + 1), T)) _
            refine go_blk rfl [(.aload_n 0, 1, 0, 0, 0, .inl 0)] 54 55 _ _ _ (by decide +kernel) ?_
            show Go _ _ _ _ _ _ 55 [(1, vi (((if r7 = 43 then 2 else 3) : Int32))), (0, rm 0)] [rm 0] (Y, (wI S 0 20 ((S.1 0 20) + 1), T)) _
            obtain ⟨r8, hr8, h⟩ := bind_el h
            refine go_callV (idx := 243) (z := 0) (M' := M11_term) (n := 0) (A := []) (v' := none) (μ' := (Y, (r8.1, T))) (d' := 7) (mc' := 0) (ms' := 0) (kc' := 0) (ks' := 0) (ci := 11) (x := .inr (.inl 0)) (by decide +kernel) ml_11_243 rfl wv11_term rfl (by decide) rfl (lm_t0 hT) (ret11_term hT hr8) (by decide) rfl rfl (Nat.le_of_ble_eq_true rfl) rfl (jag rfl rfl) ?_
            show Go _ _ _ _ _ _ 58 [(1, vi (((if r7 = 43 then 2 else 3) : Int32))), (0, rm 0)] [] (Y, (r8.1, T)) _
            refine go_blk rfl [(.aload_n 0, 1, 0, 0, 0, .inl 0), (.iload_n 1, 1, 1, 0, 0, .inl 0), (.iconst 0, 1, 0, 0, 0, .inl 0)] 58 61 _ _ _ (by decide +kernel) ?_
            show Go _ _ _ _ _ _ 61 [(1, vi (((if r7 = 43 then 2 else 3) : Int32))), (0, rm 0)] [vi 0, vi (((if r7 = 43 then 2 else 3) : Int32)), rm 0] (Y, (r8.1, T)) _
            obtain ⟨r9, hr9, h⟩ := bind_el h
            refine go_callV (idx := 233) (z := 0) (M' := M11_entry) (n := 2) (A := [vi (((if r7 = 43 then 2 else 3) : Int32)), vi 0]) (v' := none) (μ' := (Y, (r9.1, T))) (d' := 1) (mc' := 0) (ms' := 0) (kc' := 0) (ks' := 0) (ci := 11) (x := .inr (.inl 0)) (by decide +kernel) ml_11_233 rfl wv11_entry rfl (by decide) rfl (lm_t0 hT) (ret11_entry hT hr9) (by decide) rfl rfl (Nat.le_of_ble_eq_true rfl) rfl (jag rfl rfl) ?_
            show Go _ _ _ _ _ _ 64 [(1, vi (((if r7 = 43 then 2 else 3) : Int32))), (0, rm 0)] [] (Y, (r9.1, T)) _
            refine go_goto (off := (-60)) (tgt := 4) (by decide +kernel) (by decide) ?_
            refine go_pick [1] rfl ?_
            exact ih _ _ h k
          clear h
          by_cases q5 : r7 = 43
          · refine go_icmp_ne (off := 7) (tgt := 42) (by decide +kernel) (by decide) (fun z => absurd q5 z) (fun _ => ?_)
            refine go_blk rfl [(.iconst 2, 1, 0, 0, 0, .inl 2)] 38 39 _ _ _ (by decide +kernel) ?_
            show Go _ _ _ _ _ _ 39 [(0, rm 0)] [vi 2] (Y, (S, T)) _
            refine go_goto (off := 4) (tgt := 43) (by decide +kernel) (by decide) ?_
            refine go_pick [0] rfl ?_; exact key _ (by rw [if_pos q5])
          · refine go_icmp_ne (off := 7) (tgt := 42) (by decide +kernel) (by decide) (fun _ => ?_) (fun z => absurd z q5)
            refine go_blk rfl [(.iconst 3, 1, 0, 0, 0, .inl 3)] 42 43 _ _ _ (by decide +kernel) ?_
            show Go _ _ _ _ _ _ 43 [(0, rm 0)] [vi 3] (Y, (S, T)) _
            refine go_pick [0] rfl ?_; exact key _ (by rw [if_neg q5])
        · refine go_icmp_ne (off := 41) (tgt := 67) (by decide +kernel) (by decide) (fun _ => ?_) (fun z => absurd z q4)
          obtain rfl := Option.some.inj h
          refine go_pick [] rfl ?_
          exact k
    · refine go_if_ne (off := 59) (tgt := 67) (by decide +kernel) (by decide) (fun _ => ?_) (fun z => absurd z q1)
      obtain rfl := Option.some.inj h
      refine go_pick [] rfl ?_
      exact k
theorem ret11_sum {S : jS} {T : jT} {Y : jS × jT} {S1 : jS} {x : Unit} (hT : LayM T) (h : f11_sum S = some (S1, x)) : Ret M11_sum 8 0 0 [rm 0] (Y, (S, T)) (none) (Y, (S1, T)) := by
  refine Ret.of (by decide +kernel) (Nat.le_of_ble_eq_true rfl) ?_
  unfold f11_sum at h
  show Go _ _ _ _ _ _ 0 [(0, rm 0)] [] (Y, (S, T)) _
  refine go_blk rfl [(.aload_n 0, 1, 0, 0, 0, .inl 0)] 0 1 _ _ _ (by decide +kernel) ?_
  show Go _ _ _ _ _ _ 1 [(0, rm 0)] [rm 0] (Y, (S, T)) _
  obtain ⟨r1, hr1, h⟩ := bind_el h
  refine go_callV (idx := 243) (z := 0) (M' := M11_term) (n := 0) (A := []) (v' := none) (μ' := (Y, (r1.1, T))) (d' := 7) (mc' := 0) (ms' := 0) (kc' := 0) (ks' := 0) (ci := 11) (x := .inr (.inl 0)) (by decide +kernel) ml_11_243 rfl wv11_term rfl (by decide) rfl (lm_t0 hT) (ret11_term hT hr1) (by decide) rfl rfl (Nat.le_of_ble_eq_true rfl) rfl (jag rfl rfl) ?_
  show Go _ _ _ _ _ _ 4 [(0, rm 0)] [] (Y, (r1.1, T)) _
  refine go_pick [0] rfl ?_
  obtain ⟨y10, hy10, h⟩ := bind_el h
  refine f11_sum_L1_ok hT _ _ _ hy10 ?_
  show Go _ _ _ _ _ _ 67 [] [] (Y, (y10, T)) _
  obtain ⟨rfl, rfl⟩ := Prod.mk.inj (Option.some.inj h)
  exact go_return (by decide +kernel) rfl ⟨rfl, rfl⟩
