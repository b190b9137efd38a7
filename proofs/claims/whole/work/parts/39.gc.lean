def f10_isAsked (a0 : Int32) : Option Int32 := (if a0 < 1 then some 0 else (if 20 < a0 then some 0 else some 1))
theorem ret10_isAsked {μ : jMem} {a0 : Int32} {x : Int32} (h : f10_isAsked a0 = some x) : Ret M10_isAsked 1 0 0 [vi a0] μ (some (vi x)) μ := by
  refine Ret.of (by decide +kernel) (Nat.le_of_ble_eq_true rfl) ?_
  unfold f10_isAsked at h
  show Go _ _ _ _ _ _ 0 [(0, vi a0)] [] μ _
  refine go_blk rfl [(.iload_n 0, 1, 0, 0, 0, .inl 0), (.iconst 1, 1, 0, 0, 0, .inl 1)] 0 2 _ _ _ (by decide +kernel) ?_
  show Go _ _ _ _ _ _ 2 [(0, vi a0)] [vi 1, vi a0] μ _
  refine ite_el h (fun q1 h => ?_) (fun q1 h => ?_)
  · refine go_icmp_lt (off := 13) (tgt := 15) (by decide +kernel) (by decide) (fun _ => ?_) (fun z => absurd q1 z)
    refine go_blk rfl [(.iconst 0, 1, 0, 0, 0, .inl 0)] 15 16 _ _ _ (by decide +kernel) ?_
    show Go _ _ _ _ _ _ 16 [(0, vi a0)] [vi 0] μ _
    obtain rfl := Option.some.inj h
    exact go_ireturn (by decide +kernel) rfl rfl ⟨rfl, rfl⟩
  · refine go_icmp_lt (off := 13) (tgt := 15) (by decide +kernel) (by decide) (fun z => absurd z q1) (fun _ => ?_)
    refine go_blk rfl [(.iload_n 0, 1, 0, 0, 0, .inl 0), (.bipush 20, 2, 0, 0, 0, .inl 20)] 5 8 _ _ _ (by decide +kernel) ?_
    show Go _ _ _ _ _ _ 8 [(0, vi a0)] [vi 20, vi a0] μ _
    refine ite_el h (fun q2 h => ?_) (fun q2 h => ?_)
    · refine go_icmp_gt (off := 7) (tgt := 15) (by decide +kernel) (by decide) (fun _ => ?_) (fun z => absurd q2 z)
      refine go_blk rfl [(.iconst 0, 1, 0, 0, 0, .inl 0)] 15 16 _ _ _ (by decide +kernel) ?_
      show Go _ _ _ _ _ _ 16 [(0, vi a0)] [vi 0] μ _
      obtain rfl := Option.some.inj h
      exact go_ireturn (by decide +kernel) rfl rfl ⟨rfl, rfl⟩
    · refine go_icmp_gt (off := 7) (tgt := 15) (by decide +kernel) (by decide) (fun z => absurd z q2) (fun _ => ?_)
      refine go_blk rfl [(.iconst 1, 1, 0, 0, 0, .inl 1)] 11 12 _ _ _ (by decide +kernel) ?_
      show Go _ _ _ _ _ _ 12 [(0, vi a0)] [vi 1] μ _
      refine go_goto (off := 4) (tgt := 16) (by decide +kernel) (by decide) ?_
      obtain rfl := Option.some.inj h
      exact go_ireturn (by decide +kernel) rfl rfl ⟨rfl, rfl⟩
def f10_away (T : jT) (S : jS) (a0 : Int32) (a1 : Int32) (a2 : Int32) : Option (jS × Int32) := Option.bind (f4_isIn S (100 + 8) a0) (fun r1 => (if r1 = 0 then some (S, (-2)) else Option.bind (f10_isAsked a1) (fun r2 => (if r2 = 0 then some (S, (-2)) else (if a2 < 0 then some (S, (-2)) else (if a2 ≤ 1 then Option.bind (f10_ruleInForce T S) (fun r3 => Option.bind (f2_chooseChair T S (100 + 8) r3 a0 a1) (fun r4 => (if a2 = 0 then some (r4.1, r4.1.1 20 8) else some (r4.1, r4.1.1 20 9)))) else some (S, (-2))))))))
theorem ret10_away {S : jS} {T : jT} {Y : jS × jT} {a0 : Int32} {a1 : Int32} {a2 : Int32} {S1 : jS} {x : Int32} (hT : LayC T) (h : f10_away T S a0 a1 a2 = some (S1, x)) : Ret M10_away 8 0 0 [rc 0, vi a0, vi a1, vi a2] ((S, T), Y) (some (vi x)) ((S1, T), Y) := by
  refine Ret.of (by decide +kernel) (Nat.le_of_ble_eq_true rfl) ?_
  unfold f10_away at h
  show Go _ _ _ _ _ _ 0 [(0, rc 0), (1, vi a0), (2, vi a1), (3, vi a2)] [] ((S, T), Y) _
  refine go_blk rfl [(.aload_n 0, 1, 0, 0, 0, .inl 0), (.getfield 45, 3, 10, 5, 1, .inl 0), (.getfield 102, 3, 0, 1, 1, .inl 0), (.iload_n 1, 1, 1, 0, 0, .inl 0)] 0 8 _ _ _ (by decide +kernel) ?_
  refine And.intro (lc_t0 hT) (Exists.intro _ (And.intro (gRc (lc_r10_5 hT)) ?_))
  refine And.intro (lc_b100 hT).1 (Exists.intro _ (And.intro (gRc (lc_b100 hT).2.2.1.1) ?_))
  show Go _ _ _ _ _ _ 8 [(0, rc 0), (1, vi a0), (2, vi a1), (3, vi a2)] [vi a0, rc (100 + 8)] ((S, T), Y) _
  obtain ⟨r1, hr1, h⟩ := bind_el h
  refine go_callV (idx := 211) (z := 1) (M' := M4_isIn) (n := 1) (A := [vi a0]) (v' := some (vi r1)) (μ' := ((S, T), Y)) (d' := 2) (mc' := 0) (ms' := 0) (kc' := 0) (ks' := 0) (ci := 4) (x := .inl (100 + 8)) (by decide +kernel) ml_10_211 rfl wv4_isIn rfl (by decide) rfl ((lc_b100 hT).2.2.1.2).1 (ret4_isIn ((lc_b100 hT).2.2.1.2) hr1) (by decide) rfl rfl (Nat.le_of_ble_eq_true rfl) rfl (jag rfl rfl) ?_
  show Go _ _ _ _ _ _ 11 [(0, rc 0), (1, vi a0), (2, vi a1), (3, vi a2)] [vi r1] ((S, T), Y) _
  refine ite_el h (fun q1 h => ?_) (fun q1 h => ?_)
  · refine go_if_eq (off := 19) (tgt := 30) (by decide +kernel) (by decide) (fun _ => ?_) (fun z => absurd q1 z)
    refine go_blk rfl [(.bipush (-2), 2, 0, 0, 0, .inl (-2))] 30 32 _ _ _ (by decide +kernel) ?_
    show Go _ _ _ _ _ _ 32 [(0, rc 0), (1, vi a0), (2, vi a1), (3, vi a2)] [vi ((-2))] ((S, T), Y) _
    obtain ⟨rfl, rfl⟩ := Prod.mk.inj (Option.some.inj h)
    exact go_ireturn (by decide +kernel) rfl rfl ⟨rfl, rfl⟩
  · refine go_if_eq (off := 19) (tgt := 30) (by decide +kernel) (by decide) (fun z => absurd z q1) (fun _ => ?_)
    refine go_blk rfl [(.iload_n 2, 1, 2, 0, 0, .inl 0)] 14 15 _ _ _ (by decide +kernel) ?_
    show Go _ _ _ _ _ _ 15 [(0, rc 0), (1, vi a0), (2, vi a1), (3, vi a2)] [vi a1] ((S, T), Y) _
    obtain ⟨r2, hr2, h⟩ := bind_el h
    refine go_callS (idx := 247) (z := 0) (M' := M10_isAsked) (n := 1) (A := [vi a1]) (v' := some (vi r2)) (μ' := ((S, T), Y)) (d' := 1) (mc' := 0) (ms' := 0) (kc' := 0) (ks' := 0) (by decide +kernel) ml_10_247 rfl ws10_isAsked rfl (ret10_isAsked hr2) (by decide) rfl rfl (Nat.le_of_ble_eq_true rfl) rfl (jag rfl rfl) ?_
    show Go _ _ _ _ _ _ 18 [(0, rc 0), (1, vi a0), (2, vi a1), (3, vi a2)] [vi r2] ((S, T), Y) _
    refine ite_el h (fun q2 h => ?_) (fun q2 h => ?_)
    · refine go_if_eq (off := 12) (tgt := 30) (by decide +kernel) (by decide) (fun _ => ?_) (fun z => absurd q2 z)
      refine go_blk rfl [(.bipush (-2), 2, 0, 0, 0, .inl (-2))] 30 32 _ _ _ (by decide +kernel) ?_
      show Go _ _ _ _ _ _ 32 [(0, rc 0), (1, vi a0), (2, vi a1), (3, vi a2)] [vi ((-2))] ((S, T), Y) _
      obtain ⟨rfl, rfl⟩ := Prod.mk.inj (Option.some.inj h)
      exact go_ireturn (by decide +kernel) rfl rfl ⟨rfl, rfl⟩
    · refine go_if_eq (off := 12) (tgt := 30) (by decide +kernel) (by decide) (fun z => absurd z q2) (fun _ => ?_)
      refine go_blk rfl [(.iload_n 3, 1, 3, 0, 0, .inl 0)] 21 22 _ _ _ (by decide +kernel) ?_
      show Go _ _ _ _ _ _ 22 [(0, rc 0), (1, vi a0), (2, vi a1), (3, vi a2)] [vi a2] ((S, T), Y) _
      refine ite_el h (fun q3 h => ?_) (fun q3 h => ?_)
      · refine go_if_lt (off := 8) (tgt := 30) (by decide +kernel) (by decide) (fun _ => ?_) (fun z => absurd q3 z)
        refine go_blk rfl [(.bipush (-2), 2, 0, 0, 0, .inl (-2))] 30 32 _ _ _ (by decide +kernel) ?_
        show Go _ _ _ _ _ _ 32 [(0, rc 0), (1, vi a0), (2, vi a1), (3, vi a2)] [vi ((-2))] ((S, T), Y) _
        obtain ⟨rfl, rfl⟩ := Prod.mk.inj (Option.some.inj h)
        exact go_ireturn (by decide +kernel) rfl rfl ⟨rfl, rfl⟩
      · refine go_if_lt (off := 8) (tgt := 30) (by decide +kernel) (by decide) (fun z => absurd z q3) (fun _ => ?_)
        refine go_blk rfl [(.iload_n 3, 1, 3, 0, 0, .inl 0), (.iconst 1, 1, 0, 0, 0, .inl 1)] 25 27 _ _ _ (by decide +kernel) ?_
        show Go _ _ _ _ _ _ 27 [(0, rc 0), (1, vi a0), (2, vi a1), (3, vi a2)] [vi 1, vi a2] ((S, T), Y) _
        refine ite_el h (fun q4 h => ?_) (fun q4 h => ?_)
        · refine go_icmp_le (off := 6) (tgt := 33) (by decide +kernel) (by decide) (fun _ => ?_) (fun z => absurd q4 z)
          refine go_blk rfl [(.aload_n 0, 1, 0, 0, 0, .inl 0), (.getfield 65, 3, 10, 8, 1, .inl 0), (.aload_n 0, 1, 0, 0, 0, .inl 0), (.getfield 45, 3, 10, 5, 1, .inl 0), (.getfield 102, 3, 0, 1, 1, .inl 0), (.aload_n 0, 1, 0, 0, 0, .inl 0)] 33 45 _ _ _ (by decide +kernel) ?_
          refine And.intro (lc_t0 hT) (Exists.intro _ (And.intro (gRc (lc_r10_8 hT)) ?_))
          refine And.intro (lc_t0 hT) (Exists.intro _ (And.intro (gRc (lc_r10_5 hT)) ?_))
          refine And.intro (lc_b100 hT).1 (Exists.intro _ (And.intro (gRc (lc_b100 hT).2.2.1.1) ?_))
          show Go _ _ _ _ _ _ 45 [(0, rc 0), (1, vi a0), (2, vi a1), (3, vi a2)] [rc 0, rc (100 + 8), rc 20] ((S, T), Y) _
          obtain ⟨r3, hr3, h⟩ := bind_el h
          refine go_callV (idx := 164) (z := 0) (M' := M10_ruleInForce) (n := 0) (A := []) (v' := some (vo r3)) (μ' := ((S, T), Y)) (d' := 2) (mc' := 0) (ms' := 0) (kc' := 0) (ks' := 0) (ci := 10) (x := .inl 0) (by decide +kernel) ml_10_164 rfl wv10_ruleInForce rfl (by decide) rfl (lc_t0 hT) (ret10_ruleInForce hT hr3) (by decide) rfl rfl (Nat.le_of_ble_eq_true rfl) rfl (jag rfl rfl) ?_
          show Go _ _ _ _ _ _ 48 [(0, rc 0), (1, vi a0), (2, vi a1), (3, vi a2)] [vo r3, rc (100 + 8), rc 20] ((S, T), Y) _
          refine go_blk rfl [(.iload_n 1, 1, 1, 0, 0, .inl 0), (.iload_n 2, 1, 2, 0, 0, .inl 0)] 48 50 _ _ _ (by decide +kernel) ?_
          show Go _ _ _ _ _ _ 50 [(0, rc 0), (1, vi a0), (2, vi a1), (3, vi a2)] [vi a1, vi a0, vo r3, rc (100 + 8), rc 20] ((S, T), Y) _
          obtain ⟨r4, hr4, h⟩ := bind_el h
          refine go_callV (idx := 250) (z := 1) (M' := M2_chooseChair) (n := 4) (A := [rc (100 + 8), vo r3, vi a0, vi a1]) (v' := none) (μ' := ((r4.1, T), Y)) (d' := 7) (mc' := 0) (ms' := 0) (kc' := 0) (ks' := 0) (ci := 2) (x := .inl 20) (by decide +kernel) ml_10_250 rfl wv2_chooseChair rfl (by decide) rfl (lc_t20 hT) (ret2_chooseChair hT ((lc_b100 hT).2.2.1.2) (f10_ruleInForce_lay hT hr3) hr4) (by decide) rfl rfl (Nat.le_of_ble_eq_true rfl) rfl (jag rfl rfl) ?_
          show Go _ _ _ _ _ _ 53 [(0, rc 0), (1, vi a0), (2, vi a1), (3, vi a2)] [] ((r4.1, T), Y) _
          refine go_blk rfl [(.iload_n 3, 1, 3, 0, 0, .inl 0)] 53 54 _ _ _ (by decide +kernel) ?_
          show Go _ _ _ _ _ _ 54 [(0, rc 0), (1, vi a0), (2, vi a1), (3, vi a2)] [vi a2] ((r4.1, T), Y) _
          refine ite_el h (fun q5 h => ?_) (fun q5 h => ?_)
          · refine go_if_ne (off := 13) (tgt := 67) (by decide +kernel) (by decide) (fun z => absurd q5 z) (fun _ => ?_)
            refine go_blk rfl [(.aload_n 0, 1, 0, 0, 0, .inl 0), (.getfield 65, 3, 10, 8, 1, .inl 0), (.getfield 254, 3, 2, 8, 0, .inl 0)] 57 64 _ _ _ (by decide +kernel) ?_
            refine And.intro (lc_t0 hT) (Exists.intro _ (And.intro (gRc (lc_r10_8 hT)) ?_))
            refine And.intro (lc_t20 hT) ?_
            show Go _ _ _ _ _ _ 64 [(0, rc 0), (1, vi a0), (2, vi a1), (3, vi a2)] [vi (r4.1.1 20 8)] ((r4.1, T), Y) _
            refine go_goto (off := 10) (tgt := 74) (by decide +kernel) (by decide) ?_
            obtain ⟨rfl, rfl⟩ := Prod.mk.inj (Option.some.inj h)
            exact go_ireturn (by decide +kernel) rfl rfl ⟨rfl, rfl⟩
          · refine go_if_ne (off := 13) (tgt := 67) (by decide +kernel) (by decide) (fun _ => ?_) (fun z => absurd z q5)
            refine go_blk rfl [(.aload_n 0, 1, 0, 0, 0, .inl 0), (.getfield 65, 3, 10, 8, 1, .inl 0), (.getfield 257, 3, 2, 9, 0, .inl 0)] 67 74 _ _ _ (by decide +kernel) ?_
            refine And.intro (lc_t0 hT) (Exists.intro _ (And.intro (gRc (lc_r10_8 hT)) ?_))
            refine And.intro (lc_t20 hT) ?_
            show Go _ _ _ _ _ _ 74 [(0, rc 0), (1, vi a0), (2, vi a1), (3, vi a2)] [vi (r4.1.1 20 9)] ((r4.1, T), Y) _
            obtain ⟨rfl, rfl⟩ := Prod.mk.inj (Option.some.inj h)
            exact go_ireturn (by decide +kernel) rfl rfl ⟨rfl, rfl⟩
        · refine go_icmp_le (off := 6) (tgt := 33) (by decide +kernel) (by decide) (fun z => absurd z q4) (fun _ => ?_)
          refine go_blk rfl [(.bipush (-2), 2, 0, 0, 0, .inl (-2))] 30 32 _ _ _ (by decide +kernel) ?_
          show Go _ _ _ _ _ _ 32 [(0, rc 0), (1, vi a0), (2, vi a1), (3, vi a2)] [vi ((-2))] ((S, T), Y) _
          obtain ⟨rfl, rfl⟩ := Prod.mk.inj (Option.some.inj h)
          exact go_ireturn (by decide +kernel) rfl rfl ⟨rfl, rfl⟩
def f10_begin (T : jT) (S : jS) (a0 : Int32) (a1 : Int32) (a2 : Int32) : Option (jS × Int32) := Option.bind (f4_isIn S (100 + 8) a0) (fun r1 => (if r1 = 0 then some (S, (-1)) else Option.bind (f10_isAsked a1) (fun r2 => (if r2 = 0 then some (S, (-1)) else (if a2 < 0 then some (S, (-1)) else (if a2 ≤ 1 then Option.bind (f10_ruleInForce T S) (fun r3 => Option.bind (f2_choosePlace T S (100 + 8) r3 a0 a1) (fun r4 => (if a2 = 0 then some (r4.1, r4.1.1 20 8) else some (r4.1, r4.1.1 20 9)))) else some (S, (-1))))))))
theorem ret10_begin {S : jS} {T : jT} {Y : jS × jT} {a0 : Int32} {a1 : Int32} {a2 : Int32} {S1 : jS} {x : Int32} (hT : LayC T) (h : f10_begin T S a0 a1 a2 = some (S1, x)) : Ret M10_begin 8 0 0 [rc 0, vi a0, vi a1, vi a2] ((S, T), Y) (some (vi x)) ((S1, T), Y) := by
  refine Ret.of (by decide +kernel) (Nat.le_of_ble_eq_true rfl) ?_
  unfold f10_begin at h
  show Go _ _ _ _ _ _ 0 [(0, rc 0), (1, vi a0), (2, vi a1), (3, vi a2)] [] ((S, T), Y) _
  refine go_blk rfl [(.aload_n 0, 1, 0, 0, 0, .inl 0), (.getfield 45, 3, 10, 5, 1, .inl 0), (.getfield 102, 3, 0, 1, 1, .inl 0), (.iload_n 1, 1, 1, 0, 0, .inl 0)] 0 8 _ _ _ (by decide +kernel) ?_
  refine And.intro (lc_t0 hT) (Exists.intro _ (And.intro (gRc (lc_r10_5 hT)) ?_))
  refine And.intro (lc_b100 hT).1 (Exists.intro _ (And.intro (gRc (lc_b100 hT).2.2.1.1) ?_))
  show Go _ _ _ _ _ _ 8 [(0, rc 0), (1, vi a0), (2, vi a1), (3, vi a2)] [vi a0, rc (100 + 8)] ((S, T), Y) _
  obtain ⟨r1, hr1, h⟩ := bind_el h
  refine go_callV (idx := 211) (z := 1) (M' := M4_isIn) (n := 1) (A := [vi a0]) (v' := some (vi r1)) (μ' := ((S, T), Y)) (d' := 2) (mc' := 0) (ms' := 0) (kc' := 0) (ks' := 0) (ci := 4) (x := .inl (100 + 8)) (by decide +kernel) ml_10_211 rfl wv4_isIn rfl (by decide) rfl ((lc_b100 hT).2.2.1.2).1 (ret4_isIn ((lc_b100 hT).2.2.1.2) hr1) (by decide) rfl rfl (Nat.le_of_ble_eq_true rfl) rfl (jag rfl rfl) ?_
  show Go _ _ _ _ _ _ 11 [(0, rc 0), (1, vi a0), (2, vi a1), (3, vi a2)] [vi r1] ((S, T), Y) _
  refine ite_el h (fun q1 h => ?_) (fun q1 h => ?_)
  · refine go_if_eq (off := 19) (tgt := 30) (by decide +kernel) (by decide) (fun _ => ?_) (fun z => absurd q1 z)
    refine go_blk rfl [(.iconst (-1), 1, 0, 0, 0, .inl (-1))] 30 31 _ _ _ (by decide +kernel) ?_
    show Go _ _ _ _ _ _ 31 [(0, rc 0), (1, vi a0), (2, vi a1), (3, vi a2)] [vi ((-1))] ((S, T), Y) _
    obtain ⟨rfl, rfl⟩ := Prod.mk.inj (Option.some.inj h)
    exact go_ireturn (by decide +kernel) rfl rfl ⟨rfl, rfl⟩
  · refine go_if_eq (off := 19) (tgt := 30) (by decide +kernel) (by decide) (fun z => absurd z q1) (fun _ => ?_)
    refine go_blk rfl [(.iload_n 2, 1, 2, 0, 0, .inl 0)] 14 15 _ _ _ (by decide +kernel) ?_
    show Go _ _ _ _ _ _ 15 [(0, rc 0), (1, vi a0), (2, vi a1), (3, vi a2)] [vi a1] ((S, T), Y) _
    obtain ⟨r2, hr2, h⟩ := bind_el h
    refine go_callS (idx := 247) (z := 0) (M' := M10_isAsked) (n := 1) (A := [vi a1]) (v' := some (vi r2)) (μ' := ((S, T), Y)) (d' := 1) (mc' := 0) (ms' := 0) (kc' := 0) (ks' := 0) (by decide +kernel) ml_10_247 rfl ws10_isAsked rfl (ret10_isAsked hr2) (by decide) rfl rfl (Nat.le_of_ble_eq_true rfl) rfl (jag rfl rfl) ?_
    show Go _ _ _ _ _ _ 18 [(0, rc 0), (1, vi a0), (2, vi a1), (3, vi a2)] [vi r2] ((S, T), Y) _
    refine ite_el h (fun q2 h => ?_) (fun q2 h => ?_)
    · refine go_if_eq (off := 12) (tgt := 30) (by decide +kernel) (by decide) (fun _ => ?_) (fun z => absurd q2 z)
      refine go_blk rfl [(.iconst (-1), 1, 0, 0, 0, .inl (-1))] 30 31 _ _ _ (by decide +kernel) ?_
      show Go _ _ _ _ _ _ 31 [(0, rc 0), (1, vi a0), (2, vi a1), (3, vi a2)] [vi ((-1))] ((S, T), Y) _
      obtain ⟨rfl, rfl⟩ := Prod.mk.inj (Option.some.inj h)
      exact go_ireturn (by decide +kernel) rfl rfl ⟨rfl, rfl⟩
    · refine go_if_eq (off := 12) (tgt := 30) (by decide +kernel) (by decide) (fun z => absurd z q2) (fun _ => ?_)
      refine go_blk rfl [(.iload_n 3, 1, 3, 0, 0, .inl 0)] 21 22 _ _ _ (by decide +kernel) ?_
      show Go _ _ _ _ _ _ 22 [(0, rc 0), (1, vi a0), (2, vi a1), (3, vi a2)] [vi a2] ((S, T), Y) _
      refine ite_el h (fun q3 h => ?_) (fun q3 h => ?_)
      · refine go_if_lt (off := 8) (tgt := 30) (by decide +kernel) (by decide) (fun _ => ?_) (fun z => absurd q3 z)
        refine go_blk rfl [(.iconst (-1), 1, 0, 0, 0, .inl (-1))] 30 31 _ _ _ (by decide +kernel) ?_
        show Go _ _ _ _ _ _ 31 [(0, rc 0), (1, vi a0), (2, vi a1), (3, vi a2)] [vi ((-1))] ((S, T), Y) _
        obtain ⟨rfl, rfl⟩ := Prod.mk.inj (Option.some.inj h)
        exact go_ireturn (by decide +kernel) rfl rfl ⟨rfl, rfl⟩
      · refine go_if_lt (off := 8) (tgt := 30) (by decide +kernel) (by decide) (fun z => absurd z q3) (fun _ => ?_)
        refine go_blk rfl [(.iload_n 3, 1, 3, 0, 0, .inl 0), (.iconst 1, 1, 0, 0, 0, .inl 1)] 25 27 _ _ _ (by decide +kernel) ?_
        show Go _ _ _ _ _ _ 27 [(0, rc 0), (1, vi a0), (2, vi a1), (3, vi a2)] [vi 1, vi a2] ((S, T), Y) _
        refine ite_el h (fun q4 h => ?_) (fun q4 h => ?_)
        · refine go_icmp_le (off := 5) (tgt := 32) (by decide +kernel) (by decide) (fun _ => ?_) (fun z => absurd q4 z)
          refine go_blk rfl [(.aload_n 0, 1, 0, 0, 0, .inl 0), (.getfield 65, 3, 10, 8, 1, .inl 0), (.aload_n 0, 1, 0, 0, 0, .inl 0), (.getfield 45, 3, 10, 5, 1, .inl 0), (.getfield 102, 3, 0, 1, 1, .inl 0), (.aload_n 0, 1, 0, 0, 0, .inl 0)] 32 44 _ _ _ (by decide +kernel) ?_
          refine And.intro (lc_t0 hT) (Exists.intro _ (And.intro (gRc (lc_r10_8 hT)) ?_))
          refine And.intro (lc_t0 hT) (Exists.intro _ (And.intro (gRc (lc_r10_5 hT)) ?_))
          refine And.intro (lc_b100 hT).1 (Exists.intro _ (And.intro (gRc (lc_b100 hT).2.2.1.1) ?_))
          show Go _ _ _ _ _ _ 44 [(0, rc 0), (1, vi a0), (2, vi a1), (3, vi a2)] [rc 0, rc (100 + 8), rc 20] ((S, T), Y) _
          obtain ⟨r3, hr3, h⟩ := bind_el h
          refine go_callV (idx := 164) (z := 0) (M' := M10_ruleInForce) (n := 0) (A := []) (v' := some (vo r3)) (μ' := ((S, T), Y)) (d' := 2) (mc' := 0) (ms' := 0) (kc' := 0) (ks' := 0) (ci := 10) (x := .inl 0) (by decide +kernel) ml_10_164 rfl wv10_ruleInForce rfl (by decide) rfl (lc_t0 hT) (ret10_ruleInForce hT hr3) (by decide) rfl rfl (Nat.le_of_ble_eq_true rfl) rfl (jag rfl rfl) ?_
          show Go _ _ _ _ _ _ 47 [(0, rc 0), (1, vi a0), (2, vi a1), (3, vi a2)] [vo r3, rc (100 + 8), rc 20] ((S, T), Y) _
          refine go_blk rfl [(.iload_n 1, 1, 1, 0, 0, .inl 0), (.iload_n 2, 1, 2, 0, 0, .inl 0)] 47 49 _ _ _ (by decide +kernel) ?_
          show Go _ _ _ _ _ _ 49 [(0, rc 0), (1, vi a0), (2, vi a1), (3, vi a2)] [vi a1, vi a0, vo r3, rc (100 + 8), rc 20] ((S, T), Y) _
          obtain ⟨r4, hr4, h⟩ := bind_el h
          refine go_callV (idx := 260) (z := 1) (M' := M2_choosePlace) (n := 4) (A := [rc (100 + 8), vo r3, vi a0, vi a1]) (v' := none) (μ' := ((r4.1, T), Y)) (d' := 7) (mc' := 0) (ms' := 0) (kc' := 0) (ks' := 0) (ci := 2) (x := .inl 20) (by decide +kernel) ml_10_260 rfl wv2_choosePlace rfl (by decide) rfl (lc_t20 hT) (ret2_choosePlace hT ((lc_b100 hT).2.2.1.2) (f10_ruleInForce_lay hT hr3) hr4) (by decide) rfl rfl (Nat.le_of_ble_eq_true rfl) rfl (jag rfl rfl) ?_
          show Go _ _ _ _ _ _ 52 [(0, rc 0), (1, vi a0), (2, vi a1), (3, vi a2)] [] ((r4.1, T), Y) _
          refine go_blk rfl [(.iload_n 3, 1, 3, 0, 0, .inl 0)] 52 53 _ _ _ (by decide +kernel) ?_
          show Go _ _ _ _ _ _ 53 [(0, rc 0), (1, vi a0), (2, vi a1), (3, vi a2)] [vi a2] ((r4.1, T), Y) _
          refine ite_el h (fun q5 h => ?_) (fun q5 h => ?_)
          · refine go_if_ne (off := 13) (tgt := 66) (by decide +kernel) (by decide) (fun z => absurd q5 z) (fun _ => ?_)
            refine go_blk rfl [(.aload_n 0, 1, 0, 0, 0, .inl 0), (.getfield 65, 3, 10, 8, 1, .inl 0), (.getfield 254, 3, 2, 8, 0, .inl 0)] 56 63 _ _ _ (by decide +kernel) ?_
            refine And.intro (lc_t0 hT) (Exists.intro _ (And.intro (gRc (lc_r10_8 hT)) ?_))
            refine And.intro (lc_t20 hT) ?_
            show Go _ _ _ _ _ _ 63 [(0, rc 0), (1, vi a0), (2, vi a1), (3, vi a2)] [vi (r4.1.1 20 8)] ((r4.1, T), Y) _
            refine go_goto (off := 10) (tgt := 73) (by decide +kernel) (by decide) ?_
            obtain ⟨rfl, rfl⟩ := Prod.mk.inj (Option.some.inj h)
            exact go_ireturn (by decide +kernel) rfl rfl ⟨rfl, rfl⟩
          · refine go_if_ne (off := 13) (tgt := 66) (by decide +kernel) (by decide) (fun _ => ?_) (fun z => absurd z q5)
            refine go_blk rfl [(.aload_n 0, 1, 0, 0, 0, .inl 0), (.getfield 65, 3, 10, 8, 1, .inl 0), (.getfield 257, 3, 2, 9, 0, .inl 0)] 66 73 _ _ _ (by decide +kernel) ?_
            refine And.intro (lc_t0 hT) (Exists.intro _ (And.intro (gRc (lc_r10_8 hT)) ?_))
            refine And.intro (lc_t20 hT) ?_
            show Go _ _ _ _ _ _ 73 [(0, rc 0), (1, vi a0), (2, vi a1), (3, vi a2)] [vi (r4.1.1 20 9)] ((r4.1, T), Y) _
            obtain ⟨rfl, rfl⟩ := Prod.mk.inj (Option.some.inj h)
            exact go_ireturn (by decide +kernel) rfl rfl ⟨rfl, rfl⟩
        · refine go_icmp_le (off := 5) (tgt := 32) (by decide +kernel) (by decide) (fun z => absurd z q4) (fun _ => ?_)
          refine go_blk rfl [(.iconst (-1), 1, 0, 0, 0, .inl (-1))] 30 31 _ _ _ (by decide +kernel) ?_
          show Go _ _ _ _ _ _ 31 [(0, rc 0), (1, vi a0), (2, vi a1), (3, vi a2)] [vi ((-1))] ((S, T), Y) _
          obtain ⟨rfl, rfl⟩ := Prod.mk.inj (Option.some.inj h)
          exact go_ireturn (by decide +kernel) rfl rfl ⟨rfl, rfl⟩
def f10_steps (T : jT) (S : jS) (a0 : Int32) : Option (jS × Int32) := Option.bind (f4_hasGuest S (100 + 1) a0) (fun r1 => (if r1 = 0 then some (S, (-1)) else Option.bind (f10_ruleInForce T S) (fun r2 => Option.bind (f1_fittingSteps T S 100 r2 a0) (fun r3 => some (r3.1, r3.2)))))
theorem ret10_steps {S : jS} {T : jT} {Y : jS × jT} {a0 : Int32} {S1 : jS} {x : Int32} (hT : LayC T) (h : f10_steps T S a0 = some (S1, x)) : Ret M10_steps 8 0 0 [rc 0, vi a0] ((S, T), Y) (some (vi x)) ((S1, T), Y) := by
  refine Ret.of (by decide +kernel) (Nat.le_of_ble_eq_true rfl) ?_
  unfold f10_steps at h
  show Go _ _ _ _ _ _ 0 [(0, rc 0), (1, vi a0)] [] ((S, T), Y) _
  refine go_blk rfl [(.aload_n 0, 1, 0, 0, 0, .inl 0), (.getfield 45, 3, 10, 5, 1, .inl 0), (.getfield 263, 3, 0, 0, 1, .inl 0), (.iload_n 1, 1, 1, 0, 0, .inl 0)] 0 8 _ _ _ (by decide +kernel) ?_
  refine And.intro (lc_t0 hT) (Exists.intro _ (And.intro (gRc (lc_r10_5 hT)) ?_))
  refine And.intro (lc_b100 hT).1 (Exists.intro _ (And.intro (gRc (lc_b100 hT).2.1.1) ?_))
  show Go _ _ _ _ _ _ 8 [(0, rc 0), (1, vi a0)] [vi a0, rc (100 + 1)] ((S, T), Y) _
  obtain ⟨r1, hr1, h⟩ := bind_el h
  refine go_callV (idx := 129) (z := 1) (M' := M4_hasGuest) (n := 1) (A := [vi a0]) (v' := some (vi r1)) (μ' := ((S, T), Y)) (d' := 1) (mc' := 0) (ms' := 0) (kc' := 0) (ks' := 0) (ci := 4) (x := .inl (100 + 1)) (by decide +kernel) ml_10_129 rfl wv4_hasGuest rfl (by decide) rfl ((lc_b100 hT).2.1.2).1 (ret4_hasGuest ((lc_b100 hT).2.1.2) hr1) (by decide) rfl rfl (Nat.le_of_ble_eq_true rfl) rfl (jag rfl rfl) ?_
  show Go _ _ _ _ _ _ 11 [(0, rc 0), (1, vi a0)] [vi r1] ((S, T), Y) _
  refine ite_el h (fun q1 h => ?_) (fun q1 h => ?_)
  · refine go_if_eq (off := 22) (tgt := 33) (by decide +kernel) (by decide) (fun _ => ?_) (fun z => absurd q1 z)
    refine go_blk rfl [(.iconst (-1), 1, 0, 0, 0, .inl (-1))] 33 34 _ _ _ (by decide +kernel) ?_
    show Go _ _ _ _ _ _ 34 [(0, rc 0), (1, vi a0)] [vi ((-1))] ((S, T), Y) _
    obtain ⟨rfl, rfl⟩ := Prod.mk.inj (Option.some.inj h)
    exact go_ireturn (by decide +kernel) rfl rfl ⟨rfl, rfl⟩
  · refine go_if_eq (off := 22) (tgt := 33) (by decide +kernel) (by decide) (fun z => absurd z q1) (fun _ => ?_)
    refine go_blk rfl [(.aload_n 0, 1, 0, 0, 0, .inl 0), (.getfield 72, 3, 10, 9, 1, .inl 0), (.aload_n 0, 1, 0, 0, 0, .inl 0), (.getfield 45, 3, 10, 5, 1, .inl 0), (.aload_n 0, 1, 0, 0, 0, .inl 0)] 14 23 _ _ _ (by decide +kernel) ?_
    refine And.intro (lc_t0 hT) (Exists.intro _ (And.intro (gRc (lc_r10_9 hT)) ?_))
    refine And.intro (lc_t0 hT) (Exists.intro _ (And.intro (gRc (lc_r10_5 hT)) ?_))
    show Go _ _ _ _ _ _ 23 [(0, rc 0), (1, vi a0)] [rc 0, rc 100, rc 70] ((S, T), Y) _
    obtain ⟨r2, hr2, h⟩ := bind_el h
    refine go_callV (idx := 164) (z := 0) (M' := M10_ruleInForce) (n := 0) (A := []) (v' := some (vo r2)) (μ' := ((S, T), Y)) (d' := 2) (mc' := 0) (ms' := 0) (kc' := 0) (ks' := 0) (ci := 10) (x := .inl 0) (by decide +kernel) ml_10_164 rfl wv10_ruleInForce rfl (by decide) rfl (lc_t0 hT) (ret10_ruleInForce hT hr2) (by decide) rfl rfl (Nat.le_of_ble_eq_true rfl) rfl (jag rfl rfl) ?_
    show Go _ _ _ _ _ _ 26 [(0, rc 0), (1, vi a0)] [vo r2, rc 100, rc 70] ((S, T), Y) _
    refine go_blk rfl [(.iload_n 1, 1, 1, 0, 0, .inl 0)] 26 27 _ _ _ (by decide +kernel) ?_
    show Go _ _ _ _ _ _ 27 [(0, rc 0), (1, vi a0)] [vi a0, vo r2, rc 100, rc 70] ((S, T), Y) _
    obtain ⟨r3, hr3, h⟩ := bind_el h
    refine go_callV (idx := 266) (z := 1) (M' := M1_fittingSteps) (n := 3) (A := [rc 100, vo r2, vi a0]) (v' := some (vi r3.2)) (μ' := ((r3.1, T), Y)) (d' := 7) (mc' := 0) (ms' := 0) (kc' := 0) (ks' := 0) (ci := 1) (x := .inl 70) (by decide +kernel) ml_10_266 rfl wv1_fittingSteps rfl (by decide) rfl (lc_t70 hT) (ret1_fittingSteps hT (lc_b100 hT) (f10_ruleInForce_lay hT hr2) hr3) (by decide) rfl rfl (Nat.le_of_ble_eq_true rfl) rfl (jag rfl rfl) ?_
    show Go _ _ _ _ _ _ 30 [(0, rc 0), (1, vi a0)] [vi r3.2] ((r3.1, T), Y) _
    refine go_goto (off := 4) (tgt := 34) (by decide +kernel) (by decide) ?_
    obtain ⟨rfl, rfl⟩ := Prod.mk.inj (Option.some.inj h)
    exact go_ireturn (by decide +kernel) rfl rfl ⟨rfl, rfl⟩
def f10_quicks (T : jT) (S : jS) (a0 : Int32) : Option (jS × Int32) := Option.bind (f4_hasGuest S (100 + 1) a0) (fun r1 => (if r1 = 0 then some (S, (-1)) else Option.bind (f10_ruleInForce T S) (fun r2 => Option.bind (f1_fittingQuicks T S 100 r2 a0) (fun r3 => some (r3.1, r3.2)))))
theorem ret10_quicks {S : jS} {T : jT} {Y : jS × jT} {a0 : Int32} {S1 : jS} {x : Int32} (hT : LayC T) (h : f10_quicks T S a0 = some (S1, x)) : Ret M10_quicks 8 0 0 [rc 0, vi a0] ((S, T), Y) (some (vi x)) ((S1, T), Y) := by
  refine Ret.of (by decide +kernel) (Nat.le_of_ble_eq_true rfl) ?_
  unfold f10_quicks at h
  show Go _ _ _ _ _ _ 0 [(0, rc 0), (1, vi a0)] [] ((S, T), Y) _
  refine go_blk rfl [(.aload_n 0, 1, 0, 0, 0, .inl 0), (.getfield 45, 3, 10, 5, 1, .inl 0), (.getfield 263, 3, 0, 0, 1, .inl 0), (.iload_n 1, 1, 1, 0, 0, .inl 0)] 0 8 _ _ _ (by decide +kernel) ?_
  refine And.intro (lc_t0 hT) (Exists.intro _ (And.intro (gRc (lc_r10_5 hT)) ?_))
  refine And.intro (lc_b100 hT).1 (Exists.intro _ (And.intro (gRc (lc_b100 hT).2.1.1) ?_))
  show Go _ _ _ _ _ _ 8 [(0, rc 0), (1, vi a0)] [vi a0, rc (100 + 1)] ((S, T), Y) _
  obtain ⟨r1, hr1, h⟩ := bind_el h
  refine go_callV (idx := 129) (z := 1) (M' := M4_hasGuest) (n := 1) (A := [vi a0]) (v' := some (vi r1)) (μ' := ((S, T), Y)) (d' := 1) (mc' := 0) (ms' := 0) (kc' := 0) (ks' := 0) (ci := 4) (x := .inl (100 + 1)) (by decide +kernel) ml_10_129 rfl wv4_hasGuest rfl (by decide) rfl ((lc_b100 hT).2.1.2).1 (ret4_hasGuest ((lc_b100 hT).2.1.2) hr1) (by decide) rfl rfl (Nat.le_of_ble_eq_true rfl) rfl (jag rfl rfl) ?_
  show Go _ _ _ _ _ _ 11 [(0, rc 0), (1, vi a0)] [vi r1] ((S, T), Y) _
  refine ite_el h (fun q1 h => ?_) (fun q1 h => ?_)
  · refine go_if_eq (off := 22) (tgt := 33) (by decide +kernel) (by decide) (fun _ => ?_) (fun z => absurd q1 z)
    refine go_blk rfl [(.iconst (-1), 1, 0, 0, 0, .inl (-1))] 33 34 _ _ _ (by decide +kernel) ?_
    show Go _ _ _ _ _ _ 34 [(0, rc 0), (1, vi a0)] [vi ((-1))] ((S, T), Y) _
    obtain ⟨rfl, rfl⟩ := Prod.mk.inj (Option.some.inj h)
    exact go_ireturn (by decide +kernel) rfl rfl ⟨rfl, rfl⟩
  · refine go_if_eq (off := 22) (tgt := 33) (by decide +kernel) (by decide) (fun z => absurd z q1) (fun _ => ?_)
    refine go_blk rfl [(.aload_n 0, 1, 0, 0, 0, .inl 0), (.getfield 72, 3, 10, 9, 1, .inl 0), (.aload_n 0, 1, 0, 0, 0, .inl 0), (.getfield 45, 3, 10, 5, 1, .inl 0), (.aload_n 0, 1, 0, 0, 0, .inl 0)] 14 23 _ _ _ (by decide +kernel) ?_
    refine And.intro (lc_t0 hT) (Exists.intro _ (And.intro (gRc (lc_r10_9 hT)) ?_))
    refine And.intro (lc_t0 hT) (Exists.intro _ (And.intro (gRc (lc_r10_5 hT)) ?_))
    show Go _ _ _ _ _ _ 23 [(0, rc 0), (1, vi a0)] [rc 0, rc 100, rc 70] ((S, T), Y) _
    obtain ⟨r2, hr2, h⟩ := bind_el h
    refine go_callV (idx := 164) (z := 0) (M' := M10_ruleInForce) (n := 0) (A := []) (v' := some (vo r2)) (μ' := ((S, T), Y)) (d' := 2) (mc' := 0) (ms' := 0) (kc' := 0) (ks' := 0) (ci := 10) (x := .inl 0) (by decide +kernel) ml_10_164 rfl wv10_ruleInForce rfl (by decide) rfl (lc_t0 hT) (ret10_ruleInForce hT hr2) (by decide) rfl rfl (Nat.le_of_ble_eq_true rfl) rfl (jag rfl rfl) ?_
    show Go _ _ _ _ _ _ 26 [(0, rc 0), (1, vi a0)] [vo r2, rc 100, rc 70] ((S, T), Y) _
    refine go_blk rfl [(.iload_n 1, 1, 1, 0, 0, .inl 0)] 26 27 _ _ _ (by decide +kernel) ?_
    show Go _ _ _ _ _ _ 27 [(0, rc 0), (1, vi a0)] [vi a0, vo r2, rc 100, rc 70] ((S, T), Y) _
    obtain ⟨r3, hr3, h⟩ := bind_el h
    refine go_callV (idx := 270) (z := 1) (M' := M1_fittingQuicks) (n := 3) (A := [rc 100, vo r2, vi a0]) (v' := some (vi r3.2)) (μ' := ((r3.1, T), Y)) (d' := 7) (mc' := 0) (ms' := 0) (kc' := 0) (ks' := 0) (ci := 1) (x := .inl 70) (by decide +kernel) ml_10_270 rfl wv1_fittingQuicks rfl (by decide) rfl (lc_t70 hT) (ret1_fittingQuicks hT (lc_b100 hT) (f10_ruleInForce_lay hT hr2) hr3) (by decide) rfl rfl (Nat.le_of_ble_eq_true rfl) rfl (jag rfl rfl) ?_
    show Go _ _ _ _ _ _ 30 [(0, rc 0), (1, vi a0)] [vi r3.2] ((r3.1, T), Y) _
    refine go_goto (off := 4) (tgt := 34) (by decide +kernel) (by decide) ?_
    obtain ⟨rfl, rfl⟩ := Prod.mk.inj (Option.some.inj h)
    exact go_ireturn (by decide +kernel) rfl rfl ⟨rfl, rfl⟩
def f10_rests (T : jT) (S : jS) (a0 : Int32) (a1 : Int32) (a2 : Int32) (a3 : Int32) : Option (jS × Int32) := Option.bind (f4_areTwoIn S (100 + 8) a0 a1) (fun r1 => (if r1 = 0 then some (S, (-1)) else Option.bind (f10_isAsked a2) (fun r2 => (if r2 = 0 then some (S, (-1)) else (if a3 < 0 then some (S, (-1)) else (if a3 ≤ 2 then Option.bind (f10_ruleInForce T S) (fun r3 => Option.bind (f2_playPaces T S (100 + 8) r3 a0 a1 a2) (fun r4 => (if a3 = 0 then Option.bind (f2_countRests r4.1) (fun r5 => some (r4.1, r5)) else Option.bind (f2_firstRest r4.1) (fun r6 => (if r6 = ((-1)) then some (r4.1, (-2)) else (if a3 = 1 then some (r4.1, r6 / 6) else some (r4.1, irm r6 6))))))) else some (S, (-1))))))))
theorem ret10_rests {S : jS} {T : jT} {Y : jS × jT} {a0 : Int32} {a1 : Int32} {a2 : Int32} {a3 : Int32} {S1 : jS} {x : Int32} (hT : LayC T) (h : f10_rests T S a0 a1 a2 a3 = some (S1, x)) : Ret M10_rests 7 0 0 [rc 0, vi a0, vi a1, vi a2, vi a3] ((S, T), Y) (some (vi x)) ((S1, T), Y) := by
  refine Ret.of (by decide +kernel) (Nat.le_of_ble_eq_true rfl) ?_
  unfold f10_rests at h
  show Go _ _ _ _ _ _ 0 [(0, rc 0), (1, vi a0), (2, vi a1), (3, vi a2), (4, vi a3)] [] ((S, T), Y) _
  refine go_blk rfl [(.aload_n 0, 1, 0, 0, 0, .inl 0), (.getfield 45, 3, 10, 5, 1, .inl 0), (.getfield 102, 3, 0, 1, 1, .inl 0), (.iload_n 1, 1, 1, 0, 0, .inl 0), (.iload_n 2, 1, 2, 0, 0, .inl 0)] 0 9 _ _ _ (by decide +kernel) ?_
  refine And.intro (lc_t0 hT) (Exists.intro _ (And.intro (gRc (lc_r10_5 hT)) ?_))
  refine And.intro (lc_b100 hT).1 (Exists.intro _ (And.intro (gRc (lc_b100 hT).2.2.1.1) ?_))
  show Go _ _ _ _ _ _ 9 [(0, rc 0), (1, vi a0), (2, vi a1), (3, vi a2), (4, vi a3)] [vi a1, vi a0, rc (100 + 8)] ((S, T), Y) _
  obtain ⟨r1, hr1, h⟩ := bind_el h
  refine go_callV (idx := 181) (z := 1) (M' := M4_areTwoIn) (n := 2) (A := [vi a0, vi a1]) (v' := some (vi r1)) (μ' := ((S, T), Y)) (d' := 3) (mc' := 0) (ms' := 0) (kc' := 0) (ks' := 0) (ci := 4) (x := .inl (100 + 8)) (by decide +kernel) ml_10_181 rfl wv4_areTwoIn rfl (by decide) rfl ((lc_b100 hT).2.2.1.2).1 (ret4_areTwoIn ((lc_b100 hT).2.2.1.2) hr1) (by decide) rfl rfl (Nat.le_of_ble_eq_true rfl) rfl (jag rfl rfl) ?_
  show Go _ _ _ _ _ _ 12 [(0, rc 0), (1, vi a0), (2, vi a1), (3, vi a2), (4, vi a3)] [vi r1] ((S, T), Y) _
  refine ite_el h (fun q1 h => ?_) (fun q1 h => ?_)
  · refine go_if_eq (off := 21) (tgt := 33) (by decide +kernel) (by decide) (fun _ => ?_) (fun z => absurd q1 z)
    refine go_blk rfl [(.iconst (-1), 1, 0, 0, 0, .inl (-1))] 33 34 _ _ _ (by decide +kernel) ?_
    show Go _ _ _ _ _ _ 34 [(0, rc 0), (1, vi a0), (2, vi a1), (3, vi a2), (4, vi a3)] [vi ((-1))] ((S, T), Y) _
    obtain ⟨rfl, rfl⟩ := Prod.mk.inj (Option.some.inj h)
    exact go_ireturn (by decide +kernel) rfl rfl ⟨rfl, rfl⟩
  · refine go_if_eq (off := 21) (tgt := 33) (by decide +kernel) (by decide) (fun z => absurd z q1) (fun _ => ?_)
    refine go_blk rfl [(.iload_n 3, 1, 3, 0, 0, .inl 0)] 15 16 _ _ _ (by decide +kernel) ?_
    show Go _ _ _ _ _ _ 16 [(0, rc 0), (1, vi a0), (2, vi a1), (3, vi a2), (4, vi a3)] [vi a2] ((S, T), Y) _
    obtain ⟨r2, hr2, h⟩ := bind_el h
    refine go_callS (idx := 247) (z := 0) (M' := M10_isAsked) (n := 1) (A := [vi a2]) (v' := some (vi r2)) (μ' := ((S, T), Y)) (d' := 1) (mc' := 0) (ms' := 0) (kc' := 0) (ks' := 0) (by decide +kernel) ml_10_247 rfl ws10_isAsked rfl (ret10_isAsked hr2) (by decide) rfl rfl (Nat.le_of_ble_eq_true rfl) rfl (jag rfl rfl) ?_
    show Go _ _ _ _ _ _ 19 [(0, rc 0), (1, vi a0), (2, vi a1), (3, vi a2), (4, vi a3)] [vi r2] ((S, T), Y) _
    refine ite_el h (fun q2 h => ?_) (fun q2 h => ?_)
    · refine go_if_eq (off := 14) (tgt := 33) (by decide +kernel) (by decide) (fun _ => ?_) (fun z => absurd q2 z)
      refine go_blk rfl [(.iconst (-1), 1, 0, 0, 0, .inl (-1))] 33 34 _ _ _ (by decide +kernel) ?_
      show Go _ _ _ _ _ _ 34 [(0, rc 0), (1, vi a0), (2, vi a1), (3, vi a2), (4, vi a3)] [vi ((-1))] ((S, T), Y) _
      obtain ⟨rfl, rfl⟩ := Prod.mk.inj (Option.some.inj h)
      exact go_ireturn (by decide +kernel) rfl rfl ⟨rfl, rfl⟩
    · refine go_if_eq (off := 14) (tgt := 33) (by decide +kernel) (by decide) (fun z => absurd z q2) (fun _ => ?_)
      refine go_blk rfl [(.iload 4, 2, 4, 0, 0, .inl 0)] 22 24 _ _ _ (by decide +kernel) ?_
      show Go _ _ _ _ _ _ 24 [(0, rc 0), (1, vi a0), (2, vi a1), (3, vi a2), (4, vi a3)] [vi a3] ((S, T), Y) _
      refine ite_el h (fun q3 h => ?_) (fun q3 h => ?_)
      · refine go_if_lt (off := 9) (tgt := 33) (by decide +kernel) (by decide) (fun _ => ?_) (fun z => absurd q3 z)
        refine go_blk rfl [(.iconst (-1), 1, 0, 0, 0, .inl (-1))] 33 34 _ _ _ (by decide +kernel) ?_
        show Go _ _ _ _ _ _ 34 [(0, rc 0), (1, vi a0), (2, vi a1), (3, vi a2), (4, vi a3)] [vi ((-1))] ((S, T), Y) _
        obtain ⟨rfl, rfl⟩ := Prod.mk.inj (Option.some.inj h)
        exact go_ireturn (by decide +kernel) rfl rfl ⟨rfl, rfl⟩
      · refine go_if_lt (off := 9) (tgt := 33) (by decide +kernel) (by decide) (fun z => absurd z q3) (fun _ => ?_)
        refine go_blk rfl [(.iload 4, 2, 4, 0, 0, .inl 0), (.iconst 2, 1, 0, 0, 0, .inl 2)] 27 30 _ _ _ (by decide +kernel) ?_
        show Go _ _ _ _ _ _ 30 [(0, rc 0), (1, vi a0), (2, vi a1), (3, vi a2), (4, vi a3)] [vi 2, vi a3] ((S, T), Y) _
        refine ite_el h (fun q4 h => ?_) (fun q4 h => ?_)
        · refine go_icmp_le (off := 5) (tgt := 35) (by decide +kernel) (by decide) (fun _ => ?_) (fun z => absurd q4 z)
          refine go_blk rfl [(.aload_n 0, 1, 0, 0, 0, .inl 0), (.getfield 65, 3, 10, 8, 1, .inl 0), (.aload_n 0, 1, 0, 0, 0, .inl 0), (.getfield 45, 3, 10, 5, 1, .inl 0), (.getfield 102, 3, 0, 1, 1, .inl 0), (.aload_n 0, 1, 0, 0, 0, .inl 0)] 35 47 _ _ _ (by decide +kernel) ?_
          refine And.intro (lc_t0 hT) (Exists.intro _ (And.intro (gRc (lc_r10_8 hT)) ?_))
          refine And.intro (lc_t0 hT) (Exists.intro _ (And.intro (gRc (lc_r10_5 hT)) ?_))
          refine And.intro (lc_b100 hT).1 (Exists.intro _ (And.intro (gRc (lc_b100 hT).2.2.1.1) ?_))
          show Go _ _ _ _ _ _ 47 [(0, rc 0), (1, vi a0), (2, vi a1), (3, vi a2), (4, vi a3)] [rc 0, rc (100 + 8), rc 20] ((S, T), Y) _
          obtain ⟨r3, hr3, h⟩ := bind_el h
          refine go_callV (idx := 164) (z := 0) (M' := M10_ruleInForce) (n := 0) (A := []) (v' := some (vo r3)) (μ' := ((S, T), Y)) (d' := 2) (mc' := 0) (ms' := 0) (kc' := 0) (ks' := 0) (ci := 10) (x := .inl 0) (by decide +kernel) ml_10_164 rfl wv10_ruleInForce rfl (by decide) rfl (lc_t0 hT) (ret10_ruleInForce hT hr3) (by decide) rfl rfl (Nat.le_of_ble_eq_true rfl) rfl (jag rfl rfl) ?_
          show Go _ _ _ _ _ _ 50 [(0, rc 0), (1, vi a0), (2, vi a1), (3, vi a2), (4, vi a3)] [vo r3, rc (100 + 8), rc 20] ((S, T), Y) _
          refine go_blk rfl [(.iload_n 1, 1, 1, 0, 0, .inl 0), (.iload_n 2, 1, 2, 0, 0, .inl 0), (.iload_n 3, 1, 3, 0, 0, .inl 0)] 50 53 _ _ _ (by decide +kernel) ?_
          show Go _ _ _ _ _ _ 53 [(0, rc 0), (1, vi a0), (2, vi a1), (3, vi a2), (4, vi a3)] [vi a2, vi a1, vi a0, vo r3, rc (100 + 8), rc 20] ((S, T), Y) _
          obtain ⟨r4, hr4, h⟩ := bind_el h
          refine go_callV (idx := 273) (z := 1) (M' := M2_playPaces) (n := 5) (A := [rc (100 + 8), vo r3, vi a0, vi a1, vi a2]) (v' := none) (μ' := ((r4.1, T), Y)) (d' := 6) (mc' := 0) (ms' := 0) (kc' := 0) (ks' := 0) (ci := 2) (x := .inl 20) (by decide +kernel) ml_10_273 rfl wv2_playPaces rfl (by decide) rfl (lc_t20 hT) (ret2_playPaces hT ((lc_b100 hT).2.2.1.2) (f10_ruleInForce_lay hT hr3) hr4) (by decide) rfl rfl (Nat.le_of_ble_eq_true rfl) rfl (jag rfl rfl) ?_
          show Go _ _ _ _ _ _ 56 [(0, rc 0), (1, vi a0), (2, vi a1), (3, vi a2), (4, vi a3)] [] ((r4.1, T), Y) _
          refine go_blk rfl [(.iload 4, 2, 4, 0, 0, .inl 0)] 56 58 _ _ _ (by decide +kernel) ?_
          show Go _ _ _ _ _ _ 58 [(0, rc 0), (1, vi a0), (2, vi a1), (3, vi a2), (4, vi a3)] [vi a3] ((r4.1, T), Y) _
          refine ite_el h (fun q5 h => ?_) (fun q5 h => ?_)
          · refine go_if_ne (off := 11) (tgt := 69) (by decide +kernel) (by decide) (fun z => absurd q5 z) (fun _ => ?_)
            refine go_blk rfl [(.aload_n 0, 1, 0, 0, 0, .inl 0), (.getfield 65, 3, 10, 8, 1, .inl 0)] 61 65 _ _ _ (by decide +kernel) ?_
            refine And.intro (lc_t0 hT) (Exists.intro _ (And.intro (gRc (lc_r10_8 hT)) ?_))
            show Go _ _ _ _ _ _ 65 [(0, rc 0), (1, vi a0), (2, vi a1), (3, vi a2), (4, vi a3)] [rc 20] ((r4.1, T), Y) _
            obtain ⟨r5, hr5, h⟩ := bind_el h
            refine go_callV (idx := 277) (z := 1) (M' := M2_countRests) (n := 0) (A := []) (v' := some (vi r5)) (μ' := ((r4.1, T), Y)) (d' := 2) (mc' := 0) (ms' := 0) (kc' := 0) (ks' := 0) (ci := 2) (x := .inl 20) (by decide +kernel) ml_10_277 rfl wv2_countRests rfl (by decide) rfl (lc_t20 hT) (ret2_countRests hT hr5) (by decide) rfl rfl (Nat.le_of_ble_eq_true rfl) rfl (jag rfl rfl) ?_
            show Go _ _ _ _ _ _ 68 [(0, rc 0), (1, vi a0), (2, vi a1), (3, vi a2), (4, vi a3)] [vi r5] ((r4.1, T), Y) _
            obtain ⟨rfl, rfl⟩ := Prod.mk.inj (Option.some.inj h)
            exact go_ireturn (by decide +kernel) rfl rfl ⟨rfl, rfl⟩
          · refine go_if_ne (off := 11) (tgt := 69) (by decide +kernel) (by decide) (fun _ => ?_) (fun z => absurd z q5)
            refine go_blk rfl [(.aload_n 0, 1, 0, 0, 0, .inl 0), (.getfield 65, 3, 10, 8, 1, .inl 0)] 69 73 _ _ _ (by decide +kernel) ?_
            refine And.intro (lc_t0 hT) (Exists.intro _ (And.intro (gRc (lc_r10_8 hT)) ?_))
            show Go _ _ _ _ _ _ 73 [(0, rc 0), (1, vi a0), (2, vi a1), (3, vi a2), (4, vi a3)] [rc 20] ((r4.1, T), Y) _
            obtain ⟨r6, hr6, h⟩ := bind_el h
            refine go_callV (idx := 280) (z := 1) (M' := M2_firstRest) (n := 0) (A := []) (v' := some (vi r6)) (μ' := ((r4.1, T), Y)) (d' := 2) (mc' := 0) (ms' := 0) (kc' := 0) (ks' := 0) (ci := 2) (x := .inl 20) (by decide +kernel) ml_10_280 rfl wv2_firstRest rfl (by decide) rfl (lc_t20 hT) (ret2_firstRest hT hr6) (by decide) rfl rfl (Nat.le_of_ble_eq_true rfl) rfl (jag rfl rfl) ?_
            show Go _ _ _ _ _ _ 76 [(0, rc 0), (1, vi a0), (2, vi a1), (3, vi a2), (4, vi a3)] [vi r6] ((r4.1, T), Y) _
            refine go_blk rfl [(.istore 5, 2, 5, 0, 0, .inl 0), (.iload 5, 2, 5, 0, 0, .inl 0), (.iconst (-1), 1, 0, 0, 0, .inl (-1))] 76 81 _ _ _ (by decide +kernel) ?_
            show Go _ _ _ _ _ _ 81 [(5, vi r6), (0, rc 0), (1, vi a0), (2, vi a1), (3, vi a2), (4, vi a3)] [vi ((-1)), vi r6] ((r4.1, T), Y) _
            refine ite_el h (fun q6 h => ?_) (fun q6 h => ?_)
            · refine go_icmp_ne (off := 6) (tgt := 87) (by decide +kernel) (by decide) (fun z => absurd q6 z) (fun _ => ?_)
              refine go_blk rfl [(.bipush (-2), 2, 0, 0, 0, .inl (-2))] 84 86 _ _ _ (by decide +kernel) ?_
              show Go _ _ _ _ _ _ 86 [(5, vi r6), (0, rc 0), (1, vi a0), (2, vi a1), (3, vi a2), (4, vi a3)] [vi ((-2))] ((r4.1, T), Y) _
              obtain ⟨rfl, rfl⟩ := Prod.mk.inj (Option.some.inj h)
              exact go_ireturn (by decide +kernel) rfl rfl ⟨rfl, rfl⟩
            · refine go_icmp_ne (off := 6) (tgt := 87) (by decide +kernel) (by decide) (fun _ => ?_) (fun z => absurd z q6)
              refine go_blk rfl [(.iload 4, 2, 4, 0, 0, .inl 0), (.iconst 1, 1, 0, 0, 0, .inl 1)] 87 90 _ _ _ (by decide +kernel) ?_
              show Go _ _ _ _ _ _ 90 [(5, vi r6), (0, rc 0), (1, vi a0), (2, vi a1), (3, vi a2), (4, vi a3)] [vi 1, vi a3] ((r4.1, T), Y) _
              refine ite_el h (fun q7 h => ?_) (fun q7 h => ?_)
              · refine go_icmp_ne (off := 11) (tgt := 101) (by decide +kernel) (by decide) (fun z => absurd q7 z) (fun _ => ?_)
                refine go_blk rfl [(.iload 5, 2, 5, 0, 0, .inl 0), (.bipush 6, 2, 0, 0, 0, .inl 6), (.idiv, 1, 0, 0, 0, .inl 0)] 93 98 _ _ _ (by decide +kernel) ?_
                refine And.intro (by decide) ?_
                show Go _ _ _ _ _ _ 98 [(5, vi r6), (0, rc 0), (1, vi a0), (2, vi a1), (3, vi a2), (4, vi a3)] [vi (r6 / 6)] ((r4.1, T), Y) _
                refine go_goto (off := 8) (tgt := 106) (by decide +kernel) (by decide) ?_
                obtain ⟨rfl, rfl⟩ := Prod.mk.inj (Option.some.inj h)
                exact go_ireturn (by decide +kernel) rfl rfl ⟨rfl, rfl⟩
              · refine go_icmp_ne (off := 11) (tgt := 101) (by decide +kernel) (by decide) (fun _ => ?_) (fun z => absurd z q7)
                refine go_blk rfl [(.iload 5, 2, 5, 0, 0, .inl 0), (.bipush 6, 2, 0, 0, 0, .inl 6), (.irem, 1, 0, 0, 0, .inl 0)] 101 106 _ _ _ (by decide +kernel) ?_
                refine And.intro (by decide) ?_
                show Go _ _ _ _ _ _ 106 [(5, vi r6), (0, rc 0), (1, vi a0), (2, vi a1), (3, vi a2), (4, vi a3)] [vi (irm r6 6)] ((r4.1, T), Y) _
                obtain ⟨rfl, rfl⟩ := Prod.mk.inj (Option.some.inj h)
                exact go_ireturn (by decide +kernel) rfl rfl ⟨rfl, rfl⟩
        · refine go_icmp_le (off := 5) (tgt := 35) (by decide +kernel) (by decide) (fun z => absurd z q4) (fun _ => ?_)
          refine go_blk rfl [(.iconst (-1), 1, 0, 0, 0, .inl (-1))] 33 34 _ _ _ (by decide +kernel) ?_
          show Go _ _ _ _ _ _ 34 [(0, rc 0), (1, vi a0), (2, vi a1), (3, vi a2), (4, vi a3)] [vi ((-1))] ((S, T), Y) _
          obtain ⟨rfl, rfl⟩ := Prod.mk.inj (Option.some.inj h)
          exact go_ireturn (by decide +kernel) rfl rfl ⟨rfl, rfl⟩
def f10_pence (S : jS) (a0 : Int32) (a1 : Int32) : Option Int32 := (if a0 < 0 then some ((-1)) else (if 9999 < a0 then some ((-1)) else Option.bind (f4_hasGuest S (100 + 8) a1) (fun r1 => (if r1 = 0 then some ((-1)) else Option.bind (f4_shareOf S (100 + 8) a0 a1) (fun r2 => some r2)))))
theorem ret10_pence {S : jS} {T : jT} {Y : jS × jT} {a0 : Int32} {a1 : Int32} {x : Int32} (hT : LayC T) (h : f10_pence S a0 a1 = some x) : Ret M10_pence 2 0 0 [rc 0, vi a0, vi a1] ((S, T), Y) (some (vi x)) ((S, T), Y) := by
  refine Ret.of (by decide +kernel) (Nat.le_of_ble_eq_true rfl) ?_
  unfold f10_pence at h
  show Go _ _ _ _ _ _ 0 [(0, rc 0), (1, vi a0), (2, vi a1)] [] ((S, T), Y) _
  refine go_blk rfl [(.iload_n 1, 1, 1, 0, 0, .inl 0)] 0 1 _ _ _ (by decide +kernel) ?_
  show Go _ _ _ _ _ _ 1 [(0, rc 0), (1, vi a0), (2, vi a1)] [vi a0] ((S, T), Y) _
  refine ite_el h (fun q1 h => ?_) (fun q1 h => ?_)
  · refine go_if_lt (off := 24) (tgt := 25) (by decide +kernel) (by decide) (fun _ => ?_) (fun z => absurd q1 z)
    refine go_blk rfl [(.iconst (-1), 1, 0, 0, 0, .inl (-1))] 25 26 _ _ _ (by decide +kernel) ?_
    show Go _ _ _ _ _ _ 26 [(0, rc 0), (1, vi a0), (2, vi a1)] [vi ((-1))] ((S, T), Y) _
    obtain rfl := Option.some.inj h
    exact go_ireturn (by decide +kernel) rfl rfl ⟨rfl, rfl⟩
  · refine go_if_lt (off := 24) (tgt := 25) (by decide +kernel) (by decide) (fun z => absurd z q1) (fun _ => ?_)
    refine go_blk rfl [(.iload_n 1, 1, 1, 0, 0, .inl 0), (.sipush 9999, 3, 0, 0, 0, .inl 9999)] 4 8 _ _ _ (by decide +kernel) ?_
    show Go _ _ _ _ _ _ 8 [(0, rc 0), (1, vi a0), (2, vi a1)] [vi 9999, vi a0] ((S, T), Y) _
    refine ite_el h (fun q2 h => ?_) (fun q2 h => ?_)
    · refine go_icmp_gt (off := 17) (tgt := 25) (by decide +kernel) (by decide) (fun _ => ?_) (fun z => absurd q2 z)
      refine go_blk rfl [(.iconst (-1), 1, 0, 0, 0, .inl (-1))] 25 26 _ _ _ (by decide +kernel) ?_
      show Go _ _ _ _ _ _ 26 [(0, rc 0), (1, vi a0), (2, vi a1)] [vi ((-1))] ((S, T), Y) _
      obtain rfl := Option.some.inj h
      exact go_ireturn (by decide +kernel) rfl rfl ⟨rfl, rfl⟩
    · refine go_icmp_gt (off := 17) (tgt := 25) (by decide +kernel) (by decide) (fun z => absurd z q2) (fun _ => ?_)
      refine go_blk rfl [(.aload_n 0, 1, 0, 0, 0, .inl 0), (.getfield 45, 3, 10, 5, 1, .inl 0), (.getfield 102, 3, 0, 1, 1, .inl 0), (.iload_n 2, 1, 2, 0, 0, .inl 0)] 11 19 _ _ _ (by decide +kernel) ?_
      refine And.intro (lc_t0 hT) (Exists.intro _ (And.intro (gRc (lc_r10_5 hT)) ?_))
      refine And.intro (lc_b100 hT).1 (Exists.intro _ (And.intro (gRc (lc_b100 hT).2.2.1.1) ?_))
      show Go _ _ _ _ _ _ 19 [(0, rc 0), (1, vi a0), (2, vi a1)] [vi a1, rc (100 + 8)] ((S, T), Y) _
      obtain ⟨r1, hr1, h⟩ := bind_el h
      refine go_callV (idx := 129) (z := 1) (M' := M4_hasGuest) (n := 1) (A := [vi a1]) (v' := some (vi r1)) (μ' := ((S, T), Y)) (d' := 1) (mc' := 0) (ms' := 0) (kc' := 0) (ks' := 0) (ci := 4) (x := .inl (100 + 8)) (by decide +kernel) ml_10_129 rfl wv4_hasGuest rfl (by decide) rfl ((lc_b100 hT).2.2.1.2).1 (ret4_hasGuest ((lc_b100 hT).2.2.1.2) hr1) (by decide) rfl rfl (Nat.le_of_ble_eq_true rfl) rfl (jag rfl rfl) ?_
      show Go _ _ _ _ _ _ 22 [(0, rc 0), (1, vi a0), (2, vi a1)] [vi r1] ((S, T), Y) _
      refine ite_el h (fun q3 h => ?_) (fun q3 h => ?_)
      · refine go_if_ne (off := 5) (tgt := 27) (by decide +kernel) (by decide) (fun z => absurd q3 z) (fun _ => ?_)
        refine go_blk rfl [(.iconst (-1), 1, 0, 0, 0, .inl (-1))] 25 26 _ _ _ (by decide +kernel) ?_
        show Go _ _ _ _ _ _ 26 [(0, rc 0), (1, vi a0), (2, vi a1)] [vi ((-1))] ((S, T), Y) _
        obtain rfl := Option.some.inj h
        exact go_ireturn (by decide +kernel) rfl rfl ⟨rfl, rfl⟩
      · refine go_if_ne (off := 5) (tgt := 27) (by decide +kernel) (by decide) (fun _ => ?_) (fun z => absurd z q3)
        refine go_blk rfl [(.aload_n 0, 1, 0, 0, 0, .inl 0), (.getfield 45, 3, 10, 5, 1, .inl 0), (.getfield 102, 3, 0, 1, 1, .inl 0), (.iload_n 1, 1, 1, 0, 0, .inl 0), (.iload_n 2, 1, 2, 0, 0, .inl 0)] 27 36 _ _ _ (by decide +kernel) ?_
        refine And.intro (lc_t0 hT) (Exists.intro _ (And.intro (gRc (lc_r10_5 hT)) ?_))
        refine And.intro (lc_b100 hT).1 (Exists.intro _ (And.intro (gRc (lc_b100 hT).2.2.1.1) ?_))
        show Go _ _ _ _ _ _ 36 [(0, rc 0), (1, vi a0), (2, vi a1)] [vi a1, vi a0, rc (100 + 8)] ((S, T), Y) _
        obtain ⟨r2, hr2, h⟩ := bind_el h
        refine go_callV (idx := 283) (z := 1) (M' := M4_shareOf) (n := 2) (A := [vi a0, vi a1]) (v' := some (vi r2)) (μ' := ((S, T), Y)) (d' := 1) (mc' := 0) (ms' := 0) (kc' := 0) (ks' := 0) (ci := 4) (x := .inl (100 + 8)) (by decide +kernel) ml_10_283 rfl wv4_shareOf rfl (by decide) rfl ((lc_b100 hT).2.2.1.2).1 (ret4_shareOf ((lc_b100 hT).2.2.1.2) hr2) (by decide) rfl rfl (Nat.le_of_ble_eq_true rfl) rfl (jag rfl rfl) ?_
        show Go _ _ _ _ _ _ 39 [(0, rc 0), (1, vi a0), (2, vi a1)] [vi r2] ((S, T), Y) _
        obtain rfl := Option.some.inj h
        exact go_ireturn (by decide +kernel) rfl rfl ⟨rfl, rfl⟩
def f10_note (S : jS) (a0 : Int32) (a1 : Int32) (a2 : Int32) : Option (jS × Int32) := (if a0 = ((-1)) then some (wI S 100 8 0, 0) else (if a0 < 0 then some (S, (-2)) else (if 20 < a0 then some (S, (-2)) else Option.bind (f4_hasGuest S (100 + 8) a1) (fun r1 => (if r1 = 0 then some (S, (-2)) else (if a2 < 0 then some (S, (-2)) else (if a2 ≤ 1 then Option.bind (f0_addNote S 100 a0 a1 a2) (fun r2 => (if r2.2 = 0 then some (r2.1, (-2)) else some (r2.1, r2.1.1 100 8))) else some (S, (-2)))))))))
theorem ret10_note {S : jS} {T : jT} {Y : jS × jT} {a0 : Int32} {a1 : Int32} {a2 : Int32} {S1 : jS} {x : Int32} (hT : LayC T) (h : f10_note S a0 a1 a2 = some (S1, x)) : Ret M10_note 2 0 0 [rc 0, vi a0, vi a1, vi a2] ((S, T), Y) (some (vi x)) ((S1, T), Y) := by
  refine Ret.of (by decide +kernel) (Nat.le_of_ble_eq_true rfl) ?_
  unfold f10_note at h
  show Go _ _ _ _ _ _ 0 [(0, rc 0), (1, vi a0), (2, vi a1), (3, vi a2)] [] ((S, T), Y) _
  refine go_blk rfl [(.iload_n 1, 1, 1, 0, 0, .inl 0), (.iconst (-1), 1, 0, 0, 0, .inl (-1))] 0 2 _ _ _ (by decide +kernel) ?_
  show Go _ _ _ _ _ _ 2 [(0, rc 0), (1, vi a0), (2, vi a1), (3, vi a2)] [vi ((-1)), vi a0] ((S, T), Y) _
  refine ite_el h (fun q1 h => ?_) (fun q1 h => ?_)
  · refine go_icmp_ne (off := 13) (tgt := 15) (by decide +kernel) (by decide) (fun z => absurd q1 z) (fun _ => ?_)
    refine go_blk rfl [(.aload_n 0, 1, 0, 0, 0, .inl 0), (.getfield 45, 3, 10, 5, 1, .inl 0), (.iconst 0, 1, 0, 0, 0, .inl 0), (.putfield 286, 3, 0, 8, 0, .inl 0)] 5 13 _ _ _ (by decide +kernel) ?_
    refine And.intro (lc_t0 hT) (Exists.intro _ (And.intro (gRc (lc_r10_5 hT)) ?_))
    refine And.intro (lc_b100 hT).1 (And.intro trivial ?_)
    show Go _ _ _ _ _ _ 13 [(0, rc 0), (1, vi a0), (2, vi a1), (3, vi a2)] [] ((wI S 100 8 0, T), Y) _
    refine go_blk rfl [(.iconst 0, 1, 0, 0, 0, .inl 0)] 13 14 _ _ _ (by decide +kernel) ?_
    show Go _ _ _ _ _ _ 14 [(0, rc 0), (1, vi a0), (2, vi a1), (3, vi a2)] [vi 0] ((wI S 100 8 0, T), Y) _
    obtain ⟨rfl, rfl⟩ := Prod.mk.inj (Option.some.inj h)
    exact go_ireturn (by decide +kernel) rfl rfl ⟨rfl, rfl⟩
  · refine go_icmp_ne (off := 13) (tgt := 15) (by decide +kernel) (by decide) (fun _ => ?_) (fun z => absurd z q1)
    refine go_blk rfl [(.iload_n 1, 1, 1, 0, 0, .inl 0)] 15 16 _ _ _ (by decide +kernel) ?_
    show Go _ _ _ _ _ _ 16 [(0, rc 0), (1, vi a0), (2, vi a1), (3, vi a2)] [vi a0] ((S, T), Y) _
    refine ite_el h (fun q2 h => ?_) (fun q2 h => ?_)
    · refine go_if_lt (off := 32) (tgt := 48) (by decide +kernel) (by decide) (fun _ => ?_) (fun z => absurd q2 z)
      refine go_blk rfl [(.bipush (-2), 2, 0, 0, 0, .inl (-2))] 48 50 _ _ _ (by decide +kernel) ?_
      show Go _ _ _ _ _ _ 50 [(0, rc 0), (1, vi a0), (2, vi a1), (3, vi a2)] [vi ((-2))] ((S, T), Y) _
      obtain ⟨rfl, rfl⟩ := Prod.mk.inj (Option.some.inj h)
      exact go_ireturn (by decide +kernel) rfl rfl ⟨rfl, rfl⟩
    · refine go_if_lt (off := 32) (tgt := 48) (by decide +kernel) (by decide) (fun z => absurd z q2) (fun _ => ?_)
      refine go_blk rfl [(.iload_n 1, 1, 1, 0, 0, .inl 0), (.bipush 20, 2, 0, 0, 0, .inl 20)] 19 22 _ _ _ (by decide +kernel) ?_
      show Go _ _ _ _ _ _ 22 [(0, rc 0), (1, vi a0), (2, vi a1), (3, vi a2)] [vi 20, vi a0] ((S, T), Y) _
      refine ite_el h (fun q3 h => ?_) (fun q3 h => ?_)
      · refine go_icmp_gt (off := 26) (tgt := 48) (by decide +kernel) (by decide) (fun _ => ?_) (fun z => absurd q3 z)
        refine go_blk rfl [(.bipush (-2), 2, 0, 0, 0, .inl (-2))] 48 50 _ _ _ (by decide +kernel) ?_
        show Go _ _ _ _ _ _ 50 [(0, rc 0), (1, vi a0), (2, vi a1), (3, vi a2)] [vi ((-2))] ((S, T), Y) _
        obtain ⟨rfl, rfl⟩ := Prod.mk.inj (Option.some.inj h)
        exact go_ireturn (by decide +kernel) rfl rfl ⟨rfl, rfl⟩
      · refine go_icmp_gt (off := 26) (tgt := 48) (by decide +kernel) (by decide) (fun z => absurd z q3) (fun _ => ?_)
        refine go_blk rfl [(.aload_n 0, 1, 0, 0, 0, .inl 0), (.getfield 45, 3, 10, 5, 1, .inl 0), (.getfield 102, 3, 0, 1, 1, .inl 0), (.iload_n 2, 1, 2, 0, 0, .inl 0)] 25 33 _ _ _ (by decide +kernel) ?_
        refine And.intro (lc_t0 hT) (Exists.intro _ (And.intro (gRc (lc_r10_5 hT)) ?_))
        refine And.intro (lc_b100 hT).1 (Exists.intro _ (And.intro (gRc (lc_b100 hT).2.2.1.1) ?_))
        show Go _ _ _ _ _ _ 33 [(0, rc 0), (1, vi a0), (2, vi a1), (3, vi a2)] [vi a1, rc (100 + 8)] ((S, T), Y) _
        obtain ⟨r1, hr1, h⟩ := bind_el h
        refine go_callV (idx := 129) (z := 1) (M' := M4_hasGuest) (n := 1) (A := [vi a1]) (v' := some (vi r1)) (μ' := ((S, T), Y)) (d' := 1) (mc' := 0) (ms' := 0) (kc' := 0) (ks' := 0) (ci := 4) (x := .inl (100 + 8)) (by decide +kernel) ml_10_129 rfl wv4_hasGuest rfl (by decide) rfl ((lc_b100 hT).2.2.1.2).1 (ret4_hasGuest ((lc_b100 hT).2.2.1.2) hr1) (by decide) rfl rfl (Nat.le_of_ble_eq_true rfl) rfl (jag rfl rfl) ?_
        show Go _ _ _ _ _ _ 36 [(0, rc 0), (1, vi a0), (2, vi a1), (3, vi a2)] [vi r1] ((S, T), Y) _
        refine ite_el h (fun q4 h => ?_) (fun q4 h => ?_)
        · refine go_if_eq (off := 12) (tgt := 48) (by decide +kernel) (by decide) (fun _ => ?_) (fun z => absurd q4 z)
          refine go_blk rfl [(.bipush (-2), 2, 0, 0, 0, .inl (-2))] 48 50 _ _ _ (by decide +kernel) ?_
          show Go _ _ _ _ _ _ 50 [(0, rc 0), (1, vi a0), (2, vi a1), (3, vi a2)] [vi ((-2))] ((S, T), Y) _
          obtain ⟨rfl, rfl⟩ := Prod.mk.inj (Option.some.inj h)
          exact go_ireturn (by decide +kernel) rfl rfl ⟨rfl, rfl⟩
        · refine go_if_eq (off := 12) (tgt := 48) (by decide +kernel) (by decide) (fun z => absurd z q4) (fun _ => ?_)
          refine go_blk rfl [(.iload_n 3, 1, 3, 0, 0, .inl 0)] 39 40 _ _ _ (by decide +kernel) ?_
          show Go _ _ _ _ _ _ 40 [(0, rc 0), (1, vi a0), (2, vi a1), (3, vi a2)] [vi a2] ((S, T), Y) _
          refine ite_el h (fun q5 h => ?_) (fun q5 h => ?_)
          · refine go_if_lt (off := 8) (tgt := 48) (by decide +kernel) (by decide) (fun _ => ?_) (fun z => absurd q5 z)
            refine go_blk rfl [(.bipush (-2), 2, 0, 0, 0, .inl (-2))] 48 50 _ _ _ (by decide +kernel) ?_
            show Go _ _ _ _ _ _ 50 [(0, rc 0), (1, vi a0), (2, vi a1), (3, vi a2)] [vi ((-2))] ((S, T), Y) _
            obtain ⟨rfl, rfl⟩ := Prod.mk.inj (Option.some.inj h)
            exact go_ireturn (by decide +kernel) rfl rfl ⟨rfl, rfl⟩
          · refine go_if_lt (off := 8) (tgt := 48) (by decide +kernel) (by decide) (fun z => absurd z q5) (fun _ => ?_)
            refine go_blk rfl [(.iload_n 3, 1, 3, 0, 0, .inl 0), (.iconst 1, 1, 0, 0, 0, .inl 1)] 43 45 _ _ _ (by decide +kernel) ?_
            show Go _ _ _ _ _ _ 45 [(0, rc 0), (1, vi a0), (2, vi a1), (3, vi a2)] [vi 1, vi a2] ((S, T), Y) _
            refine ite_el h (fun q6 h => ?_) (fun q6 h => ?_)
            · refine go_icmp_le (off := 6) (tgt := 51) (by decide +kernel) (by decide) (fun _ => ?_) (fun z => absurd q6 z)
              refine go_blk rfl [(.aload_n 0, 1, 0, 0, 0, .inl 0), (.getfield 45, 3, 10, 5, 1, .inl 0), (.iload_n 1, 1, 1, 0, 0, .inl 0), (.iload_n 2, 1, 2, 0, 0, .inl 0), (.iload_n 3, 1, 3, 0, 0, .inl 0)] 51 58 _ _ _ (by decide +kernel) ?_
              refine And.intro (lc_t0 hT) (Exists.intro _ (And.intro (gRc (lc_r10_5 hT)) ?_))
              show Go _ _ _ _ _ _ 58 [(0, rc 0), (1, vi a0), (2, vi a1), (3, vi a2)] [vi a2, vi a1, vi a0, rc 100] ((S, T), Y) _
              obtain ⟨r2, hr2, h⟩ := bind_el h
              refine go_callV (idx := 289) (z := 1) (M' := M0_addNote) (n := 3) (A := [vi a0, vi a1, vi a2]) (v' := some (vi r2.2)) (μ' := ((r2.1, T), Y)) (d' := 1) (mc' := 0) (ms' := 0) (kc' := 0) (ks' := 0) (ci := 0) (x := .inl 100) (by decide +kernel) ml_10_289 rfl wv0_addNote rfl (by decide) rfl (lc_b100 hT).1 (ret0_addNote (lc_b100 hT) hr2) (by decide) rfl rfl (Nat.le_of_ble_eq_true rfl) rfl (jag rfl rfl) ?_
              show Go _ _ _ _ _ _ 61 [(0, rc 0), (1, vi a0), (2, vi a1), (3, vi a2)] [vi r2.2] ((r2.1, T), Y) _
              refine ite_el h (fun q7 h => ?_) (fun q7 h => ?_)
              · refine go_if_eq (off := 13) (tgt := 74) (by decide +kernel) (by decide) (fun _ => ?_) (fun z => absurd q7 z)
                refine go_blk rfl [(.bipush (-2), 2, 0, 0, 0, .inl (-2))] 74 76 _ _ _ (by decide +kernel) ?_
                show Go _ _ _ _ _ _ 76 [(0, rc 0), (1, vi a0), (2, vi a1), (3, vi a2)] [vi ((-2))] ((r2.1, T), Y) _
                obtain ⟨rfl, rfl⟩ := Prod.mk.inj (Option.some.inj h)
                exact go_ireturn (by decide +kernel) rfl rfl ⟨rfl, rfl⟩
              · refine go_if_eq (off := 13) (tgt := 74) (by decide +kernel) (by decide) (fun z => absurd z q7) (fun _ => ?_)
                refine go_blk rfl [(.aload_n 0, 1, 0, 0, 0, .inl 0), (.getfield 45, 3, 10, 5, 1, .inl 0), (.getfield 286, 3, 0, 8, 0, .inl 0)] 64 71 _ _ _ (by decide +kernel) ?_
                refine And.intro (lc_t0 hT) (Exists.intro _ (And.intro (gRc (lc_r10_5 hT)) ?_))
                refine And.intro (lc_b100 hT).1 ?_
                show Go _ _ _ _ _ _ 71 [(0, rc 0), (1, vi a0), (2, vi a1), (3, vi a2)] [vi (r2.1.1 100 8)] ((r2.1, T), Y) _
                refine go_goto (off := 5) (tgt := 76) (by decide +kernel) (by decide) ?_
                obtain ⟨rfl, rfl⟩ := Prod.mk.inj (Option.some.inj h)
                exact go_ireturn (by decide +kernel) rfl rfl ⟨rfl, rfl⟩
            · refine go_icmp_le (off := 6) (tgt := 51) (by decide +kernel) (by decide) (fun z => absurd z q6) (fun _ => ?_)
              refine go_blk rfl [(.bipush (-2), 2, 0, 0, 0, .inl (-2))] 48 50 _ _ _ (by decide +kernel) ?_
              show Go _ _ _ _ _ _ 50 [(0, rc 0), (1, vi a0), (2, vi a1), (3, vi a2)] [vi ((-2))] ((S, T), Y) _
              obtain ⟨rfl, rfl⟩ := Prod.mk.inj (Option.some.inj h)
              exact go_ireturn (by decide +kernel) rfl rfl ⟨rfl, rfl⟩
def f10_ruled_L1 (T : jT) (l1 : Int32) : Nat → jS → Int32 → Int32 → Int32 → Option (jS × Int32 × Int32)
  | 0, _, _, _, _ => none
  | n + 1, S, l2, l3, l4 => (if l4 < ((-1)) then some (S, l2, l3) else Option.bind (f10_ruleOf T S l4) (fun r2 => Option.bind (f1_ruleFits T S 100 r2) (fun r3 => f10_ruled_L1 T l1 n r3.1 (((if r3.2 = 0 then l2 else (l2 + 1)) : Int32)) (((if r3.2 = 0 then l3 else l4) : Int32)) (l4 + (-1)))))
def f10_ruled (T : jT) (S : jS) (a0 : Int32) : Option (jS × Int32) := Option.bind (f4_isTold S (100 + 1)) (fun r1 => (if r1 = 0 then some (S, (-3)) else (if a0 < 0 then some (S, (-3)) else (if a0 ≤ 1 then Option.bind (f10_ruled_L1 T a0 jF S 0 ((-2)) ((S.1 0 4) - 1)) (fun y4 => (if a0 = 0 then some (y4.1, y4.2.1) else some (y4.1, y4.2.2))) else some (S, (-3))))))
theorem f10_ruled_L1_ok {T : jT} {Y : jS × jT} {l1 : Int32} {Q : Option jV → jMem → Prop} (hT : LayC T) : ∀ (n : Nat) (S : jS) (l2 : Int32) (l3 : Int32) (l4 : Int32) (r : (jS × Int32 × Int32)), f10_ruled_L1 T l1 n S l2 l3 l4 = some r → Go M10_ruled 8 0 0 0 0 76 [(1, vi l1), (2, vi r.2.1), (3, vi r.2.2)] [] ((r.1, T), Y) Q → Go M10_ruled 8 0 0 0 0 38 [(0, rc 0), (1, vi l1), (2, vi l2), (3, vi l3), (4, vi l4)] [] ((S, T), Y) Q := by
  intro n
  induction n with
  | zero => intro S l2 l3 l4 r h k; exact absurd h (by intro z; cases z)
  | succ n ih =>
    intro S l2 l3 l4 r h k
    rw [f10_ruled_L1] at h
    refine go_blk rfl [(.iload 4, 2, 4, 0, 0, .inl 0), (.iconst (-1), 1, 0, 0, 0, .inl (-1))] 38 41 _ _ _ (by decide +kernel) ?_
    show Go _ _ _ _ _ _ 41 [(0, rc 0), (1, vi l1), (2, vi l2), (3, vi l3), (4, vi l4)] [vi ((-1)), vi l4] ((S, T), Y) _
    refine ite_el h (fun q4 h => ?_) (fun q4 h => ?_)
    · refine go_icmp_lt (off := 35) (tgt := 76) (by decide +kernel) (by decide) (fun _ => ?_) (fun z => absurd q4 z)
      obtain rfl := Option.some.inj h
      refine go_pick [1, 2, 3] rfl ?_
      exact k
    · refine go_icmp_lt (off := 35) (tgt := 76) (by decide +kernel) (by decide) (fun z => absurd z q4) (fun _ => ?_)
      refine go_blk rfl [(.aload_n 0, 1, 0, 0, 0, .inl 0), (.getfield 72, 3, 10, 9, 1, .inl 0), (.aload_n 0, 1, 0, 0, 0, .inl 0), (.getfield 45, 3, 10, 5, 1, .inl 0), (.aload_n 0, 1, 0, 0, 0, .inl 0), (.iload 4, 2, 4, 0, 0, .inl 0)] 44 55 _ _ _ (by decide +kernel) ?_
      refine And.intro (lc_t0 hT) (Exists.intro _ (And.intro (gRc (lc_r10_9 hT)) ?_))
      refine And.intro (lc_t0 hT) (Exists.intro _ (And.intro (gRc (lc_r10_5 hT)) ?_))
      show Go _ _ _ _ _ _ 55 [(0, rc 0), (1, vi l1), (2, vi l2), (3, vi l3), (4, vi l4)] [vi l4, rc 0, rc 100, rc 70] ((S, T), Y) _
      obtain ⟨r2, hr2, h⟩ := bind_el h
      refine go_callV (idx := 293) (z := 0) (M' := M10_ruleOf) (n := 1) (A := [vi l4]) (v' := some (vo r2)) (μ' := ((S, T), Y)) (d' := 1) (mc' := 0) (ms' := 0) (kc' := 0) (ks' := 0) (ci := 10) (x := .inl 0) (by decide +kernel) ml_10_293 rfl wv10_ruleOf rfl (by decide) rfl (lc_t0 hT) (ret10_ruleOf hT hr2) (by decide) rfl rfl (Nat.le_of_ble_eq_true rfl) rfl (jag rfl rfl) ?_
      show Go _ _ _ _ _ _ 58 [(0, rc 0), (1, vi l1), (2, vi l2), (3, vi l3), (4, vi l4)] [vo r2, rc 100, rc 70] ((S, T), Y) _
      obtain ⟨r3, hr3, h⟩ := bind_el h
      refine go_callV (idx := 297) (z := 1) (M' := M1_ruleFits) (n := 2) (A := [rc 100, vo r2]) (v' := some (vi r3.2)) (μ' := ((r3.1, T), Y)) (d' := 7) (mc' := 0) (ms' := 0) (kc' := 0) (ks' := 0) (ci := 1) (x := .inl 70) (by decide +kernel) ml_10_297 rfl wv1_ruleFits rfl (by decide) rfl (lc_t70 hT) (ret1_ruleFits hT (lc_b100 hT) (f10_ruleOf_lay hT hr2) hr3) (by decide) rfl rfl (Nat.le_of_ble_eq_true rfl) rfl (jag rfl rfl) ?_
      show Go _ _ _ _ _ _ 61 [(0, rc 0), (1, vi l1), (2, vi l2), (3, vi l3), (4, vi l4)] [vi r3.2] ((r3.1, T), Y) _
      have key : ∀ z0 : Int32, z0 = ((if r3.2 = 0 then l2 else (l2 + 1)) : Int32) → ∀ z1 : Int32, z1 = ((if r3.2 = 0 then l3 else l4) : Int32) → Go M10_ruled 8 0 0 0 0 70 [(0, rc 0), (1, vi l1), (2, vi z0), (3, vi z1), (4, vi l4)] [] ((r3.1, T), Y) Q := by
        intro z0 ez0 z1 ez1
        subst ez0
        subst ez1
        refine go_blk rfl [(.iinc 4 (-1), 3, 4, 0, 0, .inl (-1))] 70 73 _ _ _ (by decide +kernel) ?_
        show Go _ _ _ _ _ _ 73 [(4, vi (l4 + (-1))), (0, rc 0), (1, vi l1), (2, vi (((if r3.2 = 0 then l2 else (l2 + 1)) : Int32))), (3, vi (((if r3.2 = 0 then l3 else l4) : Int32)))] [] ((r3.1, T), Y) _
        refine go_goto (off := (-35)) (tgt := 38) (by decide +kernel) (by decide) ?_
        refine go_pick [1, 2, 3, 4, 0] rfl ?_
        exact ih _ _ _ _ _ h k
      clear h
      by_cases q5 : r3.2 = 0
      · refine go_if_eq (off := 9) (tgt := 70) (by decide +kernel) (by decide) (fun _ => ?_) (fun z => absurd q5 z)
        refine go_pick [0, 1, 2, 3, 4] rfl ?_; exact key _ (by rw [if_pos q5]) _ (by rw [if_pos q5])
      · refine go_if_eq (off := 9) (tgt := 70) (by decide +kernel) (by decide) (fun z => absurd z q5) (fun _ => ?_)
        refine go_blk rfl [(.iinc 2 1, 3, 2, 0, 0, .inl 1), (.iload 4, 2, 4, 0, 0, .inl 0), (.istore_n 3, 1, 3, 0, 0, .inl 0)] 64 70 _ _ _ (by decide +kernel) ?_
        show Go _ _ _ _ _ _ 70 [(3, vi l4), (2, vi (l2 + 1)), (0, rc 0), (1, vi l1), (4, vi l4)] [] ((r3.1, T), Y) _
        refine go_pick [2, 3, 1, 0, 4] rfl ?_; exact key _ (by rw [if_neg q5]) _ (by rw [if_neg q5])
theorem ret10_ruled {S : jS} {T : jT} {Y : jS × jT} {a0 : Int32} {S1 : jS} {x : Int32} (hT : LayC T) (h : f10_ruled T S a0 = some (S1, x)) : Ret M10_ruled 8 0 0 [rc 0, vi a0] ((S, T), Y) (some (vi x)) ((S1, T), Y) := by
  refine Ret.of (by decide +kernel) (Nat.le_of_ble_eq_true rfl) ?_
  unfold f10_ruled at h
  show Go _ _ _ _ _ _ 0 [(0, rc 0), (1, vi a0)] [] ((S, T), Y) _
  refine go_blk rfl [(.aload_n 0, 1, 0, 0, 0, .inl 0), (.getfield 45, 3, 10, 5, 1, .inl 0), (.getfield 263, 3, 0, 0, 1, .inl 0)] 0 7 _ _ _ (by decide +kernel) ?_
  refine And.intro (lc_t0 hT) (Exists.intro _ (And.intro (gRc (lc_r10_5 hT)) ?_))
  refine And.intro (lc_b100 hT).1 (Exists.intro _ (And.intro (gRc (lc_b100 hT).2.1.1) ?_))
  show Go _ _ _ _ _ _ 7 [(0, rc 0), (1, vi a0)] [rc (100 + 1)] ((S, T), Y) _
  obtain ⟨r1, hr1, h⟩ := bind_el h
  refine go_callV (idx := 154) (z := 1) (M' := M4_isTold) (n := 0) (A := []) (v' := some (vi r1)) (μ' := ((S, T), Y)) (d' := 1) (mc' := 0) (ms' := 0) (kc' := 0) (ks' := 0) (ci := 4) (x := .inl (100 + 1)) (by decide +kernel) ml_10_154 rfl wv4_isTold rfl (by decide) rfl ((lc_b100 hT).2.1.2).1 (ret4_isTold ((lc_b100 hT).2.1.2) hr1) (by decide) rfl rfl (Nat.le_of_ble_eq_true rfl) rfl (jag rfl rfl) ?_
  show Go _ _ _ _ _ _ 10 [(0, rc 0), (1, vi a0)] [vi r1] ((S, T), Y) _
  refine ite_el h (fun q1 h => ?_) (fun q1 h => ?_)
  · refine go_if_eq (off := 12) (tgt := 22) (by decide +kernel) (by decide) (fun _ => ?_) (fun z => absurd q1 z)
    refine go_blk rfl [(.bipush (-3), 2, 0, 0, 0, .inl (-3))] 22 24 _ _ _ (by decide +kernel) ?_
    show Go _ _ _ _ _ _ 24 [(0, rc 0), (1, vi a0)] [vi ((-3))] ((S, T), Y) _
    obtain ⟨rfl, rfl⟩ := Prod.mk.inj (Option.some.inj h)
    exact go_ireturn (by decide +kernel) rfl rfl ⟨rfl, rfl⟩
  · refine go_if_eq (off := 12) (tgt := 22) (by decide +kernel) (by decide) (fun z => absurd z q1) (fun _ => ?_)
    refine go_blk rfl [(.iload_n 1, 1, 1, 0, 0, .inl 0)] 13 14 _ _ _ (by decide +kernel) ?_
    show Go _ _ _ _ _ _ 14 [(0, rc 0), (1, vi a0)] [vi a0] ((S, T), Y) _
    refine ite_el h (fun q2 h => ?_) (fun q2 h => ?_)
    · refine go_if_lt (off := 8) (tgt := 22) (by decide +kernel) (by decide) (fun _ => ?_) (fun z => absurd q2 z)
      refine go_blk rfl [(.bipush (-3), 2, 0, 0, 0, .inl (-3))] 22 24 _ _ _ (by decide +kernel) ?_
      show Go _ _ _ _ _ _ 24 [(0, rc 0), (1, vi a0)] [vi ((-3))] ((S, T), Y) _
      obtain ⟨rfl, rfl⟩ := Prod.mk.inj (Option.some.inj h)
      exact go_ireturn (by decide +kernel) rfl rfl ⟨rfl, rfl⟩
    · refine go_if_lt (off := 8) (tgt := 22) (by decide +kernel) (by decide) (fun z => absurd z q2) (fun _ => ?_)
      refine go_blk rfl [(.iload_n 1, 1, 1, 0, 0, .inl 0), (.iconst 1, 1, 0, 0, 0, .inl 1)] 17 19 _ _ _ (by decide +kernel) ?_
      show Go _ _ _ _ _ _ 19 [(0, rc 0), (1, vi a0)] [vi 1, vi a0] ((S, T), Y) _
      refine ite_el h (fun q3 h => ?_) (fun q3 h => ?_)
      · refine go_icmp_le (off := 6) (tgt := 25) (by decide +kernel) (by decide) (fun _ => ?_) (fun z => absurd q3 z)
        refine go_blk rfl [(.iconst 0, 1, 0, 0, 0, .inl 0), (.istore_n 2, 1, 2, 0, 0, .inl 0), (.bipush (-2), 2, 0, 0, 0, .inl (-2)), (.istore_n 3, 1, 3, 0, 0, .inl 0), (.aload_n 0, 1, 0, 0, 0, .inl 0), (.getfield 38, 3, 10, 4, 0, .inl 0), (.iconst 1, 1, 0, 0, 0, .inl 1), (.isub, 1, 0, 0, 0, .inl 0), (.istore 4, 2, 4, 0, 0, .inl 0)] 25 38 _ _ _ (by decide +kernel) ?_
        refine And.intro (lc_t0 hT) ?_
        show Go _ _ _ _ _ _ 38 [(4, vi ((S.1 0 4) - 1)), (3, vi ((-2))), (2, vi 0), (0, rc 0), (1, vi a0)] [] ((S, T), Y) _
        refine go_pick [3, 4, 2, 1, 0] rfl ?_
        obtain ⟨y4, hy4, h⟩ := bind_el h
        refine f10_ruled_L1_ok hT _ _ _ _ _ _ hy4 ?_
        show Go _ _ _ _ _ _ 76 [(1, vi a0), (2, vi y4.2.1), (3, vi y4.2.2)] [] ((y4.1, T), Y) _
        refine go_blk rfl [(.iload_n 1, 1, 1, 0, 0, .inl 0)] 76 77 _ _ _ (by decide +kernel) ?_
        show Go _ _ _ _ _ _ 77 [(1, vi a0), (2, vi y4.2.1), (3, vi y4.2.2)] [vi a0] ((y4.1, T), Y) _
        refine ite_el h (fun q6 h => ?_) (fun q6 h => ?_)
        · refine go_if_ne (off := 7) (tgt := 84) (by decide +kernel) (by decide) (fun z => absurd q6 z) (fun _ => ?_)
          refine go_blk rfl [(.iload_n 2, 1, 2, 0, 0, .inl 0)] 80 81 _ _ _ (by decide +kernel) ?_
          show Go _ _ _ _ _ _ 81 [(1, vi a0), (2, vi y4.2.1), (3, vi y4.2.2)] [vi y4.2.1] ((y4.1, T), Y) _
          refine go_goto (off := 4) (tgt := 85) (by decide +kernel) (by decide) ?_
          obtain ⟨rfl, rfl⟩ := Prod.mk.inj (Option.some.inj h)
          exact go_ireturn (by decide +kernel) rfl rfl ⟨rfl, rfl⟩
        · refine go_if_ne (off := 7) (tgt := 84) (by decide +kernel) (by decide) (fun _ => ?_) (fun z => absurd z q6)
          refine go_blk rfl [(.iload_n 3, 1, 3, 0, 0, .inl 0)] 84 85 _ _ _ (by decide +kernel) ?_
          show Go _ _ _ _ _ _ 85 [(1, vi a0), (2, vi y4.2.1), (3, vi y4.2.2)] [vi y4.2.2] ((y4.1, T), Y) _
          obtain ⟨rfl, rfl⟩ := Prod.mk.inj (Option.some.inj h)
          exact go_ireturn (by decide +kernel) rfl rfl ⟨rfl, rfl⟩
      · refine go_icmp_le (off := 6) (tgt := 25) (by decide +kernel) (by decide) (fun z => absurd z q3) (fun _ => ?_)
        refine go_blk rfl [(.bipush (-3), 2, 0, 0, 0, .inl (-3))] 22 24 _ _ _ (by decide +kernel) ?_
        show Go _ _ _ _ _ _ 24 [(0, rc 0), (1, vi a0)] [vi ((-3))] ((S, T), Y) _
        obtain ⟨rfl, rfl⟩ := Prod.mk.inj (Option.some.inj h)
        exact go_ireturn (by decide +kernel) rfl rfl ⟨rfl, rfl⟩
def f10_look_L1 (T : jT) (l1 : Int32) (l2 : Int32) : Nat → jS → Int32 → Option jS
  | 0, _, _ => none
  | n + 1, S, l4 => (if (S.1 0 4) ≤ l4 then some S else Option.bind (f10_ruleOf T S l4) (fun r3 => Option.bind (f1_ruleFits T S 100 r3) (fun r4 => Option.bind (if r4.2 = 0 then some r4.1 else Option.bind (f1_countLook r4.1 l1) (fun r5 => some r5.1)) (fun (y6 : jS) => f10_look_L1 T l1 l2 n y6 (l4 + 1)))))
def f10_look (T : jT) (S : jS) (a0 : Int32) (a1 : Int32) : Option (jS × Int32) := Option.bind (f4_isTold S (100 + 1)) (fun r1 => (if r1 = 0 then some (S, (-1)) else (if a0 < 0 then some (S, (-1)) else (if 20 < a0 then some (S, (-1)) else (if a1 < 0 then some (S, (-1)) else (if a1 ≤ 1 then Option.bind (f1_startLook S) (fun r2 => Option.bind (f10_look_L1 T a0 a1 jF r2.1 ((-1))) (fun y7 => Option.bind (f1_bestLook y7 (y7.1 (100 + 1) 2)) (fun r8 => (if r8 = ((-1)) then some (y7, (-2)) else (if a1 = 0 then some (y7, r8) else Option.bind (f1_mostAlike y7 r8) (fun r9 => some (y7, r9))))))) else some (S, (-1))))))))
theorem f10_look_L1_ok {T : jT} {Y : jS × jT} {l1 : Int32} {l2 : Int32} {Q : Option jV → jMem → Prop} (hT : LayC T) : ∀ (n : Nat) (S : jS) (l4 : Int32) (r : jS), f10_look_L1 T l1 l2 n S l4 = some r → Go M10_look 8 0 0 0 0 89 [(0, rc 0), (2, vi l2), (3, rc (100 + 1))] [] ((r, T), Y) Q → Go M10_look 8 0 0 0 0 46 [(0, rc 0), (1, vi l1), (2, vi l2), (3, rc (100 + 1)), (4, vi l4)] [] ((S, T), Y) Q := by
  intro n
  induction n with
  | zero => intro S l4 r h k; exact absurd h (by intro z; cases z)
  | succ n ih =>
    intro S l4 r h k
    rw [f10_look_L1] at h
    refine go_blk rfl [(.iload 4, 2, 4, 0, 0, .inl 0), (.aload_n 0, 1, 0, 0, 0, .inl 0), (.getfield 38, 3, 10, 4, 0, .inl 0)] 46 52 _ _ _ (by decide +kernel) ?_
    refine And.intro (lc_t0 hT) ?_
    show Go _ _ _ _ _ _ 52 [(0, rc 0), (1, vi l1), (2, vi l2), (3, rc (100 + 1)), (4, vi l4)] [vi (S.1 0 4), vi l4] ((S, T), Y) _
    refine ite_el h (fun q6 h => ?_) (fun q6 h => ?_)
    · refine go_icmp_ge (off := 37) (tgt := 89) (by decide +kernel) (by decide) (fun _ => ?_) (fun z => absurd q6 z)
      obtain rfl := Option.some.inj h
      refine go_pick [0, 2, 3] rfl ?_
      exact k
    · refine go_icmp_ge (off := 37) (tgt := 89) (by decide +kernel) (by decide) (fun z => absurd z q6) (fun _ => ?_)
      refine go_blk rfl [(.aload_n 0, 1, 0, 0, 0, .inl 0), (.getfield 72, 3, 10, 9, 1, .inl 0), (.aload_n 0, 1, 0, 0, 0, .inl 0), (.getfield 45, 3, 10, 5, 1, .inl 0), (.aload_n 0, 1, 0, 0, 0, .inl 0), (.iload 4, 2, 4, 0, 0, .inl 0)] 55 66 _ _ _ (by decide +kernel) ?_
      refine And.intro (lc_t0 hT) (Exists.intro _ (And.intro (gRc (lc_r10_9 hT)) ?_))
      refine And.intro (lc_t0 hT) (Exists.intro _ (And.intro (gRc (lc_r10_5 hT)) ?_))
      show Go _ _ _ _ _ _ 66 [(0, rc 0), (1, vi l1), (2, vi l2), (3, rc (100 + 1)), (4, vi l4)] [vi l4, rc 0, rc 100, rc 70] ((S, T), Y) _
      obtain ⟨r3, hr3, h⟩ := bind_el h
      refine go_callV (idx := 293) (z := 0) (M' := M10_ruleOf) (n := 1) (A := [vi l4]) (v' := some (vo r3)) (μ' := ((S, T), Y)) (d' := 1) (mc' := 0) (ms' := 0) (kc' := 0) (ks' := 0) (ci := 10) (x := .inl 0) (by decide +kernel) ml_10_293 rfl wv10_ruleOf rfl (by decide) rfl (lc_t0 hT) (ret10_ruleOf hT hr3) (by decide) rfl rfl (Nat.le_of_ble_eq_true rfl) rfl (jag rfl rfl) ?_
      show Go _ _ _ _ _ _ 69 [(0, rc 0), (1, vi l1), (2, vi l2), (3, rc (100 + 1)), (4, vi l4)] [vo r3, rc 100, rc 70] ((S, T), Y) _
      obtain ⟨r4, hr4, h⟩ := bind_el h
      refine go_callV (idx := 297) (z := 1) (M' := M1_ruleFits) (n := 2) (A := [rc 100, vo r3]) (v' := some (vi r4.2)) (μ' := ((r4.1, T), Y)) (d' := 7) (mc' := 0) (ms' := 0) (kc' := 0) (ks' := 0) (ci := 1) (x := .inl 70) (by decide +kernel) ml_10_297 rfl wv1_ruleFits rfl (by decide) rfl (lc_t70 hT) (ret1_ruleFits hT (lc_b100 hT) (f10_ruleOf_lay hT hr3) hr4) (by decide) rfl rfl (Nat.le_of_ble_eq_true rfl) rfl (jag rfl rfl) ?_
      show Go _ _ _ _ _ _ 72 [(0, rc 0), (1, vi l1), (2, vi l2), (3, rc (100 + 1)), (4, vi l4)] [vi r4.2] ((r4.1, T), Y) _
      obtain ⟨y6, hy6, h⟩ := bind_el h
      have key : Go M10_look 8 0 0 0 0 83 [(0, rc 0), (1, vi l1), (2, vi l2), (3, rc (100 + 1)), (4, vi l4)] [] ((y6, T), Y) Q := by
        refine go_blk rfl [(.iinc 4 1, 3, 4, 0, 0, .inl 1)] 83 86 _ _ _ (by decide +kernel) ?_
        show Go _ _ _ _ _ _ 86 [(4, vi (l4 + 1)), (0, rc 0), (1, vi l1), (2, vi l2), (3, rc (100 + 1))] [] ((y6, T), Y) _
        refine go_goto (off := (-40)) (tgt := 46) (by decide +kernel) (by decide) ?_
        refine go_pick [1, 2, 3, 4, 0] rfl ?_
        exact ih _ _ _ h k
      replace h := hy6
      refine ite_el h (fun q7 h => ?_) (fun q7 h => ?_)
      · refine go_if_eq (off := 11) (tgt := 83) (by decide +kernel) (by decide) (fun _ => ?_) (fun z => absurd q7 z)
        obtain rfl := Option.some.inj h
        refine go_pick [0, 1, 2, 3, 4] rfl ?_
        exact key
      · refine go_if_eq (off := 11) (tgt := 83) (by decide +kernel) (by decide) (fun z => absurd z q7) (fun _ => ?_)
        refine go_blk rfl [(.aload_n 0, 1, 0, 0, 0, .inl 0), (.getfield 72, 3, 10, 9, 1, .inl 0), (.iload_n 1, 1, 1, 0, 0, .inl 0)] 75 80 _ _ _ (by decide +kernel) ?_
        refine And.intro (lc_t0 hT) (Exists.intro _ (And.intro (gRc (lc_r10_9 hT)) ?_))
        show Go _ _ _ _ _ _ 80 [(0, rc 0), (1, vi l1), (2, vi l2), (3, rc (100 + 1)), (4, vi l4)] [vi l1, rc 70] ((r4.1, T), Y) _
        obtain ⟨r5, hr5, h⟩ := bind_el h
        refine go_callV (idx := 304) (z := 1) (M' := M1_countLook) (n := 1) (A := [vi l1]) (v' := none) (μ' := ((r5.1, T), Y)) (d' := 1) (mc' := 0) (ms' := 0) (kc' := 0) (ks' := 0) (ci := 1) (x := .inl 70) (by decide +kernel) ml_10_304 rfl wv1_countLook rfl (by decide) rfl (lc_t70 hT) (ret1_countLook hT hr5) (by decide) rfl rfl (Nat.le_of_ble_eq_true rfl) rfl (jag rfl rfl) ?_
        show Go _ _ _ _ _ _ 83 [(0, rc 0), (1, vi l1), (2, vi l2), (3, rc (100 + 1)), (4, vi l4)] [] ((r5.1, T), Y) _
        obtain rfl := Option.some.inj h
        refine go_pick [0, 1, 2, 3, 4] rfl ?_
        exact key
theorem ret10_look {S : jS} {T : jT} {Y : jS × jT} {a0 : Int32} {a1 : Int32} {S1 : jS} {x : Int32} (hT : LayC T) (h : f10_look T S a0 a1 = some (S1, x)) : Ret M10_look 8 0 0 [rc 0, vi a0, vi a1] ((S, T), Y) (some (vi x)) ((S1, T), Y) := by
  refine Ret.of (by decide +kernel) (Nat.le_of_ble_eq_true rfl) ?_
  unfold f10_look at h
  show Go _ _ _ _ _ _ 0 [(0, rc 0), (1, vi a0), (2, vi a1)] [] ((S, T), Y) _
  refine go_blk rfl [(.aload_n 0, 1, 0, 0, 0, .inl 0), (.getfield 45, 3, 10, 5, 1, .inl 0), (.getfield 263, 3, 0, 0, 1, .inl 0), (.astore_n 3, 1, 3, 0, 0, .inl 0), (.aload_n 3, 1, 3, 0, 0, .inl 0)] 0 9 _ _ _ (by decide +kernel) ?_
  refine And.intro (lc_t0 hT) (Exists.intro _ (And.intro (gRc (lc_r10_5 hT)) ?_))
  refine And.intro (lc_b100 hT).1 (Exists.intro _ (And.intro (gRc (lc_b100 hT).2.1.1) ?_))
  show Go _ _ _ _ _ _ 9 [(3, rc (100 + 1)), (0, rc 0), (1, vi a0), (2, vi a1)] [rc (100 + 1)] ((S, T), Y) _
  obtain ⟨r1, hr1, h⟩ := bind_el h
  refine go_callV (idx := 154) (z := 1) (M' := M4_isTold) (n := 0) (A := []) (v' := some (vi r1)) (μ' := ((S, T), Y)) (d' := 1) (mc' := 0) (ms' := 0) (kc' := 0) (ks' := 0) (ci := 4) (x := .inl (100 + 1)) (by decide +kernel) ml_10_154 rfl wv4_isTold rfl (by decide) rfl ((lc_b100 hT).2.1.2).1 (ret4_isTold ((lc_b100 hT).2.1.2) hr1) (by decide) rfl rfl (Nat.le_of_ble_eq_true rfl) rfl (jag rfl rfl) ?_
  show Go _ _ _ _ _ _ 12 [(3, rc (100 + 1)), (0, rc 0), (1, vi a0), (2, vi a1)] [vi r1] ((S, T), Y) _
  refine ite_el h (fun q1 h => ?_) (fun q1 h => ?_)
  · refine go_if_eq (off := 22) (tgt := 34) (by decide +kernel) (by decide) (fun _ => ?_) (fun z => absurd q1 z)
    refine go_blk rfl [(.iconst (-1), 1, 0, 0, 0, .inl (-1))] 34 35 _ _ _ (by decide +kernel) ?_
    show Go _ _ _ _ _ _ 35 [(3, rc (100 + 1)), (0, rc 0), (1, vi a0), (2, vi a1)] [vi ((-1))] ((S, T), Y) _
    obtain ⟨rfl, rfl⟩ := Prod.mk.inj (Option.some.inj h)
    exact go_ireturn (by decide +kernel) rfl rfl ⟨rfl, rfl⟩
  · refine go_if_eq (off := 22) (tgt := 34) (by decide +kernel) (by decide) (fun z => absurd z q1) (fun _ => ?_)
    refine go_blk rfl [(.iload_n 1, 1, 1, 0, 0, .inl 0)] 15 16 _ _ _ (by decide +kernel) ?_
    show Go _ _ _ _ _ _ 16 [(3, rc (100 + 1)), (0, rc 0), (1, vi a0), (2, vi a1)] [vi a0] ((S, T), Y) _
    refine ite_el h (fun q2 h => ?_) (fun q2 h => ?_)
    · refine go_if_lt (off := 18) (tgt := 34) (by decide +kernel) (by decide) (fun _ => ?_) (fun z => absurd q2 z)
      refine go_blk rfl [(.iconst (-1), 1, 0, 0, 0, .inl (-1))] 34 35 _ _ _ (by decide +kernel) ?_
      show Go _ _ _ _ _ _ 35 [(3, rc (100 + 1)), (0, rc 0), (1, vi a0), (2, vi a1)] [vi ((-1))] ((S, T), Y) _
      obtain ⟨rfl, rfl⟩ := Prod.mk.inj (Option.some.inj h)
      exact go_ireturn (by decide +kernel) rfl rfl ⟨rfl, rfl⟩
    · refine go_if_lt (off := 18) (tgt := 34) (by decide +kernel) (by decide) (fun z => absurd z q2) (fun _ => ?_)
      refine go_blk rfl [(.iload_n 1, 1, 1, 0, 0, .inl 0), (.bipush 20, 2, 0, 0, 0, .inl 20)] 19 22 _ _ _ (by decide +kernel) ?_
      show Go _ _ _ _ _ _ 22 [(3, rc (100 + 1)), (0, rc 0), (1, vi a0), (2, vi a1)] [vi 20, vi a0] ((S, T), Y) _
      refine ite_el h (fun q3 h => ?_) (fun q3 h => ?_)
      · refine go_icmp_gt (off := 12) (tgt := 34) (by decide +kernel) (by decide) (fun _ => ?_) (fun z => absurd q3 z)
        refine go_blk rfl [(.iconst (-1), 1, 0, 0, 0, .inl (-1))] 34 35 _ _ _ (by decide +kernel) ?_
        show Go _ _ _ _ _ _ 35 [(3, rc (100 + 1)), (0, rc 0), (1, vi a0), (2, vi a1)] [vi ((-1))] ((S, T), Y) _
        obtain ⟨rfl, rfl⟩ := Prod.mk.inj (Option.some.inj h)
        exact go_ireturn (by decide +kernel) rfl rfl ⟨rfl, rfl⟩
      · refine go_icmp_gt (off := 12) (tgt := 34) (by decide +kernel) (by decide) (fun z => absurd z q3) (fun _ => ?_)
        refine go_blk rfl [(.iload_n 2, 1, 2, 0, 0, .inl 0)] 25 26 _ _ _ (by decide +kernel) ?_
        show Go _ _ _ _ _ _ 26 [(3, rc (100 + 1)), (0, rc 0), (1, vi a0), (2, vi a1)] [vi a1] ((S, T), Y) _
        refine ite_el h (fun q4 h => ?_) (fun q4 h => ?_)
        · refine go_if_lt (off := 8) (tgt := 34) (by decide +kernel) (by decide) (fun _ => ?_) (fun z => absurd q4 z)
          refine go_blk rfl [(.iconst (-1), 1, 0, 0, 0, .inl (-1))] 34 35 _ _ _ (by decide +kernel) ?_
          show Go _ _ _ _ _ _ 35 [(3, rc (100 + 1)), (0, rc 0), (1, vi a0), (2, vi a1)] [vi ((-1))] ((S, T), Y) _
          obtain ⟨rfl, rfl⟩ := Prod.mk.inj (Option.some.inj h)
          exact go_ireturn (by decide +kernel) rfl rfl ⟨rfl, rfl⟩
        · refine go_if_lt (off := 8) (tgt := 34) (by decide +kernel) (by decide) (fun z => absurd z q4) (fun _ => ?_)
          refine go_blk rfl [(.iload_n 2, 1, 2, 0, 0, .inl 0), (.iconst 1, 1, 0, 0, 0, .inl 1)] 29 31 _ _ _ (by decide +kernel) ?_
          show Go _ _ _ _ _ _ 31 [(3, rc (100 + 1)), (0, rc 0), (1, vi a0), (2, vi a1)] [vi 1, vi a1] ((S, T), Y) _
          refine ite_el h (fun q5 h => ?_) (fun q5 h => ?_)
          · refine go_icmp_le (off := 5) (tgt := 36) (by decide +kernel) (by decide) (fun _ => ?_) (fun z => absurd q5 z)
            refine go_blk rfl [(.aload_n 0, 1, 0, 0, 0, .inl 0), (.getfield 72, 3, 10, 9, 1, .inl 0)] 36 40 _ _ _ (by decide +kernel) ?_
            refine And.intro (lc_t0 hT) (Exists.intro _ (And.intro (gRc (lc_r10_9 hT)) ?_))
            show Go _ _ _ _ _ _ 40 [(3, rc (100 + 1)), (0, rc 0), (1, vi a0), (2, vi a1)] [rc 70] ((S, T), Y) _
            obtain ⟨r2, hr2, h⟩ := bind_el h
            refine go_callV (idx := 301) (z := 1) (M' := M1_startLook) (n := 0) (A := []) (v' := none) (μ' := ((r2.1, T), Y)) (d' := 2) (mc' := 0) (ms' := 0) (kc' := 0) (ks' := 0) (ci := 1) (x := .inl 70) (by decide +kernel) ml_10_301 rfl wv1_startLook rfl (by decide) rfl (lc_t70 hT) (ret1_startLook hT hr2) (by decide) rfl rfl (Nat.le_of_ble_eq_true rfl) rfl (jag rfl rfl) ?_
            show Go _ _ _ _ _ _ 43 [(3, rc (100 + 1)), (0, rc 0), (1, vi a0), (2, vi a1)] [] ((r2.1, T), Y) _
            refine go_blk rfl [(.iconst (-1), 1, 0, 0, 0, .inl (-1)), (.istore 4, 2, 4, 0, 0, .inl 0)] 43 46 _ _ _ (by decide +kernel) ?_
            show Go _ _ _ _ _ _ 46 [(4, vi ((-1))), (3, rc (100 + 1)), (0, rc 0), (1, vi a0), (2, vi a1)] [] ((r2.1, T), Y) _
            refine go_pick [2, 3, 4, 1, 0] rfl ?_
            obtain ⟨y7, hy7, h⟩ := bind_el h
            refine f10_look_L1_ok hT _ _ _ _ hy7 ?_
            show Go _ _ _ _ _ _ 89 [(0, rc 0), (2, vi a1), (3, rc (100 + 1))] [] ((y7, T), Y) _
            refine go_blk rfl [(.aload_n 0, 1, 0, 0, 0, .inl 0), (.getfield 72, 3, 10, 9, 1, .inl 0), (.aload_n 3, 1, 3, 0, 0, .inl 0), (.getfield 105, 3, 4, 2, 0, .inl 0)] 89 97 _ _ _ (by decide +kernel) ?_
            refine And.intro (lc_t0 hT) (Exists.intro _ (And.intro (gRc (lc_r10_9 hT)) ?_))
            refine And.intro ((lc_b100 hT).2.1.2).1 ?_
            show Go _ _ _ _ _ _ 97 [(0, rc 0), (2, vi a1), (3, rc (100 + 1))] [vi (y7.1 (100 + 1) 2), rc 70] ((y7, T), Y) _
            obtain ⟨r8, hr8, h⟩ := bind_el h
            refine go_callV (idx := 307) (z := 1) (M' := M1_bestLook) (n := 1) (A := [vi (y7.1 (100 + 1) 2)]) (v' := some (vi r8)) (μ' := ((y7, T), Y)) (d' := 3) (mc' := 0) (ms' := 0) (kc' := 0) (ks' := 0) (ci := 1) (x := .inl 70) (by decide +kernel) ml_10_307 rfl wv1_bestLook rfl (by decide) rfl (lc_t70 hT) (ret1_bestLook hT hr8) (by decide) rfl rfl (Nat.le_of_ble_eq_true rfl) rfl (jag rfl rfl) ?_
            show Go _ _ _ _ _ _ 100 [(0, rc 0), (2, vi a1), (3, rc (100 + 1))] [vi r8] ((y7, T), Y) _
            refine go_blk rfl [(.istore 4, 2, 4, 0, 0, .inl 0), (.iload 4, 2, 4, 0, 0, .inl 0), (.iconst (-1), 1, 0, 0, 0, .inl (-1))] 100 105 _ _ _ (by decide +kernel) ?_
            show Go _ _ _ _ _ _ 105 [(4, vi r8), (0, rc 0), (2, vi a1), (3, rc (100 + 1))] [vi ((-1)), vi r8] ((y7, T), Y) _
            refine ite_el h (fun q8 h => ?_) (fun q8 h => ?_)
            · refine go_icmp_ne (off := 6) (tgt := 111) (by decide +kernel) (by decide) (fun z => absurd q8 z) (fun _ => ?_)
              refine go_blk rfl [(.bipush (-2), 2, 0, 0, 0, .inl (-2))] 108 110 _ _ _ (by decide +kernel) ?_
              show Go _ _ _ _ _ _ 110 [(4, vi r8), (0, rc 0), (2, vi a1), (3, rc (100 + 1))] [vi ((-2))] ((y7, T), Y) _
              obtain ⟨rfl, rfl⟩ := Prod.mk.inj (Option.some.inj h)
              exact go_ireturn (by decide +kernel) rfl rfl ⟨rfl, rfl⟩
            · refine go_icmp_ne (off := 6) (tgt := 111) (by decide +kernel) (by decide) (fun _ => ?_) (fun z => absurd z q8)
              refine go_blk rfl [(.iload_n 2, 1, 2, 0, 0, .inl 0)] 111 112 _ _ _ (by decide +kernel) ?_
              show Go _ _ _ _ _ _ 112 [(4, vi r8), (0, rc 0), (2, vi a1), (3, rc (100 + 1))] [vi a1] ((y7, T), Y) _
              refine ite_el h (fun q9 h => ?_) (fun q9 h => ?_)
              · refine go_if_ne (off := 8) (tgt := 120) (by decide +kernel) (by decide) (fun z => absurd q9 z) (fun _ => ?_)
                refine go_blk rfl [(.iload 4, 2, 4, 0, 0, .inl 0)] 115 117 _ _ _ (by decide +kernel) ?_
                show Go _ _ _ _ _ _ 117 [(4, vi r8), (0, rc 0), (2, vi a1), (3, rc (100 + 1))] [vi r8] ((y7, T), Y) _
                refine go_goto (off := 12) (tgt := 129) (by decide +kernel) (by decide) ?_
                obtain ⟨rfl, rfl⟩ := Prod.mk.inj (Option.some.inj h)
                exact go_ireturn (by decide +kernel) rfl rfl ⟨rfl, rfl⟩
              · refine go_if_ne (off := 8) (tgt := 120) (by decide +kernel) (by decide) (fun _ => ?_) (fun z => absurd z q9)
                refine go_blk rfl [(.aload_n 0, 1, 0, 0, 0, .inl 0), (.getfield 72, 3, 10, 9, 1, .inl 0), (.iload 4, 2, 4, 0, 0, .inl 0)] 120 126 _ _ _ (by decide +kernel) ?_
                refine And.intro (lc_t0 hT) (Exists.intro _ (And.intro (gRc (lc_r10_9 hT)) ?_))
                show Go _ _ _ _ _ _ 126 [(4, vi r8), (0, rc 0), (2, vi a1), (3, rc (100 + 1))] [vi r8, rc 70] ((y7, T), Y) _
                obtain ⟨r9, hr9, h⟩ := bind_el h
                refine go_callV (idx := 310) (z := 1) (M' := M1_mostAlike) (n := 1) (A := [vi r8]) (v' := some (vi r9)) (μ' := ((y7, T), Y)) (d' := 2) (mc' := 0) (ms' := 0) (kc' := 0) (ks' := 0) (ci := 1) (x := .inl 70) (by decide +kernel) ml_10_310 rfl wv1_mostAlike rfl (by decide) rfl (lc_t70 hT) (ret1_mostAlike hT hr9) (by decide) rfl rfl (Nat.le_of_ble_eq_true rfl) rfl (jag rfl rfl) ?_
                show Go _ _ _ _ _ _ 129 [(4, vi r8), (0, rc 0), (2, vi a1), (3, rc (100 + 1))] [vi r9] ((y7, T), Y) _
                obtain ⟨rfl, rfl⟩ := Prod.mk.inj (Option.some.inj h)
                exact go_ireturn (by decide +kernel) rfl rfl ⟨rfl, rfl⟩
          · refine go_icmp_le (off := 5) (tgt := 36) (by decide +kernel) (by decide) (fun z => absurd z q5) (fun _ => ?_)
            refine go_blk rfl [(.iconst (-1), 1, 0, 0, 0, .inl (-1))] 34 35 _ _ _ (by decide +kernel) ?_
            show Go _ _ _ _ _ _ 35 [(3, rc (100 + 1)), (0, rc 0), (1, vi a0), (2, vi a1)] [vi ((-1))] ((S, T), Y) _
            obtain ⟨rfl, rfl⟩ := Prod.mk.inj (Option.some.inj h)
            exact go_ireturn (by decide +kernel) rfl rfl ⟨rfl, rfl⟩
def f10_seed (S : jS) (a0 : Int32) : Option (jS × Int32) := (if 0 ≤ a0 then some (wI S 100 10 a0, S.1 100 10) else some (S, (-1)))
theorem ret10_seed {S : jS} {T : jT} {Y : jS × jT} {a0 : Int32} {S1 : jS} {x : Int32} (hT : LayC T) (h : f10_seed S a0 = some (S1, x)) : Ret M10_seed 1 0 0 [rc 0, vi a0] ((S, T), Y) (some (vi x)) ((S1, T), Y) := by
  refine Ret.of (by decide +kernel) (Nat.le_of_ble_eq_true rfl) ?_
  unfold f10_seed at h
  show Go _ _ _ _ _ _ 0 [(0, rc 0), (1, vi a0)] [] ((S, T), Y) _
  refine go_blk rfl [(.iload_n 1, 1, 1, 0, 0, .inl 0)] 0 1 _ _ _ (by decide +kernel) ?_
  show Go _ _ _ _ _ _ 1 [(0, rc 0), (1, vi a0)] [vi a0] ((S, T), Y) _
  refine ite_el h (fun q1 h => ?_) (fun q1 h => ?_)
  · refine go_if_ge (off := 5) (tgt := 6) (by decide +kernel) (by decide) (fun _ => ?_) (fun z => absurd q1 z)
    refine go_blk rfl [(.aload_n 0, 1, 0, 0, 0, .inl 0), (.getfield 45, 3, 10, 5, 1, .inl 0), (.getfield 313, 3, 0, 10, 0, .inl 0), (.istore_n 2, 1, 2, 0, 0, .inl 0), (.aload_n 0, 1, 0, 0, 0, .inl 0), (.getfield 45, 3, 10, 5, 1, .inl 0), (.iload_n 1, 1, 1, 0, 0, .inl 0), (.putfield 313, 3, 0, 10, 0, .inl 0)] 6 22 _ _ _ (by decide +kernel) ?_
    refine And.intro (lc_t0 hT) (Exists.intro _ (And.intro (gRc (lc_r10_5 hT)) ?_))
    refine And.intro (lc_b100 hT).1 ?_
    refine And.intro (lc_t0 hT) (Exists.intro _ (And.intro (gRc (lc_r10_5 hT)) ?_))
    refine And.intro (lc_b100 hT).1 (And.intro trivial ?_)
    show Go _ _ _ _ _ _ 22 [(2, vi (S.1 100 10)), (0, rc 0), (1, vi a0)] [] ((wI S 100 10 a0, T), Y) _
    refine go_blk rfl [(.iload_n 2, 1, 2, 0, 0, .inl 0)] 22 23 _ _ _ (by decide +kernel) ?_
    show Go _ _ _ _ _ _ 23 [(2, vi (S.1 100 10)), (0, rc 0), (1, vi a0)] [vi (S.1 100 10)] ((wI S 100 10 a0, T), Y) _
    obtain ⟨rfl, rfl⟩ := Prod.mk.inj (Option.some.inj h)
    exact go_ireturn (by decide +kernel) rfl rfl ⟨rfl, rfl⟩
  · refine go_if_ge (off := 5) (tgt := 6) (by decide +kernel) (by decide) (fun z => absurd z q1) (fun _ => ?_)
    refine go_blk rfl [(.iconst (-1), 1, 0, 0, 0, .inl (-1))] 4 5 _ _ _ (by decide +kernel) ?_
    show Go _ _ _ _ _ _ 5 [(0, rc 0), (1, vi a0)] [vi ((-1))] ((S, T), Y) _
    obtain ⟨rfl, rfl⟩ := Prod.mk.inj (Option.some.inj h)
    exact go_ireturn (by decide +kernel) rfl rfl ⟨rfl, rfl⟩
