def f10_tunes (S : jS) (a0 : Int32) (a1 : Int32) (a2 : Int32) : Option (jS × Int32) := Option.bind (f4_isTold S (100 + 8)) (fun r1 => (if r1 = 0 then some (S, (-2)) else (if a0 < 1 then some (S, (-2)) else (if 20 < a0 then some (S, (-2)) else (if a1 < 1 then some (S, (-2)) else (if a1 ≤ 60 then (if a2 = ((-1)) then Option.bind (f2_countTunes S (100 + 8) (S.1 100 10) a0 a1 (((if a2 = ((-1)) then ((-2)) else a2) : Int32))) (fun r2 => some (r2.1, r2.2)) else Option.bind (f4_hasGuest S (100 + 8) a2) (fun r3 => (if r3 = 0 then some (S, (-2)) else Option.bind (f2_countTunes S (100 + 8) (S.1 100 10) a0 a1 (((if a2 = ((-1)) then ((-2)) else a2) : Int32))) (fun r4 => some (r4.1, r4.2))))) else some (S, (-2))))))))
theorem ret10_tunes {S : jS} {T : jT} {Y : jS × jT} {a0 : Int32} {a1 : Int32} {a2 : Int32} {S1 : jS} {x : Int32} (hT : LayC T) (h : f10_tunes S a0 a1 a2 = some (S1, x)) : Ret M10_tunes 6 0 0 [rc 0, vi a0, vi a1, vi a2] ((S, T), Y) (some (vi x)) ((S1, T), Y) := by
  refine Ret.of (by decide +kernel) (Nat.le_of_ble_eq_true rfl) ?_
  unfold f10_tunes at h
  show Go _ _ _ _ _ _ 0 [(0, rc 0), (1, vi a0), (2, vi a1), (3, vi a2)] [] ((S, T), Y) _
  refine go_blk rfl [(.aload_n 0, 1, 0, 0, 0, .inl 0), (.getfield 45, 3, 10, 5, 1, .inl 0), (.getfield 102, 3, 0, 1, 1, .inl 0), (.astore 4, 2, 4, 0, 0, .inl 0), (.aload 4, 2, 4, 0, 0, .inl 0)] 0 11 _ _ _ (by decide +kernel) ?_
  refine And.intro (lc_t0 hT) (Exists.intro _ (And.intro (gRc (lc_r10_5 hT)) ?_))
  refine And.intro (lc_b100 hT).1 (Exists.intro _ (And.intro (gRc (lc_b100 hT).2.2.1.1) ?_))
  show Go _ _ _ _ _ _ 11 [(4, rc (100 + 8)), (0, rc 0), (1, vi a0), (2, vi a1), (3, vi a2)] [rc (100 + 8)] ((S, T), Y) _
  obtain ⟨r1, hr1, h⟩ := bind_el h
  refine go_callV (idx := 154) (z := 1) (M' := M4_isTold) (n := 0) (A := []) (v' := some (vi r1)) (μ' := ((S, T), Y)) (d' := 1) (mc' := 0) (ms' := 0) (kc' := 0) (ks' := 0) (ci := 4) (x := .inl (100 + 8)) (by decide +kernel) ml_10_154 rfl wv4_isTold rfl (by decide) rfl ((lc_b100 hT).2.2.1.2).1 (ret4_isTold ((lc_b100 hT).2.2.1.2) hr1) (by decide) rfl rfl (Nat.le_of_ble_eq_true rfl) rfl (jag rfl rfl) ?_
  show Go _ _ _ _ _ _ 14 [(4, rc (100 + 8)), (0, rc 0), (1, vi a0), (2, vi a1), (3, vi a2)] [vi r1] ((S, T), Y) _
  refine ite_el h (fun q1 h => ?_) (fun q1 h => ?_)
  · refine go_if_eq (off := 25) (tgt := 39) (by decide +kernel) (by decide) (fun _ => ?_) (fun z => absurd q1 z)
    refine go_blk rfl [(.bipush (-2), 2, 0, 0, 0, .inl (-2))] 39 41 _ _ _ (by decide +kernel) ?_
    show Go _ _ _ _ _ _ 41 [(4, rc (100 + 8)), (0, rc 0), (1, vi a0), (2, vi a1), (3, vi a2)] [vi ((-2))] ((S, T), Y) _
    obtain ⟨rfl, rfl⟩ := Prod.mk.inj (Option.some.inj h)
    exact go_ireturn (by decide +kernel) rfl rfl ⟨rfl, rfl⟩
  · refine go_if_eq (off := 25) (tgt := 39) (by decide +kernel) (by decide) (fun z => absurd z q1) (fun _ => ?_)
    refine go_blk rfl [(.iload_n 1, 1, 1, 0, 0, .inl 0), (.iconst 1, 1, 0, 0, 0, .inl 1)] 17 19 _ _ _ (by decide +kernel) ?_
    show Go _ _ _ _ _ _ 19 [(4, rc (100 + 8)), (0, rc 0), (1, vi a0), (2, vi a1), (3, vi a2)] [vi 1, vi a0] ((S, T), Y) _
    refine ite_el h (fun q2 h => ?_) (fun q2 h => ?_)
    · refine go_icmp_lt (off := 20) (tgt := 39) (by decide +kernel) (by decide) (fun _ => ?_) (fun z => absurd q2 z)
      refine go_blk rfl [(.bipush (-2), 2, 0, 0, 0, .inl (-2))] 39 41 _ _ _ (by decide +kernel) ?_
      show Go _ _ _ _ _ _ 41 [(4, rc (100 + 8)), (0, rc 0), (1, vi a0), (2, vi a1), (3, vi a2)] [vi ((-2))] ((S, T), Y) _
      obtain ⟨rfl, rfl⟩ := Prod.mk.inj (Option.some.inj h)
      exact go_ireturn (by decide +kernel) rfl rfl ⟨rfl, rfl⟩
    · refine go_icmp_lt (off := 20) (tgt := 39) (by decide +kernel) (by decide) (fun z => absurd z q2) (fun _ => ?_)
      refine go_blk rfl [(.iload_n 1, 1, 1, 0, 0, .inl 0), (.bipush 20, 2, 0, 0, 0, .inl 20)] 22 25 _ _ _ (by decide +kernel) ?_
      show Go _ _ _ _ _ _ 25 [(4, rc (100 + 8)), (0, rc 0), (1, vi a0), (2, vi a1), (3, vi a2)] [vi 20, vi a0] ((S, T), Y) _
      refine ite_el h (fun q3 h => ?_) (fun q3 h => ?_)
      · refine go_icmp_gt (off := 14) (tgt := 39) (by decide +kernel) (by decide) (fun _ => ?_) (fun z => absurd q3 z)
        refine go_blk rfl [(.bipush (-2), 2, 0, 0, 0, .inl (-2))] 39 41 _ _ _ (by decide +kernel) ?_
        show Go _ _ _ _ _ _ 41 [(4, rc (100 + 8)), (0, rc 0), (1, vi a0), (2, vi a1), (3, vi a2)] [vi ((-2))] ((S, T), Y) _
        obtain ⟨rfl, rfl⟩ := Prod.mk.inj (Option.some.inj h)
        exact go_ireturn (by decide +kernel) rfl rfl ⟨rfl, rfl⟩
      · refine go_icmp_gt (off := 14) (tgt := 39) (by decide +kernel) (by decide) (fun z => absurd z q3) (fun _ => ?_)
        refine go_blk rfl [(.iload_n 2, 1, 2, 0, 0, .inl 0), (.iconst 1, 1, 0, 0, 0, .inl 1)] 28 30 _ _ _ (by decide +kernel) ?_
        show Go _ _ _ _ _ _ 30 [(4, rc (100 + 8)), (0, rc 0), (1, vi a0), (2, vi a1), (3, vi a2)] [vi 1, vi a1] ((S, T), Y) _
        refine ite_el h (fun q4 h => ?_) (fun q4 h => ?_)
        · refine go_icmp_lt (off := 9) (tgt := 39) (by decide +kernel) (by decide) (fun _ => ?_) (fun z => absurd q4 z)
          refine go_blk rfl [(.bipush (-2), 2, 0, 0, 0, .inl (-2))] 39 41 _ _ _ (by decide +kernel) ?_
          show Go _ _ _ _ _ _ 41 [(4, rc (100 + 8)), (0, rc 0), (1, vi a0), (2, vi a1), (3, vi a2)] [vi ((-2))] ((S, T), Y) _
          obtain ⟨rfl, rfl⟩ := Prod.mk.inj (Option.some.inj h)
          exact go_ireturn (by decide +kernel) rfl rfl ⟨rfl, rfl⟩
        · refine go_icmp_lt (off := 9) (tgt := 39) (by decide +kernel) (by decide) (fun z => absurd z q4) (fun _ => ?_)
          refine go_blk rfl [(.iload_n 2, 1, 2, 0, 0, .inl 0), (.bipush 60, 2, 0, 0, 0, .inl 60)] 33 36 _ _ _ (by decide +kernel) ?_
          show Go _ _ _ _ _ _ 36 [(4, rc (100 + 8)), (0, rc 0), (1, vi a0), (2, vi a1), (3, vi a2)] [vi 60, vi a1] ((S, T), Y) _
          refine ite_el h (fun q5 h => ?_) (fun q5 h => ?_)
          · refine go_icmp_le (off := 6) (tgt := 42) (by decide +kernel) (by decide) (fun _ => ?_) (fun z => absurd q5 z)
            refine go_blk rfl [(.iload_n 3, 1, 3, 0, 0, .inl 0), (.iconst (-1), 1, 0, 0, 0, .inl (-1))] 42 44 _ _ _ (by decide +kernel) ?_
            show Go _ _ _ _ _ _ 44 [(4, rc (100 + 8)), (0, rc 0), (1, vi a0), (2, vi a1), (3, vi a2)] [vi ((-1)), vi a2] ((S, T), Y) _
            refine ite_el h (fun q6 h => ?_) (fun q6 h => ?_)
            · refine go_icmp_eq (off := 15) (tgt := 59) (by decide +kernel) (by decide) (fun _ => ?_) (fun z => absurd q6 z)
              refine go_blk rfl [(.aload_n 0, 1, 0, 0, 0, .inl 0), (.getfield 65, 3, 10, 8, 1, .inl 0), (.aload 4, 2, 4, 0, 0, .inl 0), (.aload_n 0, 1, 0, 0, 0, .inl 0), (.getfield 45, 3, 10, 5, 1, .inl 0), (.getfield 313, 3, 0, 10, 0, .inl 0), (.iload_n 1, 1, 1, 0, 0, .inl 0), (.iload_n 2, 1, 2, 0, 0, .inl 0), (.iload_n 3, 1, 3, 0, 0, .inl 0), (.iconst (-1), 1, 0, 0, 0, .inl (-1))] 59 76 _ _ _ (by decide +kernel) ?_
              refine And.intro (lc_t0 hT) (Exists.intro _ (And.intro (gRc (lc_r10_8 hT)) ?_))
              refine And.intro (lc_t0 hT) (Exists.intro _ (And.intro (gRc (lc_r10_5 hT)) ?_))
              refine And.intro (lc_b100 hT).1 ?_
              show Go _ _ _ _ _ _ 76 [(4, rc (100 + 8)), (0, rc 0), (1, vi a0), (2, vi a1), (3, vi a2)] [vi ((-1)), vi a2, vi a1, vi a0, vi (S.1 100 10), rc (100 + 8), rc 20] ((S, T), Y) _
              have key : ∀ z0 : Int32, z0 = ((if a2 = ((-1)) then ((-2)) else a2) : Int32) → Go M10_tunes 6 0 0 0 0 85 [] [vi z0, vi a1, vi a0, vi (S.1 100 10), rc (100 + 8), rc 20] ((S, T), Y) (eqQ (some (vi x)) ((S1, T), Y)) := by
                intro z0 ez0
                subst ez0
                obtain ⟨r2, hr2, h⟩ := bind_el h
                refine go_callV (idx := 316) (z := 1) (M' := M2_countTunes) (n := 5) (A := [rc (100 + 8), vi (S.1 100 10), vi a0, vi a1, vi (((if a2 = ((-1)) then ((-2)) else a2) : Int32))]) (v' := some (vi r2.2)) (μ' := ((r2.1, T), Y)) (d' := 5) (mc' := 0) (ms' := 0) (kc' := 0) (ks' := 0) (ci := 2) (x := .inl 20) (by decide +kernel) ml_10_316 rfl wv2_countTunes rfl (by decide) rfl (lc_t20 hT) (ret2_countTunes hT ((lc_b100 hT).2.2.1.2) hr2) (by decide) rfl rfl (Nat.le_of_ble_eq_true rfl) rfl (jag rfl rfl) ?_
                show Go _ _ _ _ _ _ 88 [] [vi r2.2] ((r2.1, T), Y) _
                obtain ⟨rfl, rfl⟩ := Prod.mk.inj (Option.some.inj h)
                exact go_ireturn (by decide +kernel) rfl rfl ⟨rfl, rfl⟩
              clear h
              by_cases q7 : a2 = ((-1))
              · refine go_icmp_ne (off := 8) (tgt := 84) (by decide +kernel) (by decide) (fun z => absurd q7 z) (fun _ => ?_)
                refine go_blk rfl [(.bipush (-2), 2, 0, 0, 0, .inl (-2))] 79 81 _ _ _ (by decide +kernel) ?_
                show Go _ _ _ _ _ _ 81 [(4, rc (100 + 8)), (0, rc 0), (1, vi a0), (2, vi a1), (3, vi a2)] [vi ((-2)), vi a1, vi a0, vi (S.1 100 10), rc (100 + 8), rc 20] ((S, T), Y) _
                refine go_goto (off := 4) (tgt := 85) (by decide +kernel) (by decide) ?_
                refine go_pick [] rfl ?_; exact key _ (by rw [if_pos q7])
              · refine go_icmp_ne (off := 8) (tgt := 84) (by decide +kernel) (by decide) (fun _ => ?_) (fun z => absurd z q7)
                refine go_blk rfl [(.iload_n 3, 1, 3, 0, 0, .inl 0)] 84 85 _ _ _ (by decide +kernel) ?_
                show Go _ _ _ _ _ _ 85 [(4, rc (100 + 8)), (0, rc 0), (1, vi a0), (2, vi a1), (3, vi a2)] [vi a2, vi a1, vi a0, vi (S.1 100 10), rc (100 + 8), rc 20] ((S, T), Y) _
                refine go_pick [] rfl ?_; exact key _ (by rw [if_neg q7])
            · refine go_icmp_eq (off := 15) (tgt := 59) (by decide +kernel) (by decide) (fun z => absurd z q6) (fun _ => ?_)
              refine go_blk rfl [(.aload 4, 2, 4, 0, 0, .inl 0), (.iload_n 3, 1, 3, 0, 0, .inl 0)] 47 50 _ _ _ (by decide +kernel) ?_
              show Go _ _ _ _ _ _ 50 [(4, rc (100 + 8)), (0, rc 0), (1, vi a0), (2, vi a1), (3, vi a2)] [vi a2, rc (100 + 8)] ((S, T), Y) _
              obtain ⟨r3, hr3, h⟩ := bind_el h
              refine go_callV (idx := 129) (z := 1) (M' := M4_hasGuest) (n := 1) (A := [vi a2]) (v' := some (vi r3)) (μ' := ((S, T), Y)) (d' := 1) (mc' := 0) (ms' := 0) (kc' := 0) (ks' := 0) (ci := 4) (x := .inl (100 + 8)) (by decide +kernel) ml_10_129 rfl wv4_hasGuest rfl (by decide) rfl ((lc_b100 hT).2.2.1.2).1 (ret4_hasGuest ((lc_b100 hT).2.2.1.2) hr3) (by decide) rfl rfl (Nat.le_of_ble_eq_true rfl) rfl (jag rfl rfl) ?_
              show Go _ _ _ _ _ _ 53 [(4, rc (100 + 8)), (0, rc 0), (1, vi a0), (2, vi a1), (3, vi a2)] [vi r3] ((S, T), Y) _
              refine ite_el h (fun q8 h => ?_) (fun q8 h => ?_)
              · refine go_if_ne (off := 6) (tgt := 59) (by decide +kernel) (by decide) (fun z => absurd q8 z) (fun _ => ?_)
                refine go_blk rfl [(.bipush (-2), 2, 0, 0, 0, .inl (-2))] 56 58 _ _ _ (by decide +kernel) ?_
                show Go _ _ _ _ _ _ 58 [(4, rc (100 + 8)), (0, rc 0), (1, vi a0), (2, vi a1), (3, vi a2)] [vi ((-2))] ((S, T), Y) _
                obtain ⟨rfl, rfl⟩ := Prod.mk.inj (Option.some.inj h)
                exact go_ireturn (by decide +kernel) rfl rfl ⟨rfl, rfl⟩
              · refine go_if_ne (off := 6) (tgt := 59) (by decide +kernel) (by decide) (fun _ => ?_) (fun z => absurd z q8)
                refine go_blk rfl [(.aload_n 0, 1, 0, 0, 0, .inl 0), (.getfield 65, 3, 10, 8, 1, .inl 0), (.aload 4, 2, 4, 0, 0, .inl 0), (.aload_n 0, 1, 0, 0, 0, .inl 0), (.getfield 45, 3, 10, 5, 1, .inl 0), (.getfield 313, 3, 0, 10, 0, .inl 0), (.iload_n 1, 1, 1, 0, 0, .inl 0), (.iload_n 2, 1, 2, 0, 0, .inl 0), (.iload_n 3, 1, 3, 0, 0, .inl 0), (.iconst (-1), 1, 0, 0, 0, .inl (-1))] 59 76 _ _ _ (by decide +kernel) ?_
                refine And.intro (lc_t0 hT) (Exists.intro _ (And.intro (gRc (lc_r10_8 hT)) ?_))
                refine And.intro (lc_t0 hT) (Exists.intro _ (And.intro (gRc (lc_r10_5 hT)) ?_))
                refine And.intro (lc_b100 hT).1 ?_
                show Go _ _ _ _ _ _ 76 [(4, rc (100 + 8)), (0, rc 0), (1, vi a0), (2, vi a1), (3, vi a2)] [vi ((-1)), vi a2, vi a1, vi a0, vi (S.1 100 10), rc (100 + 8), rc 20] ((S, T), Y) _
                have key : ∀ z0 : Int32, z0 = ((if a2 = ((-1)) then ((-2)) else a2) : Int32) → Go M10_tunes 6 0 0 0 0 85 [] [vi z0, vi a1, vi a0, vi (S.1 100 10), rc (100 + 8), rc 20] ((S, T), Y) (eqQ (some (vi x)) ((S1, T), Y)) := by
                  intro z0 ez0
                  subst ez0
                  obtain ⟨r4, hr4, h⟩ := bind_el h
                  refine go_callV (idx := 316) (z := 1) (M' := M2_countTunes) (n := 5) (A := [rc (100 + 8), vi (S.1 100 10), vi a0, vi a1, vi (((if a2 = ((-1)) then ((-2)) else a2) : Int32))]) (v' := some (vi r4.2)) (μ' := ((r4.1, T), Y)) (d' := 5) (mc' := 0) (ms' := 0) (kc' := 0) (ks' := 0) (ci := 2) (x := .inl 20) (by decide +kernel) ml_10_316 rfl wv2_countTunes rfl (by decide) rfl (lc_t20 hT) (ret2_countTunes hT ((lc_b100 hT).2.2.1.2) hr4) (by decide) rfl rfl (Nat.le_of_ble_eq_true rfl) rfl (jag rfl rfl) ?_
                  show Go _ _ _ _ _ _ 88 [] [vi r4.2] ((r4.1, T), Y) _
                  obtain ⟨rfl, rfl⟩ := Prod.mk.inj (Option.some.inj h)
                  exact go_ireturn (by decide +kernel) rfl rfl ⟨rfl, rfl⟩
                clear h
                by_cases q9 : a2 = ((-1))
                · refine go_icmp_ne (off := 8) (tgt := 84) (by decide +kernel) (by decide) (fun z => absurd q9 z) (fun _ => ?_)
                  refine go_blk rfl [(.bipush (-2), 2, 0, 0, 0, .inl (-2))] 79 81 _ _ _ (by decide +kernel) ?_
                  show Go _ _ _ _ _ _ 81 [(4, rc (100 + 8)), (0, rc 0), (1, vi a0), (2, vi a1), (3, vi a2)] [vi ((-2)), vi a1, vi a0, vi (S.1 100 10), rc (100 + 8), rc 20] ((S, T), Y) _
                  refine go_goto (off := 4) (tgt := 85) (by decide +kernel) (by decide) ?_
                  refine go_pick [] rfl ?_; exact key _ (by rw [if_pos q9])
                · refine go_icmp_ne (off := 8) (tgt := 84) (by decide +kernel) (by decide) (fun _ => ?_) (fun z => absurd z q9)
                  refine go_blk rfl [(.iload_n 3, 1, 3, 0, 0, .inl 0)] 84 85 _ _ _ (by decide +kernel) ?_
                  show Go _ _ _ _ _ _ 85 [(4, rc (100 + 8)), (0, rc 0), (1, vi a0), (2, vi a1), (3, vi a2)] [vi a2, vi a1, vi a0, vi (S.1 100 10), rc (100 + 8), rc 20] ((S, T), Y) _
                  refine go_pick [] rfl ?_; exact key _ (by rw [if_neg q9])
          · refine go_icmp_le (off := 6) (tgt := 42) (by decide +kernel) (by decide) (fun z => absurd z q5) (fun _ => ?_)
            refine go_blk rfl [(.bipush (-2), 2, 0, 0, 0, .inl (-2))] 39 41 _ _ _ (by decide +kernel) ?_
            show Go _ _ _ _ _ _ 41 [(4, rc (100 + 8)), (0, rc 0), (1, vi a0), (2, vi a1), (3, vi a2)] [vi ((-2))] ((S, T), Y) _
            obtain ⟨rfl, rfl⟩ := Prod.mk.inj (Option.some.inj h)
            exact go_ireturn (by decide +kernel) rfl rfl ⟨rfl, rfl⟩
def f10_count (S : jS) (a0 : Int32) : Option Int32 := (if a0 = 0 then some (S.1 (100 + 8) 0) else (if a0 = 1 then some (S.1 (100 + 8) 1) else (if a0 = 2 then some (S.1 (100 + 8) 2) else (if a0 = 3 then some (S.1 0 4) else (if a0 = 4 then some (S.1 100 9) else (if a0 = 5 then some (S.1 (100 + 8) 5) else (if a0 = 6 then some (S.1 (100 + 8) 4) else (if a0 = 7 then some (S.1 (100 + 8) 3) else (if a0 = 8 then Option.bind (f4_isTold S (100 + 8)) (fun r1 => (if r1 = 0 then some 0 else Option.bind (f4_isOver S (100 + 8)) (fun r2 => (if r2 = 0 then some 0 else some 1)))) else (if a0 = 9 then some (S.1 (100 + 8) 6) else (if a0 = 10 then some (S.1 (100 + 8) 7) else (if a0 = 11 then some (S.1 100 8) else (if a0 = 12 then some (S.1 100 4) else (if a0 = 13 then some (S.1 100 10) else (if a0 = 14 then some (S.1 1 1) else some ((-1)))))))))))))))))
theorem ret10_count {S : jS} {T : jT} {Y : jS × jT} {a0 : Int32} {x : Int32} (hT : LayC T) (h : f10_count S a0 = some x) : Ret M10_count 3 0 0 [rc 0, vi a0] ((S, T), Y) (some (vi x)) ((S, T), Y) := by
  refine Ret.of (by decide +kernel) (Nat.le_of_ble_eq_true rfl) ?_
  unfold f10_count at h
  show Go _ _ _ _ _ _ 0 [(0, rc 0), (1, vi a0)] [] ((S, T), Y) _
  refine go_blk rfl [(.aload_n 0, 1, 0, 0, 0, .inl 0), (.getfield 45, 3, 10, 5, 1, .inl 0), (.getfield 102, 3, 0, 1, 1, .inl 0), (.astore_n 2, 1, 2, 0, 0, .inl 0), (.iload_n 1, 1, 1, 0, 0, .inl 0)] 0 9 _ _ _ (by decide +kernel) ?_
  refine And.intro (lc_t0 hT) (Exists.intro _ (And.intro (gRc (lc_r10_5 hT)) ?_))
  refine And.intro (lc_b100 hT).1 (Exists.intro _ (And.intro (gRc (lc_b100 hT).2.2.1.1) ?_))
  show Go _ _ _ _ _ _ 9 [(2, rc (100 + 8)), (0, rc 0), (1, vi a0)] [vi a0] ((S, T), Y) _
  refine ite_el h (fun q3 h => ?_) (fun q3 h => ?_)
  · refine go_tableIn (dflt := 180) (lo := 0) (hi := 14) (offs := #[75, 80, 85, 90, 95, 103, 108, 113, 118, 138, 143, 148, 156, 164, 172]) (len := 75) (off := 75) (tgt := 84) (by decide +kernel) (by rw [q3]; decide) (by rw [q3]; decide) (by rw [q3]; decide) (by decide) ?_
    refine go_blk rfl [(.aload_n 2, 1, 2, 0, 0, .inl 0), (.getfield 320, 3, 4, 0, 0, .inl 0)] 84 88 _ _ _ (by decide +kernel) ?_
    refine And.intro ((lc_b100 hT).2.2.1.2).1 ?_
    show Go _ _ _ _ _ _ 88 [(2, rc (100 + 8)), (0, rc 0), (1, vi a0)] [vi (S.1 (100 + 8) 0)] ((S, T), Y) _
    obtain rfl := Option.some.inj h
    exact go_ireturn (by decide +kernel) rfl rfl ⟨rfl, rfl⟩
  refine ite_el h (fun q4 h => ?_) (fun q4 h => ?_)
  · refine go_tableIn (dflt := 180) (lo := 0) (hi := 14) (offs := #[75, 80, 85, 90, 95, 103, 108, 113, 118, 138, 143, 148, 156, 164, 172]) (len := 75) (off := 80) (tgt := 89) (by decide +kernel) (by rw [q4]; decide) (by rw [q4]; decide) (by rw [q4]; decide) (by decide) ?_
    refine go_blk rfl [(.aload_n 2, 1, 2, 0, 0, .inl 0), (.getfield 323, 3, 4, 1, 0, .inl 0)] 89 93 _ _ _ (by decide +kernel) ?_
    refine And.intro ((lc_b100 hT).2.2.1.2).1 ?_
    show Go _ _ _ _ _ _ 93 [(2, rc (100 + 8)), (0, rc 0), (1, vi a0)] [vi (S.1 (100 + 8) 1)] ((S, T), Y) _
    obtain rfl := Option.some.inj h
    exact go_ireturn (by decide +kernel) rfl rfl ⟨rfl, rfl⟩
  refine ite_el h (fun q5 h => ?_) (fun q5 h => ?_)
  · refine go_tableIn (dflt := 180) (lo := 0) (hi := 14) (offs := #[75, 80, 85, 90, 95, 103, 108, 113, 118, 138, 143, 148, 156, 164, 172]) (len := 75) (off := 85) (tgt := 94) (by decide +kernel) (by rw [q5]; decide) (by rw [q5]; decide) (by rw [q5]; decide) (by decide) ?_
    refine go_blk rfl [(.aload_n 2, 1, 2, 0, 0, .inl 0), (.getfield 105, 3, 4, 2, 0, .inl 0)] 94 98 _ _ _ (by decide +kernel) ?_
    refine And.intro ((lc_b100 hT).2.2.1.2).1 ?_
    show Go _ _ _ _ _ _ 98 [(2, rc (100 + 8)), (0, rc 0), (1, vi a0)] [vi (S.1 (100 + 8) 2)] ((S, T), Y) _
    obtain rfl := Option.some.inj h
    exact go_ireturn (by decide +kernel) rfl rfl ⟨rfl, rfl⟩
  refine ite_el h (fun q6 h => ?_) (fun q6 h => ?_)
  · refine go_tableIn (dflt := 180) (lo := 0) (hi := 14) (offs := #[75, 80, 85, 90, 95, 103, 108, 113, 118, 138, 143, 148, 156, 164, 172]) (len := 75) (off := 90) (tgt := 99) (by decide +kernel) (by rw [q6]; decide) (by rw [q6]; decide) (by rw [q6]; decide) (by decide) ?_
    refine go_blk rfl [(.aload_n 0, 1, 0, 0, 0, .inl 0), (.getfield 38, 3, 10, 4, 0, .inl 0)] 99 103 _ _ _ (by decide +kernel) ?_
    refine And.intro (lc_t0 hT) ?_
    show Go _ _ _ _ _ _ 103 [(2, rc (100 + 8)), (0, rc 0), (1, vi a0)] [vi (S.1 0 4)] ((S, T), Y) _
    obtain rfl := Option.some.inj h
    exact go_ireturn (by decide +kernel) rfl rfl ⟨rfl, rfl⟩
  refine ite_el h (fun q7 h => ?_) (fun q7 h => ?_)
  · refine go_tableIn (dflt := 180) (lo := 0) (hi := 14) (offs := #[75, 80, 85, 90, 95, 103, 108, 113, 118, 138, 143, 148, 156, 164, 172]) (len := 75) (off := 95) (tgt := 104) (by decide +kernel) (by rw [q7]; decide) (by rw [q7]; decide) (by rw [q7]; decide) (by decide) ?_
    refine go_blk rfl [(.aload_n 0, 1, 0, 0, 0, .inl 0), (.getfield 45, 3, 10, 5, 1, .inl 0), (.getfield 115, 3, 0, 9, 0, .inl 0)] 104 111 _ _ _ (by decide +kernel) ?_
    refine And.intro (lc_t0 hT) (Exists.intro _ (And.intro (gRc (lc_r10_5 hT)) ?_))
    refine And.intro (lc_b100 hT).1 ?_
    show Go _ _ _ _ _ _ 111 [(2, rc (100 + 8)), (0, rc 0), (1, vi a0)] [vi (S.1 100 9)] ((S, T), Y) _
    obtain rfl := Option.some.inj h
    exact go_ireturn (by decide +kernel) rfl rfl ⟨rfl, rfl⟩
  refine ite_el h (fun q8 h => ?_) (fun q8 h => ?_)
  · refine go_tableIn (dflt := 180) (lo := 0) (hi := 14) (offs := #[75, 80, 85, 90, 95, 103, 108, 113, 118, 138, 143, 148, 156, 164, 172]) (len := 75) (off := 103) (tgt := 112) (by decide +kernel) (by rw [q8]; decide) (by rw [q8]; decide) (by rw [q8]; decide) (by decide) ?_
    refine go_blk rfl [(.aload_n 2, 1, 2, 0, 0, .inl 0), (.getfield 158, 3, 4, 5, 0, .inl 0)] 112 116 _ _ _ (by decide +kernel) ?_
    refine And.intro ((lc_b100 hT).2.2.1.2).1 ?_
    show Go _ _ _ _ _ _ 116 [(2, rc (100 + 8)), (0, rc 0), (1, vi a0)] [vi (S.1 (100 + 8) 5)] ((S, T), Y) _
    obtain rfl := Option.some.inj h
    exact go_ireturn (by decide +kernel) rfl rfl ⟨rfl, rfl⟩
  refine ite_el h (fun q9 h => ?_) (fun q9 h => ?_)
  · refine go_tableIn (dflt := 180) (lo := 0) (hi := 14) (offs := #[75, 80, 85, 90, 95, 103, 108, 113, 118, 138, 143, 148, 156, 164, 172]) (len := 75) (off := 108) (tgt := 117) (by decide +kernel) (by rw [q9]; decide) (by rw [q9]; decide) (by rw [q9]; decide) (by decide) ?_
    refine go_blk rfl [(.aload_n 2, 1, 2, 0, 0, .inl 0), (.getfield 147, 3, 4, 4, 0, .inl 0)] 117 121 _ _ _ (by decide +kernel) ?_
    refine And.intro ((lc_b100 hT).2.2.1.2).1 ?_
    show Go _ _ _ _ _ _ 121 [(2, rc (100 + 8)), (0, rc 0), (1, vi a0)] [vi (S.1 (100 + 8) 4)] ((S, T), Y) _
    obtain rfl := Option.some.inj h
    exact go_ireturn (by decide +kernel) rfl rfl ⟨rfl, rfl⟩
  refine ite_el h (fun q10 h => ?_) (fun q10 h => ?_)
  · refine go_tableIn (dflt := 180) (lo := 0) (hi := 14) (offs := #[75, 80, 85, 90, 95, 103, 108, 113, 118, 138, 143, 148, 156, 164, 172]) (len := 75) (off := 113) (tgt := 122) (by decide +kernel) (by rw [q10]; decide) (by rw [q10]; decide) (by rw [q10]; decide) (by decide) ?_
    refine go_blk rfl [(.aload_n 2, 1, 2, 0, 0, .inl 0), (.getfield 126, 3, 4, 3, 0, .inl 0)] 122 126 _ _ _ (by decide +kernel) ?_
    refine And.intro ((lc_b100 hT).2.2.1.2).1 ?_
    show Go _ _ _ _ _ _ 126 [(2, rc (100 + 8)), (0, rc 0), (1, vi a0)] [vi (S.1 (100 + 8) 3)] ((S, T), Y) _
    obtain rfl := Option.some.inj h
    exact go_ireturn (by decide +kernel) rfl rfl ⟨rfl, rfl⟩
  refine ite_el h (fun q11 h => ?_) (fun q11 h => ?_)
  · refine go_tableIn (dflt := 180) (lo := 0) (hi := 14) (offs := #[75, 80, 85, 90, 95, 103, 108, 113, 118, 138, 143, 148, 156, 164, 172]) (len := 75) (off := 118) (tgt := 127) (by decide +kernel) (by rw [q11]; decide) (by rw [q11]; decide) (by rw [q11]; decide) (by decide) ?_
    refine go_blk rfl [(.aload_n 2, 1, 2, 0, 0, .inl 0)] 127 128 _ _ _ (by decide +kernel) ?_
    show Go _ _ _ _ _ _ 128 [(2, rc (100 + 8)), (0, rc 0), (1, vi a0)] [rc (100 + 8)] ((S, T), Y) _
    obtain ⟨r1, hr1, h⟩ := bind_el h
    refine go_callV (idx := 154) (z := 1) (M' := M4_isTold) (n := 0) (A := []) (v' := some (vi r1)) (μ' := ((S, T), Y)) (d' := 1) (mc' := 0) (ms' := 0) (kc' := 0) (ks' := 0) (ci := 4) (x := .inl (100 + 8)) (by decide +kernel) ml_10_154 rfl wv4_isTold rfl (by decide) rfl ((lc_b100 hT).2.2.1.2).1 (ret4_isTold ((lc_b100 hT).2.2.1.2) hr1) (by decide) rfl rfl (Nat.le_of_ble_eq_true rfl) rfl (jag rfl rfl) ?_
    show Go _ _ _ _ _ _ 131 [(2, rc (100 + 8)), (0, rc 0), (1, vi a0)] [vi r1] ((S, T), Y) _
    refine ite_el h (fun q1 h => ?_) (fun q1 h => ?_)
    · refine go_if_eq (off := 14) (tgt := 145) (by decide +kernel) (by decide) (fun _ => ?_) (fun z => absurd q1 z)
      refine go_blk rfl [(.iconst 0, 1, 0, 0, 0, .inl 0)] 145 146 _ _ _ (by decide +kernel) ?_
      show Go _ _ _ _ _ _ 146 [(2, rc (100 + 8)), (0, rc 0), (1, vi a0)] [vi 0] ((S, T), Y) _
      obtain rfl := Option.some.inj h
      exact go_ireturn (by decide +kernel) rfl rfl ⟨rfl, rfl⟩
    · refine go_if_eq (off := 14) (tgt := 145) (by decide +kernel) (by decide) (fun z => absurd z q1) (fun _ => ?_)
      refine go_blk rfl [(.aload_n 2, 1, 2, 0, 0, .inl 0)] 134 135 _ _ _ (by decide +kernel) ?_
      show Go _ _ _ _ _ _ 135 [(2, rc (100 + 8)), (0, rc 0), (1, vi a0)] [rc (100 + 8)] ((S, T), Y) _
      obtain ⟨r2, hr2, h⟩ := bind_el h
      refine go_callV (idx := 174) (z := 1) (M' := M4_isOver) (n := 0) (A := []) (v' := some (vi r2)) (μ' := ((S, T), Y)) (d' := 2) (mc' := 0) (ms' := 0) (kc' := 0) (ks' := 0) (ci := 4) (x := .inl (100 + 8)) (by decide +kernel) ml_10_174 rfl wv4_isOver rfl (by decide) rfl ((lc_b100 hT).2.2.1.2).1 (ret4_isOver ((lc_b100 hT).2.2.1.2) hr2) (by decide) rfl rfl (Nat.le_of_ble_eq_true rfl) rfl (jag rfl rfl) ?_
      show Go _ _ _ _ _ _ 138 [(2, rc (100 + 8)), (0, rc 0), (1, vi a0)] [vi r2] ((S, T), Y) _
      refine ite_el h (fun q2 h => ?_) (fun q2 h => ?_)
      · refine go_if_eq (off := 7) (tgt := 145) (by decide +kernel) (by decide) (fun _ => ?_) (fun z => absurd q2 z)
        refine go_blk rfl [(.iconst 0, 1, 0, 0, 0, .inl 0)] 145 146 _ _ _ (by decide +kernel) ?_
        show Go _ _ _ _ _ _ 146 [(2, rc (100 + 8)), (0, rc 0), (1, vi a0)] [vi 0] ((S, T), Y) _
        obtain rfl := Option.some.inj h
        exact go_ireturn (by decide +kernel) rfl rfl ⟨rfl, rfl⟩
      · refine go_if_eq (off := 7) (tgt := 145) (by decide +kernel) (by decide) (fun z => absurd z q2) (fun _ => ?_)
        refine go_blk rfl [(.iconst 1, 1, 0, 0, 0, .inl 1)] 141 142 _ _ _ (by decide +kernel) ?_
        show Go _ _ _ _ _ _ 142 [(2, rc (100 + 8)), (0, rc 0), (1, vi a0)] [vi 1] ((S, T), Y) _
        refine go_goto (off := 4) (tgt := 146) (by decide +kernel) (by decide) ?_
        obtain rfl := Option.some.inj h
        exact go_ireturn (by decide +kernel) rfl rfl ⟨rfl, rfl⟩
  refine ite_el h (fun q12 h => ?_) (fun q12 h => ?_)
  · refine go_tableIn (dflt := 180) (lo := 0) (hi := 14) (offs := #[75, 80, 85, 90, 95, 103, 108, 113, 118, 138, 143, 148, 156, 164, 172]) (len := 75) (off := 138) (tgt := 147) (by decide +kernel) (by rw [q12]; decide) (by rw [q12]; decide) (by rw [q12]; decide) (by decide) ?_
    refine go_blk rfl [(.aload_n 2, 1, 2, 0, 0, .inl 0), (.getfield 326, 3, 4, 6, 0, .inl 0)] 147 151 _ _ _ (by decide +kernel) ?_
    refine And.intro ((lc_b100 hT).2.2.1.2).1 ?_
    show Go _ _ _ _ _ _ 151 [(2, rc (100 + 8)), (0, rc 0), (1, vi a0)] [vi (S.1 (100 + 8) 6)] ((S, T), Y) _
    obtain rfl := Option.some.inj h
    exact go_ireturn (by decide +kernel) rfl rfl ⟨rfl, rfl⟩
  refine ite_el h (fun q13 h => ?_) (fun q13 h => ?_)
  · refine go_tableIn (dflt := 180) (lo := 0) (hi := 14) (offs := #[75, 80, 85, 90, 95, 103, 108, 113, 118, 138, 143, 148, 156, 164, 172]) (len := 75) (off := 143) (tgt := 152) (by decide +kernel) (by rw [q13]; decide) (by rw [q13]; decide) (by rw [q13]; decide) (by decide) ?_
    refine go_blk rfl [(.aload_n 2, 1, 2, 0, 0, .inl 0), (.getfield 171, 3, 4, 7, 0, .inl 0)] 152 156 _ _ _ (by decide +kernel) ?_
    refine And.intro ((lc_b100 hT).2.2.1.2).1 ?_
    show Go _ _ _ _ _ _ 156 [(2, rc (100 + 8)), (0, rc 0), (1, vi a0)] [vi (S.1 (100 + 8) 7)] ((S, T), Y) _
    obtain rfl := Option.some.inj h
    exact go_ireturn (by decide +kernel) rfl rfl ⟨rfl, rfl⟩
  refine ite_el h (fun q14 h => ?_) (fun q14 h => ?_)
  · refine go_tableIn (dflt := 180) (lo := 0) (hi := 14) (offs := #[75, 80, 85, 90, 95, 103, 108, 113, 118, 138, 143, 148, 156, 164, 172]) (len := 75) (off := 148) (tgt := 157) (by decide +kernel) (by rw [q14]; decide) (by rw [q14]; decide) (by rw [q14]; decide) (by decide) ?_
    refine go_blk rfl [(.aload_n 0, 1, 0, 0, 0, .inl 0), (.getfield 45, 3, 10, 5, 1, .inl 0), (.getfield 286, 3, 0, 8, 0, .inl 0)] 157 164 _ _ _ (by decide +kernel) ?_
    refine And.intro (lc_t0 hT) (Exists.intro _ (And.intro (gRc (lc_r10_5 hT)) ?_))
    refine And.intro (lc_b100 hT).1 ?_
    show Go _ _ _ _ _ _ 164 [(2, rc (100 + 8)), (0, rc 0), (1, vi a0)] [vi (S.1 100 8)] ((S, T), Y) _
    obtain rfl := Option.some.inj h
    exact go_ireturn (by decide +kernel) rfl rfl ⟨rfl, rfl⟩
  refine ite_el h (fun q15 h => ?_) (fun q15 h => ?_)
  · refine go_tableIn (dflt := 180) (lo := 0) (hi := 14) (offs := #[75, 80, 85, 90, 95, 103, 108, 113, 118, 138, 143, 148, 156, 164, 172]) (len := 75) (off := 156) (tgt := 165) (by decide +kernel) (by rw [q15]; decide) (by rw [q15]; decide) (by rw [q15]; decide) (by decide) ?_
    refine go_blk rfl [(.aload_n 0, 1, 0, 0, 0, .inl 0), (.getfield 45, 3, 10, 5, 1, .inl 0), (.getfield 197, 3, 0, 4, 0, .inl 0)] 165 172 _ _ _ (by decide +kernel) ?_
    refine And.intro (lc_t0 hT) (Exists.intro _ (And.intro (gRc (lc_r10_5 hT)) ?_))
    refine And.intro (lc_b100 hT).1 ?_
    show Go _ _ _ _ _ _ 172 [(2, rc (100 + 8)), (0, rc 0), (1, vi a0)] [vi (S.1 100 4)] ((S, T), Y) _
    obtain rfl := Option.some.inj h
    exact go_ireturn (by decide +kernel) rfl rfl ⟨rfl, rfl⟩
  refine ite_el h (fun q16 h => ?_) (fun q16 h => ?_)
  · refine go_tableIn (dflt := 180) (lo := 0) (hi := 14) (offs := #[75, 80, 85, 90, 95, 103, 108, 113, 118, 138, 143, 148, 156, 164, 172]) (len := 75) (off := 164) (tgt := 173) (by decide +kernel) (by rw [q16]; decide) (by rw [q16]; decide) (by rw [q16]; decide) (by decide) ?_
    refine go_blk rfl [(.aload_n 0, 1, 0, 0, 0, .inl 0), (.getfield 45, 3, 10, 5, 1, .inl 0), (.getfield 313, 3, 0, 10, 0, .inl 0)] 173 180 _ _ _ (by decide +kernel) ?_
    refine And.intro (lc_t0 hT) (Exists.intro _ (And.intro (gRc (lc_r10_5 hT)) ?_))
    refine And.intro (lc_b100 hT).1 ?_
    show Go _ _ _ _ _ _ 180 [(2, rc (100 + 8)), (0, rc 0), (1, vi a0)] [vi (S.1 100 10)] ((S, T), Y) _
    obtain rfl := Option.some.inj h
    exact go_ireturn (by decide +kernel) rfl rfl ⟨rfl, rfl⟩
  refine ite_el h (fun q17 h => ?_) (fun q17 h => ?_)
  · refine go_tableIn (dflt := 180) (lo := 0) (hi := 14) (offs := #[75, 80, 85, 90, 95, 103, 108, 113, 118, 138, 143, 148, 156, 164, 172]) (len := 75) (off := 172) (tgt := 181) (by decide +kernel) (by rw [q17]; decide) (by rw [q17]; decide) (by rw [q17]; decide) (by decide) ?_
    refine go_blk rfl [(.aload_n 0, 1, 0, 0, 0, .inl 0), (.getfield 10, 3, 10, 0, 1, .inl 0), (.getfield 83, 3, 9, 1, 0, .inl 0)] 181 188 _ _ _ (by decide +kernel) ?_
    refine And.intro (lc_t0 hT) (Exists.intro _ (And.intro (gRc (lc_r10_0 hT)) ?_))
    refine And.intro (lc_t1 hT) ?_
    show Go _ _ _ _ _ _ 188 [(2, rc (100 + 8)), (0, rc 0), (1, vi a0)] [vi (S.1 1 1)] ((S, T), Y) _
    obtain rfl := Option.some.inj h
    exact go_ireturn (by decide +kernel) rfl rfl ⟨rfl, rfl⟩
  refine go_tableOut (dflt := 180) (lo := 0) (hi := 14) (offs := #[75, 80, 85, 90, 95, 103, 108, 113, 118, 138, 143, 148, 156, 164, 172]) (len := 75) (tgt := 189) (by decide +kernel) (by have z0 : a0.toInt ≠ 0 := tb_ne q3 (by decide); have z1 : a0.toInt ≠ 1 := tb_ne q4 (by decide); have z2 : a0.toInt ≠ 2 := tb_ne q5 (by decide); have z3 : a0.toInt ≠ 3 := tb_ne q6 (by decide); have z4 : a0.toInt ≠ 4 := tb_ne q7 (by decide); have z5 : a0.toInt ≠ 5 := tb_ne q8 (by decide); have z6 : a0.toInt ≠ 6 := tb_ne q9 (by decide); have z7 : a0.toInt ≠ 7 := tb_ne q10 (by decide); have z8 : a0.toInt ≠ 8 := tb_ne q11 (by decide); have z9 : a0.toInt ≠ 9 := tb_ne q12 (by decide); have z10 : a0.toInt ≠ 10 := tb_ne q13 (by decide); have z11 : a0.toInt ≠ 11 := tb_ne q14 (by decide); have z12 : a0.toInt ≠ 12 := tb_ne q15 (by decide); have z13 : a0.toInt ≠ 13 := tb_ne q16 (by decide); have z14 : a0.toInt ≠ 14 := tb_ne q17 (by decide); omega) (by decide) ?_
  refine go_blk rfl [(.iconst (-1), 1, 0, 0, 0, .inl (-1))] 189 190 _ _ _ (by decide +kernel) ?_
  show Go _ _ _ _ _ _ 190 [(2, rc (100 + 8)), (0, rc 0), (1, vi a0)] [vi ((-1))] ((S, T), Y) _
  obtain rfl := Option.some.inj h
  exact go_ireturn (by decide +kernel) rfl rfl ⟨rfl, rfl⟩
