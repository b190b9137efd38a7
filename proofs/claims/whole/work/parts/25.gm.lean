def f11_count (S : jS) (a0 : Int32) : Option Int32 := (if a0 = 0 then some (S.1 1 0) else (if a0 = 1 then some (S.1 1 1) else (if a0 = 2 then some (S.1 1 2) else (if a0 = 3 then some (S.1 0 23) else (if a0 = 4 then some (S.1 1 10) else (if a0 = 5 then some (S.1 1 3) else (if a0 = 6 then some (S.1 1 6) else (if a0 = 7 then some (S.1 1 7) else (if a0 = 8 then Option.bind (f11_isParty S) (fun r1 => (if r1 = 0 then some 0 else Option.bind (f11_isDone S) (fun r2 => (if r2 = 0 then some 0 else some 1)))) else (if a0 = 9 then some (S.1 1 5) else (if a0 = 10 then some (S.1 1 4) else (if a0 = 11 then some (S.1 1 8) else (if a0 = 12 then some (S.1 0 44) else (if a0 = 13 then some (S.1 1 9) else (if a0 = 14 then some (S.1 0 19) else some ((-1)))))))))))))))))
theorem ret11_count {S : jS} {T : jT} {Y : jS × jT} {a0 : Int32} {x : Int32} (hT : LayM T) (h : f11_count S a0 = some x) : Ret M11_count 3 0 0 [rm 0, vi a0] (Y, (S, T)) (some (vi x)) (Y, (S, T)) := by
  refine Ret.of (by decide +kernel) (Nat.le_of_ble_eq_true rfl) ?_
  unfold f11_count at h
  show Go _ _ _ _ _ _ 0 [(0, rm 0), (1, vi a0)] [] (Y, (S, T)) _
  refine go_blk rfl [(.iload_n 1, 1, 1, 0, 0, .inl 0)] 0 1 _ _ _ (by decide +kernel) ?_
  show Go _ _ _ _ _ _ 1 [(0, rm 0), (1, vi a0)] [vi a0] (Y, (S, T)) _
  refine ite_el h (fun q3 h => ?_) (fun q3 h => ?_)
  · refine go_tableIn (dflt := 192) (lo := 0) (hi := 14) (offs := #[75, 82, 89, 96, 101, 109, 116, 124, 132, 152, 159, 166, 174, 179, 187]) (len := 75) (off := 75) (tgt := 76) (by decide +kernel) (by rw [q3]; decide) (by rw [q3]; decide) (by rw [q3]; decide) (by decide) ?_
    refine go_blk rfl [(.aload_n 0, 1, 0, 0, 0, .inl 0), (.getfield 9, 3, 11, 1, 1, .inl 0), (.iconst 0, 1, 0, 0, 0, .inl 0), (.iaload, 1, 20, 0, 0, .inl 0)] 76 82 _ _ _ (by decide +kernel) ?_
    refine And.intro (lm_t0 hT) (Exists.intro _ (And.intro (gRm (lm_r1 hT)) ?_))
    refine And.intro (lm_t1 hT) (Exists.intro _ (And.intro (lm_n1 hT) (And.intro (inb_in (by decide)) ?_)))
    show Go _ _ _ _ _ _ 82 [(0, rm 0), (1, vi a0)] [vi (S.1 1 0)] (Y, (S, T)) _
    obtain rfl := Option.some.inj h
    exact go_ireturn (by decide +kernel) rfl rfl ⟨rfl, rfl⟩
  refine ite_el h (fun q4 h => ?_) (fun q4 h => ?_)
  · refine go_tableIn (dflt := 192) (lo := 0) (hi := 14) (offs := #[75, 82, 89, 96, 101, 109, 116, 124, 132, 152, 159, 166, 174, 179, 187]) (len := 75) (off := 82) (tgt := 83) (by decide +kernel) (by rw [q4]; decide) (by rw [q4]; decide) (by rw [q4]; decide) (by decide) ?_
    refine go_blk rfl [(.aload_n 0, 1, 0, 0, 0, .inl 0), (.getfield 9, 3, 11, 1, 1, .inl 0), (.iconst 1, 1, 0, 0, 0, .inl 1), (.iaload, 1, 20, 0, 0, .inl 0)] 83 89 _ _ _ (by decide +kernel) ?_
    refine And.intro (lm_t0 hT) (Exists.intro _ (And.intro (gRm (lm_r1 hT)) ?_))
    refine And.intro (lm_t1 hT) (Exists.intro _ (And.intro (lm_n1 hT) (And.intro (inb_in (by decide)) ?_)))
    show Go _ _ _ _ _ _ 89 [(0, rm 0), (1, vi a0)] [vi (S.1 1 1)] (Y, (S, T)) _
    obtain rfl := Option.some.inj h
    exact go_ireturn (by decide +kernel) rfl rfl ⟨rfl, rfl⟩
  refine ite_el h (fun q5 h => ?_) (fun q5 h => ?_)
  · refine go_tableIn (dflt := 192) (lo := 0) (hi := 14) (offs := #[75, 82, 89, 96, 101, 109, 116, 124, 132, 152, 159, 166, 174, 179, 187]) (len := 75) (off := 89) (tgt := 90) (by decide +kernel) (by rw [q5]; decide) (by rw [q5]; decide) (by rw [q5]; decide) (by decide) ?_
    refine go_blk rfl [(.aload_n 0, 1, 0, 0, 0, .inl 0), (.getfield 9, 3, 11, 1, 1, .inl 0), (.iconst 2, 1, 0, 0, 0, .inl 2), (.iaload, 1, 20, 0, 0, .inl 0)] 90 96 _ _ _ (by decide +kernel) ?_
    refine And.intro (lm_t0 hT) (Exists.intro _ (And.intro (gRm (lm_r1 hT)) ?_))
    refine And.intro (lm_t1 hT) (Exists.intro _ (And.intro (lm_n1 hT) (And.intro (inb_in (by decide)) ?_)))
    show Go _ _ _ _ _ _ 96 [(0, rm 0), (1, vi a0)] [vi (S.1 1 2)] (Y, (S, T)) _
    obtain rfl := Option.some.inj h
    exact go_ireturn (by decide +kernel) rfl rfl ⟨rfl, rfl⟩
  refine ite_el h (fun q6 h => ?_) (fun q6 h => ?_)
  · refine go_tableIn (dflt := 192) (lo := 0) (hi := 14) (offs := #[75, 82, 89, 96, 101, 109, 116, 124, 132, 152, 159, 166, 174, 179, 187]) (len := 75) (off := 96) (tgt := 97) (by decide +kernel) (by rw [q6]; decide) (by rw [q6]; decide) (by rw [q6]; decide) (by decide) ?_
    refine go_blk rfl [(.aload_n 0, 1, 0, 0, 0, .inl 0), (.getfield 333, 3, 11, 23, 0, .inl 0)] 97 101 _ _ _ (by decide +kernel) ?_
    refine And.intro (lm_t0 hT) ?_
    show Go _ _ _ _ _ _ 101 [(0, rm 0), (1, vi a0)] [vi (S.1 0 23)] (Y, (S, T)) _
    obtain rfl := Option.some.inj h
    exact go_ireturn (by decide +kernel) rfl rfl ⟨rfl, rfl⟩
  refine ite_el h (fun q7 h => ?_) (fun q7 h => ?_)
  · refine go_tableIn (dflt := 192) (lo := 0) (hi := 14) (offs := #[75, 82, 89, 96, 101, 109, 116, 124, 132, 152, 159, 166, 174, 179, 187]) (len := 75) (off := 101) (tgt := 102) (by decide +kernel) (by rw [q7]; decide) (by rw [q7]; decide) (by rw [q7]; decide) (by decide) ?_
    refine go_blk rfl [(.aload_n 0, 1, 0, 0, 0, .inl 0), (.getfield 9, 3, 11, 1, 1, .inl 0), (.bipush 10, 2, 0, 0, 0, .inl 10), (.iaload, 1, 20, 0, 0, .inl 0)] 102 109 _ _ _ (by decide +kernel) ?_
    refine And.intro (lm_t0 hT) (Exists.intro _ (And.intro (gRm (lm_r1 hT)) ?_))
    refine And.intro (lm_t1 hT) (Exists.intro _ (And.intro (lm_n1 hT) (And.intro (inb_in (by decide)) ?_)))
    show Go _ _ _ _ _ _ 109 [(0, rm 0), (1, vi a0)] [vi (S.1 1 10)] (Y, (S, T)) _
    obtain rfl := Option.some.inj h
    exact go_ireturn (by decide +kernel) rfl rfl ⟨rfl, rfl⟩
  refine ite_el h (fun q8 h => ?_) (fun q8 h => ?_)
  · refine go_tableIn (dflt := 192) (lo := 0) (hi := 14) (offs := #[75, 82, 89, 96, 101, 109, 116, 124, 132, 152, 159, 166, 174, 179, 187]) (len := 75) (off := 109) (tgt := 110) (by decide +kernel) (by rw [q8]; decide) (by rw [q8]; decide) (by rw [q8]; decide) (by decide) ?_
    refine go_blk rfl [(.aload_n 0, 1, 0, 0, 0, .inl 0), (.getfield 9, 3, 11, 1, 1, .inl 0), (.iconst 3, 1, 0, 0, 0, .inl 3), (.iaload, 1, 20, 0, 0, .inl 0)] 110 116 _ _ _ (by decide +kernel) ?_
    refine And.intro (lm_t0 hT) (Exists.intro _ (And.intro (gRm (lm_r1 hT)) ?_))
    refine And.intro (lm_t1 hT) (Exists.intro _ (And.intro (lm_n1 hT) (And.intro (inb_in (by decide)) ?_)))
    show Go _ _ _ _ _ _ 116 [(0, rm 0), (1, vi a0)] [vi (S.1 1 3)] (Y, (S, T)) _
    obtain rfl := Option.some.inj h
    exact go_ireturn (by decide +kernel) rfl rfl ⟨rfl, rfl⟩
  refine ite_el h (fun q9 h => ?_) (fun q9 h => ?_)
  · refine go_tableIn (dflt := 192) (lo := 0) (hi := 14) (offs := #[75, 82, 89, 96, 101, 109, 116, 124, 132, 152, 159, 166, 174, 179, 187]) (len := 75) (off := 116) (tgt := 117) (by decide +kernel) (by rw [q9]; decide) (by rw [q9]; decide) (by rw [q9]; decide) (by decide) ?_
    refine go_blk rfl [(.aload_n 0, 1, 0, 0, 0, .inl 0), (.getfield 9, 3, 11, 1, 1, .inl 0), (.bipush 6, 2, 0, 0, 0, .inl 6), (.iaload, 1, 20, 0, 0, .inl 0)] 117 124 _ _ _ (by decide +kernel) ?_
    refine And.intro (lm_t0 hT) (Exists.intro _ (And.intro (gRm (lm_r1 hT)) ?_))
    refine And.intro (lm_t1 hT) (Exists.intro _ (And.intro (lm_n1 hT) (And.intro (inb_in (by decide)) ?_)))
    show Go _ _ _ _ _ _ 124 [(0, rm 0), (1, vi a0)] [vi (S.1 1 6)] (Y, (S, T)) _
    obtain rfl := Option.some.inj h
    exact go_ireturn (by decide +kernel) rfl rfl ⟨rfl, rfl⟩
  refine ite_el h (fun q10 h => ?_) (fun q10 h => ?_)
  · refine go_tableIn (dflt := 192) (lo := 0) (hi := 14) (offs := #[75, 82, 89, 96, 101, 109, 116, 124, 132, 152, 159, 166, 174, 179, 187]) (len := 75) (off := 124) (tgt := 125) (by decide +kernel) (by rw [q10]; decide) (by rw [q10]; decide) (by rw [q10]; decide) (by decide) ?_
    refine go_blk rfl [(.aload_n 0, 1, 0, 0, 0, .inl 0), (.getfield 9, 3, 11, 1, 1, .inl 0), (.bipush 7, 2, 0, 0, 0, .inl 7), (.iaload, 1, 20, 0, 0, .inl 0)] 125 132 _ _ _ (by decide +kernel) ?_
    refine And.intro (lm_t0 hT) (Exists.intro _ (And.intro (gRm (lm_r1 hT)) ?_))
    refine And.intro (lm_t1 hT) (Exists.intro _ (And.intro (lm_n1 hT) (And.intro (inb_in (by decide)) ?_)))
    show Go _ _ _ _ _ _ 132 [(0, rm 0), (1, vi a0)] [vi (S.1 1 7)] (Y, (S, T)) _
    obtain rfl := Option.some.inj h
    exact go_ireturn (by decide +kernel) rfl rfl ⟨rfl, rfl⟩
  refine ite_el h (fun q11 h => ?_) (fun q11 h => ?_)
  · refine go_tableIn (dflt := 192) (lo := 0) (hi := 14) (offs := #[75, 82, 89, 96, 101, 109, 116, 124, 132, 152, 159, 166, 174, 179, 187]) (len := 75) (off := 132) (tgt := 133) (by decide +kernel) (by rw [q11]; decide) (by rw [q11]; decide) (by rw [q11]; decide) (by decide) ?_
    refine go_blk rfl [(.aload_n 0, 1, 0, 0, 0, .inl 0)] 133 134 _ _ _ (by decide +kernel) ?_
    show Go _ _ _ _ _ _ 134 [(0, rm 0), (1, vi a0)] [rm 0] (Y, (S, T)) _
    obtain ⟨r1, hr1, h⟩ := bind_el h
    refine go_callV (idx := 420) (z := 0) (M' := M11_isParty) (n := 0) (A := []) (v' := some (vi r1)) (μ' := (Y, (S, T))) (d' := 1) (mc' := 0) (ms' := 0) (kc' := 0) (ks' := 0) (ci := 11) (x := .inr (.inl 0)) (by decide +kernel) ml_11_420 rfl wv11_isParty rfl (by decide) rfl (lm_t0 hT) (ret11_isParty hT hr1) (by decide) rfl rfl (Nat.le_of_ble_eq_true rfl) rfl (jag rfl rfl) ?_
    show Go _ _ _ _ _ _ 137 [(0, rm 0), (1, vi a0)] [vi r1] (Y, (S, T)) _
    refine ite_el h (fun q1 h => ?_) (fun q1 h => ?_)
    · refine go_if_eq (off := 14) (tgt := 151) (by decide +kernel) (by decide) (fun _ => ?_) (fun z => absurd q1 z)
      refine go_blk rfl [(.iconst 0, 1, 0, 0, 0, .inl 0)] 151 152 _ _ _ (by decide +kernel) ?_
      show Go _ _ _ _ _ _ 152 [(0, rm 0), (1, vi a0)] [vi 0] (Y, (S, T)) _
      obtain rfl := Option.some.inj h
      exact go_ireturn (by decide +kernel) rfl rfl ⟨rfl, rfl⟩
    · refine go_if_eq (off := 14) (tgt := 151) (by decide +kernel) (by decide) (fun z => absurd z q1) (fun _ => ?_)
      refine go_blk rfl [(.aload_n 0, 1, 0, 0, 0, .inl 0)] 140 141 _ _ _ (by decide +kernel) ?_
      show Go _ _ _ _ _ _ 141 [(0, rm 0), (1, vi a0)] [rm 0] (Y, (S, T)) _
      obtain ⟨r2, hr2, h⟩ := bind_el h
      refine go_callV (idx := 384) (z := 0) (M' := M11_isDone) (n := 0) (A := []) (v' := some (vi r2)) (μ' := (Y, (S, T))) (d' := 2) (mc' := 0) (ms' := 0) (kc' := 0) (ks' := 0) (ci := 11) (x := .inr (.inl 0)) (by decide +kernel) ml_11_384 rfl wv11_isDone rfl (by decide) rfl (lm_t0 hT) (ret11_isDone hT hr2) (by decide) rfl rfl (Nat.le_of_ble_eq_true rfl) rfl (jag rfl rfl) ?_
      show Go _ _ _ _ _ _ 144 [(0, rm 0), (1, vi a0)] [vi r2] (Y, (S, T)) _
      refine ite_el h (fun q2 h => ?_) (fun q2 h => ?_)
      · refine go_if_eq (off := 7) (tgt := 151) (by decide +kernel) (by decide) (fun _ => ?_) (fun z => absurd q2 z)
        refine go_blk rfl [(.iconst 0, 1, 0, 0, 0, .inl 0)] 151 152 _ _ _ (by decide +kernel) ?_
        show Go _ _ _ _ _ _ 152 [(0, rm 0), (1, vi a0)] [vi 0] (Y, (S, T)) _
        obtain rfl := Option.some.inj h
        exact go_ireturn (by decide +kernel) rfl rfl ⟨rfl, rfl⟩
      · refine go_if_eq (off := 7) (tgt := 151) (by decide +kernel) (by decide) (fun z => absurd z q2) (fun _ => ?_)
        refine go_blk rfl [(.iconst 1, 1, 0, 0, 0, .inl 1)] 147 148 _ _ _ (by decide +kernel) ?_
        show Go _ _ _ _ _ _ 148 [(0, rm 0), (1, vi a0)] [vi 1] (Y, (S, T)) _
        refine go_goto (off := 4) (tgt := 152) (by decide +kernel) (by decide) ?_
        obtain rfl := Option.some.inj h
        exact go_ireturn (by decide +kernel) rfl rfl ⟨rfl, rfl⟩
  refine ite_el h (fun q12 h => ?_) (fun q12 h => ?_)
  · refine go_tableIn (dflt := 192) (lo := 0) (hi := 14) (offs := #[75, 82, 89, 96, 101, 109, 116, 124, 132, 152, 159, 166, 174, 179, 187]) (len := 75) (off := 152) (tgt := 153) (by decide +kernel) (by rw [q12]; decide) (by rw [q12]; decide) (by rw [q12]; decide) (by decide) ?_
    refine go_blk rfl [(.aload_n 0, 1, 0, 0, 0, .inl 0), (.getfield 9, 3, 11, 1, 1, .inl 0), (.iconst 5, 1, 0, 0, 0, .inl 5), (.iaload, 1, 20, 0, 0, .inl 0)] 153 159 _ _ _ (by decide +kernel) ?_
    refine And.intro (lm_t0 hT) (Exists.intro _ (And.intro (gRm (lm_r1 hT)) ?_))
    refine And.intro (lm_t1 hT) (Exists.intro _ (And.intro (lm_n1 hT) (And.intro (inb_in (by decide)) ?_)))
    show Go _ _ _ _ _ _ 159 [(0, rm 0), (1, vi a0)] [vi (S.1 1 5)] (Y, (S, T)) _
    obtain rfl := Option.some.inj h
    exact go_ireturn (by decide +kernel) rfl rfl ⟨rfl, rfl⟩
  refine ite_el h (fun q13 h => ?_) (fun q13 h => ?_)
  · refine go_tableIn (dflt := 192) (lo := 0) (hi := 14) (offs := #[75, 82, 89, 96, 101, 109, 116, 124, 132, 152, 159, 166, 174, 179, 187]) (len := 75) (off := 159) (tgt := 160) (by decide +kernel) (by rw [q13]; decide) (by rw [q13]; decide) (by rw [q13]; decide) (by decide) ?_
    refine go_blk rfl [(.aload_n 0, 1, 0, 0, 0, .inl 0), (.getfield 9, 3, 11, 1, 1, .inl 0), (.iconst 4, 1, 0, 0, 0, .inl 4), (.iaload, 1, 20, 0, 0, .inl 0)] 160 166 _ _ _ (by decide +kernel) ?_
    refine And.intro (lm_t0 hT) (Exists.intro _ (And.intro (gRm (lm_r1 hT)) ?_))
    refine And.intro (lm_t1 hT) (Exists.intro _ (And.intro (lm_n1 hT) (And.intro (inb_in (by decide)) ?_)))
    show Go _ _ _ _ _ _ 166 [(0, rm 0), (1, vi a0)] [vi (S.1 1 4)] (Y, (S, T)) _
    obtain rfl := Option.some.inj h
    exact go_ireturn (by decide +kernel) rfl rfl ⟨rfl, rfl⟩
  refine ite_el h (fun q14 h => ?_) (fun q14 h => ?_)
  · refine go_tableIn (dflt := 192) (lo := 0) (hi := 14) (offs := #[75, 82, 89, 96, 101, 109, 116, 124, 132, 152, 159, 166, 174, 179, 187]) (len := 75) (off := 166) (tgt := 167) (by decide +kernel) (by rw [q14]; decide) (by rw [q14]; decide) (by rw [q14]; decide) (by decide) ?_
    refine go_blk rfl [(.aload_n 0, 1, 0, 0, 0, .inl 0), (.getfield 9, 3, 11, 1, 1, .inl 0), (.bipush 8, 2, 0, 0, 0, .inl 8), (.iaload, 1, 20, 0, 0, .inl 0)] 167 174 _ _ _ (by decide +kernel) ?_
    refine And.intro (lm_t0 hT) (Exists.intro _ (And.intro (gRm (lm_r1 hT)) ?_))
    refine And.intro (lm_t1 hT) (Exists.intro _ (And.intro (lm_n1 hT) (And.intro (inb_in (by decide)) ?_)))
    show Go _ _ _ _ _ _ 174 [(0, rm 0), (1, vi a0)] [vi (S.1 1 8)] (Y, (S, T)) _
    obtain rfl := Option.some.inj h
    exact go_ireturn (by decide +kernel) rfl rfl ⟨rfl, rfl⟩
  refine ite_el h (fun q15 h => ?_) (fun q15 h => ?_)
  · refine go_tableIn (dflt := 192) (lo := 0) (hi := 14) (offs := #[75, 82, 89, 96, 101, 109, 116, 124, 132, 152, 159, 166, 174, 179, 187]) (len := 75) (off := 174) (tgt := 175) (by decide +kernel) (by rw [q15]; decide) (by rw [q15]; decide) (by rw [q15]; decide) (by decide) ?_
    refine go_blk rfl [(.aload_n 0, 1, 0, 0, 0, .inl 0), (.getfield 320, 3, 11, 44, 0, .inl 0)] 175 179 _ _ _ (by decide +kernel) ?_
    refine And.intro (lm_t0 hT) ?_
    show Go _ _ _ _ _ _ 179 [(0, rm 0), (1, vi a0)] [vi (S.1 0 44)] (Y, (S, T)) _
    obtain rfl := Option.some.inj h
    exact go_ireturn (by decide +kernel) rfl rfl ⟨rfl, rfl⟩
  refine ite_el h (fun q16 h => ?_) (fun q16 h => ?_)
  · refine go_tableIn (dflt := 192) (lo := 0) (hi := 14) (offs := #[75, 82, 89, 96, 101, 109, 116, 124, 132, 152, 159, 166, 174, 179, 187]) (len := 75) (off := 179) (tgt := 180) (by decide +kernel) (by rw [q16]; decide) (by rw [q16]; decide) (by rw [q16]; decide) (by decide) ?_
    refine go_blk rfl [(.aload_n 0, 1, 0, 0, 0, .inl 0), (.getfield 9, 3, 11, 1, 1, .inl 0), (.bipush 9, 2, 0, 0, 0, .inl 9), (.iaload, 1, 20, 0, 0, .inl 0)] 180 187 _ _ _ (by decide +kernel) ?_
    refine And.intro (lm_t0 hT) (Exists.intro _ (And.intro (gRm (lm_r1 hT)) ?_))
    refine And.intro (lm_t1 hT) (Exists.intro _ (And.intro (lm_n1 hT) (And.intro (inb_in (by decide)) ?_)))
    show Go _ _ _ _ _ _ 187 [(0, rm 0), (1, vi a0)] [vi (S.1 1 9)] (Y, (S, T)) _
    obtain rfl := Option.some.inj h
    exact go_ireturn (by decide +kernel) rfl rfl ⟨rfl, rfl⟩
  refine ite_el h (fun q17 h => ?_) (fun q17 h => ?_)
  · refine go_tableIn (dflt := 192) (lo := 0) (hi := 14) (offs := #[75, 82, 89, 96, 101, 109, 116, 124, 132, 152, 159, 166, 174, 179, 187]) (len := 75) (off := 187) (tgt := 188) (by decide +kernel) (by rw [q17]; decide) (by rw [q17]; decide) (by rw [q17]; decide) (by decide) ?_
    refine go_blk rfl [(.aload_n 0, 1, 0, 0, 0, .inl 0), (.getfield 152, 3, 11, 19, 0, .inl 0)] 188 192 _ _ _ (by decide +kernel) ?_
    refine And.intro (lm_t0 hT) ?_
    show Go _ _ _ _ _ _ 192 [(0, rm 0), (1, vi a0)] [vi (S.1 0 19)] (Y, (S, T)) _
    obtain rfl := Option.some.inj h
    exact go_ireturn (by decide +kernel) rfl rfl ⟨rfl, rfl⟩
  refine go_tableOut (dflt := 192) (lo := 0) (hi := 14) (offs := #[75, 82, 89, 96, 101, 109, 116, 124, 132, 152, 159, 166, 174, 179, 187]) (len := 75) (tgt := 193) (by decide +kernel) (by have z0 : a0.toInt ≠ 0 := tb_ne q3 (by decide); have z1 : a0.toInt ≠ 1 := tb_ne q4 (by decide); have z2 : a0.toInt ≠ 2 := tb_ne q5 (by decide); have z3 : a0.toInt ≠ 3 := tb_ne q6 (by decide); have z4 : a0.toInt ≠ 4 := tb_ne q7 (by decide); have z5 : a0.toInt ≠ 5 := tb_ne q8 (by decide); have z6 : a0.toInt ≠ 6 := tb_ne q9 (by decide); have z7 : a0.toInt ≠ 7 := tb_ne q10 (by decide); have z8 : a0.toInt ≠ 8 := tb_ne q11 (by decide); have z9 : a0.toInt ≠ 9 := tb_ne q12 (by decide); have z10 : a0.toInt ≠ 10 := tb_ne q13 (by decide); have z11 : a0.toInt ≠ 11 := tb_ne q14 (by decide); have z12 : a0.toInt ≠ 12 := tb_ne q15 (by decide); have z13 : a0.toInt ≠ 13 := tb_ne q16 (by decide); have z14 : a0.toInt ≠ 14 := tb_ne q17 (by decide); omega) (by decide) ?_
  refine go_blk rfl [(.iconst (-1), 1, 0, 0, 0, .inl (-1))] 193 194 _ _ _ (by decide +kernel) ?_
  show Go _ _ _ _ _ _ 194 [(0, rm 0), (1, vi a0)] [vi ((-1))] (Y, (S, T)) _
  obtain rfl := Option.some.inj h
  exact go_ireturn (by decide +kernel) rfl rfl ⟨rfl, rfl⟩
def f11_image (S : jS) (a0 : Int32) : Option (jS × Int32) := Option.bind (f11_in a0.toInt64 0 3) (fun r1 => (if r1 = 0 then some (S, (-1)) else (if inb a0 4 then Option.bind (f11_carriesAll (wI S 54 a0.toNatClampNeg (vp_nar .boolean 1)) a0 0) (fun r2 => some (r2.1, r2.1.1 1 3)) else none)))
theorem ret11_image {S : jS} {T : jT} {Y : jS × jT} {a0 : Int32} {S1 : jS} {x : Int32} (hT : LayM T) (h : f11_image S a0 = some (S1, x)) : Ret M11_image 3 0 0 [rm 0, vi a0] (Y, (S, T)) (some (vi x)) (Y, (S1, T)) := by
  refine Ret.of (by decide +kernel) (Nat.le_of_ble_eq_true rfl) ?_
  unfold f11_image at h
  show Go _ _ _ _ _ _ 0 [(0, rm 0), (1, vi a0)] [] (Y, (S, T)) _
  refine go_blk rfl [(.iload_n 1, 1, 1, 0, 0, .inl 0), (.i2l, 1, 0, 0, 0, .inl 0), (.lconst 0, 1, 0, 0, 0, .inr (.inl 0)), (.ldc2_w 520, 3, 0, 0, 0, .inr (.inl 3))] 0 6 _ _ _ (by decide +kernel) ?_
  show Go _ _ _ _ _ _ 6 [(0, rm 0), (1, vi a0)] [vl 3, vl 0, vl a0.toInt64] (Y, (S, T)) _
  obtain ⟨r1, hr1, h⟩ := bind_el h
  refine go_callS (idx := 140) (z := 0) (M' := M11_in) (n := 3) (A := [vl a0.toInt64, vl 0, vl 3]) (v' := some (vi r1)) (μ' := (Y, (S, T))) (d' := 1) (mc' := 0) (ms' := 0) (kc' := 0) (ks' := 0) (by decide +kernel) ml_11_140 rfl ws11_in rfl (ret11_in hr1) (by decide) rfl rfl (Nat.le_of_ble_eq_true rfl) rfl (jag rfl rfl) ?_
  show Go _ _ _ _ _ _ 9 [(0, rm 0), (1, vi a0)] [vi r1] (Y, (S, T)) _
  refine ite_el h (fun q1 h => ?_) (fun q1 h => ?_)
  · refine go_if_ne (off := 5) (tgt := 14) (by decide +kernel) (by decide) (fun z => absurd q1 z) (fun _ => ?_)
    refine go_blk rfl [(.iconst (-1), 1, 0, 0, 0, .inl (-1))] 12 13 _ _ _ (by decide +kernel) ?_
    show Go _ _ _ _ _ _ 13 [(0, rm 0), (1, vi a0)] [vi ((-1))] (Y, (S, T)) _
    obtain ⟨rfl, rfl⟩ := Prod.mk.inj (Option.some.inj h)
    exact go_ireturn (by decide +kernel) rfl rfl ⟨rfl, rfl⟩
  · refine go_if_ne (off := 5) (tgt := 14) (by decide +kernel) (by decide) (fun _ => ?_) (fun z => absurd z q1)
    refine gd_el h (fun q2 h => ?_)
    refine go_blk rfl [(.aload_n 0, 1, 0, 0, 0, .inl 0), (.getfield 133, 3, 11, 54, 1, .inl 0), (.iload_n 1, 1, 1, 0, 0, .inl 0), (.iconst 1, 1, 0, 0, 0, .inl 1), (.bastore, 1, 22, 0, 0, .inl 0)] 14 21 _ _ _ (by decide +kernel) ?_
    refine And.intro (lm_t0 hT) (Exists.intro _ (And.intro (gRm (lm_r54 hT)) ?_))
    refine And.intro (lm_t54 hT) (Exists.intro _ (And.intro (lm_n54 hT) (And.intro (inb_in q2) ?_)))
    show Go _ _ _ _ _ _ 21 [(0, rm 0), (1, vi a0)] [] (Y, (wI S 54 a0.toNatClampNeg (vp_nar .boolean 1), T)) _
    refine go_blk rfl [(.aload_n 0, 1, 0, 0, 0, .inl 0), (.iload_n 1, 1, 1, 0, 0, .inl 0), (.iconst 0, 1, 0, 0, 0, .inl 0)] 21 24 _ _ _ (by decide +kernel) ?_
    show Go _ _ _ _ _ _ 24 [(0, rm 0), (1, vi a0)] [vi 0, vi a0, rm 0] (Y, (wI S 54 a0.toNatClampNeg (vp_nar .boolean 1), T)) _
    obtain ⟨r2, hr2, h⟩ := bind_el h
    refine go_callV (idx := 431) (z := 0) (M' := M11_carriesAll) (n := 2) (A := [vi a0, vi 0]) (v' := none) (μ' := (Y, (r2.1, T))) (d' := 2) (mc' := 0) (ms' := 0) (kc' := 0) (ks' := 0) (ci := 11) (x := .inr (.inl 0)) (by decide +kernel) ml_11_431 rfl wv11_carriesAll rfl (by decide) rfl (lm_t0 hT) (ret11_carriesAll hT hr2) (by decide) rfl rfl (Nat.le_of_ble_eq_true rfl) rfl (jag rfl rfl) ?_
    show Go _ _ _ _ _ _ 27 [(0, rm 0), (1, vi a0)] [] (Y, (r2.1, T)) _
    refine go_blk rfl [(.aload_n 0, 1, 0, 0, 0, .inl 0), (.getfield 9, 3, 11, 1, 1, .inl 0), (.iconst 3, 1, 0, 0, 0, .inl 3), (.iaload, 1, 20, 0, 0, .inl 0)] 27 33 _ _ _ (by decide +kernel) ?_
    refine And.intro (lm_t0 hT) (Exists.intro _ (And.intro (gRm (lm_r1 hT)) ?_))
    refine And.intro (lm_t1 hT) (Exists.intro _ (And.intro (lm_n1 hT) (And.intro (inb_in (by decide)) ?_)))
    show Go _ _ _ _ _ _ 33 [(0, rm 0), (1, vi a0)] [vi (r2.1.1 1 3)] (Y, (r2.1, T)) _
    obtain ⟨rfl, rfl⟩ := Prod.mk.inj (Option.some.inj h)
    exact go_ireturn (by decide +kernel) rfl rfl ⟨rfl, rfl⟩
def f11_back (S : jS) (a0 : Int32) : Option (jS × Int32) := Option.bind (f11_in a0.toInt64 0 3) (fun r1 => (if r1 = 0 then some (S, (-1)) else (if inb a0 4 then (if (S.1 54 a0.toNatClampNeg) = 0 then some (S, (-1)) else Option.bind (f11_carriesAll S a0 1) (fun r2 => some (r2.1, r2.1.1 1 3))) else none)))
theorem ret11_back {S : jS} {T : jT} {Y : jS × jT} {a0 : Int32} {S1 : jS} {x : Int32} (hT : LayM T) (h : f11_back S a0 = some (S1, x)) : Ret M11_back 3 0 0 [rm 0, vi a0] (Y, (S, T)) (some (vi x)) (Y, (S1, T)) := by
  refine Ret.of (by decide +kernel) (Nat.le_of_ble_eq_true rfl) ?_
  unfold f11_back at h
  show Go _ _ _ _ _ _ 0 [(0, rm 0), (1, vi a0)] [] (Y, (S, T)) _
  refine go_blk rfl [(.iload_n 1, 1, 1, 0, 0, .inl 0), (.i2l, 1, 0, 0, 0, .inl 0), (.lconst 0, 1, 0, 0, 0, .inr (.inl 0)), (.ldc2_w 520, 3, 0, 0, 0, .inr (.inl 3))] 0 6 _ _ _ (by decide +kernel) ?_
  show Go _ _ _ _ _ _ 6 [(0, rm 0), (1, vi a0)] [vl 3, vl 0, vl a0.toInt64] (Y, (S, T)) _
  obtain ⟨r1, hr1, h⟩ := bind_el h
  refine go_callS (idx := 140) (z := 0) (M' := M11_in) (n := 3) (A := [vl a0.toInt64, vl 0, vl 3]) (v' := some (vi r1)) (μ' := (Y, (S, T))) (d' := 1) (mc' := 0) (ms' := 0) (kc' := 0) (ks' := 0) (by decide +kernel) ml_11_140 rfl ws11_in rfl (ret11_in hr1) (by decide) rfl rfl (Nat.le_of_ble_eq_true rfl) rfl (jag rfl rfl) ?_
  show Go _ _ _ _ _ _ 9 [(0, rm 0), (1, vi a0)] [vi r1] (Y, (S, T)) _
  refine ite_el h (fun q1 h => ?_) (fun q1 h => ?_)
  · refine go_if_eq (off := 12) (tgt := 21) (by decide +kernel) (by decide) (fun _ => ?_) (fun z => absurd q1 z)
    refine go_blk rfl [(.iconst (-1), 1, 0, 0, 0, .inl (-1))] 21 22 _ _ _ (by decide +kernel) ?_
    show Go _ _ _ _ _ _ 22 [(0, rm 0), (1, vi a0)] [vi ((-1))] (Y, (S, T)) _
    obtain ⟨rfl, rfl⟩ := Prod.mk.inj (Option.some.inj h)
    exact go_ireturn (by decide +kernel) rfl rfl ⟨rfl, rfl⟩
  · refine go_if_eq (off := 12) (tgt := 21) (by decide +kernel) (by decide) (fun z => absurd z q1) (fun _ => ?_)
    refine gd_el h (fun q2 h => ?_)
    refine go_blk rfl [(.aload_n 0, 1, 0, 0, 0, .inl 0), (.getfield 133, 3, 11, 54, 1, .inl 0), (.iload_n 1, 1, 1, 0, 0, .inl 0), (.baload, 1, 22, 0, 0, .inl 0)] 12 18 _ _ _ (by decide +kernel) ?_
    refine And.intro (lm_t0 hT) (Exists.intro _ (And.intro (gRm (lm_r54 hT)) ?_))
    refine And.intro (lm_t54 hT) (Exists.intro _ (And.intro (lm_n54 hT) (And.intro (inb_in q2) ?_)))
    show Go _ _ _ _ _ _ 18 [(0, rm 0), (1, vi a0)] [vi (S.1 54 a0.toNatClampNeg)] (Y, (S, T)) _
    refine ite_el h (fun q3 h => ?_) (fun q3 h => ?_)
    · refine go_if_ne (off := 5) (tgt := 23) (by decide +kernel) (by decide) (fun z => absurd q3 z) (fun _ => ?_)
      refine go_blk rfl [(.iconst (-1), 1, 0, 0, 0, .inl (-1))] 21 22 _ _ _ (by decide +kernel) ?_
      show Go _ _ _ _ _ _ 22 [(0, rm 0), (1, vi a0)] [vi ((-1))] (Y, (S, T)) _
      obtain ⟨rfl, rfl⟩ := Prod.mk.inj (Option.some.inj h)
      exact go_ireturn (by decide +kernel) rfl rfl ⟨rfl, rfl⟩
    · refine go_if_ne (off := 5) (tgt := 23) (by decide +kernel) (by decide) (fun _ => ?_) (fun z => absurd z q3)
      refine go_blk rfl [(.aload_n 0, 1, 0, 0, 0, .inl 0), (.iload_n 1, 1, 1, 0, 0, .inl 0), (.iconst 1, 1, 0, 0, 0, .inl 1)] 23 26 _ _ _ (by decide +kernel) ?_
      show Go _ _ _ _ _ _ 26 [(0, rm 0), (1, vi a0)] [vi 1, vi a0, rm 0] (Y, (S, T)) _
      obtain ⟨r2, hr2, h⟩ := bind_el h
      refine go_callV (idx := 431) (z := 0) (M' := M11_carriesAll) (n := 2) (A := [vi a0, vi 1]) (v' := none) (μ' := (Y, (r2.1, T))) (d' := 2) (mc' := 0) (ms' := 0) (kc' := 0) (ks' := 0) (ci := 11) (x := .inr (.inl 0)) (by decide +kernel) ml_11_431 rfl wv11_carriesAll rfl (by decide) rfl (lm_t0 hT) (ret11_carriesAll hT hr2) (by decide) rfl rfl (Nat.le_of_ble_eq_true rfl) rfl (jag rfl rfl) ?_
      show Go _ _ _ _ _ _ 29 [(0, rm 0), (1, vi a0)] [] (Y, (r2.1, T)) _
      refine go_blk rfl [(.aload_n 0, 1, 0, 0, 0, .inl 0), (.getfield 9, 3, 11, 1, 1, .inl 0), (.iconst 3, 1, 0, 0, 0, .inl 3), (.iaload, 1, 20, 0, 0, .inl 0)] 29 35 _ _ _ (by decide +kernel) ?_
      refine And.intro (lm_t0 hT) (Exists.intro _ (And.intro (gRm (lm_r1 hT)) ?_))
      refine And.intro (lm_t1 hT) (Exists.intro _ (And.intro (lm_n1 hT) (And.intro (inb_in (by decide)) ?_)))
      show Go _ _ _ _ _ _ 35 [(0, rm 0), (1, vi a0)] [vi (r2.1.1 1 3)] (Y, (r2.1, T)) _
      obtain ⟨rfl, rfl⟩ := Prod.mk.inj (Option.some.inj h)
      exact go_ireturn (by decide +kernel) rfl rfl ⟨rfl, rfl⟩
