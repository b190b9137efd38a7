def f11_both (a0 : Int32) (a1 : Int64) (a2 : Int64) : Option Int64 := (if a0 = 2 then some (a1 + a2) else (if a0 = 3 then some (a1 - a2) else (if a0 = 4 then Option.bind (f11_truth (((if 0 ≤ (lg_cmp a1 a2) then 0 else 1) : Int32))) (fun r1 => some r1) else (if a0 = 5 then Option.bind (f11_truth (((if 0 < (lg_cmp a1 a2) then 0 else 1) : Int32))) (fun r2 => some r2) else (if a0 = 6 then Option.bind (f11_truth (((if (lg_cmp a1 a2) = 0 then 1 else 0) : Int32))) (fun r3 => some r3) else (if a0 = 7 then Option.bind (f11_truth (((if (lg_cmp a1 a2) < 0 then 0 else 1) : Int32))) (fun r4 => some r4) else (if a0 = 8 then Option.bind (f11_truth (((if (lg_cmp a1 a2) ≤ 0 then 0 else 1) : Int32))) (fun r5 => some r5) else (if a0 = 9 then some (a1 ||| a2) else (if a0 = 10 then some (a1 &&& a2) else (if a0 = 11 then some (a1 ||| a2) else (if a0 = 12 then some (a1 ||| a2) else (if a0 = 13 then some (a1 * a2) else (if a0 = 14 then (if (lg_cmp a2 0) = 0 then some 0 else (if ¬ a2 = 0 then some (a1 / a2) else none)) else (if a0 = 15 then (if (lg_cmp a2 0) = 0 then some 0 else (if ¬ a2 = 0 then some (lrm a1 a2) else none)) else some (a1 ||| a2)))))))))))))))
theorem ret11_both {μ : jMem} {a0 : Int32} {a1 : Int64} {a2 : Int64} {x : Int64} (h : f11_both a0 a1 a2 = some x) : Ret M11_both 2 0 0 [vi a0, vl a1, vl a2] μ (some (vl x)) μ := by
  refine Ret.of (by decide +kernel) (Nat.le_of_ble_eq_true rfl) ?_
  unfold f11_both at h
  show Go _ _ _ _ _ _ 0 [(0, vi a0), (1, vl a1), (3, vl a2)] [] μ _
  refine go_blk rfl [(.iload_n 0, 1, 0, 0, 0, .inl 0)] 0 1 _ _ _ (by decide +kernel) ?_
  show Go _ _ _ _ _ _ 1 [(0, vi a0), (1, vl a1), (3, vl a2)] [vi a0] μ _
  refine ite_el h (fun q10 h => ?_) (fun q10 h => ?_)
  · refine go_tableIn (dflt := 190) (lo := 2) (hi := 15) (offs := #[71, 75, 111, 126, 141, 156, 171, 190, 186, 190, 190, 79, 83, 97]) (len := 71) (off := 71) (tgt := 72) (by decide +kernel) (by rw [q10]; decide) (by rw [q10]; decide) (by rw [q10]; decide) (by decide) ?_
    refine go_blk rfl [(.lload_n 1, 1, 1, 0, 0, .inl 0), (.lload_n 3, 1, 3, 0, 0, .inl 0), (.ladd, 1, 0, 0, 0, .inl 0)] 72 75 _ _ _ (by decide +kernel) ?_
    show Go _ _ _ _ _ _ 75 [(0, vi a0), (1, vl a1), (3, vl a2)] [vl (a1 + a2)] μ _
    obtain rfl := Option.some.inj h
    exact go_lreturn (by decide +kernel) rfl ⟨rfl, rfl⟩
  refine ite_el h (fun q11 h => ?_) (fun q11 h => ?_)
  · refine go_tableIn (dflt := 190) (lo := 2) (hi := 15) (offs := #[71, 75, 111, 126, 141, 156, 171, 190, 186, 190, 190, 79, 83, 97]) (len := 71) (off := 75) (tgt := 76) (by decide +kernel) (by rw [q11]; decide) (by rw [q11]; decide) (by rw [q11]; decide) (by decide) ?_
    refine go_blk rfl [(.lload_n 1, 1, 1, 0, 0, .inl 0), (.lload_n 3, 1, 3, 0, 0, .inl 0), (.lsub, 1, 0, 0, 0, .inl 0)] 76 79 _ _ _ (by decide +kernel) ?_
    show Go _ _ _ _ _ _ 79 [(0, vi a0), (1, vl a1), (3, vl a2)] [vl (a1 - a2)] μ _
    obtain rfl := Option.some.inj h
    exact go_lreturn (by decide +kernel) rfl ⟨rfl, rfl⟩
  refine ite_el h (fun q12 h => ?_) (fun q12 h => ?_)
  · refine go_tableIn (dflt := 190) (lo := 2) (hi := 15) (offs := #[71, 75, 111, 126, 141, 156, 171, 190, 186, 190, 190, 79, 83, 97]) (len := 71) (off := 111) (tgt := 112) (by decide +kernel) (by rw [q12]; decide) (by rw [q12]; decide) (by rw [q12]; decide) (by decide) ?_
    refine go_blk rfl [(.lload_n 1, 1, 1, 0, 0, .inl 0), (.lload_n 3, 1, 3, 0, 0, .inl 0), (.lcmp, 1, 0, 0, 0, .inl 0)] 112 115 _ _ _ (by decide +kernel) ?_
    show Go _ _ _ _ _ _ 115 [(0, vi a0), (1, vl a1), (3, vl a2)] [vi (lg_cmp a1 a2)] μ _
    have key : ∀ z0 : Int32, z0 = ((if 0 ≤ (lg_cmp a1 a2) then 0 else 1) : Int32) → Go M11_both 2 0 0 0 0 123 [] [vi z0] μ (eqQ (some (vl x)) μ) := by
      intro z0 ez0
      subst ez0
      obtain ⟨r1, hr1, h⟩ := bind_el h
      refine go_callS (idx := 345) (z := 0) (M' := M11_truth) (n := 1) (A := [vi (((if 0 ≤ (lg_cmp a1 a2) then 0 else 1) : Int32))]) (v' := some (vl r1)) (μ' := μ) (d' := 1) (mc' := 0) (ms' := 0) (kc' := 0) (ks' := 0) (by decide +kernel) ml_11_345 rfl ws11_truth rfl (ret11_truth hr1) (by decide) rfl rfl (Nat.le_of_ble_eq_true rfl) rfl (jag rfl rfl) ?_
      show Go _ _ _ _ _ _ 126 [] [vl r1] μ _
      obtain rfl := Option.some.inj h
      exact go_lreturn (by decide +kernel) rfl ⟨rfl, rfl⟩
    clear h
    by_cases q1 : 0 ≤ (lg_cmp a1 a2)
    · refine go_if_ge (off := 7) (tgt := 122) (by decide +kernel) (by decide) (fun _ => ?_) (fun z => absurd q1 z)
      refine go_blk rfl [(.iconst 0, 1, 0, 0, 0, .inl 0)] 122 123 _ _ _ (by decide +kernel) ?_
      show Go _ _ _ _ _ _ 123 [(0, vi a0), (1, vl a1), (3, vl a2)] [vi 0] μ _
      refine go_pick [] rfl ?_; exact key _ (by rw [if_pos q1])
    · refine go_if_ge (off := 7) (tgt := 122) (by decide +kernel) (by decide) (fun z => absurd z q1) (fun _ => ?_)
      refine go_blk rfl [(.iconst 1, 1, 0, 0, 0, .inl 1)] 118 119 _ _ _ (by decide +kernel) ?_
      show Go _ _ _ _ _ _ 119 [(0, vi a0), (1, vl a1), (3, vl a2)] [vi 1] μ _
      refine go_goto (off := 4) (tgt := 123) (by decide +kernel) (by decide) ?_
      refine go_pick [] rfl ?_; exact key _ (by rw [if_neg q1])
  refine ite_el h (fun q13 h => ?_) (fun q13 h => ?_)
  · refine go_tableIn (dflt := 190) (lo := 2) (hi := 15) (offs := #[71, 75, 111, 126, 141, 156, 171, 190, 186, 190, 190, 79, 83, 97]) (len := 71) (off := 126) (tgt := 127) (by decide +kernel) (by rw [q13]; decide) (by rw [q13]; decide) (by rw [q13]; decide) (by decide) ?_
    refine go_blk rfl [(.lload_n 1, 1, 1, 0, 0, .inl 0), (.lload_n 3, 1, 3, 0, 0, .inl 0), (.lcmp, 1, 0, 0, 0, .inl 0)] 127 130 _ _ _ (by decide +kernel) ?_
    show Go _ _ _ _ _ _ 130 [(0, vi a0), (1, vl a1), (3, vl a2)] [vi (lg_cmp a1 a2)] μ _
    have key : ∀ z0 : Int32, z0 = ((if 0 < (lg_cmp a1 a2) then 0 else 1) : Int32) → Go M11_both 2 0 0 0 0 138 [] [vi z0] μ (eqQ (some (vl x)) μ) := by
      intro z0 ez0
      subst ez0
      obtain ⟨r2, hr2, h⟩ := bind_el h
      refine go_callS (idx := 345) (z := 0) (M' := M11_truth) (n := 1) (A := [vi (((if 0 < (lg_cmp a1 a2) then 0 else 1) : Int32))]) (v' := some (vl r2)) (μ' := μ) (d' := 1) (mc' := 0) (ms' := 0) (kc' := 0) (ks' := 0) (by decide +kernel) ml_11_345 rfl ws11_truth rfl (ret11_truth hr2) (by decide) rfl rfl (Nat.le_of_ble_eq_true rfl) rfl (jag rfl rfl) ?_
      show Go _ _ _ _ _ _ 141 [] [vl r2] μ _
      obtain rfl := Option.some.inj h
      exact go_lreturn (by decide +kernel) rfl ⟨rfl, rfl⟩
    clear h
    by_cases q2 : 0 < (lg_cmp a1 a2)
    · refine go_if_gt (off := 7) (tgt := 137) (by decide +kernel) (by decide) (fun _ => ?_) (fun z => absurd q2 z)
      refine go_blk rfl [(.iconst 0, 1, 0, 0, 0, .inl 0)] 137 138 _ _ _ (by decide +kernel) ?_
      show Go _ _ _ _ _ _ 138 [(0, vi a0), (1, vl a1), (3, vl a2)] [vi 0] μ _
      refine go_pick [] rfl ?_; exact key _ (by rw [if_pos q2])
    · refine go_if_gt (off := 7) (tgt := 137) (by decide +kernel) (by decide) (fun z => absurd z q2) (fun _ => ?_)
      refine go_blk rfl [(.iconst 1, 1, 0, 0, 0, .inl 1)] 133 134 _ _ _ (by decide +kernel) ?_
      show Go _ _ _ _ _ _ 134 [(0, vi a0), (1, vl a1), (3, vl a2)] [vi 1] μ _
      refine go_goto (off := 4) (tgt := 138) (by decide +kernel) (by decide) ?_
      refine go_pick [] rfl ?_; exact key _ (by rw [if_neg q2])
  refine ite_el h (fun q14 h => ?_) (fun q14 h => ?_)
  · refine go_tableIn (dflt := 190) (lo := 2) (hi := 15) (offs := #[71, 75, 111, 126, 141, 156, 171, 190, 186, 190, 190, 79, 83, 97]) (len := 71) (off := 141) (tgt := 142) (by decide +kernel) (by rw [q14]; decide) (by rw [q14]; decide) (by rw [q14]; decide) (by decide) ?_
    refine go_blk rfl [(.lload_n 1, 1, 1, 0, 0, .inl 0), (.lload_n 3, 1, 3, 0, 0, .inl 0), (.lcmp, 1, 0, 0, 0, .inl 0)] 142 145 _ _ _ (by decide +kernel) ?_
    show Go _ _ _ _ _ _ 145 [(0, vi a0), (1, vl a1), (3, vl a2)] [vi (lg_cmp a1 a2)] μ _
    have key : ∀ z0 : Int32, z0 = ((if (lg_cmp a1 a2) = 0 then 1 else 0) : Int32) → Go M11_both 2 0 0 0 0 153 [] [vi z0] μ (eqQ (some (vl x)) μ) := by
      intro z0 ez0
      subst ez0
      obtain ⟨r3, hr3, h⟩ := bind_el h
      refine go_callS (idx := 345) (z := 0) (M' := M11_truth) (n := 1) (A := [vi (((if (lg_cmp a1 a2) = 0 then 1 else 0) : Int32))]) (v' := some (vl r3)) (μ' := μ) (d' := 1) (mc' := 0) (ms' := 0) (kc' := 0) (ks' := 0) (by decide +kernel) ml_11_345 rfl ws11_truth rfl (ret11_truth hr3) (by decide) rfl rfl (Nat.le_of_ble_eq_true rfl) rfl (jag rfl rfl) ?_
      show Go _ _ _ _ _ _ 156 [] [vl r3] μ _
      obtain rfl := Option.some.inj h
      exact go_lreturn (by decide +kernel) rfl ⟨rfl, rfl⟩
    clear h
    by_cases q3 : (lg_cmp a1 a2) = 0
    · refine go_if_ne (off := 7) (tgt := 152) (by decide +kernel) (by decide) (fun z => absurd q3 z) (fun _ => ?_)
      refine go_blk rfl [(.iconst 1, 1, 0, 0, 0, .inl 1)] 148 149 _ _ _ (by decide +kernel) ?_
      show Go _ _ _ _ _ _ 149 [(0, vi a0), (1, vl a1), (3, vl a2)] [vi 1] μ _
      refine go_goto (off := 4) (tgt := 153) (by decide +kernel) (by decide) ?_
      refine go_pick [] rfl ?_; exact key _ (by rw [if_pos q3])
    · refine go_if_ne (off := 7) (tgt := 152) (by decide +kernel) (by decide) (fun _ => ?_) (fun z => absurd z q3)
      refine go_blk rfl [(.iconst 0, 1, 0, 0, 0, .inl 0)] 152 153 _ _ _ (by decide +kernel) ?_
      show Go _ _ _ _ _ _ 153 [(0, vi a0), (1, vl a1), (3, vl a2)] [vi 0] μ _
      refine go_pick [] rfl ?_; exact key _ (by rw [if_neg q3])
  refine ite_el h (fun q15 h => ?_) (fun q15 h => ?_)
  · refine go_tableIn (dflt := 190) (lo := 2) (hi := 15) (offs := #[71, 75, 111, 126, 141, 156, 171, 190, 186, 190, 190, 79, 83, 97]) (len := 71) (off := 156) (tgt := 157) (by decide +kernel) (by rw [q15]; decide) (by rw [q15]; decide) (by rw [q15]; decide) (by decide) ?_
    refine go_blk rfl [(.lload_n 1, 1, 1, 0, 0, .inl 0), (.lload_n 3, 1, 3, 0, 0, .inl 0), (.lcmp, 1, 0, 0, 0, .inl 0)] 157 160 _ _ _ (by decide +kernel) ?_
    show Go _ _ _ _ _ _ 160 [(0, vi a0), (1, vl a1), (3, vl a2)] [vi (lg_cmp a1 a2)] μ _
    have key : ∀ z0 : Int32, z0 = ((if (lg_cmp a1 a2) < 0 then 0 else 1) : Int32) → Go M11_both 2 0 0 0 0 168 [] [vi z0] μ (eqQ (some (vl x)) μ) := by
      intro z0 ez0
      subst ez0
      obtain ⟨r4, hr4, h⟩ := bind_el h
      refine go_callS (idx := 345) (z := 0) (M' := M11_truth) (n := 1) (A := [vi (((if (lg_cmp a1 a2) < 0 then 0 else 1) : Int32))]) (v' := some (vl r4)) (μ' := μ) (d' := 1) (mc' := 0) (ms' := 0) (kc' := 0) (ks' := 0) (by decide +kernel) ml_11_345 rfl ws11_truth rfl (ret11_truth hr4) (by decide) rfl rfl (Nat.le_of_ble_eq_true rfl) rfl (jag rfl rfl) ?_
      show Go _ _ _ _ _ _ 171 [] [vl r4] μ _
      obtain rfl := Option.some.inj h
      exact go_lreturn (by decide +kernel) rfl ⟨rfl, rfl⟩
    clear h
    by_cases q4 : (lg_cmp a1 a2) < 0
    · refine go_if_lt (off := 7) (tgt := 167) (by decide +kernel) (by decide) (fun _ => ?_) (fun z => absurd q4 z)
      refine go_blk rfl [(.iconst 0, 1, 0, 0, 0, .inl 0)] 167 168 _ _ _ (by decide +kernel) ?_
      show Go _ _ _ _ _ _ 168 [(0, vi a0), (1, vl a1), (3, vl a2)] [vi 0] μ _
      refine go_pick [] rfl ?_; exact key _ (by rw [if_pos q4])
    · refine go_if_lt (off := 7) (tgt := 167) (by decide +kernel) (by decide) (fun z => absurd z q4) (fun _ => ?_)
      refine go_blk rfl [(.iconst 1, 1, 0, 0, 0, .inl 1)] 163 164 _ _ _ (by decide +kernel) ?_
      show Go _ _ _ _ _ _ 164 [(0, vi a0), (1, vl a1), (3, vl a2)] [vi 1] μ _
      refine go_goto (off := 4) (tgt := 168) (by decide +kernel) (by decide) ?_
      refine go_pick [] rfl ?_; exact key _ (by rw [if_neg q4])
  refine ite_el h (fun q16 h => ?_) (fun q16 h => ?_)
  · refine go_tableIn (dflt := 190) (lo := 2) (hi := 15) (offs := #[71, 75, 111, 126, 141, 156, 171, 190, 186, 190, 190, 79, 83, 97]) (len := 71) (off := 171) (tgt := 172) (by decide +kernel) (by rw [q16]; decide) (by rw [q16]; decide) (by rw [q16]; decide) (by decide) ?_
    refine go_blk rfl [(.lload_n 1, 1, 1, 0, 0, .inl 0), (.lload_n 3, 1, 3, 0, 0, .inl 0), (.lcmp, 1, 0, 0, 0, .inl 0)] 172 175 _ _ _ (by decide +kernel) ?_
    show Go _ _ _ _ _ _ 175 [(0, vi a0), (1, vl a1), (3, vl a2)] [vi (lg_cmp a1 a2)] μ _
    have key : ∀ z0 : Int32, z0 = ((if (lg_cmp a1 a2) ≤ 0 then 0 else 1) : Int32) → Go M11_both 2 0 0 0 0 183 [] [vi z0] μ (eqQ (some (vl x)) μ) := by
      intro z0 ez0
      subst ez0
      obtain ⟨r5, hr5, h⟩ := bind_el h
      refine go_callS (idx := 345) (z := 0) (M' := M11_truth) (n := 1) (A := [vi (((if (lg_cmp a1 a2) ≤ 0 then 0 else 1) : Int32))]) (v' := some (vl r5)) (μ' := μ) (d' := 1) (mc' := 0) (ms' := 0) (kc' := 0) (ks' := 0) (by decide +kernel) ml_11_345 rfl ws11_truth rfl (ret11_truth hr5) (by decide) rfl rfl (Nat.le_of_ble_eq_true rfl) rfl (jag rfl rfl) ?_
      show Go _ _ _ _ _ _ 186 [] [vl r5] μ _
      obtain rfl := Option.some.inj h
      exact go_lreturn (by decide +kernel) rfl ⟨rfl, rfl⟩
    clear h
    by_cases q5 : (lg_cmp a1 a2) ≤ 0
    · refine go_if_le (off := 7) (tgt := 182) (by decide +kernel) (by decide) (fun _ => ?_) (fun z => absurd q5 z)
      refine go_blk rfl [(.iconst 0, 1, 0, 0, 0, .inl 0)] 182 183 _ _ _ (by decide +kernel) ?_
      show Go _ _ _ _ _ _ 183 [(0, vi a0), (1, vl a1), (3, vl a2)] [vi 0] μ _
      refine go_pick [] rfl ?_; exact key _ (by rw [if_pos q5])
    · refine go_if_le (off := 7) (tgt := 182) (by decide +kernel) (by decide) (fun z => absurd z q5) (fun _ => ?_)
      refine go_blk rfl [(.iconst 1, 1, 0, 0, 0, .inl 1)] 178 179 _ _ _ (by decide +kernel) ?_
      show Go _ _ _ _ _ _ 179 [(0, vi a0), (1, vl a1), (3, vl a2)] [vi 1] μ _
      refine go_goto (off := 4) (tgt := 183) (by decide +kernel) (by decide) ?_
      refine go_pick [] rfl ?_; exact key _ (by rw [if_neg q5])
  refine ite_el h (fun q17 h => ?_) (fun q17 h => ?_)
  · refine go_tableIn (dflt := 190) (lo := 2) (hi := 15) (offs := #[71, 75, 111, 126, 141, 156, 171, 190, 186, 190, 190, 79, 83, 97]) (len := 71) (off := 190) (tgt := 191) (by decide +kernel) (by rw [q17]; decide) (by rw [q17]; decide) (by rw [q17]; decide) (by decide) ?_
    refine go_blk rfl [(.lload_n 1, 1, 1, 0, 0, .inl 0), (.lload_n 3, 1, 3, 0, 0, .inl 0), (.lor, 1, 0, 0, 0, .inl 0)] 191 194 _ _ _ (by decide +kernel) ?_
    show Go _ _ _ _ _ _ 194 [(0, vi a0), (1, vl a1), (3, vl a2)] [vl (a1 ||| a2)] μ _
    obtain rfl := Option.some.inj h
    exact go_lreturn (by decide +kernel) rfl ⟨rfl, rfl⟩
  refine ite_el h (fun q18 h => ?_) (fun q18 h => ?_)
  · refine go_tableIn (dflt := 190) (lo := 2) (hi := 15) (offs := #[71, 75, 111, 126, 141, 156, 171, 190, 186, 190, 190, 79, 83, 97]) (len := 71) (off := 186) (tgt := 187) (by decide +kernel) (by rw [q18]; decide) (by rw [q18]; decide) (by rw [q18]; decide) (by decide) ?_
    refine go_blk rfl [(.lload_n 1, 1, 1, 0, 0, .inl 0), (.lload_n 3, 1, 3, 0, 0, .inl 0), (.land, 1, 0, 0, 0, .inl 0)] 187 190 _ _ _ (by decide +kernel) ?_
    show Go _ _ _ _ _ _ 190 [(0, vi a0), (1, vl a1), (3, vl a2)] [vl (a1 &&& a2)] μ _
    obtain rfl := Option.some.inj h
    exact go_lreturn (by decide +kernel) rfl ⟨rfl, rfl⟩
  refine ite_el h (fun q19 h => ?_) (fun q19 h => ?_)
  · refine go_tableIn (dflt := 190) (lo := 2) (hi := 15) (offs := #[71, 75, 111, 126, 141, 156, 171, 190, 186, 190, 190, 79, 83, 97]) (len := 71) (off := 190) (tgt := 191) (by decide +kernel) (by rw [q19]; decide) (by rw [q19]; decide) (by rw [q19]; decide) (by decide) ?_
    refine go_blk rfl [(.lload_n 1, 1, 1, 0, 0, .inl 0), (.lload_n 3, 1, 3, 0, 0, .inl 0), (.lor, 1, 0, 0, 0, .inl 0)] 191 194 _ _ _ (by decide +kernel) ?_
    show Go _ _ _ _ _ _ 194 [(0, vi a0), (1, vl a1), (3, vl a2)] [vl (a1 ||| a2)] μ _
    obtain rfl := Option.some.inj h
    exact go_lreturn (by decide +kernel) rfl ⟨rfl, rfl⟩
  refine ite_el h (fun q20 h => ?_) (fun q20 h => ?_)
  · refine go_tableIn (dflt := 190) (lo := 2) (hi := 15) (offs := #[71, 75, 111, 126, 141, 156, 171, 190, 186, 190, 190, 79, 83, 97]) (len := 71) (off := 190) (tgt := 191) (by decide +kernel) (by rw [q20]; decide) (by rw [q20]; decide) (by rw [q20]; decide) (by decide) ?_
    refine go_blk rfl [(.lload_n 1, 1, 1, 0, 0, .inl 0), (.lload_n 3, 1, 3, 0, 0, .inl 0), (.lor, 1, 0, 0, 0, .inl 0)] 191 194 _ _ _ (by decide +kernel) ?_
    show Go _ _ _ _ _ _ 194 [(0, vi a0), (1, vl a1), (3, vl a2)] [vl (a1 ||| a2)] μ _
    obtain rfl := Option.some.inj h
    exact go_lreturn (by decide +kernel) rfl ⟨rfl, rfl⟩
  refine ite_el h (fun q21 h => ?_) (fun q21 h => ?_)
  · refine go_tableIn (dflt := 190) (lo := 2) (hi := 15) (offs := #[71, 75, 111, 126, 141, 156, 171, 190, 186, 190, 190, 79, 83, 97]) (len := 71) (off := 79) (tgt := 80) (by decide +kernel) (by rw [q21]; decide) (by rw [q21]; decide) (by rw [q21]; decide) (by decide) ?_
    refine go_blk rfl [(.lload_n 1, 1, 1, 0, 0, .inl 0), (.lload_n 3, 1, 3, 0, 0, .inl 0), (.lmul, 1, 0, 0, 0, .inl 0)] 80 83 _ _ _ (by decide +kernel) ?_
    show Go _ _ _ _ _ _ 83 [(0, vi a0), (1, vl a1), (3, vl a2)] [vl (a1 * a2)] μ _
    obtain rfl := Option.some.inj h
    exact go_lreturn (by decide +kernel) rfl ⟨rfl, rfl⟩
  refine ite_el h (fun q22 h => ?_) (fun q22 h => ?_)
  · refine go_tableIn (dflt := 190) (lo := 2) (hi := 15) (offs := #[71, 75, 111, 126, 141, 156, 171, 190, 186, 190, 190, 79, 83, 97]) (len := 71) (off := 83) (tgt := 84) (by decide +kernel) (by rw [q22]; decide) (by rw [q22]; decide) (by rw [q22]; decide) (by decide) ?_
    refine go_blk rfl [(.lload_n 3, 1, 3, 0, 0, .inl 0), (.lconst 0, 1, 0, 0, 0, .inr (.inl 0)), (.lcmp, 1, 0, 0, 0, .inl 0)] 84 87 _ _ _ (by decide +kernel) ?_
    show Go _ _ _ _ _ _ 87 [(0, vi a0), (1, vl a1), (3, vl a2)] [vi (lg_cmp a2 0)] μ _
    refine ite_el h (fun q6 h => ?_) (fun q6 h => ?_)
    · refine go_if_ne (off := 7) (tgt := 94) (by decide +kernel) (by decide) (fun z => absurd q6 z) (fun _ => ?_)
      refine go_blk rfl [(.lconst 0, 1, 0, 0, 0, .inr (.inl 0))] 90 91 _ _ _ (by decide +kernel) ?_
      show Go _ _ _ _ _ _ 91 [(0, vi a0), (1, vl a1), (3, vl a2)] [vl 0] μ _
      refine go_goto (off := 6) (tgt := 97) (by decide +kernel) (by decide) ?_
      obtain rfl := Option.some.inj h
      exact go_lreturn (by decide +kernel) rfl ⟨rfl, rfl⟩
    · refine go_if_ne (off := 7) (tgt := 94) (by decide +kernel) (by decide) (fun _ => ?_) (fun z => absurd z q6)
      refine gd_el h (fun q7 h => ?_)
      refine go_blk rfl [(.lload_n 1, 1, 1, 0, 0, .inl 0), (.lload_n 3, 1, 3, 0, 0, .inl 0), (.ldiv, 1, 0, 0, 0, .inl 0)] 94 97 _ _ _ (by decide +kernel) ?_
      refine And.intro q7 ?_
      show Go _ _ _ _ _ _ 97 [(0, vi a0), (1, vl a1), (3, vl a2)] [vl (a1 / a2)] μ _
      obtain rfl := Option.some.inj h
      exact go_lreturn (by decide +kernel) rfl ⟨rfl, rfl⟩
  refine ite_el h (fun q23 h => ?_) (fun q23 h => ?_)
  · refine go_tableIn (dflt := 190) (lo := 2) (hi := 15) (offs := #[71, 75, 111, 126, 141, 156, 171, 190, 186, 190, 190, 79, 83, 97]) (len := 71) (off := 97) (tgt := 98) (by decide +kernel) (by rw [q23]; decide) (by rw [q23]; decide) (by rw [q23]; decide) (by decide) ?_
    refine go_blk rfl [(.lload_n 3, 1, 3, 0, 0, .inl 0), (.lconst 0, 1, 0, 0, 0, .inr (.inl 0)), (.lcmp, 1, 0, 0, 0, .inl 0)] 98 101 _ _ _ (by decide +kernel) ?_
    show Go _ _ _ _ _ _ 101 [(0, vi a0), (1, vl a1), (3, vl a2)] [vi (lg_cmp a2 0)] μ _
    refine ite_el h (fun q8 h => ?_) (fun q8 h => ?_)
    · refine go_if_ne (off := 7) (tgt := 108) (by decide +kernel) (by decide) (fun z => absurd q8 z) (fun _ => ?_)
      refine go_blk rfl [(.lconst 0, 1, 0, 0, 0, .inr (.inl 0))] 104 105 _ _ _ (by decide +kernel) ?_
      show Go _ _ _ _ _ _ 105 [(0, vi a0), (1, vl a1), (3, vl a2)] [vl 0] μ _
      refine go_goto (off := 6) (tgt := 111) (by decide +kernel) (by decide) ?_
      obtain rfl := Option.some.inj h
      exact go_lreturn (by decide +kernel) rfl ⟨rfl, rfl⟩
    · refine go_if_ne (off := 7) (tgt := 108) (by decide +kernel) (by decide) (fun _ => ?_) (fun z => absurd z q8)
      refine gd_el h (fun q9 h => ?_)
      refine go_blk rfl [(.lload_n 1, 1, 1, 0, 0, .inl 0), (.lload_n 3, 1, 3, 0, 0, .inl 0), (.lrem, 1, 0, 0, 0, .inl 0)] 108 111 _ _ _ (by decide +kernel) ?_
      refine And.intro q9 ?_
      show Go _ _ _ _ _ _ 111 [(0, vi a0), (1, vl a1), (3, vl a2)] [vl (lrm a1 a2)] μ _
      obtain rfl := Option.some.inj h
      exact go_lreturn (by decide +kernel) rfl ⟨rfl, rfl⟩
  refine go_tableOut (dflt := 190) (lo := 2) (hi := 15) (offs := #[71, 75, 111, 126, 141, 156, 171, 190, 186, 190, 190, 79, 83, 97]) (len := 71) (tgt := 191) (by decide +kernel) (by have z0 : a0.toInt ≠ 2 := tb_ne q10 (by decide); have z1 : a0.toInt ≠ 3 := tb_ne q11 (by decide); have z2 : a0.toInt ≠ 4 := tb_ne q12 (by decide); have z3 : a0.toInt ≠ 5 := tb_ne q13 (by decide); have z4 : a0.toInt ≠ 6 := tb_ne q14 (by decide); have z5 : a0.toInt ≠ 7 := tb_ne q15 (by decide); have z6 : a0.toInt ≠ 8 := tb_ne q16 (by decide); have z7 : a0.toInt ≠ 9 := tb_ne q17 (by decide); have z8 : a0.toInt ≠ 10 := tb_ne q18 (by decide); have z9 : a0.toInt ≠ 11 := tb_ne q19 (by decide); have z10 : a0.toInt ≠ 12 := tb_ne q20 (by decide); have z11 : a0.toInt ≠ 13 := tb_ne q21 (by decide); have z12 : a0.toInt ≠ 14 := tb_ne q22 (by decide); have z13 : a0.toInt ≠ 15 := tb_ne q23 (by decide); omega) (by decide) ?_
  refine go_blk rfl [(.lload_n 1, 1, 1, 0, 0, .inl 0), (.lload_n 3, 1, 3, 0, 0, .inl 0), (.lor, 1, 0, 0, 0, .inl 0)] 191 194 _ _ _ (by decide +kernel) ?_
  show Go _ _ _ _ _ _ 194 [(0, vi a0), (1, vl a1), (3, vl a2)] [vl (a1 ||| a2)] μ _
  obtain rfl := Option.some.inj h
  exact go_lreturn (by decide +kernel) rfl ⟨rfl, rfl⟩
def f11_answer_L1 (l1 : Int32) (l3 : Int32) : Nat → jS → Int32 → Int32 → Option jS
  | 0, _, _, _ => none
  | n + 1, S, l4, l5 => (if l3 ≤ l5 then some S else (if inb ((300 * l1) + l5) 1800 then Option.bind (if (S.1 30 ((300 * l1) + l5).toNatClampNeg) = 0 then Option.bind (if (S.1 30 ((300 * l1) + l5).toNatClampNeg) = 0 then some ((S.1 31 ((300 * l1) + l5).toNatClampNeg).toInt64) else (if inb (S.1 31 ((300 * l1) + l5).toNatClampNeg) 10 then some (S.2 37 (S.1 31 ((300 * l1) + l5).toNatClampNeg).toNatClampNeg) else none)) (fun (y1 : Int64) => (if inb l4 300 then some (l4 + 1, wL S 38 l4.toNatClampNeg y1) else none)) else (if (S.1 30 ((300 * l1) + l5).toNatClampNeg) = 1 then Option.bind (if (S.1 30 ((300 * l1) + l5).toNatClampNeg) = 0 then some ((S.1 31 ((300 * l1) + l5).toNatClampNeg).toInt64) else (if inb (S.1 31 ((300 * l1) + l5).toNatClampNeg) 10 then some (S.2 37 (S.1 31 ((300 * l1) + l5).toNatClampNeg).toNatClampNeg) else none)) (fun (y2 : Int64) => (if inb l4 300 then some (l4 + 1, wL S 38 l4.toNatClampNeg y2) else none)) else (if (S.1 30 ((300 * l1) + l5).toNatClampNeg) = 9 then (if inb (l4 - 1) 300 then some (l4, wL S 38 (l4 - 1).toNatClampNeg (1 - (S.2 38 (l4 - 1).toNatClampNeg))) else none) else (if inb ((l4 + (-1)) - 1) 300 then (if inb (l4 + (-1)) 300 then Option.bind (f11_both (S.1 30 ((300 * l1) + l5).toNatClampNeg) (S.2 38 ((l4 + (-1)) - 1).toNatClampNeg) (S.2 38 (l4 + (-1)).toNatClampNeg)) (fun r3 => some (l4 + (-1), wL S 38 ((l4 + (-1)) - 1).toNatClampNeg r3)) else none) else none)))) (fun (y4 : Int32 × jS) => f11_answer_L1 l1 l3 n y4.2 y4.1 (l5 + 1)) else none))
def f11_answer (S : jS) (a0 : Int32) (a1 : Int32) (a2 : Int32) : Option (jS × Int64) := Option.bind (f11_answer_L1 a0 a2 jF S 0 a1) (fun y5 => some (y5, y5.2 38 0))
theorem f11_answer_L1_ok {T : jT} {Y : jS × jT} {l1 : Int32} {l3 : Int32} {Q : Option jV → jMem → Prop} (hT : LayM T) : ∀ (n : Nat) (S : jS) (l4 : Int32) (l5 : Int32) (r : jS), f11_answer_L1 l1 l3 n S l4 l5 = some r → Go M11_answer 3 0 0 0 0 153 [(0, rm 0)] [] (Y, (r, T)) Q → Go M11_answer 3 0 0 0 0 6 [(0, rm 0), (1, vi l1), (3, vi l3), (4, vi l4), (5, vi l5)] [] (Y, (S, T)) Q := by
  intro n
  induction n with
  | zero => intro S l4 l5 r h k; exact absurd h (by intro z; cases z)
  | succ n ih =>
    intro S l4 l5 r h k
    rw [f11_answer_L1] at h
    refine go_blk rfl [(.iload 5, 2, 5, 0, 0, .inl 0), (.iload_n 3, 1, 3, 0, 0, .inl 0)] 6 9 _ _ _ (by decide +kernel) ?_
    show Go _ _ _ _ _ _ 9 [(0, rm 0), (1, vi l1), (3, vi l3), (4, vi l4), (5, vi l5)] [vi l3, vi l5] (Y, (S, T)) _
    refine ite_el h (fun q1 h => ?_) (fun q1 h => ?_)
    · refine go_icmp_ge (off := 144) (tgt := 153) (by decide +kernel) (by decide) (fun _ => ?_) (fun z => absurd q1 z)
      obtain rfl := Option.some.inj h
      refine go_pick [0] rfl ?_
      exact k
    · refine go_icmp_ge (off := 144) (tgt := 153) (by decide +kernel) (by decide) (fun z => absurd z q1) (fun _ => ?_)
      refine gd_el h (fun q2 h => ?_)
      refine go_blk rfl [(.aload_n 0, 1, 0, 0, 0, .inl 0), (.getfield 72, 3, 11, 30, 1, .inl 0), (.sipush 300, 3, 0, 0, 0, .inl 300), (.iload_n 1, 1, 1, 0, 0, .inl 0), (.imul, 1, 0, 0, 0, .inl 0), (.iload 5, 2, 5, 0, 0, .inl 0), (.iadd, 1, 0, 0, 0, .inl 0), (.iaload, 1, 20, 0, 0, .inl 0), (.istore 6, 2, 6, 0, 0, .inl 0), (.aload_n 0, 1, 0, 0, 0, .inl 0), (.getfield 75, 3, 11, 31, 1, .inl 0), (.sipush 300, 3, 0, 0, 0, .inl 300), (.iload_n 1, 1, 1, 0, 0, .inl 0), (.imul, 1, 0, 0, 0, .inl 0), (.iload 5, 2, 5, 0, 0, .inl 0), (.iadd, 1, 0, 0, 0, .inl 0), (.iaload, 1, 20, 0, 0, .inl 0), (.istore 7, 2, 7, 0, 0, .inl 0), (.iload 6, 2, 6, 0, 0, .inl 0)] 12 44 _ _ _ (by decide +kernel) ?_
      refine And.intro (lm_t0 hT) (Exists.intro _ (And.intro (gRm (lm_r30 hT)) ?_))
      refine And.intro (lm_t30 hT) (Exists.intro _ (And.intro (lm_n30 hT) (And.intro (inb_in q2) ?_)))
      refine And.intro (lm_t0 hT) (Exists.intro _ (And.intro (gRm (lm_r31 hT)) ?_))
      refine And.intro (lm_t31 hT) (Exists.intro _ (And.intro (lm_n31 hT) (And.intro (inb_in q2) ?_)))
      show Go _ _ _ _ _ _ 44 [(7, vi (S.1 31 ((300 * l1) + l5).toNatClampNeg)), (6, vi (S.1 30 ((300 * l1) + l5).toNatClampNeg)), (0, rm 0), (1, vi l1), (3, vi l3), (4, vi l4), (5, vi l5)] [vi (S.1 30 ((300 * l1) + l5).toNatClampNeg)] (Y, (S, T)) _
      obtain ⟨y4, hy4, h⟩ := bind_el h
      have key : Go M11_answer 3 0 0 0 0 147 [(0, rm 0), (1, vi l1), (3, vi l3), (4, vi y4.1), (5, vi l5)] [] (Y, (y4.2, T)) Q := by
        refine go_blk rfl [(.iinc 5 1, 3, 5, 0, 0, .inl 1)] 147 150 _ _ _ (by decide +kernel) ?_
        show Go _ _ _ _ _ _ 150 [(5, vi (l5 + 1)), (0, rm 0), (1, vi l1), (3, vi l3), (4, vi y4.1)] [] (Y, (y4.2, T)) _
        refine go_goto (off := (-144)) (tgt := 6) (by decide +kernel) (by decide) ?_
        refine go_pick [1, 2, 3, 4, 0] rfl ?_
        exact ih _ _ _ _ h k
      replace h := hy4
      refine ite_el h (fun q3 h => ?_) (fun q3 h => ?_)
      · refine go_if_eq (off := 9) (tgt := 53) (by decide +kernel) (by decide) (fun _ => ?_) (fun z => absurd q3 z)
        refine go_blk rfl [(.aload_n 0, 1, 0, 0, 0, .inl 0), (.getfield 97, 3, 11, 38, 1, .inl 0), (.iload 4, 2, 4, 0, 0, .inl 0), (.iload 6, 2, 6, 0, 0, .inl 0)] 53 61 _ _ _ (by decide +kernel) ?_
        refine And.intro (lm_t0 hT) (Exists.intro _ (And.intro (gRm (lm_r38 hT)) ?_))
        show Go _ _ _ _ _ _ 61 [(7, vi (S.1 31 ((300 * l1) + l5).toNatClampNeg)), (6, vi (S.1 30 ((300 * l1) + l5).toNatClampNeg)), (0, rm 0), (1, vi l1), (3, vi l3), (4, vi l4), (5, vi l5)] [vi (S.1 30 ((300 * l1) + l5).toNatClampNeg), vi l4, rm 38] (Y, (S, T)) _
        obtain ⟨y1, hy1, h⟩ := bind_el h
        have key : Go M11_answer 3 0 0 0 0 77 [(0, rm 0), (1, vi l1), (3, vi l3), (4, vi l4), (5, vi l5)] [vl y1, vi l4, rm 38] (Y, (S, T)) Q := by
          refine gd_el h (fun q6 h => ?_)
          refine go_blk rfl [(.lastore, 1, 23, 0, 0, .inl 0)] 77 78 _ _ _ (by decide +kernel) ?_
          refine And.intro (lm_t38 hT) (Exists.intro _ (And.intro (lm_n38 hT) (And.intro (inb_in q6) ?_)))
          show Go _ _ _ _ _ _ 78 [(0, rm 0), (1, vi l1), (3, vi l3), (4, vi l4), (5, vi l5)] [] (Y, (wL S 38 l4.toNatClampNeg y1, T)) _
          refine go_blk rfl [(.iinc 4 1, 3, 4, 0, 0, .inl 1)] 78 81 _ _ _ (by decide +kernel) ?_
          show Go _ _ _ _ _ _ 81 [(4, vi (l4 + 1)), (0, rm 0), (1, vi l1), (3, vi l3), (5, vi l5)] [] (Y, (wL S 38 l4.toNatClampNeg y1, T)) _
          refine go_goto (off := 66) (tgt := 147) (by decide +kernel) (by decide) ?_
          obtain rfl := Option.some.inj h
          refine go_pick [1, 2, 3, 0, 4] rfl ?_
          exact key
        replace h := hy1
        refine ite_el h (fun q4 h => ?_) (fun q4 h => ?_)
        · refine go_if_ne (off := 9) (tgt := 70) (by decide +kernel) (by decide) (fun z => absurd q4 z) (fun _ => ?_)
          refine go_blk rfl [(.iload 7, 2, 7, 0, 0, .inl 0), (.i2l, 1, 0, 0, 0, .inl 0)] 64 67 _ _ _ (by decide +kernel) ?_
          show Go _ _ _ _ _ _ 67 [(7, vi (S.1 31 ((300 * l1) + l5).toNatClampNeg)), (6, vi (S.1 30 ((300 * l1) + l5).toNatClampNeg)), (0, rm 0), (1, vi l1), (3, vi l3), (4, vi l4), (5, vi l5)] [vl ((S.1 31 ((300 * l1) + l5).toNatClampNeg).toInt64), vi l4, rm 38] (Y, (S, T)) _
          refine go_goto (off := 10) (tgt := 77) (by decide +kernel) (by decide) ?_
          obtain rfl := Option.some.inj h
          refine go_pick [2, 3, 4, 5, 6] rfl ?_
          exact key
        · refine go_if_ne (off := 9) (tgt := 70) (by decide +kernel) (by decide) (fun _ => ?_) (fun z => absurd z q4)
          refine gd_el h (fun q5 h => ?_)
          refine go_blk rfl [(.aload_n 0, 1, 0, 0, 0, .inl 0), (.getfield 93, 3, 11, 37, 1, .inl 0), (.iload 7, 2, 7, 0, 0, .inl 0), (.laload, 1, 23, 0, 0, .inl 0)] 70 77 _ _ _ (by decide +kernel) ?_
          refine And.intro (lm_t0 hT) (Exists.intro _ (And.intro (gRm (lm_r37 hT)) ?_))
          refine And.intro (lm_t37 hT) (Exists.intro _ (And.intro (lm_n37 hT) (And.intro (inb_in q5) ?_)))
          show Go _ _ _ _ _ _ 77 [(7, vi (S.1 31 ((300 * l1) + l5).toNatClampNeg)), (6, vi (S.1 30 ((300 * l1) + l5).toNatClampNeg)), (0, rm 0), (1, vi l1), (3, vi l3), (4, vi l4), (5, vi l5)] [vl (S.2 37 (S.1 31 ((300 * l1) + l5).toNatClampNeg).toNatClampNeg), vi l4, rm 38] (Y, (S, T)) _
          obtain rfl := Option.some.inj h
          refine go_pick [2, 3, 4, 5, 6] rfl ?_
          exact key
      · refine go_if_eq (off := 9) (tgt := 53) (by decide +kernel) (by decide) (fun z => absurd z q3) (fun _ => ?_)
        refine go_blk rfl [(.iload 6, 2, 6, 0, 0, .inl 0), (.iconst 1, 1, 0, 0, 0, .inl 1)] 47 50 _ _ _ (by decide +kernel) ?_
        show Go _ _ _ _ _ _ 50 [(7, vi (S.1 31 ((300 * l1) + l5).toNatClampNeg)), (6, vi (S.1 30 ((300 * l1) + l5).toNatClampNeg)), (0, rm 0), (1, vi l1), (3, vi l3), (4, vi l4), (5, vi l5)] [vi 1, vi (S.1 30 ((300 * l1) + l5).toNatClampNeg)] (Y, (S, T)) _
        refine ite_el h (fun q7 h => ?_) (fun q7 h => ?_)
        · refine go_icmp_ne (off := 34) (tgt := 84) (by decide +kernel) (by decide) (fun z => absurd q7 z) (fun _ => ?_)
          refine go_blk rfl [(.aload_n 0, 1, 0, 0, 0, .inl 0), (.getfield 97, 3, 11, 38, 1, .inl 0), (.iload 4, 2, 4, 0, 0, .inl 0), (.iload 6, 2, 6, 0, 0, .inl 0)] 53 61 _ _ _ (by decide +kernel) ?_
          refine And.intro (lm_t0 hT) (Exists.intro _ (And.intro (gRm (lm_r38 hT)) ?_))
          show Go _ _ _ _ _ _ 61 [(7, vi (S.1 31 ((300 * l1) + l5).toNatClampNeg)), (6, vi (S.1 30 ((300 * l1) + l5).toNatClampNeg)), (0, rm 0), (1, vi l1), (3, vi l3), (4, vi l4), (5, vi l5)] [vi (S.1 30 ((300 * l1) + l5).toNatClampNeg), vi l4, rm 38] (Y, (S, T)) _
          obtain ⟨y2, hy2, h⟩ := bind_el h
          have key : Go M11_answer 3 0 0 0 0 77 [(0, rm 0), (1, vi l1), (3, vi l3), (4, vi l4), (5, vi l5)] [vl y2, vi l4, rm 38] (Y, (S, T)) Q := by
            refine gd_el h (fun q10 h => ?_)
            refine go_blk rfl [(.lastore, 1, 23, 0, 0, .inl 0)] 77 78 _ _ _ (by decide +kernel) ?_
            refine And.intro (lm_t38 hT) (Exists.intro _ (And.intro (lm_n38 hT) (And.intro (inb_in q10) ?_)))
            show Go _ _ _ _ _ _ 78 [(0, rm 0), (1, vi l1), (3, vi l3), (4, vi l4), (5, vi l5)] [] (Y, (wL S 38 l4.toNatClampNeg y2, T)) _
            refine go_blk rfl [(.iinc 4 1, 3, 4, 0, 0, .inl 1)] 78 81 _ _ _ (by decide +kernel) ?_
            show Go _ _ _ _ _ _ 81 [(4, vi (l4 + 1)), (0, rm 0), (1, vi l1), (3, vi l3), (5, vi l5)] [] (Y, (wL S 38 l4.toNatClampNeg y2, T)) _
            refine go_goto (off := 66) (tgt := 147) (by decide +kernel) (by decide) ?_
            obtain rfl := Option.some.inj h
            refine go_pick [1, 2, 3, 0, 4] rfl ?_
            exact key
          replace h := hy2
          refine ite_el h (fun q8 h => ?_) (fun q8 h => ?_)
          · refine go_if_ne (off := 9) (tgt := 70) (by decide +kernel) (by decide) (fun z => absurd q8 z) (fun _ => ?_)
            refine go_blk rfl [(.iload 7, 2, 7, 0, 0, .inl 0), (.i2l, 1, 0, 0, 0, .inl 0)] 64 67 _ _ _ (by decide +kernel) ?_
            show Go _ _ _ _ _ _ 67 [(7, vi (S.1 31 ((300 * l1) + l5).toNatClampNeg)), (6, vi (S.1 30 ((300 * l1) + l5).toNatClampNeg)), (0, rm 0), (1, vi l1), (3, vi l3), (4, vi l4), (5, vi l5)] [vl ((S.1 31 ((300 * l1) + l5).toNatClampNeg).toInt64), vi l4, rm 38] (Y, (S, T)) _
            refine go_goto (off := 10) (tgt := 77) (by decide +kernel) (by decide) ?_
            obtain rfl := Option.some.inj h
            refine go_pick [2, 3, 4, 5, 6] rfl ?_
            exact key
          · refine go_if_ne (off := 9) (tgt := 70) (by decide +kernel) (by decide) (fun _ => ?_) (fun z => absurd z q8)
            refine gd_el h (fun q9 h => ?_)
            refine go_blk rfl [(.aload_n 0, 1, 0, 0, 0, .inl 0), (.getfield 93, 3, 11, 37, 1, .inl 0), (.iload 7, 2, 7, 0, 0, .inl 0), (.laload, 1, 23, 0, 0, .inl 0)] 70 77 _ _ _ (by decide +kernel) ?_
            refine And.intro (lm_t0 hT) (Exists.intro _ (And.intro (gRm (lm_r37 hT)) ?_))
            refine And.intro (lm_t37 hT) (Exists.intro _ (And.intro (lm_n37 hT) (And.intro (inb_in q9) ?_)))
            show Go _ _ _ _ _ _ 77 [(7, vi (S.1 31 ((300 * l1) + l5).toNatClampNeg)), (6, vi (S.1 30 ((300 * l1) + l5).toNatClampNeg)), (0, rm 0), (1, vi l1), (3, vi l3), (4, vi l4), (5, vi l5)] [vl (S.2 37 (S.1 31 ((300 * l1) + l5).toNatClampNeg).toNatClampNeg), vi l4, rm 38] (Y, (S, T)) _
            obtain rfl := Option.some.inj h
            refine go_pick [2, 3, 4, 5, 6] rfl ?_
            exact key
        · refine go_icmp_ne (off := 34) (tgt := 84) (by decide +kernel) (by decide) (fun _ => ?_) (fun z => absurd z q7)
          refine go_blk rfl [(.iload 6, 2, 6, 0, 0, .inl 0), (.bipush 9, 2, 0, 0, 0, .inl 9)] 84 88 _ _ _ (by decide +kernel) ?_
          show Go _ _ _ _ _ _ 88 [(7, vi (S.1 31 ((300 * l1) + l5).toNatClampNeg)), (6, vi (S.1 30 ((300 * l1) + l5).toNatClampNeg)), (0, rm 0), (1, vi l1), (3, vi l3), (4, vi l4), (5, vi l5)] [vi 9, vi (S.1 30 ((300 * l1) + l5).toNatClampNeg)] (Y, (S, T)) _
          refine ite_el h (fun q11 h => ?_) (fun q11 h => ?_)
          · refine go_icmp_ne (off := 26) (tgt := 114) (by decide +kernel) (by decide) (fun z => absurd q11 z) (fun _ => ?_)
            refine gd_el h (fun q12 h => ?_)
            refine go_blk rfl [(.aload_n 0, 1, 0, 0, 0, .inl 0), (.getfield 97, 3, 11, 38, 1, .inl 0), (.iload 4, 2, 4, 0, 0, .inl 0), (.iconst 1, 1, 0, 0, 0, .inl 1), (.isub, 1, 0, 0, 0, .inl 0), (.lconst 1, 1, 0, 0, 0, .inr (.inl 1)), (.aload_n 0, 1, 0, 0, 0, .inl 0), (.getfield 97, 3, 11, 38, 1, .inl 0), (.iload 4, 2, 4, 0, 0, .inl 0), (.iconst 1, 1, 0, 0, 0, .inl 1), (.isub, 1, 0, 0, 0, .inl 0), (.laload, 1, 23, 0, 0, .inl 0), (.lsub, 1, 0, 0, 0, .inl 0), (.lastore, 1, 23, 0, 0, .inl 0)] 91 111 _ _ _ (by decide +kernel) ?_
            refine And.intro (lm_t0 hT) (Exists.intro _ (And.intro (gRm (lm_r38 hT)) ?_))
            refine And.intro (lm_t0 hT) (Exists.intro _ (And.intro (gRm (lm_r38 hT)) ?_))
            refine And.intro (lm_t38 hT) (Exists.intro _ (And.intro (lm_n38 hT) (And.intro (inb_in q12) ?_)))
            refine And.intro (lm_t38 hT) (Exists.intro _ (And.intro (lm_n38 hT) (And.intro (inb_in q12) ?_)))
            show Go _ _ _ _ _ _ 111 [(7, vi (S.1 31 ((300 * l1) + l5).toNatClampNeg)), (6, vi (S.1 30 ((300 * l1) + l5).toNatClampNeg)), (0, rm 0), (1, vi l1), (3, vi l3), (4, vi l4), (5, vi l5)] [] (Y, (wL S 38 (l4 - 1).toNatClampNeg (1 - (S.2 38 (l4 - 1).toNatClampNeg)), T)) _
            refine go_goto (off := 36) (tgt := 147) (by decide +kernel) (by decide) ?_
            obtain rfl := Option.some.inj h
            refine go_pick [2, 3, 4, 5, 6] rfl ?_
            exact key
          · refine go_icmp_ne (off := 26) (tgt := 114) (by decide +kernel) (by decide) (fun _ => ?_) (fun z => absurd z q11)
            refine gd_el h (fun q13 h => ?_)
            refine gd_el h (fun q14 h => ?_)
            refine go_blk rfl [(.iinc 4 (-1), 3, 4, 0, 0, .inl (-1)), (.aload_n 0, 1, 0, 0, 0, .inl 0), (.getfield 97, 3, 11, 38, 1, .inl 0), (.iload 4, 2, 4, 0, 0, .inl 0), (.iconst 1, 1, 0, 0, 0, .inl 1), (.isub, 1, 0, 0, 0, .inl 0), (.iload 6, 2, 6, 0, 0, .inl 0), (.aload_n 0, 1, 0, 0, 0, .inl 0), (.getfield 97, 3, 11, 38, 1, .inl 0), (.iload 4, 2, 4, 0, 0, .inl 0), (.iconst 1, 1, 0, 0, 0, .inl 1), (.isub, 1, 0, 0, 0, .inl 0), (.laload, 1, 23, 0, 0, .inl 0), (.aload_n 0, 1, 0, 0, 0, .inl 0), (.getfield 97, 3, 11, 38, 1, .inl 0), (.iload 4, 2, 4, 0, 0, .inl 0), (.laload, 1, 23, 0, 0, .inl 0)] 114 143 _ _ _ (by decide +kernel) ?_
            refine And.intro (lm_t0 hT) (Exists.intro _ (And.intro (gRm (lm_r38 hT)) ?_))
            refine And.intro (lm_t0 hT) (Exists.intro _ (And.intro (gRm (lm_r38 hT)) ?_))
            refine And.intro (lm_t38 hT) (Exists.intro _ (And.intro (lm_n38 hT) (And.intro (inb_in q13) ?_)))
            refine And.intro (lm_t0 hT) (Exists.intro _ (And.intro (gRm (lm_r38 hT)) ?_))
            refine And.intro (lm_t38 hT) (Exists.intro _ (And.intro (lm_n38 hT) (And.intro (inb_in q14) ?_)))
            show Go _ _ _ _ _ _ 143 [(4, vi (l4 + (-1))), (7, vi (S.1 31 ((300 * l1) + l5).toNatClampNeg)), (6, vi (S.1 30 ((300 * l1) + l5).toNatClampNeg)), (0, rm 0), (1, vi l1), (3, vi l3), (5, vi l5)] [vl (S.2 38 (l4 + (-1)).toNatClampNeg), vl (S.2 38 ((l4 + (-1)) - 1).toNatClampNeg), vi (S.1 30 ((300 * l1) + l5).toNatClampNeg), vi ((l4 + (-1)) - 1), rm 38] (Y, (S, T)) _
            obtain ⟨r3, hr3, h⟩ := bind_el h
            refine go_callS (idx := 349) (z := 0) (M' := M11_both) (n := 3) (A := [vi (S.1 30 ((300 * l1) + l5).toNatClampNeg), vl (S.2 38 ((l4 + (-1)) - 1).toNatClampNeg), vl (S.2 38 (l4 + (-1)).toNatClampNeg)]) (v' := some (vl r3)) (μ' := (Y, (S, T))) (d' := 2) (mc' := 0) (ms' := 0) (kc' := 0) (ks' := 0) (by decide +kernel) ml_11_349 rfl ws11_both rfl (ret11_both hr3) (by decide) rfl rfl (Nat.le_of_ble_eq_true rfl) rfl (jag rfl rfl) ?_
            show Go _ _ _ _ _ _ 146 [(4, vi (l4 + (-1))), (7, vi (S.1 31 ((300 * l1) + l5).toNatClampNeg)), (6, vi (S.1 30 ((300 * l1) + l5).toNatClampNeg)), (0, rm 0), (1, vi l1), (3, vi l3), (5, vi l5)] [vl r3, vi ((l4 + (-1)) - 1), rm 38] (Y, (S, T)) _
            refine go_blk rfl [(.lastore, 1, 23, 0, 0, .inl 0)] 146 147 _ _ _ (by decide +kernel) ?_
            refine And.intro (lm_t38 hT) (Exists.intro _ (And.intro (lm_n38 hT) (And.intro (inb_in q13) ?_)))
            show Go _ _ _ _ _ _ 147 [(4, vi (l4 + (-1))), (7, vi (S.1 31 ((300 * l1) + l5).toNatClampNeg)), (6, vi (S.1 30 ((300 * l1) + l5).toNatClampNeg)), (0, rm 0), (1, vi l1), (3, vi l3), (5, vi l5)] [] (Y, (wL S 38 ((l4 + (-1)) - 1).toNatClampNeg r3, T)) _
            obtain rfl := Option.some.inj h
            refine go_pick [3, 4, 5, 0, 6] rfl ?_
            exact key
theorem ret11_answer {S : jS} {T : jT} {Y : jS × jT} {a0 : Int32} {a1 : Int32} {a2 : Int32} {S1 : jS} {x : Int64} (hT : LayM T) (h : f11_answer S a0 a1 a2 = some (S1, x)) : Ret M11_answer 3 0 0 [rm 0, vi a0, vi a1, vi a2] (Y, (S, T)) (some (vl x)) (Y, (S1, T)) := by
  refine Ret.of (by decide +kernel) (Nat.le_of_ble_eq_true rfl) ?_
  unfold f11_answer at h
  show Go _ _ _ _ _ _ 0 [(0, rm 0), (1, vi a0), (2, vi a1), (3, vi a2)] [] (Y, (S, T)) _
  refine go_blk rfl [(.iconst 0, 1, 0, 0, 0, .inl 0), (.istore 4, 2, 4, 0, 0, .inl 0), (.iload_n 2, 1, 2, 0, 0, .inl 0), (.istore 5, 2, 5, 0, 0, .inl 0)] 0 6 _ _ _ (by decide +kernel) ?_
  show Go _ _ _ _ _ _ 6 [(5, vi a1), (4, vi 0), (0, rm 0), (1, vi a0), (2, vi a1), (3, vi a2)] [] (Y, (S, T)) _
  refine go_pick [2, 3, 5, 1, 0] rfl ?_
  obtain ⟨y5, hy5, h⟩ := bind_el h
  refine f11_answer_L1_ok hT _ _ _ _ _ hy5 ?_
  show Go _ _ _ _ _ _ 153 [(0, rm 0)] [] (Y, (y5, T)) _
  refine go_blk rfl [(.aload_n 0, 1, 0, 0, 0, .inl 0), (.getfield 97, 3, 11, 38, 1, .inl 0), (.iconst 0, 1, 0, 0, 0, .inl 0), (.laload, 1, 23, 0, 0, .inl 0)] 153 159 _ _ _ (by decide +kernel) ?_
  refine And.intro (lm_t0 hT) (Exists.intro _ (And.intro (gRm (lm_r38 hT)) ?_))
  refine And.intro (lm_t38 hT) (Exists.intro _ (And.intro (lm_n38 hT) (And.intro (inb_in (by decide)) ?_)))
  show Go _ _ _ _ _ _ 159 [(0, rm 0)] [vl (y5.2 38 0)] (Y, (y5, T)) _
  obtain ⟨rfl, rfl⟩ := Prod.mk.inj (Option.some.inj h)
  exact go_lreturn (by decide +kernel) rfl ⟨rfl, rfl⟩
def f11_wanted_L1 (l1 : Int32) : Nat → jS → Int32 → Option (jS × Int64)
  | 0, _, _ => none
  | n + 1, S, l2 => (if inb l1 6 then (if ((12 * l1) + (S.1 32 l1.toNatClampNeg)) ≤ l2 then some (S, 0) else (if inb l2 72 then (if (S.1 34 l2.toNatClampNeg) = (S.1 35 l2.toNatClampNeg) then Option.bind (f11_answer S l1 (S.1 33 l2.toNatClampNeg) (S.1 34 l2.toNatClampNeg)) (fun r1 => some (r1.1, r1.2)) else Option.bind (f11_answer S l1 (S.1 34 l2.toNatClampNeg) (S.1 35 l2.toNatClampNeg)) (fun r2 => (if (lg_cmp r2.2 1) = 0 then Option.bind (f11_answer r2.1 l1 (r2.1.1 33 l2.toNatClampNeg) (r2.1.1 34 l2.toNatClampNeg)) (fun r3 => some (r3.1, r3.2)) else f11_wanted_L1 l1 n r2.1 (l2 + 1)))) else none)) else none)
def f11_wanted (S : jS) : Option (jS × Int64) := f11_wanted_L1 (S.1 1 10) jF S (12 * (S.1 1 10))
theorem f11_wanted_L1_ok {T : jT} {Y : jS × jT} {l1 : Int32} {S1 : jS} {x : Int64} (hT : LayM T) : ∀ (n : Nat) (S : jS) (l2 : Int32), f11_wanted_L1 l1 n S l2 = some (S1, x) → Go M11_wanted 4 0 0 0 0 13 [(0, rm 0), (1, vi l1), (2, vi l2)] [] (Y, (S, T)) (eqQ (some (vl x)) (Y, (S1, T))) := by
  intro n
  induction n with
  | zero => intro S l2 h; exact absurd h (by intro z; cases z)
  | succ n ih =>
    intro S l2 h
    rw [f11_wanted_L1] at h
    refine gd_el h (fun q1 h => ?_)
    refine go_blk rfl [(.iload_n 2, 1, 2, 0, 0, .inl 0), (.bipush 12, 2, 0, 0, 0, .inl 12), (.iload_n 1, 1, 1, 0, 0, .inl 0), (.imul, 1, 0, 0, 0, .inl 0), (.aload_n 0, 1, 0, 0, 0, .inl 0), (.getfield 78, 3, 11, 32, 1, .inl 0), (.iload_n 1, 1, 1, 0, 0, .inl 0), (.iaload, 1, 20, 0, 0, .inl 0), (.iadd, 1, 0, 0, 0, .inl 0)] 13 25 _ _ _ (by decide +kernel) ?_
    refine And.intro (lm_t0 hT) (Exists.intro _ (And.intro (gRm (lm_r32 hT)) ?_))
    refine And.intro (lm_t32 hT) (Exists.intro _ (And.intro (lm_n32 hT) (And.intro (inb_in q1) ?_)))
    show Go _ _ _ _ _ _ 25 [(0, rm 0), (1, vi l1), (2, vi l2)] [vi ((12 * l1) + (S.1 32 l1.toNatClampNeg)), vi l2] (Y, (S, T)) _
    refine ite_el h (fun q2 h => ?_) (fun q2 h => ?_)
    · refine go_icmp_ge (off := 64) (tgt := 89) (by decide +kernel) (by decide) (fun _ => ?_) (fun z => absurd q2 z)
      refine go_blk rfl [(.lconst 0, 1, 0, 0, 0, .inr (.inl 0))] 89 90 _ _ _ (by decide +kernel) ?_
      show Go _ _ _ _ _ _ 90 [(0, rm 0), (1, vi l1), (2, vi l2)] [vl 0] (Y, (S, T)) _
      obtain ⟨rfl, rfl⟩ := Prod.mk.inj (Option.some.inj h)
      exact go_lreturn (by decide +kernel) rfl ⟨rfl, rfl⟩
    · refine go_icmp_ge (off := 64) (tgt := 89) (by decide +kernel) (by decide) (fun z => absurd z q2) (fun _ => ?_)
      refine gd_el h (fun q3 h => ?_)
      refine go_blk rfl [(.aload_n 0, 1, 0, 0, 0, .inl 0), (.getfield 84, 3, 11, 34, 1, .inl 0), (.iload_n 2, 1, 2, 0, 0, .inl 0), (.iaload, 1, 20, 0, 0, .inl 0), (.aload_n 0, 1, 0, 0, 0, .inl 0), (.getfield 87, 3, 11, 35, 1, .inl 0), (.iload_n 2, 1, 2, 0, 0, .inl 0), (.iaload, 1, 20, 0, 0, .inl 0)] 28 40 _ _ _ (by decide +kernel) ?_
      refine And.intro (lm_t0 hT) (Exists.intro _ (And.intro (gRm (lm_r34 hT)) ?_))
      refine And.intro (lm_t34 hT) (Exists.intro _ (And.intro (lm_n34 hT) (And.intro (inb_in q3) ?_)))
      refine And.intro (lm_t0 hT) (Exists.intro _ (And.intro (gRm (lm_r35 hT)) ?_))
      refine And.intro (lm_t35 hT) (Exists.intro _ (And.intro (lm_n35 hT) (And.intro (inb_in q3) ?_)))
      show Go _ _ _ _ _ _ 40 [(0, rm 0), (1, vi l1), (2, vi l2)] [vi (S.1 35 l2.toNatClampNeg), vi (S.1 34 l2.toNatClampNeg)] (Y, (S, T)) _
      refine ite_el h (fun q4 h => ?_) (fun q4 h => ?_)
      · refine go_icmp_eq (off := 25) (tgt := 65) (by decide +kernel) (by decide) (fun _ => ?_) (fun z => absurd q4 z)
        refine go_blk rfl [(.aload_n 0, 1, 0, 0, 0, .inl 0), (.iload_n 1, 1, 1, 0, 0, .inl 0), (.aload_n 0, 1, 0, 0, 0, .inl 0), (.getfield 81, 3, 11, 33, 1, .inl 0), (.iload_n 2, 1, 2, 0, 0, .inl 0), (.iaload, 1, 20, 0, 0, .inl 0), (.aload_n 0, 1, 0, 0, 0, .inl 0), (.getfield 84, 3, 11, 34, 1, .inl 0), (.iload_n 2, 1, 2, 0, 0, .inl 0), (.iaload, 1, 20, 0, 0, .inl 0)] 65 79 _ _ _ (by decide +kernel) ?_
        refine And.intro (lm_t0 hT) (Exists.intro _ (And.intro (gRm (lm_r33 hT)) ?_))
        refine And.intro (lm_t33 hT) (Exists.intro _ (And.intro (lm_n33 hT) (And.intro (inb_in q3) ?_)))
        refine And.intro (lm_t0 hT) (Exists.intro _ (And.intro (gRm (lm_r34 hT)) ?_))
        refine And.intro (lm_t34 hT) (Exists.intro _ (And.intro (lm_n34 hT) (And.intro (inb_in q3) ?_)))
        show Go _ _ _ _ _ _ 79 [(0, rm 0), (1, vi l1), (2, vi l2)] [vi (S.1 34 l2.toNatClampNeg), vi (S.1 33 l2.toNatClampNeg), vi l1, rm 0] (Y, (S, T)) _
        obtain ⟨r1, hr1, h⟩ := bind_el h
        refine go_callV (idx := 341) (z := 0) (M' := M11_answer) (n := 3) (A := [vi l1, vi (S.1 33 l2.toNatClampNeg), vi (S.1 34 l2.toNatClampNeg)]) (v' := some (vl r1.2)) (μ' := (Y, (r1.1, T))) (d' := 3) (mc' := 0) (ms' := 0) (kc' := 0) (ks' := 0) (ci := 11) (x := .inr (.inl 0)) (by decide +kernel) ml_11_341 rfl wv11_answer rfl (by decide) rfl (lm_t0 hT) (ret11_answer hT hr1) (by decide) rfl rfl (Nat.le_of_ble_eq_true rfl) rfl (jag rfl rfl) ?_
        show Go _ _ _ _ _ _ 82 [(0, rm 0), (1, vi l1), (2, vi l2)] [vl r1.2] (Y, (r1.1, T)) _
        obtain ⟨rfl, rfl⟩ := Prod.mk.inj (Option.some.inj h)
        exact go_lreturn (by decide +kernel) rfl ⟨rfl, rfl⟩
      · refine go_icmp_eq (off := 25) (tgt := 65) (by decide +kernel) (by decide) (fun z => absurd z q4) (fun _ => ?_)
        refine go_blk rfl [(.aload_n 0, 1, 0, 0, 0, .inl 0), (.iload_n 1, 1, 1, 0, 0, .inl 0), (.aload_n 0, 1, 0, 0, 0, .inl 0), (.getfield 84, 3, 11, 34, 1, .inl 0), (.iload_n 2, 1, 2, 0, 0, .inl 0), (.iaload, 1, 20, 0, 0, .inl 0), (.aload_n 0, 1, 0, 0, 0, .inl 0), (.getfield 87, 3, 11, 35, 1, .inl 0), (.iload_n 2, 1, 2, 0, 0, .inl 0), (.iaload, 1, 20, 0, 0, .inl 0)] 43 57 _ _ _ (by decide +kernel) ?_
        refine And.intro (lm_t0 hT) (Exists.intro _ (And.intro (gRm (lm_r34 hT)) ?_))
        refine And.intro (lm_t34 hT) (Exists.intro _ (And.intro (lm_n34 hT) (And.intro (inb_in q3) ?_)))
        refine And.intro (lm_t0 hT) (Exists.intro _ (And.intro (gRm (lm_r35 hT)) ?_))
        refine And.intro (lm_t35 hT) (Exists.intro _ (And.intro (lm_n35 hT) (And.intro (inb_in q3) ?_)))
        show Go _ _ _ _ _ _ 57 [(0, rm 0), (1, vi l1), (2, vi l2)] [vi (S.1 35 l2.toNatClampNeg), vi (S.1 34 l2.toNatClampNeg), vi l1, rm 0] (Y, (S, T)) _
        obtain ⟨r2, hr2, h⟩ := bind_el h
        refine go_callV (idx := 341) (z := 0) (M' := M11_answer) (n := 3) (A := [vi l1, vi (S.1 34 l2.toNatClampNeg), vi (S.1 35 l2.toNatClampNeg)]) (v' := some (vl r2.2)) (μ' := (Y, (r2.1, T))) (d' := 3) (mc' := 0) (ms' := 0) (kc' := 0) (ks' := 0) (ci := 11) (x := .inr (.inl 0)) (by decide +kernel) ml_11_341 rfl wv11_answer rfl (by decide) rfl (lm_t0 hT) (ret11_answer hT hr2) (by decide) rfl rfl (Nat.le_of_ble_eq_true rfl) rfl (jag rfl rfl) ?_
        show Go _ _ _ _ _ _ 60 [(0, rm 0), (1, vi l1), (2, vi l2)] [vl r2.2] (Y, (r2.1, T)) _
        refine go_blk rfl [(.lconst 1, 1, 0, 0, 0, .inr (.inl 1)), (.lcmp, 1, 0, 0, 0, .inl 0)] 60 62 _ _ _ (by decide +kernel) ?_
        show Go _ _ _ _ _ _ 62 [(0, rm 0), (1, vi l1), (2, vi l2)] [vi (lg_cmp r2.2 1)] (Y, (r2.1, T)) _
        refine ite_el h (fun q5 h => ?_) (fun q5 h => ?_)
        · refine go_if_ne (off := 21) (tgt := 83) (by decide +kernel) (by decide) (fun z => absurd q5 z) (fun _ => ?_)
          refine go_blk rfl [(.aload_n 0, 1, 0, 0, 0, .inl 0), (.iload_n 1, 1, 1, 0, 0, .inl 0), (.aload_n 0, 1, 0, 0, 0, .inl 0), (.getfield 81, 3, 11, 33, 1, .inl 0), (.iload_n 2, 1, 2, 0, 0, .inl 0), (.iaload, 1, 20, 0, 0, .inl 0), (.aload_n 0, 1, 0, 0, 0, .inl 0), (.getfield 84, 3, 11, 34, 1, .inl 0), (.iload_n 2, 1, 2, 0, 0, .inl 0), (.iaload, 1, 20, 0, 0, .inl 0)] 65 79 _ _ _ (by decide +kernel) ?_
          refine And.intro (lm_t0 hT) (Exists.intro _ (And.intro (gRm (lm_r33 hT)) ?_))
          refine And.intro (lm_t33 hT) (Exists.intro _ (And.intro (lm_n33 hT) (And.intro (inb_in q3) ?_)))
          refine And.intro (lm_t0 hT) (Exists.intro _ (And.intro (gRm (lm_r34 hT)) ?_))
          refine And.intro (lm_t34 hT) (Exists.intro _ (And.intro (lm_n34 hT) (And.intro (inb_in q3) ?_)))
          show Go _ _ _ _ _ _ 79 [(0, rm 0), (1, vi l1), (2, vi l2)] [vi (r2.1.1 34 l2.toNatClampNeg), vi (r2.1.1 33 l2.toNatClampNeg), vi l1, rm 0] (Y, (r2.1, T)) _
          obtain ⟨r3, hr3, h⟩ := bind_el h
          refine go_callV (idx := 341) (z := 0) (M' := M11_answer) (n := 3) (A := [vi l1, vi (r2.1.1 33 l2.toNatClampNeg), vi (r2.1.1 34 l2.toNatClampNeg)]) (v' := some (vl r3.2)) (μ' := (Y, (r3.1, T))) (d' := 3) (mc' := 0) (ms' := 0) (kc' := 0) (ks' := 0) (ci := 11) (x := .inr (.inl 0)) (by decide +kernel) ml_11_341 rfl wv11_answer rfl (by decide) rfl (lm_t0 hT) (ret11_answer hT hr3) (by decide) rfl rfl (Nat.le_of_ble_eq_true rfl) rfl (jag rfl rfl) ?_
          show Go _ _ _ _ _ _ 82 [(0, rm 0), (1, vi l1), (2, vi l2)] [vl r3.2] (Y, (r3.1, T)) _
          obtain ⟨rfl, rfl⟩ := Prod.mk.inj (Option.some.inj h)
          exact go_lreturn (by decide +kernel) rfl ⟨rfl, rfl⟩
        · refine go_if_ne (off := 21) (tgt := 83) (by decide +kernel) (by decide) (fun _ => ?_) (fun z => absurd z q5)
          refine go_blk rfl [(.iinc 2 1, 3, 2, 0, 0, .inl 1)] 83 86 _ _ _ (by decide +kernel) ?_
          show Go _ _ _ _ _ _ 86 [(2, vi (l2 + 1)), (0, rm 0), (1, vi l1)] [] (Y, (r2.1, T)) _
          refine go_goto (off := (-73)) (tgt := 13) (by decide +kernel) (by decide) ?_
          refine go_pick [1, 2, 0] rfl ?_
          exact ih _ _ h
theorem ret11_wanted {S : jS} {T : jT} {Y : jS × jT} {S1 : jS} {x : Int64} (hT : LayM T) (h : f11_wanted S = some (S1, x)) : Ret M11_wanted 4 0 0 [rm 0] (Y, (S, T)) (some (vl x)) (Y, (S1, T)) := by
  refine Ret.of (by decide +kernel) (Nat.le_of_ble_eq_true rfl) ?_
  unfold f11_wanted at h
  show Go _ _ _ _ _ _ 0 [(0, rm 0)] [] (Y, (S, T)) _
  refine go_blk rfl [(.aload_n 0, 1, 0, 0, 0, .inl 0), (.getfield 9, 3, 11, 1, 1, .inl 0), (.bipush 10, 2, 0, 0, 0, .inl 10), (.iaload, 1, 20, 0, 0, .inl 0), (.istore_n 1, 1, 1, 0, 0, .inl 0), (.bipush 12, 2, 0, 0, 0, .inl 12), (.iload_n 1, 1, 1, 0, 0, .inl 0), (.imul, 1, 0, 0, 0, .inl 0), (.istore_n 2, 1, 2, 0, 0, .inl 0)] 0 13 _ _ _ (by decide +kernel) ?_
  refine And.intro (lm_t0 hT) (Exists.intro _ (And.intro (gRm (lm_r1 hT)) ?_))
  refine And.intro (lm_t1 hT) (Exists.intro _ (And.intro (lm_n1 hT) (And.intro (inb_in (by decide)) ?_)))
  show Go _ _ _ _ _ _ 13 [(2, vi (12 * (S.1 1 10))), (1, vi (S.1 1 10)), (0, rm 0)] [] (Y, (S, T)) _
  refine go_pick [2, 1, 0] rfl ?_
  exact f11_wanted_L1_ok hT _ _ _ h
def f11_chair (S : jS) (a0 : Int32) (a1 : Int32) : Option Int32 := Option.bind (f11_isChair S a0) (fun r1 => (if r1 = 0 then some ((-1)) else Option.bind (f11_in a1.toInt64 0 1) (fun r2 => (if r2 = 0 then some ((-1)) else (if a1 = 0 then (if inb a0 6 then some (S.1 7 a0.toNatClampNeg) else none) else some (((S.1 1 7) >>> (a0 &&& 31)) &&& 1))))))
theorem ret11_chair {S : jS} {T : jT} {Y : jS × jT} {a0 : Int32} {a1 : Int32} {x : Int32} (hT : LayM T) (h : f11_chair S a0 a1 = some x) : Ret M11_chair 3 0 0 [rm 0, vi a0, vi a1] (Y, (S, T)) (some (vi x)) (Y, (S, T)) := by
  refine Ret.of (by decide +kernel) (Nat.le_of_ble_eq_true rfl) ?_
  unfold f11_chair at h
  show Go _ _ _ _ _ _ 0 [(0, rm 0), (1, vi a0), (2, vi a1)] [] (Y, (S, T)) _
  refine go_blk rfl [(.aload_n 0, 1, 0, 0, 0, .inl 0), (.iload_n 1, 1, 1, 0, 0, .inl 0)] 0 2 _ _ _ (by decide +kernel) ?_
  show Go _ _ _ _ _ _ 2 [(0, rm 0), (1, vi a0), (2, vi a1)] [vi a0, rm 0] (Y, (S, T)) _
  obtain ⟨r1, hr1, h⟩ := bind_el h
  refine go_callV (idx := 353) (z := 0) (M' := M11_isChair) (n := 1) (A := [vi a0]) (v' := some (vi r1)) (μ' := (Y, (S, T))) (d' := 2) (mc' := 0) (ms' := 0) (kc' := 0) (ks' := 0) (ci := 11) (x := .inr (.inl 0)) (by decide +kernel) ml_11_353 rfl wv11_isChair rfl (by decide) rfl (lm_t0 hT) (ret11_isChair hT hr1) (by decide) rfl rfl (Nat.le_of_ble_eq_true rfl) rfl (jag rfl rfl) ?_
  show Go _ _ _ _ _ _ 5 [(0, rm 0), (1, vi a0), (2, vi a1)] [vi r1] (Y, (S, T)) _
  refine ite_el h (fun q1 h => ?_) (fun q1 h => ?_)
  · refine go_if_eq (off := 13) (tgt := 18) (by decide +kernel) (by decide) (fun _ => ?_) (fun z => absurd q1 z)
    refine go_blk rfl [(.iconst (-1), 1, 0, 0, 0, .inl (-1))] 18 19 _ _ _ (by decide +kernel) ?_
    show Go _ _ _ _ _ _ 19 [(0, rm 0), (1, vi a0), (2, vi a1)] [vi ((-1))] (Y, (S, T)) _
    obtain rfl := Option.some.inj h
    exact go_ireturn (by decide +kernel) rfl rfl ⟨rfl, rfl⟩
  · refine go_if_eq (off := 13) (tgt := 18) (by decide +kernel) (by decide) (fun z => absurd z q1) (fun _ => ?_)
    refine go_blk rfl [(.iload_n 2, 1, 2, 0, 0, .inl 0), (.i2l, 1, 0, 0, 0, .inl 0), (.lconst 0, 1, 0, 0, 0, .inr (.inl 0)), (.lconst 1, 1, 0, 0, 0, .inr (.inl 1))] 8 12 _ _ _ (by decide +kernel) ?_
    show Go _ _ _ _ _ _ 12 [(0, rm 0), (1, vi a0), (2, vi a1)] [vl 1, vl 0, vl a1.toInt64] (Y, (S, T)) _
    obtain ⟨r2, hr2, h⟩ := bind_el h
    refine go_callS (idx := 140) (z := 0) (M' := M11_in) (n := 3) (A := [vl a1.toInt64, vl 0, vl 1]) (v' := some (vi r2)) (μ' := (Y, (S, T))) (d' := 1) (mc' := 0) (ms' := 0) (kc' := 0) (ks' := 0) (by decide +kernel) ml_11_140 rfl ws11_in rfl (ret11_in hr2) (by decide) rfl rfl (Nat.le_of_ble_eq_true rfl) rfl (jag rfl rfl) ?_
    show Go _ _ _ _ _ _ 15 [(0, rm 0), (1, vi a0), (2, vi a1)] [vi r2] (Y, (S, T)) _
    refine ite_el h (fun q2 h => ?_) (fun q2 h => ?_)
    · refine go_if_ne (off := 5) (tgt := 20) (by decide +kernel) (by decide) (fun z => absurd q2 z) (fun _ => ?_)
      refine go_blk rfl [(.iconst (-1), 1, 0, 0, 0, .inl (-1))] 18 19 _ _ _ (by decide +kernel) ?_
      show Go _ _ _ _ _ _ 19 [(0, rm 0), (1, vi a0), (2, vi a1)] [vi ((-1))] (Y, (S, T)) _
      obtain rfl := Option.some.inj h
      exact go_ireturn (by decide +kernel) rfl rfl ⟨rfl, rfl⟩
    · refine go_if_ne (off := 5) (tgt := 20) (by decide +kernel) (by decide) (fun _ => ?_) (fun z => absurd z q2)
      refine go_blk rfl [(.iload_n 2, 1, 2, 0, 0, .inl 0)] 20 21 _ _ _ (by decide +kernel) ?_
      show Go _ _ _ _ _ _ 21 [(0, rm 0), (1, vi a0), (2, vi a1)] [vi a1] (Y, (S, T)) _
      refine ite_el h (fun q3 h => ?_) (fun q3 h => ?_)
      · refine go_if_ne (off := 12) (tgt := 33) (by decide +kernel) (by decide) (fun z => absurd q3 z) (fun _ => ?_)
        refine gd_el h (fun q4 h => ?_)
        refine go_blk rfl [(.aload_n 0, 1, 0, 0, 0, .inl 0), (.getfield 28, 3, 11, 7, 1, .inl 0), (.iload_n 1, 1, 1, 0, 0, .inl 0), (.iaload, 1, 20, 0, 0, .inl 0)] 24 30 _ _ _ (by decide +kernel) ?_
        refine And.intro (lm_t0 hT) (Exists.intro _ (And.intro (gRm (lm_r7 hT)) ?_))
        refine And.intro (lm_t7 hT) (Exists.intro _ (And.intro (lm_n7 hT) (And.intro (inb_in q4) ?_)))
        show Go _ _ _ _ _ _ 30 [(0, rm 0), (1, vi a0), (2, vi a1)] [vi (S.1 7 a0.toNatClampNeg)] (Y, (S, T)) _
        refine go_goto (off := 14) (tgt := 44) (by decide +kernel) (by decide) ?_
        obtain rfl := Option.some.inj h
        exact go_ireturn (by decide +kernel) rfl rfl ⟨rfl, rfl⟩
      · refine go_if_ne (off := 12) (tgt := 33) (by decide +kernel) (by decide) (fun _ => ?_) (fun z => absurd z q3)
        refine go_blk rfl [(.aload_n 0, 1, 0, 0, 0, .inl 0), (.getfield 9, 3, 11, 1, 1, .inl 0), (.bipush 7, 2, 0, 0, 0, .inl 7), (.iaload, 1, 20, 0, 0, .inl 0), (.iload_n 1, 1, 1, 0, 0, .inl 0), (.ishr, 1, 0, 0, 0, .inl 0), (.iconst 1, 1, 0, 0, 0, .inl 1), (.iand, 1, 0, 0, 0, .inl 0)] 33 44 _ _ _ (by decide +kernel) ?_
        refine And.intro (lm_t0 hT) (Exists.intro _ (And.intro (gRm (lm_r1 hT)) ?_))
        refine And.intro (lm_t1 hT) (Exists.intro _ (And.intro (lm_n1 hT) (And.intro (inb_in (by decide)) ?_)))
        show Go _ _ _ _ _ _ 44 [(0, rm 0), (1, vi a0), (2, vi a1)] [vi (((S.1 1 7) >>> (a0 &&& 31)) &&& 1)] (Y, (S, T)) _
        obtain rfl := Option.some.inj h
        exact go_ireturn (by decide +kernel) rfl rfl ⟨rfl, rfl⟩
def f11_guest (S : jS) (a0 : Int32) (a1 : Int32) : Option Int32 := Option.bind (f11_isGuest S a0) (fun r1 => (if r1 = 0 then some ((-1)) else (if a1 = 0 then (if inb a0 7 then some (S.1 2 a0.toNatClampNeg) else none) else (if a1 = 1 then (if inb a0 7 then some (S.1 3 a0.toNatClampNeg) else none) else (if a1 = 2 then (if inb a0 7 then some (S.1 4 a0.toNatClampNeg) else none) else (if a1 = 3 then (if inb a0 7 then some (S.1 5 a0.toNatClampNeg) else none) else (if a1 = 4 then (if inb a0 7 then some (S.1 6 a0.toNatClampNeg) else none) else (if a1 = 5 then some (((S.1 1 6) >>> (a0 &&& 31)) &&& 1) else some ((-1))))))))))
theorem ret11_guest {S : jS} {T : jT} {Y : jS × jT} {a0 : Int32} {a1 : Int32} {x : Int32} (hT : LayM T) (h : f11_guest S a0 a1 = some x) : Ret M11_guest 3 0 0 [rm 0, vi a0, vi a1] (Y, (S, T)) (some (vi x)) (Y, (S, T)) := by
  refine Ret.of (by decide +kernel) (Nat.le_of_ble_eq_true rfl) ?_
  unfold f11_guest at h
  show Go _ _ _ _ _ _ 0 [(0, rm 0), (1, vi a0), (2, vi a1)] [] (Y, (S, T)) _
  refine go_blk rfl [(.aload_n 0, 1, 0, 0, 0, .inl 0), (.iload_n 1, 1, 1, 0, 0, .inl 0)] 0 2 _ _ _ (by decide +kernel) ?_
  show Go _ _ _ _ _ _ 2 [(0, rm 0), (1, vi a0), (2, vi a1)] [vi a0, rm 0] (Y, (S, T)) _
  obtain ⟨r1, hr1, h⟩ := bind_el h
  refine go_callV (idx := 144) (z := 0) (M' := M11_isGuest) (n := 1) (A := [vi a0]) (v' := some (vi r1)) (μ' := (Y, (S, T))) (d' := 2) (mc' := 0) (ms' := 0) (kc' := 0) (ks' := 0) (ci := 11) (x := .inr (.inl 0)) (by decide +kernel) ml_11_144 rfl wv11_isGuest rfl (by decide) rfl (lm_t0 hT) (ret11_isGuest hT hr1) (by decide) rfl rfl (Nat.le_of_ble_eq_true rfl) rfl (jag rfl rfl) ?_
  show Go _ _ _ _ _ _ 5 [(0, rm 0), (1, vi a0), (2, vi a1)] [vi r1] (Y, (S, T)) _
  refine ite_el h (fun q1 h => ?_) (fun q1 h => ?_)
  · refine go_if_ne (off := 5) (tgt := 10) (by decide +kernel) (by decide) (fun z => absurd q1 z) (fun _ => ?_)
    refine go_blk rfl [(.iconst (-1), 1, 0, 0, 0, .inl (-1))] 8 9 _ _ _ (by decide +kernel) ?_
    show Go _ _ _ _ _ _ 9 [(0, rm 0), (1, vi a0), (2, vi a1)] [vi ((-1))] (Y, (S, T)) _
    obtain rfl := Option.some.inj h
    exact go_ireturn (by decide +kernel) rfl rfl ⟨rfl, rfl⟩
  · refine go_if_ne (off := 5) (tgt := 10) (by decide +kernel) (by decide) (fun _ => ?_) (fun z => absurd z q1)
    refine go_blk rfl [(.iload_n 2, 1, 2, 0, 0, .inl 0)] 10 11 _ _ _ (by decide +kernel) ?_
    show Go _ _ _ _ _ _ 11 [(0, rm 0), (1, vi a0), (2, vi a1)] [vi a1] (Y, (S, T)) _
    refine ite_el h (fun q7 h => ?_) (fun q7 h => ?_)
    · refine go_tableIn (dflt := 84) (lo := 0) (hi := 5) (offs := #[37, 44, 51, 58, 65, 72]) (len := 37) (off := 37) (tgt := 48) (by decide +kernel) (by rw [q7]; decide) (by rw [q7]; decide) (by rw [q7]; decide) (by decide) ?_
      refine gd_el h (fun q2 h => ?_)
      refine go_blk rfl [(.aload_n 0, 1, 0, 0, 0, .inl 0), (.getfield 13, 3, 11, 2, 1, .inl 0), (.iload_n 1, 1, 1, 0, 0, .inl 0), (.iaload, 1, 20, 0, 0, .inl 0)] 48 54 _ _ _ (by decide +kernel) ?_
      refine And.intro (lm_t0 hT) (Exists.intro _ (And.intro (gRm (lm_r2 hT)) ?_))
      refine And.intro (lm_t2 hT) (Exists.intro _ (And.intro (lm_n2 hT) (And.intro (inb_in q2) ?_)))
      show Go _ _ _ _ _ _ 54 [(0, rm 0), (1, vi a0), (2, vi a1)] [vi (S.1 2 a0.toNatClampNeg)] (Y, (S, T)) _
      obtain rfl := Option.some.inj h
      exact go_ireturn (by decide +kernel) rfl rfl ⟨rfl, rfl⟩
    refine ite_el h (fun q8 h => ?_) (fun q8 h => ?_)
    · refine go_tableIn (dflt := 84) (lo := 0) (hi := 5) (offs := #[37, 44, 51, 58, 65, 72]) (len := 37) (off := 44) (tgt := 55) (by decide +kernel) (by rw [q8]; decide) (by rw [q8]; decide) (by rw [q8]; decide) (by decide) ?_
      refine gd_el h (fun q3 h => ?_)
      refine go_blk rfl [(.aload_n 0, 1, 0, 0, 0, .inl 0), (.getfield 16, 3, 11, 3, 1, .inl 0), (.iload_n 1, 1, 1, 0, 0, .inl 0), (.iaload, 1, 20, 0, 0, .inl 0)] 55 61 _ _ _ (by decide +kernel) ?_
      refine And.intro (lm_t0 hT) (Exists.intro _ (And.intro (gRm (lm_r3 hT)) ?_))
      refine And.intro (lm_t3 hT) (Exists.intro _ (And.intro (lm_n3 hT) (And.intro (inb_in q3) ?_)))
      show Go _ _ _ _ _ _ 61 [(0, rm 0), (1, vi a0), (2, vi a1)] [vi (S.1 3 a0.toNatClampNeg)] (Y, (S, T)) _
      obtain rfl := Option.some.inj h
      exact go_ireturn (by decide +kernel) rfl rfl ⟨rfl, rfl⟩
    refine ite_el h (fun q9 h => ?_) (fun q9 h => ?_)
    · refine go_tableIn (dflt := 84) (lo := 0) (hi := 5) (offs := #[37, 44, 51, 58, 65, 72]) (len := 37) (off := 51) (tgt := 62) (by decide +kernel) (by rw [q9]; decide) (by rw [q9]; decide) (by rw [q9]; decide) (by decide) ?_
      refine gd_el h (fun q4 h => ?_)
      refine go_blk rfl [(.aload_n 0, 1, 0, 0, 0, .inl 0), (.getfield 19, 3, 11, 4, 1, .inl 0), (.iload_n 1, 1, 1, 0, 0, .inl 0), (.iaload, 1, 20, 0, 0, .inl 0)] 62 68 _ _ _ (by decide +kernel) ?_
      refine And.intro (lm_t0 hT) (Exists.intro _ (And.intro (gRm (lm_r4 hT)) ?_))
      refine And.intro (lm_t4 hT) (Exists.intro _ (And.intro (lm_n4 hT) (And.intro (inb_in q4) ?_)))
      show Go _ _ _ _ _ _ 68 [(0, rm 0), (1, vi a0), (2, vi a1)] [vi (S.1 4 a0.toNatClampNeg)] (Y, (S, T)) _
      obtain rfl := Option.some.inj h
      exact go_ireturn (by decide +kernel) rfl rfl ⟨rfl, rfl⟩
    refine ite_el h (fun q10 h => ?_) (fun q10 h => ?_)
    · refine go_tableIn (dflt := 84) (lo := 0) (hi := 5) (offs := #[37, 44, 51, 58, 65, 72]) (len := 37) (off := 58) (tgt := 69) (by decide +kernel) (by rw [q10]; decide) (by rw [q10]; decide) (by rw [q10]; decide) (by decide) ?_
      refine gd_el h (fun q5 h => ?_)
      refine go_blk rfl [(.aload_n 0, 1, 0, 0, 0, .inl 0), (.getfield 22, 3, 11, 5, 1, .inl 0), (.iload_n 1, 1, 1, 0, 0, .inl 0), (.iaload, 1, 20, 0, 0, .inl 0)] 69 75 _ _ _ (by decide +kernel) ?_
      refine And.intro (lm_t0 hT) (Exists.intro _ (And.intro (gRm (lm_r5 hT)) ?_))
      refine And.intro (lm_t5 hT) (Exists.intro _ (And.intro (lm_n5 hT) (And.intro (inb_in q5) ?_)))
      show Go _ _ _ _ _ _ 75 [(0, rm 0), (1, vi a0), (2, vi a1)] [vi (S.1 5 a0.toNatClampNeg)] (Y, (S, T)) _
      obtain rfl := Option.some.inj h
      exact go_ireturn (by decide +kernel) rfl rfl ⟨rfl, rfl⟩
    refine ite_el h (fun q11 h => ?_) (fun q11 h => ?_)
    · refine go_tableIn (dflt := 84) (lo := 0) (hi := 5) (offs := #[37, 44, 51, 58, 65, 72]) (len := 37) (off := 65) (tgt := 76) (by decide +kernel) (by rw [q11]; decide) (by rw [q11]; decide) (by rw [q11]; decide) (by decide) ?_
      refine gd_el h (fun q6 h => ?_)
      refine go_blk rfl [(.aload_n 0, 1, 0, 0, 0, .inl 0), (.getfield 25, 3, 11, 6, 1, .inl 0), (.iload_n 1, 1, 1, 0, 0, .inl 0), (.iaload, 1, 20, 0, 0, .inl 0)] 76 82 _ _ _ (by decide +kernel) ?_
      refine And.intro (lm_t0 hT) (Exists.intro _ (And.intro (gRm (lm_r6 hT)) ?_))
      refine And.intro (lm_t6 hT) (Exists.intro _ (And.intro (lm_n6 hT) (And.intro (inb_in q6) ?_)))
      show Go _ _ _ _ _ _ 82 [(0, rm 0), (1, vi a0), (2, vi a1)] [vi (S.1 6 a0.toNatClampNeg)] (Y, (S, T)) _
      obtain rfl := Option.some.inj h
      exact go_ireturn (by decide +kernel) rfl rfl ⟨rfl, rfl⟩
    refine ite_el h (fun q12 h => ?_) (fun q12 h => ?_)
    · refine go_tableIn (dflt := 84) (lo := 0) (hi := 5) (offs := #[37, 44, 51, 58, 65, 72]) (len := 37) (off := 72) (tgt := 83) (by decide +kernel) (by rw [q12]; decide) (by rw [q12]; decide) (by rw [q12]; decide) (by decide) ?_
      refine go_blk rfl [(.aload_n 0, 1, 0, 0, 0, .inl 0), (.getfield 9, 3, 11, 1, 1, .inl 0), (.bipush 6, 2, 0, 0, 0, .inl 6), (.iaload, 1, 20, 0, 0, .inl 0), (.iload_n 1, 1, 1, 0, 0, .inl 0), (.ishr, 1, 0, 0, 0, .inl 0), (.iconst 1, 1, 0, 0, 0, .inl 1), (.iand, 1, 0, 0, 0, .inl 0)] 83 94 _ _ _ (by decide +kernel) ?_
      refine And.intro (lm_t0 hT) (Exists.intro _ (And.intro (gRm (lm_r1 hT)) ?_))
      refine And.intro (lm_t1 hT) (Exists.intro _ (And.intro (lm_n1 hT) (And.intro (inb_in (by decide)) ?_)))
      show Go _ _ _ _ _ _ 94 [(0, rm 0), (1, vi a0), (2, vi a1)] [vi (((S.1 1 6) >>> (a0 &&& 31)) &&& 1)] (Y, (S, T)) _
      obtain rfl := Option.some.inj h
      exact go_ireturn (by decide +kernel) rfl rfl ⟨rfl, rfl⟩
    refine go_tableOut (dflt := 84) (lo := 0) (hi := 5) (offs := #[37, 44, 51, 58, 65, 72]) (len := 37) (tgt := 95) (by decide +kernel) (by have z0 : a1.toInt ≠ 0 := tb_ne q7 (by decide); have z1 : a1.toInt ≠ 1 := tb_ne q8 (by decide); have z2 : a1.toInt ≠ 2 := tb_ne q9 (by decide); have z3 : a1.toInt ≠ 3 := tb_ne q10 (by decide); have z4 : a1.toInt ≠ 4 := tb_ne q11 (by decide); have z5 : a1.toInt ≠ 5 := tb_ne q12 (by decide); omega) (by decide) ?_
    refine go_blk rfl [(.iconst (-1), 1, 0, 0, 0, .inl (-1))] 95 96 _ _ _ (by decide +kernel) ?_
    show Go _ _ _ _ _ _ 96 [(0, rm 0), (1, vi a0), (2, vi a1)] [vi ((-1))] (Y, (S, T)) _
    obtain rfl := Option.some.inj h
    exact go_ireturn (by decide +kernel) rfl rfl ⟨rfl, rfl⟩
def f11_timeOf (S : jS) (a0 : Int32) (a1 : Int32) : Option Int32 := (if inb a0 7 then (if inb a1 6 then Option.bind (if (S.1 7 a1.toNatClampNeg) ≤ (S.1 2 a0.toNatClampNeg) then some ((S.1 2 a0.toNatClampNeg) - (S.1 7 a1.toNatClampNeg)) else some ((S.1 7 a1.toNatClampNeg) - (S.1 2 a0.toNatClampNeg))) (fun (y1 : Int32) => Option.bind (if y1 ≤ ((S.1 1 0) - y1) then some y1 else some ((S.1 1 0) - y1)) (fun (y2 : Int32) => (if ¬ (S.1 4 a0.toNatClampNeg) = 0 then some ((y2 * (10 + (S.1 5 a0.toNatClampNeg))) / (S.1 4 a0.toNatClampNeg)) else none))) else none) else none)
theorem ret11_timeOf {S : jS} {T : jT} {Y : jS × jT} {a0 : Int32} {a1 : Int32} {x : Int32} (hT : LayM T) (h : f11_timeOf S a0 a1 = some x) : Ret M11_timeOf 1 0 0 [rm 0, vi a0, vi a1] (Y, (S, T)) (some (vi x)) (Y, (S, T)) := by
  refine Ret.of (by decide +kernel) (Nat.le_of_ble_eq_true rfl) ?_
  unfold f11_timeOf at h
  show Go _ _ _ _ _ _ 0 [(0, rm 0), (1, vi a0), (2, vi a1)] [] (Y, (S, T)) _
  refine gd_el h (fun q1 h => ?_)
  refine gd_el h (fun q2 h => ?_)
  refine go_blk rfl [(.aload_n 0, 1, 0, 0, 0, .inl 0), (.getfield 13, 3, 11, 2, 1, .inl 0), (.iload_n 1, 1, 1, 0, 0, .inl 0), (.iaload, 1, 20, 0, 0, .inl 0), (.aload_n 0, 1, 0, 0, 0, .inl 0), (.getfield 28, 3, 11, 7, 1, .inl 0), (.iload_n 2, 1, 2, 0, 0, .inl 0), (.iaload, 1, 20, 0, 0, .inl 0)] 0 12 _ _ _ (by decide +kernel) ?_
  refine And.intro (lm_t0 hT) (Exists.intro _ (And.intro (gRm (lm_r2 hT)) ?_))
  refine And.intro (lm_t2 hT) (Exists.intro _ (And.intro (lm_n2 hT) (And.intro (inb_in q1) ?_)))
  refine And.intro (lm_t0 hT) (Exists.intro _ (And.intro (gRm (lm_r7 hT)) ?_))
  refine And.intro (lm_t7 hT) (Exists.intro _ (And.intro (lm_n7 hT) (And.intro (inb_in q2) ?_)))
  show Go _ _ _ _ _ _ 12 [(0, rm 0), (1, vi a0), (2, vi a1)] [vi (S.1 7 a1.toNatClampNeg), vi (S.1 2 a0.toNatClampNeg)] (Y, (S, T)) _
  obtain ⟨y1, hy1, h⟩ := bind_el h
  have key : Go M11_timeOf 1 0 0 0 0 44 [(0, rm 0), (1, vi a0)] [vi y1] (Y, (S, T)) (eqQ (some (vi x)) (Y, (S, T))) := by
    refine go_blk rfl [(.istore_n 3, 1, 3, 0, 0, .inl 0), (.iload_n 3, 1, 3, 0, 0, .inl 0), (.aload_n 0, 1, 0, 0, 0, .inl 0), (.getfield 9, 3, 11, 1, 1, .inl 0), (.iconst 0, 1, 0, 0, 0, .inl 0), (.iaload, 1, 20, 0, 0, .inl 0), (.iload_n 3, 1, 3, 0, 0, .inl 0), (.isub, 1, 0, 0, 0, .inl 0)] 44 54 _ _ _ (by decide +kernel) ?_
    refine And.intro (lm_t0 hT) (Exists.intro _ (And.intro (gRm (lm_r1 hT)) ?_))
    refine And.intro (lm_t1 hT) (Exists.intro _ (And.intro (lm_n1 hT) (And.intro (inb_in (by decide)) ?_)))
    show Go _ _ _ _ _ _ 54 [(3, vi y1), (0, rm 0), (1, vi a0)] [vi ((S.1 1 0) - y1), vi y1] (Y, (S, T)) _
    obtain ⟨y2, hy2, h⟩ := bind_el h
    have key : Go M11_timeOf 1 0 0 0 0 69 [(0, rm 0), (1, vi a0)] [vi y2] (Y, (S, T)) (eqQ (some (vi x)) (Y, (S, T))) := by
      refine gd_el h (fun q5 h => ?_)
      refine go_blk rfl [(.istore_n 3, 1, 3, 0, 0, .inl 0), (.iload_n 3, 1, 3, 0, 0, .inl 0), (.bipush 10, 2, 0, 0, 0, .inl 10), (.aload_n 0, 1, 0, 0, 0, .inl 0), (.getfield 22, 3, 11, 5, 1, .inl 0), (.iload_n 1, 1, 1, 0, 0, .inl 0), (.iaload, 1, 20, 0, 0, .inl 0), (.iadd, 1, 0, 0, 0, .inl 0), (.imul, 1, 0, 0, 0, .inl 0), (.aload_n 0, 1, 0, 0, 0, .inl 0), (.getfield 19, 3, 11, 4, 1, .inl 0), (.iload_n 1, 1, 1, 0, 0, .inl 0), (.iaload, 1, 20, 0, 0, .inl 0), (.idiv, 1, 0, 0, 0, .inl 0)] 69 88 _ _ _ (by decide +kernel) ?_
      refine And.intro (lm_t0 hT) (Exists.intro _ (And.intro (gRm (lm_r5 hT)) ?_))
      refine And.intro (lm_t5 hT) (Exists.intro _ (And.intro (lm_n5 hT) (And.intro (inb_in q1) ?_)))
      refine And.intro (lm_t0 hT) (Exists.intro _ (And.intro (gRm (lm_r4 hT)) ?_))
      refine And.intro (lm_t4 hT) (Exists.intro _ (And.intro (lm_n4 hT) (And.intro (inb_in q1) ?_)))
      refine And.intro q5 ?_
      show Go _ _ _ _ _ _ 88 [(3, vi y2), (0, rm 0), (1, vi a0)] [vi ((y2 * (10 + (S.1 5 a0.toNatClampNeg))) / (S.1 4 a0.toNatClampNeg))] (Y, (S, T)) _
      obtain rfl := Option.some.inj h
      exact go_ireturn (by decide +kernel) rfl rfl ⟨rfl, rfl⟩
    replace h := hy2
    refine ite_el h (fun q4 h => ?_) (fun q4 h => ?_)
    · refine go_icmp_le (off := 14) (tgt := 68) (by decide +kernel) (by decide) (fun _ => ?_) (fun z => absurd q4 z)
      refine go_blk rfl [(.iload_n 3, 1, 3, 0, 0, .inl 0)] 68 69 _ _ _ (by decide +kernel) ?_
      show Go _ _ _ _ _ _ 69 [(3, vi y1), (0, rm 0), (1, vi a0)] [vi y1] (Y, (S, T)) _
      obtain rfl := Option.some.inj h
      refine go_pick [1, 2] rfl ?_
      exact key
    · refine go_icmp_le (off := 14) (tgt := 68) (by decide +kernel) (by decide) (fun z => absurd z q4) (fun _ => ?_)
      refine go_blk rfl [(.aload_n 0, 1, 0, 0, 0, .inl 0), (.getfield 9, 3, 11, 1, 1, .inl 0), (.iconst 0, 1, 0, 0, 0, .inl 0), (.iaload, 1, 20, 0, 0, .inl 0), (.iload_n 3, 1, 3, 0, 0, .inl 0), (.isub, 1, 0, 0, 0, .inl 0)] 57 65 _ _ _ (by decide +kernel) ?_
      refine And.intro (lm_t0 hT) (Exists.intro _ (And.intro (gRm (lm_r1 hT)) ?_))
      refine And.intro (lm_t1 hT) (Exists.intro _ (And.intro (lm_n1 hT) (And.intro (inb_in (by decide)) ?_)))
      show Go _ _ _ _ _ _ 65 [(3, vi y1), (0, rm 0), (1, vi a0)] [vi ((S.1 1 0) - y1)] (Y, (S, T)) _
      refine go_goto (off := 4) (tgt := 69) (by decide +kernel) (by decide) ?_
      obtain rfl := Option.some.inj h
      refine go_pick [1, 2] rfl ?_
      exact key
  replace h := hy1
  refine ite_el h (fun q3 h => ?_) (fun q3 h => ?_)
  · refine go_icmp_ge (off := 19) (tgt := 31) (by decide +kernel) (by decide) (fun _ => ?_) (fun z => absurd q3 z)
    refine go_blk rfl [(.aload_n 0, 1, 0, 0, 0, .inl 0), (.getfield 13, 3, 11, 2, 1, .inl 0), (.iload_n 1, 1, 1, 0, 0, .inl 0), (.iaload, 1, 20, 0, 0, .inl 0), (.aload_n 0, 1, 0, 0, 0, .inl 0), (.getfield 28, 3, 11, 7, 1, .inl 0), (.iload_n 2, 1, 2, 0, 0, .inl 0), (.iaload, 1, 20, 0, 0, .inl 0), (.isub, 1, 0, 0, 0, .inl 0)] 31 44 _ _ _ (by decide +kernel) ?_
    refine And.intro (lm_t0 hT) (Exists.intro _ (And.intro (gRm (lm_r2 hT)) ?_))
    refine And.intro (lm_t2 hT) (Exists.intro _ (And.intro (lm_n2 hT) (And.intro (inb_in q1) ?_)))
    refine And.intro (lm_t0 hT) (Exists.intro _ (And.intro (gRm (lm_r7 hT)) ?_))
    refine And.intro (lm_t7 hT) (Exists.intro _ (And.intro (lm_n7 hT) (And.intro (inb_in q2) ?_)))
    show Go _ _ _ _ _ _ 44 [(0, rm 0), (1, vi a0), (2, vi a1)] [vi ((S.1 2 a0.toNatClampNeg) - (S.1 7 a1.toNatClampNeg))] (Y, (S, T)) _
    obtain rfl := Option.some.inj h
    refine go_pick [0, 1] rfl ?_
    exact key
  · refine go_icmp_ge (off := 19) (tgt := 31) (by decide +kernel) (by decide) (fun z => absurd z q3) (fun _ => ?_)
    refine go_blk rfl [(.aload_n 0, 1, 0, 0, 0, .inl 0), (.getfield 28, 3, 11, 7, 1, .inl 0), (.iload_n 2, 1, 2, 0, 0, .inl 0), (.iaload, 1, 20, 0, 0, .inl 0), (.aload_n 0, 1, 0, 0, 0, .inl 0), (.getfield 13, 3, 11, 2, 1, .inl 0), (.iload_n 1, 1, 1, 0, 0, .inl 0), (.iaload, 1, 20, 0, 0, .inl 0), (.isub, 1, 0, 0, 0, .inl 0)] 15 28 _ _ _ (by decide +kernel) ?_
    refine And.intro (lm_t0 hT) (Exists.intro _ (And.intro (gRm (lm_r7 hT)) ?_))
    refine And.intro (lm_t7 hT) (Exists.intro _ (And.intro (lm_n7 hT) (And.intro (inb_in q2) ?_)))
    refine And.intro (lm_t0 hT) (Exists.intro _ (And.intro (gRm (lm_r2 hT)) ?_))
    refine And.intro (lm_t2 hT) (Exists.intro _ (And.intro (lm_n2 hT) (And.intro (inb_in q1) ?_)))
    show Go _ _ _ _ _ _ 28 [(0, rm 0), (1, vi a0), (2, vi a1)] [vi ((S.1 7 a1.toNatClampNeg) - (S.1 2 a0.toNatClampNeg))] (Y, (S, T)) _
    refine go_goto (off := 16) (tgt := 44) (by decide +kernel) (by decide) ?_
    obtain rfl := Option.some.inj h
    refine go_pick [0, 1] rfl ?_
    exact key
def f11_time (S : jS) (a0 : Int32) (a1 : Int32) : Option Int32 := Option.bind (f11_isGuest S a0) (fun r1 => (if r1 = 0 then some ((-1)) else Option.bind (f11_isChair S a1) (fun r2 => (if r2 = 0 then some ((-1)) else Option.bind (f11_timeOf S a0 a1) (fun r3 => some r3)))))
theorem ret11_time {S : jS} {T : jT} {Y : jS × jT} {a0 : Int32} {a1 : Int32} {x : Int32} (hT : LayM T) (h : f11_time S a0 a1 = some x) : Ret M11_time 3 0 0 [rm 0, vi a0, vi a1] (Y, (S, T)) (some (vi x)) (Y, (S, T)) := by
  refine Ret.of (by decide +kernel) (Nat.le_of_ble_eq_true rfl) ?_
  unfold f11_time at h
  show Go _ _ _ _ _ _ 0 [(0, rm 0), (1, vi a0), (2, vi a1)] [] (Y, (S, T)) _
  refine go_blk rfl [(.aload_n 0, 1, 0, 0, 0, .inl 0), (.iload_n 1, 1, 1, 0, 0, .inl 0)] 0 2 _ _ _ (by decide +kernel) ?_
  show Go _ _ _ _ _ _ 2 [(0, rm 0), (1, vi a0), (2, vi a1)] [vi a0, rm 0] (Y, (S, T)) _
  obtain ⟨r1, hr1, h⟩ := bind_el h
  refine go_callV (idx := 144) (z := 0) (M' := M11_isGuest) (n := 1) (A := [vi a0]) (v' := some (vi r1)) (μ' := (Y, (S, T))) (d' := 2) (mc' := 0) (ms' := 0) (kc' := 0) (ks' := 0) (ci := 11) (x := .inr (.inl 0)) (by decide +kernel) ml_11_144 rfl wv11_isGuest rfl (by decide) rfl (lm_t0 hT) (ret11_isGuest hT hr1) (by decide) rfl rfl (Nat.le_of_ble_eq_true rfl) rfl (jag rfl rfl) ?_
  show Go _ _ _ _ _ _ 5 [(0, rm 0), (1, vi a0), (2, vi a1)] [vi r1] (Y, (S, T)) _
  refine ite_el h (fun q1 h => ?_) (fun q1 h => ?_)
  · refine go_if_eq (off := 20) (tgt := 25) (by decide +kernel) (by decide) (fun _ => ?_) (fun z => absurd q1 z)
    refine go_blk rfl [(.iconst (-1), 1, 0, 0, 0, .inl (-1))] 25 26 _ _ _ (by decide +kernel) ?_
    show Go _ _ _ _ _ _ 26 [(0, rm 0), (1, vi a0), (2, vi a1)] [vi ((-1))] (Y, (S, T)) _
    obtain rfl := Option.some.inj h
    exact go_ireturn (by decide +kernel) rfl rfl ⟨rfl, rfl⟩
  · refine go_if_eq (off := 20) (tgt := 25) (by decide +kernel) (by decide) (fun z => absurd z q1) (fun _ => ?_)
    refine go_blk rfl [(.aload_n 0, 1, 0, 0, 0, .inl 0), (.iload_n 2, 1, 2, 0, 0, .inl 0)] 8 10 _ _ _ (by decide +kernel) ?_
    show Go _ _ _ _ _ _ 10 [(0, rm 0), (1, vi a0), (2, vi a1)] [vi a1, rm 0] (Y, (S, T)) _
    obtain ⟨r2, hr2, h⟩ := bind_el h
    refine go_callV (idx := 353) (z := 0) (M' := M11_isChair) (n := 1) (A := [vi a1]) (v' := some (vi r2)) (μ' := (Y, (S, T))) (d' := 2) (mc' := 0) (ms' := 0) (kc' := 0) (ks' := 0) (ci := 11) (x := .inr (.inl 0)) (by decide +kernel) ml_11_353 rfl wv11_isChair rfl (by decide) rfl (lm_t0 hT) (ret11_isChair hT hr2) (by decide) rfl rfl (Nat.le_of_ble_eq_true rfl) rfl (jag rfl rfl) ?_
    show Go _ _ _ _ _ _ 13 [(0, rm 0), (1, vi a0), (2, vi a1)] [vi r2] (Y, (S, T)) _
    refine ite_el h (fun q2 h => ?_) (fun q2 h => ?_)
    · refine go_if_eq (off := 12) (tgt := 25) (by decide +kernel) (by decide) (fun _ => ?_) (fun z => absurd q2 z)
      refine go_blk rfl [(.iconst (-1), 1, 0, 0, 0, .inl (-1))] 25 26 _ _ _ (by decide +kernel) ?_
      show Go _ _ _ _ _ _ 26 [(0, rm 0), (1, vi a0), (2, vi a1)] [vi ((-1))] (Y, (S, T)) _
      obtain rfl := Option.some.inj h
      exact go_ireturn (by decide +kernel) rfl rfl ⟨rfl, rfl⟩
    · refine go_if_eq (off := 12) (tgt := 25) (by decide +kernel) (by decide) (fun z => absurd z q2) (fun _ => ?_)
      refine go_blk rfl [(.aload_n 0, 1, 0, 0, 0, .inl 0), (.iload_n 1, 1, 1, 0, 0, .inl 0), (.iload_n 2, 1, 2, 0, 0, .inl 0)] 16 19 _ _ _ (by decide +kernel) ?_
      show Go _ _ _ _ _ _ 19 [(0, rm 0), (1, vi a0), (2, vi a1)] [vi a1, vi a0, rm 0] (Y, (S, T)) _
      obtain ⟨r3, hr3, h⟩ := bind_el h
      refine go_callV (idx := 356) (z := 0) (M' := M11_timeOf) (n := 2) (A := [vi a0, vi a1]) (v' := some (vi r3)) (μ' := (Y, (S, T))) (d' := 1) (mc' := 0) (ms' := 0) (kc' := 0) (ks' := 0) (ci := 11) (x := .inr (.inl 0)) (by decide +kernel) ml_11_356 rfl wv11_timeOf rfl (by decide) rfl (lm_t0 hT) (ret11_timeOf hT hr3) (by decide) rfl rfl (Nat.le_of_ble_eq_true rfl) rfl (jag rfl rfl) ?_
      show Go _ _ _ _ _ _ 22 [(0, rm 0), (1, vi a0), (2, vi a1)] [vi r3] (Y, (S, T)) _
      refine go_goto (off := 4) (tgt := 26) (by decide +kernel) (by decide) ?_
      obtain rfl := Option.some.inj h
      exact go_ireturn (by decide +kernel) rfl rfl ⟨rfl, rfl⟩
def f11_isDone (S : jS) : Option Int32 := Option.bind (f11_bits (S.1 1 6)) (fun r1 => (if r1 < 2 then some 1 else (if (S.1 1 7) = 0 then some 1 else some 0)))
theorem ret11_isDone {S : jS} {T : jT} {Y : jS × jT} {x : Int32} (hT : LayM T) (h : f11_isDone S = some x) : Ret M11_isDone 2 0 0 [rm 0] (Y, (S, T)) (some (vi x)) (Y, (S, T)) := by
  refine Ret.of (by decide +kernel) (Nat.le_of_ble_eq_true rfl) ?_
  unfold f11_isDone at h
  show Go _ _ _ _ _ _ 0 [(0, rm 0)] [] (Y, (S, T)) _
  refine go_blk rfl [(.aload_n 0, 1, 0, 0, 0, .inl 0), (.getfield 9, 3, 11, 1, 1, .inl 0), (.bipush 6, 2, 0, 0, 0, .inl 6), (.iaload, 1, 20, 0, 0, .inl 0)] 0 7 _ _ _ (by decide +kernel) ?_
  refine And.intro (lm_t0 hT) (Exists.intro _ (And.intro (gRm (lm_r1 hT)) ?_))
  refine And.intro (lm_t1 hT) (Exists.intro _ (And.intro (lm_n1 hT) (And.intro (inb_in (by decide)) ?_)))
  show Go _ _ _ _ _ _ 7 [(0, rm 0)] [vi (S.1 1 6)] (Y, (S, T)) _
  obtain ⟨r1, hr1, h⟩ := bind_el h
  refine go_callS (idx := 359) (z := 0) (M' := M11_bits) (n := 1) (A := [vi (S.1 1 6)]) (v' := some (vi r1)) (μ' := (Y, (S, T))) (d' := 1) (mc' := 0) (ms' := 0) (kc' := 0) (ks' := 0) (by decide +kernel) ml_11_359 rfl ws11_bits rfl (ret11_bits hr1) (by decide) rfl rfl (Nat.le_of_ble_eq_true rfl) rfl (jag rfl rfl) ?_
  show Go _ _ _ _ _ _ 10 [(0, rm 0)] [vi r1] (Y, (S, T)) _
  refine go_blk rfl [(.iconst 2, 1, 0, 0, 0, .inl 2)] 10 11 _ _ _ (by decide +kernel) ?_
  show Go _ _ _ _ _ _ 11 [(0, rm 0)] [vi 2, vi r1] (Y, (S, T)) _
  refine ite_el h (fun q1 h => ?_) (fun q1 h => ?_)
  · refine go_icmp_lt (off := 13) (tgt := 24) (by decide +kernel) (by decide) (fun _ => ?_) (fun z => absurd q1 z)
    refine go_blk rfl [(.iconst 1, 1, 0, 0, 0, .inl 1)] 24 25 _ _ _ (by decide +kernel) ?_
    show Go _ _ _ _ _ _ 25 [(0, rm 0)] [vi 1] (Y, (S, T)) _
    refine go_goto (off := 4) (tgt := 29) (by decide +kernel) (by decide) ?_
    obtain rfl := Option.some.inj h
    exact go_ireturn (by decide +kernel) rfl rfl ⟨rfl, rfl⟩
  · refine go_icmp_lt (off := 13) (tgt := 24) (by decide +kernel) (by decide) (fun z => absurd z q1) (fun _ => ?_)
    refine go_blk rfl [(.aload_n 0, 1, 0, 0, 0, .inl 0), (.getfield 9, 3, 11, 1, 1, .inl 0), (.bipush 7, 2, 0, 0, 0, .inl 7), (.iaload, 1, 20, 0, 0, .inl 0)] 14 21 _ _ _ (by decide +kernel) ?_
    refine And.intro (lm_t0 hT) (Exists.intro _ (And.intro (gRm (lm_r1 hT)) ?_))
    refine And.intro (lm_t1 hT) (Exists.intro _ (And.intro (lm_n1 hT) (And.intro (inb_in (by decide)) ?_)))
    show Go _ _ _ _ _ _ 21 [(0, rm 0)] [vi (S.1 1 7)] (Y, (S, T)) _
    refine ite_el h (fun q2 h => ?_) (fun q2 h => ?_)
    · refine go_if_ne (off := 7) (tgt := 28) (by decide +kernel) (by decide) (fun z => absurd q2 z) (fun _ => ?_)
      refine go_blk rfl [(.iconst 1, 1, 0, 0, 0, .inl 1)] 24 25 _ _ _ (by decide +kernel) ?_
      show Go _ _ _ _ _ _ 25 [(0, rm 0)] [vi 1] (Y, (S, T)) _
      refine go_goto (off := 4) (tgt := 29) (by decide +kernel) (by decide) ?_
      obtain rfl := Option.some.inj h
      exact go_ireturn (by decide +kernel) rfl rfl ⟨rfl, rfl⟩
    · refine go_if_ne (off := 7) (tgt := 28) (by decide +kernel) (by decide) (fun _ => ?_) (fun z => absurd z q2)
      refine go_blk rfl [(.iconst 0, 1, 0, 0, 0, .inl 0)] 28 29 _ _ _ (by decide +kernel) ?_
      show Go _ _ _ _ _ _ 29 [(0, rm 0)] [vi 0] (Y, (S, T)) _
      obtain rfl := Option.some.inj h
      exact go_ireturn (by decide +kernel) rfl rfl ⟨rfl, rfl⟩
