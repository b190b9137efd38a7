/-! the acts of the class, as methods -/
theorem INV.np {S : jS} {T : jT} {X : jS} (h : INV S T X) : ∃ np A, np < 20 ∧ A ≤ 20 ∧ S.1 100 3 = nI np ∧ S.1 100 4 = nI A := by
  obtain ⟨tn, tb, rc, R, B, Bi, im, ⟨-, -, ⟨-, -, b3, ⟨np, b4, b5, -⟩, -⟩, -⟩, -, ⟨-, -, ob, -⟩⟩ := h
  exact ⟨np, bA B, b4, ob.2.2.2.2.2.1, b5, b3⟩
/-- what a call of the class and of the reference have in common then -/
def AQ (Y : jP) (T0 : jT) (r : Option (jS × Int32)) (v : Option jV) (μ1 : jMem) : Prop := ∃ S1 T1 X1 x, v = some (vi x) ∧ μ1 = ((S1, T1), Y) ∧ r = some (X1, x) ∧ INV S1 T1 X1 ∧ GL T1 ∧ T1.2.2.2.1 0 = T0.2.2.2.1 0
theorem ret10_round {S : jS} {T : jT} {X : jS} {Y : jP} (hG : GL T) (h : INV S T X) : RetQ M10_round 6 7 55 [rc 0] ((S, T), Y) (AQ Y T (f11_round X)) := by
  have hT := hG.1
  obtain ⟨np, A, n1, n2, n3, n4⟩ := h.np
  obtain ⟨c, c1, c2, c3⟩ := k_round h
  refine RetQ.of (by decide +kernel) (Nat.le_of_ble_eq_true rfl) ?_
  show Go _ _ _ _ 7 55 0 [(0, rc 0)] [] ((S, T), Y) _
  refine go_blk rfl [(.aload_n 0, 1, 0, 0, 0, .inl 0), (.getfield 45, 3, 10, 5, 1, .inl 0), (.getfield 102, 3, 0, 1, 1, .inl 0)] 0 7 _ _ _ (by decide +kernel) ?_
  refine And.intro (lc_t0 hT) (Exists.intro _ (And.intro (gRc (lc_r10_5 hT)) ?_))
  refine And.intro (lc_b100 hT).1 (Exists.intro _ (And.intro (gRc (lc_b100 hT).2.2.1.1) ?_))
  show Go _ _ _ _ 7 55 7 [(0, rc 0)] [rc (100 + 8)] ((S, T), Y) _
  refine go_callV (idx := 154) (z := 1) (M' := M4_isTold) (n := 0) (A := []) (v' := some (vi c)) (μ' := ((S, T), Y)) (d' := 1) (mc' := 0) (ms' := 0) (kc' := 7) (ks' := 55) (ci := 4) (x := .inl (100 + 8)) (by decide +kernel) ml_10_154 rfl wv4_isTold rfl (by decide) rfl ((lc_b100 hT).2.2.1.2).1 (ret4_isTold ((lc_b100 hT).2.2.1.2) c1) (by decide) rfl rfl (Nat.le_of_ble_eq_true rfl) rfl (jag rfl rfl) ?_
  show Go _ _ _ _ 7 55 10 [(0, rc 0)] [vi c] ((S, T), Y) _
  have out : (c = 0 ∨ 999 ≤ S.1 (100 + 8) 5) → Go M10_round 6 7 55 7 55 29 [(0, rc 0)] [] ((S, T), Y) (AQ Y T (f11_round X)) := by
    intro z
    refine go_blk rfl [(.iconst (-1), 1, 0, 0, 0, .inl (-1))] 29 30 _ _ _ (by decide +kernel) ?_
    show Go _ _ _ _ 7 55 30 [(0, rc 0)] [vi (-1)] ((S, T), Y) _
    exact go_ireturn (by decide +kernel) rfl rfl ⟨S, T, X, -1, rfl, rfl, c2 z, h, hG, rfl⟩
  by_cases q1 : c = 0
  · exact go_if_eq (off := 19) (tgt := 29) (by decide +kernel) (by decide) (fun _ => out (Or.inl q1)) (fun z => absurd q1 z)
  · refine go_if_eq (off := 19) (tgt := 29) (by decide +kernel) (by decide) (fun z => absurd z q1) (fun _ => ?_)
    show Go _ _ _ _ 7 55 13 [(0, rc 0)] [] ((S, T), Y) _
    refine go_blk rfl [(.aload_n 0, 1, 0, 0, 0, .inl 0), (.getfield 45, 3, 10, 5, 1, .inl 0), (.getfield 102, 3, 0, 1, 1, .inl 0), (.getfield 158, 3, 4, 5, 0, .inl 0), (.sipush 999, 3, 0, 0, 0, .inl 999)] 13 26 _ _ _ (by decide +kernel) ?_
    refine And.intro (lc_t0 hT) (Exists.intro _ (And.intro (gRc (lc_r10_5 hT)) ?_))
    refine And.intro (lc_b100 hT).1 (Exists.intro _ (And.intro (gRc (lc_b100 hT).2.2.1.1) ?_))
    refine And.intro ((lc_b100 hT).2.2.1.2).1 ?_
    show Go _ _ _ _ 7 55 26 [(0, rc 0)] [vi 999, vi (S.1 (100 + 8) 5)] ((S, T), Y) _
    by_cases q2 : S.1 (100 + 8) 5 < 999
    · refine go_icmp_lt (off := 5) (tgt := 31) (by decide +kernel) (by decide) (fun _ => ?_) (fun z => absurd q2 z)
      have nn : ¬ (c = 0 ∨ 999 ≤ S.1 (100 + 8) 5) := by
        rintro (z | z)
        · exact q1 z
        · grind
      refine go_blk rfl [(.aload_n 0, 1, 0, 0, 0, .inl 0), (.getfield 45, 3, 10, 5, 1, .inl 0)] 31 35 _ _ _ (by decide +kernel) ?_
      refine And.intro (lc_t0 hT) (Exists.intro _ (And.intro (gRc (lc_r10_5 hT)) ?_))
      show Go _ _ _ _ 7 55 35 [(0, rc 0)] [rc 100] ((S, T), Y) _
      refine go_callVQ (idx := 161) (z := 1) (M' := M0_remember) (n := 0) (A := []) (d' := 4) (mc' := 7) (ms' := 55) (kc' := 0) (ks' := 0) (ci := 0) (x := .inl 100) (by decide +kernel) ml_10_161 rfl wv0_remember rfl (by decide) rfl (lc_b100 hT).1 (ret0_remember hG.2.2.1.1 n1 n2 n3 n4) (by decide) (by decide) (by decide) (Nat.le_of_ble_eq_true rfl) rfl (fun v2 μ2 g => by obtain ⟨rfl, S9, T9, rfl, g1, g2⟩ := g; intro adK; refine ⟨rfl, ?_⟩; simp [jlv, jcvc, jcvm, jcvi, (g2.1 0 (by omega) (by omega) (by omega)).2.2.1]) (fun v2 μ2 g => ?_)
      obtain ⟨rfl, S1, T1, rfl, g1, g2⟩ := g
      have hG1 : GL T1 := hG.rem (S := S) (S1 := S1) n1 g2
      have a0 : T1.2.2.2.1 0 = T.2.2.2.1 0 := (g2.1 0 (by omega) (by omega) (by omega)).2.2.1
      have hT1 := hG1.1
      obtain ⟨q, S2, X2, w, k1, k2, k3, k4⟩ := c3 nn S1 T1 g1
      show Go _ _ _ _ 0 0 38 [(0, rc 0)] [] ((S1, T1), Y) _
      refine go_blk rfl [(.aload_n 0, 1, 0, 0, 0, .inl 0), (.getfield 56, 3, 10, 7, 1, .inl 0), (.aload_n 0, 1, 0, 0, 0, .inl 0), (.getfield 45, 3, 10, 5, 1, .inl 0), (.getfield 102, 3, 0, 1, 1, .inl 0), (.aload_n 0, 1, 0, 0, 0, .inl 0)] 38 50 _ _ _ (by decide +kernel) ?_
      refine And.intro (lc_t0 hT1) (Exists.intro _ (And.intro (gRc (lc_r10_7 hT1)) ?_))
      refine And.intro (lc_t0 hT1) (Exists.intro _ (And.intro (gRc (lc_r10_5 hT1)) ?_))
      refine And.intro (lc_b100 hT1).1 (Exists.intro _ (And.intro (gRc (lc_b100 hT1).2.2.1.1) ?_))
      show Go _ _ _ _ 0 0 50 [(0, rc 0)] [rc 0, rc (100 + 8), rc 17] ((S1, T1), Y) _
      refine go_callV (idx := 164) (z := 0) (M' := M10_ruleInForce) (n := 0) (A := []) (v' := some (vo q)) (μ' := ((S1, T1), Y)) (d' := 2) (mc' := 0) (ms' := 0) (kc' := 0) (ks' := 0) (ci := 10) (x := .inl 0) (by decide +kernel) ml_10_164 rfl wv10_ruleInForce rfl (by decide) rfl (lc_t0 hT1) (ret10_ruleInForce hT1 k1) (by decide) rfl rfl (Nat.le_of_ble_eq_true rfl) rfl (jag rfl rfl) ?_
      show Go _ _ _ _ 0 0 53 [(0, rc 0)] [vo q, rc (100 + 8), rc 17] ((S1, T1), Y) _
      refine go_callV (idx := 167) (z := 1) (M' := M3_roundBy) (n := 2) (A := [rc (100 + 8), vo q]) (v' := some (vi w)) (μ' := ((S2, T1), Y)) (d' := 5) (mc' := 0) (ms' := 0) (kc' := 0) (ks' := 0) (ci := 3) (x := .inl 17) (by decide +kernel) ml_10_167 rfl wv3_roundBy rfl (by decide) rfl (lc_t17 hT1) (ret3_roundBy hT1 ((lc_b100 hT1).2.2.1.2) (f10_ruleInForce_lay hT1 k1) k2) (by decide) rfl rfl (Nat.le_of_ble_eq_true rfl) rfl (jag rfl rfl) ?_
      show Go _ _ _ _ 0 0 56 [(0, rc 0)] [vi w] ((S2, T1), Y) _
      refine go_blk rfl [(.pop, 1, 0, 0, 0, .inl 0), (.aload_n 0, 1, 0, 0, 0, .inl 0), (.getfield 45, 3, 10, 5, 1, .inl 0), (.getfield 102, 3, 0, 1, 1, .inl 0), (.getfield 171, 3, 4, 7, 0, .inl 0)] 56 67 _ _ _ (by decide +kernel) ?_
      refine And.intro (lc_t0 hT1) (Exists.intro _ (And.intro (gRc (lc_r10_5 hT1)) ?_))
      refine And.intro (lc_b100 hT1).1 (Exists.intro _ (And.intro (gRc (lc_b100 hT1).2.2.1.1) ?_))
      refine And.intro ((lc_b100 hT1).2.2.1.2).1 ?_
      show Go _ _ _ _ 0 0 67 [(0, rc 0)] [vi (S2.1 (100 + 8) 7)] ((S2, T1), Y) _
      exact go_ireturn (by decide +kernel) rfl rfl ⟨S2, T1, X2, _, rfl, rfl, k3, k4, hG1, a0⟩
    · exact go_icmp_lt (off := 5) (tgt := 31) (by decide +kernel) (by decide) (fun z => absurd z q2) (fun _ => out (Or.inr (by grind)))
