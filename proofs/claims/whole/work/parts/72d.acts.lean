/-! bring, as a method -/
theorem ret10_bring {S : jS} {T : jT} {X : jS} {Y : jP} {a0 : Int32} (hG : GL T) (h : INV S T X) : RetQ M10_bring 5 7 55 [rc 0, vi a0] ((S, T), Y) (AQ Y T (f11_bring X a0)) := by
  have hT := hG.1
  obtain ⟨np, A, n1, n2, n3, n4⟩ := h.np
  refine RetQ.of (by decide +kernel) (Nat.le_of_ble_eq_true rfl) ?_
  show Go _ _ _ _ 7 55 0 [(0, rc 0), (1, vi a0)] [] ((S, T), Y) _
  refine go_blk rfl [(.aload_n 0, 1, 0, 0, 0, .inl 0), (.getfield 45, 3, 10, 5, 1, .inl 0), (.getfield 102, 3, 0, 1, 1, .inl 0), (.astore_n 2, 1, 2, 0, 0, .inl 0), (.aload_n 2, 1, 2, 0, 0, .inl 0), (.iload_n 1, 1, 1, 0, 0, .inl 0)] 0 10 _ _ _ (by decide +kernel) ?_
  refine And.intro (lc_t0 hT) (Exists.intro _ (And.intro (gRc (lc_r10_5 hT)) ?_))
  refine And.intro (lc_b100 hT).1 (Exists.intro _ (And.intro (gRc (lc_b100 hT).2.2.1.1) ?_))
  show Go _ _ _ _ 7 55 10 [(2, rc (100 + 8)), (0, rc 0), (1, vi a0)] [vi a0, rc (100 + 8)] ((S, T), Y) _
  have out : f11_bring X a0 = some (X, -1) → Go M10_bring 5 7 55 7 55 24 [(2, rc (100 + 8)), (0, rc 0), (1, vi a0)] [] ((S, T), Y) (AQ Y T (f11_bring X a0)) := by
    intro z
    refine go_blk rfl [(.iconst (-1), 1, 0, 0, 0, .inl (-1))] 24 25 _ _ _ (by decide +kernel) ?_
    show Go _ _ _ _ 7 55 25 [(2, rc (100 + 8)), (0, rc 0), (1, vi a0)] [vi (-1)] ((S, T), Y) _
    exact go_ireturn (by decide +kernel) rfl rfl ⟨S, T, X, -1, rfl, rfl, z, h, hG, rfl⟩
  rcases k_bring h a0 with ⟨c1, c2⟩ | ⟨c1, c, c2, c3, c4⟩
  · skip
    refine go_callV (idx := 118) (z := 1) (M' := M4_hasChair) (n := 1) (A := [vi a0]) (v' := some (vi 0)) (μ' := ((S, T), Y)) (d' := 1) (mc' := 0) (ms' := 0) (kc' := 7) (ks' := 55) (ci := 4) (x := .inl (100 + 8)) (by decide +kernel) ml_10_118 rfl wv4_hasChair rfl (by decide) rfl ((lc_b100 hT).2.2.1.2).1 (ret4_hasChair ((lc_b100 hT).2.2.1.2) c1) (by decide) rfl rfl (Nat.le_of_ble_eq_true rfl) rfl (jag rfl rfl) ?_
    show Go _ _ _ _ 7 55 13 [(2, rc (100 + 8)), (0, rc 0), (1, vi a0)] [vi 0] ((S, T), Y) _
    exact go_if_eq (off := 11) (tgt := 24) (by decide +kernel) (by decide) (fun _ => out c2) (fun z => absurd rfl z)
  · skip
    refine go_callV (idx := 118) (z := 1) (M' := M4_hasChair) (n := 1) (A := [vi a0]) (v' := some (vi 1)) (μ' := ((S, T), Y)) (d' := 1) (mc' := 0) (ms' := 0) (kc' := 7) (ks' := 55) (ci := 4) (x := .inl (100 + 8)) (by decide +kernel) ml_10_118 rfl wv4_hasChair rfl (by decide) rfl ((lc_b100 hT).2.2.1.2).1 (ret4_hasChair ((lc_b100 hT).2.2.1.2) c1) (by decide) rfl rfl (Nat.le_of_ble_eq_true rfl) rfl (jag rfl rfl) ?_
    show Go _ _ _ _ 7 55 13 [(2, rc (100 + 8)), (0, rc 0), (1, vi a0)] [vi 1] ((S, T), Y) _
    refine go_if_eq (off := 11) (tgt := 24) (by decide +kernel) (by decide) (fun z => absurd z one_ne0) (fun _ => ?_)
    refine go_blk rfl [(.aload_n 2, 1, 2, 0, 0, .inl 0), (.iload_n 1, 1, 1, 0, 0, .inl 0)] 16 18 _ _ _ (by decide +kernel) ?_
    show Go _ _ _ _ 7 55 18 [(2, rc (100 + 8)), (0, rc 0), (1, vi a0)] [vi a0, rc (100 + 8)] ((S, T), Y) _
    refine go_callV (idx := 185) (z := 1) (M' := M4_isThere) (n := 1) (A := [vi a0]) (v' := some (vi c)) (μ' := ((S, T), Y)) (d' := 2) (mc' := 0) (ms' := 0) (kc' := 7) (ks' := 55) (ci := 4) (x := .inl (100 + 8)) (by decide +kernel) ml_10_185 rfl wv4_isThere rfl (by decide) rfl ((lc_b100 hT).2.2.1.2).1 (ret4_isThere ((lc_b100 hT).2.2.1.2) c2) (by decide) rfl rfl (Nat.le_of_ble_eq_true rfl) rfl (jag rfl rfl) ?_
    show Go _ _ _ _ 7 55 21 [(2, rc (100 + 8)), (0, rc 0), (1, vi a0)] [vi c] ((S, T), Y) _
    by_cases q1 : c = 0
    · refine go_if_eq (off := 5) (tgt := 26) (by decide +kernel) (by decide) (fun _ => ?_) (fun z => absurd q1 z)
      refine go_blk rfl [(.aload_n 0, 1, 0, 0, 0, .inl 0), (.getfield 45, 3, 10, 5, 1, .inl 0)] 26 30 _ _ _ (by decide +kernel) ?_
      refine And.intro (lc_t0 hT) (Exists.intro _ (And.intro (gRc (lc_r10_5 hT)) ?_))
      show Go _ _ _ _ 7 55 30 [(2, rc (100 + 8)), (0, rc 0), (1, vi a0)] [rc 100] ((S, T), Y) _
      refine go_callVQ (idx := 161) (z := 1) (M' := M0_remember) (n := 0) (A := []) (d' := 4) (mc' := 7) (ms' := 55) (kc' := 0) (ks' := 0) (ci := 0) (x := .inl 100) (by decide +kernel) ml_10_161 rfl wv0_remember rfl (by decide) rfl (lc_b100 hT).1 (ret0_remember hG.2.2.1.1 n1 n2 n3 n4) (by decide) (by decide) (by decide) (Nat.le_of_ble_eq_true rfl) rfl (fun v2 μ2 g => by obtain ⟨rfl, S9, T9, rfl, g1, g2⟩ := g; intro adK; refine ⟨rfl, ?_⟩; simp [jlv, jcvc, jcvm, jcvi, (g2.1 0 (by omega) (by omega) (by omega)).2.2.1, (g2.1 108 (by omega) (by omega) (by omega)).2.2.1]) (fun v2 μ2 g => ?_)
      obtain ⟨rfl, S1, T1, rfl, g1, g2⟩ := g
      have hG1 : GL T1 := hG.rem (S := S) (S1 := S1) n1 g2
      have a0' : T1.2.2.2.1 0 = T.2.2.2.1 0 := (g2.1 0 (by omega) (by omega) (by omega)).2.2.1
      have hT1 := hG1.1
      obtain ⟨X2, v, k1, k2, k3⟩ := c4 q1 S1 T1 g1
      show Go _ _ _ _ 0 0 33 [(2, rc (100 + 8)), (0, rc 0), (1, vi a0)] [] ((S1, T1), Y) _
      refine go_blk rfl [(.aload_n 2, 1, 2, 0, 0, .inl 0), (.dup, 1, 0, 0, 0, .inl 0), (.getfield 126, 3, 4, 3, 0, .inl 0), (.iconst 1, 1, 0, 0, 0, .inl 1), (.iload_n 1, 1, 1, 0, 0, .inl 0), (.ishl, 1, 0, 0, 0, .inl 0), (.ior, 1, 0, 0, 0, .inl 0), (.putfield 126, 3, 4, 3, 0, .inl 0)] 33 45 _ _ _ (by decide +kernel) ?_
      refine And.intro ((lc_b100 hT1).2.2.1.2).1 ?_
      refine And.intro ((lc_b100 hT1).2.2.1.2).1 (And.intro trivial ?_)
      show Go _ _ _ _ 0 0 45 [(2, rc (100 + 8)), (0, rc 0), (1, vi a0)] [] ((wI S1 (100 + 8) 3 (S1.1 (100 + 8) 3 ||| ((1 : Int32) <<< (a0 &&& 31))), T1), Y) _
      refine go_blk rfl [(.aload_n 2, 1, 2, 0, 0, .inl 0), (.getfield 126, 3, 4, 3, 0, .inl 0)] 45 49 _ _ _ (by decide +kernel) ?_
      refine And.intro ((lc_b100 hT1).2.2.1.2).1 ?_
      show Go _ _ _ _ 0 0 49 [(2, rc (100 + 8)), (0, rc 0), (1, vi a0)] [vi ((wI S1 (100 + 8) 3 (S1.1 (100 + 8) 3 ||| ((1 : Int32) <<< (a0 &&& 31)))).1 (100 + 8) 3)] ((wI S1 (100 + 8) 3 (S1.1 (100 + 8) 3 ||| ((1 : Int32) <<< (a0 &&& 31))), T1), Y) _
      rw [wI_self]
      refine go_callS (idx := 188) (z := 0) (M' := M13_bitCount) (n := 1) (A := [vi (S1.1 (100 + 8) 3 ||| ((1 : Int32) <<< (a0 &&& 31)))]) (v' := some (vi v)) (μ' := ((wI S1 (100 + 8) 3 (S1.1 (100 + 8) 3 ||| ((1 : Int32) <<< (a0 &&& 31))), T1), Y)) (d' := 1) (mc' := 0) (ms' := 0) (kc' := 0) (ks' := 0) (by decide +kernel) ml_10_188 rfl ws13_bitCount rfl (ret13_bitCount k2) (by decide) rfl rfl (Nat.le_of_ble_eq_true rfl) rfl (jag rfl rfl) ?_
      show Go _ _ _ _ 0 0 52 [(2, rc (100 + 8)), (0, rc 0), (1, vi a0)] [vi v] ((wI S1 (100 + 8) 3 (S1.1 (100 + 8) 3 ||| ((1 : Int32) <<< (a0 &&& 31))), T1), Y) _
      exact go_ireturn (by decide +kernel) rfl rfl ⟨_, T1, X2, _, rfl, rfl, k1, k3, hG1, a0'⟩
    · exact go_if_eq (off := 5) (tgt := 26) (by decide +kernel) (by decide) (fun z => absurd z q1) (fun _ => out (c3 q1))
