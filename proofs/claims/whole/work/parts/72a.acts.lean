/-! play, swap, pace, as methods (written by mk72.py) -/
theorem ret10_play {S : jS} {T : jT} {X : jS} {Y : jP} {a0 : Int32} (hG : GL T) (h : INV S T X) : RetQ M10_play 6 7 55 [rc 0, vi a0] ((S, T), Y) (AQ Y T (f11_play X a0)) := by
  have hT := hG.1
  obtain ⟨np, A, n1, n2, n3, n4⟩ := h.np
  obtain ⟨c, c1, c2, c3⟩ := k_play h a0
  refine RetQ.of (by decide +kernel) (Nat.le_of_ble_eq_true rfl) ?_
  show Go _ _ _ _ 7 55 0 [(0, rc 0), (1, vi a0)] [] ((S, T), Y) _
  refine go_blk rfl [(.aload_n 0, 1, 0, 0, 0, .inl 0), (.getfield 45, 3, 10, 5, 1, .inl 0), (.getfield 102, 3, 0, 1, 1, .inl 0), (.astore_n 2, 1, 2, 0, 0, .inl 0), (.aload_n 2, 1, 2, 0, 0, .inl 0)] 0 9 _ _ _ (by decide +kernel) ?_
  refine And.intro (lc_t0 hT) (Exists.intro _ (And.intro (gRc (lc_r10_5 hT)) ?_))
  refine And.intro (lc_b100 hT).1 (Exists.intro _ (And.intro (gRc (lc_b100 hT).2.2.1.1) ?_))
  show Go _ _ _ _ 7 55 9 [(2, rc (100 + 8)), (0, rc 0), (1, vi a0)] [rc (100 + 8)] ((S, T), Y) _
  refine go_callV (idx := 174) (z := 1) (M' := M4_isOver) (n := 0) (A := []) (v' := some (vi c)) (μ' := ((S, T), Y)) (d' := 2) (mc' := 0) (ms' := 0) (kc' := 7) (ks' := 55) (ci := 4) (x := .inl (100 + 8)) (by decide +kernel) ml_10_174 rfl wv4_isOver rfl (by decide) rfl ((lc_b100 hT).2.2.1.2).1 (ret4_isOver ((lc_b100 hT).2.2.1.2) c1) (by decide) rfl rfl (Nat.le_of_ble_eq_true rfl) rfl (jag rfl rfl) ?_
  show Go _ _ _ _ 7 55 12 [(2, rc (100 + 8)), (0, rc 0), (1, vi a0)] [vi c] ((S, T), Y) _
  have out : (¬ c = 0 ∨ 999 ≤ S.1 (100 + 8) 5 ∨ a0 < 1 ∨ 60 < a0) → Go M10_play 6 7 55 7 55 36 [(2, rc (100 + 8)), (0, rc 0), (1, vi a0)] [] ((S, T), Y) (AQ Y T (f11_play X a0)) := by
    intro z
    refine go_blk rfl [(.iconst (-1), 1, 0, 0, 0, .inl (-1))] 36 37 _ _ _ (by decide +kernel) ?_
    show Go _ _ _ _ 7 55 37 [(2, rc (100 + 8)), (0, rc 0), (1, vi a0)] [vi (-1)] ((S, T), Y) _
    exact go_ireturn (by decide +kernel) rfl rfl ⟨S, T, X, -1, rfl, rfl, c2 z, h, hG, rfl⟩
  by_cases q1 : c = 0
  · refine go_if_ne (off := 24) (tgt := 36) (by decide +kernel) (by decide) (fun z => absurd q1 z) (fun _ => ?_)
    refine go_blk rfl [(.aload_n 2, 1, 2, 0, 0, .inl 0), (.getfield 158, 3, 4, 5, 0, .inl 0), (.sipush 999, 3, 0, 0, 0, .inl 999)] 15 22 _ _ _ (by decide +kernel) ?_
    refine And.intro ((lc_b100 hT).2.2.1.2).1 ?_
    show Go _ _ _ _ 7 55 22 [(2, rc (100 + 8)), (0, rc 0), (1, vi a0)] [vi 999, vi (S.1 (100 + 8) 5)] ((S, T), Y) _
    by_cases q2 : 999 ≤ S.1 (100 + 8) 5
    · exact go_icmp_ge (off := 14) (tgt := 36) (by decide +kernel) (by decide) (fun _ => out (Or.inr (Or.inl q2))) (fun z => absurd q2 z)
    · refine go_icmp_ge (off := 14) (tgt := 36) (by decide +kernel) (by decide) (fun z => absurd z q2) (fun _ => ?_)
      refine go_blk rfl [(.iload_n 1, 1, 1, 0, 0, .inl 0), (.iconst 1, 1, 0, 0, 0, .inl 1)] 25 27 _ _ _ (by decide +kernel) ?_
      show Go _ _ _ _ 7 55 27 [(2, rc (100 + 8)), (0, rc 0), (1, vi a0)] [vi 1, vi a0] ((S, T), Y) _
      by_cases q3 : a0 < 1
      · exact go_icmp_lt (off := 9) (tgt := 36) (by decide +kernel) (by decide) (fun _ => out (Or.inr (Or.inr (Or.inl q3)))) (fun z => absurd q3 z)
      · refine go_icmp_lt (off := 9) (tgt := 36) (by decide +kernel) (by decide) (fun z => absurd z q3) (fun _ => ?_)
        refine go_blk rfl [(.iload_n 1, 1, 1, 0, 0, .inl 0), (.bipush 60, 2, 0, 0, 0, .inl 60)] 30 33 _ _ _ (by decide +kernel) ?_
        show Go _ _ _ _ 7 55 33 [(2, rc (100 + 8)), (0, rc 0), (1, vi a0)] [vi 60, vi a0] ((S, T), Y) _
        by_cases q4 : a0 ≤ 60
        · refine go_icmp_le (off := 5) (tgt := 38) (by decide +kernel) (by decide) (fun _ => ?_) (fun z => absurd q4 z)
          have nn : ¬ (¬ c = 0 ∨ 999 ≤ S.1 (100 + 8) 5 ∨ a0 < 1 ∨ 60 < a0) := by
            rintro (z | z | z | z)
            · exact z q1
            · exact q2 z
            · exact q3 z
            · clear h c1 c2 c3 out; grind
          refine go_blk rfl [(.aload_n 0, 1, 0, 0, 0, .inl 0), (.getfield 45, 3, 10, 5, 1, .inl 0)] 38 42 _ _ _ (by decide +kernel) ?_
          refine And.intro (lc_t0 hT) (Exists.intro _ (And.intro (gRc (lc_r10_5 hT)) ?_))
          show Go _ _ _ _ 7 55 42 [(2, rc (100 + 8)), (0, rc 0), (1, vi a0)] [rc 100] ((S, T), Y) _
          refine go_callVQ (idx := 161) (z := 1) (M' := M0_remember) (n := 0) (A := []) (d' := 4) (mc' := 7) (ms' := 55) (kc' := 0) (ks' := 0) (ci := 0) (x := .inl 100) (by decide +kernel) ml_10_161 rfl wv0_remember rfl (by decide) rfl (lc_b100 hT).1 (ret0_remember hG.2.2.1.1 n1 n2 n3 n4) (by decide) (by decide) (by decide) (Nat.le_of_ble_eq_true rfl) rfl (fun v2 μ2 g => by obtain ⟨rfl, S9, T9, rfl, g1, g2⟩ := g; intro adK; refine ⟨rfl, ?_⟩; simp [jlv, jcvc, jcvm, jcvi, (g2.1 0 (by omega) (by omega) (by omega)).2.2.1, (g2.1 108 (by omega) (by omega) (by omega)).2.2.1]) (fun v2 μ2 g => ?_)
          obtain ⟨rfl, S1, T1, rfl, g1, g2⟩ := g
          have hG1 : GL T1 := hG.rem (S := S) (S1 := S1) n1 g2
          have a0' : T1.2.2.2.1 0 = T.2.2.2.1 0 := (g2.1 0 (by omega) (by omega) (by omega)).2.2.1
          have hT1 := hG1.1
          obtain ⟨S2, X2, w, k1, k2, k3⟩ := c3 nn S1 T1 g1
          show Go _ _ _ _ 0 0 45 [(2, rc (100 + 8)), (0, rc 0), (1, vi a0)] [] ((S1, T1), Y) _
          refine go_blk rfl [(.aload_n 0, 1, 0, 0, 0, .inl 0), (.getfield 56, 3, 10, 7, 1, .inl 0), (.aload_n 2, 1, 2, 0, 0, .inl 0), (.iload_n 1, 1, 1, 0, 0, .inl 0)] 45 51 _ _ _ (by decide +kernel) ?_
          refine And.intro (lc_t0 hT1) (Exists.intro _ (And.intro (gRc (lc_r10_7 hT1)) ?_))
          show Go _ _ _ _ 0 0 51 [(2, rc (100 + 8)), (0, rc 0), (1, vi a0)] [vi a0, rc (100 + 8), rc 17] ((S1, T1), Y) _
          refine go_callV (idx := 177) (z := 1) (M' := M3_roundOf) (n := 2) (A := [rc (100 + 8), vi a0]) (v' := some (vi w)) (μ' := ((S2, T1), Y)) (d' := 4) (mc' := 0) (ms' := 0) (kc' := 0) (ks' := 0) (ci := 3) (x := .inl 17) (by decide +kernel) ml_10_177 rfl wv3_roundOf rfl (by decide) rfl (lc_t17 hT1) (ret3_roundOf hT1 ((lc_b100 hT1).2.2.1.2) k1) (by decide) rfl rfl (Nat.le_of_ble_eq_true rfl) rfl (jag rfl rfl) ?_
          show Go _ _ _ _ 0 0 54 [(2, rc (100 + 8)), (0, rc 0), (1, vi a0)] [vi w] ((S2, T1), Y) _
          exact go_ireturn (by decide +kernel) rfl rfl ⟨S2, T1, X2, _, rfl, rfl, k2, k3, hG1, a0'⟩
        · exact go_icmp_le (off := 5) (tgt := 38) (by decide +kernel) (by decide) (fun z => absurd z q4) (fun _ => out (Or.inr (Or.inr (Or.inr (by clear h c1 c2 c3 out; grind)))))
  · exact go_if_ne (off := 24) (tgt := 36) (by decide +kernel) (by decide) (fun _ => out (Or.inl q1)) (fun z => absurd z q1)
