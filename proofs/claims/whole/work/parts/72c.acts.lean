/-! pace, as a method -/
theorem ret10_pace {S : jS} {T : jT} {X : jS} {Y : jP} {a0 a1 : Int32} (hG : GL T) (h : INV S T X) : RetQ M10_pace 5 7 55 [rc 0, vi a0, vi a1] ((S, T), Y) (AQ Y T (f11_pace X a0 a1)) := by
  have hT := hG.1
  obtain ⟨np, A, n1, n2, n3, n4⟩ := h.np
  refine RetQ.of (by decide +kernel) (Nat.le_of_ble_eq_true rfl) ?_
  show Go _ _ _ _ 7 55 0 [(0, rc 0), (1, vi a0), (2, vi a1)] [] ((S, T), Y) _
  refine go_blk rfl [(.aload_n 0, 1, 0, 0, 0, .inl 0), (.getfield 45, 3, 10, 5, 1, .inl 0), (.getfield 102, 3, 0, 1, 1, .inl 0), (.astore_n 3, 1, 3, 0, 0, .inl 0), (.aload_n 3, 1, 3, 0, 0, .inl 0), (.iload_n 1, 1, 1, 0, 0, .inl 0)] 0 10 _ _ _ (by decide +kernel) ?_
  refine And.intro (lc_t0 hT) (Exists.intro _ (And.intro (gRc (lc_r10_5 hT)) ?_))
  refine And.intro (lc_b100 hT).1 (Exists.intro _ (And.intro (gRc (lc_b100 hT).2.2.1.1) ?_))
  show Go _ _ _ _ 7 55 10 [(3, rc (100 + 8)), (0, rc 0), (1, vi a0), (2, vi a1)] [vi a0, rc (100 + 8)] ((S, T), Y) _
  have out : f11_pace X a0 a1 = some (X, -1) → Go M10_pace 5 7 55 7 55 36 [(3, rc (100 + 8)), (0, rc 0), (1, vi a0), (2, vi a1)] [] ((S, T), Y) (AQ Y T (f11_pace X a0 a1)) := by
    intro z
    refine go_blk rfl [(.iconst (-1), 1, 0, 0, 0, .inl (-1))] 36 37 _ _ _ (by decide +kernel) ?_
    show Go _ _ _ _ 7 55 37 [(3, rc (100 + 8)), (0, rc 0), (1, vi a0), (2, vi a1)] [vi (-1)] ((S, T), Y) _
    exact go_ireturn (by decide +kernel) rfl rfl ⟨S, T, X, -1, rfl, rfl, z, h, hG, rfl⟩
  rcases k_pace h a0 a1 with ⟨c1, c2⟩ | ⟨g, hg, rfl, c1, c2, c3⟩
  · skip
    refine go_callV (idx := 129) (z := 1) (M' := M4_hasGuest) (n := 1) (A := [vi a0]) (v' := some (vi 0)) (μ' := ((S, T), Y)) (d' := 1) (mc' := 0) (ms' := 0) (kc' := 7) (ks' := 55) (ci := 4) (x := .inl (100 + 8)) (by decide +kernel) ml_10_129 rfl wv4_hasGuest rfl (by decide) rfl ((lc_b100 hT).2.2.1.2).1 (ret4_hasGuest ((lc_b100 hT).2.2.1.2) c1) (by decide) rfl rfl (Nat.le_of_ble_eq_true rfl) rfl (jag rfl rfl) ?_
    show Go _ _ _ _ 7 55 13 [(3, rc (100 + 8)), (0, rc 0), (1, vi a0), (2, vi a1)] [vi 0] ((S, T), Y) _
    exact go_if_eq (off := 23) (tgt := 36) (by decide +kernel) (by decide) (fun _ => out c2) (fun z => absurd rfl z)
  · have eg : (nI g).toNatClampNeg = g := nI_clamp (by omega)
    have ig : inb (nI g) 7 = true := by rw [inb_n (by omega)]; simpa using hg
    refine go_callV (idx := 129) (z := 1) (M' := M4_hasGuest) (n := 1) (A := [vi (nI g)]) (v' := some (vi 1)) (μ' := ((S, T), Y)) (d' := 1) (mc' := 0) (ms' := 0) (kc' := 7) (ks' := 55) (ci := 4) (x := .inl (100 + 8)) (by decide +kernel) ml_10_129 rfl wv4_hasGuest rfl (by decide) rfl ((lc_b100 hT).2.2.1.2).1 (ret4_hasGuest ((lc_b100 hT).2.2.1.2) c1) (by decide) rfl rfl (Nat.le_of_ble_eq_true rfl) rfl (jag rfl rfl) ?_
    show Go _ _ _ _ 7 55 13 [(3, rc (100 + 8)), (0, rc 0), (1, vi (nI g)), (2, vi a1)] [vi 1] ((S, T), Y) _
    refine go_if_eq (off := 23) (tgt := 36) (by decide +kernel) (by decide) (fun z => absurd z one_ne0) (fun _ => ?_)
    refine go_blk rfl [(.iload_n 2, 1, 2, 0, 0, .inl 0)] 16 17 _ _ _ (by decide +kernel) ?_
    show Go _ _ _ _ 7 55 17 [(3, rc (100 + 8)), (0, rc 0), (1, vi (nI g)), (2, vi a1)] [vi a1] ((S, T), Y) _
    by_cases q1 : a1 < 0
    · exact go_if_lt (off := 19) (tgt := 36) (by decide +kernel) (by decide) (fun _ => out (c2 (Or.inl q1))) (fun z => absurd q1 z)
    · refine go_if_lt (off := 19) (tgt := 36) (by decide +kernel) (by decide) (fun z => absurd z q1) (fun _ => ?_)
      refine go_blk rfl [(.iload_n 2, 1, 2, 0, 0, .inl 0), (.bipush 6, 2, 0, 0, 0, .inl 6)] 20 23 _ _ _ (by decide +kernel) ?_
      show Go _ _ _ _ 7 55 23 [(3, rc (100 + 8)), (0, rc 0), (1, vi (nI g)), (2, vi a1)] [vi 6, vi a1] ((S, T), Y) _
      by_cases q2 : 6 ≤ a1
      · exact go_icmp_ge (off := 13) (tgt := 36) (by decide +kernel) (by decide) (fun _ => out (c2 (Or.inr (Or.inl q2)))) (fun z => absurd q2 z)
      · refine go_icmp_ge (off := 13) (tgt := 36) (by decide +kernel) (by decide) (fun z => absurd z q2) (fun _ => ?_)
        refine go_blk rfl [(.iload_n 2, 1, 2, 0, 0, .inl 0), (.aload_n 3, 1, 3, 0, 0, .inl 0), (.getfield 135, 3, 4, 10, 1, .inl 0), (.iload_n 1, 1, 1, 0, 0, .inl 0), (.iaload, 1, 20, 0, 0, .inl 0)] 26 33 _ _ _ (by decide +kernel) ?_
        refine And.intro ((lc_b100 hT).2.2.1.2).1 (Exists.intro _ (And.intro (gRc ((lc_b100 hT).2.2.1.2).2.2.2.1.1) ?_))
        refine And.intro ((lc_b100 hT).2.2.1.2).2.2.2.1.2.1 (Exists.intro _ (And.intro ((lc_b100 hT).2.2.1.2).2.2.2.1.2.2 (And.intro (inb_in ig) ?_)))
        show Go _ _ _ _ 7 55 33 [(3, rc (100 + 8)), (0, rc 0), (1, vi (nI g)), (2, vi a1)] [vi (S.1 111 (nI g).toNatClampNeg), vi a1] ((S, T), Y) _
        rw [eg]
        by_cases q3 : a1 = S.1 111 g
        · exact go_icmp_ne (off := 5) (tgt := 38) (by decide +kernel) (by decide) (fun z => absurd q3 z) (fun _ => out (c2 (Or.inr (Or.inr q3))))
        · refine go_icmp_ne (off := 5) (tgt := 38) (by decide +kernel) (by decide) (fun _ => ?_) (fun z => absurd z q3)
          have nn : ¬ (a1 < 0 ∨ 6 ≤ a1 ∨ a1 = S.1 111 g) := by
            rintro (z | z | z)
            · exact q1 z
            · exact q2 z
            · exact q3 z
          refine go_blk rfl [(.aload_n 0, 1, 0, 0, 0, .inl 0), (.getfield 45, 3, 10, 5, 1, .inl 0)] 38 42 _ _ _ (by decide +kernel) ?_
          refine And.intro (lc_t0 hT) (Exists.intro _ (And.intro (gRc (lc_r10_5 hT)) ?_))
          show Go _ _ _ _ 7 55 42 [(3, rc (100 + 8)), (0, rc 0), (1, vi (nI g)), (2, vi a1)] [rc 100] ((S, T), Y) _
          refine go_callVQ (idx := 161) (z := 1) (M' := M0_remember) (n := 0) (A := []) (d' := 4) (mc' := 7) (ms' := 55) (kc' := 0) (ks' := 0) (ci := 0) (x := .inl 100) (by decide +kernel) ml_10_161 rfl wv0_remember rfl (by decide) rfl (lc_b100 hT).1 (ret0_remember hG.2.2.1.1 n1 n2 n3 n4) (by decide) (by decide) (by decide) (Nat.le_of_ble_eq_true rfl) rfl (fun v2 μ2 g => by obtain ⟨rfl, S9, T9, rfl, g1, g2⟩ := g; intro adK; refine ⟨rfl, ?_⟩; simp [jlv, jcvc, jcvm, jcvi, (g2.1 0 (by omega) (by omega) (by omega)).2.2.1, (g2.1 108 (by omega) (by omega) (by omega)).2.2.1]) (fun v2 μ2 g => ?_)
          obtain ⟨rfl, S1, T1, rfl, g1, g2⟩ := g
          have hG1 : GL T1 := hG.rem (S := S) (S1 := S1) n1 g2
          have a0' : T1.2.2.2.1 0 = T.2.2.2.1 0 := (g2.1 0 (by omega) (by omega) (by omega)).2.2.1
          have hT1 := hG1.1
          obtain ⟨X2, k1, k2⟩ := c3 nn S1 T1 g1
          show Go _ _ _ _ 0 0 45 [(3, rc (100 + 8)), (0, rc 0), (1, vi (nI g)), (2, vi a1)] [] ((S1, T1), Y) _
          refine go_blk rfl [(.aload_n 3, 1, 3, 0, 0, .inl 0), (.getfield 135, 3, 4, 10, 1, .inl 0), (.iload_n 1, 1, 1, 0, 0, .inl 0), (.iaload, 1, 20, 0, 0, .inl 0), (.istore 4, 2, 4, 0, 0, .inl 0)] 45 53 _ _ _ (by decide +kernel) ?_
          refine And.intro ((lc_b100 hT1).2.2.1.2).1 (Exists.intro _ (And.intro (gRc ((lc_b100 hT1).2.2.1.2).2.2.2.1.1) ?_))
          refine And.intro ((lc_b100 hT1).2.2.1.2).2.2.2.1.2.1 (Exists.intro _ (And.intro ((lc_b100 hT1).2.2.1.2).2.2.2.1.2.2 (And.intro (inb_in ig) ?_)))
          show Go _ _ _ _ 0 0 53 [(4, vi (S1.1 111 (nI g).toNatClampNeg)), (3, rc (100 + 8)), (0, rc 0), (1, vi (nI g)), (2, vi a1)] [] ((S1, T1), Y) _
          refine go_blk rfl [(.aload_n 3, 1, 3, 0, 0, .inl 0), (.getfield 135, 3, 4, 10, 1, .inl 0), (.iload_n 1, 1, 1, 0, 0, .inl 0), (.iload_n 2, 1, 2, 0, 0, .inl 0), (.iastore, 1, 20, 0, 0, .inl 0)] 53 60 _ _ _ (by decide +kernel) ?_
          refine And.intro ((lc_b100 hT1).2.2.1.2).1 (Exists.intro _ (And.intro (gRc ((lc_b100 hT1).2.2.1.2).2.2.2.1.1) ?_))
          refine And.intro ((lc_b100 hT1).2.2.1.2).2.2.2.1.2.1 (Exists.intro _ (And.intro ((lc_b100 hT1).2.2.1.2).2.2.2.1.2.2 (And.intro (inb_in ig) ?_)))
          show Go _ _ _ _ 0 0 60 [(4, vi (S1.1 111 (nI g).toNatClampNeg)), (3, rc (100 + 8)), (0, rc 0), (1, vi (nI g)), (2, vi a1)] [] ((wI S1 111 (nI g).toNatClampNeg a1, T1), Y) _
          rw [eg]
          refine go_blk rfl [(.iload 4, 2, 4, 0, 0, .inl 0)] 60 62 _ _ _ (by decide +kernel) ?_
          show Go _ _ _ _ 0 0 62 [(4, vi (S1.1 111 g)), (3, rc (100 + 8)), (0, rc 0), (1, vi (nI g)), (2, vi a1)] [vi (S1.1 111 g)] ((wI S1 111 g a1, T1), Y) _
          exact go_ireturn (by decide +kernel) rfl rfl ⟨_, T1, X2, _, rfl, rfl, k1, k2, hG1, a0'⟩
