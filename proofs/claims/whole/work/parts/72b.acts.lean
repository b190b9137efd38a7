/-! swap, as a method -/
theorem ret10_swap {S : jS} {T : jT} {X : jS} {Y : jP} {a0 a1 : Int32} (hG : GL T) (h : INV S T X) : RetQ M10_swap 5 7 55 [rc 0, vi a0, vi a1] ((S, T), Y) (AQ Y T (f11_swap X a0 a1)) := by
  have hT := hG.1
  obtain ⟨np, A, n1, n2, n3, n4⟩ := h.np
  obtain ⟨c, c1, c2, c3⟩ := k_swap h a0 a1
  refine RetQ.of (by decide +kernel) (Nat.le_of_ble_eq_true rfl) ?_
  show Go _ _ _ _ 7 55 0 [(0, rc 0), (1, vi a0), (2, vi a1)] [] ((S, T), Y) _
  refine go_blk rfl [(.aload_n 0, 1, 0, 0, 0, .inl 0), (.getfield 45, 3, 10, 5, 1, .inl 0), (.getfield 102, 3, 0, 1, 1, .inl 0), (.astore_n 3, 1, 3, 0, 0, .inl 0), (.aload_n 3, 1, 3, 0, 0, .inl 0), (.iload_n 1, 1, 1, 0, 0, .inl 0), (.iload_n 2, 1, 2, 0, 0, .inl 0)] 0 11 _ _ _ (by decide +kernel) ?_
  refine And.intro (lc_t0 hT) (Exists.intro _ (And.intro (gRc (lc_r10_5 hT)) ?_))
  refine And.intro (lc_b100 hT).1 (Exists.intro _ (And.intro (gRc (lc_b100 hT).2.2.1.1) ?_))
  show Go _ _ _ _ 7 55 11 [(3, rc (100 + 8)), (0, rc 0), (1, vi a0), (2, vi a1)] [vi a1, vi a0, rc (100 + 8)] ((S, T), Y) _
  refine go_callV (idx := 181) (z := 1) (M' := M4_areTwoIn) (n := 2) (A := [vi a0, vi a1]) (v' := some (vi c)) (μ' := ((S, T), Y)) (d' := 3) (mc' := 0) (ms' := 0) (kc' := 7) (ks' := 55) (ci := 4) (x := .inl (100 + 8)) (by decide +kernel) ml_10_181 rfl wv4_areTwoIn rfl (by decide) rfl ((lc_b100 hT).2.2.1.2).1 (ret4_areTwoIn ((lc_b100 hT).2.2.1.2) c1) (by decide) rfl rfl (Nat.le_of_ble_eq_true rfl) rfl (jag rfl rfl) ?_
  show Go _ _ _ _ 7 55 14 [(3, rc (100 + 8)), (0, rc 0), (1, vi a0), (2, vi a1)] [vi c] ((S, T), Y) _
  by_cases q1 : c = 0
  · refine go_if_ne (off := 5) (tgt := 19) (by decide +kernel) (by decide) (fun z => absurd q1 z) (fun _ => ?_)
    refine go_blk rfl [(.iconst (-1), 1, 0, 0, 0, .inl (-1))] 17 18 _ _ _ (by decide +kernel) ?_
    show Go _ _ _ _ 7 55 18 [(3, rc (100 + 8)), (0, rc 0), (1, vi a0), (2, vi a1)] [vi (-1)] ((S, T), Y) _
    exact go_ireturn (by decide +kernel) rfl rfl ⟨S, T, X, -1, rfl, rfl, c2 q1, h, hG, rfl⟩
  · refine go_if_ne (off := 5) (tgt := 19) (by decide +kernel) (by decide) (fun _ => ?_) (fun z => absurd z q1)
    obtain ⟨g, p, hg, hp, rfl, rfl, c4⟩ := c3 q1
    have eg : (nI g).toNatClampNeg = g := nI_clamp (by omega)
    have ep : (nI p).toNatClampNeg = p := nI_clamp (by omega)
    have ig : inb (nI g) 7 = true := by rw [inb_n (by omega)]; simpa using hg
    have ip : inb (nI p) 7 = true := by rw [inb_n (by omega)]; simpa using hp
    refine go_blk rfl [(.aload_n 0, 1, 0, 0, 0, .inl 0), (.getfield 45, 3, 10, 5, 1, .inl 0)] 19 23 _ _ _ (by decide +kernel) ?_
    refine And.intro (lc_t0 hT) (Exists.intro _ (And.intro (gRc (lc_r10_5 hT)) ?_))
    show Go _ _ _ _ 7 55 23 [(3, rc (100 + 8)), (0, rc 0), (1, vi (nI g)), (2, vi (nI p))] [rc 100] ((S, T), Y) _
    refine go_callVQ (idx := 161) (z := 1) (M' := M0_remember) (n := 0) (A := []) (d' := 4) (mc' := 7) (ms' := 55) (kc' := 0) (ks' := 0) (ci := 0) (x := .inl 100) (by decide +kernel) ml_10_161 rfl wv0_remember rfl (by decide) rfl (lc_b100 hT).1 (ret0_remember hG.2.2.1.1 n1 n2 n3 n4) (by decide) (by decide) (by decide) (Nat.le_of_ble_eq_true rfl) rfl (fun v2 μ2 g => by obtain ⟨rfl, S9, T9, rfl, g1, g2⟩ := g; intro adK; refine ⟨rfl, ?_⟩; simp [jlv, jcvc, jcvm, jcvi, (g2.1 0 (by omega) (by omega) (by omega)).2.2.1, (g2.1 108 (by omega) (by omega) (by omega)).2.2.1]) (fun v2 μ2 g => ?_)
    obtain ⟨rfl, S1, T1, rfl, g1, g2⟩ := g
    have hG1 : GL T1 := hG.rem (S := S) (S1 := S1) n1 g2
    have a0' : T1.2.2.2.1 0 = T.2.2.2.1 0 := (g2.1 0 (by omega) (by omega) (by omega)).2.2.1
    have hT1 := hG1.1
    obtain ⟨X2, k1, k2⟩ := c4 S1 T1 g1
    show Go _ _ _ _ 0 0 26 [(3, rc (100 + 8)), (0, rc 0), (1, vi (nI g)), (2, vi (nI p))] [] ((S1, T1), Y) _
    refine go_blk rfl [(.aload_n 3, 1, 3, 0, 0, .inl 0), (.getfield 132, 3, 4, 9, 1, .inl 0), (.iload_n 1, 1, 1, 0, 0, .inl 0), (.iaload, 1, 20, 0, 0, .inl 0), (.istore 4, 2, 4, 0, 0, .inl 0)] 26 34 _ _ _ (by decide +kernel) ?_
    refine And.intro ((lc_b100 hT1).2.2.1.2).1 (Exists.intro _ (And.intro (gRc ((lc_b100 hT1).2.2.1.2).2.2.1.1) ?_))
    refine And.intro ((lc_b100 hT1).2.2.1.2).2.2.1.2.1 (Exists.intro _ (And.intro ((lc_b100 hT1).2.2.1.2).2.2.1.2.2 (And.intro (inb_in ig) ?_)))
    show Go _ _ _ _ 0 0 34 [(4, vi (S1.1 (100 + 8 + 2) (nI g).toNatClampNeg)), (3, rc (100 + 8)), (0, rc 0), (1, vi (nI g)), (2, vi (nI p))] [] ((S1, T1), Y) _
    refine go_blk rfl [(.aload_n 3, 1, 3, 0, 0, .inl 0), (.getfield 132, 3, 4, 9, 1, .inl 0), (.iload_n 1, 1, 1, 0, 0, .inl 0), (.aload_n 3, 1, 3, 0, 0, .inl 0), (.getfield 132, 3, 4, 9, 1, .inl 0), (.iload_n 2, 1, 2, 0, 0, .inl 0), (.iaload, 1, 20, 0, 0, .inl 0), (.iastore, 1, 20, 0, 0, .inl 0)] 34 46 _ _ _ (by decide +kernel) ?_
    refine And.intro ((lc_b100 hT1).2.2.1.2).1 (Exists.intro _ (And.intro (gRc ((lc_b100 hT1).2.2.1.2).2.2.1.1) ?_))
    refine And.intro ((lc_b100 hT1).2.2.1.2).1 (Exists.intro _ (And.intro (gRc ((lc_b100 hT1).2.2.1.2).2.2.1.1) ?_))
    refine And.intro ((lc_b100 hT1).2.2.1.2).2.2.1.2.1 (Exists.intro _ (And.intro ((lc_b100 hT1).2.2.1.2).2.2.1.2.2 (And.intro (inb_in ip) ?_)))
    refine And.intro ((lc_b100 hT1).2.2.1.2).2.2.1.2.1 (Exists.intro _ (And.intro ((lc_b100 hT1).2.2.1.2).2.2.1.2.2 (And.intro (inb_in ig) ?_)))
    show Go _ _ _ _ 0 0 46 [(4, vi (S1.1 (100 + 8 + 2) (nI g).toNatClampNeg)), (3, rc (100 + 8)), (0, rc 0), (1, vi (nI g)), (2, vi (nI p))] [] ((wI S1 (100 + 8 + 2) (nI g).toNatClampNeg (S1.1 (100 + 8 + 2) (nI p).toNatClampNeg), T1), Y) _
    refine go_blk rfl [(.aload_n 3, 1, 3, 0, 0, .inl 0), (.getfield 132, 3, 4, 9, 1, .inl 0), (.iload_n 2, 1, 2, 0, 0, .inl 0), (.iload 4, 2, 4, 0, 0, .inl 0), (.iastore, 1, 20, 0, 0, .inl 0)] 46 54 _ _ _ (by decide +kernel) ?_
    refine And.intro ((lc_b100 hT1).2.2.1.2).1 (Exists.intro _ (And.intro (gRc ((lc_b100 hT1).2.2.1.2).2.2.1.1) ?_))
    refine And.intro ((lc_b100 hT1).2.2.1.2).2.2.1.2.1 (Exists.intro _ (And.intro ((lc_b100 hT1).2.2.1.2).2.2.1.2.2 (And.intro (inb_in ip) ?_)))
    show Go _ _ _ _ 0 0 54 [(4, vi (S1.1 (100 + 8 + 2) (nI g).toNatClampNeg)), (3, rc (100 + 8)), (0, rc 0), (1, vi (nI g)), (2, vi (nI p))] [] ((wI (wI S1 (100 + 8 + 2) (nI g).toNatClampNeg (S1.1 (100 + 8 + 2) (nI p).toNatClampNeg)) (100 + 8 + 2) (nI p).toNatClampNeg (S1.1 (100 + 8 + 2) (nI g).toNatClampNeg), T1), Y) _
    refine go_blk rfl [(.aload_n 3, 1, 3, 0, 0, .inl 0), (.getfield 132, 3, 4, 9, 1, .inl 0), (.iload_n 1, 1, 1, 0, 0, .inl 0), (.iaload, 1, 20, 0, 0, .inl 0)] 54 60 _ _ _ (by decide +kernel) ?_
    refine And.intro ((lc_b100 hT1).2.2.1.2).1 (Exists.intro _ (And.intro (gRc ((lc_b100 hT1).2.2.1.2).2.2.1.1) ?_))
    refine And.intro ((lc_b100 hT1).2.2.1.2).2.2.1.2.1 (Exists.intro _ (And.intro ((lc_b100 hT1).2.2.1.2).2.2.1.2.2 (And.intro (inb_in ig) ?_)))
    rw [eg, ep]
    show Go _ _ _ _ 0 0 60 [(4, vi (S1.1 110 g)), (3, rc (100 + 8)), (0, rc 0), (1, vi (nI g)), (2, vi (nI p))] [vi ((wI (wI S1 110 g (S1.1 110 p)) 110 p (S1.1 110 g)).1 110 g)] ((wI (wI S1 110 g (S1.1 110 p)) 110 p (S1.1 110 g), T1), Y) _
    exact go_ireturn (by decide +kernel) rfl rfl ⟨_, T1, X2, _, rfl, rfl, k1, k2, hG1, a0'⟩
