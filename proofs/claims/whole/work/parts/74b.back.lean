/-! back, as a method -/
theorem ret10_back {S : jS} {T : jT} {X : jS} {Y : jP} {a0 : Int32} (hG : GL T) (h : INV S T X) : RetQ M10_back 5 140 1100 [rc 0, vi a0] ((S, T), Y) (AQ Y T (f11_back X a0)) := by
  have hT := hG.1
  obtain ⟨c1, c2⟩ := k_back h a0
  have e6 : T.1 0 6 = some 16 := hT.2.2.1 (0, 6, 16) (by decide)
  have t16 : T.2.1 16 = 26 := hT.1 (16, 26) (by decide)
  have n16 : T.2.2.1 16 = 4 := hT.2.1 (16, 4) (by decide)
  refine RetQ.of (by decide +kernel) (Nat.le_of_ble_eq_true rfl) ?_
  show Go _ _ _ _ 140 1100 0 [(0, rc 0), (1, vi a0)] [] ((S, T), Y) _
  have out : f11_back X a0 = some (X, -1) → Go M10_back 5 140 1100 140 1100 18 [(0, rc 0), (1, vi a0)] [] ((S, T), Y) (AQ Y T (f11_back X a0)) := by
    intro z
    refine go_blk rfl [(.iconst (-1), 1, 0, 0, 0, .inl (-1))] 18 19 _ _ _ (by decide +kernel) ?_
    show Go _ _ _ _ 140 1100 19 [(0, rc 0), (1, vi a0)] [vi (-1)] ((S, T), Y) _
    exact go_ireturn (by decide +kernel) rfl rfl ⟨S, T, X, -1, rfl, rfl, z, h, hG, rfl⟩
  refine go_blk rfl [(.iload_n 1, 1, 1, 0, 0, .inl 0)] 0 1 _ _ _ (by decide +kernel) ?_
  show Go _ _ _ _ 140 1100 1 [(0, rc 0), (1, vi a0)] [vi a0] ((S, T), Y) _
  by_cases q1 : a0 < 0
  · exact go_if_lt (off := 17) (tgt := 18) (by decide +kernel) (by decide) (fun _ => out (c1 (Or.inl q1))) (fun z => absurd q1 z)
  · refine go_if_lt (off := 17) (tgt := 18) (by decide +kernel) (by decide) (fun z => absurd z q1) (fun _ => ?_)
    refine go_blk rfl [(.iload_n 1, 1, 1, 0, 0, .inl 0), (.iconst 4, 1, 0, 0, 0, .inl 4)] 4 6 _ _ _ (by decide +kernel) ?_
    show Go _ _ _ _ 140 1100 6 [(0, rc 0), (1, vi a0)] [vi 4, vi a0] ((S, T), Y) _
    by_cases q2 : 4 ≤ a0
    · exact go_icmp_ge (off := 12) (tgt := 18) (by decide +kernel) (by decide) (fun _ => out (c1 (Or.inr q2))) (fun z => absurd q2 z)
    · refine go_icmp_ge (off := 12) (tgt := 18) (by decide +kernel) (by decide) (fun z => absurd z q2) (fun _ => ?_)
      obtain ⟨k, hk, rfl, c3⟩ := c2 (fun z => z.elim q1 q2)
      have ek : (nI k).toNatClampNeg = k := nI_clamp (by omega)
      have ik : inb (nI k) 4 = true := by rw [inb_n (by omega)]; simpa using hk
      refine go_blk rfl [(.aload_n 0, 1, 0, 0, 0, .inl 0), (.getfield 49, 3, 10, 6, 1, .inl 0), (.iload_n 1, 1, 1, 0, 0, .inl 0), (.aaload, 1, 26, 0, 0, .inl 0)] 9 15 _ _ _ (by decide +kernel) ?_
      refine And.intro (lc_t0 hT) (Exists.intro _ (And.intro (gRc e6) ?_))
      refine And.intro t16 (Exists.intro _ (And.intro n16 (And.intro (inb_in ik) (Exists.intro _ (And.intro gRo ?_)))))
      show Go _ _ _ _ 140 1100 15 [(0, rc 0), (1, vi (nI k))] [vo (T.1 16 (nI k).toNatClampNeg)] ((S, T), Y) _
      rw [ek]
      rcases c3 with ⟨d1, d2⟩ | ⟨d1, d2⟩
      · rw [d1]
        exact go_ifnonnull (off := 5) (tgt := 20) (by decide +kernel) (by decide) (fun z => absurd rfl z) (fun _ => out d2)
      · rw [d1]
        have d1' : T.1 16 (nI k).toNatClampNeg = some (300 + 200 * k) := by rw [ek]; exact d1
        refine go_ifnonnull (off := 5) (tgt := 20) (by decide +kernel) (by decide) (fun _ => ?_) (fun z => by cases z)
        refine go_blk rfl [(.aload_n 0, 1, 0, 0, 0, .inl 0), (.getfield 45, 3, 10, 5, 1, .inl 0), (.aload_n 0, 1, 0, 0, 0, .inl 0), (.getfield 49, 3, 10, 6, 1, .inl 0), (.iload_n 1, 1, 1, 0, 0, .inl 0), (.aaload, 1, 26, 0, 0, .inl 0)] 20 30 _ _ _ (by decide +kernel) ?_
        refine And.intro (lc_t0 hT) (Exists.intro _ (And.intro (gRc (lc_r10_5 hT)) ?_))
        refine And.intro (lc_t0 hT) (Exists.intro _ (And.intro (gRc e6) ?_))
        refine And.intro t16 (Exists.intro _ (And.intro n16 (And.intro (inb_in ik) (Exists.intro _ (And.intro (gRc d1') ?_)))))
        show Go _ _ _ _ 140 1100 30 [(0, rc 0), (1, vi (nI k))] [rc (300 + 200 * k), rc 100] ((S, T), Y) _
        obtain ⟨B, rcn, b1, b2⟩ : ∃ B rcn, BOk B rcn ∧ CBk S T (300 + 200 * k) B := by
          obtain ⟨tn, tb, rc, R, B, Bi, im, ⟨-, -, -, ci⟩, -, ⟨-, -, -, oi⟩⟩ := h
          cases e : im k with
          | true => exact ⟨Bi k, rc, oi k hk e, ((ci k hk).1 e).2⟩
          | false => have := (ci k hk).2 e; rw [d1] at this; cases this
        have bk : BkL T (300 + 200 * k) ∧ BkE T (300 + 200 * k) := by
          rcases hG.2.2.2.1 k hk with ⟨g1, g2⟩ | ⟨g1, g2, g3⟩
          · rw [d1] at g1; cases g1
          · exact ⟨g2, g3⟩
        obtain ⟨np, hnp, i3, i4, hA, hp⟩ := CBk.past b1 b2
        refine go_callVQ (idx := 329) (z := 1) (M' := M0_copyFrom) (n := 1) (A := [rc (300 + 200 * k)]) (d' := 4) (mc' := 140) (ms' := 1100) (kc' := 0) (ks' := 0) (ci := 0) (x := .inl 100) (by decide +kernel) ml_10_329 rfl wv0_copyFrom rfl (by decide) rfl (lc_b100 hT).1 (ret0_copyFrom (by omega) bk.1 bk.2 hG.2.2.1.1 hG.2.2.1.2 hnp hA i3 i4 hp) (by decide) (by decide) (by decide) (Nat.le_of_ble_eq_true rfl) rfl (fun v2 μ2 g => by obtain ⟨rfl, P9, rfl, g1, g2, g3, g4⟩ := g; intro adK; refine ⟨rfl, ?_⟩; simp [jlv, jcvc, jcvm, jcvi, (g2 0 (by omega)).2.2.1]) (fun v2 μ2 g => ?_)
        obtain ⟨rfl, ⟨S1, T1⟩, rfl, g1, g2, g3, g4⟩ := g
        have hG1 : GL T1 := hG.back (S := S) (S1 := S1) g2 g3
        have hT1 := hG1.1
        obtain ⟨X1, k1, k2⟩ := d2 S1 T1 g1 (g2 16 (by omega)).2.2.2.1
        show Go _ _ _ _ 0 0 33 [(0, rc 0), (1, vi (nI k))] [] ((S1, T1), Y) _
        refine go_blk rfl [(.aload_n 0, 1, 0, 0, 0, .inl 0), (.getfield 45, 3, 10, 5, 1, .inl 0), (.getfield 102, 3, 0, 1, 1, .inl 0), (.getfield 158, 3, 4, 5, 0, .inl 0)] 33 43 _ _ _ (by decide +kernel) ?_
        refine And.intro (lc_t0 hT1) (Exists.intro _ (And.intro (gRc (lc_r10_5 hT1)) ?_))
        refine And.intro (lc_b100 hT1).1 (Exists.intro _ (And.intro (gRc (lc_b100 hT1).2.2.1.1) ?_))
        refine And.intro ((lc_b100 hT1).2.2.1.2).1 ?_
        show Go _ _ _ _ 0 0 43 [(0, rc 0), (1, vi (nI k))] [vi (S1.1 (100 + 8) 5)] ((S1, T1), Y) _
        exact go_ireturn (by decide +kernel) rfl rfl ⟨S1, T1, X1, _, rfl, rfl, k1, k2, hG1, (g2 0 (by omega)).2.2.1⟩
