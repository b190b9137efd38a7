/-! image, as a method -/
theorem Same.rfl' {P : jP} {a : Nat} : Same P P a := ⟨rfl, rfl, rfl, fun _ => rfl, fun _ => rfl, fun _ => rfl⟩
/-- between the start of image and its copying: the book of the image is there -/
def IQ (P P2 : jP) (k : Nat) : Prop := (∀ b, ¬ (300 + 200 * k ≤ b ∧ b < 300 + 200 * k + 159) → b ≠ 16 → Same P P2 b) ∧ (cT P2 16 = cT P 16 ∧ cN P2 16 = cN P 16 ∧ (∀ i, i ≠ k → cR P2 16 i = cR P 16 i) ∧ (∀ i, cI P2 16 i = cI P 16 i)) ∧ cR P2 16 k = some (300 + 200 * k) ∧ BkL P2.2 (300 + 200 * k) ∧ BkE P2.2 (300 + 200 * k)
theorem image_end {S : jS} {T : jT} {X : jS} {Y : jP} {S2 : jS} {T2 : jT} {k kc ks : Nat} (hG : GL T) (h : INV S T X) (hk : k < 4) (hq : IQ (S, T) (S2, T2) k) (c : ∀ S1 T1, BCp S T S1 T1 100 (300 + 200 * k) → T1.1 16 k = some (300 + 200 * k) → (∀ i, i ≠ k → T1.1 16 i = T.1 16 i) → ∃ X1, f11_image X (nI k) = some (X1, S1.1 (100 + 8) 5) ∧ INV S1 T1 X1) : Go M10_image 5 159 1271 (140 + kc) (1100 + ks) 33 [(0, rc 0), (1, vi (nI k))] [] ((S2, T2), Y) (AQ Y T (f11_image X (nI k))) := by
  obtain ⟨q1, ⟨q2, q3, q4, q5⟩, q6, q7, q8⟩ := hq
  have ek : (nI k).toNatClampNeg = k := nI_clamp (by omega)
  have ik : inb (nI k) 4 = true := by rw [inb_n (by omega)]; simpa using hk
  have hG2 : GL T2 := hG.img (S := S) (S1 := S2) hk q1 ⟨q2, q3⟩ q6 q4 ⟨q7, q8⟩
  have hT2 := hG2.1
  have e6 : T2.1 0 6 = some 16 := hT2.2.2.1 (0, 6, 16) (by decide)
  have t16 : T2.2.1 16 = 26 := hT2.1 (16, 26) (by decide)
  have n16 : T2.2.2.1 16 = 4 := hT2.2.1 (16, 4) (by decide)
  have q6' : T2.1 16 (nI k).toNatClampNeg = some (300 + 200 * k) := by rw [ek]; exact q6
  obtain ⟨B, rcn, b1, b2⟩ : ∃ B rcn, BOk B rcn ∧ CBk S T 100 B := by
    obtain ⟨tn, tb, rc, R, B, Bi, im, ⟨-, -, cb, -⟩, -, ⟨-, -, ob, -⟩⟩ := h
    exact ⟨B, rc, ob, cb⟩
  have tr : ∀ B', CBk S T 100 B' → CBk S2 T2 100 B' := fun B' g => g.qT (by omega) (by omega) (fun a i g1 g2 => (q1 a (by omega) (by omega)).2.2.2.2.1 i) (fun i => (q1 115 (by omega) (by omega)).2.2.2.1 i)
  obtain ⟨np, hnp, i3, i4, hA, hp⟩ := CBk.past b1 (tr B b2)
  refine go_blk rfl [(.aload_n 0, 1, 0, 0, 0, .inl 0), (.getfield 49, 3, 10, 6, 1, .inl 0), (.iload_n 1, 1, 1, 0, 0, .inl 0), (.aaload, 1, 26, 0, 0, .inl 0), (.aload_n 0, 1, 0, 0, 0, .inl 0), (.getfield 45, 3, 10, 5, 1, .inl 0)] 33 43 _ _ _ (by decide +kernel) ?_
  refine And.intro (lc_t0 hT2) (Exists.intro _ (And.intro (gRc e6) ?_))
  refine And.intro t16 (Exists.intro _ (And.intro n16 (And.intro (inb_in ik) (Exists.intro _ (And.intro (gRc q6') ?_)))))
  refine And.intro (lc_t0 hT2) (Exists.intro _ (And.intro (gRc (lc_r10_5 hT2)) ?_))
  show Go _ _ _ _ _ _ 43 [(0, rc 0), (1, vi (nI k))] [rc 100, rc (300 + 200 * k)] ((S2, T2), Y) _
  refine go_callVQ (idx := 329) (z := 1) (M' := M0_copyFrom) (n := 1) (A := [rc 100]) (d' := 4) (mc' := 140) (ms' := 1100) (kc' := kc) (ks' := ks) (ci := 0) (x := .inl (300 + 200 * k)) (by decide +kernel) ml_10_329 rfl wv0_copyFrom rfl (by decide) rfl q7.1.1 (ret0_copyFrom (by omega) hG2.2.2.1.1 hG2.2.2.1.2 q7 q8 hnp hA i3 i4 hp) (by decide) rfl rfl (Nat.le_of_ble_eq_true rfl) rfl (fun v2 μ2 g => by obtain ⟨rfl, P9, rfl, g1, g2, g3, g4⟩ := g; intro adK; refine ⟨rfl, ?_⟩; simp [jlv, jcvc, jcvm, jcvi, (g2 0 (by omega)).2.2.1]) (fun v2 μ2 g => ?_)
  obtain ⟨rfl, ⟨S3, T3⟩, rfl, g1, g2, g3, g4⟩ := g
  have s16 := g2 16 (by omega)
  have r3 : ∀ b, ¬ (300 + 200 * k ≤ b ∧ b < 300 + 200 * k + 159) → b ≠ 16 → Same (S, T) (S3, T3) b := fun b u v => (q1 b u v).tr (g2 b u)
  have k16 : T3.1 16 k = some (300 + 200 * k) := (s16.2.2.2.1 k).trans q6
  have o16 : ∀ i, i ≠ k → T3.1 16 i = T.1 16 i := fun i hi => (s16.2.2.2.1 i).trans (q4 i hi)
  have hG3 : GL T3 := hG.img (S := S) (S1 := S3) hk r3 ⟨s16.1.trans q2, s16.2.1.trans q3⟩ k16 o16 g3
  have hT3 := hG3.1
  have bc : BCp S T S3 T3 100 (300 + 200 * k) := by
    obtain ⟨m1, m2, m3, m4⟩ := g1
    refine ⟨fun B' rc' hB hC => m1 B' rc' hB (tr B' hC), fun a i u => ?_, fun a i u v => (r3 a u v).2.2.2.1 i, fun a u => ?_⟩
    · by_cases e : a = 16
      · subst e; exact (m2 16 i (by omega)).trans (q5 i)
      · exact (r3 a u e).2.2.2.2.1 i
    · by_cases e : a = 16
      · subst e; exact s16.2.1.trans q3
      · exact (r3 a u e).2.1
  obtain ⟨X1, x1, x2⟩ := c S3 T3 bc k16 o16
  show Go _ _ _ _ _ _ 46 [(0, rc 0), (1, vi (nI k))] [] ((S3, T3), Y) _
  refine go_blk rfl [(.aload_n 0, 1, 0, 0, 0, .inl 0), (.getfield 45, 3, 10, 5, 1, .inl 0), (.getfield 102, 3, 0, 1, 1, .inl 0), (.getfield 158, 3, 4, 5, 0, .inl 0)] 46 56 _ _ _ (by decide +kernel) ?_
  refine And.intro (lc_t0 hT3) (Exists.intro _ (And.intro (gRc (lc_r10_5 hT3)) ?_))
  refine And.intro (lc_b100 hT3).1 (Exists.intro _ (And.intro (gRc (lc_b100 hT3).2.2.1.1) ?_))
  refine And.intro ((lc_b100 hT3).2.2.1.2).1 ?_
  show Go _ _ _ _ _ _ 56 [(0, rc 0), (1, vi (nI k))] [vi (S3.1 (100 + 8) 5)] ((S3, T3), Y) _
  exact go_ireturn (by decide +kernel) rfl rfl ⟨S3, T3, X1, _, rfl, rfl, x1, x2, hG3, (r3 0 (by omega) (by omega)).2.2.1⟩
theorem ret10_image {S : jS} {T : jT} {X : jS} {Y : jP} {a0 : Int32} (hG : GL T) (h : INV S T X) : RetQ M10_image 5 159 1271 [rc 0, vi a0] ((S, T), Y) (AQ Y T (f11_image X a0)) := by
  have hT := hG.1
  obtain ⟨c1, c2⟩ := k_image h a0
  have e6 : T.1 0 6 = some 16 := hT.2.2.1 (0, 6, 16) (by decide)
  have t16 : T.2.1 16 = 26 := hT.1 (16, 26) (by decide)
  have n16 : T.2.2.1 16 = 4 := hT.2.1 (16, 4) (by decide)
  refine RetQ.of (by decide +kernel) (Nat.le_of_ble_eq_true rfl) ?_
  show Go _ _ _ _ 159 1271 0 [(0, rc 0), (1, vi a0)] [] ((S, T), Y) _
  have out : f11_image X a0 = some (X, -1) → Go M10_image 5 159 1271 159 1271 9 [(0, rc 0), (1, vi a0)] [] ((S, T), Y) (AQ Y T (f11_image X a0)) := by
    intro z
    refine go_blk rfl [(.iconst (-1), 1, 0, 0, 0, .inl (-1))] 9 10 _ _ _ (by decide +kernel) ?_
    show Go _ _ _ _ 159 1271 10 [(0, rc 0), (1, vi a0)] [vi (-1)] ((S, T), Y) _
    exact go_ireturn (by decide +kernel) rfl rfl ⟨S, T, X, -1, rfl, rfl, z, h, hG, rfl⟩
  refine go_blk rfl [(.iload_n 1, 1, 1, 0, 0, .inl 0)] 0 1 _ _ _ (by decide +kernel) ?_
  show Go _ _ _ _ 159 1271 1 [(0, rc 0), (1, vi a0)] [vi a0] ((S, T), Y) _
  by_cases q1 : a0 < 0
  · exact go_if_lt (off := 8) (tgt := 9) (by decide +kernel) (by decide) (fun _ => out (c1 (Or.inl q1))) (fun z => absurd q1 z)
  · refine go_if_lt (off := 8) (tgt := 9) (by decide +kernel) (by decide) (fun z => absurd z q1) (fun _ => ?_)
    refine go_blk rfl [(.iload_n 1, 1, 1, 0, 0, .inl 0), (.iconst 4, 1, 0, 0, 0, .inl 4)] 4 6 _ _ _ (by decide +kernel) ?_
    show Go _ _ _ _ 159 1271 6 [(0, rc 0), (1, vi a0)] [vi 4, vi a0] ((S, T), Y) _
    by_cases q2 : a0 < 4
    · refine go_icmp_lt (off := 5) (tgt := 11) (by decide +kernel) (by decide) (fun _ => ?_) (fun z => absurd q2 z)
      have q2' : ¬ 4 ≤ a0 := by grind
      obtain ⟨k, hk, rfl, c3, c4⟩ := c2 (fun z => z.elim q1 q2')
      have ek : (nI k).toNatClampNeg = k := nI_clamp (by omega)
      have ik : inb (nI k) 4 = true := by rw [inb_n (by omega)]; simpa using hk
      refine go_blk rfl [(.aload_n 0, 1, 0, 0, 0, .inl 0), (.getfield 49, 3, 10, 6, 1, .inl 0), (.iload_n 1, 1, 1, 0, 0, .inl 0), (.aaload, 1, 26, 0, 0, .inl 0)] 11 17 _ _ _ (by decide +kernel) ?_
      refine And.intro (lc_t0 hT) (Exists.intro _ (And.intro (gRc e6) ?_))
      refine And.intro t16 (Exists.intro _ (And.intro n16 (And.intro (inb_in ik) (Exists.intro _ (And.intro gRo ?_)))))
      show Go _ _ _ _ 159 1271 17 [(0, rc 0), (1, vi (nI k))] [vo (T.1 16 (nI k).toNatClampNeg)] ((S, T), Y) _
      rw [ek]
      rcases hG.2.2.2.1 k hk with ⟨d1, d2⟩ | ⟨d1, d2, d3⟩
      · rw [d1]
        refine go_ifnonnull (off := 16) (tgt := 33) (by decide +kernel) (by decide) (fun z => absurd rfl z) (fun _ => ?_)
        refine go_blk rfl [(.aload_n 0, 1, 0, 0, 0, .inl 0), (.getfield 49, 3, 10, 6, 1, .inl 0), (.iload_n 1, 1, 1, 0, 0, .inl 0)] 20 25 _ _ _ (by decide +kernel) ?_
        refine And.intro (lc_t0 hT) (Exists.intro _ (And.intro (gRc e6) ?_))
        show Go _ _ _ _ 159 1271 25 [(0, rc 0), (1, vi (nI k))] [vi (nI k), rc 16] ((S, T), Y) _
        generalize ed : 300 + 200 * k = d at *
        refine go_new (idx := 42) (ci := 0) (x := .inl d) (kc' := 158) (ks' := 1260) (by decide +kernel) (jin_1 (List.mem_of_getElem? (i := 228) rfl)) rfl (by decide) (jin_1 (List.mem_of_getElem? (i := 229) rfl)) (jin_1 (List.mem_of_getElem? (i := 6) rfl)) trivial (d2 d (by omega) (by omega)) (by simp [jnr]; omega) (by simp [jnr]; omega) (by decide) (by decide) (fun q5 => ?_)
        show Go _ _ _ _ 158 1260 28 [(0, rc 0), (1, vi (nI k))] [rc d, vi (nI k), rc 16] (pN (S, T) d 1 0 q5, Y) _
        generalize e1 : pN (S, T) d 1 0 q5 = P1
        have s1 : ∀ b, b ≠ d → Same (S, T) P1 b := fun b hb => sN e1 hb
        have c1 := cell_N e1
        refine go_blk rfl [(.dup, 1, 0, 0, 0, .inl 0)] 28 29 _ _ _ (by decide +kernel) ?_
        show Go _ _ _ _ 158 1260 29 [(0, rc 0), (1, vi (nI k))] [rc d, rc d, vi (nI k), rc 16] (P1, Y) _
        have u : ∀ j, 1 ≤ j → j < 159 → cT P1 (d + j) = 0 := fun j j1 j2 => (s1 (d + j) (by omega)).1.trans (d2 (d + j) (by omega) (by omega))
        refine go_callIQ (idx := 44) (z := 1) (M' := M0_init) (n := 0) (A := []) (x := .inl d) (d' := 3) (mc' := 18) (ms' := 160) (kc' := 140) (ks' := 1100) (by decide +kernel) ml_10_44 rfl wi0_init rfl (ret0_init c1 ⟨u 1 (by omega) (by omega), u 2 (by omega) (by omega), u 3 (by omega) (by omega), u 4 (by omega) (by omega), u 5 (by omega) (by omega), u 6 (by omega) (by omega), u 7 (by omega) (by omega), u 8 (by omega) (by omega), u 9 (by omega) (by omega), u 10 (by omega) (by omega), u 11 (by omega) (by omega), u 12 (by omega) (by omega), u 13 (by omega) (by omega), u 14 (by omega) (by omega), u 15 (by omega) (by omega), u 16 (by omega) (by omega), u 17 (by omega) (by omega), u 18 (by omega) (by omega)⟩) (by decide) (by decide) (by decide) (Nat.le_of_ble_eq_true rfl) rfl (fun v2 μ2 g => by obtain ⟨rfl, P9, rfl, g1, g2, g3⟩ := g; intro adK; refine ⟨?_, ?_⟩ <;> simp [jlv, jcvc, jcvm, jcvi, (g2 0 (by simp; omega)).2.2.1, (g2 16 (by simp; omega)).2.2.1, g3]) (fun v2 μ2 g => ?_)
        obtain ⟨rfl, P2, rfl, g1, g2, g3⟩ := g
        have s2 : ∀ b, ¬ (d ≤ b ∧ b < d + 19) → Same (S, T) P2 b := fun b hb => (s1 b (by omega)).tr (g2 b (by simp; omega))
        show Go _ _ _ _ 140 1100 32 [(0, rc 0), (1, vi (nI k))] [rc d, vi (nI k), rc 16] (P2, Y) _
        have t2 := s2 16 (by omega)
        refine go_aast26 (w := some d) (n := 4) (by decide +kernel) (t2.1.trans t16) (BookNew_t g1) (t2.2.1.trans n16) (inb_in ik) ⟨rfl, by intro e; cases e⟩ ?_
        show Go _ _ _ _ 140 1100 33 [(0, rc 0), (1, vi (nI k))] [] (pR P2 16 (nI k).toNatClampNeg d, Y) _
        rw [ek]
        generalize e3 : pR P2 16 k d = P3
        have r16 : ∀ i, cR P3 16 i = if i = k then some d else cR P2 16 i := fun i => by
          subst e3; rw [pR_R]; simp
        have g4 : BookNew P3 d := BookNew_sm g1 (fun a u1 u2 => sR e3 (by omega))
        have bk := g4.bkl (fun a u1 u2 => (sR e3 (show a ≠ 16 by omega)).1.trans ((s2 a (by omega)).1.trans (d2 a (by omega) (by omega))))
        have t3 : cT P3 16 = cT P2 16 := by subst e3; rfl
        have n3 : cN P3 16 = cN P2 16 := by subst e3; rfl
        have i3 : ∀ i, cI P3 16 i = cI P2 16 i := by subst e3; exact fun _ => rfl
        obtain ⟨S3, T3⟩ := P3
        subst ed
        refine image_end (kc := 0) (ks := 0) hG h hk ⟨fun b u v => (s2 b (by omega)).tr (sR e3 v), ⟨t3.trans t2.1, n3.trans t2.2.1, fun i hi => ((r16 i).trans (if_neg hi)).trans (t2.2.2.2.1 i), fun i => (i3 i).trans (t2.2.2.2.2.1 i)⟩, (r16 k).trans (if_pos rfl), bk.1, bk.2⟩ c4
      · rw [d1]
        refine go_ifnonnull (off := 16) (tgt := 33) (by decide +kernel) (by decide) (fun _ => ?_) (fun z => by cases z)
        exact image_end (kc := 19) (ks := 171) hG h hk ⟨fun b u v => Same.rfl', ⟨rfl, rfl, fun _ _ => rfl, fun _ => rfl⟩, d1, d2, d3⟩ c4
    · refine go_icmp_lt (off := 5) (tgt := 11) (by decide +kernel) (by decide) (fun z => absurd z q2) (fun _ => ?_)
      have q2' : 4 ≤ a0 := by grind
      exact out (c1 (Or.inr q2'))
