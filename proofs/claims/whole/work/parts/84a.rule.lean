/-! rule, as a method -/
theorem mm_400 {N : Nat} (h : N < 400) : mmin (nI 400) (nI N) = nI N := by
  unfold mmin; rw [if_pos (by rw [nI_ltI (by omega) (by omega)]; exact h)]
theorem ret18_copyOf {S : jS} {T : jT} {Y : jP} {a x N : Nat} (hT : T.2.1 a = 20) (hN : T.2.2.1 a = 400) (h0 : T.2.1 x = 0) (hx : x ≠ a) (hl : N < 400) : RetQ M18_copyOf 2 1 N [rc a, vi (nI N)] ((S, T), Y) (fun v μ1 => v = some (rc x) ∧ ∃ P1 : jP, μ1 = (P1, Y) ∧ (cT P1 x = 20 ∧ cN P1 x = N ∧ ∀ i, i < N → cI P1 x i = S.1 a i) ∧ ∀ b, b ≠ x → Same (S, T) P1 b) := by
  refine RetQ.of (by decide +kernel) (Nat.le_of_ble_eq_true rfl) ?_
  have hcl : (nI N).toNatClampNeg = N := nI_clamp (by omega)
  show Go _ _ _ _ 1 N 0 [(0, rc a), (1, vi (nI N))] [] ((S, T), Y) _
  refine go_blk rfl [(.iload_n 1, 1, 1, 0, 0, .inl 0), (.aload_n 0, 1, 0, 0, 0, .inl 0), (.arraylength, 1, 20, 0, 0, .inl 0)] 0 3 _ _ _ (by decide +kernel) ?_
  refine And.intro hT (Exists.intro 400 (And.intro hN ?_))
  show Go _ _ _ _ 1 N 3 [(0, rc a), (1, vi (nI N))] [vi (nI 400), vi (nI N)] ((S, T), Y) _
  refine go_icmp_ne (off := 11) (tgt := 14) (by decide +kernel) (by decide) (fun _ => ?_) (fun z => by have := nI_j (by omega) (by omega) z; omega)
  refine go_blk rfl [(.iload_n 1, 1, 1, 0, 0, .inl 0)] 14 15 _ _ _ (by decide +kernel) ?_
  show Go _ _ _ _ 1 N 15 [(0, rc a), (1, vi (nI N))] [vi (nI N)] ((S, T), Y) _
  refine go_newa20 (n := nI N) (N' := N) (x := .inl x) (kc' := 0) (ks' := 0) (by decide +kernel) (by rw [show (0 : Int32) = nI 0 from rfl, nI_ltI (by omega) (by omega)]; omega) hcl (by omega) trivial h0 (by simp [jnr]) (by simp [jnr]; omega) (by decide) (Nat.zero_add _) (fun q1 => ?_)
  show Go _ _ _ _ 0 0 17 [(0, rc a), (1, vi (nI N))] [rc x] (pN (S, T) x 20 N q1, Y) _
  generalize e1 : pN (S, T) x 20 N q1 = P1
  have s1 : ∀ b, b ≠ x → Same (S, T) P1 b := fun b hb => sN e1 hb
  have c1 := cell_N e1
  have sa := s1 a (fun z => hx z.symm)
  obtain ⟨S1, T1⟩ := P1
  refine go_blk rfl [(.astore_n 2, 1, 2, 0, 0, .inl 0), (.aload_n 0, 1, 0, 0, 0, .inl 0), (.iconst 0, 1, 0, 0, 0, .inl 0), (.aload_n 2, 1, 2, 0, 0, .inl 0), (.iconst 0, 1, 0, 0, 0, .inl 0), (.aload_n 0, 1, 0, 0, 0, .inl 0), (.arraylength, 1, 20, 0, 0, .inl 0), (.iload_n 1, 1, 1, 0, 0, .inl 0)] 17 25 _ _ _ (by decide +kernel) ?_
  refine And.intro (sa.1.trans hT) (Exists.intro 400 (And.intro (sa.2.1.trans hN) ?_))
  show Go _ _ _ _ 0 0 25 [(2, rc x), (0, rc a), (1, vi (nI N))] [vi (nI N), vi (nI 400), vi 0, rc x, vi 0, rc a] ((S1, T1), Y) _
  refine go_mmin (idx := 304) (by decide +kernel) ml_18_304 rfl (by decide) (Nat.le_of_ble_eq_true rfl) ?_
  rw [mm_400 hl]
  refine go_acopy (idx := 150) (x := .inl a) (y := .inl x) (sp := 0) (dp := 0) (n := nI N) (n0 := 400) (n1 := N) (by decide +kernel) al_18_150 rfl (sa.1.trans hT) c1.1 (sa.2.1.trans hN) c1.2.1 (by decide) (by decide) (by rw [show (0 : Int32) = nI 0 from rfl, nI_ltI (by omega) (by omega)]; omega) (by rw [hcl]; show 0 + N ≤ 400; omega) (by rw [hcl]; show 0 + N ≤ N; omega) (by decide) (Nat.le_of_ble_eq_true rfl) ?_
  show Go _ _ _ _ 0 0 31 [(2, rc x), (0, rc a), (1, vi (nI N))] [] ((wC S1 a x 0 0 (nI N).toNatClampNeg, T1), Y) _
  rw [hcl]
  refine go_blk rfl [(.aload_n 2, 1, 2, 0, 0, .inl 0)] 31 32 _ _ _ (by decide +kernel) ?_
  show Go _ _ _ _ 0 0 32 [(2, rc x), (0, rc a), (1, vi (nI N))] [rc x] ((wC S1 a x 0 0 N, T1), Y) _
  refine go_areturn (by decide +kernel) rfl rfl ⟨rfl, (wC S1 a x 0 0 N, T1), rfl, ⟨c1.1, c1.2.1, fun i hi => ?_⟩, fun b hb => ?_⟩
  · show (wC S1 a x 0 0 N).1 x i = S.1 a i
    rw [wC_g, if_pos ⟨rfl, by omega, by omega⟩]
    have := sa.2.2.2.2.1 (0 + (i - 0))
    rw [show 0 + (i - 0) = i by omega] at this ⊢
    exact this
  · have s := s1 b hb
    refine ⟨s.1, s.2.1, s.2.2.1, s.2.2.2.1, fun i => ?_, fun i => s.2.2.2.2.2 i⟩
    show (wC S1 a x 0 0 N).1 b i = S.1 b i
    rw [wC_g, if_neg (fun z => hb z.1)]; exact s.2.2.2.2.1 i
theorem ret7_made {S : jS} {T : jT} {Y : jP} {o N : Nat} (hT : LayC T) (h0 : ∀ j, j < 3 → T.2.1 (o + j) = 0) (ho : 1200 ≤ o) (hl : N < 400) (hN : S.1 12 2 = nI N) : RetQ M7_made 3 3 466 [rc 12] ((S, T), Y) (fun v μ1 => v = some (rc o) ∧ ∃ P1 : jP, μ1 = (P1, Y) ∧ RuleNew P1 o ∧ (cT P1 (o + 1) = 20 ∧ cN P1 (o + 1) = N ∧ ∀ i, i < N → cI P1 (o + 1) i = S.1 13 i) ∧ ∀ b, ¬ (o ≤ b ∧ b < o + 3) → Same (S, T) P1 b) := by
  have t12 : T.2.1 12 = 8 := hT.1 (12, 8) (by decide)
  have t13 : T.2.1 13 = 20 := hT.1 (13, 20) (by decide)
  have n13 : T.2.2.1 13 = 400 := hT.2.1 (13, 400) (by decide)
  refine RetQ.of (by decide +kernel) (Nat.le_of_ble_eq_true rfl) ?_
  show Go _ _ _ _ 3 466 0 [(0, rc 12)] [] ((S, T), Y) _
  refine go_new (idx := 63) (ci := 6) (x := .inl o) (kc' := 2) (ks' := 463) (by decide +kernel) (jin_3 (List.mem_of_getElem? (i := 178) rfl)) rfl (by decide) (jin_3 (List.mem_of_getElem? (i := 179) rfl)) (jin_1 (List.mem_of_getElem? (i := 17) rfl)) trivial (h0 0 (by omega)) (by simp [jnr]) (by simp [jnr]; omega) (by decide) (by decide) (fun q1 => ?_)
  show Go _ _ _ _ 2 463 3 [(0, rc 12)] [rc o] (pN (S, T) o 7 0 q1, Y) _
  generalize e1 : pN (S, T) o 7 0 q1 = P1
  have s1 : ∀ b, b ≠ o → Same (S, T) P1 b := fun b hb => sN e1 hb
  have c1 := cell_N e1
  have s12 := s1 12 (by omega)
  have s13 := s1 13 (by omega)
  obtain ⟨S1, T1⟩ := P1
  have r12 : T1.1 12 1 = some 13 := (s12.2.2.2.1 1).trans (lc_r7_1 hT)
  refine go_blk rfl [(.dup, 1, 0, 0, 0, .inl 0), (.aload_n 0, 1, 0, 0, 0, .inl 0), (.getfield 9, 3, 7, 1, 1, .inl 0), (.aload_n 0, 1, 0, 0, 0, .inl 0), (.getfield 15, 3, 7, 2, 0, .inl 0)] 3 12 _ _ _ (by decide +kernel) ?_
  refine And.intro (s12.1.trans t12) (Exists.intro _ (And.intro (gRc r12) ?_))
  refine And.intro (s12.1.trans t12) ?_
  show Go _ _ _ _ 2 463 12 [(0, rc 12)] [vi (S1.1 12 2), rc 13, rc o, rc o] ((S1, T1), Y) _
  have v2 : S1.1 12 2 = nI N := (s12.2.2.2.2.1 2).trans hN
  rw [v2]
  refine go_callSQ (idx := 65) (z := 0) (M' := M18_copyOf) (n := 2) (A := [rc 13, vi (nI N)]) (st := [rc o, rc o]) (d' := 2) (mc' := 1) (ms' := N) (kc' := 1) (ks' := 463 - N) (by decide +kernel) ml_7_65 rfl ws18_copyOf rfl (ret18_copyOf (x := o + 1) (s13.1.trans t13) (s13.2.1.trans n13) ((s1 (o + 1) (by omega)).1.trans (h0 1 (by omega))) (by omega) hl) (by decide) (by decide) (by omega) (Nat.le_of_ble_eq_true rfl) rfl (fun v2 μ2 g => by obtain ⟨rfl, P9, rfl, g1, g2⟩ := g; intro adK; refine ⟨?_, ?_⟩ <;> simp [jlv, jcvc, jcvm, jcvi, (g2 o (by omega)).2.2.1, (g2 12 (by omega)).2.2.1]) (fun v2 μ2 g => ?_)
  obtain ⟨rfl, P2, rfl, ⟨g1, g2, g3⟩, g4⟩ := g
  show Go _ _ _ _ 1 (463 - N) 15 [(0, rc 12)] [rc (o + 1), rc o, rc o] (P2, Y) _
  refine go_callIQ (idx := 71) (z := 1) (M' := M6_init) (n := 1) (A := [rc (o + 1)]) (x := .inl o) (d' := 2) (mc' := 1) (ms' := 64) (kc' := 0) (ks' := 399 - N) (by decide +kernel) ml_7_71 rfl wi6_init rfl (ret6_init (c1.sm (g4 o (by omega))) ((g4 (o + 2) (by omega)).1.trans ((s1 (o + 2) (by omega)).1.trans (h0 2 (by omega)))) (by rw [g1]; decide)) (by decide) (by decide) (by omega) (Nat.le_of_ble_eq_true rfl) rfl (fun v2 μ2 g => by obtain ⟨rfl, P9, rfl, k1, k2, k3⟩ := g; intro adK; refine ⟨?_, ?_⟩ <;> simp [jlv, jcvc, jcvm, jcvi, (k2 12 (by simp; omega)).2.2.1, k3]) (fun v2 μ2 g => ?_)
  obtain ⟨rfl, P3, rfl, k1, k2, k3⟩ := g
  show Go _ _ _ _ 0 (399 - N) 18 [(0, rc 12)] [rc o] (P3, Y) _
  have m1 := k2 (o + 1) (by simp)
  refine go_areturn (by decide +kernel) rfl rfl ⟨rfl, P3, rfl, k1, ⟨m1.1.trans g1, m1.2.1.trans g2, fun i hi => ?_⟩, fun b hb => ?_⟩
  · rw [m1.2.2.2.2.1 i, g3 i hi]; exact s13.2.2.2.2.1 i
  · exact ((s1 b (by omega)).tr (g4 b (by omega))).tr (k2 b (by simp; omega))
theorem RuleNew.lay {P : jP} {o : Nat} (g : RuleNew P o) (h : cT P (o + 1) = 20) : LayRule P.2 o := by
  obtain ⟨g1, g2⟩ := g
  have r : ∀ i, P.2.1 o i = _ := g1.2.2.1
  refine ⟨g1.1, ⟨?_, h⟩, ⟨?_, g2.1, g2.2.1⟩⟩
  · rw [r]; simp [va_up]
  · rw [r]; simp [va_up]
theorem GL.rul {S S1 : jS} {T T1 : jT} {k0 : Nat} (h : GL T) (hk0 : k0 < 6) (r : ∀ b, ¬ (1200 + 10 * k0 ≤ b ∧ b < 1200 + 10 * k0 + 3) → b ≠ 15 → Same (S, T) (S1, T1) b) (r15t : T1.2.1 15 = T.2.1 15 ∧ T1.2.2.1 15 = T.2.2.1 15) (r15k : T1.1 15 k0 = some (1200 + 10 * k0)) (r15 : ∀ i, i ≠ k0 → T1.1 15 i = T.1 15 i) (hl : LayRule T1 (1200 + 10 * k0)) : GL T1 := by
  obtain ⟨h1, h2, ⟨h3, h3'⟩, h4, h5, h6, h7, h8, h9⟩ := h
  have s : ∀ b, b < 1200 → b ≠ 15 → Same (S, T) (S1, T1) b := fun b g g2 => r b (by omega) g2
  have hb : BkL T1 100 ∧ BkE T1 100 := BkL.sm (P := (S, T)) (P1 := (S1, T1)) h3 h3' (fun a u v => s a (by omega) (by omega))
  have r16 : ∀ i, T1.1 16 i = T.1 16 i := (s 16 (by omega) (by omega)).2.2.2.1
  have r28 : ∀ i, T1.1 28 i = T.1 28 i := (s 28 (by omega) (by omega)).2.2.2.1
  have r81 : ∀ i, T1.1 81 i = T.1 81 i := (s 81 (by omega) (by omega)).2.2.2.1
  have hI : ∀ k, k < 4 → (T1.1 16 k = none ∧ ∀ a, 300 + 200 * k ≤ a → a < 300 + 200 * k + 159 → T1.2.1 a = 0) ∨ (T1.1 16 k = some (300 + 200 * k) ∧ BkL T1 (300 + 200 * k) ∧ BkE T1 (300 + 200 * k)) := by
    intro k hk
    rw [r16]
    rcases h4 k hk with ⟨g1, g2⟩ | ⟨g1, g2, g3⟩
    · exact Or.inl ⟨g1, fun a u v => (s a (by omega) (by omega)).1.trans (g2 a u v)⟩
    · exact Or.inr ⟨g1, BkL.sm (P := (S, T)) (P1 := (S1, T1)) g2 g3 (fun a u v => s a (by omega) (by omega))⟩
  have hR : ∀ k, k < 6 → (T1.1 15 k = none ∧ ∀ j, j < 3 → T1.2.1 (1200 + 10 * k + j) = 0) ∨ (T1.1 15 k = some (1200 + 10 * k) ∧ LayRule T1 (1200 + 10 * k)) := by
    intro k hk
    by_cases e : k = k0
    · subst e; exact Or.inr ⟨r15k, hl⟩
    · rw [r15 k e]
      rcases h6 k hk with ⟨g1, g2⟩ | ⟨g1, g2⟩
      · exact Or.inl ⟨g1, fun j hj => (r _ (by omega) (by omega)).1.trans (g2 j hj)⟩
      · exact Or.inr ⟨g1, LayRule.sm (P := (S, T)) (P1 := (S1, T1)) g2 (fun a u v => r a (by omega) (by omega))⟩
  have i5 : ∀ i, 4 ≤ i → T1.1 16 i = none := fun i hi => (r16 i).trans (h5 i hi)
  have i7 : ∀ i, 6 ≤ i → T1.1 15 i = none := fun i hi => (r15 i (by omega)).trans (h7 i hi)
  refine ⟨LayC.sm (P := (S, T)) (P1 := (S1, T1)) h1 (fun a u w _ => s a (by omega) w) r15t ⟨(s 16 (by omega) (by omega)).1, (s 16 (by omega) (by omega)).2.1⟩ h8 h9 hb.1.1 (fun i q hq => ?_) (fun i q hq => ?_), fun i hi => (r81 i).trans (h2 i hi), hb, hI, i5, hR, i7, fun i q hq => h8 i q ((r28 i).symm.trans hq), fun i q hq => h9 i q ((r81 i).symm.trans hq)⟩
  · have hq' : T1.1 15 i = some q := hq
    by_cases c : i < 6
    · rcases hR i c with ⟨g1, g2⟩ | ⟨g1, g2⟩
      · rw [g1] at hq'; cases hq'
      · rw [g1] at hq'; cases hq'; exact g2
    · rw [i7 i (by omega)] at hq'; cases hq'
  · have hq' : T1.1 16 i = some q := hq
    by_cases c : i < 4
    · rcases hI i c with ⟨g1, g2⟩ | ⟨g1, g2, g3⟩
      · rw [g1] at hq'; cases hq'
      · rw [g1] at hq'; cases hq'; exact g2.1
    · rw [i5 i (by omega)] at hq'; cases hq'
theorem ret10_rule {S : jS} {T : jT} {X : jS} {Y : jP} (hG : GL T) (h : INV S T X) : RetQ M10_rule 9 3 466 [rc 0] ((S, T), Y) (AQ Y T (f11_rule X)) := by
  have hT := hG.1
  obtain ⟨k0, hk, e4, c1, c2⟩ := k_rule h
  have t12 : T.2.1 12 = 8 := hT.1 (12, 8) (by decide)
  have t1 : T.2.1 1 = 10 := hT.1 (1, 10) (by decide)
  have t15 : T.2.1 15 = 25 := hT.1 (15, 25) (by decide)
  have n15 : T.2.2.1 15 = 6 := hT.2.1 (15, 6) (by decide)
  refine RetQ.of (by decide +kernel) (Nat.le_of_ble_eq_true rfl) ?_
  show Go _ _ _ _ 3 466 0 [(0, rc 0)] [] ((S, T), Y) _
  refine go_blk rfl [(.aload_n 0, 1, 0, 0, 0, .inl 0), (.getfield 38, 3, 10, 4, 0, .inl 0), (.bipush 6, 2, 0, 0, 0, .inl 6)] 0 6 _ _ _ (by decide +kernel) ?_
  refine And.intro (lc_t0 hT) ?_
  show Go _ _ _ _ 3 466 6 [(0, rc 0)] [vi 6, vi (S.1 0 4)] ((S, T), Y) _
  rw [e4]
  have q6 : nI k0 < (6 : Int32) ↔ k0 < 6 := by rw [show (6 : Int32) = nI 6 from rfl, nI_ltI (by omega) (by omega)]
  by_cases c : k0 < 6
  · refine go_icmp_lt (off := 5) (tgt := 11) (by decide +kernel) (by decide) (fun _ => ?_) (fun z => absurd (q6.mpr c) z)
    obtain ⟨tn, S', fc, c3⟩ := c2 c
    have free : ∀ j, j < 3 → T.2.1 (1200 + 10 * k0 + j) = 0 := by
      rcases hG.2.2.2.2.2.1 k0 c with ⟨-, g2⟩ | ⟨g1, -⟩
      · exact g2
      · rw [tn] at g1; cases g1
    refine go_blk rfl [(.aload_n 0, 1, 0, 0, 0, .inl 0), (.getfield 28, 3, 10, 2, 1, .inl 0)] 11 15 _ _ _ (by decide +kernel) ?_
    refine And.intro (lc_t0 hT) (Exists.intro _ (And.intro (gRc (lc_r10_2 hT)) ?_))
    show Go _ _ _ _ 3 466 15 [(0, rc 0)] [rc 12] ((S, T), Y) _
    have rest : ∀ x : Int32, f7_read S = some (S', x) → Go M10_rule 9 3 466 3 466 27 [(1, vi x), (0, rc 0)] [] ((wI S' 1 1 0, T), Y) (AQ Y T (f11_rule X)) → Go M10_rule 9 3 466 3 466 15 [(0, rc 0)] [rc 12] ((S, T), Y) (AQ Y T (f11_rule X)) := by
      intro x hx hgo
      refine go_callV (idx := 110) (z := 1) (M' := M7_read) (n := 0) (A := []) (v' := some (vi x)) (μ' := ((S', T), Y)) (d' := 8) (mc' := 0) (ms' := 0) (kc' := 3) (ks' := 466) (ci := 7) (x := .inl 12) (by decide +kernel) ml_10_110 rfl wv7_read rfl (by decide) rfl t12 (ret7_read hT hx) (by decide) (by decide) (by decide) (Nat.le_of_ble_eq_true rfl) rfl (jag rfl rfl) ?_
      show Go _ _ _ _ 3 466 18 [(0, rc 0)] [vi x] ((S', T), Y) _
      refine go_blk rfl [(.istore_n 1, 1, 1, 0, 0, .inl 0), (.aload_n 0, 1, 0, 0, 0, .inl 0), (.getfield 10, 3, 10, 0, 1, .inl 0), (.iconst 0, 1, 0, 0, 0, .inl 0), (.putfield 83, 3, 9, 1, 0, .inl 0)] 18 27 _ _ _ (by decide +kernel) ?_
      refine And.intro (lc_t0 hT) (Exists.intro _ (And.intro (gRc (hT.2.2.1 (0, 0, 1) (by decide))) ?_))
      refine And.intro t1 (And.intro trivial ?_)
      exact hgo
    rcases c3 with ⟨f, X1, f1, f2, f3, f4, f5⟩ | ⟨len, X1, l1, f3, f4, f5, f6⟩
    · refine rest (nI f) f3 ?_
      refine go_blk rfl [(.iload_n 1, 1, 1, 0, 0, .inl 0)] 27 28 _ _ _ (by decide +kernel) ?_
      show Go _ _ _ _ 3 466 28 [(1, vi (nI f)), (0, rc 0)] [vi (nI f)] ((wI S' 1 1 0, T), Y) _
      refine go_if_eq (off := 8) (tgt := 36) (by decide +kernel) (by decide) (fun z => absurd (nI_j (b := 0) f2 (by omega) z) f1) (fun _ => ?_)
      refine go_blk rfl [(.bipush (-2), 2, 0, 0, 0, .inl (-2)), (.iload_n 1, 1, 1, 0, 0, .inl 0), (.isub, 1, 0, 0, 0, .inl 0)] 31 35 _ _ _ (by decide +kernel) ?_
      show Go _ _ _ _ 3 466 35 [(1, vi (nI f)), (0, rc 0)] [vi ((-2) - nI f)] ((wI S' 1 1 0, T), Y) _
      exact go_ireturn (by decide +kernel) rfl rfl ⟨_, T, X1, _, rfl, rfl, f4, f5, hG, rfl⟩
    · refine rest 0 f3 ?_
      have k4 : (wI S' 1 1 0).1 0 4 = nI k0 := by rw [wI_ne (by omega), fc 0 4 (by unfold kpC; omega)]; exact e4
      have w2 : (wI S' 1 1 0).1 12 2 = nI len := by rw [wI_ne (by omega)]; exact f4
      have hin : inb (nI k0) 6 = true := inbk (by omega) c
      have hcl : (nI k0).toNatClampNeg = k0 := nI_clamp (by omega)
      have en : nI k0 + 1 = nI (k0 + 1) := nI_add k0 1
      have es : nI (k0 + 1) - 1 = nI k0 := by
        have := nI_sub (a := k0 + 1) (b := 1) (by omega)
        rw [show (1 : Int32) = nI 1 from rfl, this]; congr 1
      refine go_blk rfl [(.iload_n 1, 1, 1, 0, 0, .inl 0)] 27 28 _ _ _ (by decide +kernel) ?_
      show Go _ _ _ _ 3 466 28 [(1, vi 0), (0, rc 0)] [vi 0] ((wI S' 1 1 0, T), Y) _
      refine go_if_eq (off := 8) (tgt := 36) (by decide +kernel) (by decide) (fun _ => ?_) (fun z => absurd rfl z)
      refine go_blk rfl [(.aload_n 0, 1, 0, 0, 0, .inl 0), (.getfield 34, 3, 10, 3, 1, .inl 0), (.aload_n 0, 1, 0, 0, 0, .inl 0), (.getfield 38, 3, 10, 4, 0, .inl 0), (.aload_n 0, 1, 0, 0, 0, .inl 0), (.getfield 28, 3, 10, 2, 1, .inl 0)] 36 48 _ _ _ (by decide +kernel) ?_
      refine And.intro (lc_t0 hT) (Exists.intro _ (And.intro (gRc (lc_r10_3 hT)) ?_))
      refine And.intro (lc_t0 hT) ?_
      refine And.intro (lc_t0 hT) (Exists.intro _ (And.intro (gRc (lc_r10_2 hT)) ?_))
      show Go _ _ _ _ 3 466 48 [(1, vi 0), (0, rc 0)] [rc 12, vi ((wI S' 1 1 0).1 0 4), rc 15] ((wI S' 1 1 0, T), Y) _
      rw [k4]
      generalize eS : wI S' 1 1 0 = Sa at *
      generalize ed : 1200 + 10 * k0 = o at *
      refine go_callVQ (idx := 111) (z := 1) (M' := M7_made) (n := 0) (A := []) (st := [vi (nI k0), rc 15]) (d' := 3) (mc' := 3) (ms' := 466) (kc' := 0) (ks' := 0) (ci := 7) (x := .inl 12) (by decide +kernel) ml_10_111 rfl wv7_made rfl (by decide) rfl t12 (ret7_made (o := o) hT free (by omega) l1 w2) (by decide) (by decide) (by decide) (Nat.le_of_ble_eq_true rfl) rfl (fun v2 μ2 g => by obtain ⟨rfl, P9, rfl, g1, g2, g3⟩ := g; intro adK; refine ⟨?_, ?_⟩ <;> simp [jlv, jcvc, jcvm, jcvi, (g3 0 (by omega)).2.2.1, (g3 15 (by omega)).2.2.1]) (fun v2 μ2 g => ?_)
      obtain ⟨rfl, P2, rfl, g1, ⟨g2, g3, g4⟩, g5⟩ := g
      show Go _ _ _ _ 0 0 51 [(1, vi 0), (0, rc 0)] [rc o, vi (nI k0), rc 15] (P2, Y) _
      have s15 := g5 15 (by omega)
      refine go_aast25 (w := some o) (n := 6) (by decide +kernel) (s15.1.trans t15) g1.1.1 (s15.2.1.trans n15) (inb_in hin) ⟨rfl, by intro e; cases e⟩ ?_
      show Go _ _ _ _ 0 0 52 [(1, vi 0), (0, rc 0)] [] (pR P2 15 (nI k0).toNatClampNeg o, Y) _
      rw [hcl]
      generalize e3 : pR P2 15 k0 o = P3
      have r15 : ∀ i, cR P3 15 i = if i = k0 then some o else cR P2 15 i := fun i => by
        subst e3; rw [pR_R]; simp
      have t3 : cT P3 15 = cT P2 15 := by subst e3; rfl
      have n3 : cN P3 15 = cN P2 15 := by subst e3; rfl
      have i3 : ∀ a i, cI P3 a i = cI P2 a i := by subst e3; exact fun _ _ => rfl
      have s3 : ∀ b, b ≠ 15 → Same P2 P3 b := fun b hb => sR e3 hb
      obtain ⟨S3, T3⟩ := P3
      have s30 := (g5 0 (by omega)).tr (s3 0 (by omega))
      have ruN : RuleNew (S3, T3) o := by
        obtain ⟨x1, x2⟩ := g1
        exact ⟨x1.sm (s3 o (by omega)), x2.sm (s3 (o + 2) (by omega))⟩
      have hG3 : GL T3 := hG.rul (S := Sa) (S1 := S3) c (fun b u v => (g5 b (by omega)).tr (s3 b v)) ⟨t3.trans s15.1, n3.trans s15.2.1⟩ (by rw [ed]; exact (r15 k0).trans (if_pos rfl)) (fun i hi => ((r15 i).trans (if_neg hi)).trans (s15.2.2.2.1 i)) (by rw [ed]; exact ruN.lay ((s3 (o + 1) (by omega)).1.trans g2))
      have hT3 := hG3.1
      have v4 : S3.1 0 4 = nI k0 := (s30.2.2.2.2.1 4).trans k4
      refine go_blk rfl [(.aload_n 0, 1, 0, 0, 0, .inl 0), (.dup, 1, 0, 0, 0, .inl 0), (.getfield 38, 3, 10, 4, 0, .inl 0), (.iconst 1, 1, 0, 0, 0, .inl 1), (.iadd, 1, 0, 0, 0, .inl 0), (.putfield 38, 3, 10, 4, 0, .inl 0)] 52 62 _ _ _ (by decide +kernel) ?_
      refine And.intro (lc_t0 hT3) ?_
      refine And.intro (lc_t0 hT3) (And.intro trivial ?_)
      show Go _ _ _ _ 0 0 62 [(1, vi 0), (0, rc 0)] [] ((wI S3 0 4 (S3.1 0 4 + 1), T3), Y) _
      rw [v4, en]
      refine go_blk rfl [(.aload_n 0, 1, 0, 0, 0, .inl 0), (.getfield 38, 3, 10, 4, 0, .inl 0), (.iconst 1, 1, 0, 0, 0, .inl 1), (.isub, 1, 0, 0, 0, .inl 0)] 62 68 _ _ _ (by decide +kernel) ?_
      refine And.intro (lc_t0 hT3) ?_
      show Go _ _ _ _ 0 0 68 [(1, vi 0), (0, rc 0)] [vi ((wI S3 0 4 (nI (k0 + 1))).1 0 4 - 1)] ((wI S3 0 4 (nI (k0 + 1)), T3), Y) _
      rw [wI_self, es]
      have fin : INV (wI S3 0 4 (nI (k0 + 1))) T3 X1 := by
        refine f6 _ _ ?_
        unfold RuN
        rw [ed]
        have dI : ∀ a i, ¬ (o ≤ a ∧ a < o + 3) → S3.1 a i = Sa.1 a i := fun a i u => (i3 a i).trans ((g5 a u).2.2.2.2.1 i)
        refine ⟨wI_self _ _ _ _, ?_, fun i hi => ?_, ?_, (r15 k0).trans (if_pos rfl), fun a i k v w => ?_, fun a i v w => ?_, fun a w => ?_⟩
        · rw [wI_ne (by omega), dI _ _ (by omega), ← eS, wI_self]
        · rw [wI_ne (by omega)]
          refine (i3 _ _).trans ((g4 i hi).trans ?_)
          rw [← eS, wI_ne (by omega)]
        · exact ((s3 (o + 1) (by omega)).2.1).trans g3
        · unfold kpC at k
          rw [wI_g, if_neg v, dI a i w, ← eS, wI_ne (by omega)]
        · by_cases e : a = 15
          · subst e
            exact ((r15 i).trans (if_neg (fun z => v ⟨rfl, z⟩))).trans (s15.2.2.2.1 i)
          · exact ((g5 a w).tr (s3 a e)).2.2.2.1 i
        · by_cases e : a = 15
          · subst e; exact n3.trans s15.2.1
          · exact ((g5 a w).tr (s3 a e)).2.1
      exact go_ireturn (by decide +kernel) rfl rfl ⟨_, T3, X1, _, rfl, rfl, f5, fin, hG3, s30.2.2.1⟩
  · refine go_icmp_lt (off := 5) (tgt := 11) (by decide +kernel) (by decide) (fun z => absurd (q6.mp z) c) (fun _ => ?_)
    refine go_blk rfl [(.iconst (-1), 1, 0, 0, 0, .inl (-1))] 9 10 _ _ _ (by decide +kernel) ?_
    show Go _ _ _ _ 3 466 10 [(0, rc 0)] [vi (-1)] ((S, T), Y) _
    exact go_ireturn (by decide +kernel) rfl rfl ⟨S, T, X, -1, rfl, rfl, c1 (by omega), h, hG, rfl⟩
