/-! Book.copyFrom -/
theorem nI_j {a b : Nat} (ha : a < 2 ^ 31) (hb : b < 2 ^ 31) (h : nI a = nI b) : a = b := by
  have e1 := nI_clamp ha
  rw [h, nI_clamp hb] at e1
  exact e1.symm
def CpQ (P P1 : jP) (s d : Nat) : Prop := BCp P.1 P.2 P1.1 P1.2 s d ∧ (∀ b, ¬ (d ≤ b ∧ b < d + 159) → Same P P1 b) ∧ (BkL P1.2 d ∧ BkE P1.2 d) ∧ cA P1 d = cA P d
theorem BkL.keep {P P1 : jP} {o np a0 : Nat} (h : BkL P.2 o) (he : BkE P.2 o) (hnp : np < 20) (r : PK P P1 o np a0) : BkL P1.2 o ∧ BkE P1.2 o := by
  obtain ⟨h1, h2⟩ := h
  obtain ⟨r1, r2, r3, r4, r5, r6, r7, r8, -, -⟩ := r
  have r8' : ∀ i, i ≠ np → P1.2.1 (o + 15) i = P.2.1 (o + 15) i := r8
  have he1 : BkE P1.2 o := fun k g => (r8' k (by omega)).trans (he k g)
  have hk : ∀ k, k < 20 → (P1.2.1 (o + 15) k = none ∧ ∀ j, j < 7 → P1.2.2.1 (o + 19 + 7 * k + j) = 0) ∨ (P1.2.1 (o + 15) k = some (o + 19 + 7 * k) ∧ LayHall P1.2 (o + 19 + 7 * k)) := by
    intro k hk
    by_cases e : k = np
    · subst e; exact Or.inr ⟨r1, r2⟩
    · rw [r8' k e]
      rcases h2 k hk with ⟨g1, g2⟩ | ⟨g1, g2⟩
      · exact Or.inl ⟨g1, fun j hj => (r4 _ (by omega) (by omega)).1.trans (g2 j hj)⟩
      · exact Or.inr ⟨g1, g2.sm (fun a u v => r4 a (by omega) (by omega))⟩
  refine ⟨⟨h1.sm (fun a u v w x => r4 a (by omega) w) ⟨(r4 o (by omega) (by omega)).1, (r4 o (by omega) (by omega)).2.2.2.1⟩ ⟨r5, r6⟩ (fun i q hq => ?_), hk⟩, he1⟩
  by_cases c : i < 20
  · rcases hk i c with ⟨g1, g2⟩ | ⟨g1, g2⟩
    · rw [g1] at hq; cases hq
    · rw [g1] at hq; cases hq; exact g2
  · rw [he1 i (by omega)] at hq; cases hq
/-- what holds in the loop of copyFrom before the k-th past hall -/
def LI (P1 P : jP) (s d np k : Nat) : Prop := (∀ b, ¬ (d + 19 ≤ b ∧ b < d + 159) → b ≠ d + 15 → Same P1 P b) ∧ (BkL P.2 d ∧ BkE P.2 d) ∧ (∀ j, 1 ≤ j → j < k → P.2.1 (d + 15) ((np + 20 - j) % 20) = some (d + 19 + 7 * ((np + 20 - j) % 20)) ∧ ∀ N, NOk N → HIs (hC P1.1 (s + 19 + 7 * ((np + 20 - j) % 20))) N → HIs (hC P.1 (d + 19 + 7 * ((np + 20 - j) % 20))) N)
theorem LI.step {P1 P P2 : jP} {s d np k : Nat} (hsd : d + 159 ≤ s ∨ s + 159 ≤ d) (hnp : np < 20) (hk : k ≤ 20) (h : LI P1 P s d np k) (r : PK P P2 d ((np + 20 - k) % 20) (s + 19 + 7 * ((np + 20 - k) % 20))) : LI P1 P2 s d np (k + 1) := by
  obtain ⟨h1, ⟨h2, h3⟩, h4⟩ := h
  have hsl : (np + 20 - k) % 20 < 20 := Nat.mod_lt _ (by omega)
  refine ⟨fun b u1 u2 => (h1 b u1 u2).tr (r.2.2.2.1 b (by omega) u2), h2.keep h3 hsl r, fun j j1 j2 => ?_⟩
  obtain ⟨r1, r2, r3, r4, r5, r6, r7, r8, -, -⟩ := r
  by_cases e : j = k
  · subst e
    generalize (np + 20 - j) % 20 = sl at *
    refine ⟨r1, fun N hN hH => r3 N hN (hH.mono (fun a i u v => (h1 a (by omega) (by omega)).2.2.2.2.1 i))⟩
  · have e2 : (np + 20 - j) % 20 ≠ (np + 20 - k) % 20 := by omega
    have hsj : (np + 20 - j) % 20 < 20 := Nat.mod_lt _ (by omega)
    obtain ⟨g1, g2⟩ := h4 j j1 (by omega)
    generalize (np + 20 - j) % 20 = sl at *
    generalize (np + 20 - k) % 20 = sk at *
    refine ⟨(r8 sl e2).trans g1, fun N hN hH => (g2 N hN hH).mono (fun a i u v => (r4 a (by omega) (by omega)).2.2.2.2.1 i)⟩
theorem cf_loop {P1 : jP} {Y : jP} {s d np A : Nat} {Q : Option jV → jMem → Prop} (hsd : d + 159 ≤ s ∨ s + 159 ≤ d) (hnp : np < 20) (hA : A ≤ 20) (i3 : P1.1.1 d 3 = nI np) (i4 : P1.1.1 d 4 = nI A) (hs : LayBook P1.2 s) (hp : ∀ j, 1 ≤ j → j ≤ A → P1.2.1 (s + 15) ((np + 20 - j) % 20) = some (s + 19 + 7 * ((np + 20 - j) % 20))) (k : ∀ P kc ks, LI P1 P s d np (A + 1) → Go M0_copyFrom 4 140 1100 kc ks 87 [(0, rc d), (1, rc s)] [] (P, Y) Q) : ∀ n kk P, kk + n = A + 1 → 1 ≤ kk → LI P1 P s d np kk → ∀ rc0 rs0, Go M0_copyFrom 4 140 1100 (7 * n + rc0) (55 * n + rs0) 40 [(0, rc d), (1, rc s), (2, vi (nI kk))] [] (P, Y) Q := by
  intro n
  induction n with
  | zero =>
    intro kk P e h1 hL rc0 rs0
    obtain ⟨S, T⟩ := P
    have sd := hL.1 d (by omega) (by omega)
    have t0 : T.2.1 d = 1 := hL.2.1.1.1.1
    have e4 : S.1 d 4 = nI A := (sd.2.2.2.2.1 4).trans i4
    refine go_blk rfl [(.iload_n 2, 1, 2, 0, 0, .inl 0), (.aload_n 0, 1, 0, 0, 0, .inl 0), (.getfield 29, 3, 0, 4, 0, .inl 0)] 40 45 _ _ _ (by decide +kernel) ?_
    refine And.intro t0 ?_
    show Go _ _ _ _ _ _ 45 [(0, rc d), (1, rc s), (2, vi (nI kk))] [vi (S.1 d 4), vi (nI kk)] ((S, T), Y) _
    rw [e4]
    have c : nI A < nI kk := by rw [nI_ltI (by omega) (by omega)]; omega
    refine go_icmp_gt (off := 42) (tgt := 87) (by decide +kernel) (by decide) (fun _ => ?_) (fun z => absurd c z)
    refine go_pick [0, 1] rfl ?_
    have : kk = A + 1 := by omega
    subst this
    exact k _ _ _ hL
  | succ n ih =>
    intro kk P e h1 hL rc0 rs0
    obtain ⟨S, T⟩ := P
    have sd := hL.1 d (by omega) (by omega)
    have ss := hL.1 s (by omega) (by omega)
    have s15 := hL.1 (s + 15) (by omega) (by omega)
    have t0 : T.2.1 d = 1 := hL.2.1.1.1.1
    have ts : T.2.1 s = 1 := ss.1.trans hs.1
    have e4 : S.1 d 4 = nI A := (sd.2.2.2.2.1 4).trans i4
    have e3 : S.1 d 3 = nI np := (sd.2.2.2.2.1 3).trans i3
    have r2 : T.1 s 2 = some (s + 15) := (ss.2.2.2.1 2).trans hs.2.2.2.1.1
    have t15 : T.2.1 (s + 15) = 24 := s15.1.trans hs.2.2.2.1.2.1
    have n15 : T.2.2.1 (s + 15) = 20 := s15.2.1.trans hs.2.2.2.1.2.2
    have hsl : (np + 20 - kk) % 20 < 20 := Nat.mod_lt _ (by omega)
    have hcl : (nI ((np + 20 - kk) % 20)).toNatClampNeg = (np + 20 - kk) % 20 := nI_clamp (by omega)
    have hin : inb (nI ((np + 20 - kk) % 20)) 20 = true := by rw [inb_n (by omega)]; simpa using hsl
    have hps : T.1 (s + 15) ((np + 20 - kk) % 20) = some (s + 19 + 7 * ((np + 20 - kk) % 20)) := (s15.2.2.2.1 _).trans (hp kk h1 (by omega))
    have hps' : T.1 (s + 15) (nI ((np + 20 - kk) % 20)).toNatClampNeg = some (s + 19 + 7 * ((np + 20 - kk) % 20)) := by rw [hcl]; exact hps
    refine go_blk rfl [(.iload_n 2, 1, 2, 0, 0, .inl 0), (.aload_n 0, 1, 0, 0, 0, .inl 0), (.getfield 29, 3, 0, 4, 0, .inl 0)] 40 45 _ _ _ (by decide +kernel) ?_
    refine And.intro t0 ?_
    show Go _ _ _ _ _ _ 45 [(0, rc d), (1, rc s), (2, vi (nI kk))] [vi (S.1 d 4), vi (nI kk)] ((S, T), Y) _
    rw [e4]
    have c : ¬ nI A < nI kk := by rw [nI_ltI (by omega) (by omega)]; omega
    refine go_icmp_gt (off := 42) (tgt := 87) (by decide +kernel) (by decide) (fun z => absurd z c) (fun _ => ?_)
    refine go_blk rfl [(.aload_n 0, 1, 0, 0, 0, .inl 0), (.getfield 25, 3, 0, 3, 0, .inl 0), (.bipush 20, 2, 0, 0, 0, .inl 20), (.iadd, 1, 0, 0, 0, .inl 0), (.iload_n 2, 1, 2, 0, 0, .inl 0), (.isub, 1, 0, 0, 0, .inl 0), (.bipush 20, 2, 0, 0, 0, .inl 20), (.irem, 1, 0, 0, 0, .inl 0), (.istore_n 3, 1, 3, 0, 0, .inl 0)] 48 61 _ _ _ (by decide +kernel) ?_
    refine And.intro t0 ?_
    refine And.intro (by decide) ?_
    show Go _ _ _ _ _ _ 61 [(3, vi (irm (S.1 d 3 + 20 - nI kk) 20)), (0, rc d), (1, rc s), (2, vi (nI kk))] [] ((S, T), Y) _
    have ei : irm (S.1 d 3 + 20 - nI kk) 20 = nI ((np + 20 - kk) % 20) := by
      have e1 : nI np + 20 = nI (np + 20) := nI_add np 20
      rw [e3, e1, nI_sub (by omega), irm_20 (by omega)]
    rw [ei]
    refine go_blk rfl [(.aload_n 1, 1, 1, 0, 0, .inl 0), (.getfield 21, 3, 0, 2, 1, .inl 0), (.iload_n 3, 1, 3, 0, 0, .inl 0), (.aaload, 1, 24, 0, 0, .inl 0)] 61 67 _ _ _ (by decide +kernel) ?_
    refine And.intro ts (Exists.intro _ (And.intro (gRc r2) ?_))
    refine And.intro t15 (Exists.intro _ (And.intro n15 (And.intro (inb_in hin) (Exists.intro _ (And.intro (gRc hps') ?_)))))
    show Go _ _ _ _ _ _ 67 [(3, vi (nI ((np + 20 - kk) % 20))), (0, rc d), (1, rc s), (2, vi (nI kk))] [rc (s + 19 + 7 * ((np + 20 - kk) % 20))] ((S, T), Y) _
    refine go_ifnull (off := 14) (tgt := 81) (by decide +kernel) (by decide) (fun z => by cases z) (fun _ => ?_)
    refine go_blk rfl [(.aload_n 0, 1, 0, 0, 0, .inl 0), (.iload_n 3, 1, 3, 0, 0, .inl 0), (.aload_n 1, 1, 1, 0, 0, .inl 0), (.getfield 21, 3, 0, 2, 1, .inl 0), (.iload_n 3, 1, 3, 0, 0, .inl 0), (.aaload, 1, 24, 0, 0, .inl 0)] 70 78 _ _ _ (by decide +kernel) ?_
    refine And.intro ts (Exists.intro _ (And.intro (gRc r2) ?_))
    refine And.intro t15 (Exists.intro _ (And.intro n15 (And.intro (inb_in hin) (Exists.intro _ (And.intro (gRc hps') ?_)))))
    show Go _ _ _ _ _ _ 78 [(3, vi (nI ((np + 20 - kk) % 20))), (0, rc d), (1, rc s), (2, vi (nI kk))] [rc (s + 19 + 7 * ((np + 20 - kk) % 20)), vi (nI ((np + 20 - kk) % 20)), rc d] ((S, T), Y) _
    have hlh : LayHall T (s + 19 + 7 * ((np + 20 - kk) % 20)) := by
      have g := hs.2.2.2.2.2.2.2 _ _ (hp kk h1 (by omega))
      exact LayHall.sm (P := P1) (P1 := (S, T)) g (fun a u v => hL.1 a (by omega) (by omega))
    refine go_callVQ (idx := 55) (z := 0) (M' := M0_keepPast) (n := 2) (A := [vi (nI ((np + 20 - kk) % 20)), rc (s + 19 + 7 * ((np + 20 - kk) % 20))]) (d' := 3) (mc' := 7) (ms' := 55) (kc' := 7 * n + rc0) (ks' := 55 * n + rs0) (ci := 0) (x := .inl d) (by decide +kernel) ml_0_55 rfl wv0_keepPast rfl (by decide) rfl t0 (ret0_keepPast hL.2.1.1.1 hlh hsl (by omega) (by omega) (hL.2.1.1.2 _ hsl)) (by decide) (by omega) (by omega) (Nat.le_of_ble_eq_true rfl) rfl (fun v2 μ2 g => by obtain ⟨rfl, P9, rfl, g1, g2, g3, g4, g5⟩ := g; intro adK; refine ⟨rfl, ?_⟩; simp [jlv, jcvc, jcvm, jcvi, (g4 d (by omega) (by omega)).2.2.1, (g4 s (by omega) (by omega)).2.2.1]) (fun v2 μ2 g => ?_)
    obtain ⟨rfl, P9, rfl, g⟩ := g
    show Go _ _ _ _ _ _ 81 [(3, vi (nI ((np + 20 - kk) % 20))), (0, rc d), (1, rc s), (2, vi (nI kk))] [] (P9, Y) _
    refine go_blk rfl [(.iinc 2 1, 3, 2, 0, 0, .inl 1)] 81 84 _ _ _ (by decide +kernel) ?_
    show Go _ _ _ _ _ _ 84 [(2, vi (nI kk + 1)), (3, vi (nI ((np + 20 - kk) % 20))), (0, rc d), (1, rc s)] [] (P9, Y) _
    have ek : nI kk + 1 = nI (kk + 1) := nI_add kk 1
    rw [ek]
    refine go_goto (off := (-44)) (tgt := 40) (by decide +kernel) (by decide) ?_
    refine go_pick [2, 3, 0] rfl ?_
    exact ih (kk + 1) P9 (by omega) (by omega) (hL.step hsd hnp (by omega) g) rc0 rs0
theorem ret0_copyFrom {S : jS} {T : jT} {Y : jP} {s d np A : Nat} (hsd : d + 159 ≤ s ∨ s + 159 ≤ d) (hs' : BkL T s) (hse : BkE T s) (hd : BkL T d) (he : BkE T d) (hnp : np < 20) (hA : A ≤ 20) (i3 : S.1 s 3 = nI np) (i4 : S.1 s 4 = nI A) (hp : ∀ j, 1 ≤ j → j ≤ A → T.1 (s + 15) ((np + 20 - j) % 20) = some (s + 19 + 7 * ((np + 20 - j) % 20))) : RetQ M0_copyFrom 4 140 1100 [rc d, rc s] ((S, T), Y) (fun v μ1 => v = none ∧ ∃ P1 : jP, μ1 = (P1, Y) ∧ CpQ (S, T) P1 s d) := by
  refine RetQ.of (by decide +kernel) (Nat.le_of_ble_eq_true rfl) ?_
  have hb := hd.1
  have hs := hs'.1
  show Go _ _ _ _ 140 1100 0 [(0, rc d), (1, rc s)] [] ((S, T), Y) _
  refine go_blk rfl [(.aload_n 0, 1, 0, 0, 0, .inl 0), (.getfield 12, 3, 0, 0, 1, .inl 0), (.aload_n 1, 1, 1, 0, 0, .inl 0), (.getfield 12, 3, 0, 0, 1, .inl 0)] 0 8 _ _ _ (by decide +kernel) ?_
  refine And.intro hb.1 (Exists.intro _ (And.intro (gRc hb.2.1.1) ?_))
  refine And.intro hs.1 (Exists.intro _ (And.intro (gRc hs.2.1.1) ?_))
  show Go _ _ _ _ 140 1100 8 [(0, rc d), (1, rc s)] [rc (s + 1), rc (d + 1)] ((S, T), Y) _
  refine go_callV (idx := 51) (z := 1) (M' := M4_copyFrom) (n := 1) (A := [rc (s + 1)]) (v' := none) (μ' := ((cpF S (d + 1) (s + 1), T), Y)) (d' := 2) (mc' := 0) (ms' := 0) (kc' := 140) (ks' := 1100) (ci := 4) (x := .inl (d + 1)) (by decide +kernel) ml_0_51 rfl wv4_copyFrom rfl (by decide) rfl hb.2.1.2.1 (ret4_copyFrom hb.2.1.2 hs.2.1.2 (cp_eq S (d + 1) (s + 1))) (by decide) (Nat.zero_add _) (Nat.zero_add _) (Nat.le_of_ble_eq_true rfl) rfl (jag rfl rfl) ?_
  generalize e1 : cpF S (d + 1) (s + 1) = S1
  show Go _ _ _ _ 140 1100 11 [(0, rc d), (1, rc s)] [] ((S1, T), Y) _
  refine go_blk rfl [(.aload_n 0, 1, 0, 0, 0, .inl 0), (.getfield 18, 3, 0, 1, 1, .inl 0), (.aload_n 1, 1, 1, 0, 0, .inl 0), (.getfield 18, 3, 0, 1, 1, .inl 0)] 11 19 _ _ _ (by decide +kernel) ?_
  refine And.intro hb.1 (Exists.intro _ (And.intro (gRc hb.2.2.1.1) ?_))
  refine And.intro hs.1 (Exists.intro _ (And.intro (gRc hs.2.2.1.1) ?_))
  show Go _ _ _ _ 140 1100 19 [(0, rc d), (1, rc s)] [rc (s + 8), rc (d + 8)] ((S1, T), Y) _
  refine go_callV (idx := 51) (z := 1) (M' := M4_copyFrom) (n := 1) (A := [rc (s + 8)]) (v' := none) (μ' := ((cpF S1 (d + 8) (s + 8), T), Y)) (d' := 2) (mc' := 0) (ms' := 0) (kc' := 140) (ks' := 1100) (ci := 4) (x := .inl (d + 8)) (by decide +kernel) ml_0_51 rfl wv4_copyFrom rfl (by decide) rfl hb.2.2.1.2.1 (ret4_copyFrom hb.2.2.1.2 hs.2.2.1.2 (cp_eq S1 (d + 8) (s + 8))) (by decide) (Nat.zero_add _) (Nat.zero_add _) (Nat.le_of_ble_eq_true rfl) rfl (jag rfl rfl) ?_
  generalize e2 : cpF S1 (d + 8) (s + 8) = S2
  show Go _ _ _ _ 140 1100 22 [(0, rc d), (1, rc s)] [] ((S2, T), Y) _
  have l1 : ∀ a i, S1.2 a i = S.2 a i := fun a i => by rw [← e1]; rfl
  have l2 : ∀ a i, S2.2 a i = S1.2 a i := fun a i => by rw [← e2]; rfl
  have q1 : ∀ a i, (a < d + 1 ∨ d + 7 < a) → S1.1 a i = S.1 a i := fun a i u => by rw [← e1]; exact cp_fr (by omega) (by omega)
  have q2 : ∀ a i, (a < d + 8 ∨ d + 14 < a) → S2.1 a i = S1.1 a i := fun a i u => by rw [← e2]; exact cp_fr (by omega) (by omega)
  have h1 : ∀ N, NOk N → HIs (hC S (s + 1)) N → HIs (hC S1 (d + 1)) N := fun N hN hH => by rw [← e1]; exact cp_H (by omega) hN hH
  have h2 : ∀ N, NOk N → HIs (hC S1 (s + 8)) N → HIs (hC S2 (d + 8)) N := fun N hN hH => by rw [← e2]; exact cp_H (by omega) hN hH
  clear e1 e2
  refine go_blk rfl [(.aload_n 0, 1, 0, 0, 0, .inl 0), (.aload_n 1, 1, 1, 0, 0, .inl 0), (.getfield 25, 3, 0, 3, 0, .inl 0), (.putfield 25, 3, 0, 3, 0, .inl 0)] 22 30 _ _ _ (by decide +kernel) ?_
  refine And.intro hs.1 ?_
  refine And.intro hb.1 (And.intro trivial ?_)
  show Go _ _ _ _ 140 1100 30 [(0, rc d), (1, rc s)] [] ((wI S2 d 3 (S2.1 s 3), T), Y) _
  generalize e3 : wI S2 d 3 (S2.1 s 3) = S3
  refine go_blk rfl [(.aload_n 0, 1, 0, 0, 0, .inl 0), (.aload_n 1, 1, 1, 0, 0, .inl 0), (.getfield 29, 3, 0, 4, 0, .inl 0), (.putfield 29, 3, 0, 4, 0, .inl 0)] 30 38 _ _ _ (by decide +kernel) ?_
  refine And.intro hs.1 ?_
  refine And.intro hb.1 (And.intro trivial ?_)
  show Go _ _ _ _ 140 1100 38 [(0, rc d), (1, rc s)] [] ((wI S3 d 4 (S3.1 s 4), T), Y) _
  generalize e4 : wI S3 d 4 (S3.1 s 4) = S4
  have l4 : ∀ a i, S4.2 a i = S.2 a i := fun a i => by rw [← e4, wI_L, ← e3, wI_L, l2, l1]
  have q4 : ∀ a i, ¬ (a = d ∧ (i = 3 ∨ i = 4)) → S4.1 a i = S2.1 a i := fun a i u => by rw [← e4, wI_g, if_neg (by omega), ← e3, wI_g, if_neg (by omega)]
  have q4s : ∀ a i, (a < d ∨ d + 19 ≤ a) → S4.1 a i = S.1 a i := fun a i u => by rw [q4 a i (by omega), q2 a i (by omega), q1 a i (by omega)]
  have v3 : S4.1 d 3 = nI np := by
    rw [← e4, wI_g, if_neg (by omega), ← e3, wI_g, if_pos ⟨rfl, rfl⟩, q2 _ _ (by omega), q1 _ _ (by omega), i3]
  have v4 : S4.1 d 4 = nI A := by
    rw [← e4, wI_g, if_pos ⟨rfl, rfl⟩, ← e3, wI_g, if_neg (by omega), q2 _ _ (by omega), q1 _ _ (by omega), i4]
  clear e3 e4
  refine go_blk rfl [(.iconst 1, 1, 0, 0, 0, .inl 1), (.istore_n 2, 1, 2, 0, 0, .inl 0)] 38 40 _ _ _ (by decide +kernel) ?_
  show Go _ _ _ _ 140 1100 40 [(2, vi (nI 1)), (0, rc d), (1, rc s)] [] ((S4, T), Y) _
  refine go_pick [1, 2, 0] rfl ?_
  have g := cf_loop (P1 := (S4, T)) (Y := Y) (Q := fun v μ1 => v = none ∧ ∃ P1 : jP, μ1 = (P1, Y) ∧ CpQ (S, T) P1 s d) hsd hnp hA v3 v4 hs hp ?_ A 1 (S4, T) (by omega) (by omega) ⟨fun b _ _ => ⟨rfl, rfl, rfl, fun _ => rfl, fun _ => rfl, fun _ => rfl⟩, ⟨hd, he⟩, fun j j1 j2 => by omega⟩ (140 - 7 * A) (1100 - 55 * A)
  · rw [show 7 * A + (140 - 7 * A) = 140 by omega, show 55 * A + (1100 - 55 * A) = 1100 by omega] at g
    exact g
  intro P kc ks hL
  obtain ⟨S5, T5⟩ := P
  obtain ⟨m1, m2, m3⟩ := hL
  have hs5 : LayBook T5 s := (BkL.sm (P := (S4, T)) (P1 := (S5, T5)) hs' hse (fun a u v => m1 a (by omega) (by omega))).1.1
  · have hb5 := m2.1.1
    refine go_blk rfl [(.aload_n 1, 1, 1, 0, 0, .inl 0), (.getfield 32, 3, 0, 5, 1, .inl 0), (.iconst 0, 1, 0, 0, 0, .inl 0), (.aload_n 0, 1, 0, 0, 0, .inl 0), (.getfield 32, 3, 0, 5, 1, .inl 0), (.iconst 0, 1, 0, 0, 0, .inl 0), (.bipush 10, 2, 0, 0, 0, .inl 10)] 87 99 _ _ _ (by decide +kernel) ?_
    refine And.intro hs5.1 (Exists.intro _ (And.intro (gRc hs5.2.2.2.2.1.1) ?_))
    refine And.intro hb5.1 (Exists.intro _ (And.intro (gRc hb5.2.2.2.2.1.1) ?_))
    show Go _ _ _ _ _ _ 99 [(0, rc d), (1, rc s)] [vi 10, vi 0, rc (d + 16), vi 0, rc (s + 16)] ((S5, T5), Y) _
    refine go_acopy (idx := 59) (sp := 0) (dp := 0) (n := 10) (by decide +kernel) al_0_59 rfl hs5.2.2.2.2.1.2.1 hb5.2.2.2.2.1.2.1 hs5.2.2.2.2.1.2.2 hb5.2.2.2.2.1.2.2 (by decide) (by decide) (by decide) (by decide) (by decide) (by decide) (Nat.le_of_ble_eq_true rfl) ?_
    show Go _ _ _ _ _ _ 102 [(0, rc d), (1, rc s)] [] ((wC S5 (s + 16) (d + 16) 0 0 10, T5), Y) _
    generalize e6 : wC S5 (s + 16) (d + 16) 0 0 10 = S6
    refine go_blk rfl [(.aload_n 1, 1, 1, 0, 0, .inl 0), (.getfield 36, 3, 0, 6, 1, .inl 0), (.iconst 0, 1, 0, 0, 0, .inl 0), (.aload_n 0, 1, 0, 0, 0, .inl 0), (.getfield 36, 3, 0, 6, 1, .inl 0), (.iconst 0, 1, 0, 0, 0, .inl 0), (.bipush 10, 2, 0, 0, 0, .inl 10)] 102 114 _ _ _ (by decide +kernel) ?_
    refine And.intro hs5.1 (Exists.intro _ (And.intro (gRc hs5.2.2.2.2.2.1.1) ?_))
    refine And.intro hb5.1 (Exists.intro _ (And.intro (gRc hb5.2.2.2.2.2.1.1) ?_))
    show Go _ _ _ _ _ _ 114 [(0, rc d), (1, rc s)] [vi 10, vi 0, rc (d + 17), vi 0, rc (s + 17)] ((S6, T5), Y) _
    refine go_acopy (idx := 59) (sp := 0) (dp := 0) (n := 10) (by decide +kernel) al_0_59 rfl hs5.2.2.2.2.2.1.2.1 hb5.2.2.2.2.2.1.2.1 hs5.2.2.2.2.2.1.2.2 hb5.2.2.2.2.2.1.2.2 (by decide) (by decide) (by decide) (by decide) (by decide) (by decide) (Nat.le_of_ble_eq_true rfl) ?_
    show Go _ _ _ _ _ _ 117 [(0, rc d), (1, rc s)] [] ((wC S6 (s + 17) (d + 17) 0 0 10, T5), Y) _
    generalize e7 : wC S6 (s + 17) (d + 17) 0 0 10 = S7
    refine go_blk rfl [(.aload_n 1, 1, 1, 0, 0, .inl 0), (.getfield 39, 3, 0, 7, 1, .inl 0), (.iconst 0, 1, 0, 0, 0, .inl 0), (.aload_n 0, 1, 0, 0, 0, .inl 0), (.getfield 39, 3, 0, 7, 1, .inl 0), (.iconst 0, 1, 0, 0, 0, .inl 0), (.bipush 10, 2, 0, 0, 0, .inl 10)] 117 129 _ _ _ (by decide +kernel) ?_
    refine And.intro hs5.1 (Exists.intro _ (And.intro (gRc hs5.2.2.2.2.2.2.1.1) ?_))
    refine And.intro hb5.1 (Exists.intro _ (And.intro (gRc hb5.2.2.2.2.2.2.1.1) ?_))
    show Go _ _ _ _ _ _ 129 [(0, rc d), (1, rc s)] [vi 10, vi 0, rc (d + 18), vi 0, rc (s + 18)] ((S7, T5), Y) _
    refine go_acopy (idx := 59) (sp := 0) (dp := 0) (n := 10) (by decide +kernel) al_0_59 rfl hs5.2.2.2.2.2.2.1.2.1 hb5.2.2.2.2.2.2.1.2.1 hs5.2.2.2.2.2.2.1.2.2 hb5.2.2.2.2.2.2.1.2.2 (by decide) (by decide) (by decide) (by decide) (by decide) (by decide) (Nat.le_of_ble_eq_true rfl) ?_
    show Go _ _ _ _ _ _ 132 [(0, rc d), (1, rc s)] [] ((wC S7 (s + 18) (d + 18) 0 0 10, T5), Y) _
    generalize e8 : wC S7 (s + 18) (d + 18) 0 0 10 = S8
    refine go_blk rfl [(.aload_n 0, 1, 0, 0, 0, .inl 0), (.aload_n 1, 1, 1, 0, 0, .inl 0), (.getfield 42, 3, 0, 8, 0, .inl 0), (.putfield 42, 3, 0, 8, 0, .inl 0)] 132 140 _ _ _ (by decide +kernel) ?_
    refine And.intro hs5.1 ?_
    refine And.intro hb5.1 (And.intro trivial ?_)
    show Go _ _ _ _ _ _ 140 [(0, rc d), (1, rc s)] [] ((wI S8 d 8 (S8.1 s 8), T5), Y) _
    generalize e9 : wI S8 d 8 (S8.1 s 8) = S9
    refine go_blk rfl [(.aload_n 0, 1, 0, 0, 0, .inl 0), (.aload_n 1, 1, 1, 0, 0, .inl 0), (.getfield 45, 3, 0, 9, 0, .inl 0), (.putfield 45, 3, 0, 9, 0, .inl 0)] 140 148 _ _ _ (by decide +kernel) ?_
    refine And.intro hs5.1 ?_
    refine And.intro hb5.1 (And.intro trivial ?_)
    show Go _ _ _ _ _ _ 148 [(0, rc d), (1, rc s)] [] ((wI S9 d 9 (S9.1 s 9), T5), Y) _
    generalize e10 : wI S9 d 9 (S9.1 s 9) = S10
    refine go_blk rfl [(.aload_n 0, 1, 0, 0, 0, .inl 0), (.aload_n 1, 1, 1, 0, 0, .inl 0), (.getfield 48, 3, 0, 10, 0, .inl 0), (.putfield 48, 3, 0, 10, 0, .inl 0)] 148 156 _ _ _ (by decide +kernel) ?_
    refine And.intro hs5.1 ?_
    refine And.intro hb5.1 (And.intro trivial ?_)
    show Go _ _ _ _ _ _ 156 [(0, rc d), (1, rc s)] [] ((wI S10 d 10 (S10.1 s 10), T5), Y) _
    generalize e11 : wI S10 d 10 (S10.1 s 10) = S11
    have l11 : ∀ a i, S11.2 a i = S5.2 a i := fun a i => by rw [← e11, wI_L, ← e10, wI_L, ← e9, wI_L, ← e8, wC_L, ← e7, wC_L, ← e6, wC_L]
    have w8 : ∀ a i, S8.1 a i = if a = d + 18 ∧ i < 10 then S5.1 (s + 18) i else if a = d + 17 ∧ i < 10 then S5.1 (s + 17) i else if a = d + 16 ∧ i < 10 then S5.1 (s + 16) i else S5.1 a i := fun a i => by
      subst e8 e7 e6
      simp only [wC_g]
      grind
    have w11 : ∀ a i, S11.1 a i = if a = d ∧ i = 10 then S8.1 s 10 else if a = d ∧ i = 9 then S8.1 s 9 else if a = d ∧ i = 8 then S8.1 s 8 else S8.1 a i := fun a i => by
      subst e11 e10 e9
      simp only [wI_g]
      grind
    have f5 : ∀ a i, (a < d ∨ d + 19 ≤ a) → S11.1 a i = S5.1 a i := fun a i u => by
      rw [w11, if_neg (by omega), if_neg (by omega), if_neg (by omega), w8, if_neg (by omega), if_neg (by omega), if_neg (by omega)]
    have f6 : ∀ a i, d + 1 ≤ a → a ≤ d + 15 → S11.1 a i = S5.1 a i := fun a i u u' => by
      rw [w11, if_neg (by omega), if_neg (by omega), if_neg (by omega), w8, if_neg (by omega), if_neg (by omega), if_neg (by omega)]
    have m1' : ∀ b i, ¬ (d + 19 ≤ b ∧ b < d + 159) → b ≠ d + 15 → S5.1 b i = S4.1 b i := fun b i u v => (m1 b u v).2.2.2.2.1 i
    have fs : ∀ a i, (a < d ∨ d + 159 ≤ a) → S11.1 a i = S.1 a i := fun a i u => by
      rw [f5 a i (by omega), m1' a i (by omega) (by omega), q4s a i (by omega)]
    have sm : ∀ b, ¬ (d ≤ b ∧ b < d + 159) → Same (S, T) (S11, T5) b := fun b u => by
      have s := m1 b (by omega) (by omega)
      exact ⟨s.1, s.2.1, s.2.2.1, s.2.2.2.1, fun i => fs b i (by omega), fun i => (l11 b i).trans ((s.2.2.2.2.2 i).trans (l4 b i))⟩
    refine go_return (by decide +kernel) rfl ⟨rfl, (S11, T5), rfl, ⟨fun B rcn hB hC => ?_, fun a i u => fs a i (by omega), fun a i u _ => (sm a u).2.2.2.1 i, fun a u => (sm a u).2.1⟩, sm, m2, (m1 d (by omega) (by omega)).2.2.1⟩
    obtain ⟨c1, c2, c3, ⟨np', c4, c5, c6⟩, ⟨c7, c8⟩, c9, c10⟩ := hC
    have ea : bA B = A := nI_j (by have := hB.2.2.2.2.2.1; omega) (by omega) (c3.symm.trans i4)
    have en : np' = np := nI_j (by omega) (by omega) (c5.symm.trans i3)
    subst en
    have ff : ∀ i, S8.1 s i = S.1 s i := fun i => by
      rw [w8, if_neg (by omega), if_neg (by omega), if_neg (by omega), m1' s i (by omega) (by omega), q4s s i (by omega)]
    refine ⟨?_, ?_, ?_, ⟨np', c4, ?_, fun j hj => ?_⟩, ⟨?_, fun k hk => ⟨?_, ?_, ?_⟩⟩, ?_, ?_⟩
    · refine HIs.mono (h2 _ hB.1 (c1.mono (fun a i u v => q1 a i (by omega)))) (fun a i u v => ?_)
      rw [f6 a i (by omega) (by omega), m1' a i (by omega) (by omega), q4 a i (by omega)]
    · refine HIs.mono (h1 _ hB.2.2.1 c2) (fun a i u v => ?_)
      rw [f6 a i (by omega) (by omega), m1' a i (by omega) (by omega), q4 a i (by omega), q2 a i (by omega)]
    · rw [w11, if_neg (by omega), if_neg (by omega), if_neg (by omega), w8, if_neg (by omega), if_neg (by omega), if_neg (by omega), m1' d 4 (by omega) (by omega), v4, ea]
    · rw [w11, if_neg (by omega), if_neg (by omega), if_neg (by omega), w8, if_neg (by omega), if_neg (by omega), if_neg (by omega), m1' d 3 (by omega) (by omega), v3]
    · obtain ⟨g1, g2⟩ := m3 (bA B - j) (by omega) (by omega)
      have hsl : sl0 np' (bA B) j < 20 := Nat.mod_lt _ (by omega)
      change T5.1 (d + 15) (sl0 np' (bA B) j) = some (d + 19 + 7 * sl0 np' (bA B) j) at g1
      change ∀ N, NOk N → HIs (hC S4 (s + 19 + 7 * sl0 np' (bA B) j)) N → HIs (hC S5 (d + 19 + 7 * sl0 np' (bA B) j)) N at g2
      refine ⟨g1, HIs.mono (g2 _ (hB.2.2.2.2.2.2.1 j hj).1 ((c6 j hj).2.mono (fun a i u v => q4s a i (by omega)))) (fun a i u v => f5 a i (by omega))⟩
    · rw [w11, if_neg (by omega), if_neg (by omega), if_pos ⟨rfl, rfl⟩, ff]; exact c7
    · have hk10 : k < 10 := by have := hB.2.2.2.2.2.2.2.1; omega
      rw [w11, if_neg (by omega), if_neg (by omega), if_neg (by omega), w8, if_neg (by omega), if_neg (by omega), if_pos ⟨rfl, hk10⟩, m1' _ _ (by omega) (by omega), q4s _ _ (by omega)]; exact (c8 k hk).1
    · have hk10 : k < 10 := by have := hB.2.2.2.2.2.2.2.1; omega
      rw [w11, if_neg (by omega), if_neg (by omega), if_neg (by omega), w8, if_neg (by omega), if_pos ⟨rfl, hk10⟩, m1' _ _ (by omega) (by omega), q4s _ _ (by omega)]; exact (c8 k hk).2.1
    · have hk10 : k < 10 := by have := hB.2.2.2.2.2.2.2.1; omega
      rw [w11, if_neg (by omega), if_neg (by omega), if_neg (by omega), w8, if_pos ⟨rfl, hk10⟩, m1' _ _ (by omega) (by omega), q4s _ _ (by omega)]; exact (c8 k hk).2.2
    · rw [w11, if_neg (by omega), if_pos ⟨rfl, rfl⟩, ff]; exact c9
    · rw [w11, if_pos ⟨rfl, rfl⟩, ff]; exact c10
theorem CBk.past {S : jS} {T : jT} {s rcn : Nat} {B : mB} (hB : BOk B rcn) (h : CBk S T s B) : ∃ np, np < 20 ∧ S.1 s 3 = nI np ∧ S.1 s 4 = nI (bA B) ∧ bA B ≤ 20 ∧ ∀ j, 1 ≤ j → j ≤ bA B → T.1 (s + 15) ((np + 20 - j) % 20) = some (s + 19 + 7 * ((np + 20 - j) % 20)) := by
  obtain ⟨c1, c2, c3, ⟨np', c4, c5, c6⟩, -⟩ := h
  refine ⟨np', c4, c5, c3, hB.2.2.2.2.2.1, fun j j1 j2 => ?_⟩
  have g := (c6 (bA B - j) (by omega)).1
  have e : sl0 np' (bA B) (bA B - j) = (np' + 20 - j) % 20 := by unfold sl0; congr 1; omega
  rw [e] at g
  exact g
