/-! round, play -/
theorem HIs.sam {H : mH} {N M : mN} (hN : NOk N) (hM : NOk M) (h : HIs H N) (g : HIs H M) : samT N M := by
  obtain ⟨k1, k2, k3, -, -, -, -, -, k9, -⟩ := hN
  obtain ⟨l1, l2, l3, -, -, -, -, -, l9, -⟩ := hM
  have e : ∀ i, i < 3 → M 0 i < 2 ^ 31 → N 0 i < 2 ^ 31 → M 0 i = N 0 i := fun i hi a b => (nI_eq a b).mp ((g.1 i (by omega) (by omega)).symm.trans (h.1 i (by omega) (by omega)))
  have e1 := e 1 (by omega) (by omega) (by omega)
  refine ⟨e 0 (by omega) (by omega) (by omega), e1, e 2 (by omega) (by omega) (by omega), fun c hc => ?_⟩
  have a1 := k9 c hc
  have a2 := l9 c (by omega)
  exact (nI_eq (by omega) (by omega)).mp ((g.2.2.1 c (by omega)).symm.trans (h.2.2.1 c hc))
theorem rnd_sam (N : mN) (b : Nat) : samT N (rnd N b) ∧ rnd N b 0 5 = N 0 5 + 1 := by
  have e0 : ∀ i, i < 3 → rnd N b 0 i = N 0 i := fun i hi => by
    unfold rnd stl
    rw [if_pos rfl, if_neg (by omega), if_neg (by omega), if_neg (by omega), if_neg (by omega), if_neg (by omega)]
    exact if_neg (by omega)
  refine ⟨⟨e0 0 (by omega), e0 1 (by omega), e0 2 (by omega), fun c hc => ?_⟩, ?_⟩
  · unfold rnd stl
    rw [if_neg (by omega), if_neg (by omega), if_neg (by omega), if_neg (by omega)]
    exact if_neg (by omega)
  · unfold rnd stl
    rw [if_pos rfl, if_neg (by omega), if_neg (by omega), if_pos rfl]
    have : wkN N b 0 5 = N 0 5 := if_neg (by omega)
    rw [this]
theorem rbb_sam (N : mN) (b : Nat) : samT N (rbb N b) ∧ rbb N b 0 5 = N 0 5 + 1 := by
  unfold rbb
  split
  · refine ⟨⟨?_, ?_, ?_, fun c hc => ?_⟩, ?_⟩
    · unfold ovN; rw [if_neg (by omega), if_neg (by omega)]
    · unfold ovN; rw [if_neg (by omega), if_neg (by omega)]
    · unfold ovN; rw [if_neg (by omega), if_neg (by omega)]
    · unfold ovN; rw [if_neg (by omega), if_neg (by omega)]
    · unfold ovN; rw [if_neg (by omega), if_pos (by omega)]
  · exact rnd_sam N b
/-- a round as an act: what both sides ask first, and what they do then -/
theorem k_round {S : jS} {T : jT} {X : jS} (h : INV S T X) : ∃ c, f4_isTold S (100 + 8) = some c ∧ ((c = 0 ∨ 999 ≤ S.1 (100 + 8) 5) → f11_round X = some (X, -1)) ∧ (¬ (c = 0 ∨ 999 ≤ S.1 (100 + 8) 5) → ∀ S1 T1, Rem S T S1 T1 → ∃ q S2 X2 w, f10_ruleInForce T1 S1 = some q ∧ f3_roundBy T1 S1 (100 + 8) q = some (S2, w) ∧ f11_round X = some (X2, S2.1 (100 + 8) 7) ∧ INV S2 T1 X2) := by
  obtain ⟨N, hN, hc, hr, h5⟩ := h.get
  have s5 : S.1 (100 + 8) 5 = nI (N 0 5) := hc.1 5 (by omega) (by omega)
  have x5 : X.1 1 3 = nI (N 0 5) := HV5 hr
  refine ⟨_, c_told hN hc, fun z => ?_, fun z S1 T1 hm => ?_⟩
  · unfold f11_round
    rw [r_told hN hr, x5, Option.bind_some]
    by_cases z0 : N 0 0 = 0
    · rw [if_pos z0, if_pos rfl]
    · rw [if_neg z0, if_neg one_ne0]
      rw [if_neg z0, s5, qge_999 (by omega)] at z
      have : N 0 5 = 999 := by
        rcases z with z | z
        · exact absurd z one_ne0
        · omega
      rw [this]; exact if_pos rfl
  · have z0 : ¬ N 0 0 = 0 := fun e => z (Or.inl (if_pos e))
    have z5 : N 0 5 < 999 := by
      have : ¬ (999 : Int32) ≤ S.1 (100 + 8) 5 := fun e => z (Or.inr e)
      rw [s5, qge_999 (by omega)] at this
      omega
    obtain ⟨tn, tb, rc, R, B, Bi, im, gc, gr, go⟩ := id h
    obtain ⟨X1, y1, y2, y3, h1⟩ := INV.rem gc gr go hm
    have hc1 : HIs (hC S1 (100 + 8)) N := hc.mono (fun a i g1 g2 => y3 a i (by omega) (by omega) (by omega))
    have hr1 : HIs (hV X1.1) N := HV_mono hr (fun a i g1 g2 => y2 a i g1 g2)
    obtain ⟨h40, q, ru, q1, q2, q3⟩ := h1.rule
    obtain ⟨S2, s1, s2, s3⟩ := c_by (T := T1) (o := 100 + 8) (by omega) (by omega) hN hc1 q2
    obtain ⟨X2, t1, t2, t3⟩ := r_by hN hr1 h40 q3
    have hb := (bw_le ru N).2
    have n5 : ¬ nI (N 0 5) = 999 := fun e => by have := (nI_eq (b := 999) (by omega) (by omega)).mp e; omega
    have e7 : X2.1 1 4 = S2.1 (100 + 8) 7 := (HV7 t2).trans (s2.1 7 (by omega) (by omega)).symm
    refine ⟨q, S2, X2, _, q1, s1, ?_, INV.now h1 (N' := rbb N (bwN ru N)) (fun M m1 m2 m3 m4 => ?_) s2 t2 (fun a i g1 g2 g3 => s3 a i (by omega) (by omega) (by omega) (by omega) g3) t3.q (fun i g1 g2 => t3 1 i (by omega) (by omega) (by omega) (by omega) (by omega) (by omega)) ((t3 0 40 (by omega) (by omega) (by omega) (by omega) (by omega) (by omega)).trans h40)⟩
    · unfold f11_round
      rw [r_told hN hr, x5, Option.bind_some, if_neg z0, if_neg one_ne0, if_neg n5, y1, Option.bind_some, t1, Option.bind_some, e7]
    · obtain ⟨r1, r2⟩ := rbb_sam N (bwN ru N)
      refine ⟨rbb_ok hN hb, (HIs.sam hN m1 hc1 m2).tr r1, by omega⟩
/-- a round of told beats -/
theorem k_play {S : jS} {T : jT} {X : jS} (h : INV S T X) (a0 : Int32) : ∃ c, f4_isOver S (100 + 8) = some c ∧ ((¬ c = 0 ∨ 999 ≤ S.1 (100 + 8) 5 ∨ a0 < 1 ∨ 60 < a0) → f11_play X a0 = some (X, -1)) ∧ (¬ (¬ c = 0 ∨ 999 ≤ S.1 (100 + 8) 5 ∨ a0 < 1 ∨ 60 < a0) → ∀ S1 T1, Rem S T S1 T1 → ∃ S2 X2 w, f3_roundOf S1 (100 + 8) a0 = some (S2, w) ∧ f11_play X a0 = some (X2, w) ∧ INV S2 T1 X2) := by
  obtain ⟨N, hN, hc, hr, h5⟩ := h.get
  have s5 : S.1 (100 + 8) 5 = nI (N 0 5) := hc.1 5 (by omega) (by omega)
  have x5 : X.1 1 3 = nI (N 0 5) := HV5 hr
  have m1 : (1 : Int32).toInt64 = 1 := by decide
  have m60 : (60 : Int32).toInt64 = 60 := by decide
  by_cases ov : overN N
  · refine ⟨1, (c_over hN hc).1 ov, fun _ => ?_, fun z => absurd (Or.inl one_ne0) z⟩
    unfold f11_play
    rw [r_told hN hr, x5, Option.bind_some, (r_done hN hr).1 ov, Option.bind_some, if_neg one_ne0]
    rw [ite_self, ite_self]
  · have z0 : ¬ N 0 0 = 0 := fun e => by
      obtain ⟨k1, k2, k3, k4, k5, k6, k7, k8, k9, k10⟩ := hN
      have k2' : N 0 2 = 0 := by omega
      rw [k2'] at k5
      have : N 0 4 = 0 := by omega
      exact ov (Or.inl (by rw [this]; decide))
    have hpl : f11_play X a0 = (if nI (N 0 5) = 999 then some (X, -1) else if 1 ≤ a0 ∧ a0 ≤ 60 then Option.bind (f11_keepsAct X) (fun r4 => Option.bind (f11_goes (wI r4.1 0 40 a0)) (fun r5 => some (wI r5.1 0 40 (-1), r5.2))) else some (X, -1)) := by
      unfold f11_play
      rw [r_told hN hr, x5, Option.bind_some, (r_done hN hr).2 ov, Option.bind_some, r_in a0 m1 m60, Option.bind_some, if_neg z0, if_neg one_ne0, if_pos rfl]
      by_cases c : 1 ≤ a0 ∧ a0 ≤ 60
      · rw [if_pos c, if_pos c, if_neg one_ne0]
      · rw [if_neg c, if_neg c, if_pos rfl]
    refine ⟨0, (c_over hN hc).2 ov, fun z => ?_, fun z S1 T1 hm => ?_⟩
    · rw [hpl]
      by_cases e9 : nI (N 0 5) = 999
      · rw [if_pos e9]
      · rw [if_neg e9, if_neg]
        rintro ⟨c1, c2⟩
        rw [s5, qge_999 (by omega)] at z
        rcases z with z | z | z | z
        · exact z rfl
        · have : N 0 5 = 999 := by omega
          rw [this] at e9; exact e9 rfl
        · grind
        · grind
    · have z5 : N 0 5 < 999 := by
        have : ¬ (999 : Int32) ≤ S.1 (100 + 8) 5 := fun e => z (Or.inr (Or.inl e))
        rw [s5, qge_999 (by omega)] at this
        omega
      have z1 : ¬ a0 < 1 := fun e => z (Or.inr (Or.inr (Or.inl e)))
      have z6 : ¬ 60 < a0 := fun e => z (Or.inr (Or.inr (Or.inr e)))
      have c16 : 1 ≤ a0 ∧ a0 ≤ 60 := ⟨by grind, by grind⟩
      obtain ⟨b, hb, rfl⟩ := nI_of (x := a0) (by grind)
      have hb6 : b ≤ 60 := (qle_60 hb).mp c16.2
      obtain ⟨tn, tb, rc, R, B, Bi, im, gc, gr, go⟩ := id h
      obtain ⟨X1, y1, y2, y3, h1⟩ := INV.rem gc gr go hm
      have hc1 : HIs (hC S1 (100 + 8)) N := hc.mono (fun a i g1 g2 => y3 a i (by omega) (by omega) (by omega))
      have hr1 : HIs (hV (wI X1 0 40 (nI b)).1) N := HV_mono hr (fun a i g1 g2 => by rw [wI_ne (by omega)]; exact y2 a i g1 g2)
      have n5 : ¬ nI (N 0 5) = 999 := fun e => by have := (nI_eq (b := 999) (by omega) (by omega)).mp e; omega
      obtain ⟨S2, s1, s2, s3, s4⟩ := c_round (o := 100 + 8) (b := b) (by omega) hN hc1 hb6
      obtain ⟨X2, t1, t2, t3⟩ := r_gb (b := b) hN hr1 (wI_self _ _ _ _) hb6
      have eo : ¬ ovB N = true := fun e => ov (ovB_t.mp e)
      have e1 : rbs N b = rnd N b 0 4 := if_neg eo
      have e2 : rbb N b = rnd N b := if_neg eo
      rw [e1] at t1
      rw [e2] at t2
      refine ⟨S2, wI X2 0 40 (-1), _, s1, ?_, INV.now h1 (N' := rnd N b) (fun M m1 m2 m3 m4 => ?_) s2 (HV_mono t2 (fun a i g1 g2 => wI_ne (by omega))) (fun a i g1 g2 g3 => s3 a i (by omega) (by omega) (by omega) (by omega)) (fun a i g1 g2 => ?_) (fun i g1 g2 => ?_) (wI_self _ _ _ _)⟩
      · rw [hpl, if_neg n5, if_pos c16, y1, Option.bind_some, t1, Option.bind_some]
      · obtain ⟨r1, r2⟩ := rnd_sam N b
        exact ⟨rnd_ok hN hb6, (HIs.sam hN m1 hc1 m2).tr r1, by omega⟩
      · rw [wI_g, if_neg (by omega), t3.q a i g1 g2, wI_g, if_neg (by omega)]
      · rw [wI_ne (by omega), t3 1 i (by omega) (by omega) (by omega) (by omega) (by omega) (by omega), wI_ne (by omega)]
