/-! party -/
theorem nI_bv (x : Int32) : nI x.toBitVec.toNat = x := by unfold nI; apply Int32.toBitVec_inj.mp; simp
theorem zD_ok : DOk zN := by
  refine ⟨by decide, by decide, by decide, ⟨by decide, by decide, rfl, rfl, rfl, fun g hg => ⟨rfl, rfl⟩⟩, fun c hc => ?_, fun g hg => ?_⟩
  · exact absurd hc (by show ¬ c < 0; omega)
  · exact absurd hg (by show ¬ g < 0; omega)
theorem DOk.nok {N : mN} (h : DOk N) (hP : 4 ≤ N 0 0) : NOk N := by
  obtain ⟨a1, a2, a3, ⟨a4, a5, a6, a7, a8, a9⟩, a10, a11⟩ := h
  have p1 : 0 < 2 ^ N 0 1 := Nat.pos_of_ne_zero (by simp)
  have p2 : 0 < 2 ^ N 0 2 := Nat.pos_of_ne_zero (by simp)
  refine ⟨a1, a2, a3, by omega, by omega, by omega, by omega, Or.inl (by omega), a10, fun g hg => ?_⟩
  obtain ⟨b1, b2, b3, b4⟩ := a11 g hg
  obtain ⟨b5, b6⟩ := a9 g hg
  exact ⟨b1, b2, ⟨b3, b4⟩, by omega, by omega⟩
theorem clr_g (S : jS) (a i : Nat) : (wI (wI (wI (wI (wI (wI (wI (wI S 4 0 0) 4 1 0) 4 2 0) 4 3 0) 4 4 0) 4 5 0) 4 6 ((-1))) 4 7 0).1 a i = if a = 4 ∧ i = 6 then -1 else if a = 4 ∧ i ≤ 7 then 0 else S.1 a i := by
  simp only [wI_g]
  by_cases c : a = 4
  · subst c
    have : i = 0 ∨ i = 1 ∨ i = 2 ∨ i = 3 ∨ i = 4 ∨ i = 5 ∨ i = 6 ∨ i = 7 ∨ 7 < i := by omega
    rcases this with h | h | h | h | h | h | h | h | h
    · subst h; rfl
    · subst h; rfl
    · subst h; rfl
    · subst h; rfl
    · subst h; rfl
    · subst h; rfl
    · subst h; rfl
    · subst h; rfl
    · rw [if_neg (by omega), if_neg (by omega), if_neg (by omega), if_neg (by omega), if_neg (by omega), if_neg (by omega), if_neg (by omega), if_neg (by omega), if_neg (by omega), if_neg (by omega)]
  · rw [if_neg (by omega), if_neg (by omega), if_neg (by omega), if_neg (by omega), if_neg (by omega), if_neg (by omega), if_neg (by omega), if_neg (by omega), if_neg (by omega), if_neg (by omega)]
/-- the texts are read alike -/
theorem k_prd {S X : jS} {tn : Nat} {tb : Nat → Nat} (ot : TpOk tn tb) (hc : CTp S tn tb) (hr : RTp X tn tb) : ∃ S' X', f11_readsAll X = some (wI X' 0 19 0, ()) ∧ fR X X' ∧ fC S S' ∧ ((∃ f, f ≠ 0 ∧ f < 2 ^ 31 ∧ f5_read S = some (S', nI f) ∧ X'.1 0 21 = nI f) ∨ (∃ N', f5_read S = some (S', 0) ∧ X'.1 0 21 = 0 ∧ DOk N' ∧ 4 ≤ N' 0 0 ∧ HIs (hC S' 4) N' ∧ RD X' N')) := by
  have l := ot.1
  have c0 : (wI (wI (wI (wI (wI X 0 20 0) 0 21 0) 0 24 0) 0 25 0) 0 26 0) = (wI (wI (wI (wI (wI X 0 20 0) 0 21 0) 0 24 0) 0 25 0) 0 26 0) := rfl
  generalize e1 : wI (wI (wI (wI (wI X 0 20 0) 0 21 0) 0 24 0) 0 25 0) 0 26 0 = X1 at c0
  have x1 : ∀ a i, X1.1 a i = if a = 0 ∧ (i = 20 ∨ i = 21 ∨ i = 24 ∨ i = 25 ∨ i = 26) then 0 else X.1 a i := fun a i => by
    rw [← e1]; simp only [wI_g]; grind
  have hF : jF = 4996 + 1 + 1 + 1 + 1 := rfl
  have L1 : f11_readsAll_L1 jF X1 0 = some (wI (wI (wI X1 14 0 0) 14 1 0) 14 2 0) := by
    have i0 : inb 0 3 = true := by decide
    have i1 : inb (0 + 1) 3 = true := by decide
    have i2 : inb (0 + 1 + 1) 3 = true := by decide
    have k0 : (0 : Int32).toNatClampNeg = 0 := by decide
    have k1 : (0 + 1 : Int32).toNatClampNeg = 1 := by decide
    have k2 : (0 + 1 + 1 : Int32).toNatClampNeg = 2 := by decide
    rw [hF, f11_readsAll_L1, if_neg (by decide), i0, if_pos rfl, k0, f11_readsAll_L1, if_neg (by decide), i1, if_pos rfl, k1, f11_readsAll_L1, if_neg (by decide), i2, if_pos rfl, k2, f11_readsAll_L1, if_pos (by decide)]
  generalize e2 : wI (wI (wI X1 14 0 0) 14 1 0) 14 2 0 = X2 at L1
  have x2 : ∀ a i, X2.1 a i = if a = 14 ∧ i ≤ 2 then 0 else X1.1 a i := fun a i => by
    rw [← e2]; simp only [wI_g]; grind
  have R0 : R5 X X2 tn tb 0 zN := by
    refine ⟨⟨?_, fun i hi => ?_⟩, ?_, ?_, ⟨?_, ?_, ?_, fun c hc => ?_, fun g hg => ?_⟩, fun n a i k => ?_⟩
    · rw [x2, if_neg (by omega), x1, if_neg (by omega)]; exact hr.1
    · rw [x2, if_neg (by omega), x1, if_neg (by omega)]; exact hr.2 i hi
    · rw [x2, if_neg (by omega), x1, if_pos (by omega)]; rfl
    · rw [x2, if_neg (by omega), x1, if_pos (by omega)]
    · rw [x2, if_pos (by omega)]; rfl
    · rw [x2, if_pos (by omega)]; rfl
    · rw [x2, if_pos (by omega)]; rfl
    · exact absurd hc (by show ¬ c < 0; omega)
    · exact absurd hg (by show ¬ g < 0; omega)
    · unfold kpR at k
      rw [x2, if_neg (by omega), x1, if_neg (by omega)]
  generalize e3 : wI (wI (wI (wI (wI (wI (wI (wI (wI (wI (wI (wI (wI S 1 2 0) 1 3 0) 1 6 0) 4 0 0) 4 1 0) 4 2 0) 4 3 0) 4 4 0) 4 5 0) 4 6 ((-1))) 4 7 0) 3 5 0) 3 6 0 = S1
  have rdE : f5_read S = f5_read_L1 jF S1 0 := by
    rw [← e3]; rfl
  have s1 : ∀ a i, S1.1 a i = if a = 3 ∧ i = 6 then 0 else if a = 3 ∧ i = 5 then 0 else if a = 4 ∧ i = 6 then -1 else if a = 4 ∧ i ≤ 7 then 0 else if a = 1 ∧ i = 6 then 0 else if a = 1 ∧ i = 3 then 0 else if a = 1 ∧ i = 2 then 0 else S.1 a i := fun a i => by
    rw [← e3, wI_g, wI_g, clr_g, wI_g, wI_g, wI_g]
  have s1n : ∀ a i, ¬ (a = 3 ∧ (i = 5 ∨ i = 6)) → ¬ (a = 4 ∧ i ≤ 7) → ¬ (a = 1 ∧ (i = 2 ∨ i = 3 ∨ i = 6)) → S1.1 a i = S.1 a i := fun a i u v w => by
    rw [s1, if_neg (by omega), if_neg (by omega), if_neg (by omega), if_neg (by omega), if_neg (by omega), if_neg (by omega), if_neg (by omega)]
  have C0 : C5 S S1 tn tb 0 zN 0 0 := by
    refine ⟨⟨?_, fun i hi => ?_⟩, ?_, ⟨fun i h1 h2 => ?_, ?_, fun c hc => ?_, fun a g _ _ hg => ?_⟩, ?_, ?_, fun a i k => ?_⟩
    · rw [s1n _ _ (by omega) (by omega) (by omega)]; exact hc.1
    · rw [s1n _ _ (by omega) (by omega) (by omega)]; exact hc.2 i hi
    · rw [s1, if_neg (by omega), if_neg (by omega), if_neg (by omega), if_neg (by omega), if_neg (by omega), if_neg (by omega), if_pos ⟨rfl, rfl⟩]; rfl
    · show S1.1 4 i = _
      rw [s1, if_neg (by omega), if_neg (by omega), if_neg (by omega), if_pos (by omega)]; rfl
    · show S1.1 4 6 = _
      rw [s1, if_neg (by omega), if_neg (by omega), if_pos (by omega)]; decide
    · exact absurd hc (by show ¬ c < 0; omega)
    · exact absurd hg (by show ¬ g < 0; omega)
    · rw [s1, if_pos (by omega)]
    · rw [s1, if_neg (by omega), if_pos (by omega)]; rfl
    · unfold kpC at k
      exact s1n _ _ (by omega) (by omega) (by omega)
  obtain ⟨S', X', g1, g2, g3, g4⟩ := k_rd ot (tn + 1) 0 S1 X2 zN 0 jF 0 jF (by omega) C0 R0 (by omega) (by omega) (by omega) zD_ok (fun _ => ⟨rfl, rfl⟩) (fun z => absurd rfl z) rfl (by unfold jF; omega)
  refine ⟨S', X', ?_, g2, g3, ?_⟩
  · unfold f11_readsAll f11_starts
    rw [Option.bind_some]
    dsimp only
    rw [e1, L1, Option.bind_some, show f11_readsAll_L2 jF X2 0 1 = some X' from g1, Option.bind_some]
  · rw [rdE]; exact g4
/-- the reference starts a party -/
theorem r_start {X : jS} {N : mN} (hD : DOk N) (hP : 4 ≤ N 0 0) (hr : RD X N) : ∃ X1, (Option.bind (f11_party_L1 jF X 0) (fun y2 => Option.bind (f11_copies (wI y2 1 8 0) 15 6 7 6) (fun r3 => Option.bind (f11_copies r3.1 16 7 11 7) (fun r4 => Option.bind (f11_copies r4.1 17 7 12 7) (fun r5 => Option.bind (f11_copies r5.1 18 7 13 7) (fun r6 => Option.bind (f11_begins r6.1) (fun r7 => some (wI r7.1 0 44 0, (wI r7.1 0 44 0).1 1 2)))))))) = some (X1, nI (N 0 2)) ∧ HIs (hV X1.1) N ∧ RTo X1.1 N ∧ X1.1 1 8 = 0 ∧ X1.1 0 44 = 0 ∧ (∀ a i, (a = 0 ∧ i ≠ 44) ∨ (a = 1 ∧ 9 ≤ i) ∨ (8 ≤ a ∧ a ≤ 10) ∨ 14 ≤ a → X1.1 a i = X.1 a i) := by
  obtain ⟨d0, d1, d2, d3, d4⟩ := hr
  have hN := hD.nok hP
  have l1 := hD.2.1
  have l2 := hD.2.2.1
  have hF : jF = 4996 + 1 + 1 + 1 + 1 := rfl
  have L1 : f11_party_L1 jF X 0 = some (wI (wI (wI X 1 0 (X.1 14 0)) 1 1 (X.1 14 1)) 1 2 (X.1 14 2)) := by
    have i0 : inb 0 3 = true := by decide
    have i1 : inb (0 + 1) 3 = true := by decide
    have i2 : inb (0 + 1 + 1) 3 = true := by decide
    have j0 : inb 0 11 = true := by decide
    have j1 : inb (0 + 1) 11 = true := by decide
    have j2 : inb (0 + 1 + 1) 11 = true := by decide
    have k0 : (0 : Int32).toNatClampNeg = 0 := by decide
    have k1 : (0 + 1 : Int32).toNatClampNeg = 1 := by decide
    have k2 : (0 + 1 + 1 : Int32).toNatClampNeg = 2 := by decide
    rw [hF, f11_party_L1, if_neg (by decide), i0, if_pos rfl, j0, if_pos rfl, k0, f11_party_L1, if_neg (by decide), i1, if_pos rfl, j1, if_pos rfl, k1, f11_party_L1, if_neg (by decide), i2, if_pos rfl, j2, if_pos rfl, k2, f11_party_L1, if_pos (by decide), wI_ne (by omega), wI_ne (by omega), wI_ne (by omega)]
  rw [L1, Option.bind_some, d0, d1, d2]
  generalize e1 : wI (wI (wI (wI X 1 0 (nI (N 0 0))) 1 1 (nI (N 0 1))) 1 2 (nI (N 0 2))) 1 8 0 = A
  have xA : ∀ a i, A.1 a i = if a = 1 ∧ i = 8 then 0 else if a = 1 ∧ i = 2 then nI (N 0 2) else if a = 1 ∧ i = 1 then nI (N 0 1) else if a = 1 ∧ i = 0 then nI (N 0 0) else X.1 a i := fun a i => by
    rw [← e1]; simp only [wI_g]
  obtain ⟨B, b1, b2⟩ := r_copies (S := A) (a := 15) (b := 7) (n := 6) (by omega) (by omega)
  obtain ⟨C, c1, c2⟩ := r_copies (S := B) (a := 16) (b := 11) (n := 7) (by omega) (by omega)
  obtain ⟨D, e2, e3⟩ := r_copies (S := C) (a := 17) (b := 12) (n := 7) (by omega) (by omega)
  obtain ⟨E, f1, f2⟩ := r_copies (S := D) (a := 18) (b := 13) (n := 7) (by omega) (by omega)
  rw [b1, Option.bind_some]
  dsimp only
  rw [c1, Option.bind_some]
  dsimp only
  rw [e2, Option.bind_some]
  dsimp only
  rw [f1, Option.bind_some]
  dsimp only
  have xE : ∀ a i, ¬ (a = 7 ∨ a = 11 ∨ a = 12 ∨ a = 13) → E.1 a i = A.1 a i := fun a i h => by
    rw [f2, if_neg (by omega), e3, if_neg (by omega), c2, if_neg (by omega), b2, if_neg (by omega)]
  have x7 : ∀ c, c < N 0 1 → E.1 7 c = nI (N 1 c) := fun c hc => by
    rw [f2, if_neg (by omega), e3, if_neg (by omega), c2, if_neg (by omega), b2, if_pos ⟨rfl, by omega⟩, xA, if_neg (by omega), if_neg (by omega), if_neg (by omega), if_neg (by omega)]; exact d3 c hc
  have x11 : ∀ g, g < N 0 2 → E.1 11 g = nI (N 2 g) ∧ E.1 12 g = nI (N 3 g) ∧ E.1 13 g = nI (N 4 g) := fun g hg => by
    obtain ⟨g1, g2, g3⟩ := d4 g hg
    refine ⟨?_, ?_, ?_⟩
    · rw [f2, if_neg (by omega), e3, if_neg (by omega), c2, if_pos ⟨rfl, by omega⟩, b2, if_neg (by omega), xA, if_neg (by omega), if_neg (by omega), if_neg (by omega), if_neg (by omega)]; exact g1
    · rw [f2, if_neg (by omega), e3, if_pos ⟨rfl, by omega⟩, c2, if_neg (by omega), b2, if_neg (by omega), xA, if_neg (by omega), if_neg (by omega), if_neg (by omega), if_neg (by omega)]; exact g2
    · rw [f2, if_pos ⟨rfl, by omega⟩, e3, if_neg (by omega), c2, if_neg (by omega), b2, if_neg (by omega), xA, if_neg (by omega), if_neg (by omega), if_neg (by omega), if_neg (by omega)]; exact g3
  have x1 : ∀ i, E.1 1 i = A.1 1 i := fun i => xE 1 i (by omega)
  let M : mN := fun a i => if a = 0 ∧ i ≤ 2 then N 0 i else if a = 1 then N 1 i else if a = 0 ∧ i = 6 then (hV E.1 0 6 + 1).toBitVec.toNat else (hV E.1 a i).toBitVec.toNat
  have hM : HIs (hV E.1) M := by
    refine ⟨fun i h1 h2 => ?_, ?_, fun c hc => ?_, fun a g h1 h2 hg => ?_⟩
    · show _ = nI (if (0 : Nat) = 0 ∧ i ≤ 2 then N 0 i else if (0 : Nat) = 1 then N 1 i else if (0 : Nat) = 0 ∧ i = 6 then _ else _)
      by_cases c : i ≤ 2
      · rw [if_pos ⟨rfl, c⟩]
        have : i = 0 ∨ i = 1 ∨ i = 2 := by omega
        show hVs E.1 i = _
        rcases this with h | h | h <;> subst h
        · show E.1 1 0 = _
          rw [x1, xA, if_neg (by omega), if_neg (by omega), if_neg (by omega), if_pos ⟨rfl, rfl⟩]
        · show E.1 1 1 = _
          rw [x1, xA, if_neg (by omega), if_neg (by omega), if_pos ⟨rfl, rfl⟩]
        · show E.1 1 2 = _
          rw [x1, xA, if_neg (by omega), if_pos ⟨rfl, rfl⟩]
      · rw [if_neg (fun y => c y.2), if_neg (by omega), if_neg (fun y => h2 y.2), nI_bv]
    · show _ = nI (if (0 : Nat) = 0 ∧ 6 ≤ 2 then N 0 6 else if (0 : Nat) = 1 then N 1 6 else if (0 : Nat) = 0 ∧ 6 = 6 then _ else _) - 1
      rw [if_neg (by omega), if_neg (by omega), if_pos ⟨rfl, rfl⟩, nI_bv]
      grind
    · show E.1 7 c = nI (N 1 c)
      exact x7 c hc
    · show _ = nI (if a = 0 ∧ g ≤ 2 then N 0 g else if a = 1 then N 1 g else if a = 0 ∧ g = 6 then _ else _)
      rw [if_neg (by omega), if_neg (by omega), if_neg (by omega), nI_bv]
  obtain ⟨G, g1, g2, g3⟩ := r_begins (X := E) (N := M) (M := N) hN hM ⟨rfl, rfl, rfl, fun c hc => rfl⟩ hD.2.2.2.1 (fun g hg => x11 g hg)
  rw [g1, Option.bind_some]
  have gA : ∀ a i, (a = 0 ∨ (a = 1 ∧ 9 ≤ i) ∨ (8 ≤ a ∧ a ≤ 10) ∨ 14 ≤ a) → G.1 a i = X.1 a i := fun a i h => by
    rw [g3 a i (by omega), xE a i (by omega), xA, if_neg (by omega), if_neg (by omega), if_neg (by omega), if_neg (by omega)]
  have hvG : hV (wI G 0 44 0).1 = hV G.1 := by
    funext a i
    unfold hV hVs
    simp (disch := omega) only [wI_ne]
  refine ⟨wI G 0 44 0, ?_, by rw [hvG]; exact g2, fun g hg => ?_, ?_, wI_self _ _ _ _, fun a i h => ?_⟩
  · dsimp only
    rw [wI_ne (by omega)]
    have : G.1 1 2 = nI (N 0 2) := g2.1 2 (by omega) (by omega)
    rw [this]
  · rw [wI_ne (by omega), wI_ne (by omega), wI_ne (by omega), g3 _ _ (by omega), g3 _ _ (by omega), g3 _ _ (by omega)]; exact x11 g hg
  · rw [wI_ne (by omega), g3 _ _ (by omega), x1, xA, if_pos ⟨rfl, rfl⟩]
  · rw [wI_g, if_neg (by omega)]; exact gA a i (by omega)
theorem k_party {S : jS} {T : jT} {X : jS} (h : INV S T X) : ∃ S1 X1 v, f10_party S = some (S1, v) ∧ f11_party X = some (X1, v) ∧ INV S1 T X1 := by
  obtain ⟨tn, tb, rc, R, B, Bi, im, hc, hr, ho⟩ := id h
  obtain ⟨S', X', g1, g2, g3, g4⟩ := k_prd ho.1 hc.1 hr.1
  have ia : INV (wI S' 1 1 0) T (wI X' 0 19 0) := INV.tp hc hr ho (tn' := 0) (tb' := tb) ⟨by omega, fun i hi => by omega⟩ ⟨wI_self _ _ _ _, fun i hi => by omega⟩ ⟨wI_self _ _ _ _, fun i hi => by omega⟩ (fC.w g3 (by omega)) (fun a i k => by
    have k' := k; unfold kpR at k'
    rw [wI_g, if_neg (by omega)]; exact g2 _ a i k)
  have f21 : (wI X' 0 19 0).1 0 21 = X'.1 0 21 := wI_nj (by omega)
  unfold f10_party f11_party
  rw [g1, Option.bind_some]
  dsimp only
  rw [f21]
  rcases g4 with ⟨f, f1, f2, f3, f4⟩ | ⟨N, f3, f4, f5, f6, f7, f8⟩
  · refine ⟨wI S' 1 1 0, wI X' 0 19 0, (-2) - nI f, ?_, ?_, ia⟩
    · rw [f3, Option.bind_some, if_neg (show ¬ (S', nI f).2 = 0 from fun z => f1 (nI_j (b := 0) f2 (by omega) z))]
    · rw [f4, if_neg (by rw [show (0 : Int32) = nI 0 from rfl, nI_leI f2 (by omega)]; omega)]
  · obtain ⟨X1, x1, x2, x3, x4, x5, x6⟩ := r_start (X := wI X' 0 19 0) f5 f6 (by
      obtain ⟨d1, d2, d3, d4, d5⟩ := f8
      refine ⟨by rw [wI_ne (by omega)]; exact d1, by rw [wI_ne (by omega)]; exact d2, by rw [wI_ne (by omega)]; exact d3, fun c hc => by rw [wI_ne (by omega)]; exact d4 c hc, fun g hg => by rw [wI_ne (by omega), wI_ne (by omega), wI_ne (by omega)]; exact d5 g hg⟩)
    have hN := f5.nok f6
    rw [f4, if_pos (by decide), x1, f3, Option.bind_some, if_pos rfl]
    generalize hSa : wI S' 1 1 0 = Sa at *
    generalize hXa : wI X' 0 19 0 = Xa at *
    have hH : HIs (hC Sa 4) N := by rw [← hSa]; exact f7.mono (fun a i u v => wI_ne (by omega))
    unfold f0_startParty
    rw [cp_eq, Option.bind_some]
    dsimp only
    rw [cp_eq, Option.bind_some, Option.bind_some]
    dsimp only
    generalize e1 : cpF Sa (100 + 1) 4 = S2
    generalize e2 : cpF S2 (100 + 8) 4 = S3
    have t1 : HIs (hC S2 (100 + 1)) N := by rw [← e1]; exact cp_H (by omega) hN hH
    have q1 : ∀ a i, (a < 101 ∨ 107 < a) → S2.1 a i = Sa.1 a i := fun a i u => by rw [← e1]; exact cp_fr (by omega) (by omega)
    have t2 : HIs (hC S3 (100 + 8)) N := by rw [← e2]; exact cp_H (by omega) hN (hH.mono (fun a i u v => q1 a i (by omega)))
    have q2 : ∀ a i, (a < 108 ∨ 114 < a) → S3.1 a i = S2.1 a i := fun a i u => by rw [← e2]; exact cp_fr (by omega) (by omega)
    have wv : ∀ a i, (wI (wI S3 100 4 0) 100 8 0).1 a i = if a = 100 ∧ (i = 4 ∨ i = 8) then 0 else S3.1 a i := fun a i => by simp only [wI_g]; grind
    have q3 : ∀ a i, ¬ (a = 100 ∧ (i = 4 ∨ i = 8)) → (a < 101 ∨ 114 < a) → (wI (wI S3 100 4 0) 100 8 0).1 a i = Sa.1 a i := fun a i u v => by
      rw [wv, if_neg u, q2 a i (by omega), q1 a i (by omega)]
    obtain ⟨tn', tb', rc', R', B', Bi', im', hc', hr', ho'⟩ := ia
    obtain ⟨-, -, -, ⟨np, n1, n2, -⟩, -, n5, n6⟩ := hc'.2.2.1
    refine ⟨_, X1, nI (N 0 2), ?_, rfl, INV.act (B1 := ((N, N), (fun _ => zN, 0), (0, fun _ => 0, fun _ => 0, fun _ => 0), (bFo B', bSe B'))) hc' hr' ho' ⟨?_, ?_, ?_, ⟨np, n1, ?_, fun j hj => ?_⟩, ⟨?_, fun k hk => ?_⟩, ?_, ?_⟩ ⟨?_, ?_, ?_, fun j hj => ?_, ⟨?_, fun k hk => ?_⟩, ?_, ?_⟩ ⟨hN, ?_, hN, ⟨rfl, rfl, rfl, fun _ _ => rfl⟩, f5.2.2.2.1, by show 0 ≤ 20; omega, fun j hj => ?_, by show 0 ≤ 10; omega, fun k hk => ?_, ho'.2.2.1.2.2.2.2.2.2.2.2.2.1, ho'.2.2.1.2.2.2.2.2.2.2.2.2.2⟩ (fun a i u v => q3 a i (by omega) (by omega)) (fun _ _ _ => rfl) (fun _ _ => rfl) (fun a i u v => x6 a i (by omega))⟩
    · have : (wI (wI S3 100 4 0) 100 8 0).1 (100 + 8) 2 = nI (N 0 2) := by
        rw [wv, if_neg (by omega)]; exact t2.1 2 (by omega) (by omega)
      rw [this]
    · exact t2.mono (fun a i u v => by rw [wv, if_neg (by omega)])
    · exact t1.mono (fun a i u v => by rw [wv, if_neg (by omega), q2 a i (by omega)])
    · rw [wv, if_pos (by omega)]; rfl
    · rw [q3 _ _ (by omega) (by omega)]; exact n2
    · exact absurd hj (by show ¬ j < 0; omega)
    · rw [wv, if_pos (by omega)]; rfl
    · exact absurd hk (by show ¬ k < 0; omega)
    · rw [q3 _ _ (by omega) (by omega)]; exact n5
    · rw [q3 _ _ (by omega) (by omega)]; exact n6
    · refine ⟨fun i a b => x2.1 i a b, x2.2.1, x2.2.2.1, fun a g u v hg => ?_⟩
      have e : hV (VC X1) a g = hV X1.1 a g := by
        unfold hV VC
        rw [if_neg (by omega), if_neg (by omega), if_neg (by omega), if_neg (by omega), if_neg (by omega)]
      rw [e]; exact x2.2.2.2 a g u v hg
    · exact fun g hg => x3 g hg
    · exact x5
    · exact absurd hj (by show ¬ j < 0; omega)
    · exact x4
    · exact absurd hk (by show ¬ k < 0; omega)
    · show X1.1 1 10 = _
      rw [x6 _ _ (by omega)]; exact hr'.2.2.1.2.2.2.2.2.1
    · show X1.1 1 9 = _
      rw [x6 _ _ (by omega)]; exact hr'.2.2.1.2.2.2.2.2.2
    · show N 0 5 ≤ 999
      rw [f5.2.2.2.1.2.2.1]; omega
    · exact absurd hj (by show ¬ j < 0; omega)
    · exact absurd hk (by show ¬ k < 0; omega)
