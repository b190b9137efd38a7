/-! what the reference sees against the class's signs -/
theorem wgo_v {w : List Int32} : ∀ {l : List (Nat × Int32)}, wgo w l = 2 ∨ ∃ q ∈ l, w = jb q.1 ∧ wgo w l = q.2 := by
  intro l
  induction l with
  | nil => exact Or.inl rfl
  | cons q r ih =>
    rw [wgo]
    by_cases c : w = jb q.1
    · rw [if_pos c]; exact Or.inr ⟨q, List.mem_cons_self, c, rfl⟩
    · rw [if_neg c]
      rcases ih with h | ⟨q', h1, h2, h3⟩
      · exact Or.inl h
      · exact Or.inr ⟨q', List.mem_cons_of_mem _ h1, h2, h3⟩
/-- the numbers that words have -/
def wV : List Int32 := [2, -1, -2, -3, -4, -5, -6, -7, -8, -9, -10, -24, -25, -22, -21, -23, 5, 6, 7]
theorem wT_wV : ∀ q ∈ wT, q.2 ∈ wV ∧ q.2 ≠ 2 ∧ q.1 < 18 := by decide
theorem wsg_in (w : List Int32) : wsg w ∈ wV := by
  rcases wgo_v (w := w) (l := wT) with h | ⟨q, h1, -, h3⟩
  · unfold wsg; rw [h]; decide
  · unfold wsg; rw [h3]; exact (wT_wV q h1).1
theorem wT_un : ∀ q ∈ wT, ∀ q' ∈ wT, q'.2 = q.2 → q' = q := by decide
theorem wT_sg : ∀ q ∈ wT, wsg (jb q.1) = q.2 ∧ jb q.1 ≠ [] := by decide +kernel
theorem wsg_eq {w : List Int32} {q : Nat × Int32} (hq : q ∈ wT) : wsg w = q.2 ↔ w = jb q.1 := by
  constructor
  · intro e
    rcases wgo_v (w := w) (l := wT) with h | ⟨q', h1, h2, h3⟩
    · exact absurd (e.symm.trans h) (wT_wV q hq).2.1
    · have := wT_un q hq q' h1 (h3.symm.trans e)
      rw [← this]; exact h2
  · intro e; rw [e]; exact (wT_sg q hq).1
theorem tk_cases {tn : Nat} {tb : Nat → Nat} (s : Nat) :
    (tn ≤ s ∧ tkS tn tb s = 1 ∧ tkE tn tb s = s) ∨
    (s < tn ∧ isL (tb s) = true ∧ ¬ isD (tb s) = true ∧ tkS tn tb s = wsg (wW tn tb s) ∧ tkE tn tb s = run isL tn tb s) ∨
    (s < tn ∧ ¬ isL (tb s) = true ∧ isD (tb s) = true ∧ (tkS tn tb s = if run isD tn tb s - s ≤ 5 then 3 else 4) ∧ tkE tn tb s = run isD tn tb s) ∨
    (s < tn ∧ ¬ isL (tb s) = true ∧ ¬ isD (tb s) = true ∧ ((tb s = 60 ∧ tkS tn tb s = -17) ∨ (tb s = 62 ∧ tkS tn tb s = -19)) ∧ (s + 1 < tn ∧ tb (s + 1) = 61) ∧ tkE tn tb s = s + 2) ∨
    (s < tn ∧ ¬ isL (tb s) = true ∧ ¬ isD (tb s) = true ∧ ¬ ((tb s = 60 ∨ tb s = 62) ∧ s + 1 < tn ∧ tb (s + 1) = 61) ∧ tkS tn tb s = msg (tb s) ∧ tkE tn tb s = s + 1) := by
  unfold tkS tkE
  by_cases c0 : tn ≤ s
  · rw [if_pos c0, if_pos c0]; exact Or.inl ⟨c0, rfl, rfl⟩
  · rw [if_neg c0, if_neg c0]
    refine Or.inr ?_
    by_cases c1 : isL (tb s) = true
    · rw [if_pos c1, if_pos c1]
      refine Or.inl ⟨by omega, c1, ?_, rfl, rfl⟩
      simp only [isL, isD, decide_eq_true_eq] at c1 ⊢; omega
    · rw [if_neg c1, if_neg c1]
      refine Or.inr ?_
      by_cases c2 : isD (tb s) = true
      · rw [if_pos c2, if_pos c2]; exact Or.inl ⟨by omega, c1, c2, rfl, rfl⟩
      · rw [if_neg c2, if_neg c2]
        refine Or.inr ?_
        by_cases c3 : (tb s = 60 ∨ tb s = 62) ∧ s + 1 < tn ∧ tb (s + 1) = 61
        · rw [if_pos c3, if_pos c3]
          refine Or.inl ⟨by omega, c1, c2, ?_, c3.2, rfl⟩
          by_cases c4 : tb s = 60
          · rw [if_pos c4]; exact Or.inl ⟨c4, rfl⟩
          · rw [if_neg c4]; exact Or.inr ⟨by omega, rfl⟩
        · rw [if_neg c3, if_neg c3]; exact Or.inr ⟨by omega, c1, c2, c3, rfl, rfl⟩
/-- a word stands at s just if the class's sign is the word's -/
theorem st_eq {tn : Nat} {tb : Nat → Nat} (ot : TpOk tn tb) {s : Nat} {q : Nat × Int32} (hq : q ∈ wT) : wW tn tb s = jb q.1 ↔ tkS tn tb s = q.2 := by
  have nz : ¬ (s < tn ∧ isL (tb s) = true) → wW tn tb s ≠ jb q.1 := fun h => by
    unfold wW; rw [run_no h, Nat.sub_self]
    exact fun z => (wT_sg q hq).2 z.symm
  have hv := (wT_wV q hq).1
  have h2 := (wT_wV q hq).2.1
  have a1 : ∀ v ∈ wV, v ≠ 1 ∧ v ≠ 3 ∧ v ≠ 4 ∧ v ≠ -17 ∧ v ≠ -19 := by decide
  obtain ⟨v1, v3, v4, v17, v19⟩ := a1 _ hv
  have a2 : ∀ b, b < 256 → msg b = 2 ∨ msg b ∉ wV := by decide +kernel
  rcases tk_cases (tn := tn) (tb := tb) s with ⟨c, e, -⟩ | ⟨c, cl, cd, e, -⟩ | ⟨c, cl, cd, e, -⟩ | ⟨c, cl, cd, e, -, -⟩ | ⟨c, cl, cd, cc, e, -⟩
  · exact ⟨fun z => absurd z (nz (by omega)), fun z => absurd (z.symm.trans e) v1⟩
  · rw [e]; exact (wsg_eq hq).symm
  · refine ⟨fun z => absurd z (nz (fun y => cl y.2)), fun z => ?_⟩
    rw [e] at z
    split at z
    · exact absurd z.symm v3
    · exact absurd z.symm v4
  · refine ⟨fun z => absurd z (nz (fun y => cl y.2)), fun z => ?_⟩
    rcases e with ⟨-, e⟩ | ⟨-, e⟩
    · exact absurd (z.symm.trans e) v17
    · exact absurd (z.symm.trans e) v19
  · refine ⟨fun z => absurd z (nz (fun y => cl y.2)), fun z => ?_⟩
    rw [e] at z
    rcases a2 _ (ot.2 s c) with h | h
    · exact absurd (z.symm.trans h) h2
    · rw [z] at h; exact absurd hv h
/-- a mark of one byte stands at s just if the class's sign is the mark's -/
theorem mk_eq {tn : Nat} {tb : Nat → Nat} (ot : TpOk tn tb) {s c : Nat} {z : Int32} (h1 : ∀ b, b < 256 → (msg b = z ↔ b = c)) (h2 : c < 256 ∧ isL c = false ∧ isD c = false ∧ c ≠ 60 ∧ c ≠ 62) (h3 : z ≠ 1 ∧ z ≠ 3 ∧ z ≠ 4 ∧ z ≠ -17 ∧ z ≠ -19 ∧ z ∉ wV) : sgv tn tb s = nI c ↔ tkS tn tb s = z := by
  obtain ⟨z1, z3, z4, z17, z19, zw⟩ := h3
  obtain ⟨c1, c2, c3, c60, c62⟩ := h2
  have hs : s < tn → (sgv tn tb s = nI c ↔ tb s = c) := fun g => by
    unfold sgv; rw [if_pos g]; exact nI_eqI (by have := ot.2 s g; omega) (by omega)
  rcases tk_cases (tn := tn) (tb := tb) s with ⟨g, e, -⟩ | ⟨g, cl, cd, e, -⟩ | ⟨g, cl, cd, e, -⟩ | ⟨g, cl, cd, e, -, -⟩ | ⟨g, cl, cd, cc, e, -⟩
  · refine ⟨fun y => ?_, fun y => absurd (y.symm.trans e) z1⟩
    unfold sgv at y
    rw [if_neg (by omega)] at y
    have : ∀ c, c < 256 → (-1 : Int32) ≠ nI c := by decide +kernel
    exact absurd y (this c c1)
  · rw [hs g, e]
    refine ⟨fun y => ?_, fun y => ?_⟩
    · rw [y, c2] at cl; cases cl
    · have := wsg_in (wW tn tb s); rw [y] at this; exact absurd this zw
  · rw [hs g, e]
    refine ⟨fun y => ?_, fun y => ?_⟩
    · rw [y, c3] at cd; cases cd
    · split at y
      · exact absurd y.symm z3
      · exact absurd y.symm z4
  · rw [hs g]
    refine ⟨fun y => ?_, fun y => ?_⟩
    · omega
    · rcases e with ⟨-, e⟩ | ⟨-, e⟩
      · exact absurd (y.symm.trans e) z17
      · exact absurd (y.symm.trans e) z19
  · rw [hs g, e]; exact (h1 _ (ot.2 s g)).symm
/-- the ends -/
theorem tk_end {tn : Nat} {tb : Nat → Nat} {s : Nat} : tn ≤ s ↔ tkS tn tb s = 1 := by
  constructor
  · intro h; unfold tkS; rw [if_pos h]
  · intro h
    rcases tk_cases (tn := tn) (tb := tb) s with ⟨g, -, -⟩ | ⟨g, cl, cd, e, -⟩ | ⟨g, cl, cd, e, -⟩ | ⟨g, cl, cd, e, -, -⟩ | ⟨g, cl, cd, cc, e, -⟩
    · exact g
    · have := wsg_in (wW tn tb s); rw [← e, h] at this; exact absurd this (by decide)
    · rw [h] at e; split at e <;> exact absurd e (by decide)
    · rw [h] at e; rcases e with ⟨-, e⟩ | ⟨-, e⟩ <;> exact absurd e (by decide)
    · rw [h] at e; unfold msg at e; exfalso; revert e; repeat' split
      all_goals decide
theorem tk_dig {tn : Nat} {tb : Nat → Nat} {s : Nat} : (s < tn ∧ isD (tb s) = true) ↔ (tkS tn tb s = 3 ∨ tkS tn tb s = 4) := by
  rcases tk_cases (tn := tn) (tb := tb) s with ⟨g, e, -⟩ | ⟨g, cl, cd, e, -⟩ | ⟨g, cl, cd, e, -⟩ | ⟨g, cl, cd, e, -, -⟩ | ⟨g, cl, cd, cc, e, -⟩
  · rw [e]; exact ⟨fun z => by omega, fun z => by rcases z with z | z <;> exact absurd z (by decide)⟩
  · refine ⟨fun z => absurd z.2 cd, fun z => ?_⟩
    have := wsg_in (wW tn tb s); rw [← e] at this
    rcases z with z | z <;> rw [z] at this <;> exact absurd this (by decide)
  · refine ⟨fun z => ?_, fun z => ⟨g, cd⟩⟩
    rw [e]; split
    · exact Or.inl rfl
    · exact Or.inr rfl
  · refine ⟨fun z => absurd z.2 cd, fun z => ?_⟩
    rcases e with ⟨-, e⟩ | ⟨-, e⟩ <;> rw [e] at z <;> rcases z with z | z <;> exact absurd z (by decide)
  · refine ⟨fun z => absurd z.2 cd, fun z => ?_⟩
    rw [e] at z; unfold msg at z; exfalso; revert z; repeat' split
    all_goals decide
theorem tk_lo {tn : Nat} {tb : Nat → Nat} {s : Nat} (h : tkS tn tb s = 3 ∨ tkS tn tb s = 4) : (tkS tn tb s = 3 ↔ run isD tn tb s - s ≤ 5) ∧ tkE tn tb s = run isD tn tb s := by
  obtain ⟨g1, g2⟩ := tk_dig.mpr h
  rcases tk_cases (tn := tn) (tb := tb) s with ⟨g, e, -⟩ | ⟨g, cl, cd, e, -⟩ | ⟨g, cl, cd, e, e2⟩ | ⟨g, cl, cd, e, -, -⟩ | ⟨g, cl, cd, cc, e, -⟩
  · omega
  · exact absurd g2 cd
  · refine ⟨?_, e2⟩
    rw [e]
    by_cases c : run isD tn tb s - s ≤ 5
    · rw [if_pos c]; exact ⟨fun _ => c, fun _ => rfl⟩
    · rw [if_neg c]; exact ⟨fun z => absurd z (by decide), fun z => absurd z c⟩
  · exact absurd g2 cd
  · exact absurd g2 cd
/-- where a sign ends -/
theorem tk_w {tn : Nat} {tb : Nat → Nat} (ot : TpOk tn tb) {s : Nat} {q : Nat × Int32} (hq : q ∈ wT) (h : tkS tn tb s = q.2) : tkE tn tb s = s + jlen.getD q.1 0 ∧ s < tn := by
  have w := (st_eq ot hq).mpr h
  have hl : s < tn ∧ isL (tb s) = true := Classical.byContradiction (fun g => by
    unfold wW at w; rw [run_no g, Nat.sub_self] at w
    exact (wT_sg q hq).2 w.symm)
  have r := (run_le (f := isL) (tb := tb) (Nat.le_of_lt hl.1)).1
  have e : run isL tn tb s - s = jlen.getD q.1 0 := by
    rw [← (jb_len q.1 (wT_wV q hq).2.2).1, ← w, wW, wl_len]
  refine ⟨?_, hl.1⟩
  unfold tkE; rw [if_neg (by omega), if_pos hl.2]; omega
theorem tk_m {tn : Nat} {tb : Nat → Nat} {s : Nat} (h : tkS tn tb s ≠ 1 ∧ tkS tn tb s ≠ 3 ∧ tkS tn tb s ≠ 4 ∧ tkS tn tb s ≠ -17 ∧ tkS tn tb s ≠ -19 ∧ tkS tn tb s ∉ wV) : tkE tn tb s = s + 1 ∧ s < tn := by
  obtain ⟨z1, z3, z4, z17, z19, zw⟩ := h
  rcases tk_cases (tn := tn) (tb := tb) s with ⟨g, e, -⟩ | ⟨g, cl, cd, e, -⟩ | ⟨g, cl, cd, e, e2⟩ | ⟨g, cl, cd, e, -, -⟩ | ⟨g, cl, cd, cc, e, e2⟩
  · exact absurd e z1
  · have := wsg_in (wW tn tb s); rw [← e] at this; exact absurd this zw
  · split at e
    · exact absurd e z3
    · exact absurd e z4
  · rcases e with ⟨-, e⟩ | ⟨-, e⟩
    · exact absurd e z17
    · exact absurd e z19
  · exact ⟨e2, g⟩
theorem tk_2 {tn : Nat} {tb : Nat → Nat} {s : Nat} (h : tkS tn tb s = -17 ∨ tkS tn tb s = -19) : tkE tn tb s = s + 2 ∧ s < tn ∧ (s + 1 < tn ∧ tb (s + 1) = 61) := by
  rcases tk_cases (tn := tn) (tb := tb) s with ⟨g, e, -⟩ | ⟨g, cl, cd, e, -⟩ | ⟨g, cl, cd, e, e2⟩ | ⟨g, cl, cd, e, e1, e2⟩ | ⟨g, cl, cd, cc, e, e2⟩
  · rw [e] at h; rcases h with h | h <;> exact absurd h (by decide)
  · have := wsg_in (wW tn tb s); rw [← e] at this
    rcases h with h | h <;> rw [h] at this <;> exact absurd this (by decide)
  · rw [e] at h; split at h <;> rcases h with h | h <;> exact absurd h (by decide)
  · exact ⟨e2, g, e1⟩
  · rw [e] at h; unfold msg at h; exfalso; revert h; repeat' split
    all_goals decide
/-- `<` and `>` -/
theorem mk_60 {tn : Nat} {tb : Nat → Nat} (ot : TpOk tn tb) {s : Nat} : (sgv tn tb s = 60 ↔ (tkS tn tb s = -16 ∨ tkS tn tb s = -17)) ∧ (sgv tn tb s = 62 ↔ (tkS tn tb s = -20 ∨ tkS tn tb s = -19)) := by
  have hm : ∀ b, b < 256 → (msg b = -16 ↔ b = 60) ∧ (msg b = -20 ↔ b = 62) ∧ msg b ≠ -17 ∧ msg b ≠ -19 := by decide +kernel
  have hs : s < tn → (sgv tn tb s = 60 ↔ tb s = 60) ∧ (sgv tn tb s = 62 ↔ tb s = 62) := fun g => by
    unfold sgv; rw [if_pos g]; exact ⟨(c_mark _ (ot.2 s g)).2.1, (c_mark _ (ot.2 s g)).2.2.2⟩
  rcases tk_cases (tn := tn) (tb := tb) s with ⟨g, e, -⟩ | ⟨g, cl, cd, e, -⟩ | ⟨g, cl, cd, e, e2⟩ | ⟨g, cl, cd, e, e1, e2⟩ | ⟨g, cl, cd, cc, e, e2⟩
  · rw [e]; unfold sgv; rw [if_neg (by omega)]; decide
  · have hw := wsg_in (wW tn tb s); rw [← e] at hw
    have l6 : tb s ≠ 60 ∧ tb s ≠ 62 := by simp only [isL, decide_eq_true_eq] at cl; omega
    have a1 : ∀ v ∈ wV, v ≠ -16 ∧ v ≠ -17 ∧ v ≠ -19 ∧ v ≠ -20 := by decide
    obtain ⟨b1, b2, b3, b4⟩ := a1 _ hw
    rw [(hs g).1, (hs g).2]
    exact ⟨⟨fun z => absurd z l6.1, fun z => by rcases z with z | z; (· exact absurd z b1); (· exact absurd z b2)⟩, ⟨fun z => absurd z l6.2, fun z => by rcases z with z | z; (· exact absurd z b4); (· exact absurd z b3)⟩⟩
  · have l6 : tb s ≠ 60 ∧ tb s ≠ 62 := by simp only [isD, decide_eq_true_eq] at cd; omega
    rw [(hs g).1, (hs g).2, e]
    refine ⟨⟨fun z => absurd z l6.1, fun z => ?_⟩, ⟨fun z => absurd z l6.2, fun z => ?_⟩⟩ <;> split at z <;> rcases z with z | z <;> exact absurd z (by decide)
  · rw [(hs g).1, (hs g).2]
    rcases e with ⟨b, e⟩ | ⟨b, e⟩ <;> rw [b, e] <;> decide
  · obtain ⟨m1, m2, m3, m4⟩ := hm _ (ot.2 s g)
    rw [(hs g).1, (hs g).2, e]
    exact ⟨⟨fun z => Or.inl (m1.mpr z), fun z => by rcases z with z | z; (· exact m1.mp z); (· exact absurd z m3)⟩, ⟨fun z => Or.inl (m2.mpr z), fun z => by rcases z with z | z; (· exact m2.mp z); (· exact absurd z m4)⟩⟩
/-- `<=` and `>=`: whether the next byte is `=` -/
theorem mk_61 {tn : Nat} {tb : Nat → Nat} (ot : TpOk tn tb) {s : Nat} (h : sgv tn tb s = 60 ∨ sgv tn tb s = 62) : sgv tn tb (s + 1) = 61 ↔ (tkS tn tb s = -17 ∨ tkS tn tb s = -19) := by
  have hm : ∀ b, b < 256 → msg b ≠ -17 ∧ msg b ≠ -19 := by decide +kernel
  have g0 : s < tn := Classical.byContradiction (fun g => by
    unfold sgv at h; rw [if_neg g] at h; rcases h with h | h <;> exact absurd h (by decide))
  have h' : tb s = 60 ∨ tb s = 62 := by
    unfold sgv at h; rw [if_pos g0] at h
    rcases h with h | h
    · exact Or.inl ((c_mark _ (ot.2 s g0)).2.1.mp h)
    · exact Or.inr ((c_mark _ (ot.2 s g0)).2.2.2.mp h)
  rcases tk_cases (tn := tn) (tb := tb) s with ⟨g, e, -⟩ | ⟨g, cl, cd, e, -⟩ | ⟨g, cl, cd, e, e2⟩ | ⟨g, cl, cd, e, e1, e2⟩ | ⟨g, cl, cd, cc, e, e2⟩
  · omega
  · simp only [isL, decide_eq_true_eq] at cl; omega
  · simp only [isD, decide_eq_true_eq] at cd; omega
  · refine ⟨fun _ => by rcases e with ⟨-, e⟩ | ⟨-, e⟩; (· exact Or.inl e); (· exact Or.inr e), fun _ => ?_⟩
    unfold sgv; rw [if_pos e1.1, e1.2]; rfl
  · refine ⟨fun z => ?_, fun z => ?_⟩
    · exfalso
      unfold sgv at z
      by_cases c : s + 1 < tn
      · rw [if_pos c] at z
        exact cc ⟨h', c, (c_mark _ (ot.2 _ c)).2.2.1.mp z⟩
      · rw [if_neg c] at z; exact absurd z (by decide)
    · rw [e] at z
      obtain ⟨m3, m4⟩ := hm _ (ot.2 s g)
      rcases z with z | z
      · exact absurd z m3
      · exact absurd z m4
theorem mk_add {tn : Nat} {tb : Nat → Nat} (ot : TpOk tn tb) {s : Nat} : sgv tn tb s = 43 ↔ tkS tn tb s = -11 := mk_eq ot (c := 43) (by decide +kernel) (by decide) (by decide)
theorem mk_sub {tn : Nat} {tb : Nat → Nat} (ot : TpOk tn tb) {s : Nat} : sgv tn tb s = 45 ↔ tkS tn tb s = -12 := mk_eq ot (c := 45) (by decide +kernel) (by decide) (by decide)
theorem mk_mul {tn : Nat} {tb : Nat → Nat} (ot : TpOk tn tb) {s : Nat} : sgv tn tb s = 42 ↔ tkS tn tb s = -13 := mk_eq ot (c := 42) (by decide +kernel) (by decide) (by decide)
theorem mk_div {tn : Nat} {tb : Nat → Nat} (ot : TpOk tn tb) {s : Nat} : sgv tn tb s = 47 ↔ tkS tn tb s = -14 := mk_eq ot (c := 47) (by decide +kernel) (by decide) (by decide)
theorem mk_rem {tn : Nat} {tb : Nat → Nat} (ot : TpOk tn tb) {s : Nat} : sgv tn tb s = 37 ↔ tkS tn tb s = -15 := mk_eq ot (c := 37) (by decide +kernel) (by decide) (by decide)
theorem mk_same {tn : Nat} {tb : Nat → Nat} (ot : TpOk tn tb) {s : Nat} : sgv tn tb s = 61 ↔ tkS tn tb s = -18 := mk_eq ot (c := 61) (by decide +kernel) (by decide) (by decide)
theorem mk_opn {tn : Nat} {tb : Nat → Nat} (ot : TpOk tn tb) {s : Nat} : sgv tn tb s = 91 ↔ tkS tn tb s = -26 := mk_eq ot (c := 91) (by decide +kernel) (by decide) (by decide)
theorem mk_cls {tn : Nat} {tb : Nat → Nat} (ot : TpOk tn tb) {s : Nat} : sgv tn tb s = 93 ↔ tkS tn tb s = 9 := mk_eq ot (c := 93) (by decide +kernel) (by decide) (by decide)
theorem mk_nxt {tn : Nat} {tb : Nat → Nat} (ot : TpOk tn tb) {s : Nat} : sgv tn tb s = 59 ↔ tkS tn tb s = 8 := mk_eq ot (c := 59) (by decide +kernel) (by decide) (by decide)
theorem tk_step {tn : Nat} {tb : Nat → Nat} {s : Nat} (h : s < tn) : s < tkE tn tb s ∧ tkE tn tb s ≤ tn := by
  rcases tk_cases (tn := tn) (tb := tb) s with ⟨g, e, -⟩ | ⟨g, cl, cd, -, e⟩ | ⟨g, cl, cd, -, e⟩ | ⟨g, cl, cd, -, e1, e⟩ | ⟨g, cl, cd, -, -, e⟩
  · omega
  · rw [e, run_go ⟨g, cl⟩]; have := run_le (f := isL) (tb := tb) (show s + 1 ≤ tn by omega); omega
  · rw [e, run_go ⟨g, cd⟩]; have := run_le (f := isD) (tb := tb) (show s + 1 ≤ tn by omega); omega
  · omega
  · omega
