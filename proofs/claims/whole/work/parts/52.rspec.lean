/-! what is so of a round, in plain numbers -/
def subb (x y : Nat) : Prop := ∀ j, x.testBit j = true → y.testBit j = true
theorem subb_lt {x y k : Nat} (h : subb x y) (hy : y < 2 ^ k) : x < 2 ^ k := by
  apply Nat.lt_of_not_le
  intro hk
  obtain ⟨j, hj, hb⟩ := Nat.exists_ge_and_testBit_of_ge_two_pow hk
  have e := h j hb
  have : 2 ^ k ≤ 2 ^ j := Nat.pow_le_pow_right (by omega) hj
  rw [Nat.testBit_lt_two_pow (Nat.lt_of_lt_of_le hy this)] at e
  cases e
theorem clr_sub {x g : Nat} (hx : x < 128) (hg : g < 7) : subb (clr x g) x := by
  intro j hj
  by_cases h : j < 7
  · rw [clr_b hx hg h] at hj
    cases e : x.testBit j
    · rw [e] at hj; cases hj
    · rfl
  · have e : 128 ≤ 2 ^ j := Nat.le_trans (by decide : 128 ≤ 2 ^ 7) (Nat.pow_le_pow_right (by omega) (by omega))
    have := clr_le x g
    rw [Nat.testBit_lt_two_pow (by omega)] at hj; cases hj
theorem scn_lt {t : Nat → Nat} {st fr : Nat} : ∀ {k q : Nat}, scn t st fr k = some q → q < k ∧ st.testBit (q / 6) = true ∧ fr.testBit (q % 6) = true := by
  intro k
  induction k with
  | zero => intro q h; cases h
  | succ k ih =>
    intro q h
    unfold scn at h
    by_cases hc : st.testBit (k / 6) = true ∧ fr.testBit (k % 6) = true
    · rw [if_pos hc] at h
      cases e : scn t st fr k with
      | none => rw [e] at h; cases h; exact ⟨by omega, hc⟩
      | some p =>
        rw [e] at h
        simp only at h
        have hp := ih e
        by_cases hl : t k < t p
        · rw [if_pos hl] at h; cases h; exact ⟨by omega, hc⟩
        · rw [if_neg hl] at h; cases h; exact ⟨by omega, hp.2⟩
    · rw [if_neg hc] at h
      have hp := ih h
      exact ⟨by omega, hp.2⟩
theorem scn_off {t : Nat → Nat} {st fr k : Nat} (h : ¬ (st.testBit (k / 6) = true ∧ fr.testBit (k % 6) = true)) : scn t st fr (k + 1) = scn t st fr k := by
  rw [scn, if_neg h]
theorem scn_row {t : Nat → Nat} {st fr g : Nat} (h : st.testBit g = false) : ∀ c, c ≤ 6 → scn t st fr (g * 6 + c) = scn t st fr (g * 6) := by
  intro c
  induction c with
  | zero => intro _; rfl
  | succ c ih =>
    intro hc
    have e : (g * 6 + c) / 6 = g := by omega
    show scn t st fr (g * 6 + c + 1) = _
    rw [scn_off (by rw [e, h]; intro z; cases z.1), ih (by omega)]
theorem scn_end {t : Nat → Nat} {st fr C g : Nat} (h : fr < 2 ^ C) (hC : C ≤ 6) : ∀ d, C + d ≤ 6 → scn t st fr (g * 6 + (C + d)) = scn t st fr (g * 6 + C) := by
  intro d
  induction d with
  | zero => intro _; rfl
  | succ d ih =>
    intro hd
    have e : (g * 6 + (C + d)) % 6 = C + d := by omega
    have hb : fr.testBit (C + d) = false := Nat.testBit_lt_two_pow (Nat.lt_of_lt_of_le h (Nat.pow_le_pow_right (by omega) (by omega)))
    show scn t st fr (g * 6 + (C + d) + 1) = _
    rw [scn_off (by rw [e, hb]; intro z; cases z.2), ih (by omega)]
theorem scn_tail {t : Nat → Nat} {st fr G : Nat} (h : st < 2 ^ G) : ∀ d, scn t st fr (G * 6 + d) = scn t st fr (G * 6) := by
  intro d
  induction d with
  | zero => rfl
  | succ d ih =>
    have hb : st.testBit ((G * 6 + d) / 6) = false := Nat.testBit_lt_two_pow (Nat.lt_of_lt_of_le h (Nat.pow_le_pow_right (by omega) (by omega)))
    show scn t st fr (G * 6 + d + 1) = _
    rw [scn_off (by rw [hb]; intro z; cases z.1), ih]
def QOk (N : mN) (q : mQ) : Prop := subb q.1 (N 0 4) ∧ subb q.2.1 (N 0 3) ∧ (∀ g, (N 0 4).testBit g = true → q.1.testBit g = false → q.2.2.1 g < N 0 1) ∧ q.2.2.2 ≤ N 0 1
theorem QOk.s {N : mN} {q : mQ} (hN : NOk N) (h : QOk N q) : q.1 < 128 := Nat.lt_of_lt_of_le (subb_lt h.1 hN.2.2.2.2.1) (Nat.pow_le_pow_right (n := 2) (by omega) hN.2.2.1)
theorem QOk.f {N : mN} {q : mQ} (hN : NOk N) (h : QOk N q) : q.2.1 < 64 := Nat.lt_of_lt_of_le (subb_lt h.2.1 hN.2.2.2.1) (Nat.pow_le_pow_right (n := 2) (by omega) hN.2.1)
theorem QOk.init {N : mN} : QOk N (N 0 4, N 0 3, fun _ => 0, 0) := ⟨fun _ h => h, fun _ h => h, fun g h1 h2 => absurd (h1.symm.trans h2) (by decide), Nat.zero_le _⟩
/-- a pair that is found is one of a guest who is in and of a chair that is there -/
theorem QOk.pair {N : mN} {q : mQ} {t : Nat → Nat} {k p : Nat} (hN : NOk N) (h : QOk N q) (hp : scn t q.1 q.2.1 k = some p) : p / 6 < N 0 2 ∧ p % 6 < N 0 1 ∧ (N 0 4).testBit (p / 6) = true ∧ (N 0 3).testBit (p % 6) = true ∧ p < 42 := by
  obtain ⟨_, h1, h2⟩ := scn_lt hp
  have a1 := h.1 _ h1
  have a2 := h.2.1 _ h2
  have b1 := hN.ib a1
  have b2 := hN.tb a2
  have := hN.2.2.1
  exact ⟨b1, b2, a1, a2, by omega⟩
theorem QOk.step {N : mN} {q q1 : mQ} {t : Nat → Nat} (hN : NOk N) (h : QOk N q) (hq : sqN t q = some q1) : QOk N q1 := by
  unfold sqN at hq
  cases e : scn t q.1 q.2.1 42 with
  | none => rw [e] at hq; cases hq
  | some p =>
    rw [e] at hq
    have hs := h.s hN
    have hf := h.f hN
    obtain ⟨p1, p2, p3, p4, p5⟩ := h.pair hN e
    have := hN.2.2.1
    have := hN.2.1
    cases hq
    refine ⟨fun j hj => h.1 j (clr_sub hs (by omega) j hj), fun j hj => h.2.1 j (clr_sub (by omega) (by omega) j hj), ?_, by show p % 6 + 1 ≤ _; omega⟩
    intro g hg hc
    show (if g = p / 6 then p % 6 else q.2.2.1 g) < _
    by_cases eg : g = p / 6
    · rw [if_pos eg]; omega
    · rw [if_neg eg]
      refine h.2.2.1 g hg ?_
      have hg7 : g < 7 := by have := hN.ib hg; omega
      have hc' : (clr q.1 (p / 6)).testBit g = false := hc
      rw [clr_b hs (by omega) hg7] at hc'
      cases e2 : q.1.testBit g
      · rfl
      · rw [e2] at hc'
        have : (g == p / 6) = false := by simpa using eg
        rw [this] at hc'; cases hc'
theorem QOk.sit {N : mN} {t : Nat → Nat} (hN : NOk N) : ∀ (n : Nat) (q : mQ), QOk N q → QOk N (sitN t n q) := by
  intro n
  induction n with
  | zero => intro q h; exact h
  | succ n ih =>
    intro q h
    unfold sitN
    cases e : sqN t q with
    | none => exact h
    | some q1 => exact ih q1 (h.step hN e)
theorem pcn_clr : ∀ x, x < 64 → ∀ c, c < 6 → x.testBit c = true → pcn (clr x c) + 1 = pcn x := by decide +kernel
theorem pcn_6 : ∀ x, x < 64 → pcn x ≤ 6 := by decide +kernel
theorem sq_pcn {N : mN} {t : Nat → Nat} {q q1 : mQ} (hN : NOk N) (h : QOk N q) (hq : sqN t q = some q1) : pcn q1.2.1 + 1 = pcn q.2.1 := by
  unfold sqN at hq
  cases e : scn t q.1 q.2.1 42 with
  | none => rw [e] at hq; cases hq
  | some p =>
    rw [e] at hq
    obtain ⟨p1, p2, p3, p4, p5⟩ := h.pair hN e
    have := hN.2.1
    cases hq
    exact pcn_clr _ (h.f hN) _ (by omega) (scn_lt e).2.2
theorem sit_none {N : mN} {t : Nat → Nat} (hN : NOk N) : ∀ (n : Nat) (q : mQ), QOk N q → pcn q.2.1 ≤ n → sqN t (sitN t n q) = none := by
  intro n
  induction n with
  | zero =>
    intro q h hp
    cases e : sqN t (sitN t 0 q) with
    | none => rfl
    | some q1 =>
      have := sq_pcn hN h (show sqN t q = some q1 from e)
      omega
  | succ n ih =>
    intro q h hp
    unfold sitN
    cases e : sqN t q with
    | none => exact e
    | some q1 =>
      have := sq_pcn hN h e
      exact ih q1 (h.step hN e) (by omega)
theorem wkN_ok {N : mN} {b : Nat} (hN : NOk N) : NOk (wkN N b) := by
  obtain ⟨h1, h2, h3, h4, h5, h6, h7, h8, h9, h10⟩ := hN
  refine ⟨h1, h2, h3, h4, h5, h6, h7, h8, h9, ?_⟩
  intro g hg
  have hg' : g < N 0 2 := hg
  obtain ⟨a1, a2, a3, a4, a5⟩ := h10 g hg'
  refine ⟨?_, a2, a3, a4, a5⟩
  show (if 2 = 2 ∧ g < N 0 2 ∧ (N 0 4).testBit g = true then (N 2 g + N 3 g * b) % N 0 0 else N 2 g) < N 0 0
  split
  · exact Nat.mod_lt _ (by omega)
  · exact a1
theorem loN_le {i s : Nat} : ∀ (k l : Nat), loN i s k l ≤ max k l := by
  intro k
  induction k with
  | zero => intro l; show l ≤ _; omega
  | succ k ih =>
    intro l
    unfold loN
    split
    · omega
    · have := ih l; omega
theorem seN_ok {N : mN} (hN : NOk N) : QOk N (seN N) := QOk.sit hN 6 _ QOk.init
theorem dif_t {N : mN} {q : mQ} {g : Nat} (hN : NOk N) (hg : (dif (N 0 4) q.1).testBit g = true) : (N 0 4).testBit g = true ∧ q.1.testBit g = false ∧ g < N 0 2 := by
  have h7 : g < 7 := by
    by_cases h : g < 7
    · exact h
    · have e : 128 ≤ 2 ^ g := Nat.le_trans (by decide : 128 ≤ 2 ^ 7) (Nat.pow_le_pow_right (by omega) (by omega))
      have := dif_le (N 0 4) q.1
      have := hN.i
      rw [Nat.testBit_lt_two_pow (by omega)] at hg; cases hg
  rw [dif_b h7] at hg
  have a : (N 0 4).testBit g = true := by
    cases e : (N 0 4).testBit g
    · rw [e] at hg; cases hg
    · rfl
  rw [a] at hg
  refine ⟨a, ?_, hN.ib a⟩
  cases e : q.1.testBit g
  · rfl
  · rw [e] at hg; cases hg
theorem stl_ok {N : mN} {b : Nat} (hN : NOk N) (hb : b ≤ 60) : NOk (stl N b) := by
  have hQ := seN_ok hN
  have hd := @dif_t N (seN N)
  obtain ⟨h1, h2, h3, h4, h5, h6, h7, h8, h9, h10⟩ := id hN
  refine ⟨h1, h2, h3, ?_, ?_, ?_, hb, h8, h9, ?_⟩
  · show (if (seN N).2.2.2 = 0 then N 0 3 else clr (N 0 3) ((seN N).2.2.2 - 1)) < 2 ^ N 0 1
    split
    · exact h4
    · exact Nat.lt_of_le_of_lt (clr_le _ _) h4
  · show dif (N 0 4) (seN N).1 < 2 ^ N 0 2
    exact Nat.lt_of_le_of_lt (dif_le _ _) h5
  · show loN (N 0 4) (dif (N 0 4) (seN N).1) (N 0 2) (N 0 6) ≤ 7
    have := loN_le (i := N 0 4) (s := dif (N 0 4) (seN N).1) (N 0 2) (N 0 6)
    omega
  · intro g hg
    have hg' : g < N 0 2 := hg
    obtain ⟨a1, a2, a3, a4, a5⟩ := h10 g hg'
    refine ⟨?_, a2, a3, ?_, ?_⟩
    · show (if 2 = 2 ∧ (dif (N 0 4) (seN N).1).testBit g = true then N 1 ((seN N).2.2.1 g) else N 2 g) < N 0 0
      split
      · rename_i hs
        obtain ⟨b1, b2, b3⟩ := hd hN hs.2
        exact h9 _ (hQ.2.2.1 g b1 b2)
      · exact a1
    · show (if 5 = 5 ∧ (dif (N 0 4) (seN N).1).testBit g = true then (if N 2 g ≠ N 1 ((seN N).2.2.1 g) ∧ N 5 g < 30 then N 5 g + 1 else N 5 g) else N 5 g) ≤ 30
      split
      · split <;> omega
      · exact a4
    · show (if 6 = 6 ∧ (dif (N 0 4) (seN N).1).testBit g = true then (if N 6 g < 999 then N 6 g + 1 else N 6 g) else N 6 g) ≤ 999
      split
      · split <;> omega
      · exact a5
theorem rnd_ok {N : mN} {b : Nat} (hN : NOk N) (hb : b ≤ 60) : NOk (rnd N b) := stl_ok (wkN_ok hN) hb
