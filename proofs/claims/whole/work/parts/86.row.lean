/-! rows of beats: what they are -/
def tI (N : mN) (g : Nat) : Bool := (N 0 4).testBit g
theorem rbb_in {N : mN} {g b : Nat} (h : tI N g = false) : tI (rbb N b) g = false := by
  unfold tI at h ⊢
  unfold rbb
  split
  · exact h
  · show ((N 0 4) &&& (127 ^^^ (seN (wkN N b)).1)).testBit g = false
    rw [Nat.testBit_and, h, Bool.false_and]
/-- whether one stays by the row of beats that a number tells -/
def stB (g : Nat) : Nat → mN → Nat → Bool
  | 0, N, _ => tI N g
  | n + 1, N, c => stB g n (rbb N (1 + c / 6 ^ n % 6)) (c % 6 ^ n)
def cK (g n : Nat) (N : mN) : Nat → Nat
  | 0 => 0
  | k + 1 => cK g n N k + (if stB g n N k = true then 1 else 0)
def fK1 (g n : Nat) (N : mN) : Nat → Nat
  | 0 => 0
  | k + 1 => if fK1 g n N k = 0 then (if stB g n N k = true then k + 1 else 0) else fK1 g n N k
theorem cK_f {g n : Nat} {N : mN} : ∀ k, (cK g n N k = 0 ↔ fK1 g n N k = 0) ∧ cK g n N k ≤ k ∧ fK1 g n N k ≤ k := by
  intro k
  induction k with
  | zero => exact ⟨Iff.rfl, Nat.le_refl _, Nat.le_refl _⟩
  | succ k ih =>
    obtain ⟨i1, i2, i3⟩ := ih
    rw [cK, fK1]
    by_cases c : fK1 g n N k = 0
    · have d := i1.mpr c
      rw [if_pos c, d]
      by_cases e : stB g n N k = true
      · rw [if_pos e, if_pos e]; omega
      · rw [if_neg e, if_neg e]; omega
    · have d : cK g n N k ≠ 0 := fun z => c (i1.mp z)
      rw [if_neg c]
      refine ⟨⟨fun z => by omega, fun z => absurd z c⟩, by split <;> omega, by omega⟩
theorem stB_out {g : Nat} : ∀ {n : Nat} {N : mN} {c : Nat}, tI N g = false → stB g n N c = false := by
  intro n
  induction n with
  | zero => intro N c h; exact h
  | succ n ih => intro N c h; exact ih (rbb_in h)
theorem cK_out {g n : Nat} {N : mN} (h : tI N g = false) : ∀ k, cK g n N k = 0 ∧ fK1 g n N k = 0 := by
  intro k
  induction k with
  | zero => exact ⟨rfl, rfl⟩
  | succ k ih => rw [cK, fK1, ih.1, ih.2, stB_out h]; exact ⟨rfl, rfl⟩
theorem stB_ov {g : Nat} : ∀ {n : Nat} {N : mN} {c : Nat}, ovB N = true → tI N g = true → stB g n N c = true := by
  intro n
  induction n with
  | zero => intro N c _ h; exact h
  | succ n ih =>
    intro N c ho h
    rw [stB]
    have e : ∀ b, rbb N b = ovN N := fun b => by unfold rbb; rw [if_pos ho]
    rw [e]
    exact ih (ov_ovN ho) h
theorem cK_ov {g n : Nat} {N : mN} (ho : ovB N = true) (h : tI N g = true) : ∀ k, cK g n N k = k ∧ fK1 g n N k = min k 1 := by
  intro k
  induction k with
  | zero => exact ⟨rfl, rfl⟩
  | succ k ih =>
    rw [cK, fK1, ih.1, ih.2, stB_ov ho h, if_pos rfl, if_pos rfl]
    refine ⟨rfl, ?_⟩
    by_cases c : k = 0
    · subst c; rfl
    · rw [if_neg (by omega)]; omega
/-- a block of codes with one first beat -/
theorem cK_blk {g n : Nat} {N : mN} {j : Nat} (hj : j < 6) : ∀ i, i ≤ 6 ^ n → cK g (n + 1) N (j * 6 ^ n + i) = cK g (n + 1) N (j * 6 ^ n) + cK g n (rbb N (1 + j)) i ∧ fK1 g (n + 1) N (j * 6 ^ n + i) = if fK1 g (n + 1) N (j * 6 ^ n) = 0 then (if fK1 g n (rbb N (1 + j)) i = 0 then 0 else j * 6 ^ n + fK1 g n (rbb N (1 + j)) i) else fK1 g (n + 1) N (j * 6 ^ n) := by
  intro i
  induction i with
  | zero =>
    intro _
    refine ⟨rfl, ?_⟩
    show fK1 g (n + 1) N (j * 6 ^ n) = _
    by_cases c : fK1 g (n + 1) N (j * 6 ^ n) = 0
    · rw [if_pos c]; exact c
    · rw [if_neg c]
  | succ i ih =>
    intro hi
    obtain ⟨i1, i2⟩ := ih (by omega)
    have hp : 0 < 6 ^ n := Nat.pos_of_ne_zero (by simp)
    have e1 : (j * 6 ^ n + i) / 6 ^ n % 6 = j := by
      rw [Nat.mul_comm, Nat.mul_add_div hp, Nat.div_eq_of_lt (by omega), Nat.add_zero, Nat.mod_eq_of_lt hj]
    have e2 : (j * 6 ^ n + i) % 6 ^ n = i := by
      rw [Nat.mul_comm, Nat.mul_add_mod, Nat.mod_eq_of_lt (by omega)]
    have es : stB g (n + 1) N (j * 6 ^ n + i) = stB g n (rbb N (1 + j)) i := by rw [stB, e1, e2]
    have a1 : cK g (n + 1) N (j * 6 ^ n + (i + 1)) = cK g (n + 1) N (j * 6 ^ n + i) + (if stB g (n + 1) N (j * 6 ^ n + i) = true then 1 else 0) := rfl
    have a2 : fK1 g (n + 1) N (j * 6 ^ n + (i + 1)) = if fK1 g (n + 1) N (j * 6 ^ n + i) = 0 then (if stB g (n + 1) N (j * 6 ^ n + i) = true then j * 6 ^ n + i + 1 else 0) else fK1 g (n + 1) N (j * 6 ^ n + i) := rfl
    refine ⟨?_, ?_⟩
    · rw [a1, i1, es, cK]; omega
    · rw [a2, i2, es, fK1]
      by_cases c : fK1 g (n + 1) N (j * 6 ^ n) = 0
      · rw [if_pos c, if_pos c]
        by_cases d : fK1 g n (rbb N (1 + j)) i = 0
        · rw [if_pos d, if_pos rfl, if_pos d]
          by_cases e : stB g n (rbb N (1 + j)) i = true
          · rw [if_pos e, if_pos e, if_neg (by omega)]; omega
          · rw [if_neg e, if_neg e, if_pos rfl]
        · rw [if_neg d, if_neg d, if_neg (by omega), if_neg d]
      · rw [if_neg c, if_neg c, if_neg c]
theorem dig_lo {j n i m : Nat} (h : m < n) : (j * 6 ^ n + i) / 6 ^ m % 6 = i / 6 ^ m % 6 := by
  have hp : 0 < 6 ^ m := Nat.pos_of_ne_zero (by simp)
  have e : 6 ^ n = 6 ^ m * (6 * 6 ^ (n - m - 1)) := by
    rw [← Nat.pow_succ', ← Nat.pow_add]; congr 1; omega
  rw [e, show j * (6 ^ m * (6 * 6 ^ (n - m - 1))) = 6 ^ m * (6 * (j * 6 ^ (n - m - 1))) by rw [Nat.mul_left_comm, Nat.mul_left_comm j 6], Nat.mul_add_div hp, Nat.mul_add_mod]
theorem dig_hi {j n i : Nat} (hj : j < 6) (hi : i < 6 ^ n) : (j * 6 ^ n + i) / 6 ^ n % 6 = j := by
  have hp : 0 < 6 ^ n := Nat.pos_of_ne_zero (by simp)
  rw [Nat.mul_comm, Nat.mul_add_div hp, Nat.div_eq_of_lt hi, Nat.add_zero, Nat.mod_eq_of_lt hj]
/-! rows: the reference -/
theorem r_pow : ∀ {n : Nat}, n ≤ 4 → f11_power 6 (nI n) = some (nI (6 ^ n)) := by
  intro n hn
  have : n = 0 ∨ n = 1 ∨ n = 2 ∨ n = 3 ∨ n = 4 := by omega
  have hF : jF = 4994 + 1 + 1 + 1 + 1 + 1 + 1 := rfl
  unfold f11_power
  rw [hF]
  rcases this with h | h | h | h | h <;> subst h
  · rw [f11_power_L1, if_pos (by decide)]; rfl
  · rw [f11_power_L1, if_neg (by decide), f11_power_L1, if_pos (by decide)]; rfl
  · rw [f11_power_L1, if_neg (by decide), f11_power_L1, if_neg (by decide), f11_power_L1, if_pos (by decide)]; rfl
  · rw [f11_power_L1, if_neg (by decide), f11_power_L1, if_neg (by decide), f11_power_L1, if_neg (by decide), f11_power_L1, if_pos (by decide)]; rfl
  · rw [f11_power_L1, if_neg (by decide), f11_power_L1, if_neg (by decide), f11_power_L1, if_neg (by decide), f11_power_L1, if_neg (by decide), f11_power_L1, if_pos (by decide)]; rfl
theorem pow_le {n : Nat} (h : n ≤ 4) : 6 ^ n ≤ 1296 := by
  have := Nat.pow_le_pow_right (n := 6) (by omega) h
  exact this
/-- the hall behind the rounds that a code tells -/
def hB : Nat → mN → Nat → mN
  | 0, N, _ => N
  | n + 1, N, c => hB n (rbb N (1 + c / 6 ^ n % 6)) (c % 6 ^ n)
theorem hB_st {g : Nat} : ∀ {n : Nat} {N : mN} {c : Nat}, tI (hB n N c) g = stB g n N c := by
  intro n
  induction n with
  | zero => intro N c; rfl
  | succ n ih => intro N c; exact ih
theorem r_sb1 {X : jS} {l1 : Int32} {R code : Nat} (hR : R ≤ 4) (hc : code < 6 ^ R) : ∀ n m X' N, n ≤ R → n < m → RRun X X' N → ∃ X1, f11_staysBy_L1 l1 (nI R) (nI code) m X' (nI (6 ^ n)) (nI (R - n)) = some X1 ∧ RRun X X1 (hB n N (code % 6 ^ n)) := by
  intro n
  induction n with
  | zero =>
    intro m X' N _ hm h
    obtain ⟨m, rfl⟩ : ∃ m', m = m' + 1 := ⟨m - 1, by omega⟩
    rw [f11_staysBy_L1, if_pos (by rw [nI_leI (by omega) (by omega)]; omega)]
    exact ⟨X', rfl, h⟩
  | succ n ih =>
    intro m X' N hn hm h
    obtain ⟨m, rfl⟩ : ∃ m', m = m' + 1 := ⟨m - 1, by omega⟩
    have p1 := pow_le (n := n + 1) (by omega)
    have p0 := pow_le (n := n) (by omega)
    have pR := pow_le hR
    have hp : 0 < 6 ^ n := Nat.pos_of_ne_zero (by simp)
    have e6 : nI (6 ^ (n + 1)) / 6 = nI (6 ^ n) := by
      have : nI (6 ^ (n + 1)) / 6 = nI (6 ^ (n + 1) / 6) := nI_d6 (by omega)
      rw [this, Nat.pow_succ, Nat.mul_div_cancel _ (by omega)]
    have ed : nI code / nI (6 ^ n) = nI (code / 6 ^ n) := nI_div (by omega) (by omega)
    have hq : code / 6 ^ n ≤ code := Nat.div_le_self _ _
    have hm6 : code / 6 ^ n % 6 < 6 := Nat.mod_lt _ (by omega)
    have e1 : 1 + nI (code / 6 ^ n % 6) = nI (1 + code / 6 ^ n % 6) := nI_add 1 _
    have ek : nI (R - (n + 1)) + 1 = nI (R - n) := by
      have : nI (R - (n + 1)) + 1 = nI (R - (n + 1) + 1) := nI_add _ 1
      rw [this]; congr 1; omega
    rw [f11_staysBy_L1, if_neg (by rw [nI_leI (by omega) (by omega)]; omega), e6, if_pos (fun z => by have := nI_j (b := 0) (by omega) (by omega) z; omega), ed, irm_6 (by omega), e1, ek]
    obtain ⟨X1, a1, a2, a3⟩ := (h.w40 (x := nI (1 + code / 6 ^ n % 6))).of (wI_self _ _ _ _) (b := 1 + code / 6 ^ n % 6) (by omega)
    rw [a1, Option.bind_some]
    obtain ⟨X2, b1, b2⟩ := ih m X1 (rbb N (1 + code / 6 ^ n % 6)) (by omega) (by omega) a2
    refine ⟨X2, b1, ?_⟩
    rw [hB]
    have c1 : code % 6 ^ (n + 1) / 6 ^ n % 6 = code / 6 ^ n % 6 := by
      rw [Nat.pow_succ, Nat.mod_mul_right_div_self, Nat.mod_mod]
    have c2 : code % 6 ^ (n + 1) % 6 ^ n = code % 6 ^ n := by
      rw [Nat.pow_succ]; exact Nat.mod_mul_right_mod _ _ _
    rw [c1, c2]; exact b2
theorem r_sb0 {X X' : jS} {N : mN} {g R code : Nat} (h0 : HIs (hV X.1) N) (hN : NOk N) (h : RRun X X' N) (hg : g < N 0 2) (hR : R ≤ 4) (hc : code < 6 ^ R) : ∃ X1, f11_staysBy X' (nI g) (nI R) (nI code) = some (X1, if stB g R N code = true then 1 else 0) ∧ RRun X X1 N ∧ X1.1 0 40 = -1 ∧ rQ1 X X1 := by
  have hG := hN.2.2.1
  obtain ⟨X1, a1, a2⟩ := r_sb1 (l1 := nI g) hR hc R jF X' N (Nat.le_refl _) (by unfold jF; omega) h
  rw [Nat.sub_self] at a1
  rw [Nat.mod_eq_of_lt hc] at a2
  have h6 : X1.1 1 6 = nI (hB R N code 0 4) := a2.2.2.1.1 4 (by omega) (by omega)
  have hi : hB R N code 0 4 < 128 := a2.2.2.2.1.i
  obtain ⟨X2, b1, b2, b3, b4⟩ := (a2.w40 (x := -1)).lay h0 hN
  unfold f11_staysBy
  rw [r_pow hR, Option.bind_some, show f11_staysBy_L1 (nI g) (nI R) (nI code) jF X' (nI (6 ^ R)) 0 = some X1 from a1, Option.bind_some, h6, r_has hi (by omega), Option.bind_some, b1, Option.bind_some]
  have e : (hB R N code 0 4).testBit g = stB g R N code := hB_st (g := g)
  rw [e]
  refine ⟨X2, ?_, b2, by rw [b3, wI_self], b4⟩
  by_cases c : stB g R N code = true
  · rw [if_pos c, if_pos (Or.inr rfl)]
  · rw [if_neg c, if_pos (Or.inl rfl)]
theorem r_row1 {X : jS} {N : mN} {g R : Nat} {l3 : Int32} (h0 : HIs (hV X.1) N) (hN : NOk N) (hg : g < N 0 2) (hR : R ≤ 4) {X' : jS} (h : RRun X X' N) (h40 : X'.1 0 40 = -1) (hq : rQ1 X X') : ∃ r, f11_row_L1 (nI g) (nI R) l3 jF X' 0 (-1) 0 = some r ∧ r.2.1 = nI (cK g R N (6 ^ R)) ∧ r.2.2 = nI (fK1 g R N (6 ^ R)) - 1 ∧ RRun X r.1 N ∧ r.1.1 0 40 = -1 ∧ rQ1 X r.1 := by
  have pR := pow_le hR
  exact lp_up (G := 6 ^ R) (Post := fun r : jS × Int32 × Int32 => r.2.1 = nI (cK g R N (6 ^ R)) ∧ r.2.2 = nI (fK1 g R N (6 ^ R)) - 1 ∧ RRun X r.1 N ∧ r.1.1 0 40 = -1 ∧ rQ1 X r.1) (fun m k (A : jS × Int32 × Int32) => f11_row_L1 (nI g) (nI R) l3 m A.1 A.2.1 A.2.2 (nI k)) (fun k A => A.2.1 = nI (cK g R N k) ∧ A.2.2 = nI (fK1 g R N k) - 1 ∧ RRun X A.1 N ∧ A.1.1 0 40 = -1 ∧ rQ1 X A.1) (by
    rintro m k ⟨X', l4, l5⟩ hk ⟨rfl, rfl, hI, hJ, hI1⟩
    left
    obtain ⟨X1, p1, p2, p3, p4⟩ := r_sb0 h0 hN hI hg hR hk
    obtain ⟨f1, f2, f3⟩ := cK_f (g := g) (n := R) (N := N) k
    have e1 : nI (cK g R N k) + 1 = nI (cK g R N k + 1) := nI_add _ 1
    have e2 : nI k + 1 = nI (k + 1) := nI_add _ 1
    refine ⟨(X1, nI (cK g R N (k + 1)), nI (fK1 g R N (k + 1)) - 1), ?_, rfl, rfl, p2, p3, p4⟩
    show f11_row_L1 (nI g) (nI R) l3 (m + 1) X' (nI (cK g R N k)) (nI (fK1 g R N k) - 1) (nI k) = f11_row_L1 (nI g) (nI R) l3 m X1 (nI (cK g R N (k + 1))) (nI (fK1 g R N (k + 1)) - 1) (nI (k + 1))
    rw [f11_row_L1, r_pow hR, Option.bind_some, if_neg (by rw [nI_leI (by omega) (by omega)]; omega), p1, Option.bind_some, e1, e2]
    dsimp only
    have q0 : nI (cK g R N k) = 0 ↔ cK g R N k = 0 := nI_eqI (b := 0) (by omega) (by omega)
    by_cases c : stB g R N k = true
    · rw [if_pos c, if_neg (show ¬ (1 : Int32) = 0 by decide), if_neg (show ¬ (1 : Int32) = 0 by decide), cK, fK1, if_pos c, if_pos c]
      by_cases d : cK g R N k = 0
      · have ek : nI (k + 1) - 1 = nI k := by
          have := nI_sub (a := k + 1) (b := 1) (by omega)
          rw [show (1 : Int32) = nI 1 from rfl, this]; congr 1
        rw [if_pos (q0.mpr d), if_pos (q0.mpr d), if_pos (f1.mp d), ek]
      · rw [if_neg (fun z => d (q0.mp z)), if_neg (fun z => d (q0.mp z)), if_neg (fun z => d (f1.mpr z))]
    · rw [if_neg c, if_pos rfl, if_pos rfl, cK, fK1, if_neg c, if_neg c]
      by_cases d : fK1 g R N k = 0
      · rw [if_pos d, d]; rfl
      · rw [if_neg d]; rfl) (by
    rintro m ⟨X', l4, l5⟩ ⟨h3, h4, hI, hJ, hI1⟩
    refine ⟨(X', l4, l5), ?_, h3, h4, hI, hJ, hI1⟩
    show f11_row_L1 (nI g) (nI R) l3 (m + 1) X' l4 l5 (nI (6 ^ R)) = _
    rw [f11_row_L1, r_pow hR, Option.bind_some, if_pos (by rw [nI_leI (by omega) (by omega)]; omega)]) jF 0 (X', 0, -1) (Nat.zero_le _) (by unfold jF; omega) ⟨rfl, (show (-1 : Int32) = nI 0 - 1 by decide), h, h40, hq⟩
