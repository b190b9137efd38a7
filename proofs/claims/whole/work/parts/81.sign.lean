/-! the signs of a text, as both read them -/
def isB (b : Nat) : Bool := decide (b = 32)
def isL (b : Nat) : Bool := decide (97 ≤ b ∧ b ≤ 122)
def isD (b : Nat) : Bool := decide (48 ≤ b ∧ b ≤ 57)
def rn (f : Nat → Bool) (tn : Nat) (tb : Nat → Nat) : Nat → Nat → Nat
  | 0, p => p
  | n + 1, p => if p < tn ∧ f (tb p) = true then rn f tn tb n (p + 1) else p
/-- the first place from p on that is not of a kind -/
def run (f : Nat → Bool) (tn : Nat) (tb : Nat → Nat) (p : Nat) : Nat := rn f tn tb (tn - p) p
theorem run_no {f : Nat → Bool} {tn : Nat} {tb : Nat → Nat} {p : Nat} (h : ¬ (p < tn ∧ f (tb p) = true)) : run f tn tb p = p := by
  unfold run
  cases tn - p with
  | zero => rfl
  | succ n => rw [rn, if_neg h]
theorem run_go {f : Nat → Bool} {tn : Nat} {tb : Nat → Nat} {p : Nat} (h : p < tn ∧ f (tb p) = true) : run f tn tb p = run f tn tb (p + 1) := by
  unfold run
  have e : tn - p = (tn - (p + 1)) + 1 := by omega
  rw [e, rn, if_pos h]
theorem run_all {f : Nat → Bool} {tn : Nat} {tb : Nat → Nat} : ∀ n p, tn - p = n → p ≤ tn → p ≤ run f tn tb p ∧ run f tn tb p ≤ tn ∧ (∀ i, p ≤ i → i < run f tn tb p → f (tb i) = true) ∧ ¬ (run f tn tb p < tn ∧ f (tb (run f tn tb p)) = true) := by
  intro n
  induction n with
  | zero =>
    intro p e h
    have h' : ¬ (p < tn ∧ f (tb p) = true) := by omega
    rw [run_no h']
    exact ⟨Nat.le_refl _, h, fun i a b => by omega, h'⟩
  | succ n ih =>
    intro p e h
    by_cases c : p < tn ∧ f (tb p) = true
    · rw [run_go c]
      obtain ⟨a1, a2, a3, a4⟩ := ih (p + 1) (by omega) (by omega)
      refine ⟨by omega, a2, fun i b1 b2 => ?_, a4⟩
      by_cases e2 : i = p
      · rw [e2]; exact c.2
      · exact a3 i (by omega) b2
    · rw [run_no c]
      exact ⟨Nat.le_refl _, h, fun i a b => by omega, c⟩
theorem run_le {f : Nat → Bool} {tn : Nat} {tb : Nat → Nat} {p : Nat} (h : p ≤ tn) : p ≤ run f tn tb p ∧ run f tn tb p ≤ tn := ⟨(run_all _ p rfl h).1, (run_all _ p rfl h).2.1⟩
theorem run_in {f : Nat → Bool} {tn : Nat} {tb : Nat → Nat} {p : Nat} (h : p ≤ tn) : (∀ i, p ≤ i → i < run f tn tb p → f (tb i) = true) ∧ ¬ (run f tn tb p < tn ∧ f (tb (run f tn tb p)) = true) := (run_all _ p rfl h).2.2
theorem run_id {f : Nat → Bool} {tn : Nat} {tb : Nat → Nat} {p : Nat} (h : p ≤ tn) : run f tn tb (run f tn tb p) = run f tn tb p := run_no (run_in h).2
theorem nI_eqI {a b : Nat} (ha : a < 2 ^ 31) (hb : b < 2 ^ 31) : nI a = nI b ↔ a = b := ⟨nI_j ha hb, congrArg nI⟩
theorem bind_id {α : Type} (o : Option α) : Option.bind o (fun y => some y) = o := by cases o <;> rfl
theorem inb4 {p : Nat} (h : p < 400) : inb (nI p) 400 = true := by rw [inb_n (by omega)]; simpa using h
theorem c_isL : ∀ b, b < 256 → f9_isLetter (nI b) = some (if isL b = true then 1 else 0) := by decide +kernel
theorem c_isD : ∀ b, b < 256 → f9_isDigit (nI b) = some (if isD b = true then 1 else 0) := by decide +kernel
theorem c_b32 : ∀ b, b < 256 → (nI b = 32 ↔ isB b = true) := by decide +kernel
/-- the reference's byte -/
def sb (b : Nat) : Int32 := (nI b).toInt8.toInt32
theorem r_sb : ∀ b, b < 256 → sb b &&& 255 = nI b := by decide +kernel
theorem r_sL : ∀ b, b < 256 → ((¬ sb b < 97 ∧ ¬ 122 < sb b) ↔ isL b = true) := by decide +kernel
/-- blanks, the class -/
theorem c_blk {tn : Nat} {tb : Nat → Nat} (ot : TpOk tn tb) : ∀ n p S, tn - p < n → p ≤ tn → CTp S tn tb → S.1 1 2 = nI p → ∃ S1, f9_readSign_L1 n S = some S1 ∧ S1.1 1 2 = nI (run isB tn tb p) ∧ ∀ a i, ¬ (a = 1 ∧ i = 2) → S1.1 a i = S.1 a i := by
  intro n
  have l := ot.1
  induction n with
  | zero => intro p S h; omega
  | succ n ih =>
    intro p S hn hp hc h2
    have e1 : nI p + 1 = nI (p + 1) := nI_add p 1
    rw [f9_readSign_L1, hc.1, h2, nI_clamp (by omega)]
    by_cases c : p < tn
    · have cb := c_b32 (tb p) (ot.2 p c)
      rw [if_neg (by rw [nI_leI (by omega) (by omega)]; omega), inb4 (by omega), if_pos rfl, hc.2 p c]
      by_cases e : isB (tb p) = true
      · rw [if_pos (cb.mpr e), run_go ⟨c, e⟩, e1]
        obtain ⟨S1, a1, a2, a3⟩ := ih (p + 1) (wI S 1 2 (nI (p + 1))) (by omega) (by omega) ⟨by rw [wI_nj (by omega)]; exact hc.1, fun i hi => by rw [wI_ne (by omega)]; exact hc.2 i hi⟩ (wI_self _ _ _ _)
        exact ⟨S1, a1, a2, fun a i g => by rw [a3 a i g, wI_g, if_neg g]⟩
      · rw [if_neg (fun z => e (cb.mp z)), run_no (fun z => e z.2)]
        exact ⟨S, rfl, h2, fun _ _ _ => rfl⟩
    · rw [if_pos (by rw [nI_leI (by omega) (by omega)]; omega), run_no (fun z => c z.1)]
      exact ⟨S, rfl, h2, fun _ _ _ => rfl⟩
/-- letters, the class -/
theorem c_let {tn : Nat} {tb : Nat → Nat} (ot : TpOk tn tb) : ∀ n p S, tn - p < n → p ≤ tn → CTp S tn tb → S.1 1 2 = nI p → ∃ S1, f9_readWord_L1 n S = some S1 ∧ S1.1 1 2 = nI (run isL tn tb p) ∧ ∀ a i, ¬ (a = 1 ∧ i = 2) → S1.1 a i = S.1 a i := by
  intro n
  have l := ot.1
  induction n with
  | zero => intro p S h; omega
  | succ n ih =>
    intro p S hn hp hc h2
    have e1 : nI p + 1 = nI (p + 1) := nI_add p 1
    rw [f9_readWord_L1, hc.1, h2, nI_clamp (by omega)]
    by_cases c : p < tn
    · rw [if_neg (by rw [nI_leI (by omega) (by omega)]; omega), inb4 (by omega), if_pos rfl, hc.2 p c, c_isL _ (ot.2 p c), Option.bind_some]
      by_cases e : isL (tb p) = true
      · rw [if_pos e, if_neg (by decide), run_go ⟨c, e⟩, e1]
        obtain ⟨S1, a1, a2, a3⟩ := ih (p + 1) (wI S 1 2 (nI (p + 1))) (by omega) (by omega) ⟨by rw [wI_nj (by omega)]; exact hc.1, fun i hi => by rw [wI_ne (by omega)]; exact hc.2 i hi⟩ (wI_self _ _ _ _)
        exact ⟨S1, a1, a2, fun a i g => by rw [a3 a i g, wI_g, if_neg g]⟩
      · rw [if_neg e, if_pos rfl, run_no (fun z => e z.2)]
        exact ⟨S, rfl, h2, fun _ _ _ => rfl⟩
    · rw [if_pos (by rw [nI_leI (by omega) (by omega)]; omega), run_no (fun z => c z.1)]
      exact ⟨S, rfl, h2, fun _ _ _ => rfl⟩
/-- the number that the first k digits from s on tell, five of them at most -/
def dgv (tb : Nat → Nat) (s : Nat) : Nat → Nat
  | 0 => 0
  | k + 1 => if k < 5 then dgv tb s k * 10 + tb (s + k) - 48 else dgv tb s k
theorem dgv_lt {tb : Nat → Nat} {s : Nat} : ∀ {k : Nat}, (∀ i, s ≤ i → i < s + k → isD (tb i) = true) → dgv tb s k < 10 ^ (min k 5) := by
  intro k
  induction k with
  | zero => intro _; show 0 < 10 ^ 0; omega
  | succ k ih =>
    intro h
    have i1 := ih (fun i a b => h i a (by omega))
    have d := h (s + k) (by omega) (by omega)
    simp only [isD, decide_eq_true_eq] at d
    rw [dgv]
    split
    · rename_i hk
      rw [show min (k + 1) 5 = k + 1 by omega]
      rw [show min k 5 = k by omega] at i1
      rw [Nat.pow_succ]
      omega
    · rename_i hk
      rw [show min (k + 1) 5 = 5 by omega]
      rw [show min k 5 = 5 by omega] at i1
      exact i1
theorem dgv_le {tb : Nat → Nat} {s k : Nat} (h : ∀ i, s ≤ i → i < s + k → isD (tb i) = true) : dgv tb s k ≤ 99999 := by
  have h1 := dgv_lt h
  have h2 : 10 ^ (min k 5) ≤ 10 ^ 5 := Nat.pow_le_pow_right (by omega) (by omega)
  omega
theorem dg_st {v b : Nat} (hb : 48 ≤ b) : nI v * 10 + nI b - 48 = nI (v * 10 + b - 48) ∧ 10 * nI v + nI b - 48 = nI (v * 10 + b - 48) := by
  have e1 : nI v * 10 = nI (v * 10) := nI_mul v 10
  have e2 : 10 * nI v = nI (10 * v) := nI_mul 10 v
  have e3 : nI (v * 10) + nI b = nI (v * 10 + b) := nI_add _ _
  have e4 : nI (v * 10 + b) - 48 = nI (v * 10 + b - 48) := nI_sub (b := 48) (by omega)
  refine ⟨by rw [e1, e3, e4], by rw [e2, Nat.mul_comm, e3, e4]⟩
/-- digits, the class -/
theorem c_dig {tn : Nat} {tb : Nat → Nat} (ot : TpOk tn tb) {s : Nat} : ∀ n p S, tn - p < n → p ≤ tn → s ≤ p → (∀ i, s ≤ i → i < p → isD (tb i) = true) → CTp S tn tb → S.1 1 2 = nI p → S.1 1 3 = nI s → S.1 1 5 = nI (dgv tb s (p - s)) → ∃ S1, f9_readNumber_L1 n S = some S1 ∧ S1.1 1 2 = nI (run isD tn tb p) ∧ S1.1 1 5 = nI (dgv tb s (run isD tn tb p - s)) ∧ ∀ a i, ¬ (a = 1 ∧ i = 2) → ¬ (a = 1 ∧ i = 5) → S1.1 a i = S.1 a i := by
  intro n
  have l := ot.1
  induction n with
  | zero => intro p S h; omega
  | succ n ih =>
    intro p S hn hp hsp hall hc h2 h3 h5
    have e1 : nI p + 1 = nI (p + 1) := nI_add p 1
    have e0 : nI p - nI s = nI (p - s) := nI_sub hsp
    rw [f9_readNumber_L1, hc.1, h2, h3, e0, nI_clamp (by omega)]
    by_cases c : p < tn
    · rw [if_neg (by rw [nI_leI (by omega) (by omega)]; omega), inb4 (by omega), if_pos rfl, hc.2 p c, c_isD _ (ot.2 p c), Option.bind_some]
      by_cases e : isD (tb p) = true
      · have d := e
        simp only [isD, decide_eq_true_eq] at d
        rw [if_pos e, if_neg (by decide), run_go ⟨c, e⟩]
        have hall' : ∀ i, s ≤ i → i < p + 1 → isD (tb i) = true := fun i a b => by
          by_cases ei : i = p
          · rw [ei]; exact e
          · exact hall i a (by omega)
        have ek : p + 1 - s = (p - s) + 1 := by omega
        by_cases c5 : 5 ≤ p - s
        · rw [if_pos (by rw [show (5 : Int32) = nI 5 from rfl, nI_leI (by omega) (by omega)]; exact c5), Option.bind_some, h2, e1]
          obtain ⟨S1, a1, a2, a3, a4⟩ := ih (p + 1) (wI S 1 2 (nI (p + 1))) (by omega) (by omega) (by omega) hall' ⟨by rw [wI_nj (by omega)]; exact hc.1, fun i hi => by rw [wI_ne (by omega)]; exact hc.2 i hi⟩ (wI_self _ _ _ _) (by rw [wI_nj (by omega)]; exact h3) (by rw [wI_nj (by omega), h5, ek, dgv, if_neg (by omega)])
          exact ⟨S1, a1, a2, a3, fun a i g g' => by rw [a4 a i g g', wI_g, if_neg g]⟩
        · rw [if_neg (by rw [show (5 : Int32) = nI 5 from rfl, nI_leI (by omega) (by omega)]; exact c5), Option.bind_some, h5, (dg_st d.1).1, wI_nj (by omega), h2, e1]
          obtain ⟨S1, a1, a2, a3, a4⟩ := ih (p + 1) (wI (wI S 1 5 (nI (dgv tb s (p - s) * 10 + tb p - 48))) 1 2 (nI (p + 1))) (by omega) (by omega) (by omega) hall' ⟨by rw [wI_nj (by omega), wI_nj (by omega)]; exact hc.1, fun i hi => by rw [wI_ne (by omega), wI_ne (by omega)]; exact hc.2 i hi⟩ (wI_self _ _ _ _) (by rw [wI_nj (by omega), wI_nj (by omega)]; exact h3) (by rw [wI_nj (by omega), wI_self, ek, dgv, if_pos (by omega), show s + (p - s) = p by omega])
          exact ⟨S1, a1, a2, a3, fun a i g g' => by rw [a4 a i g g', wI_g, if_neg g, wI_g, if_neg g']⟩
      · rw [if_neg e, if_pos rfl, run_no (fun z => e z.2)]
        exact ⟨S, rfl, h2, h5, fun _ _ _ _ => rfl⟩
    · rw [if_pos (by rw [nI_leI (by omega) (by omega)]; omega), run_no (fun z => c z.1)]
      exact ⟨S, rfl, h2, h5, fun _ _ _ _ => rfl⟩
