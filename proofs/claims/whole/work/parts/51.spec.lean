/-! HALLS IN PLAIN NUMBERS: N 0 0 places, 0 1 chairs, 0 2 guests, 0 3 there (bits), 0 4 in (bits), 0 5 round, 0 6 who was out last + 1, 0 7 beats; N 1 places of chairs; N 2 places, N 3 steps, N 4 quicks, N 5 tired, N 6 sat -/
abbrev mN : Type := Nat → Nat → Nat
abbrev mH : Type := Nat → Nat → Int32
def NOk (N : mN) : Prop := N 0 0 ≤ 24 ∧ N 0 1 ≤ 6 ∧ N 0 2 ≤ 7 ∧ N 0 3 < 2 ^ N 0 1 ∧ N 0 4 < 2 ^ N 0 2 ∧ N 0 6 ≤ 7 ∧ N 0 7 ≤ 60 ∧ (0 < N 0 0 ∨ (N 0 1 = 0 ∧ N 0 2 = 0)) ∧ (∀ c, c < N 0 1 → N 1 c < N 0 0) ∧ (∀ g, g < N 0 2 → N 2 g < N 0 0 ∧ N 3 g ≤ 5 ∧ (1 ≤ N 4 g ∧ N 4 g ≤ 9) ∧ N 5 g ≤ 30 ∧ N 6 g ≤ 999)
def HIs (H : mH) (N : mN) : Prop := (∀ i, i < 8 → i ≠ 6 → H 0 i = nI (N 0 i)) ∧ H 0 6 = nI (N 0 6) - 1 ∧ (∀ c, c < N 0 1 → H 1 c = nI (N 1 c)) ∧ (∀ a g, 2 ≤ a → a ≤ 6 → g < N 0 2 → H a g = nI (N a g))
def hC (S : jS) (o : Nat) : mH := fun a i => S.1 (o + a) i
def hVs (V : mH) : Nat → Int32 := fun i => if i = 3 then V 1 7 else if i = 4 then V 1 6 else if i = 5 then V 1 3 else if i = 6 then V 1 5 else if i = 7 then V 1 4 else V 1 i
def hV (V : mH) : mH := fun a i => if a = 0 then hVs V i else if a = 1 then V 7 i else V a i
/-- bits -/
def clr (x g : Nat) : Nat := if x.testBit g then x - 2 ^ g else x
def dif (x y : Nat) : Nat := x &&& (127 ^^^ y)
def pcn (x : Nat) : Nat := x % 2 + x / 2 % 2 + x / 4 % 2 + x / 8 % 2 + x / 16 % 2 + x / 32 % 2 + x / 64 % 2
def wkN (N : mN) (b : Nat) : mN := fun a g => if a = 2 ∧ g < N 0 2 ∧ (N 0 4).testBit g = true then (N 2 g + N 3 g * b) % N 0 0 else N a g
def dst (x y : Nat) : Nat := if x < y then y - x else x - y
def tmN (N : mN) (g c : Nat) : Nat := min (dst (N 2 g) (N 1 c)) (N 0 0 - dst (N 2 g) (N 1 c)) * (10 + N 5 g) / N 4 g
/-- the first pair (guest * 6 + chair) of least time, of those ahead of k whose guest stands and whose chair is free -/
def scn (t : Nat → Nat) (st fr : Nat) : Nat → Option Nat
  | 0 => none
  | k + 1 => if st.testBit (k / 6) = true ∧ fr.testBit (k % 6) = true then (match scn t st fr k with
    | none => some k
    | some q => if t k < t q then some k else some q) else scn t st fr k
abbrev mQ : Type := Nat × Nat × (Nat → Nat) × Nat
def sqN (t : Nat → Nat) (q : mQ) : Option mQ := (scn t q.1 q.2.1 42).map (fun p => (clr q.1 (p / 6), clr q.2.1 (p % 6), (fun g => if g = p / 6 then p % 6 else q.2.2.1 g), p % 6 + 1))
def sitN (t : Nat → Nat) : Nat → mQ → mQ
  | 0, q => q
  | n + 1, q => match sqN t q with
    | none => q
    | some q1 => sitN t n q1
def loN (i s : Nat) : Nat → Nat → Nat
  | 0, l => l
  | k + 1, l => if i.testBit k = true ∧ s.testBit k = false then k + 1 else loN i s k l
def tpN (N : mN) : Nat → Nat := fun p => tmN N (p / 6) (p % 6)
def seN (N : mN) : mQ := sitN (tpN N) 6 (N 0 4, N 0 3, fun _ => 0, 0)
/-- after the walk: who sits, and all as it is then -/
def stl (N : mN) (b : Nat) : mN := fun a g => if a = 0 then (if g = 3 then (if (seN N).2.2.2 = 0 then N 0 3 else clr (N 0 3) ((seN N).2.2.2 - 1)) else if g = 4 then dif (N 0 4) (seN N).1 else if g = 5 then N 0 5 + 1 else if g = 6 then loN (N 0 4) (dif (N 0 4) (seN N).1) (N 0 2) (N 0 6) else if g = 7 then b else N 0 g)
  else if a = 2 ∧ (dif (N 0 4) (seN N).1).testBit g = true then N 1 ((seN N).2.2.1 g)
  else if a = 5 ∧ (dif (N 0 4) (seN N).1).testBit g = true then (if N 2 g ≠ N 1 ((seN N).2.2.1 g) ∧ N 5 g < 30 then N 5 g + 1 else N 5 g)
  else if a = 6 ∧ (dif (N 0 4) (seN N).1).testBit g = true then (if N 6 g < 999 then N 6 g + 1 else N 6 g)
  else N a g
def rnd (N : mN) (b : Nat) : mN := stl (wkN N b) b
def rsit (N : mN) (b : Nat) : Nat := rnd N b 0 4
def overN (N : mN) : Prop := pcn (N 0 4) ≤ 1 ∨ N 0 3 = 0
theorem b_val : ∀ x, x < 128 → ∀ g, g < 7 → ((nI x >>> (nI g &&& 31)) &&& 1) = (if x.testBit g = true then 1 else 0) := by decide +kernel
theorem b_1 {x g : Nat} (hx : x < 128) (hg : g < 7) : ((nI x >>> (nI g &&& 31)) &&& 1) = 1 ↔ x.testBit g = true := by
  rw [b_val x hx g hg]
  cases x.testBit g <;> decide
theorem b_0 {x g : Nat} (hx : x < 128) (hg : g < 7) : ((nI x >>> (nI g &&& 31)) &&& 1) = 0 ↔ x.testBit g = false := by
  rw [b_val x hx g hg]
  cases x.testBit g <;> decide
theorem b_clr0 : ∀ x, x < 128 → ∀ g, g < 7 → nI x &&& (((1 : Int32) <<< (nI g &&& 31)) ^^^ (-1)) = nI (clr x g) := by decide +kernel
theorem b_clr {x g : Nat} (hx : x < 128) (hg : g < 7) : nI x &&& (((1 : Int32) <<< (nI g &&& 31)) ^^^ (-1)) = nI (clr x g) := b_clr0 x hx g hg
theorem clr_b0 : ∀ x, x < 128 → ∀ g, g < 7 → ∀ j, j < 7 → (clr x g).testBit j = (x.testBit j && !(j == g)) := by decide +kernel
theorem clr_b {x g j : Nat} (hx : x < 128) (hg : g < 7) (hj : j < 7) : (clr x g).testBit j = (x.testBit j && !(j == g)) := clr_b0 x hx g hg j hj
theorem clr_le (x g : Nat) : clr x g ≤ x := by
  unfold clr; split
  · exact Nat.sub_le _ _
  · exact Nat.le_refl _
theorem b_dif0 : ∀ x, x < 128 → ∀ y, y < 128 → nI x &&& (nI y ^^^ (-1)) = nI (dif x y) := by decide +kernel
theorem b_dif {x y : Nat} (hx : x < 128) (hy : y < 128) : nI x &&& (nI y ^^^ (-1)) = nI (dif x y) := b_dif0 x hx y hy
theorem dif_le (x y : Nat) : dif x y ≤ x := Nat.and_le_left
theorem dif_b {x y j : Nat} (hj : j < 7) : (dif x y).testBit j = (x.testBit j && !(y.testBit j)) := by
  unfold dif
  rw [Nat.testBit_and, Nat.testBit_xor]
  have : ∀ j, j < 7 → (127 : Nat).testBit j = true := by decide
  rw [this j hj]
  cases y.testBit j <;> rfl
theorem bits_ext {x y : Nat} (hx : x < 128) (hy : y < 128) (h : ∀ j, j < 7 → x.testBit j = y.testBit j) : x = y := by
  apply Nat.eq_of_testBit_eq
  intro j
  by_cases hj : j < 7
  · exact h j hj
  · have e : 128 ≤ 2 ^ j := Nat.le_trans (by decide : 128 ≤ 2 ^ 7) (Nat.pow_le_pow_right (by omega) (by omega))
    rw [Nat.testBit_lt_two_pow (by omega), Nat.testBit_lt_two_pow (by omega)]
theorem bitc0 : ∀ x, x < 128 → f13_bitCount (nI x) = some (nI (pcn x)) := by decide +kernel
theorem bitc {x : Nat} (hx : x < 128) : f13_bitCount (nI x) = some (nI (pcn x)) := bitc0 x hx
theorem pcn_le0 : ∀ x, x < 128 → pcn x ≤ 7 := by decide +kernel
theorem bits0 : ∀ x, x < 128 → f11_bits (nI x) = some (nI (pcn x)) := by decide +kernel
theorem bits1 {x : Nat} (hx : x < 128) : f11_bits (nI x) = some (nI (pcn x)) := bits0 x hx
theorem NOk.i {N : mN} (h : NOk N) : N 0 4 < 128 := Nat.lt_of_lt_of_le h.2.2.2.2.1 (Nat.pow_le_pow_right (n := 2) (by omega) h.2.2.1)
theorem NOk.t {N : mN} (h : NOk N) : N 0 3 < 64 := Nat.lt_of_lt_of_le h.2.2.2.1 (Nat.pow_le_pow_right (n := 2) (by omega) h.2.1)
theorem NOk.ib {N : mN} (h : NOk N) {g : Nat} (hg : (N 0 4).testBit g = true) : g < N 0 2 := by
  by_cases e : g < N 0 2
  · exact e
  · have : 2 ^ N 0 2 ≤ 2 ^ g := Nat.pow_le_pow_right (by omega) (by omega)
    rw [Nat.testBit_lt_two_pow (Nat.lt_of_lt_of_le h.2.2.2.2.1 this)] at hg; cases hg
theorem NOk.tb {N : mN} (h : NOk N) {c : Nat} (hc : (N 0 3).testBit c = true) : c < N 0 1 := by
  by_cases e : c < N 0 1
  · exact e
  · have : 2 ^ N 0 1 ≤ 2 ^ c := Nat.pow_le_pow_right (by omega) (by omega)
    rw [Nat.testBit_lt_two_pow (Nat.lt_of_lt_of_le h.2.2.2.1 this)] at hc; cases hc
