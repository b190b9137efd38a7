/-! reading a party: the class, sign by sign -/
def SG (tn : Nat) (tb : Nat → Nat) (S S1 : jS) (p : Nat) : Prop := S1.1 1 2 = nI (tkE tn tb (sk tn tb p)) ∧ S1.1 1 3 = nI (sk tn tb p) ∧ S1.1 1 4 = tkS tn tb (sk tn tb p) ∧ (tkS tn tb (sk tn tb p) = 3 → S1.1 1 5 = nI (tkV tn tb (sk tn tb p))) ∧ ∀ a i, ¬ (a = 1 ∧ 2 ≤ i ∧ i ≤ 5) → S1.1 a i = S.1 a i
theorem nI_f (s e : Nat) : (1 + 8 * nI s) + nI e = nI (1 + 8 * s + e) := by
  have u1 : 8 * nI s = nI (8 * s) := nI_mul 8 s
  have u2 : 1 + nI (8 * s) = nI (1 + 8 * s) := nI_add 1 (8 * s)
  rw [u1, u2]; exact nI_add _ _
theorem c_fail {S : jS} {s e : Nat} {x : Int32} (h3 : S.1 1 3 = nI s) (hx : x = nI e) : Option.bind (f9_fail S x) (fun r2 => (if r2.2 = 0 ∨ r2.2 = 1 then some (r2.1, r2.2) else none)) = some (wI S 1 6 (nI (1 + 8 * s + e)), 0) := by
  unfold f9_fail
  rw [Option.bind_some, h3, hx, nI_f]
  rfl
theorem c5_go {tn : Nat} {tb : Nat → Nat} (ot : TpOk tn tb) {S : jS} {p k n : Nat} (hp : p ≤ tn) (hk : k ≤ 400) (hc : CTp S tn tb) (h2 : S.1 1 2 = nI p) (hst : S.1 3 6 ≠ 3) : ∃ S1, SG tn tb S S1 p ∧ f5_read_L1 (n + 1) S (nI k) = Option.bind (f5_takeSign S1) (fun r4 => (if r4.2 = 0 then some (r4.1, r4.1.1 1 6) else f5_read_L1 n r4.1 (nI (k + 1)))) := by
  obtain ⟨S1, a1, a2⟩ := c_sign ot hp hc h2
  refine ⟨S1, a2, ?_⟩
  have e1 : nI k + 1 = nI (k + 1) := nI_add k 1
  rw [f5_read_L1, if_neg (by rw [show (400 : Int32) = nI 400 from rfl, nI_ltI (by omega) (by omega)]; omega), if_neg hst, a1, Option.bind_some, e1]
theorem sk_le {tn : Nat} {tb : Nat → Nat} {p : Nat} (h : p ≤ tn) : p ≤ sk tn tb p ∧ sk tn tb p ≤ tn := run_le h
theorem tkE_le {tn : Nat} {tb : Nat → Nat} {p : Nat} (h : p ≤ tn) : sk tn tb p ≤ tkE tn tb (sk tn tb p) ∧ tkE tn tb (sk tn tb p) ≤ tn := by
  have h1 := sk_le (tb := tb) h
  by_cases c : sk tn tb p < tn
  · have := tk_step (tb := tb) c; omega
  · unfold tkE; rw [if_pos (by omega)]; omega
/-- a draft, in naturals -/
def DOk (N : mN) : Prop := N 0 0 ≤ 24 ∧ N 0 1 ≤ 6 ∧ N 0 2 ≤ 7 ∧ tld N ∧ (∀ c, c < N 0 1 → N 1 c < N 0 0) ∧ (∀ g, g < N 0 2 → N 2 g < N 0 0 ∧ N 3 g ≤ 5 ∧ 1 ≤ N 4 g ∧ N 4 g ≤ 9)
def dPl (N : mN) (v : Nat) : mN := fun a i => if a = 0 ∧ i = 0 then v else N a i
def dCh (N : mN) (v : Nat) : mN := fun a i => if a = 0 ∧ i = 1 then N 0 1 + 1 else if a = 0 ∧ i = 3 then 2 ^ (N 0 1 + 1) - 1 else if a = 1 ∧ i = N 0 1 then v else N a i
def dGu (N : mN) (x y z : Nat) : mN := fun a i => if a = 0 ∧ i = 2 then N 0 2 + 1 else if a = 0 ∧ i = 4 then 2 ^ (N 0 2 + 1) - 1 else if i = N 0 2 ∧ 2 ≤ a ∧ a ≤ 6 then (if a = 2 then x else if a = 3 then y else if a = 4 then z else 0) else N a i
/-- the class between two signs of a party's text -/
def C5 (S0 S : jS) (tn : Nat) (tb : Nat → Nat) (p : Nat) (N : mN) (st : Int32) (n : Nat) : Prop := CTp S tn tb ∧ S.1 1 2 = nI p ∧ HIs (hC S 4) N ∧ S.1 3 6 = st ∧ S.1 3 5 = nI n ∧ (∀ a i, kpC a → S.1 a i = S0.1 a i)
theorem C5.sg {S0 S S1 : jS} {tn : Nat} {tb : Nat → Nat} {p : Nat} {N : mN} {st : Int32} {n : Nat} (h : C5 S0 S tn tb p N st n) (g : SG tn tb S S1 p) : C5 S0 S1 tn tb (tkE tn tb (sk tn tb p)) N st n := by
  obtain ⟨a1, a2, a3, a4, a5, a6⟩ := h
  obtain ⟨b1, b2, b3, b4, b5⟩ := g
  refine ⟨⟨(b5 _ _ (by omega)).trans a1.1, fun i hi => (b5 _ _ (by omega)).trans (a1.2 i hi)⟩, b1, a3.mono (fun a i u v => b5 _ _ (by omega)), (b5 _ _ (by omega)).trans a4, (b5 _ _ (by omega)).trans a5, fun a i k => ?_⟩
  have k' := k; unfold kpC at k'
  exact (b5 _ _ (by omega)).trans (a6 a i k)
theorem kpC_w {S S0 : jS} {a i : Nat} {x : Int32} (h : ∀ a i, kpC a → S.1 a i = S0.1 a i) (ha : ¬ kpC a) : ∀ b j, kpC b → (wI S a i x).1 b j = S0.1 b j := fun b j k => by
  rw [wI_ne (fun z => ha (by rw [← z]; exact k))]; exact h b j k
/-- whether a clause is one too many, or misplaced -/
def ov (z : Int32) (n : Nat) (N : mN) : Prop := if z = 5 then n ≠ 0 else if z = 6 then n = 0 ∨ 40 ≤ n ∨ 6 ≤ N 0 1 else n = 0 ∨ 40 ≤ n ∨ 7 ≤ N 0 2
theorem c5_word {S : jS} {s n : Nat} {N : mN} (h3 : S.1 1 3 = nI s) (hn : S.1 3 5 = nI n) (hn2 : n ≤ 1000) (hH : HIs (hC S 4) N) (hD : DOk N) :
    (¬ (S.1 1 4 = 5 ∨ S.1 1 4 = 6 ∨ S.1 1 4 = 7) → f5_takeWord S = some (wI (wI S 3 4 (S.1 1 4)) 1 6 (nI (1 + 8 * s + 0)), 0)) ∧
    ((S.1 1 4 = 5 ∨ S.1 1 4 = 6 ∨ S.1 1 4 = 7) → ov (S.1 1 4) n N → f5_takeWord S = some (wI (wI S 3 4 (S.1 1 4)) 1 6 (nI (1 + 8 * s + 4)), 0)) ∧
    ((S.1 1 4 = 5 ∨ S.1 1 4 = 6 ∨ S.1 1 4 = 7) → ¬ ov (S.1 1 4) n N → f5_takeWord S = some (wI (wI (wI (wI S 3 4 (S.1 1 4)) 3 5 (nI (n + 1))) 3 3 0) 3 6 1, 1)) := by
  have w4 : (wI S 3 4 (S.1 1 4)).1 3 4 = S.1 1 4 := wI_self _ _ _ _
  have w5 : (wI S 3 4 (S.1 1 4)).1 3 5 = nI n := by rw [wI_nj (by omega)]; exact hn
  have w3 : (wI S 3 4 (S.1 1 4)).1 1 3 = nI s := by rw [wI_ne (by omega)]; exact h3
  have c1 : (wI S 3 4 (S.1 1 4)).1 4 1 = nI (N 0 1) := by rw [wI_ne (by omega)]; exact hH.1 1 (by omega) (by omega)
  have c2 : (wI S 3 4 (S.1 1 4)).1 4 2 = nI (N 0 2) := by rw [wI_ne (by omega)]; exact hH.1 2 (by omega) (by omega)
  have f0 := c_fail (S := wI S 3 4 (S.1 1 4)) (x := 0) (e := 0) w3 rfl
  have f4 := c_fail (S := wI S 3 4 (S.1 1 4)) (x := 4) (e := 4) w3 rfl
  have l1 := hD.2.1
  have l2 := hD.2.2.1
  have e1 : nI n + 1 = nI (n + 1) := nI_add n 1
  have q6 : (6 : Int32) ≤ nI (N 0 1) ↔ 6 ≤ N 0 1 := by rw [show (6 : Int32) = nI 6 from rfl, nI_leI (by omega) (by omega)]
  have q7 : nI (N 0 2) < (7 : Int32) ↔ N 0 2 < 7 := by rw [show (7 : Int32) = nI 7 from rfl, nI_ltI (by omega) (by omega)]
  have q40 : nI n < (40 : Int32) ↔ n < 40 := by rw [show (40 : Int32) = nI 40 from rfl, nI_ltI (by omega) (by omega)]
  have q0 : nI n = (0 : Int32) ↔ n = 0 := by rw [show (0 : Int32) = nI 0 from rfl, nI_eqI (by omega) (by omega)]
  refine ⟨fun z => ?_, fun z o => ?_, fun z o => ?_⟩
  · unfold f5_takeWord
    rw [w4, if_neg (fun y => z (Or.inl y)), if_neg (fun y => z (Or.inr (Or.inl y))), if_neg (fun y => z (Or.inr (Or.inr y))), f0]
  · unfold f5_takeWord
    rw [w4, w5, c1, c2, f4, e1]
    unfold ov at o
    simp only [q6, q7, q40, q0]
    rcases z with z | z | z <;> rw [z] at o ⊢
    · rw [if_pos rfl] at o
      simp [o]
    · rw [if_neg (by decide), if_pos rfl] at o
      by_cases a : n = 0
      · by_cases d : 6 ≤ N 0 1 <;> simp [a, d]
      · by_cases b : n < 40
        · have : 6 ≤ N 0 1 := by omega
          simp [a, b, this]
        · by_cases d : 6 ≤ N 0 1 <;> simp [a, b, d]
    · rw [if_neg (by decide), if_neg (by decide)] at o
      by_cases a : n = 0
      · by_cases d : N 0 2 < 7 <;> simp [a, d]
      · by_cases b : n < 40
        · have : ¬ N 0 2 < 7 := by omega
          simp [a, b, this]
        · by_cases d : N 0 2 < 7 <;> simp [a, b, d]
  · unfold f5_takeWord
    rw [w4, w5, c1, c2, f4, e1]
    unfold ov at o
    simp only [q6, q7, q40, q0]
    rcases z with z | z | z <;> rw [z] at o ⊢
    · rw [if_pos rfl] at o
      have : n = 0 := by omega
      simp [this]
    · rw [if_neg (by decide), if_pos rfl] at o
      have a : n ≠ 0 := by omega
      have b : n < 40 := by omega
      have c : ¬ 6 ≤ N 0 1 := by omega
      simp [a, b, c]
    · rw [if_neg (by decide), if_neg (by decide)] at o
      have a : n ≠ 0 := by omega
      have b : n < 40 := by omega
      have c : N 0 2 < 7 := by omega
      simp [a, b, c]
