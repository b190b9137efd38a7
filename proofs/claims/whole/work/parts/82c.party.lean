/-! the class, sign by sign -/
def fC (S0 S : jS) : Prop := ∀ a i, kpC a → S.1 a i = S0.1 a i
theorem fC.w {S0 S : jS} (h : fC S0 S) {a i : Nat} {x : Int32} (ha : 0 < a ∧ a < 100) : fC S0 (wI S a i x) := fun b j k => by
  have k' := k
  unfold kpC at k'
  rw [wI_ne (by omega)]; exact h b j k
theorem C5.w {S0 S : jS} {tn : Nat} {tb : Nat → Nat} {p : Nat} {N : mN} {st : Int32} {n : Nat} (h : C5 S0 S tn tb p N st n) {a i : Nat} {x : Int32} (ha : (a = 3 ∧ i ≠ 5 ∧ i ≠ 6) ∨ a = 11) : C5 S0 (wI S a i x) tn tb p N st n := by
  obtain ⟨a1, a2, a3, a4, a5, a6⟩ := h
  refine ⟨⟨by rw [wI_ne (by omega)]; exact a1.1, fun j hj => by rw [wI_ne (by omega)]; exact a1.2 j hj⟩, by rw [wI_ne (by omega)]; exact a2, a3.mono (fun b j u v => wI_ne (by omega)), by rw [wI_g, if_neg (by omega)]; exact a4, by rw [wI_g, if_neg (by omega)]; exact a5, fC.w a6 (by omega)⟩
theorem C5.st {S0 S : jS} {tn : Nat} {tb : Nat → Nat} {p : Nat} {N : mN} {st st' : Int32} {n : Nat} (h : C5 S0 S tn tb p N st n) : C5 S0 (wI S 3 6 st') tn tb p N st' n := by
  obtain ⟨a1, a2, a3, a4, a5, a6⟩ := h
  refine ⟨⟨by rw [wI_ne (by omega)]; exact a1.1, fun j hj => by rw [wI_ne (by omega)]; exact a1.2 j hj⟩, by rw [wI_ne (by omega)]; exact a2, a3.mono (fun b j u v => wI_ne (by omega)), wI_self _ _ _ _, by rw [wI_nj (by omega)]; exact a5, fC.w a6 (by omega)⟩
theorem C5.cl {S0 S : jS} {tn : Nat} {tb : Nat → Nat} {p : Nat} {N : mN} {st : Int32} {n n' : Nat} (h : C5 S0 S tn tb p N st n) : C5 S0 (wI S 3 5 (nI n')) tn tb p N st n' := by
  obtain ⟨a1, a2, a3, a4, a5, a6⟩ := h
  refine ⟨⟨by rw [wI_ne (by omega)]; exact a1.1, fun j hj => by rw [wI_ne (by omega)]; exact a1.2 j hj⟩, by rw [wI_ne (by omega)]; exact a2, a3.mono (fun b j u v => wI_ne (by omega)), by rw [wI_nj (by omega)]; exact a4, wI_self _ _ _ _, fC.w a6 (by omega)⟩
theorem c5_flt {S0 S S1 : jS} {m k f : Nat} {r : Option (jS × Int32)} (hf : fC S0 S1) (h : f5_read_L1 (m + 1) S (nI k) = Option.bind r (fun r4 => (if r4.2 = 0 then some (r4.1, r4.1.1 1 6) else f5_read_L1 m r4.1 (nI (k + 1))))) (hr : r = some (wI S1 1 6 (nI f), 0)) : ∃ S', f5_read_L1 (m + 1) S (nI k) = some (S', nI f) ∧ fC S0 S' := by
  refine ⟨wI S1 1 6 (nI f), ?_, hf.w (by omega)⟩
  rw [h, hr, Option.bind_some, if_pos rfl, wI_self]
theorem bnd01 {r : Option (jS × Int32)} {S1 : jS} {x : Int32} (h : r = some (S1, x)) (hx : x = 0 ∨ x = 1) : Option.bind r (fun r1 => (if r1.2 = 0 ∨ r1.2 = 1 then some (r1.1, r1.2) else none)) = some (S1, x) := by
  rw [h, Option.bind_some, if_pos hx]
theorem c5W {S0 S : jS} {tn : Nat} {tb : Nat → Nat} (ot : TpOk tn tb) {p : Nat} {N : mN} {n m k : Nat} (h : C5 S0 S tn tb p N 0 n) (hp : p ≤ tn) (hk : k ≤ 400) (hn : n ≤ 1000) (hD : DOk N) :
    (¬ (tkS tn tb (sk tn tb p) = 5 ∨ tkS tn tb (sk tn tb p) = 6 ∨ tkS tn tb (sk tn tb p) = 7) → ∃ S', f5_read_L1 (m + 1) S (nI k) = some (S', nI (1 + 8 * sk tn tb p + 0)) ∧ fC S0 S') ∧
    ((tkS tn tb (sk tn tb p) = 5 ∨ tkS tn tb (sk tn tb p) = 6 ∨ tkS tn tb (sk tn tb p) = 7) → ov (tkS tn tb (sk tn tb p)) n N → ∃ S', f5_read_L1 (m + 1) S (nI k) = some (S', nI (1 + 8 * sk tn tb p + 4)) ∧ fC S0 S') ∧
    ((tkS tn tb (sk tn tb p) = 5 ∨ tkS tn tb (sk tn tb p) = 6 ∨ tkS tn tb (sk tn tb p) = 7) → ¬ ov (tkS tn tb (sk tn tb p)) n N → ∃ S', f5_read_L1 (m + 1) S (nI k) = f5_read_L1 m S' (nI (k + 1)) ∧ C5 S0 S' tn tb (tkE tn tb (sk tn tb p)) N 1 (n + 1) ∧ S'.1 3 4 = tkS tn tb (sk tn tb p) ∧ S'.1 3 3 = nI 0) := by
  obtain ⟨S1, g, e⟩ := c5_go (n := m) ot hp hk h.1 h.2.1 (by rw [h.2.2.2.1]; decide)
  have h1 := h.sg g
  obtain ⟨w1, w2, w3⟩ := c5_word g.2.1 h1.2.2.2.2.1 hn h1.2.2.1 hD
  rw [g.2.2.1] at w1 w2 w3
  have ts : f5_takeSign S1 = Option.bind (f5_takeWord S1) (fun r1 => (if r1.2 = 0 ∨ r1.2 = 1 then some (r1.1, r1.2) else none)) := by
    unfold f5_takeSign; rw [h1.2.2.2.1, if_pos rfl]
  refine ⟨fun z => ?_, fun z o => ?_, fun z o => ?_⟩
  · exact c5_flt (S1 := wI S1 3 4 (tkS tn tb (sk tn tb p))) (fC.w h1.2.2.2.2.2 (by omega)) e (by rw [ts]; exact bnd01 (w1 z) (Or.inl rfl))
  · exact c5_flt (S1 := wI S1 3 4 (tkS tn tb (sk tn tb p))) (fC.w h1.2.2.2.2.2 (by omega)) e (by rw [ts]; exact bnd01 (w2 z o) (Or.inl rfl))
  · refine ⟨_, ?_, C5.st (st' := 1) (C5.w (a := 3) (i := 3) (x := 0) (C5.cl (n' := n + 1) (C5.w (a := 3) (i := 4) (x := tkS tn tb (sk tn tb p)) h1 (by omega))) (by omega)), ?_, ?_⟩
    · rw [e, ts, bnd01 (w3 z o) (Or.inr rfl), Option.bind_some, if_neg (show ¬ (1 : Int32) = 0 by decide)]
    · rw [wI_nj (by omega), wI_nj (by omega), wI_nj (by omega), wI_self]
    · rw [wI_nj (by omega), wI_self]; rfl
def nLo (z : Int32) (j : Nat) : Nat := if z = 5 then 4 else if j = 2 then 1 else 0
def nHi (z : Int32) (j P : Nat) : Nat := if z = 5 then 24 else if j = 0 then P - 1 else if j = 1 then 5 else 9
theorem c5N {S0 S : jS} {tn : Nat} {tb : Nat → Nat} (ot : TpOk tn tb) {p : Nat} {N : mN} {n m k j : Nat} {z : Int32} {v : Nat → Nat} (h : C5 S0 S tn tb p N 1 n) (hp : p ≤ tn) (hk : k ≤ 400) (hD : DOk N) (hz : S.1 3 4 = z) (hz2 : z = 5 ∨ z = 6 ∨ z = 7) (hj : S.1 3 3 = nI j) (hj2 : j < 3) (hz3 : z = 7 ∨ j = 0) (hP : z = 5 ∨ 4 ≤ N 0 0) (hv : ∀ i, i < j → S.1 11 i = nI (v i)) (h6 : z = 6 → N 0 1 < 6) (h7 : z = 7 → N 0 2 < 7) :
    (∀ e, am tn tb (sk tn tb p) (nLo z j) (nHi z j (N 0 0)) = some e → ∃ S', f5_read_L1 (m + 1) S (nI k) = some (S', nI (1 + 8 * sk tn tb p + e)) ∧ fC S0 S') ∧
    (am tn tb (sk tn tb p) (nLo z j) (nHi z j (N 0 0)) = none → z = 6 → (∃ c, c < N 0 1 ∧ N 1 c = tkV tn tb (sk tn tb p)) → ∃ S', f5_read_L1 (m + 1) S (nI k) = some (S', nI (1 + 8 * sk tn tb p + 1)) ∧ fC S0 S') ∧
    (am tn tb (sk tn tb p) (nLo z j) (nHi z j (N 0 0)) = none → z = 7 → j < 2 → ∃ S', f5_read_L1 (m + 1) S (nI k) = f5_read_L1 m S' (nI (k + 1)) ∧ C5 S0 S' tn tb (tkE tn tb (sk tn tb p)) N 1 n ∧ S'.1 3 4 = z ∧ S'.1 3 3 = nI (j + 1) ∧ (∀ i, i < j → S'.1 11 i = nI (v i)) ∧ S'.1 11 j = nI (tkV tn tb (sk tn tb p))) ∧
    (am tn tb (sk tn tb p) (nLo z j) (nHi z j (N 0 0)) = none → (z = 6 → ¬ ∃ c, c < N 0 1 ∧ N 1 c = tkV tn tb (sk tn tb p)) → (z = 7 → j = 2) → ∃ S', f5_read_L1 (m + 1) S (nI k) = f5_read_L1 m S' (nI (k + 1)) ∧ C5 S0 S' tn tb (tkE tn tb (sk tn tb p)) (if z = 5 then dPl N (tkV tn tb (sk tn tb p)) else if z = 6 then dCh N (tkV tn tb (sk tn tb p)) else dGu N (v 0) (v 1) (tkV tn tb (sk tn tb p))) 2 n) := by
  obtain ⟨S1, g, e⟩ := c5_go (n := m) ot hp hk h.1 h.2.1 (by rw [h.2.2.2.1]; decide)
  have h1 := h.sg g
  have gf := g.2.2.2.2
  have z1 : S1.1 3 4 = z := (gf _ _ (by omega)).trans hz
  have j1 : S1.1 3 3 = nI j := (gf _ _ (by omega)).trans hj
  have p1 : S1.1 4 0 = nI (N 0 0) := h1.2.2.1.1 0 (by omega) (by omega)
  have hlo : f5_lowest S1 = some (nI (nLo z j)) := by
    unfold f5_lowest nLo
    rw [z1, j1]
    by_cases c5 : z = 5
    · rw [if_pos c5, if_pos c5]; rfl
    · rw [if_neg c5, if_neg c5]
      by_cases c2 : j = 2
      · rw [if_pos c2, c2]; rfl
      · rw [if_neg c2, if_neg (show ¬ nI j = 2 from fun y => c2 (nI_j (b := 2) (by omega) (by omega) y))]; rfl
  have hhi : f5_highest S1 = some (nI (nHi z j (N 0 0))) := by
    unfold f5_highest nHi
    rw [z1, j1, p1]
    by_cases c5 : z = 5
    · rw [if_pos c5, if_pos c5]; rfl
    · rw [if_neg c5, if_neg c5]
      by_cases c0 : j = 0
      · have eP : nI (N 0 0) - 1 = nI (N 0 0 - 1) := nI_sub (b := 1) (by rcases hP with y | y; (· exact absurd y c5); (· omega))
        rw [if_pos c0, c0, eP]; rfl
      · rw [if_neg c0, if_neg (show ¬ nI j = 0 from fun y => c0 (nI_j (b := 0) (by omega) (by omega) y))]
        by_cases c1 : j = 1
        · rw [if_pos c1, c1]; rfl
        · rw [if_neg c1, if_neg (show ¬ nI j = 1 from fun y => c1 (nI_j (b := 1) (by omega) (by omega) y))]; rfl
  have hb : nLo z j < 100 ∧ nHi z j (N 0 0) < 100 := by
    have := hD.1
    unfold nLo nHi
    constructor
    · split
      · omega
      · split <;> omega
    · split
      · omega
      · split
        · omega
        · split <;> omega
  obtain ⟨n1, n2, n3⟩ := c5_num (tn := tn) (tb := tb) (s := sk tn tb p) g.2.1 g.2.2.1 g.2.2.2.1 j1 hj2 hlo hhi hb h1.2.2.1 hD
  rw [z1] at n2 n3
  have ts : f5_takeSign S1 = Option.bind (f5_takeNumber S1) (fun r1 => (if r1.2 = 0 ∨ r1.2 = 1 then some (r1.1, r1.2) else none)) := by
    unfold f5_takeSign; rw [h1.2.2.2.1, if_neg (by decide), if_pos rfl]
  refine ⟨fun x y => ?_, fun y a b => ?_, fun y a b => ?_, fun y a b => ?_⟩
  · exact c5_flt (S1 := S1) h1.2.2.2.2.2 e (by rw [ts]; exact bnd01 (n1 x y) (Or.inl rfl))
  · exact c5_flt (S1 := S1) h1.2.2.2.2.2 e (by rw [ts]; exact bnd01 (n2 y a b) (Or.inl rfl))
  · have n3' := n3 y (fun z6 => by rw [z6] at a; exact absurd a (by decide))
    rw [if_pos ⟨a, by omega⟩, Option.bind_some] at n3'
    refine ⟨_, ?_, C5.w (C5.w (a := 11) (i := j) (x := nI (tkV tn tb (sk tn tb p))) h1 (by omega)) (by omega), ?_, wI_self _ _ _ _, fun i hi => ?_, ?_⟩
    · rw [e, ts, bnd01 n3' (Or.inr rfl), Option.bind_some, if_neg (show ¬ (1 : Int32) = 0 by decide)]; rfl
    · rw [wI_nj (by omega), wI_ne (by omega)]; exact z1
    · rw [wI_ne (by omega), wI_nj (by omega)]; exact (gf _ _ (by omega)).trans (hv i hi)
    · rw [wI_ne (by omega), wI_self]
  · have n3' := n3 y a
    rw [if_neg (fun w => by have := b w.1; omega)] at n3'
    have hK : C5 S0 (c5K S1 j (tkV tn tb (sk tn tb p))) tn tb (tkE tn tb (sk tn tb p)) N 1 n := C5.w (C5.w (a := 11) (i := j) (x := nI (tkV tn tb (sk tn tb p))) h1 (by omega)) (by omega)
    have kz : (c5K S1 j (tkV tn tb (sk tn tb p))).1 3 4 = z := by unfold c5K; rw [wI_nj (by omega), wI_ne (by omega)]; exact z1
    have kv : ∀ i, (c5K S1 j (tkV tn tb (sk tn tb p))).1 11 i = if i = j then nI (tkV tn tb (sk tn tb p)) else S1.1 11 i := fun i => by
      unfold c5K; rw [wI_ne (by omega), wI_g]
      by_cases c : i = j
      · rw [if_pos ⟨rfl, c⟩, if_pos c]
      · rw [if_neg (fun y => c y.2), if_neg c]
    have kv' : ∀ i, i < j → (c5K S1 j (tkV tn tb (sk tn tb p))).1 11 i = nI (v i) := fun i hi => by
      rw [kv, if_neg (by omega)]; exact (gf _ _ (by omega)).trans (hv i hi)
    obtain ⟨S2, b1, b2, b3, b4⟩ := c5_end (S := c5K S1 j (tkV tn tb (sk tn tb p))) (N := N) (v0 := if z = 7 then v 0 else tkV tn tb (sk tn tb p)) (v1 := v 1) (v2 := tkV tn tb (sk tn tb p)) (w := z) kz.symm hK.2.2.1 hD (by
      by_cases c7 : z = 7
      · rw [if_pos c7]; exact kv' 0 (by have := b c7; omega)
      · have : j = 0 := by rcases hz3 with y | y; (· exact absurd y c7); (· exact y)
        rw [if_neg c7, kv, if_pos this.symm]) (fun c7 => ⟨kv' 1 (by have := b c7; omega), by rw [kv, if_pos (b c7).symm]⟩) h6 h7 hz2
    refine ⟨S2, ?_, ⟨⟨(b4 _ _ (by omega) (by omega)).trans hK.1.1, fun i hi => (b4 _ _ (by omega) (by omega)).trans (hK.1.2 i hi)⟩, (b4 _ _ (by omega) (by omega)).trans hK.2.1, ?_, b3, (b4 _ _ (by omega) (by omega)).trans hK.2.2.2.2.1, fun a i k => ?_⟩⟩
    · rw [b1, Option.bind_some, Option.bind_some] at n3'
      rw [e, ts, bnd01 n3' (Or.inr rfl), Option.bind_some, if_neg (show ¬ (1 : Int32) = 0 by decide)]
    · by_cases c5 : z = 5
      · rw [if_pos c5] at b2 ⊢
        rw [if_neg (by rw [c5]; decide)] at b2; exact b2
      · rw [if_neg c5] at b2 ⊢
        by_cases c6 : z = 6
        · rw [if_pos c6] at b2 ⊢
          rw [if_neg (by rw [c6]; decide)] at b2; exact b2
        · rw [if_neg c6] at b2 ⊢
          have c7 : z = 7 := by rcases hz2 with y | y | y; (· exact absurd y c5); (· exact absurd y c6); (· exact y)
          rw [if_pos c7] at b2; exact b2
    · have k' := k; unfold kpC at k'
      exact (b4 _ _ (by omega) (by omega)).trans (hK.2.2.2.2.2 a i k)
theorem c5B {S0 S : jS} {tn : Nat} {tb : Nat → Nat} (ot : TpOk tn tb) {p : Nat} {N : mN} {n m k : Nat} (h : C5 S0 S tn tb p N 2 n) (hp : p ≤ tn) (hk : k ≤ 400) :
    (tkS tn tb (sk tn tb p) = 8 → ∃ S', f5_read_L1 (m + 2) S (nI k) = f5_read_L1 (m + 1) S' (nI (k + 1)) ∧ C5 S0 S' tn tb (tkE tn tb (sk tn tb p)) N 0 n) ∧
    (tkS tn tb (sk tn tb p) = 1 → ∃ S', f5_read_L1 (m + 2) S (nI k) = some (S', 0) ∧ fC S0 S' ∧ HIs (hC S' 4) N) ∧
    (tkS tn tb (sk tn tb p) ≠ 8 → tkS tn tb (sk tn tb p) ≠ 1 → ∃ S', f5_read_L1 (m + 2) S (nI k) = some (S', nI (1 + 8 * sk tn tb p + 0)) ∧ fC S0 S') := by
  obtain ⟨S1, g, e⟩ := c5_go (n := m + 1) ot hp hk h.1 h.2.1 (by rw [h.2.2.2.1]; decide)
  have h1 := h.sg g
  have ts : f5_takeSign S1 = Option.bind (f5_takeBehindClause S1) (fun r1 => (if r1.2 = 0 ∨ r1.2 = 1 then some (r1.1, r1.2) else none)) := by
    unfold f5_takeSign; rw [h1.2.2.2.1, if_neg (by decide), if_neg (by decide)]
  refine ⟨fun z => ?_, fun z => ?_, fun z z' => ?_⟩
  · have t : f5_takeBehindClause S1 = some (wI S1 3 6 0, 1) := by unfold f5_takeBehindClause; rw [g.2.2.1, z, if_pos rfl, if_pos rfl]
    exact ⟨_, by rw [e, ts, bnd01 t (Or.inr rfl), Option.bind_some, if_neg (show ¬ (1 : Int32) = 0 by decide)], h1.st⟩
  · have t : f5_takeBehindClause S1 = some (wI S1 3 6 3, 1) := by unfold f5_takeBehindClause; rw [g.2.2.1, z, if_neg (by decide), if_pos rfl, if_neg (by decide)]
    refine ⟨wI S1 3 6 3, ?_, (h1.st (st' := 3)).2.2.2.2.2, (h1.st (st' := 3)).2.2.1⟩
    rw [e, ts, bnd01 t (Or.inr rfl), Option.bind_some, if_neg (show ¬ (1 : Int32) = 0 by decide)]
    dsimp only
    rw [f5_read_L1, wI_self, if_pos rfl]
    split <;> rfl
  · have t : f5_takeBehindClause S1 = some (wI S1 1 6 (nI (1 + 8 * sk tn tb p + 0)), 0) := by
      unfold f5_takeBehindClause; rw [g.2.2.1, if_neg z, if_neg z', c_fail (x := 0) g.2.1 (e := 0) rfl]
    exact c5_flt (S1 := S1) h1.2.2.2.2.2 e (by rw [ts]; exact bnd01 t (Or.inl rfl))
