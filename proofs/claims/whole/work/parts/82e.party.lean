/-! a clause of a party: the reference -/
theorem st_q {tn : Nat} {tb : Nat → Nat} (ot : TpOk tn tb) {X : jS} {s : Nat} {q : Nat × Int32} (hq : q ∈ wT) (hs : s < 1000) (hr : RTp X tn tb) (h2 : X.1 0 20 = nI s) : f11_stood X q.1 = some (if tkS tn tb s = q.2 then 1 else 0) := by
  rw [r_std ot hs (wT_wV q hq).2.2 hr h2]
  congr 1
  by_cases c : tkS tn tb s = q.2
  · rw [if_pos c, if_pos ((st_eq ot hq).mpr c)]
  · rw [if_neg c, if_neg (fun y => c ((st_eq ot hq).mp y))]
/-- which of the three words -/
theorem r_pw {tn : Nat} {tb : Nat → Nat} (ot : TpOk tn tb) {X : jS} {s : Nat} {a b : Int32} (hs : s < 1000) (hr : RTp X tn tb) (h2 : X.1 0 20 = nI s) : f11_partyClause_L1 X a b jF 0 = some (if tkS tn tb s = 5 then 0 else if tkS tn tb s = 6 then 1 else if tkS tn tb s = 7 then 2 else 3) := by
  have h5 := st_q (q := (12, 5)) ot (by decide) hs hr h2
  have h6 := st_q (q := (2, 6)) ot (by decide) hs hr h2
  have h7 := st_q (q := (5, 7)) ot (by decide) hs hr h2
  dsimp only at h5 h6 h7
  have hF : jF = 4996 + 1 + 1 + 1 + 1 := rfl
  have w0 : f11_partyWord 0 = some 12 := by decide
  have w1 : f11_partyWord (0 + 1) = some 2 := by decide
  have w2 : f11_partyWord (0 + 1 + 1) = some 5 := by decide
  rw [hF, f11_partyClause_L1, if_neg (by decide), w0, Option.bind_some, h5, Option.bind_some]
  by_cases c5 : tkS tn tb s = 5
  · rw [if_pos c5, if_pos c5, if_neg (by decide)]
  · rw [if_neg c5, if_neg c5, if_pos rfl, f11_partyClause_L1, if_neg (by decide), w1, Option.bind_some, h6, Option.bind_some]
    by_cases c6 : tkS tn tb s = 6
    · rw [if_pos c6, if_pos c6, if_neg (by decide)]; rfl
    · rw [if_neg c6, if_neg c6, if_pos rfl, f11_partyClause_L1, if_neg (by decide), w2, Option.bind_some, h7, Option.bind_some]
      by_cases c7 : tkS tn tb s = 7
      · rw [if_pos c7, if_pos c7, if_neg (by decide)]; rfl
      · rw [if_neg c7, if_neg c7, if_pos rfl, f11_partyClause_L1, if_pos (by decide)]; rfl
theorem r_ov {X : jS} {N : mN} {n : Nat} {z : Int32} (hz : z = 5 ∨ z = 6 ∨ z = 7) (hr : RD X N) (hD : DOk N) (hn : n ≤ 40) : ∃ r : Int32, f11_isOver X (if z = 5 then 0 else if z = 6 then 1 else if z = 7 then 2 else 3) (nI n) = some r ∧ ((r = 1 ∧ ov z n N) ∨ (r = 0 ∧ ¬ ov z n N)) := by
  obtain ⟨a1, a2, a3, -, -⟩ := hr
  have l1 := hD.2.1
  have l2 := hD.2.2.1
  have q40 : nI n = (40 : Int32) ↔ n = 40 := by rw [show (40 : Int32) = nI 40 from rfl, nI_eqI (by omega) (by omega)]
  have q0 : nI n = (0 : Int32) ↔ n = 0 := by rw [show (0 : Int32) = nI 0 from rfl, nI_eqI (by omega) (by omega)]
  have q6 : nI (N 0 1) = (6 : Int32) ↔ N 0 1 = 6 := by rw [show (6 : Int32) = nI 6 from rfl, nI_eqI (by omega) (by omega)]
  have q7 : nI (N 0 2) = (7 : Int32) ↔ N 0 2 = 7 := by rw [show (7 : Int32) = nI 7 from rfl, nI_eqI (by omega) (by omega)]
  unfold f11_isOver ov
  rw [a2, a3]
  simp only [q40, q0, q6, q7]
  rcases hz with z | z | z <;> subst z
  · by_cases c : n = 0
    · exact ⟨0, by simp [c], Or.inr ⟨rfl, by simp [c]⟩⟩
    · exact ⟨1, by by_cases d : n = 40 <;> simp [c, d], Or.inl ⟨rfl, by simp [c]⟩⟩
  · by_cases c : n = 0 ∨ 40 ≤ n ∨ 6 ≤ N 0 1
    · refine ⟨1, ?_, Or.inl ⟨rfl, by simpa using c⟩⟩
      by_cases d : n = 40
      · simp [d]
      · by_cases e : n = 0
        · simp [e]
        · have : N 0 1 = 6 := by omega
          simp [d, e, this]
    · refine ⟨0, ?_, Or.inr ⟨rfl, by simpa using c⟩⟩
      have d : n ≠ 40 := by omega
      have e : n ≠ 0 := by omega
      have f : N 0 1 ≠ 6 := by omega
      simp [d, e, f]
  · by_cases c : n = 0 ∨ 40 ≤ n ∨ 7 ≤ N 0 2
    · refine ⟨1, ?_, Or.inl ⟨rfl, by simpa using c⟩⟩
      by_cases d : n = 40
      · simp [d]
      · by_cases e : n = 0
        · simp [e]
        · have : N 0 2 = 7 := by omega
          simp [d, e, this]
    · refine ⟨0, ?_, Or.inr ⟨rfl, by simpa using c⟩⟩
      have d : n ≠ 40 := by omega
      have e : n ≠ 0 := by omega
      have f : N 0 2 ≠ 7 := by omega
      simp [d, e, f]
/-- the chairs so far: a fault where one stands there -/
theorem r_chs {X0 : jS} {N : mN} {s v : Nat} (hD : DOk N) (hv : v < 2 ^ 31) (h1 : X0.1 14 1 = nI (N 0 1)) (h2 : ∀ c, c < N 0 1 → X0.1 15 c = nI (N 1 c)) : ∀ n k X, N 0 1 - k < n → k ≤ N 0 1 → pf X0 X → ∃ X1, f11_chairPart_L1 (nI s) (nI v) n X (nI k) = some X1 ∧ pf X X1 ∧ X1.1 0 20 = X.1 0 20 ∧ (X.1 0 21 ≠ 0 → X1.1 0 21 = X.1 0 21) ∧ (X.1 0 21 = 0 → ((∃ c, k ≤ c ∧ c < N 0 1 ∧ N 1 c = v) → X1.1 0 21 = nI (1 + 8 * s + 1) ∨ nI (1 + 8 * s + 1) = 0) ∧ ((∀ c, k ≤ c → c < N 0 1 → N 1 c ≠ v) → X1.1 0 21 = 0)) := by
  intro n
  have l1 := hD.2.1
  induction n with
  | zero => intro k X h; omega
  | succ n ih =>
    intro k X hn hk hp
    have e1 : nI k + 1 = nI (k + 1) := nI_add k 1
    have g1 : X.1 14 1 = nI (N 0 1) := (hp _ _ (by omega) (by omega)).trans h1
    rw [f11_chairPart_L1, g1, e1]
    by_cases c : k < N 0 1
    · have g2 : X.1 15 k = nI (N 1 k) := (hp _ _ (by omega) (by omega)).trans (h2 k c)
      have hb := hD.2.2.2.2.1 k c
      have hb2 := hD.1
      rw [if_neg (by rw [nI_leI (by omega) (by omega)]; omega), inbk (by omega) (by omega), if_pos rfl, nI_clamp (by omega), g2]
      by_cases c0 : X.1 0 21 = 0
      · rw [if_pos c0]
        by_cases e : N 1 k = v
        · rw [if_pos (by rw [e]), r_flt (x := 1) (e := 1) rfl, Option.bind_some, Option.bind_some, if_pos c0]
          obtain ⟨X1, b1, b2, b3, b4, b5⟩ := ih (k + 1) (wI X 0 21 (nI (1 + 8 * s + 1))) (by omega) (by omega) (hp.tr pf.w21)
          refine ⟨X1, b1, pf.tr pf.w21 b2, by rw [b3, wI_nj (by omega)], fun z => absurd c0 z, fun _ => ⟨fun _ => ?_, fun z => absurd e (z k (by omega) c)⟩⟩
          rw [wI_self] at b4
          by_cases z : nI (1 + 8 * s + 1) = 0
          · exact Or.inr z
          · exact Or.inl (b4 z)
        · rw [if_neg (fun z => e (nI_j (by omega) hv z)), Option.bind_some]
          obtain ⟨X1, b1, b2, b3, b4, b5⟩ := ih (k + 1) X (by omega) (by omega) hp
          refine ⟨X1, b1, b2, b3, b4, fun z => ⟨fun ⟨x, x1, x2, x3⟩ => (b5 z).1 ⟨x, ?_, x2, x3⟩, fun y => (b5 z).2 (fun x x1 x2 => y x (by omega) x2)⟩⟩
          by_cases ex : x = k
          · rw [ex] at x3; exact absurd x3 e
          · omega
      · rw [if_neg c0, Option.bind_some]
        obtain ⟨X1, b1, b2, b3, b4, b5⟩ := ih (k + 1) X (by omega) (by omega) hp
        exact ⟨X1, b1, b2, b3, b4, fun z => absurd z c0⟩
    · rw [if_pos (by rw [nI_leI (by omega) (by omega)]; omega)]
      exact ⟨X, rfl, fun _ _ _ _ => rfl, rfl, fun _ => rfl, fun z => ⟨fun ⟨x, x1, x2, x3⟩ => by omega, fun _ => z⟩⟩
def R5 (X0 X : jS) (tn : Nat) (tb : Nat → Nat) (p : Nat) (N : mN) : Prop := RTp X tn tb ∧ X.1 0 20 = nI p ∧ X.1 0 21 = 0 ∧ RD X N ∧ fR X0 X
/-- what a clause leaves where it is at fault -/
def RF (X0 X : jS) (tn : Nat) (tb : Nat → Nat) (f : Nat) : Prop := RTp X tn tb ∧ (∃ p, p ≤ tn ∧ X.1 0 20 = nI p) ∧ X.1 0 21 = nI f ∧ fR X0 X
theorem fR.w {X0 X : jS} (h : fR X0 X) {a i : Nat} {x : Int32} (ha : (a = 0 ∧ 20 ≤ i ∧ i ≤ 22) ∨ (14 ≤ a ∧ a ≤ 18)) : fR X0 (wI X a i x) := fun n b j k => by
  have k' := k
  unfold kpR at k'
  rw [wI_g, if_neg (by omega)]; exact h n b j k
theorem RTp.w {X : jS} {tn : Nat} {tb : Nat → Nat} (h : RTp X tn tb) {a i : Nat} {x : Int32} (h1 : ¬ (a = 0 ∧ i = 19)) (h2 : a ≠ 29) : RTp (wI X a i x) tn tb := ⟨by rw [wI_g, if_neg (by omega)]; exact h.1, fun j hj => by rw [wI_ne (by omega)]; exact h.2 j hj⟩
