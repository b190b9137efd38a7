/-! words and numbers, the reference; what it sees against the class's signs -/
theorem sb_L : ∀ b, b < 256 → isL b = true → sb b = nI b := by decide +kernel
theorem r_st1 {tn : Nat} {tb : Nat → Nat} (ot : TpOk tn tb) {X : jS} {t : Nat} (hr : RTp X tn tb) : ∀ n p, tn - p < n → p < 1000 → f11_stood_L1 X t n (nI p) = some (nI (run isL tn tb p)) := by
  intro n
  have l := ot.1
  induction n with
  | zero => intro p h; omega
  | succ n ih =>
    intro p hn hp
    have e1 : nI p + 1 = nI (p + 1) := nI_add p 1
    rw [f11_stood_L1, hr.1, nI_clamp (by omega), e1]
    by_cases c : p < tn
    · have hL := r_sL _ (ot.2 p c)
      rw [if_neg (by rw [nI_leI (by omega) (by omega)]; omega), inb4 (by omega), if_pos rfl, hr.2 p c]
      change (if sb (tb p) < 97 then _ else (if 122 < sb (tb p) then _ else _)) = _
      by_cases e : isL (tb p) = true
      · rw [if_neg (hL.mpr e).1, if_neg (hL.mpr e).2, run_go ⟨c, e⟩]
        exact ih (p + 1) (by omega) (by omega)
      · rw [run_no (fun z => e z.2)]
        split
        · rfl
        · split
          · rfl
          · rename_i z1 z2; exact absurd (hL.mp ⟨z1, z2⟩) e
    · rw [if_pos (by rw [nI_leI (by omega) (by omega)]; omega), run_no (fun z => c z.1)]
theorem r_st2 {tn : Nat} {tb : Nat → Nat} (ot : TpOk tn tb) {X : jS} {p t L : Nat} (ht : t < 18) (hL : jlen.getD t 0 = L) (hp : p + L ≤ tn) (hl : ∀ i, p ≤ i → i < p + L → isL (tb i) = true) (hr : RTp X tn tb) (h2 : X.1 0 20 = nI p) : ∀ n k, L - k < n → k ≤ L → ∃ r : Int32, f11_stood_L2 X t n 1 (nI k) = some r ∧ ((r = 1 ∧ ∀ i, k ≤ i → i < L → nI (tb (p + i)) = (jb t).getD i 0) ∨ (r = 0 ∧ ¬ ∀ i, k ≤ i → i < L → nI (tb (p + i)) = (jb t).getD i 0)) := by
  intro n
  have l := ot.1
  have hL2 : L < 10 := by rw [← hL]; exact (jb_len t ht).2
  induction n with
  | zero => intro k h; omega
  | succ n ih =>
    intro k hn hk
    have e1 : nI k + 1 = nI (k + 1) := nI_add k 1
    have e2 : nI p + nI k = nI (p + k) := nI_add p k
    rw [f11_stood_L2, slen, hL, h2, e2, nI_clamp (by omega)]
    by_cases c : k < L
    · have q : sb (tb (p + k)) = nI (tb (p + k)) := sb_L _ (ot.2 _ (by omega)) (hl _ (by omega) (by omega))
      rw [if_neg (by rw [nI_leI (by omega) (by omega)]; omega), if_neg (by decide), inb4 (by omega), if_pos rfl, (show inb (nI k) L = true by rw [inb_n (by omega)]; simpa using c), if_pos rfl, hr.2 _ (by omega), sch, nI_clamp (by omega), e1]
      change ∃ r : Int32, f11_stood_L2 X t n (if sb (tb (p + k)) = (jb t).getD k 0 then 1 else 0) (nI (k + 1)) = some r ∧ _
      rw [q]
      by_cases e : nI (tb (p + k)) = (jb t).getD k 0
      · rw [if_pos e]
        obtain ⟨r, r1, r2⟩ := ih (k + 1) (by omega) (by omega)
        refine ⟨r, r1, ?_⟩
        rcases r2 with ⟨r2, z⟩ | ⟨r2, z⟩
        · refine Or.inl ⟨r2, fun i a b => ?_⟩
          by_cases ei : i = k
          · rw [ei]; exact e
          · exact z i (by omega) b
        · exact Or.inr ⟨r2, fun y => z (fun i a b => y i (by omega) b)⟩
      · rw [if_neg e]
        obtain ⟨m, rfl⟩ : ∃ m, n = m + 1 := ⟨n - 1, by omega⟩
        refine ⟨0, ?_, Or.inr ⟨rfl, fun z => e (z k (by omega) c)⟩⟩
        rw [f11_stood_L2]
        split <;> rfl
    · rw [if_pos (by rw [nI_leI (by omega) (by omega)]; omega)]
      exact ⟨1, rfl, Or.inl ⟨rfl, fun i a b => by omega⟩⟩
theorem r_std {tn : Nat} {tb : Nat → Nat} (ot : TpOk tn tb) {X : jS} {p t : Nat} (hp : p < 1000) (ht : t < 18) (hr : RTp X tn tb) (h2 : X.1 0 20 = nI p) : f11_stood X t = some (if wW tn tb p = jb t then 1 else 0) := by
  have l := ot.1
  obtain ⟨j1, j2⟩ := jb_len t ht
  have hpr : p ≤ run isL tn tb p := by
    by_cases c : p ≤ tn
    · exact (run_le c).1
    · rw [run_no (by omega)]; omega
  have hrt : run isL tn tb p < 2000 := by
    by_cases c : p ≤ tn
    · have := (run_le (f := isL) (tb := tb) c).2; omega
    · rw [run_no (by omega)]; omega
  have es : nI (run isL tn tb p) - nI p = nI (run isL tn tb p - p) := nI_sub hpr
  unfold f11_stood
  rw [h2, r_st1 ot hr jF p (by unfold jF; omega) hp, Option.bind_some, es, slen]
  by_cases c : run isL tn tb p - p = jlen.getD t 0
  · have j0 : jlen.getD t 0 ≠ 0 := by
      have : ∀ t, t < 18 → jlen.getD t 0 ≠ 0 := by decide +kernel
      exact this t ht
    have hpt : p ≤ tn := by
      rcases Nat.lt_or_ge tn p with g | g
      · rw [run_no (by omega)] at c; omega
      · exact g
    have hle := (run_le (f := isL) (tb := tb) hpt).2
    obtain ⟨r, r1, r2⟩ := r_st2 (X := X) (p := p) ot ht rfl (by omega) (fun i a b => (run_in hpt).1 i a (by omega)) hr h2 jF 0 (by unfold jF; omega) (by omega)
    rw [if_pos (by rw [c]), show f11_stood_L2 X t jF 1 0 = some r from r1, Option.bind_some]
    have q := wl_eq (tb := tb) (s := p) (k := run isL tn tb p - p) (l := jb t) (by rw [j1, c])
    rcases r2 with ⟨r2, z⟩ | ⟨r2, z⟩
    · subst r2
      rw [if_pos (Or.inr rfl), if_pos (show wW tn tb p = jb t from q.mpr (fun i b => z i (by omega) (by omega)))]
    · subst r2
      rw [if_pos (Or.inl rfl), if_neg (show ¬ wW tn tb p = jb t from fun y => z (fun i _ b => q.mp y i (by omega)))]
  · have c' : ¬ nI (run isL tn tb p - p) = nI (jlen.getD t 0) := by rw [nI_eqI (by omega) (by omega)]; exact c
    rw [if_neg c', if_neg (fun z => c (by rw [← j1, ← z, wW, wl_len]))]
    have hF : jF = 4999 + 1 := rfl
    rw [hF, f11_stood_L2]
    split <;> rfl
theorem r_dg1 {tn : Nat} {tb : Nat → Nat} (ot : TpOk tn tb) {s : Nat} {a : Int32} : ∀ n p X, tn - p < n → p ≤ tn → s ≤ p → (∀ i, s ≤ i → i < p → isD (tb i) = true) → RTp X tn tb → X.1 0 20 = nI p → ∃ X1, f11_digits_L1 a (nI s) n X (nI (dgv tb s (p - s))) = some (X1, nI (dgv tb s (run isD tn tb p - s))) ∧ X1.1 0 20 = nI (run isD tn tb p) ∧ ∀ a i, ¬ (a = 0 ∧ i = 20) → X1.1 a i = X.1 a i := by
  intro n
  have l := ot.1
  induction n with
  | zero => intro p X h; omega
  | succ n ih =>
    intro p X hn hp hsp hall hr h2
    have e1 : nI p + 1 = nI (p + 1) := nI_add p 1
    have e0 : nI p - nI s = nI (p - s) := nI_sub hsp
    rw [f11_digits_L1, r_dgt ot (by omega) hr h2, Option.bind_some, r_sg ot (by omega) hr h2, Option.bind_some, h2, e0, e1]
    by_cases c : p < tn ∧ isD (tb p) = true
    · have d := c.2
      simp only [isD, decide_eq_true_eq] at d
      rw [if_pos c, if_neg (by decide), run_go c]
      have hall' : ∀ i, s ≤ i → i < p + 1 → isD (tb i) = true := fun i a b => by
        by_cases ei : i = p
        · rw [ei]; exact c.2
        · exact hall i a (by omega)
      have ek : p + 1 - s = (p - s) + 1 := by omega
      obtain ⟨X1, a1, a2, a3⟩ := ih (p + 1) (wI X 0 20 (nI (p + 1))) (by omega) (by omega) (by omega) hall' ⟨by rw [wI_nj (by omega)]; exact hr.1, fun i hi => by rw [wI_ne (by omega)]; exact hr.2 i hi⟩ (wI_self _ _ _ _)
      refine ⟨X1, ?_, a2, fun a i g => by rw [a3 a i g, wI_g, if_neg g]⟩
      rw [← a1, ek, dgv]
      by_cases c5 : 5 ≤ p - s
      · rw [if_pos (by rw [show (5 : Int32) = nI 5 from rfl, nI_leI (by omega) (by omega)]; exact c5), Option.bind_some, if_neg (by omega)]
      · rw [if_neg (by rw [show (5 : Int32) = nI 5 from rfl, nI_leI (by omega) (by omega)]; exact c5), Option.bind_some, if_pos (by omega), sgv, if_pos c.1, (dg_st d.1).2, show s + (p - s) = p by omega]
    · rw [if_neg c, if_pos rfl, run_no c]
      exact ⟨X, rfl, h2, fun _ _ _ => rfl⟩
/-- digits, the reference: the value; a fault where there are too many -/
theorem r_dig {tn : Nat} {tb : Nat → Nat} (ot : TpOk tn tb) {X : jS} {p : Nat} (hp : p < 1000) (hr : RTp X tn tb) (h2 : X.1 0 20 = nI p) (hd : p < tn ∧ isD (tb p) = true) : ∃ X1, f11_digits X 99999 = some (X1, nI (tkV tn tb p)) ∧ X1.1 0 20 = nI (run isD tn tb p) ∧ (X1.1 0 21 = if X.1 0 21 = 0 ∧ 5 < run isD tn tb p - p then nI (1 + 8 * p + 1) else X.1 0 21) ∧ ∀ a i, ¬ (a = 0 ∧ i = 20) → ¬ (a = 0 ∧ i = 21) → X1.1 a i = X.1 a i := by
  have l := ot.1
  obtain ⟨r1, r2⟩ := run_le (f := isD) (tb := tb) (Nat.le_of_lt hd.1)
  obtain ⟨X1, a1, a2, a3⟩ := r_dg1 (s := p) (a := 99999) ot jF p X (by unfold jF; omega) (by omega) (by omega) (fun i a b => by omega) hr h2
  rw [Nat.sub_self] at a1
  have es : nI (run isD tn tb p) - nI p = nI (run isD tn tb p - p) := nI_sub r1
  have hv : tkV tn tb p ≤ 99999 := dgv_le (fun i a b => (run_in (Nat.le_of_lt hd.1)).1 i a (by omega))
  unfold f11_digits
  rw [r_dgt ot (by omega) hr h2, Option.bind_some, if_pos hd, if_neg (by decide), h2, show f11_digits_L1 99999 (nI p) jF X 0 = some (X1, nI (tkV tn tb p)) from a1, Option.bind_some]
  dsimp only
  rw [a2, es]
  by_cases c : 5 < run isD tn tb p - p
  · rw [if_pos (by rw [show (5 : Int32) = nI 5 from rfl, nI_ltI (by omega) (by omega)]; exact c)]
    unfold f11_fails
    rw [Option.bind_some, Option.bind_some, a3 0 21 (by omega)]
    refine ⟨_, rfl, by rw [wI_nj (by omega)]; exact a2, ?_, fun a i g g' => by rw [wI_g, if_neg g']; exact a3 a i g⟩
    rw [wI_self]
    have e8 : 1 + 8 * nI p + 1 = nI (1 + 8 * p + 1) := by
      have u1 : 8 * nI p = nI (8 * p) := nI_mul 8 p
      have u2 : 1 + nI (8 * p) = nI (1 + 8 * p) := nI_add 1 (8 * p)
      have u3 : nI (1 + 8 * p) + 1 = nI (1 + 8 * p + 1) := nI_add _ 1
      rw [u1, u2, u3]
    by_cases z : X.1 0 21 = 0
    · rw [if_pos z, if_pos ⟨z, c⟩, e8]
    · rw [if_neg z, if_neg (fun y => z y.1)]
  · rw [if_neg (by rw [show (5 : Int32) = nI 5 from rfl, nI_ltI (by omega) (by omega)]; exact c), if_pos (by rw [show (99999 : Int32) = nI 99999 from rfl, nI_leI (by omega) (by omega)]; exact hv), Option.bind_some]
    exact ⟨X1, rfl, a2, by rw [if_neg (fun y => c y.2)]; exact a3 _ _ (by omega), fun a i g _ => a3 a i g⟩
