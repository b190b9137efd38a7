/-! numbers of a clause, the class -/
theorem inbk {k n : Nat} (hk : k < 2 ^ 31) (h : k < n) : inb (nI k) n = true := by rw [inb_n hk]; simpa using h
/-- the fault of a number at s that must lie from lo to hi -/
def am (tn : Nat) (tb : Nat → Nat) (s lo hi : Nat) : Option Nat := if tkS tn tb s = 3 then (if lo ≤ tkV tn tb s ∧ tkV tn tb s ≤ hi then none else some 1) else if tkS tn tb s = 4 then some 1 else some 0
theorem tkV_le {tn : Nat} {tb : Nat → Nat} {s : Nat} (h : tkS tn tb s = 3) : tkV tn tb s ≤ 99999 := by
  have hd := tk_dig.mpr (Or.inl h)
  have r := run_le (f := isD) (tb := tb) (Nat.le_of_lt hd.1)
  exact dgv_le (fun i a b => (run_in (Nat.le_of_lt hd.1)).1 i a (by omega))
theorem c_has {S : jS} {N : mN} {v : Nat} (hv : v < 2 ^ 31) (hH : HIs (hC S 4) N) (hD : DOk N) : ∀ n k, N 0 1 - k < n → k ≤ N 0 1 → ∃ r : Int32, f4_hasChairAt_L1 S 4 (nI v) n (nI k) = some r ∧ ((r = 1 ∧ ∃ c, k ≤ c ∧ c < N 0 1 ∧ N 1 c = v) ∨ (r = 0 ∧ ∀ c, k ≤ c → c < N 0 1 → N 1 c ≠ v)) := by
  intro n
  have l1 := hD.2.1
  have hc : S.1 4 1 = nI (N 0 1) := hH.1 1 (by omega) (by omega)
  induction n with
  | zero => intro k h; omega
  | succ n ih =>
    intro k hn hk
    have e1 : nI k + 1 = nI (k + 1) := nI_add k 1
    rw [f4_hasChairAt_L1, hc]
    by_cases c : k < N 0 1
    · have hh : S.1 (4 + 1) k = nI (N 1 k) := hH.2.2.1 k c
      have hb := hD.2.2.2.2.1 k c
      have hb2 := hD.1
      rw [if_neg (by rw [nI_leI (by omega) (by omega)]; omega), inbk (by omega) (by omega), if_pos rfl, nI_clamp (by omega), hh, e1]
      by_cases e : N 1 k = v
      · rw [if_pos (by rw [e])]
        exact ⟨1, rfl, Or.inl ⟨rfl, k, by omega, c, e⟩⟩
      · rw [if_neg (fun z => e (nI_j (by omega) hv z))]
        obtain ⟨r, r1, r2⟩ := ih (k + 1) (by omega) (by omega)
        refine ⟨r, r1, ?_⟩
        rcases r2 with ⟨r2, x, x1, x2, x3⟩ | ⟨r2, x⟩
        · exact Or.inl ⟨r2, x, by omega, x2, x3⟩
        · refine Or.inr ⟨r2, fun y y1 y2 => ?_⟩
          by_cases ey : y = k
          · rw [ey]; exact e
          · exact x y (by omega) y2
    · rw [if_pos (by rw [nI_leI (by omega) (by omega)]; omega)]
      exact ⟨0, rfl, Or.inr ⟨rfl, fun y y1 y2 => by omega⟩⟩
/-- a number is kept; the clause may be at its end -/
def c5K (S : jS) (j v : Nat) : jS := wI (wI S 11 j (nI v)) 3 3 (nI (j + 1))
theorem c5_num {tn : Nat} {tb : Nat → Nat} {S : jS} {s j lo hi : Nat} {N : mN} (h3 : S.1 1 3 = nI s) (h4 : S.1 1 4 = tkS tn tb s) (h5 : tkS tn tb s = 3 → S.1 1 5 = nI (tkV tn tb s)) (hj : S.1 3 3 = nI j) (hj2 : j < 3) (hlo : f5_lowest S = some (nI lo)) (hhi : f5_highest S = some (nI hi)) (hb : lo < 100 ∧ hi < 100) (hH : HIs (hC S 4) N) (hD : DOk N) :
    (∀ e, am tn tb s lo hi = some e → f5_takeNumber S = some (wI S 1 6 (nI (1 + 8 * s + e)), 0)) ∧
    (am tn tb s lo hi = none → S.1 3 4 = 6 → (∃ c, c < N 0 1 ∧ N 1 c = tkV tn tb s) → f5_takeNumber S = some (wI S 1 6 (nI (1 + 8 * s + 1)), 0)) ∧
    (am tn tb s lo hi = none → (S.1 3 4 = 6 → ¬ ∃ c, c < N 0 1 ∧ N 1 c = tkV tn tb s) → f5_takeNumber S = Option.bind (if S.1 3 4 = 7 ∧ j + 1 < 3 then some (c5K S j (tkV tn tb s)) else Option.bind (f5_endClause (c5K S j (tkV tn tb s))) (fun r => some r.1)) (fun y => some (y, 1))) := by
  have f0 : ∀ {x : Int32} {e : Nat}, x = nI e → _ := fun {x} {e} h => c_fail (S := S) (x := x) (e := e) h3 h
  have e1 : nI j + 1 = nI (j + 1) := nI_add j 1
  have keep : ∀ v, (if S.1 3 3 < 0 then some S else (if (nI 3) ≤ (S.1 3 3) then some S else (if inb (S.1 3 3) 3 then some (wI (wI S 11 (S.1 3 3).toNatClampNeg (nI v)) 3 3 (((wI S 11 (S.1 3 3).toNatClampNeg (nI v)).1 3 3) + 1)) else none))) = some (c5K S j v) := fun v => by
    rw [hj, if_neg (by rw [show (0 : Int32) = nI 0 from rfl, nI_ltI (by omega) (by omega)]; omega), if_neg (by rw [nI_leI (by omega) (by omega)]; omega), (show inb (nI j) 3 = true by rw [inb_n (by omega)]; simpa using hj2), if_pos rfl, nI_clamp (by omega), wI_ne (by omega), hj, e1]
    rfl
  have k7 : ∀ v, (c5K S j v).1 3 4 = S.1 3 4 := fun v => by unfold c5K; rw [wI_nj (by omega), wI_ne (by omega)]
  have k3 : ∀ v, (c5K S j v).1 3 3 = nI (j + 1) := fun v => by unfold c5K; rw [wI_self]
  have q3 : nI (j + 1) < nI 3 ↔ j + 1 < 3 := nI_ltI (by omega) (by omega)
  have tail : ∀ v, Option.bind (if ((c5K S j v).1 3 4) = 7 then (if ((c5K S j v).1 3 3) < (nI 3) then some (c5K S j v) else Option.bind (f5_endClause (c5K S j v)) (fun r12 => some r12.1)) else Option.bind (f5_endClause (c5K S j v)) (fun r13 => some r13.1)) (fun (y14 : jS) => some (y14, (1 : Int32))) = Option.bind (if S.1 3 4 = 7 ∧ j + 1 < 3 then some (c5K S j v) else Option.bind (f5_endClause (c5K S j v)) (fun r => some r.1)) (fun y => some (y, 1)) := fun v => by
    rw [k7, k3]
    by_cases c7 : S.1 3 4 = 7
    · by_cases c3 : j + 1 < 3
      · rw [if_pos c7, if_pos (q3.mpr c3), if_pos ⟨c7, c3⟩]
      · rw [if_pos c7, if_neg (fun z => c3 (q3.mp z)), if_neg (fun z => c3 z.2)]
    · rw [if_neg c7, if_neg (fun z => c7 z.1)]
  unfold am
  by_cases c : tkS tn tb s = 3
  · have hv := tkV_le c
    have h5' := h5 c
    have ql : nI (tkV tn tb s) < nI lo ↔ tkV tn tb s < lo := nI_ltI (by omega) (by omega)
    have qh : nI hi < nI (tkV tn tb s) ↔ hi < tkV tn tb s := nI_ltI (by omega) (by omega)
    rw [if_pos c]
    unfold f5_takeNumber
    rw [h4, c, if_pos rfl, hlo, Option.bind_some, h5', hhi, Option.bind_some, f0 (x := 1) (e := 1) rfl]
    by_cases r : lo ≤ tkV tn tb s ∧ tkV tn tb s ≤ hi
    · rw [if_pos r, if_neg (fun z => by have := ql.mp z; omega), if_neg (fun z => by have := qh.mp z; omega)]
      obtain ⟨x, x1, x2⟩ := c_has (v := tkV tn tb s) (S := S) (by omega) hH hD jF 0 (by have := hD.2.1; unfold jF; omega) (by omega)
      have x1' : f4_hasChairAt S 4 (nI (tkV tn tb s)) = some x := x1
      refine ⟨fun e z => (by cases z), fun _ z6 ⟨d, d1, d2⟩ => ?_, fun _ z => ?_⟩
      · rw [if_pos z6, x1', Option.bind_some]
        rcases x2 with ⟨x2, -⟩ | ⟨-, x2⟩
        · rw [x2, if_neg (by decide)]
        · exact absurd d2 (x2 d (by omega) d1)
      · rw [keep, Option.bind_some, tail]
        by_cases z6 : S.1 3 4 = 6
        · rw [if_pos z6, x1', Option.bind_some]
          rcases x2 with ⟨-, d, -, d1, d2⟩ | ⟨x2, -⟩
          · exact absurd ⟨d, d1, d2⟩ (z z6)
          · rw [x2, if_pos rfl]
        · rw [if_neg z6]
    · rw [if_neg r]
      refine ⟨fun e z => ?_, fun z => (by cases z), fun z => (by cases z)⟩
      obtain rfl := Option.some.inj z
      by_cases a : tkV tn tb s < lo
      · rw [if_pos (ql.mpr a)]
      · rw [if_neg (fun z => a (ql.mp z)), if_pos (qh.mpr (by omega))]
  · rw [if_neg c]
    unfold f5_takeNumber
    rw [h4, if_neg c]
    refine ⟨fun e z => ?_, fun z => ?_, fun z => ?_⟩
    · by_cases c4 : tkS tn tb s = 4
      · rw [if_pos c4] at z
        obtain rfl := Option.some.inj z
        rw [if_pos c4, f0 (x := 1) (e := 1) rfl]
      · rw [if_neg c4] at z
        obtain rfl := Option.some.inj z
        rw [if_neg c4, f0 (x := 0) (e := 0) rfl]
    · split at z <;> cases z
    · split at z <;> cases z
