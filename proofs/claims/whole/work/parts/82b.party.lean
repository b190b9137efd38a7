/-! the ends of clauses, the class -/
theorem m_or : ∀ k, k < 8 → nI (2 ^ k - 1) ||| ((1 : Int32) <<< (nI k &&& 31)) = nI (2 ^ (k + 1) - 1) := by decide +kernel
theorem dPl_ok {N : mN} {v : Nat} (hD : DOk N) (h1 : N 0 1 = 0) (h2 : N 0 2 = 0) (hv : v ≤ 24) : DOk (dPl N v) := by
  obtain ⟨a1, a2, a3, ⟨a4, a5, a6, a7, a8, a9⟩, a10, a11⟩ := hD
  refine ⟨hv, a2, a3, ⟨a4, a5, a6, a7, a8, a9⟩, fun c hc => ?_, fun g hg => ?_⟩
  · have : c < N 0 1 := hc
    omega
  · have : g < N 0 2 := hg
    omega
theorem dCh_ok {N : mN} {v : Nat} (hD : DOk N) (h1 : N 0 1 < 6) (hv : v < N 0 0) : DOk (dCh N v) := by
  obtain ⟨a1, a2, a3, ⟨a4, a5, a6, a7, a8, a9⟩, a10, a11⟩ := hD
  refine ⟨a1, (by show N 0 1 + 1 ≤ 6; omega), a3, ⟨rfl, a5, a6, a7, a8, fun g hg => ?_⟩, fun c hc => ?_, fun g hg => ?_⟩
  · exact a9 g hg
  · have hc' : c < N 0 1 + 1 := hc
    show (if (1 : Nat) = 0 ∧ c = 1 then _ else if (1 : Nat) = 0 ∧ c = 3 then _ else if (1 : Nat) = 1 ∧ c = N 0 1 then v else N 1 c) < N 0 0
    rw [if_neg (by omega), if_neg (by omega)]
    by_cases e : c = N 0 1
    · rw [if_pos ⟨rfl, e⟩]; exact hv
    · rw [if_neg (fun z => e z.2)]; exact a10 c (by omega)
  · exact a11 g hg
theorem dGu_ok {N : mN} {x y z : Nat} (hD : DOk N) (h1 : N 0 2 < 7) (hx : x < N 0 0) (hy : y ≤ 5) (hz : 1 ≤ z ∧ z ≤ 9) : DOk (dGu N x y z) := by
  obtain ⟨a1, a2, a3, ⟨a4, a5, a6, a7, a8, a9⟩, a10, a11⟩ := hD
  have gv : ∀ a g, 2 ≤ a → a ≤ 6 → dGu N x y z a g = if g = N 0 2 then (if a = 2 then x else if a = 3 then y else if a = 4 then z else 0) else N a g := fun a g u v => by
    unfold dGu
    rw [if_neg (by omega), if_neg (by omega)]
    by_cases e : g = N 0 2
    · rw [if_pos ⟨e, u, v⟩, if_pos e]
    · rw [if_neg (fun w => e w.1), if_neg e]
  have g00 : dGu N x y z 0 0 = N 0 0 := by unfold dGu; rw [if_neg (by omega), if_neg (by omega), if_neg (by omega)]
  have c0 : ∀ i, i ≠ 2 → i ≠ 4 → dGu N x y z 0 i = N 0 i := fun i u v => by unfold dGu; rw [if_neg (by omega), if_neg (by omega), if_neg (by omega)]
  have c1 : ∀ i, dGu N x y z 1 i = N 1 i := fun i => by unfold dGu; rw [if_neg (by omega), if_neg (by omega), if_neg (by omega)]
  have g02 : dGu N x y z 0 2 = N 0 2 + 1 := rfl
  have g04 : dGu N x y z 0 4 = 2 ^ (N 0 2 + 1) - 1 := rfl
  refine ⟨by rw [g00]; exact a1, by rw [c0 1 (by omega) (by omega)]; exact a2, by rw [g02]; omega, ⟨by rw [c0 3 (by omega) (by omega), c0 1 (by omega) (by omega)]; exact a4, by rw [g04, g02], by rw [c0 5 (by omega) (by omega)]; exact a6, by rw [c0 6 (by omega) (by omega)]; exact a7, by rw [c0 7 (by omega) (by omega)]; exact a8, fun g hg => ?_⟩, fun c hc => ?_, fun g hg => ?_⟩
  · rw [g02] at hg
    rw [gv 5 g (by omega) (by omega), gv 6 g (by omega) (by omega)]
    by_cases e : g = N 0 2
    · rw [if_pos e, if_pos e]; exact ⟨rfl, rfl⟩
    · rw [if_neg e, if_neg e]; exact a9 g (by omega)
  · rw [c0 1 (by omega) (by omega)] at hc
    rw [c1, g00]; exact a10 c hc
  · rw [g02] at hg
    rw [gv 2 g (by omega) (by omega), gv 3 g (by omega) (by omega), gv 4 g (by omega) (by omega), g00]
    by_cases e : g = N 0 2
    · rw [if_pos e, if_pos e, if_pos e]; exact ⟨hx, hy, hz.1, hz.2⟩
    · rw [if_neg e, if_neg e, if_neg e]; exact a11 g (by omega)
/-- the end of a clause: the draft with what it tells -/
theorem c5_end {S : jS} {N : mN} {v0 v1 v2 : Nat} {w : Int32} (hw : w = S.1 3 4) (hH : HIs (hC S 4) N) (hD : DOk N) (g0 : S.1 11 0 = nI v0) (g1 : w = 7 → S.1 11 1 = nI v1 ∧ S.1 11 2 = nI v2) (h6 : w = 6 → N 0 1 < 6) (h7 : w = 7 → N 0 2 < 7) (hz : w = 5 ∨ w = 6 ∨ w = 7) : ∃ S1, f5_endClause S = some (S1, ()) ∧ HIs (hC S1 4) (if w = 5 then dPl N v0 else if w = 6 then dCh N v0 else dGu N v0 v1 v2) ∧ S1.1 3 6 = 2 ∧ (∀ a i, ¬ (4 ≤ a ∧ a ≤ 10) → ¬ (a = 3 ∧ i = 6) → S1.1 a i = S.1 a i) := by
  obtain ⟨k1, k2, k3, k4⟩ := id hH
  have hc : S.1 4 1 = nI (N 0 1) := k1 1 (by omega) (by omega)
  have hg : S.1 4 2 = nI (N 0 2) := k1 2 (by omega) (by omega)
  have hm : S.1 4 3 = nI (2 ^ N 0 1 - 1) := (k1 3 (by omega) (by omega)).trans (by rw [hD.2.2.2.1.1])
  have hm2 : S.1 4 4 = nI (2 ^ N 0 2 - 1) := (k1 4 (by omega) (by omega)).trans (by rw [hD.2.2.2.1.2.1])
  have l1 := hD.2.1
  have l2 := hD.2.2.1
  unfold f5_endClause
  rw [← hw, g0]
  rcases hz with z | z | z
  · rw [if_pos z, if_pos z, Option.bind_some]
    refine ⟨_, rfl, ⟨fun i a b => ?_, ?_, fun c hc => ?_, fun a g u v hg => ?_⟩, wI_self _ _ _ _, fun a i u v => ?_⟩
    · show (wI (wI S 4 0 (nI v0)) 3 6 2).1 4 i = nI (dPl N v0 0 i)
      rw [wI_ne (by omega), wI_g]
      unfold dPl
      by_cases e : i = 0
      · rw [if_pos ⟨rfl, e⟩, if_pos ⟨rfl, e⟩]
      · rw [if_neg (fun y => e y.2), if_neg (fun y => e y.2)]; exact k1 i a b
    · show (wI (wI S 4 0 (nI v0)) 3 6 2).1 4 6 = nI (N 0 6) - 1
      rw [wI_ne (by omega), wI_nj (by omega)]; exact k2
    · show (wI (wI S 4 0 (nI v0)) 3 6 2).1 5 c = nI (dPl N v0 1 c)
      rw [wI_ne (by omega), wI_ne (by omega)]; exact k3 c hc
    · show (wI (wI S 4 0 (nI v0)) 3 6 2).1 (4 + a) g = nI (dPl N v0 a g)
      rw [wI_ne (by omega), wI_ne (by omega)]; unfold dPl; rw [if_neg (by omega)]; exact k4 a g u v hg
    · rw [wI_g, if_neg v, wI_ne (by omega)]
  · have l3 := h6 z
    have z5 : ¬ w = 5 := by rw [z]; decide
    have e1 : nI (N 0 1) + 1 = nI (N 0 1 + 1) := nI_add _ 1
    have ha : f4_addChair S 4 (nI v0) = some (wI (wI (wI S 5 (N 0 1) (nI v0)) 4 3 (nI (2 ^ (N 0 1 + 1) - 1))) 4 1 (nI (N 0 1 + 1)), ()) := by
      unfold f4_addChair
      rw [hc, if_neg (by rw [show (6 : Int32) = nI 6 from rfl, nI_leI (by omega) (by omega)]; omega), inbk (by omega) l3, if_pos rfl, nI_clamp (by omega), wI_ne (by omega), wI_ne (by omega), hm, hc, m_or _ (by omega), wI_nj (by omega), wI_ne (by omega), hc, e1]
    rw [if_neg z5, if_pos z, if_neg z5, if_pos z, ha, Option.bind_some, Option.bind_some]
    have wv : ∀ a i, (wI (wI (wI (wI S 5 (N 0 1) (nI v0)) 4 3 (nI (2 ^ (N 0 1 + 1) - 1))) 4 1 (nI (N 0 1 + 1))) 3 6 2).1 a i = if a = 3 ∧ i = 6 then 2 else if a = 4 ∧ i = 1 then nI (N 0 1 + 1) else if a = 4 ∧ i = 3 then nI (2 ^ (N 0 1 + 1) - 1) else if a = 5 ∧ i = N 0 1 then nI v0 else S.1 a i := fun a i => by rw [wI_g, wI_g, wI_g, wI_g]
    refine ⟨_, rfl, ⟨fun i a b => ?_, ?_, fun c hc => ?_, fun a g u v hg => ?_⟩, wI_self _ _ _ _, fun a i u v => ?_⟩
    · refine (wv 4 i).trans ?_
      unfold dCh
      rw [if_neg (by omega)]
      by_cases i1 : i = 1
      · rw [if_pos ⟨rfl, i1⟩, if_pos ⟨rfl, i1⟩]
      · by_cases i3 : i = 3
        · rw [if_neg (fun y => i1 y.2), if_pos ⟨rfl, i3⟩, if_neg (fun y => i1 y.2), if_pos ⟨rfl, i3⟩]
        · rw [if_neg (fun y => i1 y.2), if_neg (fun y => i3 y.2), if_neg (by omega), if_neg (fun y => i1 y.2), if_neg (fun y => i3 y.2), if_neg (by omega)]; exact k1 i a b
    · refine (wv 4 6).trans ?_
      rw [if_neg (by omega), if_neg (by omega), if_neg (by omega), if_neg (by omega)]; exact k2
    · refine (wv 5 c).trans ?_
      have hc' : c < N 0 1 + 1 := hc
      unfold dCh
      rw [if_neg (by omega), if_neg (by omega), if_neg (by omega), if_neg (show ¬ ((1 : Nat) = 0 ∧ c = 1) by omega), if_neg (show ¬ ((1 : Nat) = 0 ∧ c = 3) by omega)]
      by_cases e : c = N 0 1
      · rw [if_pos ⟨rfl, e⟩, if_pos ⟨rfl, e⟩]
      · rw [if_neg (fun y => e y.2), if_neg (fun y => e y.2)]; exact k3 c (by omega)
    · refine (wv (4 + a) g).trans ?_
      unfold dCh
      rw [if_neg (by omega), if_neg (by omega), if_neg (by omega), if_neg (by omega), if_neg (by omega), if_neg (by omega), if_neg (by omega)]
      exact k4 a g u v hg
    · rw [wv, if_neg v, if_neg (by omega), if_neg (by omega), if_neg (by omega)]
  · have l3 := h7 z
    obtain ⟨g1, g2⟩ := g1 z
    have z5 : ¬ w = 5 := by rw [z]; decide
    have z6 : ¬ w = 6 := by rw [z]; decide
    have e1 : nI (N 0 2) + 1 = nI (N 0 2 + 1) := nI_add _ 1
    have hcl : (nI (N 0 2)).toNatClampNeg = N 0 2 := nI_clamp (by omega)
    have ha : f4_addGuest S 4 (nI v0) (nI v1) (nI v2) = some (wI (wI (wI (wI (wI (wI (wI S 6 (N 0 2) (nI v0)) 7 (N 0 2) (nI v1)) 8 (N 0 2) (nI v2)) 9 (N 0 2) 0) 10 (N 0 2) 0) 4 4 (nI (2 ^ (N 0 2 + 1) - 1))) 4 2 (nI (N 0 2 + 1)), ()) := by
      unfold f4_addGuest
      simp (disch := omega) only [hg, hcl, wI_ne, wI_nj, inbk (show N 0 2 < 2 ^ 31 by omega) l3, if_true, hm2, m_or _ (show N 0 2 < 8 by omega), e1]
      rw [if_neg (by rw [show (7 : Int32) = nI 7 from rfl, nI_leI (by omega) (by omega)]; omega)]
    rw [if_neg z5, if_neg z6, if_neg z5, if_neg z6, g1, g2, ha, Option.bind_some, Option.bind_some]
    have c0 : ∀ i, i ≠ 2 → i ≠ 4 → dGu N v0 v1 v2 0 i = N 0 i := fun i u v => by unfold dGu; rw [if_neg (by omega), if_neg (by omega), if_neg (by omega)]
    have wv : ∀ a i, (wI (wI (wI (wI (wI (wI (wI (wI S 6 (N 0 2) (nI v0)) 7 (N 0 2) (nI v1)) 8 (N 0 2) (nI v2)) 9 (N 0 2) 0) 10 (N 0 2) 0) 4 4 (nI (2 ^ (N 0 2 + 1) - 1))) 4 2 (nI (N 0 2 + 1))) 3 6 2).1 a i = if a = 3 ∧ i = 6 then 2 else if a = 4 ∧ i = 2 then nI (N 0 2 + 1) else if a = 4 ∧ i = 4 then nI (2 ^ (N 0 2 + 1) - 1) else if a = 10 ∧ i = N 0 2 then 0 else if a = 9 ∧ i = N 0 2 then 0 else if a = 8 ∧ i = N 0 2 then nI v2 else if a = 7 ∧ i = N 0 2 then nI v1 else if a = 6 ∧ i = N 0 2 then nI v0 else S.1 a i := fun a i => by rw [wI_g, wI_g, wI_g, wI_g, wI_g, wI_g, wI_g, wI_g]
    refine ⟨_, rfl, ⟨fun i a b => ?_, ?_, fun c hc => ?_, fun a g u v hg => ?_⟩, wI_self _ _ _ _, fun a i u v => ?_⟩
    · refine (wv 4 i).trans ?_
      unfold dGu
      rw [if_neg (by omega)]
      by_cases i1 : i = 2
      · rw [if_pos ⟨rfl, i1⟩, if_pos ⟨rfl, i1⟩]
      · by_cases i3 : i = 4
        · rw [if_neg (fun y => i1 y.2), if_pos ⟨rfl, i3⟩, if_neg (fun y => i1 y.2), if_pos ⟨rfl, i3⟩]
        · rw [if_neg (fun y => i1 y.2), if_neg (fun y => i3 y.2), if_neg (by omega), if_neg (by omega), if_neg (by omega), if_neg (by omega), if_neg (by omega), if_neg (fun y => i1 y.2), if_neg (fun y => i3 y.2), if_neg (by omega)]; exact k1 i a b
    · refine (wv 4 6).trans ?_
      rw [if_neg (by omega), if_neg (by omega), if_neg (by omega), if_neg (by omega), if_neg (by omega), if_neg (by omega), if_neg (by omega), if_neg (by omega), c0 6 (by omega) (by omega)]; exact k2
    · refine (wv 5 c).trans ?_
      rw [c0 1 (by omega) (by omega)] at hc
      unfold dGu
      rw [if_neg (by omega), if_neg (by omega), if_neg (by omega), if_neg (by omega), if_neg (by omega), if_neg (by omega), if_neg (by omega), if_neg (by omega), if_neg (by omega), if_neg (by omega), if_neg (by omega)]; exact k3 c hc
    · refine (wv (4 + a) g).trans ?_
      have hg' : g < N 0 2 + 1 := hg
      unfold dGu
      rw [if_neg (show ¬ (a = 0 ∧ g = 2) by omega), if_neg (show ¬ (a = 0 ∧ g = 4) by omega), if_neg (by omega), if_neg (by omega), if_neg (by omega)]
      by_cases e : g = N 0 2
      · rw [if_pos (show g = N 0 2 ∧ 2 ≤ a ∧ a ≤ 6 from ⟨e, u, v⟩)]
        have : a = 2 ∨ a = 3 ∨ a = 4 ∨ a = 5 ∨ a = 6 := by omega
        rcases this with h | h | h | h | h <;> subst h <;> simp [e] <;> rfl
      · rw [if_neg (by omega), if_neg (by omega), if_neg (by omega), if_neg (by omega), if_neg (by omega), if_neg (show ¬ (g = N 0 2 ∧ 2 ≤ a ∧ a ≤ 6) by omega)]
        exact k4 a g u v (by omega)
    · rw [wv, if_neg v, if_neg (by omega), if_neg (by omega), if_neg (by omega), if_neg (by omega), if_neg (by omega), if_neg (by omega), if_neg (by omega)]
