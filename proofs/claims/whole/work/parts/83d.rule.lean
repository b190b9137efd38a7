/-! reading a rule: the reference's small steps -/
def kpX (n a i : Nat) : Prop := ¬ (a = 0 ∧ (i = 20 ∨ i = 21 ∨ (24 ≤ i ∧ i ≤ 27))) ∧ ¬ (30 ≤ a ∧ a ≤ 31 ∧ 300 * n ≤ i) ∧ a ≠ 36
def fX (n : Nat) (X0 X : jS) : Prop := ∀ a i, kpX n a i → X.1 a i = X0.1 a i
theorem fX.w {n : Nat} {X0 X : jS} (h : fX n X0 X) {a i : Nat} {x : Int32} (ha : (a = 0 ∧ (i = 20 ∨ i = 21 ∨ (24 ≤ i ∧ i ≤ 27))) ∨ (30 ≤ a ∧ a ≤ 31 ∧ 300 * n ≤ i) ∨ a = 36) : fX n X0 (wI X a i x) := fun b j k => by
  have k' := k
  unfold kpX at k'
  rw [wI_g, if_neg (by omega)]; exact h b j k
theorem fX.pf {n : Nat} {X0 X X1 : jS} (h : fX n X0 X) (g : pf X X1) : fX n X0 X1 := fun b j k => by
  have k' := k
  unfold kpX at k'
  rw [g b j (by omega) (by omega)]; exact h b j k
def R7 (X0 X : jS) (tn : Nat) (tb : Nat → Nat) (p n : Nat) (E ops : List Int32) (deep cnt : Nat) : Prop := (RTp X tn tb ∧ X.1 0 20 = nI p ∧ X.1 0 21 = 0) ∧ (X.1 0 22 = nI n ∧ X.1 0 28 = 10) ∧ (X.1 0 24 = nI E.length ∧ ents (X.1 30) (X.1 31) (300 * n) E) ∧ (X.1 0 25 = nI deep ∧ X.1 0 26 = nI cnt) ∧ (X.1 0 27 = nI ops.length ∧ wst (X.1 36) ops) ∧ fX n X0 X
def RF7 (X0 X : jS) (tn : Nat) (tb : Nat → Nat) (n f : Nat) : Prop := RTp X tn tb ∧ (∃ p, p ≤ tn + 1 ∧ X.1 0 20 = nI p) ∧ X.1 0 21 = nI f ∧ X.1 0 28 = 10 ∧ fX n X0 X
section
variable {X0 X : jS} {tn : Nat} {tb : Nat → Nat} {p n : Nat} {E ops : List Int32} {deep cnt f : Nat}
theorem R7.mv {p' : Nat} (h : R7 X0 X tn tb p n E ops deep cnt) : R7 X0 (wI X 0 20 (nI p')) tn tb p' n E ops deep cnt := by
  obtain ⟨⟨a1, a2, a3⟩, ⟨b1, b2⟩, ⟨c1, c2⟩, ⟨d1, d2⟩, ⟨e1, e2⟩, g⟩ := h
  exact ⟨⟨a1.w (by omega) (by omega), wI_self _ _ _ _, by rw [wI_nj (by omega)]; exact a3⟩, ⟨by rw [wI_nj (by omega)]; exact b1, by rw [wI_nj (by omega)]; exact b2⟩, ⟨by rw [wI_nj (by omega)]; exact c1, ents_ext (fun i _ _ => ⟨wI_ne (by omega), wI_ne (by omega)⟩) c2⟩, ⟨by rw [wI_nj (by omega)]; exact d1, by rw [wI_nj (by omega)]; exact d2⟩, ⟨by rw [wI_nj (by omega)]; exact e1, wst_ext (fun i _ => wI_ne (by omega)) e2⟩, g.w (by omega)⟩
/-- only the place is changed -/
theorem R7.mv' {X1 : jS} {p' : Nat} (h : R7 X0 X tn tb p n E ops deep cnt) (q : ∀ a i, ¬ (a = 0 ∧ i = 20) → X1.1 a i = X.1 a i) (hp : X1.1 0 20 = nI p') : R7 X0 X1 tn tb p' n E ops deep cnt := by
  obtain ⟨⟨a1, a2, a3⟩, ⟨b1, b2⟩, ⟨c1, c2⟩, ⟨d1, d2⟩, ⟨e1, e2⟩, g⟩ := h
  exact ⟨⟨(pf.of q).tp a1, hp, (q _ _ (by omega)).trans a3⟩, ⟨(q _ _ (by omega)).trans b1, (q _ _ (by omega)).trans b2⟩, ⟨(q _ _ (by omega)).trans c1, ents_ext (fun i _ _ => ⟨q _ _ (by omega), q _ _ (by omega)⟩) c2⟩, ⟨(q _ _ (by omega)).trans d1, (q _ _ (by omega)).trans d2⟩, ⟨(q _ _ (by omega)).trans e1, wst_ext (fun i _ => q _ _ (by omega)) e2⟩, g.pf (pf.of q)⟩
theorem R7.flt {f p' : Nat} (h : R7 X0 X tn tb p n E ops deep cnt) (hp : p ≤ tn + 1) : RF7 X0 (wI X 0 21 (nI f)) tn tb n f := by
  obtain ⟨⟨a1, a2, a3⟩, ⟨b1, b2⟩, ⟨c1, c2⟩, ⟨d1, d2⟩, ⟨e1, e2⟩, g⟩ := h
  exact ⟨a1.w (by omega) (by omega), ⟨p, hp, by rw [wI_nj (by omega)]; exact a2⟩, wI_self _ _ _ _, by rw [wI_nj (by omega)]; exact b2, g.w (by omega)⟩
theorem RF7.w (h : RF7 X0 X tn tb n f) {i : Nat} {x : Int32} (ha : 24 ≤ i ∧ i ≤ 27) : RF7 X0 (wI X 0 i x) tn tb n f := by
  obtain ⟨a1, ⟨q, a2, a3⟩, a4, a5, a6⟩ := h
  exact ⟨a1.w (by omega) (by omega), ⟨q, a2, by rw [wI_nj (by omega)]; exact a3⟩, by rw [wI_nj (by omega)]; exact a4, by rw [wI_nj (by omega)]; exact a5, a6.w (by omega)⟩
theorem RF7.mv {p' : Nat} (h : RF7 X0 X tn tb n f) (hp : p' ≤ tn + 1) : RF7 X0 (wI X 0 20 (nI p')) tn tb n f := by
  obtain ⟨a1, -, a4, a5, a6⟩ := h
  exact ⟨a1.w (by omega) (by omega), ⟨p', hp, wI_self _ _ _ _⟩, by rw [wI_nj (by omega)]; exact a4, by rw [wI_nj (by omega)]; exact a5, a6.w (by omega)⟩
theorem RF7.mv' {X1 : jS} {p' : Nat} (h : RF7 X0 X tn tb n f) (q : ∀ a i, ¬ (a = 0 ∧ i = 20) → X1.1 a i = X.1 a i) (hp : X1.1 0 20 = nI p') (hp' : p' ≤ tn + 1) : RF7 X0 X1 tn tb n f := by
  obtain ⟨a1, -, a4, a5, a6⟩ := h
  exact ⟨(pf.of q).tp a1, ⟨p', hp', hp⟩, (q _ _ (by omega)).trans a4, (q _ _ (by omega)).trans a5, a6.pf (pf.of q)⟩
theorem r_ent {x k y : Int32} (h : R7 X0 X tn tb p n E ops deep cnt) (hl : E.length < 300) (hn : n ≤ 5) (hk : k = enS x) (hy : y = enN x) : ∃ X1, f11_entry X k y = some (X1, ()) ∧ R7 X0 X1 tn tb p n (E ++ [x]) ops deep cnt := by
  obtain ⟨⟨a1, a2, a3⟩, ⟨b1, b2⟩, ⟨c1, c2⟩, ⟨d1, d2⟩, ⟨e1, e2⟩, g⟩ := h
  have e3 : 300 * nI n + nI E.length = nI (300 * n + E.length) := by rw [nI_300]; exact nI_add _ _
  have en : nI E.length + 1 = nI (E.length + 1) := nI_add _ 1
  have ex : (E ++ [x]).length = E.length + 1 := by simp
  have w : ∀ a i, (wI (wI (wI X 30 (300 * n + E.length) k) 31 (300 * n + E.length) y) 0 24 (nI (E.length + 1))).1 a i = if a = 0 ∧ i = 24 then nI (E.length + 1) else if a = 31 ∧ i = 300 * n + E.length then y else if a = 30 ∧ i = 300 * n + E.length then k else X.1 a i := fun a i => by rw [wI_g, wI_g, wI_g]
  have wn : ∀ a i, ¬ (a = 0 ∧ i = 24) → ¬ (30 ≤ a ∧ a ≤ 31 ∧ i = 300 * n + E.length) → (wI (wI (wI X 30 (300 * n + E.length) k) 31 (300 * n + E.length) y) 0 24 (nI (E.length + 1))).1 a i = X.1 a i := fun a i u v => by
    rw [w, if_neg u, if_neg (by omega), if_neg (by omega)]
  refine ⟨_, ?_, ⟨((a1.w (by omega) (by omega)).w (by omega) (by omega)).w (by omega) (by omega), (wn _ _ (by omega) (by omega)).trans a2, (wn _ _ (by omega) (by omega)).trans a3⟩, ⟨(wn _ _ (by omega) (by omega)).trans b1, (wn _ _ (by omega) (by omega)).trans b2⟩, ⟨by rw [wI_self, ex], ents_app.mpr ⟨ents_ext (fun i _ hi => ⟨wn _ _ (by omega) (by omega), wn _ _ (by omega) (by omega)⟩) c2, ⟨?_, ?_⟩, trivial⟩⟩, ⟨(wn _ _ (by omega) (by omega)).trans d1, (wn _ _ (by omega) (by omega)).trans d2⟩, ⟨(wn _ _ (by omega) (by omega)).trans e1, wst_ext (fun i _ => wn _ _ (by omega) (by omega)) e2⟩, ((g.w (by omega)).w (by omega)).w (by omega)⟩
  · unfold f11_entry
    rw [a3, if_pos rfl, b1, c1, e3, inbk (by omega) (by omega), if_pos rfl, nI_clamp (by omega), wI_ne (by omega), wI_ne (by omega), b1, c1, e3, inbk (by omega) (by omega), if_pos rfl, nI_clamp (by omega), wI_ne (by omega), wI_ne (by omega), c1, en]
  · rw [w, if_neg (by omega), if_neg (by omega), if_pos ⟨rfl, rfl⟩]; exact hk
  · rw [w, if_neg (by omega), if_pos ⟨rfl, rfl⟩]; exact hy
theorem r_entF {k y : Int32} (h : RF7 X0 X tn tb n f) (hf : f ≠ 0) (hf2 : f < 2 ^ 31) : f11_entry X k y = some (X, ()) := by
  unfold f11_entry
  rw [h.2.2.1, if_neg (show ¬ nI f = 0 from fun z => hf (nI_j (b := 0) hf2 (by omega) z))]
theorem r_cnt {s : Nat} (h : R7 X0 X tn tb p n E ops deep cnt) (hp : p ≤ tn + 1) (hc : cnt ≤ 60) : (cnt < 60 → ∃ X1, f11_isCounted X (nI s) = some (X1, ()) ∧ R7 X0 X1 tn tb p n E ops deep (cnt + 1)) ∧ (cnt = 60 → ∃ X1, f11_isCounted X (nI s) = some (X1, ()) ∧ RF7 X0 X1 tn tb n (1 + 8 * s + 3) ∧ X1.1 0 20 = nI p) := by
  obtain ⟨⟨a1, a2, a3⟩, ⟨b1, b2⟩, ⟨c1, c2⟩, ⟨d1, d2⟩, ⟨e1, e2⟩, g⟩ := id h
  have q : nI cnt = (60 : Int32) ↔ cnt = 60 := nI_eqI (b := 60) (by omega) (by omega)
  have en : nI cnt + 1 = nI (cnt + 1) := nI_add _ 1
  refine ⟨fun y => ?_, fun y => ?_⟩
  · refine ⟨wI X 0 26 (nI (cnt + 1)), ?_, ⟨a1.w (by omega) (by omega), by rw [wI_nj (by omega)]; exact a2, by rw [wI_nj (by omega)]; exact a3⟩, ⟨by rw [wI_nj (by omega)]; exact b1, by rw [wI_nj (by omega)]; exact b2⟩, ⟨by rw [wI_nj (by omega)]; exact c1, ents_ext (fun i _ _ => ⟨wI_ne (by omega), wI_ne (by omega)⟩) c2⟩, ⟨by rw [wI_nj (by omega)]; exact d1, wI_self _ _ _ _⟩, ⟨by rw [wI_nj (by omega)]; exact e1, wst_ext (fun i _ => wI_ne (by omega)) e2⟩, g.w (by omega)⟩
    unfold f11_isCounted
    rw [d2, if_neg (fun z => by have := q.mp z; omega), Option.bind_some, d2, en]
  · refine ⟨wI (wI X 0 21 (nI (1 + 8 * s + 3))) 0 26 ((wI X 0 21 (nI (1 + 8 * s + 3))).1 0 26 + 1), ?_, (h.flt (f := 1 + 8 * s + 3) (p' := 0) hp).w (by omega), by rw [wI_nj (by omega), wI_nj (by omega)]; exact a2⟩
    unfold f11_isCounted
    rw [d2, if_pos (q.mpr y), r_flt (x := 3) (e := 3) rfl, Option.bind_some, Option.bind_some, a3, if_pos rfl]
theorem r_cntF {x : Int32} (h : RF7 X0 X tn tb n f) (hf : f ≠ 0) (hf2 : f < 2 ^ 31) : ∃ X1, f11_isCounted X x = some (X1, ()) ∧ RF7 X0 X1 tn tb n f ∧ X1.1 0 20 = X.1 0 20 := by
  have hne : X.1 0 21 ≠ 0 := by rw [h.2.2.1]; exact fun z => hf (nI_j (b := 0) hf2 (by omega) z)
  have e : f11_fails X 3 x = some (wI X 0 21 (X.1 0 21), ()) := by unfold f11_fails; rw [if_neg hne]
  unfold f11_isCounted
  by_cases c : X.1 0 26 = 60
  · rw [if_pos c, e, Option.bind_some, Option.bind_some]
    have h2 : RF7 X0 (wI X 0 21 (X.1 0 21)) tn tb n f := by
      obtain ⟨a1, ⟨q, a2, a3⟩, a4, a5, a6⟩ := h
      exact ⟨a1.w (by omega) (by omega), ⟨q, a2, by rw [wI_nj (by omega)]; exact a3⟩, by rw [wI_self]; exact a4, by rw [wI_nj (by omega)]; exact a5, a6.w (by omega)⟩
    exact ⟨_, rfl, h2.w (by omega), by rw [wI_nj (by omega), wI_nj (by omega)]⟩
  · rw [if_neg c, Option.bind_some]
    exact ⟨_, rfl, h.w (by omega), by rw [wI_nj (by omega)]⟩
theorem w10 {z : Int32} (h : -10 ≤ z ∧ z < 0) : ∃ j, j < 10 ∧ z = -1 - nI j ∧ enS z = 1 ∧ enN z = nI j := by
  obtain ⟨h1, h2⟩ := h
  obtain ⟨j, hj, e⟩ := nI_of (x := -1 - z) (by grind)
  have h9 : nI j ≤ 9 := by rw [← e]; grind
  have : j ≤ 9 := (nI_leI (b := 9) hj (by omega)).mp h9
  refine ⟨j, by omega, by rw [← e]; grind, ?_, ?_⟩
  · unfold enS; rw [if_neg (by grind), if_pos h1]
  · unfold enN; rw [if_neg (by grind), if_pos h1, e]
/-- which word for a value stands here: ten if none -/
theorem r_vl (ot : TpOk tn tb) {s : Nat} {l1 : Int32} (hs : s < 1000) (hr : RTp X tn tb) (h2 : X.1 0 20 = nI s) (h28 : X.1 0 28 = 10) : ∀ m k, 10 - k < m → k ≤ 10 → (∀ j, j < k → tkS tn tb s ≠ -1 - nI j) → ∃ y, y ≤ 10 ∧ f11_value_L1 X l1 m (nI k) = some (nI y) ∧ (y < 10 → tkS tn tb s = -1 - nI y) ∧ (y = 10 → ¬ (-10 ≤ tkS tn tb s ∧ tkS tn tb s < 0)) := by
  intro m
  induction m with
  | zero => intro k h; omega
  | succ m ih =>
    intro k hm hk hno
    have e1 : nI k + 1 = nI (k + 1) := nI_add k 1
    rw [f11_value_L1, h28]
    by_cases c : k < 10
    · have hq : ∀ k, k < 10 → wT.getD k (0, 0) ∈ wT ∧ f11_wordOf (nI k) = some (wT.getD k (0, 0)).1 ∧ (wT.getD k (0, 0)).2 = -1 - nI k := by decide +kernel
      obtain ⟨q1, q2, q3⟩ := hq k c
      have st := st_q (X := X) ot q1 hs hr h2
      rw [q3] at st
      rw [if_neg (by rw [show (10 : Int32) = nI 10 from rfl, nI_leI (by omega) (by omega)]; omega), q2, Option.bind_some, st, Option.bind_some]
      by_cases e : tkS tn tb s = -1 - nI k
      · rw [if_pos e, if_neg (by decide)]
        exact ⟨k, by omega, rfl, fun _ => e, fun z => by omega⟩
      · rw [if_neg e, if_pos rfl, e1]
        exact ih (k + 1) (by omega) (by omega) (fun j hj => by
          by_cases ej : j = k
          · rw [ej]; exact e
          · exact hno j (by omega))
    · have : k = 10 := by omega
      subst this
      rw [if_pos (by decide)]
      refine ⟨10, by omega, rfl, fun z => by omega, fun _ z => ?_⟩
      obtain ⟨j, j1, j2, -, -⟩ := w10 z
      exact hno j j1 j2
end
