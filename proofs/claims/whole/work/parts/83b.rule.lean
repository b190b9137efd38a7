/-! the class, sign by sign -/
section
variable {S0 S S1 : jS} {tn : Nat} {tb : Nat → Nat} {p k : Nat} {st te co st' : Int32} {cl pa de r : Nat} {cd wt : List Int32} {z : Int32}
theorem rel_push (hr : 1 ≤ r ∧ r ≤ 6) (h : C7 S0 S tn tb p st te co cl pa (cn wt) cd wt) (hz : S.1 1 4 = z) (hw : wt.length ≤ 35) (hl : cd.length + wt.length ≤ 275) : ∃ S1 S2, f7_release S (nI r) = some (S1, ()) ∧ f7_push S1 st' = some (S2, ()) ∧ C7 S0 S2 tn tb p st' te co cl pa (cn (rsd r wt)) (cd ++ pop r wt) (z :: rsd r wt) := by
  have pl := pr_len r wt
  obtain ⟨S1, a1, a2, a3⟩ := c_rel hr h (by omega) (by omega)
  obtain ⟨S2, b1, b2, -⟩ := c_psh (st' := st') (z := z) a2 (by rw [a3 _ _ (by omega) (by omega)]; exact hz) (by omega)
  exact ⟨S1, S2, a1, b1, b2⟩
theorem cn_bin {x : Int32} {w : List Int32} (h : x ≠ -23 ∧ x ≠ -26) : cn (x :: w) = cn w ∧ oc (x :: w) = oc w := by
  rw [cn, oc, if_neg (by rintro (z | z); (· exact h.1 z); (· exact h.2 z)), if_neg h.2]; exact ⟨Nat.zero_add _, Nat.zero_add _⟩
/-- pushing a sign that joins two, behind a release at its rank -/
theorem MI.psh {p' pa' : Nat} (h : MI st p cl pa cd wt) (hz : z ≠ -23 ∧ z ≠ -26) (hr : 1 ≤ rnk z) (hp : p ≤ p') (hpa : pa' = pa ∨ (pa' = pa + 1 ∧ pa' ≤ 60)) (hs : sl st' + 1 ≤ sl st + 2 * (pa' - pa)) : MI st' p' cl pa' (cd ++ pop (rnk z) wt) (z :: rsd (rnk z) wt) := by
  obtain ⟨h1, h2, h3, h4, h5⟩ := h
  obtain ⟨g1, g2, g3, g4⟩ := rsd_all hr h1
  have pl := pr_len (rnk z) wt
  refine ⟨⟨g1, ?_⟩, ?_, by omega, h4, ?_⟩
  · rw [if_neg (by rintro (y | y); (· exact hz.1 y); (· exact hz.2 y))]; exact g4
  · rw [(cn_bin hz).1]; omega
  · rw [(cn_bin hz).2, g2]
    simp only [List.length_append, List.length_cons]
    omega
theorem MI.rel {p' : Nat} (h : MI st p cl pa cd wt) (hr : 1 ≤ r) (hp : p ≤ p') (hs : sl st' ≤ sl st) : MI st' p' cl pa (cd ++ pop r wt) (rsd r wt) := by
  obtain ⟨h1, h2, h3, h4, h5⟩ := h
  obtain ⟨g1, g2, g3, g4⟩ := rsd_all hr h1
  have pl := pr_len r wt
  refine ⟨g1, by omega, h3, h4, ?_⟩
  rw [g2]
  simp only [List.length_append]
  omega
theorem k7_go (ot : TpOk tn tb) (h : K7 S0 S tn tb p st te co cl pa cd wt) (hp : p ≤ tn) (hk : k ≤ p) (hst : st ≠ 5) : ∃ S1, C7 S0 S1 tn tb (tkE tn tb (sk tn tb p)) st te co cl pa (cn wt) cd wt ∧ S1.1 1 3 = nI (sk tn tb p) ∧ S1.1 1 4 = tkS tn tb (sk tn tb p) ∧ (tkS tn tb (sk tn tb p) = 3 → S1.1 1 5 = nI (tkV tn tb (sk tn tb p))) ∧ r7 S k = Option.bind (f7_takeSign S1) (fun r4 => (if r4.2 = 0 then some (r4.1, r4.1.1 1 6) else r7 r4.1 (k + 1))) ∧ (cd.length + wt.length ≤ 275 ∧ wt.length ≤ 35) ∧ p ≤ tkE tn tb (sk tn tb p) ∧ tkE tn tb (sk tn tb p) ≤ tn ∧ fC S0 S1 := by
  obtain ⟨S1, g, e⟩ := r7_go ot hp hk h.1.1.1 h.1.1.2.1 (by rw [h.1.2.1.1]; exact hst)
  have l := ot.1
  have h1 := h.1.sg g
  have t1 := sk_le (tb := tb) hp
  have t2 := tkE_le (tb := tb) hp
  exact ⟨S1, h1, g.2.1, g.2.2.1, g.2.2.2.1, e, h.2.b (by omega), by omega, t2.2, h1.1.2.2⟩
theorem ts_2 (h : S.1 12 5 = 2) : f7_takeSign S = Option.bind (f7_takeValue S) (fun r1 => (if r1.2 = 0 ∨ r1.2 = 1 then some (r1.1, r1.2) else none)) := by
  unfold f7_takeSign; rw [h, if_neg (by decide), if_neg (by decide), if_pos rfl]
theorem ts_1 (h : S.1 12 5 = 1) : f7_takeSign S = Option.bind (f7_takeFact S) (fun r1 => (if r1.2 = 0 ∨ r1.2 = 1 then some (r1.1, r1.2) else none)) := by
  unfold f7_takeSign; rw [h, if_neg (by decide), if_pos rfl]
theorem ts_0 (h : S.1 12 5 = 0) : f7_takeSign S = Option.bind (f7_takePlay S) (fun r1 => (if r1.2 = 0 ∨ r1.2 = 1 then some (r1.1, r1.2) else none)) := by
  unfold f7_takeSign; rw [h, if_pos rfl]
theorem ts_3 (h : S.1 12 5 = 3) : f7_takeSign S = Option.bind (f7_takeBehindValue S) (fun r1 => (if r1.2 = 0 ∨ r1.2 = 1 then some (r1.1, r1.2) else none)) := by
  unfold f7_takeSign; rw [h, if_neg (by decide), if_neg (by decide), if_neg (by decide), if_pos rfl]
theorem ts_4 (h : S.1 12 5 = 4) : f7_takeSign S = Option.bind (f7_takeBehindFact S) (fun r1 => (if r1.2 = 0 ∨ r1.2 = 1 then some (r1.1, r1.2) else none)) := by
  unfold f7_takeSign; rw [h, if_neg (by decide), if_neg (by decide), if_neg (by decide), if_neg (by decide)]
/-- a value is due -/
theorem k7V (ot : TpOk tn tb) (h : K7 S0 S tn tb p 2 te co cl pa cd wt) (hp : p ≤ tn) (hk : k ≤ p) :
    (∀ e, vf tn tb (sk tn tb p) pa = some e → ∃ S', r7 S k = some (S', nI (1 + 8 * sk tn tb p + e)) ∧ fC S0 S') ∧
    (vf tn tb (sk tn tb p) pa = none → ∃ S', r7 S k = r7 S' (k + 1) ∧ K7 S0 S' tn tb (tkE tn tb (sk tn tb p)) 3 te co cl (pa + 1) (cd ++ [vx tn tb (sk tn tb p)]) wt) := by
  obtain ⟨S1, h1, h3, h4, h5, e, b, q1, q2, fc⟩ := k7_go ot h hp hk (by decide)
  obtain ⟨v1, v2⟩ := c7_val h1 (by omega) h.2.2.2.1 h3 h4 h5
  refine ⟨fun x y => r7_flt fc e (by rw [ts_2 h1.2.1.1]; exact bnd01 (v1 x y) (Or.inl rfl)), fun y => ?_⟩
  obtain ⟨S2, s1, s2⟩ := v2 y
  refine ⟨S2, r7_ok e (by rw [ts_2 h1.2.1.1]; exact bnd01 s1 (Or.inr rfl)), s2, ?_⟩
  obtain ⟨m1, m2, m3, m4, m5⟩ := h.2
  have hpa : pa < 60 := by
    unfold vf at y
    split at y
    · split at y
      · assumption
      · cases y
    · split at y <;> cases y
  refine ⟨m1, m2, by omega, m4, ?_⟩
  have e2 : sl 2 = 1 := rfl
  have e3 : sl 3 = 2 := rfl
  rw [e2] at m5
  rw [e3]
  simp only [List.length_append, List.length_cons, List.length_nil]
  omega
theorem rk_bin {z : Int32} (h : 4 ≤ rnk z) : z ≠ -23 ∧ z ≠ -26 := ⟨fun y => by rw [y] at h; exact absurd h (by decide), fun y => by rw [y] at h; exact absurd h (by decide)⟩
/-- behind a value: a sign that binds more than a comparison -/
theorem k7O (ot : TpOk tn tb) (h : K7 S0 S tn tb p 3 te co cl pa cd wt) (hp : p ≤ tn) (hk : k ≤ p) (hr : 5 ≤ rnk (tkS tn tb (sk tn tb p))) : ∃ S', r7 S k = r7 S' (k + 1) ∧ K7 S0 S' tn tb (tkE tn tb (sk tn tb p)) 2 te co cl pa (cd ++ pop (rnk (tkS tn tb (sk tn tb p))) wt) (tkS tn tb (sk tn tb p) :: rsd (rnk (tkS tn tb (sk tn tb p))) wt) := by
  obtain ⟨S1, h1, h3, h4, h5, e, b, q1, q2, fc⟩ := k7_go ot h hp hk (by decide)
  have r6 := rnk_le (tkS tn tb (sk tn tb p))
  obtain ⟨S2, S3, s1, s2, s3⟩ := rel_push (st' := 2) (r := rnk (tkS tn tb (sk tn tb p))) (by omega) h1 h4 b.2 b.1
  have t : f7_takeBehindValue S1 = some (S3, 1) := by
    unfold f7_takeBehindValue
    rw [h4, c_rk, Option.bind_some, if_neg (by rw [show (5 : Int32) = nI 5 from rfl, nI_ltI (by omega) (by omega)]; omega), s1, Option.bind_some]
    dsimp only
    rw [s2, Option.bind_some]
  refine ⟨S3, r7_ok e (by rw [ts_3 h1.2.1.1]; exact bnd01 t (Or.inr rfl)), by rw [(cn_bin (rk_bin (by omega))).1]; exact s3, h.2.psh (rk_bin (by omega)) (by omega) (by omega) (Or.inl rfl) (by show 1 + 1 ≤ 2 + 2 * (pa - pa); omega)⟩
/-- behind a played value: if -/
theorem k7I (ot : TpOk tn tb) (h : K7 S0 S tn tb p 3 0 co cl pa cd wt) (hp : p ≤ tn) (hk : k ≤ p) (hz : tkS tn tb (sk tn tb p) = -25) : ∃ S', r7 S k = r7 S' (k + 1) ∧ K7 S0 S' tn tb (tkE tn tb (sk tn tb p)) 1 1 co cl pa (cd ++ pop 1 wt) (rsd 1 wt) := by
  obtain ⟨S1, h1, h3, h4, h5, e, b, q1, q2, fc⟩ := k7_go ot h hp hk (by decide)
  obtain ⟨S2, s1, s2, s3⟩ := c_rel (r := 1) (by omega) h1 (by omega) (by omega)
  have t : f7_takeBehindValue S1 = some (wI (wI S2 12 9 1) 12 5 1, 1) := by
    unfold f7_takeBehindValue
    rw [h4, hz, c_rk, Option.bind_some, if_pos (by decide), h1.2.1.2.1, if_pos rfl, if_pos rfl, show f7_release S1 1 = some (S2, ()) from s1, Option.bind_some]
  refine ⟨_, r7_ok e (by rw [ts_3 h1.2.1.1]; exact bnd01 t (Or.inr rfl)), s2.set (fun a i u _ => by rw [wI_g, if_neg (by omega), wI_g, if_neg (by omega)]) (wI_self _ _ _ _) (by rw [wI_nj (by omega), wI_self]) (by rw [wI_nj (by omega), wI_nj (by omega)]; exact s2.2.1.2.2) (by rw [wI_nj (by omega), wI_nj (by omega)]; exact s2.2.2.1.1) (by rw [wI_nj (by omega), wI_nj (by omega)]; exact s2.2.2.1.2.1) (by rw [wI_nj (by omega), wI_nj (by omega)]; exact s2.2.2.1.2.2), h.2.rel (by omega) (by omega) (by decide)⟩
/-- behind the first value of a fact -/
theorem k7C (ot : TpOk tn tb) (h : K7 S0 S tn tb p 3 1 0 cl pa cd wt) (hp : p ≤ tn) (hk : k ≤ p) (hr : rnk (tkS tn tb (sk tn tb p)) < 5) :
    (rnk (tkS tn tb (sk tn tb p)) ≠ 4 → ∃ S', r7 S k = some (S', nI (1 + 8 * sk tn tb p + 0)) ∧ fC S0 S') ∧
    (rnk (tkS tn tb (sk tn tb p)) = 4 → pa = 60 → ∃ S', r7 S k = some (S', nI (1 + 8 * sk tn tb p + 3)) ∧ fC S0 S') ∧
    (rnk (tkS tn tb (sk tn tb p)) = 4 → pa < 60 → ∃ S', r7 S k = r7 S' (k + 1) ∧ K7 S0 S' tn tb (tkE tn tb (sk tn tb p)) 2 1 1 cl (pa + 1) (cd ++ pop 4 wt) (tkS tn tb (sk tn tb p) :: rsd 4 wt)) := by
  obtain ⟨S1, h1, h3, h4, h5, e, b, q1, q2, fc⟩ := k7_go ot h hp hk (by decide)
  have bv : f7_takeBehindValue S1 = Option.bind (f7_takeComparing S1) (fun r4 => (if r4.2 = 0 ∨ r4.2 = 1 then some (r4.1, r4.2) else none)) := by
    unfold f7_takeBehindValue
    rw [h4, c_rk, Option.bind_some, if_pos (by rw [show (5 : Int32) = nI 5 from rfl, nI_ltI (by omega) (by omega)]; omega), h1.2.1.2.1, if_neg (by decide), h1.2.1.2.2, if_pos rfl]
  have q4 : nI (rnk (tkS tn tb (sk tn tb p))) = 4 ↔ rnk (tkS tn tb (sk tn tb p)) = 4 := nI_eqI (b := 4) (by omega) (by omega)
  have hpa := h.2.2.2.1
  have q60 : nI pa < (60 : Int32) ↔ pa < 60 := by rw [show (60 : Int32) = nI 60 from rfl, nI_ltI (by omega) (by omega)]
  have epa : nI pa + 1 = nI (pa + 1) := nI_add pa 1
  refine ⟨fun y => ?_, fun y a => ?_, fun y a => ?_⟩
  · have t : f7_takeComparing S1 = some (wI S1 1 6 (nI (1 + 8 * sk tn tb p + 0)), 0) := by
      unfold f7_takeComparing
      rw [h4, c_rk, Option.bind_some, if_neg (fun z => y (q4.mp z)), c_fail (x := 0) (e := 0) h3 rfl]
    exact r7_flt fc e (by rw [ts_3 h1.2.1.1, bv]; exact bnd01 (bnd01 t (Or.inl rfl)) (Or.inl rfl))
  · have t : f7_takeComparing S1 = some (wI S1 1 6 (nI (1 + 8 * sk tn tb p + 3)), 0) := by
      unfold f7_takeComparing
      rw [h4, c_rk, Option.bind_some, if_pos (q4.mpr y), h1.2.2.1.2.1, if_neg (fun z => by have := q60.mp z; omega), c_fail (x := 3) (e := 3) h3 rfl]
    exact r7_flt fc e (by rw [ts_3 h1.2.1.1, bv]; exact bnd01 (bnd01 t (Or.inl rfl)) (Or.inl rfl))
  · have h2 : C7 S0 (wI (wI S1 12 7 (nI (pa + 1))) 12 10 1) tn tb (tkE tn tb (sk tn tb p)) 3 1 1 cl (pa + 1) (cn wt) cd wt := h1.set (fun a i u _ => by rw [wI_g, if_neg (by omega), wI_g, if_neg (by omega)]) (by rw [wI_nj (by omega), wI_nj (by omega)]; exact h1.2.1.1) (by rw [wI_nj (by omega), wI_nj (by omega)]; exact h1.2.1.2.1) (wI_self _ _ _ _) (by rw [wI_nj (by omega), wI_nj (by omega)]; exact h1.2.2.1.1) (by rw [wI_nj (by omega), wI_self]) (by rw [wI_nj (by omega), wI_nj (by omega)]; exact h1.2.2.1.2.2)
    obtain ⟨S2, S3, s1, s2, s3⟩ := rel_push (st' := 2) (r := 4) (z := tkS tn tb (sk tn tb p)) (by omega) h2 (by rw [wI_ne (by omega), wI_ne (by omega)]; exact h4) b.2 b.1
    have t : f7_takeComparing S1 = some (S3, 1) := by
      unfold f7_takeComparing
      rw [h4, c_rk, Option.bind_some, if_pos (q4.mpr y), h1.2.2.1.2.1, if_pos (q60.mpr a), epa, show f7_release (wI (wI S1 12 7 (nI (pa + 1))) 12 10 1) 4 = some (S2, ()) from s1, Option.bind_some]
      dsimp only
      rw [s2, Option.bind_some]
    have mi := h.2.psh (z := tkS tn tb (sk tn tb p)) (st' := 2) (pa' := pa + 1) (p' := tkE tn tb (sk tn tb p)) (rk_bin (by omega)) (by omega) (by omega) (Or.inr ⟨rfl, by omega⟩) (by show 1 + 1 ≤ 2 + 2 * (pa + 1 - pa); omega)
    rw [y] at mi
    exact ⟨S3, r7_ok e (by rw [ts_3 h1.2.1.1, bv]; exact bnd01 (bnd01 t (Or.inr rfl)) (Or.inr rfl)), by rw [(cn_bin (rk_bin (by omega))).1]; exact s3, mi⟩
end
