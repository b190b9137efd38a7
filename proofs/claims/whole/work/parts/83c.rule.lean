/-! the class, sign by sign: facts, ends, plays -/
section
variable {S0 S S1 : jS} {tn : Nat} {tb : Nat → Nat} {p k s : Nat} {st te co st' : Int32} {cl pa de r : Nat} {cd wt : List Int32} {z : Int32}
theorem c7_end {mark : Int32} (h : C7 S0 S tn tb p st te co cl pa (cn wt) cd wt) (h3 : S.1 1 3 = nI s) (h4 : S.1 1 4 = z) (hw : wt.length ≤ 35) (hl : cd.length + wt.length ≤ 275) :
    (¬ (z = 8 ∨ z = 1) → f7_takeEnd S mark = some (wI S 1 6 (nI (1 + 8 * s + 0)), 0)) ∧
    ((z = 8 ∨ z = 1) → rsd 1 wt ≠ [] → ∃ S2, f7_takeEnd S mark = some (wI S2 1 6 (nI (1 + 8 * s + 0)), 0) ∧ fC S0 S2) ∧
    ((z = 8 ∨ z = 1) → rsd 1 wt = [] → ∃ S2, f7_takeEnd S mark = some (S2, 1) ∧ C7 S0 S2 tn tb p (if z = 8 then 0 else 5) te co cl pa 0 (cd ++ pop 1 wt ++ [mark]) []) := by
  have pl := pr_len 1 wt
  obtain ⟨S2, s1, s2, s3⟩ := c_rel (r := 1) (by omega) h (by omega) (by omega)
  have s1' : f7_release S 1 = some (S2, ()) := s1
  have t4 : S2.1 12 4 = nI (rsd 1 wt).length := s2.2.2.2.2.1
  have q0 : nI (rsd 1 wt).length ≤ (0 : Int32) ↔ (rsd 1 wt).length ≤ 0 := nI_leI (b := 0) (by omega) (by omega)
  have k3 : S2.1 1 3 = nI s := by rw [s3 _ _ (by omega) (by omega)]; exact h3
  have k4 : S2.1 1 4 = z := by rw [s3 _ _ (by omega) (by omega)]; exact h4
  have f0 := c_fail (S := S2) (x := 0) (e := 0) k3 rfl
  refine ⟨fun y => ?_, fun y a => ?_, fun y a => ?_⟩
  · unfold f7_takeEnd
    rw [h4, if_neg (fun w => y (Or.inl w)), if_neg (fun w => y (Or.inr w)), c_fail (x := 0) (e := 0) h3 rfl]
  · have nl : ¬ (rsd 1 wt).length ≤ 0 := fun w => a (List.eq_nil_of_length_eq_zero (by omega))
    refine ⟨S2, ?_, s2.1.2.2⟩
    unfold f7_takeEnd
    rw [h4, s1', Option.bind_some]
    dsimp only
    rw [t4, if_neg (fun w => nl (q0.mp w)), f0]
    rcases y with y | y
    · rw [if_pos y]
    · rw [if_neg (by rw [y]; decide), if_pos y]
  · have nl : (rsd 1 wt).length ≤ 0 := by rw [a]; exact Nat.le_refl _
    rw [a] at s2
    obtain ⟨S3, u1, u2, u3⟩ := c_emit (x := mark) s2 (by simp only [List.length_append]; omega)
    have m4 : S3.1 1 4 = z := by rw [u3 _ _ (by omega) (by omega)]; exact k4
    refine ⟨wI S3 12 5 (if z = 8 then 0 else 5), ?_, u2.set (fun a i u _ => by rw [wI_g, if_neg (by omega)]) (wI_self _ _ _ _) (by rw [wI_nj (by omega)]; exact u2.2.1.2.1) (by rw [wI_nj (by omega)]; exact u2.2.1.2.2) (by rw [wI_nj (by omega)]; exact u2.2.2.1.1) (by rw [wI_nj (by omega)]; exact u2.2.2.1.2.1) (by rw [wI_nj (by omega)]; exact u2.2.2.1.2.2)⟩
    unfold f7_takeEnd
    rw [h4, s1', Option.bind_some]
    dsimp only
    rw [t4, if_pos (q0.mpr nl), u1, Option.bind_some]
    dsimp only
    rw [m4]
    rcases y with y | y
    · rw [if_pos y]
    · rw [if_neg (show ¬ z = 8 by rw [y]; decide), if_pos y]
theorem gw_0 {x : Int32} {w : List Int32} (h : gw (x :: w)) (h0 : rnk x < 1) : x = -26 := by
  obtain ⟨-, h2⟩ := h
  by_cases c : x = -23 ∨ x = -26
  · rcases c with c | c
    · rw [c] at h0; exact absurd h0 (by decide)
    · exact c
  · rw [if_neg c] at h2; omega
/-- behind a fact -/
theorem c7_bf (h : C7 S0 S tn tb p st te co cl pa (cn wt) cd wt) (hg : gw wt) (h3 : S.1 1 3 = nI s) (h4 : S.1 1 4 = z) (hw : wt.length ≤ 35) (hl : cd.length + wt.length ≤ 275) :
    ((z = -21 ∨ z = -22) → ∃ S2, f7_takeBehindFact S = some (S2, 1) ∧ C7 S0 S2 tn tb p 1 te co cl pa (cn (rsd (rnk z) wt)) (cd ++ pop (rnk z) wt) (z :: rsd (rnk z) wt)) ∧
    (z = 9 → ∀ x w, rsd 1 wt = x :: w → ∃ S2, f7_takeBehindFact S = some (S2, 1) ∧ C7 S0 S2 tn tb p 4 te co cl pa (cn w) (cd ++ pop 1 wt) w) ∧
    (z = 9 → rsd 1 wt = [] → ∃ S2, f7_takeBehindFact S = some (wI S2 1 6 (nI (1 + 8 * s + 0)), 0) ∧ fC S0 S2) ∧
    (z ≠ -21 → z ≠ -22 → z ≠ 9 → f7_takeBehindFact S = Option.bind (f7_takeEnd S (-25)) (fun r9 => (if r9.2 = 0 ∨ r9.2 = 1 then some (r9.1, r9.2) else none))) := by
  have pl := pr_len 1 wt
  refine ⟨fun y => ?_, fun y x w a => ?_, fun y a => ?_, fun y y' y'' => ?_⟩
  · have hr : 1 ≤ rnk z ∧ rnk z ≤ 6 := by rcases y with y | y <;> rw [y] <;> decide
    obtain ⟨S2, S3, s1, s2, s3⟩ := rel_push (st' := 1) (r := rnk z) hr h h4 hw hl
    refine ⟨S3, ?_, s3⟩
    unfold f7_takeBehindFact
    rw [h4, c_rk, Option.bind_some, s1, Option.bind_some]
    dsimp only
    rw [s2, Option.bind_some]
    rcases y with y | y
    · rw [if_pos y]
    · rw [if_neg (by rw [y]; decide), if_pos y]
  · obtain ⟨S2, s1, s2, s3⟩ := c_rel (r := 1) (by omega) h (by omega) (by omega)
    have s1' : f7_release S 1 = some (S2, ()) := s1
    have ga := rsd_all (r := 1) (by omega) hg
    rw [a] at s2 pl ga
    have x26 : x = -26 := gw_0 ga.1 ga.2.2.2
    simp only [List.length_cons] at pl
    have t4 : S2.1 12 4 = nI (w.length + 1) := s2.2.2.2.2.1
    have t8 : S2.1 12 8 = nI (1 + cn w) := by rw [s2.2.2.1.2.2, cn, if_pos (Or.inr x26)]
    have e4 : nI (w.length + 1) - 1 = nI w.length := by
      have := nI_sub (a := w.length + 1) (b := 1) (by omega)
      rw [show (1 : Int32) = nI 1 from rfl, this]; congr 1
    have e8 : nI (1 + cn w) - 1 = nI (cn w) := by
      have := nI_sub (a := 1 + cn w) (b := 1) (by omega)
      rw [show (1 : Int32) = nI 1 from rfl, this]; congr 1; omega
    obtain ⟨⟨a1, a2, a3⟩, ⟨b1, b2, b3⟩, ⟨c1, c2, c3⟩, ⟨d1, d2⟩, ⟨g1, g2⟩⟩ := id s2
    have hv : ∀ a i, (wI (wI (wI S2 12 4 (nI w.length)) 12 8 (nI (cn w))) 12 5 4).1 a i = if a = 12 ∧ i = 5 then 4 else if a = 12 ∧ i = 8 then nI (cn w) else if a = 12 ∧ i = 4 then nI w.length else S2.1 a i := fun a i => by rw [wI_g, wI_g, wI_g]
    have hn : ∀ a i, ¬ (a = 12 ∧ (i = 5 ∨ i = 8 ∨ i = 4)) → (wI (wI (wI S2 12 4 (nI w.length)) 12 8 (nI (cn w))) 12 5 4).1 a i = S2.1 a i := fun a i u => by rw [hv, if_neg (by omega), if_neg (by omega), if_neg (by omega)]
    refine ⟨wI (wI (wI S2 12 4 (nI w.length)) 12 8 (nI (cn w))) 12 5 4, ?_, ⟨⟨⟨(hn _ _ (by omega)).trans a1.1, fun i hi => (hn _ _ (by omega)).trans (a1.2 i hi)⟩, (hn _ _ (by omega)).trans a2, fC.w (fC.w (fC.w a3 (by omega)) (by omega)) (by omega)⟩, ⟨wI_self _ _ _ _, (hn _ _ (by omega)).trans b2, (hn _ _ (by omega)).trans b3⟩, ⟨(hn _ _ (by omega)).trans c1, (hn _ _ (by omega)).trans c2, by rw [wI_nj (by omega), wI_self]⟩, ⟨(hn _ _ (by omega)).trans d1, cod_ext (fun i _ _ => hn _ _ (by omega)) d2⟩, ⟨by rw [hv, if_neg (by omega), if_neg (by omega), if_pos ⟨rfl, rfl⟩], wst_ext (fun i _ => hn _ _ (by omega)) g2.2⟩⟩⟩
    unfold f7_takeBehindFact
    rw [h4, if_neg (by rw [y]; decide), if_neg (by rw [y]; decide), if_pos y, s1', Option.bind_some]
    dsimp only
    rw [t4, if_pos (by rw [show (0 : Int32) = nI 0 from rfl, nI_ltI (by omega) (by omega)]; omega), e4, wI_nj (by omega), t8, e8]
  · obtain ⟨S2, s1, s2, s3⟩ := c_rel (r := 1) (by omega) h (by omega) (by omega)
    have s1' : f7_release S 1 = some (S2, ()) := s1
    rw [a] at s2
    have t4 : S2.1 12 4 = nI 0 := s2.2.2.2.2.1
    have k3 : S2.1 1 3 = nI s := by rw [s3 _ _ (by omega) (by omega)]; exact h3
    refine ⟨S2, ?_, s2.1.2.2⟩
    unfold f7_takeBehindFact
    rw [h4, if_neg (by rw [y]; decide), if_neg (by rw [y]; decide), if_pos y, s1', Option.bind_some]
    dsimp only
    rw [t4, if_neg (by decide), c_fail (x := 0) (e := 0) k3 rfl]
  · unfold f7_takeBehindFact
    rw [h4, if_neg y, if_neg y', if_neg y'']
/-- behind a fact that is read -/
theorem k7B (ot : TpOk tn tb) (h : K7 S0 S tn tb p st 1 1 cl pa cd wt) (hp : p ≤ tn) (hk : k ≤ p) (hst : (st = 3 ∧ rnk (tkS tn tb (sk tn tb p)) < 5) ∨ st = 4) :
    ((tkS tn tb (sk tn tb p) = -21 ∨ tkS tn tb (sk tn tb p) = -22) → ∃ S', r7 S k = r7 S' (k + 1) ∧ K7 S0 S' tn tb (tkE tn tb (sk tn tb p)) 1 1 1 cl pa (cd ++ pop (rnk (tkS tn tb (sk tn tb p))) wt) (tkS tn tb (sk tn tb p) :: rsd (rnk (tkS tn tb (sk tn tb p))) wt)) ∧
    (tkS tn tb (sk tn tb p) = 9 → ∀ x w, rsd 1 wt = x :: w → ∃ S', r7 S k = r7 S' (k + 1) ∧ K7 S0 S' tn tb (tkE tn tb (sk tn tb p)) 4 1 1 cl pa (cd ++ pop 1 wt) w) ∧
    ((tkS tn tb (sk tn tb p) = 8 ∨ tkS tn tb (sk tn tb p) = 1) → rsd 1 wt = [] → ∃ S', r7 S k = r7 S' (k + 1) ∧ K7 S0 S' tn tb (tkE tn tb (sk tn tb p)) (if tkS tn tb (sk tn tb p) = 8 then 0 else 5) 1 1 cl pa (cd ++ pop 1 wt ++ [-25]) []) ∧
    (tkS tn tb (sk tn tb p) ≠ -21 → tkS tn tb (sk tn tb p) ≠ -22 → (tkS tn tb (sk tn tb p) = 9 → rsd 1 wt = []) → ((tkS tn tb (sk tn tb p) = 8 ∨ tkS tn tb (sk tn tb p) = 1) → rsd 1 wt ≠ []) → ∃ S', r7 S k = some (S', nI (1 + 8 * sk tn tb p + 0)) ∧ fC S0 S') := by
  have n5 : st ≠ 5 := by rcases hst with ⟨y, -⟩ | y <;> rw [y] <;> decide
  have s2 : sl st = 2 := by rcases hst with ⟨y, -⟩ | y <;> rw [y] <;> rfl
  obtain ⟨S1, h1, h3, h4, h5, e, b, q1, q2, fc⟩ := k7_go ot h hp hk n5
  obtain ⟨b1, b2, b3, b4⟩ := c7_bf h1 h.2.1 h3 h4 b.2 b.1
  obtain ⟨e1, e2, e3⟩ := c7_end (mark := -25) h1 h3 h4 b.2 b.1
  have pl := pr_len 1 wt
  have ts : ∀ {S2 : jS} {x : Int32}, (x = 0 ∨ x = 1) → f7_takeBehindFact S1 = some (S2, x) → f7_takeSign S1 = some (S2, x) := by
    intro S2 x hx hb
    rcases hst with ⟨y, hr⟩ | y
    · have t : f7_takeBehindValue S1 = some (S2, x) := by
        unfold f7_takeBehindValue
        rw [h4, c_rk, Option.bind_some, if_pos (by rw [show (5 : Int32) = nI 5 from rfl, nI_ltI (by omega) (by omega)]; omega), h1.2.1.2.1, if_neg (by decide), h1.2.1.2.2, if_neg (by decide)]
        exact bnd01 hb hx
      rw [ts_3 (h1.2.1.1.trans y)]; exact bnd01 t hx
    · rw [ts_4 (h1.2.1.1.trans y)]; exact bnd01 hb hx
  refine ⟨fun y => ?_, fun y x w a => ?_, fun y a => ?_, fun y y' y9 y8 => ?_⟩
  · obtain ⟨S2, s1, s2'⟩ := b1 y
    have hb : tkS tn tb (sk tn tb p) ≠ -23 ∧ tkS tn tb (sk tn tb p) ≠ -26 := by rcases y with y | y <;> rw [y] <;> decide
    have hr : 1 ≤ rnk (tkS tn tb (sk tn tb p)) := by rcases y with y | y <;> rw [y] <;> decide
    exact ⟨S2, r7_ok e (ts (Or.inr rfl) s1), by rw [(cn_bin hb).1]; exact s2', h.2.psh hb hr (by omega) (Or.inl rfl) (by rw [s2]; show 1 + 1 ≤ 2 + 2 * (pa - pa); omega)⟩
  · obtain ⟨S2, s1, s2'⟩ := b2 y x w a
    refine ⟨S2, r7_ok e (ts (Or.inr rfl) s1), s2', ?_⟩
    have mi := h.2.rel (r := 1) (st' := st) (p' := tkE tn tb (sk tn tb p)) (by omega) (by omega) (Nat.le_refl _)
    rw [a] at mi
    obtain ⟨m1, m2, m3, m4, m5⟩ := mi
    have ga := rsd_all (r := 1) (by omega) h.2.1
    rw [a] at ga
    have x26 : x = -26 := gw_0 ga.1 ga.2.2.2
    rw [cn, if_pos (Or.inr x26)] at m2
    rw [oc, if_pos x26, s2] at m5
    refine ⟨m1.1, by omega, m3, m4, ?_⟩
    show 3 * ((cd ++ pop 1 wt).length + w.length + 2) ≤ _
    simp only [List.length_cons] at m5
    omega
  · obtain ⟨S2, s1, s2'⟩ := e3 y a
    have n21 : tkS tn tb (sk tn tb p) ≠ -21 ∧ tkS tn tb (sk tn tb p) ≠ -22 ∧ tkS tn tb (sk tn tb p) ≠ 9 := by rcases y with y | y <;> rw [y] <;> decide
    refine ⟨S2, r7_ok e (ts (Or.inr rfl) (by rw [b4 n21.1 n21.2.1 n21.2.2]; exact bnd01 s1 (Or.inr rfl))), s2', ?_⟩
    obtain ⟨m1, m2, m3, m4, m5⟩ := h.2.rel (r := 1) (st' := st) (p' := tkE tn tb (sk tn tb p)) (by omega) (by omega) (Nat.le_refl _)
    rw [a, s2] at m5
    refine ⟨trivial, Nat.zero_le _, m3, m4, ?_⟩
    have hs0 : sl (if tkS tn tb (sk tn tb p) = 8 then 0 else 5) = 0 := by split <;> rfl
    rw [hs0, List.length_append]
    simp only [List.length_cons, List.length_nil] at m5 ⊢
    omega
  · by_cases z9 : tkS tn tb (sk tn tb p) = 9
    · obtain ⟨S2, s1, s2'⟩ := b3 z9 (y9 z9)
      exact r7_flt s2' e (ts (Or.inl rfl) s1)
    · have bb := b4 y y' z9
      by_cases z8 : tkS tn tb (sk tn tb p) = 8 ∨ tkS tn tb (sk tn tb p) = 1
      · obtain ⟨S2, s1, s2'⟩ := e2 z8 (y8 z8)
        exact r7_flt s2' e (ts (Or.inl rfl) (by rw [bb]; exact bnd01 s1 (Or.inl rfl)))
      · exact r7_flt fc e (ts (Or.inl rfl) (by rw [bb]; exact bnd01 (e1 z8) (Or.inl rfl)))
/-- behind a played value: the end of the clause -/
theorem k7E (ot : TpOk tn tb) (h : K7 S0 S tn tb p 3 0 co cl pa cd wt) (hp : p ≤ tn) (hk : k ≤ p) (hr : rnk (tkS tn tb (sk tn tb p)) < 5) (hz : tkS tn tb (sk tn tb p) ≠ -25) :
    ((tkS tn tb (sk tn tb p) = 8 ∨ tkS tn tb (sk tn tb p) = 1) → rsd 1 wt = [] → ∃ S', r7 S k = r7 S' (k + 1) ∧ K7 S0 S' tn tb (tkE tn tb (sk tn tb p)) (if tkS tn tb (sk tn tb p) = 8 then 0 else 5) 0 co cl pa (cd ++ pop 1 wt ++ [-24]) []) ∧
    (¬ (tkS tn tb (sk tn tb p) = 8 ∨ tkS tn tb (sk tn tb p) = 1) → ∃ S', r7 S k = some (S', nI (1 + 8 * sk tn tb p + 0)) ∧ fC S0 S') := by
  obtain ⟨S1, h1, h3, h4, h5, e, b, q1, q2, fc⟩ := k7_go ot h hp hk (by decide)
  obtain ⟨e1, e2, e3⟩ := c7_end (mark := -24) h1 h3 h4 b.2 b.1
  have pl := pr_len 1 wt
  have bv : f7_takeBehindValue S1 = Option.bind (f7_takeEnd S1 (-24)) (fun r4 => (if r4.2 = 0 ∨ r4.2 = 1 then some (r4.1, r4.2) else none)) := by
    unfold f7_takeBehindValue
    rw [h4, c_rk, Option.bind_some, if_pos (by rw [show (5 : Int32) = nI 5 from rfl, nI_ltI (by omega) (by omega)]; omega), h1.2.1.2.1, if_pos rfl, if_neg hz]
  refine ⟨fun y a => ?_, fun y => ?_⟩
  · obtain ⟨S2, s1, s2'⟩ := e3 y a
    refine ⟨S2, r7_ok e (by rw [ts_3 h1.2.1.1, bv]; exact bnd01 (bnd01 s1 (Or.inr rfl)) (Or.inr rfl)), s2', ?_⟩
    obtain ⟨m1, m2, m3, m4, m5⟩ := h.2.rel (r := 1) (st' := 3) (p' := tkE tn tb (sk tn tb p)) (by omega) (by omega) (Nat.le_refl _)
    rw [a] at m5
    refine ⟨trivial, Nat.zero_le _, m3, m4, ?_⟩
    have hs0 : sl (if tkS tn tb (sk tn tb p) = 8 then 0 else 5) = 0 := by split <;> rfl
    have hs3 : sl 3 = 2 := rfl
    rw [hs3] at m5
    rw [hs0, List.length_append]
    simp only [List.length_cons, List.length_nil] at m5 ⊢
    omega
  · exact r7_flt fc e (by rw [ts_3 h1.2.1.1, bv]; exact bnd01 (bnd01 (e1 y) (Or.inl rfl)) (Or.inl rfl))
/-- a fact is due -/
theorem k7F (ot : TpOk tn tb) (h : K7 S0 S tn tb p 1 te co cl pa cd wt) (hp : p ≤ tn) (hkp : k ≤ p) (h3' : hk wt ≤ 3) :
    ((tkS tn tb (sk tn tb p) = -26 ∨ tkS tn tb (sk tn tb p) = -23) → cn wt < 10 → ∃ S', r7 S k = r7 S' (k + 1) ∧ K7 S0 S' tn tb (tkE tn tb (sk tn tb p)) 1 te 0 cl pa cd (tkS tn tb (sk tn tb p) :: wt)) ∧
    ((tkS tn tb (sk tn tb p) = -26 ∨ tkS tn tb (sk tn tb p) = -23) → cn wt = 10 → ∃ S', r7 S k = some (S', nI (1 + 8 * sk tn tb p + 2)) ∧ fC S0 S') ∧
    (¬ (tkS tn tb (sk tn tb p) = -26 ∨ tkS tn tb (sk tn tb p) = -23) → (∀ e, vf tn tb (sk tn tb p) pa = some e → ∃ S', r7 S k = some (S', nI (1 + 8 * sk tn tb p + e)) ∧ fC S0 S') ∧ (vf tn tb (sk tn tb p) pa = none → ∃ S', r7 S k = r7 S' (k + 1) ∧ K7 S0 S' tn tb (tkE tn tb (sk tn tb p)) 3 te 0 cl (pa + 1) (cd ++ [vx tn tb (sk tn tb p)]) wt)) := by
  obtain ⟨S1, h1, h3, h4, h5, e, b, q1, q2, fc⟩ := k7_go ot h hp hkp (by decide)
  have hS2 : C7 S0 (wI S1 12 10 0) tn tb (tkE tn tb (sk tn tb p)) 1 te 0 cl pa (cn wt) cd wt := h1.set (fun a i u _ => by rw [wI_g, if_neg (by omega)]) (by rw [wI_nj (by omega)]; exact h1.2.1.1) (by rw [wI_nj (by omega)]; exact h1.2.1.2.1) (wI_self _ _ _ _) (by rw [wI_nj (by omega)]; exact h1.2.2.1.1) (by rw [wI_nj (by omega)]; exact h1.2.2.1.2.1) (by rw [wI_nj (by omega)]; exact h1.2.2.1.2.2)
  have w3 : (wI S1 12 10 0).1 1 3 = nI (sk tn tb p) := by rw [wI_ne (by omega)]; exact h3
  have w4 : (wI S1 12 10 0).1 1 4 = tkS tn tb (sk tn tb p) := by rw [wI_ne (by omega)]; exact h4
  have w5 : tkS tn tb (sk tn tb p) = 3 → (wI S1 12 10 0).1 1 5 = nI (tkV tn tb (sk tn tb p)) := fun y => by rw [wI_ne (by omega)]; exact h5 y
  have w8 : (wI S1 12 10 0).1 12 8 = nI (cn wt) := hS2.2.2.1.2.2
  have hcn := h.2.2.1
  have q10 : nI (cn wt) < (10 : Int32) ↔ cn wt < 10 := by rw [show (10 : Int32) = nI 10 from rfl, nI_ltI (by omega) (by omega)]
  have en : nI (cn wt) + 1 = nI (1 + cn wt) := by have : nI (cn wt) + 1 = nI (cn wt + 1) := nI_add _ 1
                                                  rw [this, Nat.add_comm]
  have fw : fC S0 (wI S1 12 10 0) := hS2.1.2.2
  obtain ⟨m1, m2, m3, m4, m5⟩ := h.2
  have e1 : sl 1 = 1 := rfl
  rw [e1] at m5
  have sp := sk_le (tb := tb) hp
  refine ⟨fun y a => ?_, fun y a => ?_, fun y => ⟨fun x v => ?_, fun v => ?_⟩⟩
  · have hS3 : C7 S0 (wI (wI S1 12 10 0) 12 8 (nI (1 + cn wt))) tn tb (tkE tn tb (sk tn tb p)) 1 te 0 cl pa (1 + cn wt) cd wt := hS2.set (fun a i u _ => by rw [wI_g, if_neg (by omega)]) (by rw [wI_nj (by omega)]; exact hS2.2.1.1) (by rw [wI_nj (by omega)]; exact hS2.2.1.2.1) (by rw [wI_nj (by omega)]; exact hS2.2.1.2.2) (by rw [wI_nj (by omega)]; exact hS2.2.2.1.1) (by rw [wI_nj (by omega)]; exact hS2.2.2.1.2.1) (wI_self _ _ _ _)
    obtain ⟨S4, u1, u2, -⟩ := c_psh (st' := 1) (z := tkS tn tb (sk tn tb p)) hS3 (by rw [wI_ne (by omega)]; exact w4) (by omega)
    have t : f7_takeFact S1 = some (S4, 1) := by
      unfold f7_takeFact
      rw [w4, w8, if_pos (q10.mpr a), en, u1, Option.bind_some]
      rcases y with y | y
      · rw [if_pos y]
      · rw [if_neg (by rw [y]; decide), if_pos y]
    have hc : cn (tkS tn tb (sk tn tb p) :: wt) = 1 + cn wt := by rw [cn, if_pos (by rcases y with y | y; (· exact Or.inr y); (· exact Or.inl y))]
    refine ⟨S4, r7_ok e (by rw [ts_1 h1.2.1.1]; exact bnd01 t (Or.inr rfl)), by rw [hc]; exact u2, ⟨m1, by rw [if_pos (by rcases y with y | y; (· exact Or.inr y); (· exact Or.inl y))]; exact h3'⟩, by rw [hc]; omega, m3, m4, ?_⟩
    rw [e1, oc, List.length_cons]
    rcases y with y | y
    · rw [if_pos y]; omega
    · have := (tk_w (q := (10, -23)) ot (by decide) y).1
      have hj : jlen.getD 10 0 = 3 := by decide
      dsimp only at this
      rw [hj] at this
      rw [if_neg (by rw [y]; decide)]; omega
  · have t : f7_takeFact S1 = some (wI (wI S1 12 10 0) 1 6 (nI (1 + 8 * sk tn tb p + 2)), 0) := by
      unfold f7_takeFact
      rw [w4, w8, if_neg (show ¬ nI (cn wt) < 10 from fun w => by have := q10.mp w; omega), c_fail (x := 2) (e := 2) w3 rfl]
      rcases y with y | y
      · rw [if_pos y]
      · rw [if_neg (by rw [y]; decide), if_pos y]
    exact r7_flt fw e (by rw [ts_1 h1.2.1.1]; exact bnd01 t (Or.inl rfl))
  · obtain ⟨v1, -⟩ := c7_val hS2 (by omega) m3 w3 w4 w5
    have t : f7_takeFact S1 = some (wI (wI S1 12 10 0) 1 6 (nI (1 + 8 * sk tn tb p + x)), 0) := by
      unfold f7_takeFact
      rw [w4, if_neg (fun w => y (Or.inl w)), if_neg (fun w => y (Or.inr w))]
      exact bnd01 (v1 x v) (Or.inl rfl)
    exact r7_flt fw e (by rw [ts_1 h1.2.1.1]; exact bnd01 t (Or.inl rfl))
  · obtain ⟨-, v2⟩ := c7_val hS2 (by omega) m3 w3 w4 w5
    obtain ⟨S3, u1, u2⟩ := v2 v
    have t : f7_takeFact S1 = some (S3, 1) := by
      unfold f7_takeFact
      rw [w4, if_neg (fun w => y (Or.inl w)), if_neg (fun w => y (Or.inr w))]
      exact bnd01 u1 (Or.inr rfl)
    have hpa : pa < 60 := by
      unfold vf at v
      split at v
      · split at v
        · assumption
        · cases v
      · split at v <;> cases v
    refine ⟨S3, r7_ok e (by rw [ts_1 h1.2.1.1]; exact bnd01 t (Or.inr rfl)), u2, m1, m2, by omega, m4, ?_⟩
    have e3 : sl 3 = 2 := rfl
    rw [e3]
    simp only [List.length_append, List.length_cons, List.length_nil]
    omega
/-- play is due -/
theorem k7P (ot : TpOk tn tb) (h : K7 S0 S tn tb p 0 te co cl pa cd wt) (hp : p ≤ tn) (hk : k ≤ p) :
    (tkS tn tb (sk tn tb p) ≠ -24 → ∃ S', r7 S k = some (S', nI (1 + 8 * sk tn tb p + 0)) ∧ fC S0 S') ∧
    (tkS tn tb (sk tn tb p) = -24 → cl = 12 → ∃ S', r7 S k = some (S', nI (1 + 8 * sk tn tb p + 4)) ∧ fC S0 S') ∧
    (tkS tn tb (sk tn tb p) = -24 → cl < 12 → ∃ S', r7 S k = r7 S' (k + 1) ∧ K7 S0 S' tn tb (tkE tn tb (sk tn tb p)) 2 0 co (cl + 1) pa cd wt) := by
  obtain ⟨S1, h1, h3, h4, h5, e, b, q1, q2, fc⟩ := k7_go ot h hp hk (by decide)
  obtain ⟨m1, m2, m3, m4, m5⟩ := h.2
  have q12 : nI cl < (12 : Int32) ↔ cl < 12 := by rw [show (12 : Int32) = nI 12 from rfl, nI_ltI (by omega) (by omega)]
  have en : nI cl + 1 = nI (cl + 1) := nI_add _ 1
  have c6 := h1.2.2.1.1
  refine ⟨fun y => ?_, fun y a => ?_, fun y a => ?_⟩
  · have t : f7_takePlay S1 = some (wI S1 1 6 (nI (1 + 8 * sk tn tb p + 0)), 0) := by
      unfold f7_takePlay
      rw [h4, if_neg y, c_fail (x := 0) (e := 0) h3 rfl]
    exact r7_flt fc e (by rw [ts_0 h1.2.1.1]; exact bnd01 t (Or.inl rfl))
  · have t : f7_takePlay S1 = some (wI S1 1 6 (nI (1 + 8 * sk tn tb p + 4)), 0) := by
      unfold f7_takePlay
      rw [h4, if_pos y, c6, if_neg (fun w => by have := q12.mp w; omega), c_fail (x := 4) (e := 4) h3 rfl]
    exact r7_flt fc e (by rw [ts_0 h1.2.1.1]; exact bnd01 t (Or.inl rfl))
  · have t : f7_takePlay S1 = some (wI (wI (wI S1 12 6 (nI (cl + 1))) 12 9 0) 12 5 2, 1) := by
      unfold f7_takePlay
      rw [h4, if_pos y, c6, if_pos (q12.mpr a), en]
    refine ⟨_, r7_ok e (by rw [ts_0 h1.2.1.1]; exact bnd01 t (Or.inr rfl)), h1.set (fun a i u _ => by rw [wI_g, if_neg (by omega), wI_g, if_neg (by omega), wI_g, if_neg (by omega)]) (wI_self _ _ _ _) (by rw [wI_nj (by omega), wI_self]) (by rw [wI_nj (by omega), wI_nj (by omega), wI_nj (by omega)]; exact h1.2.1.2.2) (by rw [wI_nj (by omega), wI_nj (by omega), wI_self]) (by rw [wI_nj (by omega), wI_nj (by omega), wI_nj (by omega)]; exact h1.2.2.1.2.1) (by rw [wI_nj (by omega), wI_nj (by omega), wI_nj (by omega)]; exact h1.2.2.1.2.2), m1, m2, m3, by omega, ?_⟩
    have e0 : sl 0 = 0 := rfl
    have e2 : sl 2 = 1 := rfl
    rw [e0] at m5
    rw [e2]; omega
end
