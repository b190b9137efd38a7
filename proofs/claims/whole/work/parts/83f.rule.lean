/-! terms, sums: both -/
theorem rnk_v (x : Int32) : (rnk x = 6 ↔ (x = -13 ∨ x = -14 ∨ x = -15)) ∧ (rnk x = 5 ↔ (x = -11 ∨ x = -12)) ∧ (rnk x = 4 ↔ (x = -16 ∨ x = -17 ∨ x = -18 ∨ x = -19 ∨ x = -20)) ∧ (rnk x = 2 ↔ x = -21) ∧ (rnk x = 1 ↔ x = -22) := by
  by_cases h23 : x = -23
  · subst h23; decide
  by_cases h22 : x = -22
  · subst h22; decide
  by_cases h21 : x = -21
  · subst h21; decide
  by_cases h20 : x = -20
  · subst h20; decide
  by_cases h19 : x = -19
  · subst h19; decide
  by_cases h18 : x = -18
  · subst h18; decide
  by_cases h17 : x = -17
  · subst h17; decide
  by_cases h16 : x = -16
  · subst h16; decide
  by_cases h15 : x = -15
  · subst h15; decide
  by_cases h14 : x = -14
  · subst h14; decide
  by_cases h13 : x = -13
  · subst h13; decide
  by_cases h12 : x = -12
  · subst h12; decide
  by_cases h11 : x = -11
  · subst h11; decide
  have e : rnk x = 0 := by unfold rnk; rw [if_neg h23, if_neg h22, if_neg h21, if_neg h20, if_neg h19, if_neg h18, if_neg h17, if_neg h16, if_neg h15, if_neg h14, if_neg h13, if_neg h12, if_neg h11]
  rw [e]
  simp [h23, h22, h21, h20, h19, h18, h17, h16, h15, h14, h13, h12, h11]
theorem ty_v {x : Int32} {ts : List Bool} (h : -10 ≤ x) (hl : ts.length < 60) : tky 60 [x] ts = some (false :: ts) := by
  show (if -10 ≤ x then (if ts.length < 60 then tky 60 [] (false :: ts) else none) else _) = _
  rw [if_pos h, if_pos hl]; rfl
theorem ty_a {x : Int32} {ts : List Bool} (h : rnk x = 6 ∨ rnk x = 5) : tky 60 [x] (false :: false :: ts) = some (false :: ts) ∧ enN x = 0 := by
  have : x = -13 ∨ x = -14 ∨ x = -15 ∨ x = -11 ∨ x = -12 := by
    rcases h with h | h
    · have := (rnk_v x).1.mp h; grind
    · have := (rnk_v x).2.1.mp h; grind
  rcases this with h | h | h | h | h <;> subst h <;> refine ⟨?_, by decide⟩ <;> rw [tky, if_neg (by decide), if_neg (by decide), if_pos (by decide), tky]
theorem vf_n {tn : Nat} {tb : Nat → Nat} {s pa : Nat} (h : vf tn tb s pa = none) : pa < 60 ∧ -10 ≤ vx tn tb s ∧ s < tn := by
  unfold vf at h
  by_cases c : tkS tn tb s = 3 ∨ (-10 ≤ tkS tn tb s ∧ tkS tn tb s < 0)
  · rw [if_pos c] at h
    by_cases d : pa < 60
    · refine ⟨d, ?_, ?_⟩
      · unfold vx
        by_cases e : tkS tn tb s = 3
        · have hv := tkV_le e
          rw [if_pos e]
          have : (0 : Int32) ≤ nI (tkV tn tb s) := by rw [show (0 : Int32) = nI 0 from rfl, nI_leI (by omega) (by omega)]; omega
          grind
        · rw [if_neg e]
          rcases c with c | c
          · exact absurd c e
          · exact c.1
      · apply Classical.byContradiction
        intro g
        have := (tk_end (tb := tb)).mp (show tn ≤ s by omega)
        rw [this] at c
        exact absurd c (by decide)
    · rw [if_neg d] at h; cases h
  · rw [if_neg c] at h
    split at h <;> cases h
/-- the outcome of reading a part of a clause -/
def O7 (S0 X0 S X1 : jS) (tn : Nat) (tb : Nat → Nat) (n k p0 : Nat) (te co : Int32) (cl : Nat) (cd wt E ops : List Int32) (deep lo hi D : Nat) (b : Bool) : Prop :=
  (∃ f S', f ≠ 0 ∧ f < 2 ^ 31 ∧ r7 S k = some (S', nI f) ∧ fC S0 S' ∧ RF7 X0 X1 tn tb n f) ∨
  (∃ S' k' p1 pa' L ex, r7 S k = r7 S' k' ∧ K7 S0 S' tn tb p1 3 te co cl pa' (cd ++ L) (ex ++ wt) ∧ R7 X0 X1 tn tb (sk tn tb p1) n (E ++ L ++ ex) ops deep pa' ∧ k' ≤ p1 ∧ p1 ≤ tn ∧ p0 ≤ p1 ∧ (∀ x ∈ ex, lo ≤ rnk x) ∧ rnk (tkS tn tb (sk tn tb p1)) < hi ∧ (∀ ts : List Bool, ts.length + D ≤ 60 → tky 60 (L ++ ex) ts = some (b :: ts)))
/-- what the class does at the first value of a part -/
def HV (S0 S : jS) (tn : Nat) (tb : Nat → Nat) (p k : Nat) (te co : Int32) (cl pa : Nat) (cd wt : List Int32) : Prop :=
  (∀ e, vf tn tb (sk tn tb p) pa = some e → ∃ S', r7 S k = some (S', nI (1 + 8 * sk tn tb p + e)) ∧ fC S0 S') ∧
  (vf tn tb (sk tn tb p) pa = none → ∃ S', r7 S k = r7 S' (k + 1) ∧ K7 S0 S' tn tb (tkE tn tb (sk tn tb p)) 3 te co cl (pa + 1) (cd ++ [vx tn tb (sk tn tb p)]) wt)
theorem vf_le {tn : Nat} {tb : Nat → Nat} {s pa e : Nat} (h : vf tn tb s pa = some e) : e ≤ 3 := by
  unfold vf at h
  split at h
  · split at h
    · cases h
    · have := Option.some.inj h; omega
  · split at h <;> have := Option.some.inj h <;> omega
section
variable {S0 X0 : jS} {tn : Nat} {tb : Nat → Nat} {n : Nat} {te co : Int32} {cl : Nat} {cd wt E ops : List Int32} {deep : Nat}
theorem t_step (ot : TpOk tn tb) {X : jS} {s m : Nat} (hs : s ≤ tn) (hr : RTp X tn tb) (h2 : X.1 0 20 = nI s) (hf : X.1 0 21 = 0) : (rnk (tkS tn tb s) ≠ 6 → f11_term_L1 (m + 1) X = some X) ∧ (rnk (tkS tn tb s) = 6 → f11_term_L1 (m + 1) X = Option.bind (f11_value (wI X 0 20 (nI (s + 1)))) (fun r7 => Option.bind (f11_entry r7.1 (enS (tkS tn tb s)) 0) (fun r8 => Option.bind (f11_blanks r8.1) (fun r9 => f11_term_L1 m r9.1)))) := by
  have l := ot.1
  have sg := r_sg ot (by omega) hr h2
  have e1 : nI s + 1 = nI (s + 1) := nI_add s 1
  have rv := (rnk_v (tkS tn tb s)).1
  rw [f11_term_L1, hf, if_pos rfl, sg]
  simp only [Option.bind_some]
  rw [h2, e1]
  refine ⟨fun y => ?_, fun y => ?_⟩
  · rw [if_neg (fun z => y (rv.mpr (Or.inl ((mk_mul ot).mp z)))), if_neg (fun z => y (rv.mpr (Or.inr (Or.inl ((mk_div ot).mp z))))), if_neg (fun z => y (rv.mpr (Or.inr (Or.inr ((mk_rem ot).mp z)))))]
  · rcases rv.mp y with z | z | z
    · have q := (mk_mul ot).mpr z
      rw [if_pos q, if_pos q, z]; rfl
    · have q := (mk_div ot).mpr z
      have q1 : ¬ sgv tn tb s = 42 := by rw [q]; decide
      rw [if_neg q1, if_pos q, if_neg q1, if_pos q, z]; rfl
    · have q := (mk_rem ot).mpr z
      have q1 : ¬ sgv tn tb s = 42 := by rw [q]; decide
      have q2 : ¬ sgv tn tb s = 47 := by rw [q]; decide
      rw [if_neg q1, if_neg q2, if_pos q, if_neg q1, if_neg q2, z]; rfl
theorem T7L (ot : TpOk tn tb) (hn : n ≤ 5) (hw : hk wt < 6) (hE : E.length ≤ cd.length + wt.length) : ∀ d p S X k pa L ex m, tn - p < d → K7 S0 S tn tb p 3 te co cl pa (cd ++ L) (ex ++ wt) → R7 X0 X tn tb (sk tn tb p) n (E ++ L ++ ex) ops deep pa → p ≤ tn → k ≤ p → (∀ x ∈ ex, 6 ≤ rnk x) → (∀ ts : List Bool, ts.length + 2 ≤ 60 → tky 60 (L ++ ex) ts = some (false :: ts)) → tn - p + 2 ≤ m → ∃ X1, f11_term_L1 m X = some X1 ∧ O7 S0 X0 S X1 tn tb n k p te co cl cd wt E ops deep 6 6 2 false := by
  intro d
  induction d with
  | zero => intro p S X k pa L ex m h; omega
  | succ d ih =>
    intro p S X k pa L ex m hd hK hR hp hkp hex hty hm
    have l := ot.1
    have hk2 := sk_le (tb := tb) hp
    obtain ⟨m, rfl⟩ : ∃ m', m = m' + 1 := ⟨m - 1, by omega⟩
    obtain ⟨t1, t2⟩ := t_step (m := m) ot hk2.2 hR.1.1 hR.1.2.1 hR.1.2.2
    by_cases c : rnk (tkS tn tb (sk tn tb p)) = 6
    · obtain ⟨S1, a1, a2⟩ := k7O ot hK hp hkp (by omega)
      rw [c, (rsd_ex (by omega) hex hw).1, (rsd_ex (by omega) hex hw).2] at a2
      have z3 := (rnk_v (tkS tn tb (sk tn tb p))).1.mp c
      have te1 : tkE tn tb (sk tn tb p) = sk tn tb p + 1 ∧ sk tn tb p < tn := tk_m (by rcases z3 with z | z | z <;> rw [z] <;> decide)
      rw [te1.1] at a2
      have R1 := hR.mv (p' := sk tn tb p + 1)
      have b1 := a2.2.b (by omega)
      simp only [List.length_append, List.length_cons] at b1
      obtain ⟨v1, v2⟩ := k7V (k := k + 1) ot a2 (by omega) (by omega)
      obtain ⟨Xv, w1, w2, w3⟩ := r_val ot hn R1 (by omega) (by simp only [List.length_append]; omega) a2.2.2.2.1
      have hk3 := sk_le (tb := tb) (show sk tn tb p + 1 ≤ tn by omega)
      rw [t2 c, w1, Option.bind_some]
      dsimp only
      generalize hq : sk tn tb (sk tn tb p + 1) = s1 at *
      cases hv : vf tn tb s1 pa with
      | some e =>
        have he := vf_le hv
        have F := w3 e hv
        obtain ⟨S', u1, u2⟩ := v1 e hv
        obtain ⟨Xb, x1, x2⟩ := r_blkF ot F
        rw [r_entF F (by omega) (by omega), Option.bind_some]
        dsimp only
        rw [x1, Option.bind_some]
        dsimp only
        obtain ⟨m, rfl⟩ : ∃ m', m = m' + 1 := ⟨m - 1, by omega⟩
        rw [f11_term_L1, if_neg (by rw [x2.2.2.1]; exact f_ne (by omega) (by omega))]
        exact ⟨Xb, rfl, Or.inl ⟨_, S', by omega, by omega, a1.trans u1, u2, x2⟩⟩
      | none =>
        obtain ⟨n1, n2, n3⟩ := vf_n hv
        obtain ⟨S2, u1, u2⟩ := v2 hv
        have R2 := w2 hv
        have hst := tk_step (tb := tb) n3
        have b2 := u2.2.b (by omega)
        simp only [List.length_append, List.length_cons] at b2
        obtain ⟨ta, en⟩ := ty_a (x := tkS tn tb (sk tn tb p)) (ts := []) (Or.inl c)
        obtain ⟨X3, x1, x2⟩ := r_ent (x := tkS tn tb (sk tn tb p)) (k := enS (tkS tn tb (sk tn tb p))) (y := 0) R2 (by simp only [List.length_append, List.length_cons]; omega) hn rfl en.symm
        obtain ⟨X4, y1, y2, y3⟩ := r_blk ot (by omega) x2.1.1 x2.1.2.1
        have R4 := x2.mv' y3 y2
        rw [x1, Option.bind_some]
        dsimp only
        rw [y1, Option.bind_some]
        dsimp only
        obtain ⟨X5, z1, z2⟩ := ih (tkE tn tb s1) S2 X4 (k + 1 + 1) (pa + 1) (L ++ ex ++ [vx tn tb s1]) [tkS tn tb (sk tn tb p)] m (by omega) (by
          have : cd ++ (L ++ ex ++ [vx tn tb s1]) = cd ++ L ++ ex ++ [vx tn tb s1] := by simp only [List.append_assoc]
          rw [this]; exact u2) (by
          have : E ++ (L ++ ex ++ [vx tn tb s1]) ++ [tkS tn tb (sk tn tb p)] = E ++ L ++ ex ++ [vx tn tb s1] ++ [tkS tn tb (sk tn tb p)] := by simp only [List.append_assoc]
          rw [this]; exact R4) hst.2 (by omega) (fun x hx => by
          rw [List.mem_singleton] at hx; rw [hx]; omega) (fun ts hts => by
          refine tky_app (u := false :: false :: ts) ?_ (ty_a (Or.inl c)).1
          exact tky_app (u := false :: ts) (hty ts hts) (ty_v n2 (by simp only [List.length_cons]; omega))) (by omega)
        refine ⟨X5, z1, ?_⟩
        rcases z2 with ⟨f, S', f1, f2, f3, f4, f5⟩ | ⟨S', k', p1, pa', L', ex', g1, g2, g3, g4, g5, gp, g6⟩
        · exact Or.inl ⟨f, S', f1, f2, (a1.trans u1).trans f3, f4, f5⟩
        · exact Or.inr ⟨S', k', p1, pa', L', ex', (a1.trans u1).trans g1, g2, g3, g4, g5, by omega, g6⟩
    · rw [t1 c]
      have := rnk_le (tkS tn tb (sk tn tb p))
      exact ⟨X, rfl, Or.inr ⟨S, k, p, pa, L, ex, rfl, hK, hR, hkp, hp, Nat.le_refl _, hex, by omega, hty⟩⟩
theorem T7 (ot : TpOk tn tb) (hn : n ≤ 5) (hw : hk wt < 6) (hE : E.length ≤ cd.length + wt.length) (hcd : cd.length + wt.length ≤ 275) {p : Nat} {S X : jS} {k pa : Nat} (hH : HV S0 S tn tb p k te co cl pa cd wt) (hR : R7 X0 X tn tb p n E ops deep pa) (hp : p ≤ tn) (hkp : k ≤ p) (hpa : pa ≤ 60) : ∃ X1, f11_term X = some (X1, ()) ∧ O7 S0 X0 S X1 tn tb n k (p + 1) te co cl cd wt E ops deep 6 6 2 false := by
  have l := ot.1
  obtain ⟨Xv, w1, w2, w3⟩ := r_val ot hn hR hp (by omega) hpa
  obtain ⟨v1, v2⟩ := hH
  have hk2 := sk_le (tb := tb) hp
  have hF : jF = 4999 + 1 := rfl
  unfold f11_term
  rw [w1, Option.bind_some]
  dsimp only
  cases hv : vf tn tb (sk tn tb p) pa with
  | some e =>
    have he := vf_le hv
    have F := w3 e hv
    obtain ⟨S', u1, u2⟩ := v1 e hv
    obtain ⟨Xb, x1, x2⟩ := r_blkF ot F
    rw [x1, Option.bind_some]
    dsimp only
    rw [hF, f11_term_L1, if_neg (by rw [x2.2.2.1]; exact f_ne (by omega) (by omega)), Option.bind_some]
    exact ⟨Xb, rfl, Or.inl ⟨_, S', by omega, by omega, u1, u2, x2⟩⟩
  | none =>
    obtain ⟨n1, n2, n3⟩ := vf_n hv
    obtain ⟨S2, u1, u2⟩ := v2 hv
    have R2 := w2 hv
    have hst := tk_step (tb := tb) n3
    obtain ⟨X4, y1, y2, y3⟩ := r_blk ot (by omega) R2.1.1 R2.1.2.1
    have R4 := R2.mv' y3 y2
    rw [y1, Option.bind_some]
    dsimp only
    obtain ⟨X5, z1, z2⟩ := T7L (cd := cd) (wt := wt) (E := E) ot hn hw hE (tn + 1) (tkE tn tb (sk tn tb p)) S2 X4 (k + 1) (pa + 1) [vx tn tb (sk tn tb p)] [] jF (by omega) u2 (by rw [List.append_nil]; exact R4) hst.2 (by omega) (fun x hx => by cases hx) (fun ts hts => ty_v n2 (by omega)) (by unfold jF; omega)
    rw [z1, Option.bind_some]
    refine ⟨X5, rfl, ?_⟩
    rcases z2 with ⟨f, S', f1, f2, f3, f4, f5⟩ | ⟨S', k', p1, pa', L', ex', g1, g2, g3, g4, g5, gp, g6⟩
    · exact Or.inl ⟨f, S', f1, f2, u1.trans f3, f4, f5⟩
    · exact Or.inr ⟨S', k', p1, pa', L', ex', u1.trans g1, g2, g3, g4, g5, by omega, g6⟩
theorem s_step (ot : TpOk tn tb) {X : jS} {s m : Nat} (hs : s ≤ tn) (hr : RTp X tn tb) (h2 : X.1 0 20 = nI s) (hf : X.1 0 21 = 0) : (rnk (tkS tn tb s) ≠ 5 → f11_sum_L1 (m + 1) X = some X) ∧ (rnk (tkS tn tb s) = 5 → f11_sum_L1 (m + 1) X = Option.bind (f11_term (wI X 0 20 (nI (s + 1)))) (fun r7 => Option.bind (f11_entry r7.1 (enS (tkS tn tb s)) 0) (fun r8 => f11_sum_L1 m r8.1))) := by
  have l := ot.1
  have sg := r_sg ot (by omega) hr h2
  have e1 : nI s + 1 = nI (s + 1) := nI_add s 1
  have rv := (rnk_v (tkS tn tb s)).2.1
  rw [f11_sum_L1, hf, if_pos rfl, sg]
  simp only [Option.bind_some]
  rw [h2, e1]
  refine ⟨fun y => ?_, fun y => ?_⟩
  · rw [if_neg (fun z => y (rv.mpr (Or.inl ((mk_add ot).mp z)))), if_neg (fun z => y (rv.mpr (Or.inr ((mk_sub ot).mp z))))]
  · rcases rv.mp y with z | z
    · have q := (mk_add ot).mpr z
      rw [if_pos q, if_pos q, z]; rfl
    · have q := (mk_sub ot).mpr z
      have q1 : ¬ sgv tn tb s = 43 := by rw [q]; decide
      rw [if_neg q1, if_pos q, if_neg q1, z]; rfl
theorem S7L (ot : TpOk tn tb) (hn : n ≤ 5) (hw : hk wt < 5) (hE : E.length ≤ cd.length + wt.length) : ∀ d p S X k pa L ex m, tn - p < d → K7 S0 S tn tb p 3 te co cl pa (cd ++ L) (ex ++ wt) → R7 X0 X tn tb (sk tn tb p) n (E ++ L ++ ex) ops deep pa → p ≤ tn → k ≤ p → (∀ x ∈ ex, 5 ≤ rnk x) → rnk (tkS tn tb (sk tn tb p)) < 6 → (∀ ts : List Bool, ts.length + 3 ≤ 60 → tky 60 (L ++ ex) ts = some (false :: ts)) → tn - p + 2 ≤ m → ∃ X1, f11_sum_L1 m X = some X1 ∧ O7 S0 X0 S X1 tn tb n k p te co cl cd wt E ops deep 5 5 3 false := by
  intro d
  induction d with
  | zero => intro p S X k pa L ex m h; omega
  | succ d ih =>
    intro p S X k pa L ex m hd hK hR hp hkp hex h6 hty hm
    have l := ot.1
    have hk2 := sk_le (tb := tb) hp
    obtain ⟨m, rfl⟩ : ∃ m', m = m' + 1 := ⟨m - 1, by omega⟩
    obtain ⟨t1, t2⟩ := s_step (m := m) ot hk2.2 hR.1.1 hR.1.2.1 hR.1.2.2
    by_cases c : rnk (tkS tn tb (sk tn tb p)) = 5
    · obtain ⟨S1, a1, a2⟩ := k7O ot hK hp hkp (by omega)
      rw [c, (rsd_ex (by omega) hex hw).1, (rsd_ex (by omega) hex hw).2] at a2
      have z3 := (rnk_v (tkS tn tb (sk tn tb p))).2.1.mp c
      have te1 : tkE tn tb (sk tn tb p) = sk tn tb p + 1 ∧ sk tn tb p < tn := tk_m (by rcases z3 with z | z <;> rw [z] <;> decide)
      rw [te1.1] at a2
      have R1 := hR.mv (p' := sk tn tb p + 1)
      have b1 := a2.2.b (by omega)
      have b1' := b1
      simp only [List.length_append, List.length_cons] at b1
      obtain ⟨Xt, w1, w2⟩ := T7 (k := k + 1) (cd := cd ++ L ++ ex) (wt := tkS tn tb (sk tn tb p) :: wt) (E := E ++ L ++ ex) ot hn (by show rnk _ < 6; omega) (by simp only [List.length_append, List.length_cons]; omega) b1'.1 (k7V (k := k + 1) ot a2 (by omega) (by omega)) R1 (by omega) (by omega) a2.2.2.2.1
      rw [t2 c, w1, Option.bind_some]
      dsimp only
      rcases w2 with ⟨f, S', f1, f2, f3, f4, f5⟩ | ⟨S', k', p1, pa', L2, ex2, g1, g2, g3, g4, g5, gp, g6, g7, g8⟩
      · rw [r_entF f5 f1 f2, Option.bind_some]
        dsimp only
        obtain ⟨m, rfl⟩ : ∃ m', m = m' + 1 := ⟨m - 1, by omega⟩
        rw [f11_sum_L1, if_neg (by rw [f5.2.2.1]; exact fun z => f1 (nI_j (b := 0) f2 (by omega) z))]
        exact ⟨Xt, rfl, Or.inl ⟨f, S', f1, f2, a1.trans f3, f4, f5⟩⟩
      · have b2 := g2.2.b (by omega)
        simp only [List.length_append, List.length_cons] at b2
        obtain ⟨-, en⟩ := ty_a (x := tkS tn tb (sk tn tb p)) (ts := []) (Or.inr c)
        obtain ⟨X3, x1, x2⟩ := r_ent (x := tkS tn tb (sk tn tb p)) (k := enS (tkS tn tb (sk tn tb p))) (y := 0) g3 (by simp only [List.length_append]; omega) hn rfl en.symm
        rw [x1, Option.bind_some]
        dsimp only
        obtain ⟨X5, z1, z2⟩ := ih p1 S' X3 k' pa' (L ++ ex ++ L2) (ex2 ++ [tkS tn tb (sk tn tb p)]) m (by omega) (by
          have e1 : cd ++ (L ++ ex ++ L2) = cd ++ L ++ ex ++ L2 := by simp only [List.append_assoc]
          have e2 : ex2 ++ [tkS tn tb (sk tn tb p)] ++ wt = ex2 ++ tkS tn tb (sk tn tb p) :: wt := by simp only [List.append_assoc, List.cons_append, List.nil_append]
          rw [e1, e2]; exact g2) (by
          have : E ++ (L ++ ex ++ L2) ++ (ex2 ++ [tkS tn tb (sk tn tb p)]) = E ++ L ++ ex ++ L2 ++ ex2 ++ [tkS tn tb (sk tn tb p)] := by simp only [List.append_assoc]
          rw [this]; exact x2) g5 g4 (fun x hx => by
          rcases List.mem_append.mp hx with hx | hx
          · have := g6 x hx; omega
          · rw [List.mem_singleton] at hx; rw [hx]; omega) g7 (fun ts hts => by
          have e : L ++ ex ++ L2 ++ (ex2 ++ [tkS tn tb (sk tn tb p)]) = (L ++ ex) ++ (L2 ++ ex2) ++ [tkS tn tb (sk tn tb p)] := by simp only [List.append_assoc]
          rw [e]
          refine tky_app (u := false :: false :: ts) ?_ (ty_a (Or.inr c)).1
          exact tky_app (u := false :: ts) (hty ts hts) (g8 (false :: ts) (by simp only [List.length_cons]; omega))) (by omega)
        refine ⟨X5, z1, ?_⟩
        rcases z2 with ⟨f, S2, f1, f2, f3, f4, f5⟩ | ⟨S2, k2, p2, pa2, L', ex', h1, h2, h3, h4, h5, hp', h6'⟩
        · exact Or.inl ⟨f, S2, f1, f2, (a1.trans g1).trans f3, f4, f5⟩
        · exact Or.inr ⟨S2, k2, p2, pa2, L', ex', (a1.trans g1).trans h1, h2, h3, h4, h5, by omega, h6'⟩
    · rw [t1 c]
      exact ⟨X, rfl, Or.inr ⟨S, k, p, pa, L, ex, rfl, hK, hR, hkp, hp, Nat.le_refl _, hex, by omega, hty⟩⟩
theorem S7 (ot : TpOk tn tb) (hn : n ≤ 5) (hw : hk wt < 5) (hE : E.length ≤ cd.length + wt.length) (hcd : cd.length + wt.length ≤ 275) {p : Nat} {S X : jS} {k pa : Nat} (hH : HV S0 S tn tb p k te co cl pa cd wt) (hR : R7 X0 X tn tb p n E ops deep pa) (hp : p ≤ tn) (hkp : k ≤ p) (hpa : pa ≤ 60) : ∃ X1, f11_sum X = some (X1, ()) ∧ O7 S0 X0 S X1 tn tb n k (p + 1) te co cl cd wt E ops deep 5 5 3 false := by
  have hF : jF = 4999 + 1 := rfl
  have l := ot.1
  obtain ⟨Xt, w1, w2⟩ := T7 ot hn (by omega) hE hcd hH hR hp hkp hpa
  unfold f11_sum
  rw [w1, Option.bind_some]
  dsimp only
  rcases w2 with ⟨f, S', f1, f2, f3, f4, f5⟩ | ⟨S', k', p1, pa', L2, ex2, g1, g2, g3, g4, g5, gp, g6, g7, g8⟩
  · rw [hF, f11_sum_L1, if_neg (by rw [f5.2.2.1]; exact fun z => f1 (nI_j (b := 0) f2 (by omega) z)), Option.bind_some]
    exact ⟨Xt, rfl, Or.inl ⟨f, S', f1, f2, f3, f4, f5⟩⟩
  · obtain ⟨X5, z1, z2⟩ := S7L (cd := cd) (wt := wt) (E := E) ot hn hw hE (tn + 1) p1 S' Xt k' pa' L2 ex2 jF (by omega) g2 g3 g5 g4 (fun x hx => by have := g6 x hx; omega) g7 (fun ts hts => g8 ts (by omega)) (by unfold jF; omega)
    rw [z1, Option.bind_some]
    refine ⟨X5, rfl, ?_⟩
    rcases z2 with ⟨f, S2, f1, f2, f3, f4, f5⟩ | ⟨S2, k2, p2, pa2, L', ex', h1, h2, h3, h4, h5, hp', h6'⟩
    · exact Or.inl ⟨f, S2, f1, f2, g1.trans f3, f4, f5⟩
    · exact Or.inr ⟨S2, k2, p2, pa2, L', ex', g1.trans h1, h2, h3, h4, h5, by omega, h6'⟩
end
