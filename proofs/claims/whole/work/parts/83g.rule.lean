/-! comparisons: both -/
theorem ty_c {x : Int32} {ts : List Bool} (h : rnk x = 4) : tky 60 [x] (false :: false :: ts) = some (true :: ts) ∧ enN x = 0 := by
  rcases (rnk_v x).2.2.1.mp h with h | h | h | h | h <;> subst h <;> refine ⟨?_, by decide⟩ <;> rw [tky, if_neg (by decide), if_neg (by decide), if_neg (by decide), if_pos (by decide), tky]
/-- what a comparison does behind its first sum -/
def cmpR (r1 : jS) (r2 : Int32) : Option (jS × Unit) := (if r2 = 60 then Option.bind (f11_isCounted r1 (r1.1 0 20)) (fun r3 => Option.bind (if r2 = 61 then some 0 else Option.bind (f11_sign (wI r3.1 0 20 ((r3.1.1 0 20) + 1))) (fun r4 => (if r4 = 61 then some 1 else some 0))) (fun (y5 : Int32) => Option.bind (f11_sum (wI (wI r3.1 0 20 ((r3.1.1 0 20) + 1)) 0 20 (((wI r3.1 0 20 ((r3.1.1 0 20) + 1)).1 0 20) + (((if y5 = 0 then 0 else 1) : Int32))))) (fun r6 => Option.bind (if r2 = 61 then some 6 else (if r2 = 60 then (if y5 = 0 then some 4 else some 5) else (if y5 = 0 then some 8 else some 7))) (fun (y7 : Int32) => Option.bind (f11_entry r6.1 y7 0) (fun r8 => some (r8.1, ())))))) else (if r2 = 61 then Option.bind (f11_isCounted r1 (r1.1 0 20)) (fun r9 => Option.bind (if r2 = 61 then some 0 else Option.bind (f11_sign (wI r9.1 0 20 ((r9.1.1 0 20) + 1))) (fun r10 => (if r10 = 61 then some 1 else some 0))) (fun (y11 : Int32) => Option.bind (f11_sum (wI (wI r9.1 0 20 ((r9.1.1 0 20) + 1)) 0 20 (((wI r9.1 0 20 ((r9.1.1 0 20) + 1)).1 0 20) + (((if y11 = 0 then 0 else 1) : Int32))))) (fun r12 => Option.bind (if r2 = 61 then some 6 else (if r2 = 60 then (if y11 = 0 then some 4 else some 5) else (if y11 = 0 then some 8 else some 7))) (fun (y13 : Int32) => Option.bind (f11_entry r12.1 y13 0) (fun r14 => some (r14.1, ())))))) else (if r2 = 62 then Option.bind (f11_isCounted r1 (r1.1 0 20)) (fun r15 => Option.bind (if r2 = 61 then some 0 else Option.bind (f11_sign (wI r15.1 0 20 ((r15.1.1 0 20) + 1))) (fun r16 => (if r16 = 61 then some 1 else some 0))) (fun (y17 : Int32) => Option.bind (f11_sum (wI (wI r15.1 0 20 ((r15.1.1 0 20) + 1)) 0 20 (((wI r15.1 0 20 ((r15.1.1 0 20) + 1)).1 0 20) + (((if y17 = 0 then 0 else 1) : Int32))))) (fun r18 => Option.bind (if r2 = 61 then some 6 else (if r2 = 60 then (if y17 = 0 then some 4 else some 5) else (if y17 = 0 then some 8 else some 7))) (fun (y19 : Int32) => Option.bind (f11_entry r18.1 y19 0) (fun r20 => some (r20.1, ())))))) else Option.bind (f11_fails r1 0 (r1.1 0 20)) (fun r21 => some (r21.1, ())))))
theorem cmp_eq (X : jS) : f11_compared X = Option.bind (f11_sum X) (fun r1 => Option.bind (f11_sign r1.1) (fun r2 => cmpR r1.1 r2)) := rfl
section
variable {S0 X0 : jS} {tn : Nat} {tb : Nat → Nat} {n : Nat} {te co : Int32} {cl : Nat} {cd wt E ops : List Int32} {deep : Nat}
theorem cmp_step (ot : TpOk tn tb) {X X3 : jS} {s : Nat} (hs : s ≤ tn + 1) (h2 : X.1 0 20 = nI s) :
    (rnk (tkS tn tb s) ≠ 4 → cmpR X (sgv tn tb s) = Option.bind (f11_fails X 0 (nI s)) (fun r21 => some (r21.1, ()))) ∧
    (rnk (tkS tn tb s) = 4 → f11_isCounted X (nI s) = some (X3, ()) → RTp X3 tn tb → X3.1 0 20 = nI s → cmpR X (sgv tn tb s) = Option.bind (f11_sum (wI (wI X3 0 20 (nI (s + 1))) 0 20 (nI (tkE tn tb s)))) (fun r6 => Option.bind (f11_entry r6.1 (enS (tkS tn tb s)) 0) (fun r8 => some (r8.1, ())))) := by
  have l := ot.1
  have rv := (rnk_v (tkS tn tb s)).2.2.1
  have m1 := (mk_60 (s := s) ot).1
  have m2 := (mk_60 (s := s) ot).2
  have m3 := mk_same (s := s) ot
  refine ⟨fun y => ?_, fun y hc hr hp => ?_⟩
  · unfold cmpR
    rw [if_neg (fun z => y (rv.mpr (by rcases m1.mp z with w | w; (· exact Or.inl w); (· exact Or.inr (Or.inl w))))), if_neg (fun z => y (rv.mpr (Or.inr (Or.inr (Or.inl (m3.mp z)))))), if_neg (fun z => y (rv.mpr (by rcases m2.mp z with w | w; (· exact Or.inr (Or.inr (Or.inr (Or.inr w)))); (· exact Or.inr (Or.inr (Or.inr (Or.inl w))))))), h2]
  · have e1 : nI s + 1 = nI (s + 1) := nI_add s 1
    have e2 : nI (s + 1) + 1 = nI (s + 2) := nI_add (s + 1) 1
    have e0 : nI (s + 1) + 0 = nI (s + 1) := nI_add (s + 1) 0
    have sg1 : f11_sign (wI X3 0 20 (nI (s + 1))) = some (sgv tn tb (s + 1)) := r_sg ot (by omega) (hr.w (by omega) (by omega)) (wI_self _ _ _ _)
    have m61 := mk_61 (s := s) ot
    have w20 : (wI X3 0 20 (nI (s + 1))).1 0 20 = nI (s + 1) := wI_self _ _ _ _
    unfold cmpR
    rw [h2, hc]
    simp only [Option.bind_some]
    rw [hp, e1, sg1]
    simp only [Option.bind_some, w20]
    rcases rv.mp y with z | z | z | z | z
    · have q := m1.mpr (Or.inl z)
      have n1 : ¬ sgv tn tb (s + 1) = 61 := fun w => by rcases (m61 (Or.inl q)).mp w with w | w <;> rw [z] at w <;> exact absurd w (by decide)
      have te1 : tkE tn tb s = s + 1 := (tk_m (by rw [z]; decide)).1
      rw [if_pos q, q, if_neg (by decide), if_neg n1, te1, z]
      simp only [Option.bind_some, if_pos, e0]
      rfl
    · have q := m1.mpr (Or.inr z)
      have n1 : sgv tn tb (s + 1) = 61 := (m61 (Or.inl q)).mpr (Or.inl z)
      have te1 : tkE tn tb s = s + 2 := (tk_2 (Or.inl z)).1
      rw [if_pos q, q, if_neg (by decide), if_pos n1, te1, z, Option.bind_some, if_neg (show ¬ (1 : Int32) = 0 by decide), e2]
      rfl
    · have q := m3.mpr z
      have te1 : tkE tn tb s = s + 1 := (tk_m (by rw [z]; decide)).1
      rw [if_neg (by rw [q]; decide), if_pos q, q, if_pos rfl, te1, z]
      simp only [Option.bind_some, if_pos, e0]
      rfl
    · have q := m2.mpr (Or.inr z)
      have n1 : sgv tn tb (s + 1) = 61 := (m61 (Or.inr q)).mpr (Or.inr z)
      have te1 : tkE tn tb s = s + 2 := (tk_2 (Or.inr z)).1
      rw [if_neg (by rw [q]; decide), if_neg (by rw [q]; decide), if_pos q, q, if_neg (by decide), if_pos n1, te1, z, Option.bind_some, if_neg (show ¬ (1 : Int32) = 0 by decide), e2]
      rfl
    · have q := m2.mpr (Or.inl z)
      have n1 : ¬ sgv tn tb (s + 1) = 61 := fun w => by rcases (m61 (Or.inr q)).mp w with w | w <;> rw [z] at w <;> exact absurd w (by decide)
      have te1 : tkE tn tb s = s + 1 := (tk_m (by rw [z]; decide)).1
      rw [if_neg (by rw [q]; decide), if_neg (by rw [q]; decide), if_pos q, q, if_neg (by decide), if_neg n1, te1, z]
      simp only [Option.bind_some, if_pos, e0]
      rfl
theorem RF7.ne {X : jS} {f : Nat} (h : RF7 X0 X tn tb n f) (hf : f ≠ 0) (hf2 : f < 2 ^ 31) : X.1 0 21 ≠ 0 := by rw [h.2.2.1]; exact fun z => hf (nI_j (b := 0) hf2 (by omega) z)
theorem r_fltF {X : jS} {f : Nat} {x y : Int32} (h : RF7 X0 X tn tb n f) (hf : f ≠ 0) (hf2 : f < 2 ^ 31) : ∃ X1, f11_fails X x y = some (X1, ()) ∧ RF7 X0 X1 tn tb n f := by
  have hne := h.ne hf hf2
  refine ⟨wI X 0 21 (X.1 0 21), by unfold f11_fails; rw [if_neg hne], ?_⟩
  obtain ⟨a1, ⟨q, a2, a3⟩, a4, a5, a6⟩ := h
  exact ⟨a1.w (by omega) (by omega), ⟨q, a2, by rw [wI_nj (by omega)]; exact a3⟩, by rw [wI_self]; exact a4, by rw [wI_nj (by omega)]; exact a5, a6.w (by omega)⟩
theorem cmpF (ot : TpOk tn tb) {X : jS} {f : Nat} (h : RF7 X0 X tn tb n f) (hf : f ≠ 0) (hf2 : f < 2 ^ 31) : ∃ X1, Option.bind (f11_sign X) (fun r2 => cmpR X r2) = some (X1, ()) ∧ RF7 X0 X1 tn tb n f := by
  have l := ot.1
  obtain ⟨s, s1, s2⟩ := h.2.1
  rw [r_sg ot (by omega) h.1 s2, Option.bind_some]
  obtain ⟨X3, c1, c2, c3⟩ := r_cntF (x := nI s) h hf hf2
  obtain ⟨t1, t2⟩ := cmp_step (X3 := X3) ot s1 s2
  by_cases c : rnk (tkS tn tb s) = 4
  · have hlt : s < tn := by
      apply Classical.byContradiction
      intro g
      have := (tk_end (tb := tb)).mp (show tn ≤ s by omega)
      rw [this] at c; exact absurd c (by decide)
    rw [t2 c c1 c2.1 (c3.trans s2)]
    have F := (c2.mv (p' := s + 1) (by omega)).mv (p' := tkE tn tb s) (tkE_1 (by omega))
    obtain ⟨X4, d1, d2⟩ := r_sumF ot F hf hf2
    rw [d1, Option.bind_some]
    dsimp only
    rw [r_entF d2 hf hf2, Option.bind_some]
    exact ⟨X4, rfl, d2⟩
  · rw [t1 c]
    obtain ⟨X4, d1, d2⟩ := r_fltF (x := 0) (y := nI s) h hf hf2
    rw [d1, Option.bind_some]
    exact ⟨X4, rfl, d2⟩
theorem Q7 (ot : TpOk tn tb) (hn : n ≤ 5) (hw : hk wt < 4) (hE : E.length ≤ cd.length + wt.length) (hcd : cd.length + wt.length ≤ 275) {p : Nat} {S X : jS} {k pa : Nat} (hH : HV S0 S tn tb p k 1 0 cl pa cd wt) (hR : R7 X0 X tn tb p n E ops deep pa) (hp : p ≤ tn) (hkp : k ≤ p) (hpa : pa ≤ 60) : ∃ X1, f11_compared X = some (X1, ()) ∧ O7 S0 X0 S X1 tn tb n k (p + 1) 1 1 cl cd wt E ops deep 4 5 4 true := by
  have l := ot.1
  obtain ⟨Xs, w1, w2⟩ := S7 ot hn (by omega) hE hcd hH hR hp hkp hpa
  rw [cmp_eq, w1, Option.bind_some]
  dsimp only
  rcases w2 with ⟨f, S', f1, f2, f3, f4, f5⟩ | ⟨S', k', p1, pa', L, ex, g1, g2, g3, g4, g5, gp, g6, g7, g8⟩
  · obtain ⟨X1, x1, x2⟩ := cmpF ot f5 f1 f2
    exact ⟨X1, x1, Or.inl ⟨f, S', f1, f2, f3, f4, x2⟩⟩
  · have hk2 := sk_le (tb := tb) g5
    obtain ⟨c1, c2, c3⟩ := k7C ot g2 g5 g4 g7
    rw [r_sg ot (by omega) g3.1.1 g3.1.2.1, Option.bind_some]
    have hr4 : pop 4 (ex ++ wt) = ex ∧ rsd 4 (ex ++ wt) = wt := by
      have := rsd_ex (r := 4) (by omega) (fun x hx => by have := g6 x hx; omega) hw
      exact ⟨this.2, this.1⟩
    by_cases c : rnk (tkS tn tb (sk tn tb p1)) = 4
    · obtain ⟨u1, u2⟩ := r_cnt (s := sk tn tb p1) g3 (by omega) g2.2.2.2.1
      by_cases h60 : pa' < 60
      · obtain ⟨X3, x1, x2⟩ := u1 h60
        obtain ⟨S2, s1, s2⟩ := c3 c h60
        rw [hr4.1, hr4.2] at s2
        rw [(cmp_step (X3 := X3) ot (by omega) g3.1.2.1).2 c x1 x2.1.1 x2.1.2.1]
        have hlt : sk tn tb p1 < tn := by
          apply Classical.byContradiction
          intro g
          have := (tk_end (tb := tb)).mp (show tn ≤ sk tn tb p1 by omega)
          rw [this] at c; exact absurd c (by decide)
        have hst := tk_step (tb := tb) hlt
        have R4 := (x2.mv (p' := sk tn tb p1 + 1)).mv (p' := tkE tn tb (sk tn tb p1))
        have b1 := s2.2.b (by omega)
        have b1' := b1
        simp only [List.length_append, List.length_cons] at b1
        obtain ⟨X5, y1, y2⟩ := S7 (k := k' + 1) (cd := cd ++ L ++ ex) (wt := tkS tn tb (sk tn tb p1) :: wt) (E := E ++ L ++ ex) ot hn (by show rnk _ < 5; omega) (by simp only [List.length_append, List.length_cons]; omega) b1'.1 (k7V (k := k' + 1) ot s2 hst.2 (by omega)) R4 hst.2 (by omega) s2.2.2.2.1
        rw [y1, Option.bind_some]
        dsimp only
        rcases y2 with ⟨f, S3, f1, f2, f3, f4, f5⟩ | ⟨S3, k3, p3, pa3, L2, ex2, h1, h2, h3, h4, h5, hp', h6, h7, h8⟩
        · rw [r_entF f5 f1 f2, Option.bind_some]
          exact ⟨X5, rfl, Or.inl ⟨f, S3, f1, f2, (g1.trans s1).trans f3, f4, f5⟩⟩
        · have b2 := h2.2.b (by omega)
          simp only [List.length_append, List.length_cons] at b2
          obtain ⟨-, en⟩ := ty_c (x := tkS tn tb (sk tn tb p1)) (ts := []) c
          obtain ⟨X6, z1, z2⟩ := r_ent (x := tkS tn tb (sk tn tb p1)) (k := enS (tkS tn tb (sk tn tb p1))) (y := 0) h3 (by simp only [List.length_append]; omega) hn rfl en.symm
          rw [z1, Option.bind_some]
          refine ⟨X6, rfl, Or.inr ⟨S3, k3, p3, pa3, L ++ ex ++ L2, ex2 ++ [tkS tn tb (sk tn tb p1)], (g1.trans s1).trans h1, ?_, ?_, h4, h5, by omega, fun x hx => ?_, h7, fun ts hts => ?_⟩⟩
          · have e1 : cd ++ (L ++ ex ++ L2) = cd ++ L ++ ex ++ L2 := by simp only [List.append_assoc]
            have e2 : ex2 ++ [tkS tn tb (sk tn tb p1)] ++ wt = ex2 ++ tkS tn tb (sk tn tb p1) :: wt := by simp only [List.append_assoc, List.cons_append, List.nil_append]
            rw [e1, e2]; exact h2
          · have : E ++ (L ++ ex ++ L2) ++ (ex2 ++ [tkS tn tb (sk tn tb p1)]) = E ++ L ++ ex ++ L2 ++ ex2 ++ [tkS tn tb (sk tn tb p1)] := by simp only [List.append_assoc]
            rw [this]; exact z2
          · rcases List.mem_append.mp hx with hx | hx
            · have := h6 x hx; omega
            · rw [List.mem_singleton] at hx; rw [hx]; omega
          · have e : L ++ ex ++ L2 ++ (ex2 ++ [tkS tn tb (sk tn tb p1)]) = (L ++ ex) ++ (L2 ++ ex2) ++ [tkS tn tb (sk tn tb p1)] := by simp only [List.append_assoc]
            rw [e]
            refine tky_app (u := false :: false :: ts) ?_ (ty_c c).1
            exact tky_app (u := false :: ts) (g8 ts (by omega)) (h8 (false :: ts) (by simp only [List.length_cons]; omega))
      · obtain ⟨X3, x1, x2, x3⟩ := u2 (by have := g2.2.2.2.1; omega)
        obtain ⟨S2, s1, s2⟩ := c2 c (by have := g2.2.2.2.1; omega)
        rw [(cmp_step (X3 := X3) ot (by omega) g3.1.2.1).2 c x1 x2.1 x3]
        have F := (x2.mv (p' := sk tn tb p1 + 1) (by omega)).mv (p' := tkE tn tb (sk tn tb p1)) (tkE_1 (by omega))
        obtain ⟨X4, d1, d2⟩ := r_sumF ot F (by omega) (by omega)
        rw [d1, Option.bind_some]
        dsimp only
        rw [r_entF d2 (by omega) (by omega), Option.bind_some]
        exact ⟨X4, rfl, Or.inl ⟨_, S2, by omega, by omega, g1.trans s1, s2, d2⟩⟩
    · obtain ⟨S2, s1, s2⟩ := c1 c
      rw [(cmp_step (X3 := Xs) ot (by omega) g3.1.2.1).1 c, r_flt (x := 0) (e := 0) rfl, Option.bind_some, g3.1.2.2, if_pos rfl]
      exact ⟨_, rfl, Or.inl ⟨_, S2, by omega, by omega, g1.trans s1, s2, g3.flt (p' := 0) (by omega)⟩⟩
end
