/-! tests: both -/
theorem gw_app : ∀ {a w : List Int32}, gw (a ++ w) → gw w := by
  intro a
  induction a with
  | nil => intro w h; exact h
  | cons x u ih => intro w h; exact ih h.1
theorem cn_app : ∀ {a w : List Int32}, cn w ≤ cn (a ++ w) := by
  intro a
  induction a with
  | nil => intro w; exact Nat.le_refl _
  | cons x u ih =>
    intro w
    rw [List.cons_append, cn]
    have := ih (w := w)
    omega
/-- the outcome of a test -/
def OT (S0 X0 S X1 : jS) (tn : Nat) (tb : Nat → Nat) (n k p0 cl : Nat) (cd E : List Int32) : Prop :=
  (∃ f S', f ≠ 0 ∧ f < 2 ^ 31 ∧ r7 S k = some (S', nI f) ∧ fC S0 S' ∧ RF7 X0 X1 tn tb n f) ∨
  (∃ S' k' p1 pa' st L w, r7 S k = r7 S' k' ∧ K7 S0 S' tn tb p1 st 1 1 cl pa' (cd ++ L) w ∧ ((st = 3 ∧ rnk (tkS tn tb (sk tn tb p1)) < 5) ∨ st = 4) ∧ rsd 1 w = [] ∧ R7 X0 X1 tn tb (sk tn tb p1) n (E ++ L ++ pop 1 w) [] 0 pa' ∧ k' ≤ p1 ∧ p1 ≤ tn ∧ p0 ≤ p1 ∧ (tkS tn tb (sk tn tb p1) ≠ -21 ∧ tkS tn tb (sk tn tb p1) ≠ -22) ∧ tky 60 (L ++ pop 1 w) [] = some [true])
theorem OT.tr {S0 X0 S S1 X1 : jS} {tn : Nat} {tb : Nat → Nat} {n k k1 p0 p1 cl : Nat} {cd E : List Int32} (e : r7 S k = r7 S1 k1) (hp : p0 ≤ p1) (h : OT S0 X0 S1 X1 tn tb n k1 p1 cl cd E) : OT S0 X0 S X1 tn tb n k p0 cl cd E := by
  rcases h with ⟨f, S', f1, f2, f3, f4, f5⟩ | ⟨S', k', p2, pa', st, L, w, g1, g2, g3, g4, g5, g6, g7, g8, g9⟩
  · exact Or.inl ⟨f, S', f1, f2, e.trans f3, f4, f5⟩
  · exact Or.inr ⟨S', k', p2, pa', st, L, w, e.trans g1, g2, g3, g4, g5, g6, g7, by omega, g9⟩
theorem test_F {X0 X : jS} {tn : Nat} {tb : Nat → Nat} {n m f : Nat} {a : Int32} (h : RF7 X0 X tn tb n f) (hf : f ≠ 0) (hf2 : f < 2 ^ 31) : f11_test_L1 (m + 1) X a 1 = some X := by
  rw [f11_test_L1, if_neg (by decide), if_neg (h.ne hf hf2)]
section
variable {S0 X0 : jS} {tn : Nat} {tb : Nat → Nat} {n : Nat} {cl : Nat} {cd E : List Int32}
def PW (S0 X0 : jS) (tn : Nat) (tb : Nat → Nat) (n cl : Nat) (cd E : List Int32) (d : Nat) : Prop := ∀ p S X k pa co L wt m, tn - p < d → K7 S0 S tn tb p 1 1 co cl pa (cd ++ L) wt → R7 X0 X tn tb p n (E ++ L) (wt.map opc) (cn wt) pa → p ≤ tn → k ≤ p → tw wt → tky 60 L [] = some (opT wt) → tn - p + 4 ≤ m → ∃ X1, f11_test_L1 m X 1 1 = some X1 ∧ OT S0 X0 S X1 tn tb n k p cl cd E
def PN (S0 X0 : jS) (tn : Nat) (tb : Nat → Nat) (n cl : Nat) (cd E : List Int32) (d : Nat) : Prop := ∀ p q S X k pa st L ex wt m, tn - p < d → K7 S0 S tn tb p st 1 1 cl pa (cd ++ L) (ex ++ wt) → ((st = 3 ∧ rnk (tkS tn tb (sk tn tb p)) < 5) ∨ st = 4) → R7 X0 X tn tb q n (E ++ L ++ ex) (wt.map opc) (cn wt) pa → sk tn tb q = sk tn tb p → q ≤ tn → p ≤ tn → k ≤ p → (∀ x ∈ ex, 4 ≤ rnk x) → tw wt → tky 60 (L ++ ex) [] = some (true :: opT wt) → tn - p + 4 ≤ m → ∃ X1, f11_test_L1 m X 0 1 = some X1 ∧ OT S0 X0 S X1 tn tb n k p cl cd E
theorem pW (ot : TpOk tn tb) (hn : n ≤ 5) (hE : E.length ≤ cd.length) {d : Nat} (ihW : PW S0 X0 tn tb n cl cd E d) (ihN : PN S0 X0 tn tb n cl cd E d) : PW S0 X0 tn tb n cl cd E (d + 1) := by
  intro p S X k pa co L wt m hd hK hR hp hkp ht hty hm
  have l := ot.1
  have hk2 := sk_le (tb := tb) hp
  obtain ⟨m, rfl⟩ : ∃ m', m = m' + 1 := ⟨m - 1, by omega⟩
  have b := hK.2.b (by omega)
  have b' := b
  simp only [List.length_append] at b
  obtain ⟨Xb, b1, b2, b3⟩ := r_blk ot (by omega) hR.1.1 hR.1.2.1
  have Rb := hR.mv' b3 b2
  have st := st_q (X := Xb) (q := (10, -23)) ot (by decide) (by omega) Rb.1.1 b2
  dsimp only at st
  obtain ⟨c1, c2, c3⟩ := k7F ot hK hp hkp (tw_hk ht)
  have hcn := hK.2.2.1
  have lm : (wt.map opc).length = wt.length := List.length_map _
  rw [f11_test_L1, if_neg (by decide), hR.1.2.2, if_pos rfl, if_neg (by decide)]
  unfold f11_fact
  rw [b1, Option.bind_some]
  dsimp only
  rw [st, Option.bind_some, r_sg ot (by omega) Rb.1.1 b2]
  by_cases c23 : tkS tn tb (sk tn tb p) = -23
  · obtain ⟨o1, o2⟩ := r_opn1 (o := 9) Rb (Or.inl rfl) (by omega) hk2.2 hcn
    have hte := (tk_w (q := (10, -23)) ot (by decide) c23)
    have hj : jlen.getD 10 0 = 3 := by decide
    dsimp only at hte
    rw [hj] at hte
    have hst := tk_step (tb := tb) hte.2
    have e3 : nI (sk tn tb p) + 3 = nI (tkE tn tb (sk tn tb p)) := by rw [hte.1]; exact nI_add _ 3
    rw [if_pos c23, if_neg (by decide)]
    by_cases d10 : cn wt < 10
    · obtain ⟨X1, x1, x2⟩ := o1 d10
      obtain ⟨S1, s1, s2⟩ := c1 (Or.inr c23) d10
      rw [x1, Option.bind_some]
      dsimp only
      rw [x2.1.2.1, e3, Option.bind_some, if_pos rfl]
      have R2 := x2.mv (p' := tkE tn tb (sk tn tb p))
      rw [c23] at s2
      obtain ⟨X5, z1, z2⟩ := ihW (tkE tn tb (sk tn tb p)) S1 _ (k + 1) pa 0 L (-23 :: wt) m (by omega) s2 R2 hst.2 (by omega) (fun x hx => by
        rcases List.mem_cons.mp hx with hx | hx
        · rw [hx]; exact Or.inr (Or.inr (Or.inl rfl))
        · exact ht x hx) hty (by omega)
      exact ⟨X5, z1, z2.tr s1 (by omega)⟩
    · obtain ⟨X1, x1, x2, x3⟩ := o2 (by omega)
      obtain ⟨S1, s1, s2⟩ := c2 (Or.inr c23) (by omega)
      rw [x1, Option.bind_some]
      dsimp only
      rw [x3, e3, Option.bind_some]
      dsimp only
      have F := x2.mv (p' := tkE tn tb (sk tn tb p)) (by omega)
      obtain ⟨m, rfl⟩ : ∃ m', m = m' + 1 := ⟨m - 1, by omega⟩
      rw [test_F F (by omega) (by omega)]
      exact ⟨_, rfl, Or.inl ⟨_, S1, by omega, by omega, s1, s2, F⟩⟩
  · rw [if_neg c23, if_pos rfl, Option.bind_some]
    by_cases c26 : tkS tn tb (sk tn tb p) = -26
    · obtain ⟨o1, o2⟩ := r_opn1 (o := 12) Rb (Or.inr rfl) (by omega) hk2.2 hcn
      have hte : tkE tn tb (sk tn tb p) = sk tn tb p + 1 ∧ sk tn tb p < tn := tk_m (by rw [c26]; decide)
      have hst := tk_step (tb := tb) hte.2
      have e3 : nI (sk tn tb p) + 1 = nI (tkE tn tb (sk tn tb p)) := by rw [hte.1]; exact nI_add _ 1
      rw [if_pos ((mk_opn ot).mpr c26)]
      by_cases d10 : cn wt < 10
      · obtain ⟨X1, x1, x2⟩ := o1 d10
        obtain ⟨S1, s1, s2⟩ := c1 (Or.inl c26) d10
        rw [x1, Option.bind_some]
        dsimp only
        rw [x2.1.2.1, e3, Option.bind_some, if_pos rfl]
        have R2 := x2.mv (p' := tkE tn tb (sk tn tb p))
        rw [c26] at s2
        obtain ⟨X5, z1, z2⟩ := ihW (tkE tn tb (sk tn tb p)) S1 _ (k + 1) pa 0 L (-26 :: wt) m (by omega) s2 R2 hst.2 (by omega) (fun x hx => by
          rcases List.mem_cons.mp hx with hx | hx
          · rw [hx]; exact Or.inr (Or.inr (Or.inr rfl))
          · exact ht x hx) hty (by omega)
        exact ⟨X5, z1, z2.tr s1 (by omega)⟩
      · obtain ⟨X1, x1, x2, x3⟩ := o2 (by omega)
        obtain ⟨S1, s1, s2⟩ := c2 (Or.inl c26) (by omega)
        rw [x1, Option.bind_some]
        dsimp only
        rw [x3, e3, Option.bind_some]
        dsimp only
        have F := x2.mv (p' := tkE tn tb (sk tn tb p)) (by omega)
        obtain ⟨m, rfl⟩ : ∃ m', m = m' + 1 := ⟨m - 1, by omega⟩
        rw [test_F F (by omega) (by omega)]
        exact ⟨_, rfl, Or.inl ⟨_, S1, by omega, by omega, s1, s2, F⟩⟩
    · rw [if_neg (fun z => c26 ((mk_opn ot).mp z))]
      have hh := c3 (by rintro (z | z); (· exact c26 z); (· exact c23 z))
      have e : sk tn tb (sk tn tb p) = sk tn tb p := run_id hp
      have hHV : HV S0 S tn tb (sk tn tb p) k 1 0 cl pa (cd ++ L) wt := by unfold HV; rw [e]; exact hh
      obtain ⟨X1, x1, x2⟩ := Q7 (cd := cd ++ L) (wt := wt) (E := E ++ L) ot hn (by have := tw_hk ht; omega) (by simp only [List.length_append]; omega) b'.1 hHV Rb hk2.2 (by omega) hK.2.2.2.1
      rw [x1, Option.bind_some, Option.bind_some]
      dsimp only
      rw [if_neg (by decide)]
      rcases x2 with ⟨f, S', f1, f2, f3, f4, f5⟩ | ⟨S', k', p1, pa', L2, ex2, g1, g2, g3, g4, g5, gp, g6, g7, g8⟩
      · obtain ⟨m, rfl⟩ : ∃ m', m = m' + 1 := ⟨m - 1, by omega⟩
        rw [test_F f5 f1 f2]
        exact ⟨_, rfl, Or.inl ⟨f, S', f1, f2, f3, f4, f5⟩⟩
      · have hk3 := sk_le (tb := tb) g5
        have ol := opT_len (w := wt)
        obtain ⟨X5, z1, z2⟩ := ihN p1 (sk tn tb p1) S' X1 k' pa' 3 (L ++ L2) ex2 wt m (by omega) (by
          have : cd ++ (L ++ L2) = cd ++ L ++ L2 := by simp only [List.append_assoc]
          rw [this]; exact g2) (Or.inl ⟨rfl, g7⟩) (by
          have : E ++ (L ++ L2) ++ ex2 = E ++ L ++ L2 ++ ex2 := by simp only [List.append_assoc]
          rw [this]; exact g3) (run_id g5) hk3.2 g5 g4 g6 ht (by
          rw [List.append_assoc]
          exact tky_app hty (g8 (opT wt) (by omega))) (by omega)
        exact ⟨X5, z1, z2.tr g1 (by omega)⟩
end
