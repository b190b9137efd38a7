/-! a clause of a rule: both -/
def encq (q : List Int32 × List Int32) : List Int32 := q.1 ++ q.2 ++ [if q.2 = [] then -24 else -25]
def fK (n : Nat) (X0 X : jS) : Prop := ∀ a j, (kpR n a j ∨ (a = 0 ∧ j = 22)) → X.1 a j = X0.1 a j
theorem fX.k {n : Nat} {X0 X : jS} (h : fX n X0 X) : fK n X0 X := fun a j k => h a j (by unfold kpR at k; unfold kpX; omega)
theorem fK.tr {n : Nat} {X0 X X1 : jS} (h : fK n X0 X) (g : fK n X X1) : fK n X0 X1 := fun a j k => (g a j k).trans (h a j k)
section
variable {S0 X0 X : jS} {tn : Nat} {tb : Nat → Nat} {p n : Nat} {E ops : List Int32} {deep cnt f : Nat}
theorem fX.rf : fX n X X := fun _ _ _ => rfl
theorem R7.rb (h : R7 X0 X tn tb p n E ops deep cnt) : R7 X X tn tb p n E ops deep cnt := ⟨h.1, h.2.1, h.2.2.1, h.2.2.2.1, h.2.2.2.2.1, fX.rf⟩
/-- a mark of a clause is set -/
theorem R7.mk {a j : Nat} {x : Int32} (h : R7 X0 X tn tb p n E ops deep cnt) (ha : 33 ≤ a ∧ a ≤ 35) : R7 (wI X a j x) (wI X a j x) tn tb p n E ops deep cnt := by
  obtain ⟨⟨a1, a2, a3⟩, ⟨b1, b2⟩, ⟨c1, c2⟩, ⟨d1, d2⟩, ⟨e1, e2⟩, g⟩ := h
  exact ⟨⟨a1.w (by omega) (by omega), by rw [wI_ne (by omega)]; exact a2, by rw [wI_ne (by omega)]; exact a3⟩, ⟨by rw [wI_ne (by omega)]; exact b1, by rw [wI_ne (by omega)]; exact b2⟩, ⟨by rw [wI_ne (by omega)]; exact c1, ents_ext (fun i _ _ => ⟨wI_ne (by omega), wI_ne (by omega)⟩) c2⟩, ⟨by rw [wI_ne (by omega)]; exact d1, by rw [wI_ne (by omega)]; exact d2⟩, ⟨by rw [wI_ne (by omega)]; exact e1, wst_ext (fun i _ => wI_ne (by omega)) e2⟩, fX.rf⟩
theorem RF7.mk {a j : Nat} {x : Int32} (h : RF7 X0 X tn tb n f) (ha : 33 ≤ a ∧ a ≤ 35) : RF7 (wI X a j x) (wI X a j x) tn tb n f := by
  obtain ⟨a1, ⟨q, a2, a3⟩, a4, a5, a6⟩ := h
  exact ⟨a1.w (by omega) (by omega), ⟨q, a2, by rw [wI_ne (by omega)]; exact a3⟩, by rw [wI_ne (by omega)]; exact a4, by rw [wI_ne (by omega)]; exact a5, fX.rf⟩
theorem fK.mk {a j : Nat} {x : Int32} (ha : 33 ≤ a ∧ a ≤ 35 ∧ 12 * n ≤ j) : fK n X (wI X a j x) := fun b i k => by
  unfold kpR at k
  rw [wI_g, if_neg (by omega)]
theorem r_gonF (ot : TpOk tn tb) (h : RF7 X0 X tn tb n f) (hf : f ≠ 0) (hf2 : f < 2 ^ 31) : ∃ X1, f11_goesOn X = some (X1, 0) ∧ X1.1 0 21 = nI f ∧ fX n X0 X1 := by
  have l := ot.1
  obtain ⟨Xb, b1, hb⟩ := r_blkF ot h
  have hne := hb.ne hf hf2
  unfold f11_goesOn
  rw [b1, Option.bind_some]
  dsimp only
  rw [if_neg hne, Option.bind_some, if_neg hne, if_pos (Or.inl rfl)]
  exact ⟨_, rfl, by rw [wI_nj (by omega)]; exact hb.2.2.1, hb.2.2.2.2.w (by omega)⟩
theorem r_gon7 (ot : TpOk tn tb) (h : R7 X0 X tn tb (sk tn tb p) n E ops deep cnt) (hp : p ≤ tn) : ∃ X1 r, f11_goesOn X = some (X1, r) ∧ fX n X0 X1 ∧
    (tkS tn tb (sk tn tb p) = 1 → r = 0 ∧ ∃ p2, R7 X0 X1 tn tb p2 n E ops deep cnt) ∧ (tkS tn tb (sk tn tb p) = 8 → r = 1 ∧ R7 X0 X1 tn tb (tkE tn tb (sk tn tb p)) n E ops deep cnt) ∧ (tkS tn tb (sk tn tb p) ≠ 1 → tkS tn tb (sk tn tb p) ≠ 8 → r = 0 ∧ X1.1 0 21 = nI (1 + 8 * sk tn tb p + 0)) := by
  have hk2 := sk_le (tb := tb) hp
  have e : sk tn tb (sk tn tb p) = sk tn tb p := run_id hp
  obtain ⟨X1, p1, r, a1, a2, a3, -, a5⟩ := r_gon ot hk2.2 h.1.1 h.1.2.1
  rw [e] at a5
  obtain ⟨c1, c2, c3⟩ := a5 h.1.2.2
  have mv : X1.1 0 21 = 0 → R7 X0 X1 tn tb p1 n E ops deep cnt := fun z => h.mv' (fun a i u => by
    by_cases c : a = 0 ∧ i = 21
    · obtain ⟨rfl, rfl⟩ := c; rw [z, h.1.2.2]
    · exact a3 a i u c) a2
  refine ⟨X1, r, a1, h.2.2.2.2.2.pf a3, fun z => ⟨(c1 z).2, p1, mv (c1 z).1⟩, fun z => ⟨(c2 z).2.1, ?_⟩, fun z z' => ⟨(c3 z z').2, (c3 z z').1⟩⟩
  rw [← (c2 z).2.2]; exact mv (c2 z).1
end
/-- the outcome of a clause and of going on -/
def CR (S0 S X X2 : jS) (more : Int32) (tn : Nat) (tb : Nat → Nat) (p n i k pa : Nat) (cd E : List Int32) : Prop :=
  (∃ f S', more = 0 ∧ f ≠ 0 ∧ f < 2 ^ 31 ∧ X2.1 0 21 = nI f ∧ r7 S k = some (S', nI f) ∧ fC S0 S') ∨
  (∃ S' k' p1 p2 pa' st te co q ops, r7 S k = r7 S' k' ∧ K7 S0 S' tn tb p1 st te co (i + 1) pa' (cd ++ encq q) [] ∧ clOk q ∧ R7 X2 X2 tn tb p2 n (E ++ q.1 ++ q.2) ops 0 pa' ∧ ((st = 0 ∧ more = 1 ∧ p2 = p1 ∧ k' ≤ p1 ∧ p < p1 ∧ p1 ≤ tn) ∨ (st = 5 ∧ more = 0 ∧ k' ≤ tn + 1 ∧ p1 ≤ tn)) ∧ i < 12 ∧
    X2.1 33 (12 * n + i) = nI E.length ∧ X2.1 34 (12 * n + i) = nI (E.length + q.1.length) ∧ X2.1 35 (12 * n + i) = nI (E.length + q.1.length + q.2.length) ∧ (∀ a j, 33 ≤ a → a ≤ 35 → j ≠ 12 * n + i → X2.1 a j = X.1 a j))
theorem mark_fX {n a j : Nat} {X0 X : jS} (h : fX n X0 X) (ha : 33 ≤ a ∧ a ≤ 35) : X.1 a j = X0.1 a j := h a j (by unfold kpX; omega)
theorem k_rc {S0 S X : jS} {tn : Nat} {tb : Nat → Nat} (ot : TpOk tn tb) {p n i k pa : Nat} {te co : Int32} {cd E ops : List Int32} (hn : n ≤ 5) (hK : K7 S0 S tn tb p 0 te co i pa cd []) (hR : R7 X X tn tb p n E ops 0 pa) (hp : p ≤ tn) (hkp : k ≤ p) (hE : E.length ≤ cd.length) : ∃ X1 X2 more, f11_ruleClause X (nI i) = some (X1, ()) ∧ f11_goesOn X1 = some (X2, more) ∧ fK n X X2 ∧ CR S0 S X X2 more tn tb p n i k pa cd E := by
  have l := ot.1
  have hk2 := sk_le (tb := tb) hp
  have hi := hK.2.2.2.2.1
  obtain ⟨Xb, b1, b2, b3⟩ := r_blk ot (by omega) hR.1.1 hR.1.2.1
  have Rb := hR.mv' b3 b2
  have st := st_q (X := Xb) (q := (14, -24)) ot (by decide) (by omega) Rb.1.1 b2
  dsimp only at st
  obtain ⟨c1, c2, c3⟩ := k7P ot hK hp hkp
  have q12 : nI i = (12 : Int32) ↔ i = 12 := nI_eqI (b := 12) (by omega) (by omega)
  have flt : ∀ (X0 X1 : jS) f S', fK n X X0 → f ≠ 0 → f < 2 ^ 31 → f11_ruleClause X (nI i) = some (X1, ()) → RF7 X0 X1 tn tb n f → r7 S k = some (S', nI f) → fC S0 S' → ∃ X1 X2 more, f11_ruleClause X (nI i) = some (X1, ()) ∧ f11_goesOn X1 = some (X2, more) ∧ fK n X X2 ∧ CR S0 S X X2 more tn tb p n i k pa cd E := by
    intro X0 X1 f S' h0 hf hf2 e1 hF s1 s2
    obtain ⟨X2, g1, g2, g3⟩ := r_gonF ot hF hf hf2
    exact ⟨X1, X2, 0, e1, g1, h0.tr g3.k, Or.inl ⟨f, S', rfl, hf, hf2, g2, s1, s2⟩⟩
  by_cases c24 : tkS tn tb (sk tn tb p) = -24
  · by_cases c12 : i = 12
    · obtain ⟨S', s1, s2⟩ := c2 c24 c12
      refine flt X (wI Xb 0 21 (nI (1 + 8 * sk tn tb p + 4))) _ S' (fun _ _ _ => rfl) (by omega) (by omega) ?_ (Rb.flt (p' := 0) (by omega)) s1 s2
      unfold f11_ruleClause
      rw [b1, Option.bind_some]
      dsimp only
      rw [st, Option.bind_some, if_pos c24, if_neg (by decide), if_pos (q12.mpr c12), b2, r_flt (x := 4) (e := 4) rfl, Option.bind_some, Rb.1.2.2, if_pos rfl]
    · obtain ⟨S1, s1, K1⟩ := c3 c24 (by omega)
      have hte := tk_w (q := (14, -24)) ot (by decide) c24
      have hj : jlen.getD 14 0 = 4 := by decide
      dsimp only at hte
      rw [hj] at hte
      have hstp := tk_step (tb := tb) hte.2
      have e4 : nI (sk tn tb p) + 4 = nI (tkE tn tb (sk tn tb p)) := by rw [hte.1]; exact nI_add _ 4
      have e12 : 12 * nI n + nI i = nI (12 * n + i) := by rw [nI_12]; exact nI_add _ _
      have R1 := Rb.mv (p' := tkE tn tb (sk tn tb p))
      have R2 := R1.mk (a := 33) (j := 12 * n + i) (x := nI E.length) (by omega)
      generalize hX2 : wI (wI Xb 0 20 (nI (tkE tn tb (sk tn tb p)))) 33 (12 * n + i) (nI E.length) = X2 at *
      have f2 : fK n X X2 := by
        rw [← hX2]
        exact (R1.2.2.2.2.2.k).tr (fK.mk (by omega))
      have m2 : ∀ a j, 33 ≤ a → a ≤ 35 → X2.1 a j = if a = 33 ∧ j = 12 * n + i then nI E.length else X.1 a j := fun a j u v => by
        rw [← hX2, wI_g, wI_ne (by omega), b3 _ _ (by omega)]
      have bb := K1.2.b (by omega)
      simp only [List.length_nil, Nat.add_zero] at bb
      obtain ⟨X3, x1, x2⟩ := S7 (k := k + 1) (cd := cd) (wt := []) (E := E) ot hn (by show 0 < 5; omega) (by simp only [List.length_nil]; omega) (by simp only [List.length_nil]; omega) (k7V (k := k + 1) ot K1 hstp.2 (by omega)) R2 hstp.2 (by omega) K1.2.2.2.1
      have cl : f11_ruleClause X (nI i) = Option.bind (if ((wI X3 34 (12 * n + i) (X3.1 0 24)).1 0 21) = 0 then Option.bind (f11_takes (wI X3 34 (12 * n + i) (X3.1 0 24)) 7) (fun r6 => (if r6.2 = 0 then some r6.1 else Option.bind (f11_test r6.1) (fun r7 => some r7.1))) else some (wI X3 34 (12 * n + i) (X3.1 0 24))) (fun (y8 : jS) => some (wI y8 35 (12 * n + i) (y8.1 0 24), ())) := by
        unfold f11_ruleClause
        rw [b1, Option.bind_some]
        dsimp only
        rw [st, Option.bind_some, if_pos c24, if_neg (by decide), if_neg (fun z => c12 (q12.mp z)), b2, e4, R1.2.1.1, R1.2.2.1.1, e12, inbk (by omega) (by omega), if_pos rfl, nI_clamp (by omega), hX2, x1, Option.bind_some]
      have w20 : ∀ (Y : jS) (x : Int32), (wI Y 34 (12 * n + i) x).1 0 21 = Y.1 0 21 := fun Y x => wI_ne (by omega)
      rcases x2 with ⟨f, S', f1, f2', f3, f4, f5⟩ | ⟨S2, k', p1, pa', L, ex, g1, g2, g3, g4, g5, gp, g6, g7, g8⟩
      · rw [w20, if_neg (f5.ne f1 f2'), Option.bind_some] at cl
        have F2 := (f5.mk (a := 34) (j := 12 * n + i) (x := X3.1 0 24) (by omega)).mk (a := 35) (j := 12 * n + i) (x := (wI X3 34 (12 * n + i) (X3.1 0 24)).1 0 24) (by omega)
        exact flt _ _ f S' (((f2.tr f5.2.2.2.2.k).tr (fK.mk (by omega))).tr (fK.mk (by omega))) f1 f2' cl F2 (s1.trans f3) f4
      · have hk3 := sk_le (tb := tb) g5
        rw [List.append_nil] at g2
        have hex1 : pop 1 ex = ex ∧ rsd 1 ex = [] := by
          have := rsd_ex (r := 1) (ex := ex) (w := []) (by omega) (fun x hx => by have := g6 x hx; omega) (by show 0 < 1; omega)
          rw [List.append_nil] at this
          exact ⟨this.2, this.1⟩
        have R3 := g3.mk (a := 34) (j := 12 * n + i) (x := X3.1 0 24) (by omega)
        have f3 : fK n X (wI X3 34 (12 * n + i) (X3.1 0 24)) := (f2.tr g3.2.2.2.2.2.k).tr (fK.mk (by omega))
        have e24 : X3.1 0 24 = nI (E.length + (L ++ ex).length) := by
          rw [g3.2.2.1.1]; congr 1; simp only [List.length_append]; omega
        have m3 : ∀ a j, 33 ≤ a → a ≤ 35 → (wI X3 34 (12 * n + i) (X3.1 0 24)).1 a j = if a = 34 ∧ j = 12 * n + i then nI (E.length + (L ++ ex).length) else if a = 33 ∧ j = 12 * n + i then nI E.length else X.1 a j := fun a j u v => by
          rw [wI_g, e24, mark_fX g3.2.2.2.2.2 ⟨u, v⟩, m2 a j u v]
        generalize hY : wI X3 34 (12 * n + i) (X3.1 0 24) = Y at *
        rw [R3.1.2.2, if_pos rfl] at cl
        have stF := st_q (X := Y) (q := (7, -25)) ot (by decide) (by omega) R3.1.1 R3.1.2.1
        dsimp only at stF
        have e : sk tn tb (sk tn tb p1) = sk tn tb p1 := run_id g5
        obtain ⟨Yb, y1, y2, y3⟩ := r_blk ot (by omega) R3.1.1 R3.1.2.1
        rw [e] at y2
        have R4 := R3.mv' y3 y2
        have stB := st_q (X := Yb) (q := (7, -25)) ot (by decide) (by omega) R4.1.1 y2
        dsimp only at stB
        by_cases c25 : tkS tn tb (sk tn tb p1) = -25
        · have hte5 := tk_w (q := (7, -25)) ot (by decide) c25
          have hj5 : jlen.getD 7 0 = 2 := by decide
          dsimp only at hte5
          rw [hj5] at hte5
          have hst5 := tk_step (tb := tb) hte5.2
          have e2 : nI (sk tn tb p1) + slen 7 = nI (tkE tn tb (sk tn tb p1)) := by rw [hte5.1]; exact nI_add _ 2
          have tk : f11_takes Y 7 = some (wI Yb 0 20 (nI (tkE tn tb (sk tn tb p1))), 1) := by
            unfold f11_takes
            rw [y1, Option.bind_some]
            dsimp only
            rw [stB, Option.bind_some, if_pos c25, if_neg (by decide), Option.bind_some, y2, e2, if_pos (Or.inr rfl)]
          obtain ⟨S3, s3, K3⟩ := k7I ot g2 g5 g4 c25
          rw [hex1.1, hex1.2] at K3
          have R5 := R4.mv (p' := tkE tn tb (sk tn tb p1))
          have hE3 : (E ++ L ++ ex).length ≤ (cd ++ L ++ ex).length := by simp only [List.length_append]; omega
          obtain ⟨X6, t1, t2⟩ := test7 (k := k' + 1) (deep := 0) ot hn hE3 K3 R5 hst5.2 (by omega)
          rw [tk, Option.bind_some, if_neg (show ¬ (1 : Int32) = 0 by decide)] at cl
          dsimp only at cl
          rw [t1, Option.bind_some, Option.bind_some] at cl
          dsimp only at cl
          rcases t2 with ⟨f, S', f1, f2', f3', f4, f5⟩ | ⟨S4, k4, p4, pa4, st4, L4, w4, h1, h2, h3, h4, h5, h6, h7, h8, h9, h10⟩
          · exact flt _ _ f S' ((f3.tr f5.2.2.2.2.k).tr (fK.mk (by omega))) f1 f2' cl (f5.mk (by omega)) ((s1.trans g1).trans (s3.trans f3')) f4
          · have hk4 := sk_le (tb := tb) h7
            have e24' : X6.1 0 24 = nI (E.length + (L ++ ex).length + (L4 ++ pop 1 w4).length) := by
              rw [h5.2.2.1.1]; congr 1; simp only [List.length_append]; omega
            have R6 := h5.mk (a := 35) (j := 12 * n + i) (x := X6.1 0 24) (by omega)
            obtain ⟨X7, r, u1, u2, u3, u4, u5⟩ := r_gon7 ot R6 h7
            have f6 : fK n X (wI X6 35 (12 * n + i) (X6.1 0 24)) := (f3.tr h5.2.2.2.2.2.k).tr (fK.mk (by omega))
            have m6 : ∀ a j, 33 ≤ a → a ≤ 35 → X7.1 a j = if a = 35 ∧ j = 12 * n + i then nI (E.length + (L ++ ex).length + (L4 ++ pop 1 w4).length) else if a = 34 ∧ j = 12 * n + i then nI (E.length + (L ++ ex).length) else if a = 33 ∧ j = 12 * n + i then nI E.length else X.1 a j := fun a j v v' => by
              rw [mark_fX u2 ⟨v, v'⟩, wI_g, e24', mark_fX h5.2.2.2.2.2 ⟨v, v'⟩, m3 a j v v']
            obtain ⟨-, -, kc, kd⟩ := k7B ot h2 h7 h6 h3
            refine ⟨_, X7, r, cl, u1, f6.tr u2.k, ?_⟩
            have ne : L4 ++ pop 1 w4 ≠ [] := fun z => by rw [z] at h10; cases h10
            have clk : clOk (L ++ ex, L4 ++ pop 1 w4) := ⟨g8 [] (by decide), Or.inr h10⟩
            have en : ∀ Z : List Int32, cd ++ L ++ ex ++ L4 ++ pop 1 w4 ++ [-25] = cd ++ encq (L ++ ex, L4 ++ pop 1 w4) := fun _ => by
              unfold encq; rw [if_neg ne]; simp only [List.append_assoc]
            have eE : E ++ L ++ ex ++ L4 ++ pop 1 w4 = E ++ (L ++ ex) ++ (L4 ++ pop 1 w4) := by simp only [List.append_assoc]
            have mk : X7.1 33 (12 * n + i) = nI E.length ∧ X7.1 34 (12 * n + i) = nI (E.length + (L ++ ex).length) ∧ X7.1 35 (12 * n + i) = nI (E.length + (L ++ ex).length + (L4 ++ pop 1 w4).length) ∧ (∀ a j, 33 ≤ a → a ≤ 35 → j ≠ 12 * n + i → X7.1 a j = X.1 a j) := ⟨by rw [m6 _ _ (by omega) (by omega), if_neg (by omega), if_neg (by omega), if_pos ⟨rfl, rfl⟩], by rw [m6 _ _ (by omega) (by omega), if_neg (by omega), if_pos ⟨rfl, rfl⟩], by rw [m6 _ _ (by omega) (by omega), if_pos ⟨rfl, rfl⟩], fun a j v v' z => by rw [m6 a j v v', if_neg (fun y => z y.2), if_neg (fun y => z y.2), if_neg (fun y => z y.2)]⟩
            by_cases e8 : tkS tn tb (sk tn tb p4) = 8
            · obtain ⟨S5, s5, K5⟩ := kc (Or.inl e8) h4
              obtain ⟨r1, R7'⟩ := u4 e8
              rw [if_pos e8, en []] at K5
              rw [eE] at R7'
              have hlt : sk tn tb p4 < tn := (tk_m (by rw [e8]; decide)).2
              have hst8 := tk_step (tb := tb) hlt
              exact Or.inr ⟨S5, k4 + 1, _, _, pa4, 0, 1, 1, (L ++ ex, L4 ++ pop 1 w4), [], (s1.trans g1).trans ((s3.trans h1).trans s5), K5, clk, R7'.rb, Or.inl ⟨rfl, r1, rfl, by omega, by omega, hst8.2⟩, by omega, mk⟩
            · by_cases e1 : tkS tn tb (sk tn tb p4) = 1
              · obtain ⟨S5, s5, K5⟩ := kc (Or.inr e1) h4
                obtain ⟨r1, p2, R7'⟩ := u3 e1
                rw [if_neg e8, en []] at K5
                rw [eE] at R7'
                exact Or.inr ⟨S5, k4 + 1, _, p2, pa4, 5, 1, 1, (L ++ ex, L4 ++ pop 1 w4), [], (s1.trans g1).trans ((s3.trans h1).trans s5), K5, clk, R7'.rb, Or.inr ⟨rfl, r1, by omega, (tkE_le h7).2⟩, by omega, mk⟩
              · obtain ⟨S5, s5, fc⟩ := kd h9.1 h9.2 (fun _ => h4) (fun z => absurd z (by rintro (y | y); (· exact e8 y); (· exact e1 y)))
                obtain ⟨r1, fl⟩ := u5 e1 e8
                exact Or.inl ⟨_, S5, r1, by omega, by omega, fl, (s1.trans g1).trans ((s3.trans h1).trans s5), fc⟩
        · have tk : f11_takes Y 7 = some (wI Yb 0 20 (nI (sk tn tb p1)), 0) := by
            have e0 : nI (sk tn tb p1) + 0 = nI (sk tn tb p1) := nI_add _ 0
            unfold f11_takes
            rw [y1, Option.bind_some]
            dsimp only
            rw [stB, Option.bind_some, if_neg c25, if_pos rfl, Option.bind_some, y2, e0, if_pos (Or.inl rfl)]
          rw [tk, Option.bind_some, if_pos rfl, Option.bind_some] at cl
          dsimp only at cl
          have R5 := R4.mv (p' := sk tn tb p1)
          generalize hZ : wI Yb 0 20 (nI (sk tn tb p1)) = Z at *
          have e24' : Z.1 0 24 = nI (E.length + (L ++ ex).length) := by
            rw [R5.2.2.1.1]; congr 1; simp only [List.length_append]; omega
          have R6 := R5.mk (a := 35) (j := 12 * n + i) (x := Z.1 0 24) (by omega)
          obtain ⟨X7, r, u1, u2, u3, u4, u5⟩ := r_gon7 ot R6 g5
          have f6 : fK n X (wI Z 35 (12 * n + i) (Z.1 0 24)) := (f3.tr R5.2.2.2.2.2.k).tr (fK.mk (by omega))
          have m6 : ∀ a j, 33 ≤ a → a ≤ 35 → X7.1 a j = if a = 35 ∧ j = 12 * n + i then nI (E.length + (L ++ ex).length) else if a = 34 ∧ j = 12 * n + i then nI (E.length + (L ++ ex).length) else if a = 33 ∧ j = 12 * n + i then nI E.length else X.1 a j := fun a j v v' => by
            rw [mark_fX u2 ⟨v, v'⟩, wI_g, e24', mark_fX R5.2.2.2.2.2 ⟨v, v'⟩, m3 a j v v']
          obtain ⟨kc, kd⟩ := k7E ot g2 g5 g4 g7 c25
          refine ⟨_, X7, r, cl, u1, f6.tr u2.k, ?_⟩
          have clk : clOk (L ++ ex, []) := ⟨g8 [] (by decide), Or.inl rfl⟩
          have en : cd ++ L ++ pop 1 ex ++ [-24] = cd ++ encq (L ++ ex, []) := by
            unfold encq; rw [if_pos rfl, hex1.1]; simp only [List.append_assoc, List.append_nil, List.nil_append]
          have eE : E ++ L ++ ex = E ++ (L ++ ex) ++ [] := by simp only [List.append_assoc, List.append_nil]
          have mk : X7.1 33 (12 * n + i) = nI E.length ∧ X7.1 34 (12 * n + i) = nI (E.length + (L ++ ex).length) ∧ X7.1 35 (12 * n + i) = nI (E.length + (L ++ ex).length + ([] : List Int32).length) ∧ (∀ a j, 33 ≤ a → a ≤ 35 → j ≠ 12 * n + i → X7.1 a j = X.1 a j) := ⟨by rw [m6 _ _ (by omega) (by omega), if_neg (by omega), if_neg (by omega), if_pos ⟨rfl, rfl⟩], by rw [m6 _ _ (by omega) (by omega), if_neg (by omega), if_pos ⟨rfl, rfl⟩], by rw [m6 _ _ (by omega) (by omega), if_pos ⟨rfl, rfl⟩, List.length_nil, Nat.add_zero], fun a j v v' z => by rw [m6 a j v v', if_neg (fun y => z y.2), if_neg (fun y => z y.2), if_neg (fun y => z y.2)]⟩
          by_cases e8 : tkS tn tb (sk tn tb p1) = 8
          · obtain ⟨S5, s5, K5⟩ := kc (Or.inl e8) hex1.2
            obtain ⟨r1, R7'⟩ := u4 e8
            rw [if_pos e8, en] at K5
            rw [eE] at R7'
            have hlt : sk tn tb p1 < tn := (tk_m (by rw [e8]; decide)).2
            have hst8 := tk_step (tb := tb) hlt
            exact Or.inr ⟨S5, k' + 1, _, _, pa', 0, 0, co, (L ++ ex, []), ops, (s1.trans g1).trans s5, K5, clk, R7'.rb, Or.inl ⟨rfl, r1, rfl, by omega, by omega, hst8.2⟩, by omega, mk⟩
          · by_cases e1 : tkS tn tb (sk tn tb p1) = 1
            · obtain ⟨S5, s5, K5⟩ := kc (Or.inr e1) hex1.2
              obtain ⟨r1, p2, R7'⟩ := u3 e1
              rw [if_neg e8, en] at K5
              rw [eE] at R7'
              exact Or.inr ⟨S5, k' + 1, _, p2, pa', 5, 0, co, (L ++ ex, []), ops, (s1.trans g1).trans s5, K5, clk, R7'.rb, Or.inr ⟨rfl, r1, by omega, (tkE_le g5).2⟩, by omega, mk⟩
            · obtain ⟨S5, s5, fc⟩ := kd (by rintro (y | y); (· exact e8 y); (· exact e1 y))
              obtain ⟨r1, fl⟩ := u5 e1 e8
              exact Or.inl ⟨_, S5, r1, by omega, by omega, fl, (s1.trans g1).trans s5, fc⟩
  · obtain ⟨S', s1, s2⟩ := c1 c24
    refine flt X (wI Xb 0 21 (nI (1 + 8 * sk tn tb p + 0))) _ S' (fun _ _ _ => rfl) (by omega) (by omega) ?_ (Rb.flt (p' := 0) (by omega)) s1 s2
    unfold f11_ruleClause
    rw [b1, Option.bind_some]
    dsimp only
    rw [st, Option.bind_some, if_neg c24, if_pos rfl, b2, r_flt (x := 0) (e := 0) rfl, Option.bind_some, Rb.1.2.2, if_pos rfl]
