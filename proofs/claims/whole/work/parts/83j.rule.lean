/-! tests, behind a fact: both -/
section
variable {S0 X0 : jS} {tn : Nat} {tb : Nat → Nat} {n : Nat} {cl : Nat} {cd E : List Int32}
theorem pBN (ot : TpOk tn tb) (hn : n ≤ 5) (hE : E.length ≤ cd.length) {d : Nat} (ihW : PW S0 X0 tn tb n cl cd E d) (ihN : PN S0 X0 tn tb n cl cd E d) : PN S0 X0 tn tb n cl cd E (d + 1) := by
  intro p q S X k pa st L ex wt m hd hK hst hR hq hqn hp hkp hex ht hty hm
  have l := ot.1
  have hk2 := sk_le (tb := tb) hp
  obtain ⟨m, rfl⟩ : ∃ m', m = m' + 1 := ⟨m - 1, by omega⟩
  have b := hK.2.b (by omega)
  simp only [List.length_append] at b
  have hg : gw wt := gw_app hK.2.1
  have hcn : cn wt ≤ 10 := by have := hK.2.2.1; have := cn_app (a := ex) (w := wt); omega
  obtain ⟨k1, k2, k3, k4⟩ := k7B ot hK hp hkp hst
  have pe : ∀ r, r ≤ 4 → pop r (ex ++ wt) = ex ++ pop r wt ∧ rsd r (ex ++ wt) = rsd r wt := fun r hr => pop_ex (fun x hx => by have := hex x hx; omega)
  obtain ⟨g31, g32, g33, g34⟩ := rsd_all (r := 3) (by omega) hg
  obtain ⟨g21, g22, g23, g24⟩ := rsd_all (r := 2) (by omega) g31
  have t3 : tw (rsd 3 wt) := tw_rsd ht
  have t2 : tw (rsd 2 (rsd 3 wt)) := tw_rsd t3
  have l3 := pr_len 3 wt
  have l2 := pr_len 2 (rsd 3 wt)
  have l1 := pr_len 1 (rsd 2 (rsd 3 wt))
  have p2 := pop_pop (r := 2) (r' := 3) (by omega) wt
  have p1 := pop_pop (r := 1) (r' := 2) (by omega) wt
  -- answers
  obtain ⟨X1, a1, A1⟩ := r_ans (r := 3) (o := 9) (x := -23) hn (Or.inl ⟨rfl, rfl, rfl⟩) (by omega) (by simp only [List.length_append]; omega) hg ht (tw_hk ht) hR
  obtain ⟨X2, a2, a2p, a2q⟩ := r_blk ot (by omega) A1.1.1 A1.1.2.1
  rw [hq] at a2p
  have A2 := A1.mv' a2q a2p
  obtain ⟨X3, a3, A3⟩ := r_ans (r := 2) (o := 10) (x := -21) hn (Or.inr (Or.inl ⟨rfl, rfl, rfl⟩)) (by omega) (by simp only [List.length_append]; omega) g31 t3 (by omega) A2
  have sa := st_q (X := X2) (q := (0, -21)) ot (by decide) (by omega) A2.1.1 a2p
  have so := st_q (X := X2) (q := (11, -22)) ot (by decide) (by omega) A2.1.1 a2p
  dsimp only at sa so
  have E3 : E ++ L ++ ex ++ pop 3 wt ++ pop 2 (rsd 3 wt) = E ++ (L ++ ex ++ pop 2 wt) := by rw [p2.1]; simp only [List.append_assoc]
  rw [E3, ← p2.2] at A3
  rw [← p2.2] at g21 g24 t2 l1
  have lm : ((rsd 2 wt).map opc).length = (rsd 2 wt).length := List.length_map _
  have q2 := pr_len 2 wt
  rw [f11_test_L1, if_neg (by decide), hR.1.2.2, if_pos rfl, if_pos rfl, a1, Option.bind_some]
  dsimp only
  rw [a2, Option.bind_some]
  dsimp only
  rw [sa, Option.bind_some, so, Option.bind_some, a3, Option.bind_some]
  dsimp only
  by_cases c21 : tkS tn tb (sk tn tb p) = -21
  · have hte := tk_w (q := (0, -21)) ot (by decide) c21
    have hj : jlen.getD 0 0 = 3 := by decide
    dsimp only at hte
    rw [hj] at hte
    have hstp := tk_step (tb := tb) hte.2
    have e3 : nI (sk tn tb p) + 3 = nI (tkE tn tb (sk tn tb p)) := by rw [hte.1]; exact nI_add _ 3
    obtain ⟨X4, b1, B1⟩ := r_opn2 (o := 10) A3 (Or.inl rfl) (by omega)
    obtain ⟨S1, s1, s2⟩ := k1 (Or.inl c21)
    have hr2 : rnk (-21) = 2 := by decide
    rw [c21, hr2, (pe 2 (by omega)).1, (pe 2 (by omega)).2] at s2
    have n22 : ¬ tkS tn tb (sk tn tb p) = -22 := by rw [c21]; decide
    have h10 : ((1 : Int32) = 0) = False := eq_false (by decide)
    rw [if_pos c21, if_neg n22]
    simp only [h10, if_false, if_true, Option.bind_some, b1]
    rw [B1.1.2.1, e3]
    have R2 := B1.mv (p' := tkE tn tb (sk tn tb p))
    have cb := (cn_bin (x := -21) (w := rsd 2 wt) (by decide)).1
    obtain ⟨X5, z1, z2⟩ := ihW (tkE tn tb (sk tn tb p)) S1 _ (k + 1) pa 1 (L ++ ex ++ pop 2 wt) (-21 :: rsd 2 wt) m (by omega) (by
      have : cd ++ (L ++ ex ++ pop 2 wt) = cd ++ L ++ (ex ++ pop 2 wt) := by simp only [List.append_assoc]
      rw [this]; exact s2) (by rw [cb]; exact R2) hstp.2 (by omega) (fun x hx => by
      rcases List.mem_cons.mp hx with hx | hx
      · rw [hx]; exact Or.inl rfl
      · exact t2 x hx) (tky_app hty (ty_pop (by omega) ht)) (by omega)
    exact ⟨X5, z1, z2.tr s1 (by omega)⟩
  · rw [if_neg c21, if_pos rfl]
    -- or, and the rest: release down to rank 1
    obtain ⟨X4, b1, B1⟩ := r_ans (r := 1) (o := 11) (x := -22) hn (Or.inr (Or.inr ⟨rfl, rfl, rfl⟩)) (by omega) (by simp only [List.length_append]; omega) g21 t2 (by omega) A3
    have E4 : E ++ (L ++ ex ++ pop 2 wt) ++ pop 1 (rsd 2 wt) = E ++ (L ++ ex ++ pop 1 wt) := by rw [p1.1]; simp only [List.append_assoc]
    rw [E4, ← p1.2] at B1
    obtain ⟨g11, g12, g13, g14⟩ := rsd_all (r := 1) (by omega) hg
    have t1 : tw (rsd 1 wt) := tw_rsd ht
    have q1 := pr_len 1 wt
    have lm1 : ((rsd 1 wt).map opc).length = (rsd 1 wt).length := List.length_map _
    have ty1 : tky 60 (L ++ ex ++ pop 1 wt) [] = some (true :: opT (rsd 1 wt)) := tky_app hty (ty_pop (by omega) ht)
    by_cases c22 : tkS tn tb (sk tn tb p) = -22
    · have hte := tk_w (q := (11, -22)) ot (by decide) c22
      have hj : jlen.getD 11 0 = 2 := by decide
      dsimp only at hte
      rw [hj] at hte
      have hstp := tk_step (tb := tb) hte.2
      have e3 : nI (sk tn tb p) + 2 = nI (tkE tn tb (sk tn tb p)) := by rw [hte.1]; exact nI_add _ 2
      obtain ⟨X5, c1, C1⟩ := r_opn2 (o := 11) B1 (Or.inr rfl) (by omega)
      obtain ⟨S1, s1, s2⟩ := k1 (Or.inr c22)
      have hr2 : rnk (-22) = 1 := by decide
      rw [c22, hr2, (pe 1 (by omega)).1, (pe 1 (by omega)).2] at s2
      rw [if_pos c22, if_neg (show ¬ (1 : Int32) = 0 by decide), if_neg (show ¬ (1 : Int32) = 0 by decide), b1, Option.bind_some, Option.bind_some, if_pos rfl, if_pos rfl, c1, Option.bind_some]
      dsimp only
      rw [C1.1.2.1, e3, Option.bind_some]
      dsimp only
      have R2 := C1.mv (p' := tkE tn tb (sk tn tb p))
      have cb := (cn_bin (x := -22) (w := rsd 1 wt) (by decide)).1
      obtain ⟨X6, z1, z2⟩ := ihW (tkE tn tb (sk tn tb p)) S1 _ (k + 1) pa 1 (L ++ ex ++ pop 1 wt) (-22 :: rsd 1 wt) m (by omega) (by
        have : cd ++ (L ++ ex ++ pop 1 wt) = cd ++ L ++ (ex ++ pop 1 wt) := by simp only [List.append_assoc]
        rw [this]; exact s2) (by rw [cb]; exact R2) hstp.2 (by omega) (fun x hx => by
        rcases List.mem_cons.mp hx with hx | hx
        · rw [hx]; exact Or.inr (Or.inl rfl)
        · exact t1 x hx) ty1 (by omega)
      exact ⟨X6, z1, z2.tr s1 (by omega)⟩
    · rw [if_neg c22, if_pos rfl, b1, Option.bind_some]
      dsimp only
      rw [r_top B1 (by omega), Option.bind_some]
      have hm1 := hm
      obtain ⟨m, rfl⟩ : ∃ m', m = m' + 1 := ⟨m - 1, by omega⟩
      cases hw : rsd 1 wt with
      | nil =>
        show ∃ Xf, Option.bind (if (-1 : Int32) = 12 then _ else _) _ = some Xf ∧ _
        rw [if_neg (by decide), Option.bind_some]
        dsimp only
        rw [f11_test_L1, if_pos rfl]
        rw [hw] at B1 ty1
        refine ⟨X4, rfl, Or.inr ⟨S, k, p, pa, st, L, ex ++ wt, rfl, hK, hst, by rw [(pe 1 (by omega)).2, hw], ?_, hkp, hp, Nat.le_refl _, ⟨c21, c22⟩, ?_⟩⟩
        · rw [(pe 1 (by omega)).1]
          have : E ++ L ++ (ex ++ pop 1 wt) = E ++ (L ++ ex ++ pop 1 wt) := by simp only [List.append_assoc]
          rw [this]; exact B1
        · rw [(pe 1 (by omega)).1, ← List.append_assoc]; exact ty1
      | cons y w' =>
        rw [hw] at B1 ty1 g11 g14 t1 q1 lm1
        have y26 : y = -26 := gw_0 g11 g14
        have oy : opc y = 12 := by rw [y26]; rfl
        show ∃ Xf, Option.bind (if opc y = 12 then _ else _) _ = some Xf ∧ _
        rw [if_pos oy, r_sg ot (by omega) B1.1.1 B1.1.2.1, Option.bind_some]
        have e1 : nI (sk tn tb p) + 1 = nI (sk tn tb p + 1) := nI_add _ 1
        simp only [List.length_cons] at q1 lm1
        have h27 : X4.1 0 27 = nI (w'.length + 1) := by rw [B1.2.2.2.2.1.1]; simp
        have h25 : X4.1 0 25 = nI (1 + cn w') := by rw [B1.2.2.2.1.1, cn, if_pos (Or.inr y26)]
        have es : nI (w'.length + 1) - 1 = nI w'.length := by
          have := nI_sub (a := w'.length + 1) (b := 1) (by omega)
          rw [show (1 : Int32) = nI 1 from rfl, this]; congr 1
        have ec : nI (1 + cn w') - 1 = nI (cn w') := by
          have := nI_sub (a := 1 + cn w') (b := 1) (by omega)
          rw [show (1 : Int32) = nI 1 from rfl, this]; congr 1; omega
        by_cases c9 : tkS tn tb (sk tn tb p) = 9
        · have hte : tkE tn tb (sk tn tb p) = sk tn tb p + 1 ∧ sk tn tb p < tn := tk_m (by rw [c9]; decide)
          obtain ⟨S1, s1, s2⟩ := k2 c9 y w' (by rw [(pe 1 (by omega)).2, hw])
          rw [(pe 1 (by omega)).1, hte.1] at s2
          rw [if_pos ((mk_cls ot).mpr c9), Option.bind_some, B1.1.2.1, e1, wI_nj (by omega), h27, es, wI_nj (by omega), wI_nj (by omega), h25, ec, Option.bind_some]
          dsimp only
          have R2 : R7 X0 (wI (wI (wI X4 0 20 (nI (sk tn tb p + 1))) 0 27 (nI w'.length)) 0 25 (nI (cn w'))) tn tb (sk tn tb p + 1) n (E ++ (L ++ ex ++ pop 1 wt)) (w'.map opc) (cn w') pa := by
            refine R7.pop1 (o := opc y) (B1.mv (p' := sk tn tb p + 1)) _ (fun a i v => by rw [wI_g, if_neg (by omega), wI_g, if_neg (by omega)]) (wI_self _ _ _ _) (by rw [wI_nj (by omega), wI_self, List.length_map])
          have oT : opT (y :: w') = opT w' := by rw [opT, if_neg (by rw [y26]; decide)]
          rw [oT] at ty1
          obtain ⟨X6, z1, z2⟩ := ihN (sk tn tb p + 1) (sk tn tb p + 1) S1 _ (k + 1) pa 4 (L ++ ex ++ pop 1 wt) [] w' (m + 1) (by omega) (by
            have : cd ++ (L ++ ex ++ pop 1 wt) = cd ++ L ++ (ex ++ pop 1 wt) := by simp only [List.append_assoc]
            rw [this, List.nil_append]; exact s2) (Or.inr rfl) (by rw [List.append_nil]; exact R2) rfl (by omega) (by omega) (by omega) (fun x hx => by cases hx) (tw_t t1) (by rw [List.append_nil]; exact ty1) (by omega)
          exact ⟨X6, z1, z2.tr s1 (by omega)⟩
        · obtain ⟨S1, s1, s2⟩ := k4 c21 c22 (fun z => absurd z c9) (fun _ => by rw [(pe 1 (by omega)).2, hw]; exact List.cons_ne_nil _ _)
          rw [if_neg (fun z => c9 ((mk_cls ot).mp z)), B1.1.2.1, r_flt (x := 0) (e := 0) rfl, Option.bind_some, Option.bind_some, B1.1.2.2, if_pos rfl, Option.bind_some]
          dsimp only
          have e20 : (wI X4 0 21 (nI (1 + 8 * sk tn tb p + 0))).1 0 20 = nI (sk tn tb p) := by rw [wI_nj (by omega)]; exact B1.1.2.1
          rw [e20, e1]
          have F := (((B1.flt (f := 1 + 8 * sk tn tb p + 0) (p' := 0) (by omega)).mv (p' := sk tn tb p + 1) (by omega)).w (i := 27) (x := (wI (wI X4 0 21 (nI (1 + 8 * sk tn tb p + 0))) 0 20 (nI (sk tn tb p + 1))).1 0 27 - 1) (by omega)).w (i := 25) (x := (wI (wI (wI X4 0 21 (nI (1 + 8 * sk tn tb p + 0))) 0 20 (nI (sk tn tb p + 1))) 0 27 ((wI (wI X4 0 21 (nI (1 + 8 * sk tn tb p + 0))) 0 20 (nI (sk tn tb p + 1))).1 0 27 - 1)).1 0 25 - 1) (by omega)
          rw [test_F F (by omega) (by omega)]
          exact ⟨_, rfl, Or.inl ⟨_, S1, by omega, by omega, s1, s2, F⟩⟩
theorem pWN (ot : TpOk tn tb) (hn : n ≤ 5) (hE : E.length ≤ cd.length) : ∀ d, PW S0 X0 tn tb n cl cd E d ∧ PN S0 X0 tn tb n cl cd E d := by
  intro d
  induction d with
  | zero => exact ⟨fun p S X k pa co L wt m h => by omega, fun p q S X k pa st L ex wt m h => by omega⟩
  | succ d ih => exact ⟨pW ot hn hE ih.1 ih.2, pBN ot hn hE ih.1 ih.2⟩
theorem test7 (ot : TpOk tn tb) (hn : n ≤ 5) (hE : E.length ≤ cd.length) {p : Nat} {S X : jS} {k pa : Nat} {co : Int32} {ops : List Int32} {deep : Nat} (hK : K7 S0 S tn tb p 1 1 co cl pa cd []) (hR : R7 X0 X tn tb p n E ops 0 pa) (hp : p ≤ tn) (hkp : k ≤ p) : ∃ X1, f11_test X = some (X1, ()) ∧ OT S0 X0 S X1 tn tb n k p cl cd E := by
  have l := ot.1
  have R1 : R7 X0 (wI X 0 27 0) tn tb p n (E ++ []) (([] : List Int32).map opc) (cn []) pa := by
    obtain ⟨⟨a1, a2, a3⟩, ⟨b1, b2⟩, ⟨c1, c2⟩, ⟨d1, d2⟩, ⟨e1, e2⟩, g⟩ := hR
    rw [List.append_nil]
    exact ⟨⟨a1.w (by omega) (by omega), by rw [wI_nj (by omega)]; exact a2, by rw [wI_nj (by omega)]; exact a3⟩, ⟨by rw [wI_nj (by omega)]; exact b1, by rw [wI_nj (by omega)]; exact b2⟩, ⟨by rw [wI_nj (by omega)]; exact c1, ents_ext (fun i _ _ => ⟨wI_ne (by omega), wI_ne (by omega)⟩) c2⟩, ⟨by rw [wI_nj (by omega)]; exact d1, by rw [wI_nj (by omega)]; exact d2⟩, ⟨wI_self _ _ _ _, trivial⟩, g.w (by omega)⟩
  obtain ⟨X1, x1, x2⟩ := (pWN (S0 := S0) (X0 := X0) (cl := cl) ot hn hE (tn + 1)).1 p S (wI X 0 27 0) k pa co [] [] jF (by omega) (by rw [List.append_nil]; exact hK) R1 hp hkp (fun x hx => by cases hx) rfl (by unfold jF; omega)
  unfold f11_test
  rw [x1, Option.bind_some]
  exact ⟨X1, rfl, x2⟩
end
