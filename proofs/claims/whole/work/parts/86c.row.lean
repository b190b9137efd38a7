/-! row -/
theorem int_4 {x : Int32} (h1 : ¬ x < 0) (h4 : x ≤ 4) : ∃ n, n ≤ 4 ∧ x = nI n := by
  obtain ⟨n, hn, rfl⟩ := nI_of h1
  exact ⟨n, (nI_leI (b := 4) hn (by omega)).mp h4, rfl⟩
theorem k_row {S : jS} {T : jT} {X : jS} (hT : LayC T) (h : INV S T X) (a0 a1 a2 : Int32) : ∃ S1 X1 v, f10_row T S a0 a1 a2 = some (S1, v) ∧ f11_row X a0 a1 a2 = some (X1, v) ∧ INV S1 T X1 := by
  obtain ⟨N, hN, hc, hr, -⟩ := h.get
  obtain ⟨h40, -⟩ := h.rule
  have hG := hN.2.2.1
  have m0 : (0 : Int32).toInt64 = 0 := by decide
  have m1 : (1 : Int32).toInt64 = 1 := by decide
  have m4 : (4 : Int32).toInt64 = 4 := by decide
  unfold f10_row f11_row
  rw [r_in a1 m1 m4, r_in a2 m0 m4]
  rcases arg_cs a0 (G := N 0 2) (by omega) with ⟨g, hg, rfl⟩ | hg
  · rw [(c_in hN hc).1 g hg, (r_still hN hr).1 g hg]
    by_cases hb : (N 0 4).testBit g = true
    · rw [if_pos hb, Option.bind_some, if_neg (show ¬ (1 : Int32) = 0 by decide), Option.bind_some, if_neg (show ¬ (1 : Int32) = 0 by decide), Option.bind_some, Option.bind_some]
      by_cases c1 : 1 ≤ a1 ∧ a1 ≤ 4
      · have d1 : ¬ a1 < 1 := by grind
        have d4 : ¬ 4 < a1 := by grind
        rw [if_pos c1, if_neg (show ¬ (1 : Int32) = 0 by decide), if_neg d1, if_neg d4]
        by_cases c2 : 0 ≤ a2 ∧ a2 ≤ 4
        · have d2 : ¬ a2 < 0 := by grind
          rw [if_pos c2, if_neg (show ¬ (1 : Int32) = 0 by decide), if_neg d2, if_pos c2.2]
          obtain ⟨R, hR, rfl⟩ := int_4 (x := a1) (by grind) c1.2
          obtain ⟨w, hw, rfl⟩ := int_4 (x := a2) d2 c2.2
          have hR1 : 1 ≤ R := (nI_leI (a := 1) (by omega) (by omega)).mp c1.1
          have qw : nI w ≤ nI R ↔ w ≤ R := nI_leI (by omega) (by omega)
          have qw0 : nI w = (0 : Int32) ↔ w = 0 := nI_eqI (b := 0) (by omega) (by omega)
          have pR := pow_le hR
          obtain ⟨X0, x1, x2, x3, x4⟩ := RRun.keep hr hN
          obtain ⟨⟨X1, u, fi⟩, y1, y2, y3, y4, y5, y6⟩ := r_row1 (l3 := nI w) hr hN hg hR x2 (x3.trans h40) x4
          dsimp only at y2 y3 y4 y5 y6
          obtain ⟨f1, f2, f3⟩ := cK_f (g := g) (n := R) (N := N) (6 ^ R)
          have f0 : rQ0 X X1 := y4.1
          rw [x1, Option.bind_some]
          dsimp only
          rw [y1, Option.bind_some]
          dsimp only
          by_cases cw : w ≤ R
          · rw [if_pos (qw.mpr cw), if_pos (qw.mpr cw)]
            have tT : ∀ k, k < 5 → T.1 28 k = some (30 + 7 * k) := fun k hk => by
              have : k = 0 ∨ k = 1 ∨ k = 2 ∨ k = 3 ∨ k = 4 := by omega
              rcases this with e | e | e | e | e <;> subst e
              · exact hT.2.2.1 (28, 0, 30) (by decide)
              · exact hT.2.2.1 (28, 1, 37) (by decide)
              · exact hT.2.2.1 (28, 2, 44) (by decide)
              · exact hT.2.2.1 (28, 3, 51) (by decide)
              · exact hT.2.2.1 (28, 4, 58) (by decide)
            have hcw : HIs (hC (wI S 20 5 0) (100 + 8)) N := hc.mono (fun a i u v => wI_ne (by omega))
            have hqw : cQ S (wI S 20 5 0) := fun a i u v => wI_ne (by omega)
            have hcp := CRun.cp (o := 30) (a0 := 100 + 8) hqw hN hcw (by omega) (by omega) (by omega)
            have h20 : (cpF (wI S 20 5 0) 30 (100 + 8)).1 20 5 = 0 := by rw [cp_fr (by omega) (by omega), wI_self]
            obtain ⟨S1, s1, s2, s3, s4, s5⟩ := c_rows (S := S) (T := T) (R := R) (g := g) hR1 hR tT R 0 (cpF (wI S 20 5 0) 30 (100 + 8)) N 5 (by omega) (by omega) hcp.1 hN hcp.2.1 hg (Or.inl h20)
            have cr : f2_countRows T S (100 + 8) (nI g) (nI R) = some (S1, nI (cK g R N (6 ^ R))) := by
              unfold f2_countRows
              rw [cp_eq, Option.bind_some]
              dsimp only
              rw [show f2_rF T 5 (cpF (wI S 20 5 0) 30 (100 + 8)) 0 (nI R) (nI g) = some (S1, nI (cK g R N (6 ^ R))) from s1, Option.bind_some]
            rw [cr, Option.bind_some]
            dsimp only
            by_cases cw0 : w = 0
            · rw [if_pos (qw0.mpr cw0), if_pos (qw0.mpr cw0)]
              exact ⟨S1, X1, u, by rw [y2], rfl, h.end s2 f0 y6 (y5.trans h40.symm)⟩
            · rw [if_neg (fun z => cw0 (qw0.mp z)), if_neg (fun z => cw0 (qw0.mp z))]
              have qc : nI (cK g R N (6 ^ R)) = (0 : Int32) ↔ cK g R N (6 ^ R) = 0 := nI_eqI (b := 0) (by omega) (by omega)
              by_cases ck : cK g R N (6 ^ R) = 0
              · have fz := f1.mp ck
                rw [if_pos (qc.mpr ck), y3, fz, if_pos (by decide)]
                exact ⟨S1, X1, -2, rfl, rfl, h.end s2 f0 y6 (y5.trans h40.symm)⟩
              · have fz : fK1 g R N (6 ^ R) ≠ 0 := fun z => ck (f1.mpr z)
                have ef : nI (fK1 g R N (6 ^ R)) - 1 = nI (fK1 g R N (6 ^ R) - 1) := nI_sub (b := 1) (by omega)
                have ew : nI w - 1 = nI (w - 1) := nI_sub (b := 1) (by omega)
                have er : nI R - nI w = nI (R - w) := nI_sub cw
                have pw := pow_le (n := R - w) (by omega)
                have hpw : 0 < 6 ^ (R - w) := Nat.pos_of_ne_zero (by simp)
                have ed : nI (fK1 g R N (6 ^ R) - 1) / nI (6 ^ (R - w)) = nI ((fK1 g R N (6 ^ R) - 1) / 6 ^ (R - w)) := nI_div (by omega) (by omega)
                have hd : (fK1 g R N (6 ^ R) - 1) / 6 ^ (R - w) ≤ fK1 g R N (6 ^ R) - 1 := Nat.div_le_self _ _
                have e1 : 1 + nI ((fK1 g R N (6 ^ R) - 1) / 6 ^ (R - w) % 6) = nI (1 + (fK1 g R N (6 ^ R) - 1) / 6 ^ (R - w) % 6) := nI_add 1 _
                have n1 : ¬ nI (fK1 g R N (6 ^ R) - 1) = (-1 : Int32) := fun z => by
                  have z0 : (0 : Int32) ≤ nI (fK1 g R N (6 ^ R) - 1) := by rw [show (0 : Int32) = nI 0 from rfl, nI_leI (by omega) (by omega)]; omega
                  rw [z] at z0; exact absurd z0 (by decide)
                rw [if_neg (fun z => ck (qc.mp z)), y3, ef, if_neg n1, er, r_pow (by omega), Option.bind_some, if_pos (fun z => by have := nI_j (b := 0) (by omega) (by omega) z; omega), ed, irm_6 (by omega), e1, ew, inbk (by omega) (by omega), if_pos rfl, nI_clamp (by omega)]
                obtain ⟨z1, z2, z3⟩ := (s4.2 h20).2 fz
                have z4 := z3 (R - w) (by omega)
                rw [show R - 1 - (R - w) = w - 1 by omega] at z4
                exact ⟨S1, X1, _, by rw [z4], rfl, h.end s2 f0 y6 (y5.trans h40.symm)⟩
          · have cw0 : ¬ w = 0 := by omega
            rw [if_neg (fun z => cw (qw.mp z)), if_neg (fun z => cw0 (qw0.mp z)), if_neg (fun z => cw (qw.mp z))]
            exact ⟨S, X1, -1, rfl, rfl, h.end (cQ.rf S) f0 y6 (y5.trans h40.symm)⟩
        · rw [if_neg c2, if_pos rfl]
          refine ⟨S, X, -3, ?_, rfl, h⟩
          by_cases d : a2 < 0
          · rw [if_pos d]
          · rw [if_neg d, if_neg (by grind)]
      · rw [if_neg c1, if_pos rfl]
        refine ⟨S, X, -3, ?_, rfl, h⟩
        by_cases d : a1 < 1
        · rw [if_pos d]
        · rw [if_neg d, if_pos (by grind)]
    · rw [if_neg hb, Option.bind_some, if_pos rfl, Option.bind_some, if_pos rfl]
      exact ⟨S, X, -3, rfl, rfl, h⟩
  · rw [(c_in hN hc).2 a0 hg, (r_still hN hr).2 a0 hg, Option.bind_some, if_pos rfl, Option.bind_some, if_pos rfl]
    exact ⟨S, X, -3, rfl, rfl, h⟩
