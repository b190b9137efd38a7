/-! rows of beats: the class's recursion -/
theorem c_rows {S : jS} {T : jT} {R g : Nat} (hR1 : 1 ≤ R) (hR : R ≤ 4) (hT : ∀ k, k < 5 → T.1 28 k = some (30 + 7 * k)) : ∀ n D S' N m, D + n = R → n < m → cQ S S' → NOk N → HIs (hC S' (30 + 7 * D)) N → g < N 0 2 → (S'.1 20 5 = 0 ∨ S'.1 20 5 = 1) → ∃ S1, f2_rF T m S' (nI D) (nI R) (nI g) = some (S1, nI (cK g n N (6 ^ n))) ∧ cQ S S1 ∧ rwF S' S1 D ∧ rwH S' S1 D R (fK1 g n N (6 ^ n)) n ∧ (S1.1 20 5 = 0 ∨ S1.1 20 5 = 1) := by
  intro n
  induction n with
  | zero =>
    intro D S' N m hd hm hq hN hH hg hh
    obtain ⟨m, rfl⟩ : ∃ m', m = m' + 1 := ⟨m - 1, by omega⟩
    have hcl : (nI D).toNatClampNeg = D := nI_clamp (by omega)
    rw [f2_rF, f2_rowsB, if_neg (by rw [show (0 : Int32) = nI 0 from rfl, nI_ltI (by omega) (by omega)]; omega), if_neg (by rw [show (4 : Int32) = nI 4 from rfl, nI_ltI (by omega) (by omega)]; omega), inbk (by omega) (by omega), if_pos rfl, hcl, hT D (by omega), Option.bind_some, (c_in hN hH).1 g hg, Option.bind_some]
    by_cases c : (N 0 4).testBit g = true
    · obtain ⟨S1, a1, a2⟩ := c_rest (N := N) (g := g) hR hd hq hh (fun c' _ => c)
      rw [if_pos c, if_neg (by decide), if_pos (by rw [nI_leI (by omega) (by omega)]; omega), a1, Option.bind_some]
      exact ⟨S1, rfl, a2⟩
    · have c' : tI N g = false := by unfold tI; simpa using c
      obtain ⟨k1, k2⟩ := cK_out (n := 0) c' (6 ^ 0)
      rw [if_neg c, if_pos rfl, k1, k2]
      exact ⟨S', rfl, hq, ⟨fun _ _ _ _ => rfl, fun _ _ => rfl⟩, ⟨fun z => ⟨z, fun _ _ => rfl⟩, fun z => ⟨fun _ => z, fun y => absurd rfl y⟩⟩, hh⟩
  | succ n ih =>
    intro D S' N m hd hm hq hN hH hg hh
    obtain ⟨m, rfl⟩ : ∃ m', m = m' + 1 := ⟨m - 1, by omega⟩
    have hcl : (nI D).toNatClampNeg = D := nI_clamp (by omega)
    have e1 : nI D + 1 = nI (D + 1) := nI_add _ 1
    have pn := pow_le (n := n) (by omega)
    have hpn : 0 < 6 ^ n := Nat.pos_of_ne_zero (by simp)
    have p6 : 6 ^ (n + 1) = 6 * 6 ^ n := by rw [Nat.pow_succ, Nat.mul_comm]
    rw [f2_rF, f2_rowsB, if_neg (by rw [show (0 : Int32) = nI 0 from rfl, nI_ltI (by omega) (by omega)]; omega), if_neg (by rw [show (4 : Int32) = nI 4 from rfl, nI_ltI (by omega) (by omega)]; omega), inbk (by omega) (by omega), if_pos rfl, hcl, hT D (by omega), Option.bind_some, (c_in hN hH).1 g hg, Option.bind_some]
    by_cases c : (N 0 4).testBit g = true
    · rw [if_pos c, if_neg (by decide), if_neg (by rw [nI_leI (by omega) (by omega)]; omega), if_neg (fun z => by have := nI_j (b := 4) (by omega) (by omega) z; omega)]
      by_cases hv : ovB N = true
      · obtain ⟨S1, a1, a2⟩ := c_rest (N := N) (g := g) hR hd hq hh (fun c' _ => stB_ov hv c)
        rw [(c_over hN hH).1 (ovB_t.mp hv), Option.bind_some, if_neg (by decide), a1, Option.bind_some]
        exact ⟨S1, rfl, a2⟩
      · rw [(c_over hN hH).2 (fun z => hv (ovB_t.mpr z)), Option.bind_some, if_pos rfl]
        have erb : ∀ b, rbb N b = rnd N b := fun b => by unfold rbb; rw [if_neg hv]
        obtain ⟨⟨S1, v⟩, hr, hp1, hp2, hp3, hp4, hp5⟩ := lp_up (G := 6) (Post := fun r : jS × Int32 => r.2 = nI (cK g (n + 1) N (6 * 6 ^ n)) ∧ cQ S r.1 ∧ rwF S' r.1 D ∧ rwH S' r.1 D R (fK1 g (n + 1) N (6 * 6 ^ n)) (n + 1) ∧ (r.1.1 20 5 = 0 ∨ r.1.1 20 5 = 1)) (fun m' j (A : jS × Int32) => f2_rowsFrom_L1 (f2_rF T m) T (nI D) (nI R) (nI g) m' A.1 A.2 (nI (j + 1))) (fun j A => A.2 = nI (cK g (n + 1) N (j * 6 ^ n)) ∧ cQ S A.1 ∧ rwF S' A.1 D ∧ rwH S' A.1 D R (fK1 g (n + 1) N (j * 6 ^ n)) (n + 1) ∧ (A.1.1 20 5 = 0 ∨ A.1.1 20 5 = 1)) (by
          rintro m' j ⟨Sj, l4⟩ hj ⟨rfl, i1, i2, i3, i4⟩
          left
          dsimp only at i1 i2 i3 i4
          have ej : nI (j + 1) + 1 = nI (j + 1 + 1) := nI_add _ 1
          have hHj : HIs (hC Sj (30 + 7 * D)) N := hH.mono (fun a i u v => i2.1 a i (by omega) (by omega))
          have hHw : HIs (hC (wI Sj 65 D (nI (j + 1))) (30 + 7 * D)) N := hHj.mono (fun a i u v => wI_ne (by omega))
          have hqw : cQ S (wI Sj 65 D (nI (j + 1))) := i1.tr (fun a i u v => wI_ne (by omega))
          have hcp := CRun.cp (o := 30 + 7 * (D + 1)) (a0 := 30 + 7 * D) hqw hN hHw (by omega) (by omega) (by omega)
          obtain ⟨Sr, r1, r2, r3⟩ := hcp.of (b := j + 1) (by omega) (by omega) (by omega)
          have r2' := r2.2.1
          have erj : rnd N (j + 1) = rbb N (1 + j) := by rw [erb, Nat.add_comm]
          rw [erj] at r2' r1
          have hN1 : NOk (rbb N (1 + j)) := rbb_ok hN (by omega)
          have s2 : (rbb N (1 + j)) 0 2 = N 0 2 := (rbb_sam N (1 + j)).1.2.2.1
          have fr : ∀ a i, a ≠ 17 → a ≠ 18 → a ≠ 19 → (a < 30 + 7 * (D + 1) ∨ 30 + 7 * (D + 1) + 6 < a) → ¬ (a = 65 ∧ i = D) → Sr.1 a i = Sj.1 a i := fun a i u1 u2 u3 u4 u5 => by
            rw [r3 a i u1 u2 u3 u4, cp_fr (by omega) (by omega), wI_g, if_neg u5]
          have v65 : Sr.1 65 D = nI (j + 1) := by
            rw [r3 _ _ (by omega) (by omega) (by omega) (by omega), cp_fr (by omega) (by omega), wI_self]
          have f20 : Sr.1 20 5 = Sj.1 20 5 := fr _ _ (by omega) (by omega) (by omega) (by omega) (by omega)
          obtain ⟨St, t1, t2, t3, t4, t5⟩ := ih (D + 1) Sr (rbb N (1 + j)) m (by omega) (by omega) r2.1 hN1 r2' (by rw [s2]; exact hg) (by rw [f20]; exact i4)
          obtain ⟨b1, b2⟩ := cK_blk (g := g) (n := n) (N := N) hj (6 ^ n) (Nat.le_refl _)
          have ejn : j * 6 ^ n + 6 ^ n = (j + 1) * 6 ^ n := by rw [Nat.add_mul, Nat.one_mul]
          rw [ejn] at b1 b2
          obtain ⟨-, fl1, fl2⟩ := cK_f (g := g) (n := n) (N := rbb N (1 + j)) (6 ^ n)
          have es : nI (cK g (n + 1) N (j * 6 ^ n)) + nI (cK g n (rbb N (1 + j)) (6 ^ n)) = nI (cK g (n + 1) N ((j + 1) * 6 ^ n)) := by rw [b1]; exact nI_add _ _
          refine ⟨(St, nI (cK g (n + 1) N ((j + 1) * 6 ^ n))), ?_, rfl, t2, ⟨fun a i u v => ?_, fun k hk => ?_⟩, ?_, t5⟩
          · show f2_rowsFrom_L1 (f2_rF T m) T (nI D) (nI R) (nI g) (m' + 1) Sj (nI (cK g (n + 1) N (j * 6 ^ n))) (nI (j + 1)) = f2_rowsFrom_L1 (f2_rF T m) T (nI D) (nI R) (nI g) m' St (nI (cK g (n + 1) N ((j + 1) * 6 ^ n))) (nI (j + 1 + 1))
            rw [f2_rowsFrom_L1, if_neg (by rw [show (6 : Int32) = nI 6 from rfl, nI_ltI (by omega) (by omega)]; omega), inbk (by omega) (by omega), if_pos rfl, e1, inbk (by omega) (by omega), if_pos rfl, inbk (by omega) (by omega), if_pos rfl, nI_clamp (by omega), nI_clamp (by omega), hT (D + 1) (by omega), Option.bind_some, hT D (by omega), Option.bind_some, cp_eq, Option.bind_some]
            dsimp only
            rw [r1, Option.bind_some]
            dsimp only
            rw [t1, Option.bind_some]
            dsimp only
            rw [es, ej]
          · rw [t3.1 a i u (by omega), fr a i (by omega) (by omega) (by omega) (by omega) (by omega)]; exact i2.1 a i u v
          · rw [t3.2 k (by omega), fr 65 k (by omega) (by omega) (by omega) (by omega) (by omega)]; exact i2.2 k hk
          · -- the first row
            refine ⟨fun z => ?_, fun z => ⟨fun y => ?_, fun y => ?_⟩⟩
            · obtain ⟨z1, z2⟩ := i3.1 z
              obtain ⟨y1, y2⟩ := t4.1 (by rw [f20]; exact z1)
              exact ⟨y1, fun k hk => by rw [y2 k hk, fr 66 k (by omega) (by omega) (by omega) (by omega) (by omega)]; exact z2 k hk⟩
            · obtain ⟨i31, i32⟩ := i3.2 z
              rw [b2] at y
              by_cases c0 : fK1 g (n + 1) N (j * 6 ^ n) = 0
              · rw [if_pos c0] at y
                by_cases d0 : fK1 g n (rbb N (1 + j)) (6 ^ n) = 0
                · exact (t4.2 (by rw [f20]; exact i31 c0)).1 d0
                · rw [if_neg d0] at y; omega
              · rw [if_neg c0] at y; exact absurd y c0
            · obtain ⟨i31, i32⟩ := i3.2 z
              rw [b2] at y ⊢
              by_cases c0 : fK1 g (n + 1) N (j * 6 ^ n) = 0
              · rw [if_pos c0] at y ⊢
                by_cases d0 : fK1 g n (rbb N (1 + j)) (6 ^ n) = 0
                · rw [if_pos d0] at y; exact absurd rfl y
                · rw [if_neg d0]
                  obtain ⟨y1, y2, y3⟩ := (t4.2 (by rw [f20]; exact i31 c0)).2 d0
                  have hf1 : j * 6 ^ n + fK1 g n (rbb N (1 + j)) (6 ^ n) - 1 = j * 6 ^ n + (fK1 g n (rbb N (1 + j)) (6 ^ n) - 1) := by omega
                  refine ⟨y1, fun k hk => ?_, fun q hq => ?_⟩
                  · rw [y2 k (by omega), fr 65 k (by omega) (by omega) (by omega) (by omega) (by omega)]; exact i2.2 k hk
                  · rw [hf1]
                    by_cases e : q = n
                    · subst e
                      have eR : R - 1 - q = D := by omega
                      rw [eR, y2 D (by omega), v65, dig_hi hj (by omega), Nat.add_comm]
                    · rw [y3 q (by omega), dig_lo (by omega)]
              · rw [if_neg c0]
                obtain ⟨z1, z2, z3⟩ := i32 c0
                obtain ⟨y1, y2⟩ := t4.1 (by rw [f20]; exact z1)
                refine ⟨y1, fun k hk => ?_, fun q hq => ?_⟩
                · rw [y2 k (by omega), fr 66 k (by omega) (by omega) (by omega) (by omega) (by omega)]; exact z2 k hk
                · rw [y2 _ (by omega), fr 66 _ (by omega) (by omega) (by omega) (by omega) (by omega)]; exact z3 q hq) (by
          rintro m' ⟨Sj, l4⟩ ⟨h1, h2⟩
          refine ⟨(Sj, l4), ?_, h1, h2⟩
          show f2_rowsFrom_L1 (f2_rF T m) T (nI D) (nI R) (nI g) (m' + 1) Sj l4 (nI (6 + 1)) = _
          rw [f2_rowsFrom_L1, if_pos (by decide)]) jF 0 (S', 0) (Nat.zero_le _) (by unfold jF; omega) ⟨by rw [Nat.zero_mul]; rfl, hq, ⟨fun _ _ _ _ => rfl, fun _ _ => rfl⟩, by
            rw [Nat.zero_mul]
            exact ⟨fun z => ⟨z, fun _ _ => rfl⟩, fun z => ⟨fun _ => z, fun y => absurd rfl y⟩⟩, hh⟩
        rw [show f2_rowsFrom_L1 (f2_rF T m) T (nI D) (nI R) (nI g) jF S' 0 1 = some (S1, v) from hr, Option.bind_some]
        dsimp only at hp1 hp2 hp3 hp4 hp5
        rw [p6, hp1]
        exact ⟨S1, rfl, hp2, hp3, hp4, hp5⟩
    · have c' : tI N g = false := by unfold tI; simpa using c
      obtain ⟨k1, k2⟩ := cK_out (n := n + 1) c' (6 ^ (n + 1))
      rw [if_neg c, if_pos rfl, k1, k2]
      exact ⟨S', rfl, hq, ⟨fun _ _ _ _ => rfl, fun _ _ => rfl⟩, ⟨fun z => ⟨z, fun _ _ => rfl⟩, fun z => ⟨fun _ => z, fun y => absurd rfl y⟩⟩, hh⟩
