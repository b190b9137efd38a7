/-! a value, the reference -/
section
variable {X0 X : jS} {tn : Nat} {tb : Nat → Nat} {p n : Nat} {E ops : List Int32} {deep cnt f : Nat}
theorem sk_lt1 {p : Nat} (l : tn ≤ 400) (h : p ≤ tn + 1) : sk tn tb p ≤ tn + 1 := by
  by_cases c : p ≤ tn
  · have := sk_le (tb := tb) c; omega
  · unfold sk; rw [run_no (by omega)]; exact h
theorem tkE_1 {s : Nat} (h : s ≤ tn + 1) : tkE tn tb s ≤ tn + 1 := by
  by_cases c : s < tn
  · have := tk_step (tb := tb) c; omega
  · unfold tkE; rw [if_pos (by omega)]; exact h
theorem vx_num {s : Nat} (h : tkS tn tb s = 3) : vx tn tb s = nI (tkV tn tb s) ∧ (0 : Int32) = enS (vx tn tb s) ∧ nI (tkV tn tb s) = enN (vx tn tb s) := by
  have hv := tkV_le h
  have e : vx tn tb s = nI (tkV tn tb s) := by unfold vx; rw [if_pos h]
  have h0 : (0 : Int32) ≤ nI (tkV tn tb s) := by rw [show (0 : Int32) = nI 0 from rfl, nI_leI (by omega) (by omega)]; omega
  refine ⟨e, ?_, ?_⟩
  · rw [e]; unfold enS; rw [if_pos h0]
  · rw [e]; unfold enN; rw [if_pos h0]
theorem r_val (ot : TpOk tn tb) (hn : n ≤ 5) (h : R7 X0 X tn tb p n E ops deep cnt) (hp : p ≤ tn) (hl : E.length < 300) (hc : cnt ≤ 60) : ∃ X1, f11_value X = some (X1, ()) ∧ (vf tn tb (sk tn tb p) cnt = none → R7 X0 X1 tn tb (tkE tn tb (sk tn tb p)) n (E ++ [vx tn tb (sk tn tb p)]) ops deep (cnt + 1)) ∧ (∀ e, vf tn tb (sk tn tb p) cnt = some e → RF7 X0 X1 tn tb n (1 + 8 * sk tn tb p + e)) := by
  have l := ot.1
  have hk2 := sk_le (tb := tb) hp
  obtain ⟨Xb, b1, b2, b3⟩ := r_blk ot (by omega) h.1.1 h.1.2.1
  have hb : R7 X0 Xb tn tb (sk tn tb p) n E ops deep cnt := h.mv' b3 b2
  have rb := hb.1.1
  unfold f11_value
  rw [b1, Option.bind_some]
  dsimp only
  rw [r_dgt ot (by omega) rb b2, Option.bind_some, b2]
  generalize sk tn tb p = s at *
  by_cases cd : s < tn ∧ isD (tb s) = true
  · have ht := tk_dig.mp cd
    obtain ⟨t1, t2⟩ := tk_lo ht
    obtain ⟨X1, d1, d2, d3, d4⟩ := r_dig ot (by omega) rb b2 cd
    have re := (run_le (f := isD) (tb := tb) (Nat.le_of_lt cd.1)).2
    rw [if_pos cd, if_neg (by decide), d1, Option.bind_some]
    dsimp only
    rw [hb.1.2.2] at d3
    by_cases c5 : 5 < run isD tn tb s - s
    · have h4 : tkS tn tb s = 4 := by rcases ht with h | h; (· have := t1.mp h; omega); (· exact h)
      rw [if_pos ⟨rfl, c5⟩] at d3
      have hvf : vf tn tb s cnt = some 1 := by
        unfold vf
        rw [if_neg (by rw [h4]; decide), if_pos h4]
      have F : RF7 X0 X1 tn tb n (1 + 8 * s + 1) := ⟨pf.tp (fun a i u v => d4 a i u v) rb, ⟨_, by omega, d2⟩, d3, (d4 _ _ (by omega) (by omega)).trans hb.2.1.2, hb.2.2.2.2.2.pf (fun a i u v => d4 a i u v)⟩
      obtain ⟨X2, g1, g2, -⟩ := r_cntF (x := nI s) F (by omega) (by omega)
      rw [g1, Option.bind_some]
      dsimp only
      rw [r_entF g2 (by omega) (by omega), Option.bind_some]
      refine ⟨X2, rfl, fun z => ?_, fun e z => ?_⟩
      · rw [hvf] at z; cases z
      · rw [hvf] at z; obtain rfl := Option.some.inj z; exact g2
    · have h3 : tkS tn tb s = 3 := t1.mpr (by omega)
      rw [if_neg (fun y => c5 y.2)] at d3
      have hvf : vf tn tb s cnt = if cnt < 60 then none else some 3 := by
        unfold vf
        rw [if_pos (Or.inl h3)]
      have X1eq : R7 X0 X1 tn tb (tkE tn tb s) n E ops deep cnt := by
        rw [t2]
        exact hb.mv' (fun a i u => by
          by_cases c : a = 0 ∧ i = 21
          · obtain ⟨rfl, rfl⟩ := c; rw [d3, hb.1.2.2]
          · exact d4 a i u c) d2
      obtain ⟨v1, v2, v3⟩ := vx_num h3
      obtain ⟨w1, w2⟩ := r_cnt (s := s) X1eq (by rw [t2]; omega) hc
      by_cases c : cnt < 60
      · obtain ⟨X2, g1, g2⟩ := w1 c
        obtain ⟨X3, g3, g4⟩ := r_ent (x := vx tn tb s) (k := 0) (y := nI (tkV tn tb s)) g2 hl hn v2 v3
        rw [g1, Option.bind_some]
        dsimp only
        rw [g3, Option.bind_some]
        refine ⟨X3, rfl, fun _ => g4, fun e z => ?_⟩
        rw [hvf, if_pos c] at z; cases z
      · obtain ⟨X2, g1, g2, -⟩ := w2 (by omega)
        rw [g1, Option.bind_some]
        dsimp only
        rw [r_entF g2 (by omega) (by omega), Option.bind_some]
        refine ⟨X2, rfl, fun z => ?_, fun e z => ?_⟩
        · rw [hvf, if_neg c] at z; cases z
        · rw [hvf, if_neg c] at z; obtain rfl := Option.some.inj z; exact g2
  · have n3 : ¬ tkS tn tb s = 3 := fun z => cd (tk_dig.mpr (Or.inl z))
    have n4 : ¬ tkS tn tb s = 4 := fun z => cd (tk_dig.mpr (Or.inr z))
    rw [if_neg cd, if_pos rfl]
    obtain ⟨y, y1, y2, y3, y4⟩ := r_vl (X := Xb) (l1 := nI s) (s := s) ot (by omega) rb b2 hb.2.1.2 jF 0 (by unfold jF; omega) (by omega) (fun j hj => by omega)
    rw [show f11_value_L1 Xb (nI s) jF 0 = some (nI y) from y2, Option.bind_some, hb.2.1.2]
    have q10 : nI y = (10 : Int32) ↔ y = 10 := nI_eqI (b := 10) (by omega) (by omega)
    by_cases c : y = 10
    · have hno := y4 c
      have hvf : vf tn tb s cnt = some 0 := by
        unfold vf
        rw [if_neg (by rintro (z | z); (· exact n3 z); (· exact hno z)), if_neg n4]
      rw [if_pos (q10.mpr c), r_flt (x := 0) (e := 0) rfl, Option.bind_some, hb.1.2.2, if_pos rfl]
      refine ⟨_, rfl, fun z => ?_, fun e z => ?_⟩
      · rw [hvf] at z; cases z
      · rw [hvf] at z; obtain rfl := Option.some.inj z; exact hb.flt (p' := 0) (by omega)
    · have hz := y3 (by omega)
      have hq : ∀ k, k < 10 → wT.getD k (0, 0) ∈ wT ∧ f11_wordOf (nI k) = some (wT.getD k (0, 0)).1 ∧ (wT.getD k (0, 0)).2 = -1 - nI k ∧ (-10 ≤ -1 - nI k ∧ -1 - nI k < 0) := by decide +kernel
      obtain ⟨q1, q2, q3, q4⟩ := hq y (by omega)
      rw [← hz] at q3 q4
      have tw := (tk_w ot q1 q3.symm).1
      obtain ⟨j, j1, j2, j3, j4⟩ := w10 q4
      have ej : nI j = nI y := by rw [hz] at j2; grind
      have ev : vx tn tb s = tkS tn tb s := by unfold vx; rw [if_neg n3]
      have hvf : vf tn tb s cnt = if cnt < 60 then none else some 3 := by
        unfold vf
        rw [if_pos (Or.inr q4)]
      have ep : nI s + slen (wT.getD y (0, 0)).1 = nI (tkE tn tb s) := by rw [tw]; exact nI_add _ _
      have hst : tkE tn tb s ≤ tn := (tk_step (tb := tb) (tk_w ot q1 q3.symm).2).2
      rw [if_neg (fun z => c (q10.mp z)), q2]
      obtain ⟨w1, w2⟩ := r_cnt (s := s) hb (by omega) hc
      by_cases cc : cnt < 60
      · obtain ⟨X2, g1, g2⟩ := w1 cc
        have g2' := g2.mv (p' := tkE tn tb s)
        obtain ⟨X3, g3, g4⟩ := r_ent (x := vx tn tb s) (k := 1) (y := nI y) g2' hl hn (by rw [ev, j3]) (by rw [ev, j4, ej])
        rw [g1, Option.bind_some, Option.bind_some]
        dsimp only
        rw [g2.1.2.1, ep, g3, Option.bind_some]
        refine ⟨X3, rfl, fun _ => g4, fun e z => ?_⟩
        rw [hvf, if_pos cc] at z; cases z
      · obtain ⟨X2, g1, g2, g2p⟩ := w2 (by omega)
        have g2' := g2.mv (p' := tkE tn tb s) (by omega)
        rw [g1, Option.bind_some, Option.bind_some]
        dsimp only
        rw [g2p, ep, r_entF g2' (by omega) (by omega), Option.bind_some]
        refine ⟨_, rfl, fun z => ?_, fun e z => ?_⟩
        · rw [hvf, if_neg cc] at z; cases z
        · rw [hvf, if_neg cc] at z; obtain rfl := Option.some.inj z; exact g2'
/-- behind a fault nothing but the place goes on: blanks, a value, a term, a sum -/
theorem r_blkF (ot : TpOk tn tb) (h : RF7 X0 X tn tb n f) : ∃ X1, f11_blanks X = some (X1, ()) ∧ RF7 X0 X1 tn tb n f := by
  have l := ot.1
  obtain ⟨q, q1, q2⟩ := h.2.1
  obtain ⟨Xb, b1, b2, b3⟩ := r_blk ot (by omega) h.1 q2
  exact ⟨Xb, b1, h.mv' b3 b2 (sk_lt1 l q1)⟩
theorem r_valF (ot : TpOk tn tb) (h : RF7 X0 X tn tb n f) (hf : f ≠ 0) (hf2 : f < 2 ^ 31) : ∃ X1, f11_value X = some (X1, ()) ∧ RF7 X0 X1 tn tb n f := by
  have l := ot.1
  obtain ⟨Xb, b1, hb⟩ := r_blkF ot h
  obtain ⟨s, s1, s2⟩ := hb.2.1
  have rb := hb.1
  have hne : Xb.1 0 21 ≠ 0 := by rw [hb.2.2.1]; exact fun z => hf (nI_j (b := 0) hf2 (by omega) z)
  unfold f11_value
  rw [b1, Option.bind_some]
  dsimp only
  rw [r_dgt ot (by omega) rb s2, Option.bind_some, s2]
  by_cases cd : s < tn ∧ isD (tb s) = true
  · obtain ⟨X1, d1, d2, d3, d4⟩ := r_dig ot (by omega) rb s2 cd
    have re := (run_le (f := isD) (tb := tb) (Nat.le_of_lt cd.1)).2
    rw [if_neg (fun y => hne y.1)] at d3
    rw [if_pos cd, if_neg (by decide), d1, Option.bind_some]
    dsimp only
    have F : RF7 X0 X1 tn tb n f := hb.mv' (fun a i u => by
      by_cases c : a = 0 ∧ i = 21
      · obtain ⟨rfl, rfl⟩ := c; exact d3
      · exact d4 a i u c) d2 (by omega)
    obtain ⟨X2, g1, g2, -⟩ := r_cntF (x := nI s) F hf hf2
    rw [g1, Option.bind_some]
    dsimp only
    rw [r_entF g2 hf hf2, Option.bind_some]
    exact ⟨X2, rfl, g2⟩
  · rw [if_neg cd, if_pos rfl]
    obtain ⟨y, y1, y2, y3, y4⟩ := r_vl (X := Xb) (l1 := nI s) (s := s) ot (by omega) rb s2 hb.2.2.2.1 jF 0 (by unfold jF; omega) (by omega) (fun j hj => by omega)
    rw [show f11_value_L1 Xb (nI s) jF 0 = some (nI y) from y2, Option.bind_some, hb.2.2.2.1]
    have q10 : nI y = (10 : Int32) ↔ y = 10 := nI_eqI (b := 10) (by omega) (by omega)
    by_cases c : y = 10
    · have e : f11_fails Xb 0 (nI s) = some (wI Xb 0 21 (Xb.1 0 21), ()) := by unfold f11_fails; rw [if_neg hne]
      rw [if_pos (q10.mpr c), e, Option.bind_some]
      obtain ⟨a1, ⟨q, a2, a3⟩, a4, a5, a6⟩ := hb
      exact ⟨_, rfl, a1.w (by omega) (by omega), ⟨q, a2, by rw [wI_nj (by omega)]; exact a3⟩, by rw [wI_self]; exact a4, by rw [wI_nj (by omega)]; exact a5, a6.w (by omega)⟩
    · have hz := y3 (by omega)
      have hq : ∀ k, k < 10 → wT.getD k (0, 0) ∈ wT ∧ f11_wordOf (nI k) = some (wT.getD k (0, 0)).1 ∧ (wT.getD k (0, 0)).2 = -1 - nI k := by decide +kernel
      obtain ⟨q1, q2, q3⟩ := hq y (by omega)
      rw [← hz] at q3
      have tw := (tk_w ot q1 q3.symm).1
      have ep : nI s + slen (wT.getD y (0, 0)).1 = nI (tkE tn tb s) := by rw [tw]; exact nI_add _ _
      obtain ⟨X2, g1, g2, g3⟩ := r_cntF (x := nI s) hb hf hf2
      have g2' := g2.mv (p' := tkE tn tb s) (tkE_1 s1)
      rw [if_neg (fun z => c (q10.mp z)), q2, g1, Option.bind_some, Option.bind_some]
      dsimp only
      rw [g3, s2, ep, r_entF g2' hf hf2, Option.bind_some]
      exact ⟨_, rfl, g2'⟩
theorem r_trmF (ot : TpOk tn tb) (h : RF7 X0 X tn tb n f) (hf : f ≠ 0) (hf2 : f < 2 ^ 31) : ∃ X1, f11_term X = some (X1, ()) ∧ RF7 X0 X1 tn tb n f := by
  obtain ⟨X1, a1, a2⟩ := r_valF ot h hf hf2
  obtain ⟨X2, b1, b2⟩ := r_blkF ot a2
  have hF : jF = 4999 + 1 := rfl
  unfold f11_term
  rw [a1, Option.bind_some]
  dsimp only
  rw [b1, Option.bind_some]
  dsimp only
  rw [hF, f11_term_L1, if_neg (by rw [b2.2.2.1]; exact fun z => hf (nI_j (b := 0) hf2 (by omega) z)), Option.bind_some]
  exact ⟨X2, rfl, b2⟩
theorem r_sumF (ot : TpOk tn tb) (h : RF7 X0 X tn tb n f) (hf : f ≠ 0) (hf2 : f < 2 ^ 31) : ∃ X1, f11_sum X = some (X1, ()) ∧ RF7 X0 X1 tn tb n f := by
  obtain ⟨X1, a1, a2⟩ := r_trmF ot h hf hf2
  have hF : jF = 4999 + 1 := rfl
  unfold f11_sum
  rw [a1, Option.bind_some]
  dsimp only
  rw [hF, f11_sum_L1, if_neg (by rw [a2.2.2.1]; exact fun z => hf (nI_j (b := 0) hf2 (by omega) z)), Option.bind_some]
  exact ⟨X1, rfl, a2⟩
end
