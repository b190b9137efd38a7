/-! a guest's clause; a whole clause -/
theorem po7 {S0 X0 S X : jS} {tn : Nat} {tb : Nat → Nat} (ot : TpOk tn tb) {p : Nat} {N : mN} {n m k : Nat} (hC : C5 S0 S tn tb p N 1 n) (hR : R5 X0 X tn tb p N) (hp : p ≤ tn) (hk : k ≤ p) (hD : DOk N) (hz : S.1 3 4 = 7) (hj : S.1 3 3 = nI 0) (hP : 4 ≤ N 0 0) (h7 : N 0 2 < 7) : ∃ X1, f11_partyPart X 2 = some (X1, ()) ∧ PO S0 X0 S X1 tn tb p n m k := by
  have l := ot.1
  have l0 := hD.1
  obtain ⟨r1, r2, r3, r4, r5⟩ := hR
  have hk2 := sk_le (tb := tb) hp
  have eP : X.1 14 0 - 1 = nI (N 0 0 - 1) := by
    rw [r4.1]; exact nI_sub (b := 1) (by omega)
  have e1 : nI (N 0 2) + 1 = nI (N 0 2 + 1) := nI_add _ 1
  obtain ⟨X1, v1, p1, a1, a2, a3, a4, -, a6⟩ := r_am (lo := 0) (hi := N 0 0 - 1) ot hp (by omega) r1 r2
  have y1 : RTp (wI X1 16 (N 0 2) v1) tn tb := (a4.tp r1).w (by omega) (by omega)
  have y1p : (wI X1 16 (N 0 2) v1).1 0 20 = nI p1 := by rw [wI_ne (by omega)]; exact a2
  have y1f : (wI X1 16 (N 0 2) v1).1 0 21 = X1.1 0 21 := wI_ne (by omega)
  have y1q : fR X0 (wI X1 16 (N 0 2) v1) := (a4.fr r5).w (by omega)
  obtain ⟨X2, v2, p2, b1, b2, b3, b4, b5, b6⟩ := r_am (lo := 0) (hi := 5) ot a3 (by omega) y1 y1p
  rw [y1f] at b5 b6
  have y2 : RTp (wI X2 17 (N 0 2) v2) tn tb := (b4.tp y1).w (by omega) (by omega)
  have y2p : (wI X2 17 (N 0 2) v2).1 0 20 = nI p2 := by rw [wI_ne (by omega)]; exact b2
  have y2f : (wI X2 17 (N 0 2) v2).1 0 21 = X2.1 0 21 := wI_ne (by omega)
  have y2q : fR X0 (wI X2 17 (N 0 2) v2) := (b4.fr y1q).w (by omega)
  obtain ⟨X3, v3, p3, c1, c2, c3, c4, c5, c6⟩ := r_am (lo := 1) (hi := 9) ot b3 (by omega) y2 y2p
  rw [y2f] at c5 c6
  have g2 : X3.1 14 2 = nI (N 0 2) := by
    rw [c4 _ _ (by omega) (by omega), wI_ne (by omega), b4 _ _ (by omega) (by omega), wI_ne (by omega), a4 _ _ (by omega) (by omega)]; exact r4.2.2.1
  have run3 : f11_partyPart X 2 = some (wI (wI X3 18 (N 0 2) v3) 14 2 (nI (N 0 2 + 1)), ()) := by
    unfold f11_partyPart
    rw [if_neg (by decide), if_neg (by decide)]
    unfold f11_guestPart
    rw [eP, show f11_amount X 0 (nI (N 0 0 - 1)) = some (X1, v1) from a1, Option.bind_some, r4.2.2.1, inbk (by omega) h7, if_pos rfl, nI_clamp (by omega)]
    dsimp only
    rw [show f11_amount (wI X1 16 (N 0 2) v1) 0 5 = some (X2, v2) from b1, Option.bind_some]
    dsimp only
    rw [show f11_amount (wI X2 17 (N 0 2) v2) 1 9 = some (X3, v3) from c1, Option.bind_some]
    dsimp only
    rw [wI_ne (by omega), g2, e1, Option.bind_some]
  refine ⟨_, run3, ?_⟩
  have rf : ∀ f, X3.1 0 21 = nI f → RF X0 (wI (wI X3 18 (N 0 2) v3) 14 2 (nI (N 0 2 + 1))) tn tb f := fun f hf => ⟨((c4.tp y2).w (by omega) (by omega)).w (by omega) (by omega), ⟨p3, c3, by rw [wI_ne (by omega), wI_ne (by omega)]; exact c2⟩, by rw [wI_ne (by omega), wI_ne (by omega)]; exact hf, ((c4.fr y2q).w (by omega)).w (by omega)⟩
  obtain ⟨n1, -, n3, -⟩ := c5N (m := m + 2) (k := k) (v := fun _ => 0) ot hC hp (by omega) hD hz (Or.inr (Or.inr rfl)) hj (by omega) (Or.inr rfl) (Or.inr hP) (fun i hi => by omega) (fun z => absurd z (by decide)) (fun _ => h7)
  have eL : nLo 7 0 = 0 := rfl
  have eH : nHi 7 0 (N 0 0) = N 0 0 - 1 := rfl
  rw [eL, eH] at n1 n3
  obtain ⟨a7, a8⟩ := a6 r3
  cases ha : am tn tb (sk tn tb p) 0 (N 0 0 - 1) with
  | some e =>
    have he := am_le ha
    have f1 := a8 e ha
    have fn : X1.1 0 21 ≠ 0 := by rw [f1]; exact f_ne (by omega) (by omega)
    have f2 : X2.1 0 21 = X1.1 0 21 := b5 fn
    have f3 : X3.1 0 21 = X2.1 0 21 := c5 (by rw [f2]; exact fn)
    obtain ⟨S', s1, s2⟩ := n1 e ha
    exact Or.inl ⟨1 + 8 * sk tn tb p + e, S', by omega, by omega, rf _ (by rw [f3, f2, f1]), s1, s2⟩
  | none =>
    obtain ⟨t1, t2, t3⟩ := am_none ha
    obtain ⟨d1, d2, d3⟩ := a7 ha
    have tk := tk3_lt hp t1
    obtain ⟨S1, s1, s2, s3, s4, -, s6⟩ := n3 ha rfl (by omega)
    subst d3
    obtain ⟨n1', -, n3', -⟩ := c5N (m := m + 1) (k := k + 1) (v := fun _ => tkV tn tb (sk tn tb p)) ot s2 a3 (by omega) hD s3 (Or.inr (Or.inr rfl)) s4 (by omega) (Or.inl rfl) (Or.inr hP) (fun i hi => by rw [show i = 0 by omega]; exact s6) (fun z => absurd z (by decide)) (fun _ => h7)
    have eL : nLo 7 (0 + 1) = 0 := rfl
    have eH : nHi 7 (0 + 1) (N 0 0) = 5 := rfl
    rw [eL, eH] at n1' n3'
    obtain ⟨b7, b8⟩ := b6 d1
    have hk3 := sk_le (tb := tb) a3
    generalize hq1 : tkE tn tb (sk tn tb p) = q1 at *
    cases hb : am tn tb (sk tn tb q1) 0 5 with
    | some e =>
      have he := am_le hb
      have f1 := b8 e hb
      have fn : X2.1 0 21 ≠ 0 := by rw [f1]; exact f_ne (by omega) (by omega)
      have f3 : X3.1 0 21 = X2.1 0 21 := c5 fn
      obtain ⟨S', u1, u2⟩ := n1' e hb
      exact Or.inl ⟨1 + 8 * sk tn tb q1 + e, S', by omega, by omega, rf _ (by rw [f3, f1]), s1.trans u1, u2⟩
    | none =>
      obtain ⟨t1', t2', t3'⟩ := am_none hb
      obtain ⟨x1, x2, x3⟩ := b7 hb
      have tk' := tk3_lt a3 t1'
      obtain ⟨S2, u1, u2, u3, u4, u5, u6⟩ := n3' hb rfl (by omega)
      subst x3
      obtain ⟨n1'', -, -, n4''⟩ := c5N (m := m) (k := k + 2) (v := fun i => if i = 0 then tkV tn tb (sk tn tb p) else tkV tn tb (sk tn tb q1)) ot u2 b3 (by omega) hD u3 (Or.inr (Or.inr rfl)) u4 (by omega) (Or.inl rfl) (Or.inr hP) (fun i hi => by
        by_cases i0 : i = 0
        · rw [if_pos i0, i0]; exact u5 0 (by omega)
        · rw [if_neg i0, show i = 0 + 1 by omega]; exact u6) (fun z => absurd z (by decide)) (fun _ => h7)
      have eL : nLo 7 (0 + 1 + 1) = 1 := rfl
      have eH : nHi 7 (0 + 1 + 1) (N 0 0) = 9 := rfl
      rw [eL, eH] at n1'' n4''
      obtain ⟨c7, c8⟩ := c6 x1
      have hk4 := sk_le (tb := tb) b3
      generalize hq2 : tkE tn tb (sk tn tb q1) = q2 at *
      cases hc : am tn tb (sk tn tb q2) 1 9 with
      | some e =>
        have he := am_le hc
        obtain ⟨S', w1, w2⟩ := n1'' e hc
        exact Or.inl ⟨1 + 8 * sk tn tb q2 + e, S', by omega, by omega, rf _ (c8 e hc), s1.trans (u1.trans w1), w2⟩
      | none =>
        obtain ⟨t1'', t2'', t3''⟩ := am_none hc
        obtain ⟨z1, z2, z3⟩ := c7 hc
        have tk'' := tk3_lt b3 t1''
        obtain ⟨S3, w1, w2⟩ := n4'' hc (fun z => absurd z (by decide)) (fun _ => rfl)
        rw [if_neg (by decide), if_neg (by decide), if_pos rfl, if_neg (by decide)] at w2
        subst d2 x2 z2
        have fx : ∀ a i, 14 ≤ a → ¬ (a = 16 ∧ i = N 0 2) → ¬ (a = 17 ∧ i = N 0 2) → X3.1 a i = X.1 a i := fun a i h g g' => by
          rw [c4 _ _ (by omega) (by omega), wI_g, if_neg g', b4 _ _ (by omega) (by omega), wI_g, if_neg g, a4 _ _ (by omega) (by omega)]
        have fy : ∀ a i, 14 ≤ a → (wI (wI X3 18 (N 0 2) (nI (tkV tn tb (sk tn tb q2)))) 14 2 (nI (N 0 2 + 1))).1 a i = if a = 14 ∧ i = 2 then nI (N 0 2 + 1) else if a = 18 ∧ i = N 0 2 then nI (tkV tn tb (sk tn tb q2)) else if a = 17 ∧ i = N 0 2 then nI (tkV tn tb (sk tn tb q1)) else if a = 16 ∧ i = N 0 2 then nI (tkV tn tb (sk tn tb p)) else X.1 a i := fun a i h => by
          rw [wI_g, wI_g]
          by_cases q14 : a = 14 ∧ i = 2
          · rw [if_pos q14, if_pos q14]
          · rw [if_neg q14, if_neg q14]
            by_cases q18 : a = 18 ∧ i = N 0 2
            · rw [if_pos q18, if_pos q18]
            · rw [if_neg q18, if_neg q18]
              by_cases q17 : a = 17 ∧ i = N 0 2
              · rw [if_pos q17, c4 _ _ (by omega) (by omega), wI_g, if_pos q17]
              · rw [if_neg q17]
                by_cases q16 : a = 16 ∧ i = N 0 2
                · rw [if_pos q16, c4 _ _ (by omega) (by omega), wI_g, if_neg q17, b4 _ _ (by omega) (by omega), wI_g, if_pos q16]
                · rw [if_neg q16]; exact fx a i h q16 q17
        have dg : ∀ a g, 2 ≤ a → a ≤ 4 → g < N 0 2 + 1 → dGu N (tkV tn tb (sk tn tb p)) (tkV tn tb (sk tn tb q1)) (tkV tn tb (sk tn tb q2)) a g = if g = N 0 2 then (if a = 2 then tkV tn tb (sk tn tb p) else if a = 3 then tkV tn tb (sk tn tb q1) else tkV tn tb (sk tn tb q2)) else N a g := fun a g u v w => by
          unfold dGu
          rw [if_neg (by omega), if_neg (by omega)]
          by_cases e : g = N 0 2
          · rw [if_pos ⟨e, u, by omega⟩, if_pos e]
            by_cases a2 : a = 2
            · rw [if_pos a2, if_pos a2]
            · rw [if_neg a2, if_neg a2]
              by_cases a3 : a = 3
              · rw [if_pos a3, if_pos a3]
              · rw [if_neg a3, if_neg a3, if_pos (by omega)]
          · rw [if_neg (fun y => e y.1), if_neg e]
        have dk := dGu_ok (x := tkV tn tb (sk tn tb p)) (y := tkV tn tb (sk tn tb q1)) (z := tkV tn tb (sk tn tb q2)) hD h7 (by omega) t3' ⟨t2'', t3''⟩
        have d00 : dGu N (tkV tn tb (sk tn tb p)) (tkV tn tb (sk tn tb q1)) (tkV tn tb (sk tn tb q2)) 0 0 = N 0 0 := by unfold dGu; rw [if_neg (by omega), if_neg (by omega), if_neg (by omega)]
        have d01 : dGu N (tkV tn tb (sk tn tb p)) (tkV tn tb (sk tn tb q1)) (tkV tn tb (sk tn tb q2)) 0 1 = N 0 1 := by unfold dGu; rw [if_neg (by omega), if_neg (by omega), if_neg (by omega)]
        refine Or.inr ⟨S3, _, tkE tn tb (sk tn tb q2), 3, by omega, s1.trans (u1.trans w1), w2, ⟨((c4.tp y2).w (by omega) (by omega)).w (by omega) (by omega), by rw [wI_ne (by omega), wI_ne (by omega), c2, z3], by rw [wI_ne (by omega), wI_ne (by omega)]; exact z1, ⟨?_, ?_, ?_, fun c hc => ?_, fun g hg => ⟨?_, ?_, ?_⟩⟩, ((c4.fr y2q).w (by omega)).w (by omega)⟩, dk, by rw [d00]; exact hP, by omega, by omega⟩
        · rw [fy _ _ (by omega), if_neg (by omega), if_neg (by omega), if_neg (by omega), if_neg (by omega), d00]; exact r4.1
        · rw [fy _ _ (by omega), if_neg (by omega), if_neg (by omega), if_neg (by omega), if_neg (by omega), d01]; exact r4.2.1
        · rw [fy _ _ (by omega), if_pos ⟨rfl, rfl⟩]; rfl
        · rw [d01] at hc
          have d1c : dGu N (tkV tn tb (sk tn tb p)) (tkV tn tb (sk tn tb q1)) (tkV tn tb (sk tn tb q2)) 1 c = N 1 c := by unfold dGu; rw [if_neg (by omega), if_neg (by omega), if_neg (by omega)]
          rw [fy _ _ (by omega), if_neg (by omega), if_neg (by omega), if_neg (by omega), if_neg (by omega), d1c]; exact r4.2.2.2.1 c hc
        · have hg' : g < N 0 2 + 1 := hg
          rw [fy _ _ (by omega), if_neg (by omega), if_neg (by omega), if_neg (by omega), dg 2 g (by omega) (by omega) hg']
          by_cases e : g = N 0 2
          · rw [if_pos ⟨rfl, e⟩, if_pos e, if_pos rfl]
          · rw [if_neg (fun y => e y.2), if_neg e]; exact (r4.2.2.2.2 g (by omega)).1
        · have hg' : g < N 0 2 + 1 := hg
          rw [fy _ _ (by omega), if_neg (by omega), if_neg (by omega), dg 3 g (by omega) (by omega) hg']
          by_cases e : g = N 0 2
          · rw [if_pos ⟨rfl, e⟩, if_pos e, if_neg (by omega), if_pos rfl]
          · rw [if_neg (fun y => e y.2), if_neg (by omega), if_neg e]; exact (r4.2.2.2.2 g (by omega)).2.1
        · have hg' : g < N 0 2 + 1 := hg
          rw [fy _ _ (by omega), if_neg (by omega), dg 4 g (by omega) (by omega) hg']
          by_cases e : g = N 0 2
          · rw [if_pos ⟨rfl, e⟩, if_pos e, if_neg (by omega), if_neg (by omega)]
          · rw [if_neg (fun y => e y.2), if_neg (by omega), if_neg (by omega), if_neg e]; exact (r4.2.2.2.2 g (by omega)).2.2
