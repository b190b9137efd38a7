/-! a whole clause; a whole text -/
theorem r_cl {X : jS} {tn : Nat} {tb : Nat → Nat} (ot : TpOk tn tb) {p : Nat} {N : mN} {n : Nat} (hp : p ≤ tn) (hr : RTp X tn tb) (h2 : X.1 0 20 = nI p) (hf : X.1 0 21 = 0) (hd : RD X N) (hD : DOk N) (hn : n ≤ 40) : ∃ Xb, pf X Xb ∧ Xb.1 0 20 = nI (sk tn tb p) ∧ Xb.1 0 21 = 0 ∧
    (¬ (tkS tn tb (sk tn tb p) = 5 ∨ tkS tn tb (sk tn tb p) = 6 ∨ tkS tn tb (sk tn tb p) = 7) → f11_partyClause X (nI n) = some (wI Xb 0 21 (nI (1 + 8 * sk tn tb p + 0)), ())) ∧
    ((tkS tn tb (sk tn tb p) = 5 ∨ tkS tn tb (sk tn tb p) = 6 ∨ tkS tn tb (sk tn tb p) = 7) → ov (tkS tn tb (sk tn tb p)) n N → f11_partyClause X (nI n) = some (wI Xb 0 21 (nI (1 + 8 * sk tn tb p + 4)), ())) ∧
    ((tkS tn tb (sk tn tb p) = 5 ∨ tkS tn tb (sk tn tb p) = 6 ∨ tkS tn tb (sk tn tb p) = 7) → ¬ ov (tkS tn tb (sk tn tb p)) n N → f11_partyClause X (nI n) = Option.bind (f11_partyPart (wI Xb 0 20 (nI (tkE tn tb (sk tn tb p)))) (if tkS tn tb (sk tn tb p) = 5 then 0 else if tkS tn tb (sk tn tb p) = 6 then 1 else if tkS tn tb (sk tn tb p) = 7 then 2 else 3)) (fun r8 => some (r8.1, ()))) := by
  have l := ot.1
  have hk2 := sk_le (tb := tb) hp
  obtain ⟨Xb, b1, b2, b3⟩ := r_blk ot (by omega) hr h2
  have pb : pf X Xb := pf.of b3
  have rb := pb.tp hr
  have fb : Xb.1 0 21 = 0 := (b3 _ _ (by omega)).trans hf
  have hw : ∀ (q : Nat × Int32), q ∈ wT → tkS tn tb (sk tn tb p) = q.2 → nI (sk tn tb p) + slen q.1 = nI (tkE tn tb (sk tn tb p)) := fun q hq e => by
    rw [(tk_w ot hq e).1]; exact nI_add _ _
  refine ⟨Xb, pb, b2, fb, fun z => ?_, fun z o => ?_, fun z o => ?_⟩
  · unfold f11_partyClause
    rw [b1, Option.bind_some]
    dsimp only
    rw [r_pw ot (by omega) rb b2, Option.bind_some, if_neg (fun y => z (Or.inl y)), if_neg (fun y => z (Or.inr (Or.inl y))), if_neg (fun y => z (Or.inr (Or.inr y))), if_pos rfl, b2, r_flt (x := 0) (e := 0) rfl, Option.bind_some, fb, if_pos rfl]
  · obtain ⟨r, o1, o2⟩ := r_ov z (pb.rd hd) hD hn
    have n3 : ¬ (if tkS tn tb (sk tn tb p) = 5 then (0 : Int32) else if tkS tn tb (sk tn tb p) = 6 then 1 else if tkS tn tb (sk tn tb p) = 7 then 2 else 3) = 3 := by
      rcases z with z | z | z <;> rw [z] <;> decide
    unfold f11_partyClause
    rw [b1, Option.bind_some]
    dsimp only
    rw [r_pw ot (by omega) rb b2, Option.bind_some, if_neg n3, o1, Option.bind_some]
    rcases o2 with ⟨o2, -⟩ | ⟨-, o2⟩
    · rw [o2, if_neg (by decide), b2, r_flt (x := 4) (e := 4) rfl, Option.bind_some, fb, if_pos rfl]
    · exact absurd o o2
  · obtain ⟨r, o1, o2⟩ := r_ov z (pb.rd hd) hD hn
    have n3 : ¬ (if tkS tn tb (sk tn tb p) = 5 then (0 : Int32) else if tkS tn tb (sk tn tb p) = 6 then 1 else if tkS tn tb (sk tn tb p) = 7 then 2 else 3) = 3 := by
      rcases z with z | z | z <;> rw [z] <;> decide
    unfold f11_partyClause
    rw [b1, Option.bind_some]
    dsimp only
    rw [r_pw ot (by omega) rb b2, Option.bind_some, if_neg n3, o1, Option.bind_some]
    rcases o2 with ⟨-, o2⟩ | ⟨o2, -⟩
    · exact absurd o2 o
    · have w0 : f11_partyWord 0 = some 12 := by decide
      have w1 : f11_partyWord 1 = some 2 := by decide
      have w2 : f11_partyWord 2 = some 5 := by decide
      rw [o2, if_pos rfl, b2]
      rcases z with z | z | z
      · have e := hw (12, 5) (by decide) z
        rw [z, if_pos rfl, w0, Option.bind_some, e]
      · have e := hw (2, 6) (by decide) z
        rw [z, if_neg (by decide), if_pos rfl, w1, Option.bind_some, e]
      · have e := hw (5, 7) (by decide) z
        rw [z, if_neg (by decide), if_neg (by decide), if_pos rfl, w2, Option.bind_some, e]
/-- the outcome of a clause and of going on -/
def CO (S0 X0 S X2 : jS) (more : Int32) (tn : Nat) (tb : Nat → Nat) (p n m k : Nat) : Prop :=
  (∃ f S', more = 0 ∧ f ≠ 0 ∧ f < 2 ^ 31 ∧ X2.1 0 21 = nI f ∧ f5_read_L1 m S (nI k) = some (S', nI f) ∧ fC S0 S') ∨
  (∃ S' N', more = 0 ∧ X2.1 0 21 = 0 ∧ RD X2 N' ∧ DOk N' ∧ 4 ≤ N' 0 0 ∧ f5_read_L1 m S (nI k) = some (S', 0) ∧ fC S0 S' ∧ HIs (hC S' 4) N') ∨
  (∃ S' N' p1 t, more = 1 ∧ t ≤ 5 ∧ f5_read_L1 m S (nI k) = f5_read_L1 (m - t) S' (nI (k + t)) ∧ C5 S0 S' tn tb p1 N' 0 (n + 1) ∧ R5 X0 X2 tn tb p1 N' ∧ DOk N' ∧ 4 ≤ N' 0 0 ∧ k + t ≤ p1 ∧ p < p1 ∧ p1 ≤ tn ∧ n < 40)
theorem k_cl {S0 X0 S X : jS} {tn : Nat} {tb : Nat → Nat} (ot : TpOk tn tb) {p : Nat} {N : mN} {n m k : Nat} (hC : C5 S0 S tn tb p N 0 n) (hR : R5 X0 X tn tb p N) (hp : p ≤ tn) (hk : k ≤ p) (hn : n ≤ 40) (hD : DOk N) (h0 : n = 0 → N 0 1 = 0 ∧ N 0 2 = 0) (hP : n ≠ 0 → 4 ≤ N 0 0) : ∃ X1 X2 more, f11_partyClause X (nI n) = some (X1, ()) ∧ f11_goesOn X1 = some (X2, more) ∧ fR X0 X2 ∧ CO S0 X0 S X2 more tn tb p n (m + 6) k := by
  have l := ot.1
  have hk2 := sk_le (tb := tb) hp
  obtain ⟨r1, r2, r3, r4, r5⟩ := id hR
  obtain ⟨Xb, q1, q2, q3, q4, q5, q6⟩ := r_cl ot hp r1 r2 r3 r4 hD hn
  obtain ⟨w1, w2, w3⟩ := c5W (m := m + 5) (k := k) ot hC hp (by omega) (by omega) hD
  have flt : ∀ (X1 : jS) f S', f ≠ 0 → f < 2 ^ 31 → f11_partyClause X (nI n) = some (X1, ()) → RF X0 X1 tn tb f → f5_read_L1 (m + 6) S (nI k) = some (S', nI f) → fC S0 S' → ∃ X1 X2 more, f11_partyClause X (nI n) = some (X1, ()) ∧ f11_goesOn X1 = some (X2, more) ∧ fR X0 X2 ∧ CO S0 X0 S X2 more tn tb p n (m + 6) k := by
    intro X1 f S' hf hf2 e1 ⟨g1, ⟨px, g2, g3⟩, g4, g5⟩ s1 s2
    obtain ⟨X2, p2, r, t1, t2, t3, t4, -⟩ := r_gon ot g2 g1 g3
    have hne : X1.1 0 21 ≠ 0 := by rw [g4]; exact fun z => hf (nI_j (b := 0) hf2 (by omega) z)
    obtain ⟨u1, u2⟩ := t4 hne
    exact ⟨X1, X2, r, e1, t1, t3.fr g5, Or.inl ⟨f, S', u2, hf, hf2, u1.trans g4, s1, s2⟩⟩
  by_cases hz : tkS tn tb (sk tn tb p) = 5 ∨ tkS tn tb (sk tn tb p) = 6 ∨ tkS tn tb (sk tn tb p) = 7
  · by_cases ho : ov (tkS tn tb (sk tn tb p)) n N
    · obtain ⟨S', s1, s2⟩ := w2 hz ho
      exact flt _ _ S' (by omega) (by omega) (q5 hz ho) ⟨(q1.tr pf.w21).tp r1, ⟨_, hk2.2, by rw [wI_nj (by omega)]; exact q2⟩, wI_self _ _ _ _, (q1.tr pf.w21).fr r5⟩ s1 s2
    · obtain ⟨S1, s1, s2, s3, s4⟩ := w3 hz ho
      have q6' := q6 hz ho
      have hlt : sk tn tb p < tn := by
        rcases hz with z | z | z
        · exact (tk_w (q := (12, 5)) ot (by decide) z).2
        · exact (tk_w (q := (2, 6)) ot (by decide) z).2
        · exact (tk_w (q := (5, 7)) ot (by decide) z).2
      have hst := tk_step (tb := tb) hlt
      have R1 : R5 X0 (wI Xb 0 20 (nI (tkE tn tb (sk tn tb p)))) tn tb (tkE tn tb (sk tn tb p)) N := ⟨(q1.tr pf.w20).tp r1, wI_self _ _ _ _, by rw [wI_nj (by omega)]; exact q3, (q1.tr pf.w20).rd r4, (q1.tr pf.w20).fr r5⟩
      have po : ∃ X1, f11_partyPart (wI Xb 0 20 (nI (tkE tn tb (sk tn tb p)))) (if tkS tn tb (sk tn tb p) = 5 then 0 else if tkS tn tb (sk tn tb p) = 6 then 1 else if tkS tn tb (sk tn tb p) = 7 then 2 else 3) = some (X1, ()) ∧ PO S0 X0 S1 X1 tn tb (tkE tn tb (sk tn tb p)) (n + 1) (m + 2) (k + 1) ∧ n < 40 := by
        unfold ov at ho
        rcases hz with z | z | z
        · rw [z] at ho ⊢ s3
          rw [if_pos rfl] at ho ⊢
          obtain ⟨X1, x1, x2⟩ := po5 (m := m + 2) (k := k + 1) ot s2 R1 hst.2 (by omega) hD s3 s4 (h0 (by omega)).1 (h0 (by omega)).2
          exact ⟨X1, x1, x2, by omega⟩
        · rw [z] at ho ⊢ s3
          rw [if_neg (by decide), if_pos rfl] at ho ⊢
          obtain ⟨X1, x1, x2⟩ := po6 (m := m + 2) (k := k + 1) ot s2 R1 hst.2 (by omega) hD s3 s4 (hP (by omega)) (by omega)
          exact ⟨X1, x1, x2, by omega⟩
        · rw [z] at ho ⊢ s3
          rw [if_neg (by decide), if_neg (by decide)] at ho ⊢
          rw [if_pos rfl]
          obtain ⟨X1, x1, x2⟩ := po7 (m := m + 2) (k := k + 1) ot s2 R1 hst.2 (by omega) hD s3 s4 (hP (by omega)) (by omega)
          exact ⟨X1, x1, x2, by omega⟩
      obtain ⟨X1, x1, x2, x3⟩ := po
      rw [x1, Option.bind_some] at q6'
      rcases x2 with ⟨f, S', f1, f2, f3, f4, f5⟩ | ⟨S', N', p2, t, t1, t2, t3, t4, t5, t6, t7, t8⟩
      · exact flt X1 f S' f1 f2 q6' f3 (s1.trans f4) f5
      · obtain ⟨c1, c2, c3⟩ := c5B (m := m + 3 - t) (k := k + 1 + t) ot t3 t8 (by omega)
        obtain ⟨g1, g2, g3, g4, g5⟩ := id t4
        obtain ⟨X2, p3, r, u1, u2, u3, -, u5⟩ := r_gon ot t8 g1 g2
        obtain ⟨v1, v2, v3⟩ := u5 g3
        have em : m + 2 + 3 - t = m + 3 - t + 2 := by omega
        have hk3 := sk_le (tb := tb) t8
        rw [em] at t2
        refine ⟨X1, X2, r, q6', u1, u3.fr g5, ?_⟩
        by_cases e8 : tkS tn tb (sk tn tb p2) = 8
        · obtain ⟨S2, y1, y2⟩ := c1 e8
          obtain ⟨z1, z2, z3⟩ := v2 e8
          have hlt2 : sk tn tb p2 < tn := (tk_m (by rw [e8]; decide)).2
          have hst2 := tk_step (tb := tb) hlt2
          refine Or.inr (Or.inr ⟨S2, N', tkE tn tb (sk tn tb p2), t + 2, z2, by omega, ?_, y2, ⟨u3.tp g1, by rw [u2, z3], z1, u3.rd g4, u3.fr g5⟩, t5, t6, by omega, by omega, hst2.2, x3⟩)
          rw [s1, t2, y1, show m + 6 - (t + 2) = m + 3 - t + 1 by omega, show k + 1 + t + 1 = k + (t + 2) by omega]
        · by_cases e1 : tkS tn tb (sk tn tb p2) = 1
          · obtain ⟨S2, y1, y2, y3⟩ := c2 e1
            obtain ⟨z1, z2⟩ := v1 e1
            exact Or.inr (Or.inl ⟨S2, N', z2, z1, u3.rd g4, t5, t6, by rw [s1, t2, y1], y2, y3⟩)
          · obtain ⟨S2, y1, y2⟩ := c3 e8 e1
            obtain ⟨z1, z2⟩ := v3 e1 e8
            exact Or.inl ⟨_, S2, z2, by omega, by omega, z1, by rw [s1, t2, y1], y2⟩
  · obtain ⟨S', s1, s2⟩ := w1 hz
    exact flt _ _ S' (by omega) (by omega) (q4 hz) ⟨(q1.tr pf.w21).tp r1, ⟨_, hk2.2, by rw [wI_nj (by omega)]; exact q2⟩, wI_self _ _ _ _, (q1.tr pf.w21).fr r5⟩ s1 s2
/-- a whole text: the same fault, or the same draft -/
theorem k_rd {S0 X0 : jS} {tn : Nat} {tb : Nat → Nat} (ot : TpOk tn tb) : ∀ d p S X N n m k m', tn - p < d → C5 S0 S tn tb p N 0 n → R5 X0 X tn tb p N → p ≤ tn → k ≤ p → n ≤ 40 → DOk N → (n = 0 → N 0 1 = 0 ∧ N 0 2 = 0) → (n ≠ 0 → 4 ≤ N 0 0) → m + k = 5000 → 2 * (tn - p) + 2 ≤ m' → ∃ S' X', f11_readsAll_L2 m' X (nI n) 1 = some X' ∧ fR X0 X' ∧ fC S0 S' ∧ ((∃ f, f ≠ 0 ∧ f < 2 ^ 31 ∧ f5_read_L1 m S (nI k) = some (S', nI f) ∧ X'.1 0 21 = nI f) ∨ (∃ N', f5_read_L1 m S (nI k) = some (S', 0) ∧ X'.1 0 21 = 0 ∧ DOk N' ∧ 4 ≤ N' 0 0 ∧ HIs (hC S' 4) N' ∧ RD X' N')) := by
  intro d
  induction d with
  | zero => intro p S X N n m k m' h; omega
  | succ d ih =>
    intro p S X N n m k m' hd hC hR hp hk hn hD h0 hP hm hm'
    have l := ot.1
    obtain ⟨m0, rfl⟩ : ∃ m0, m = m0 + 6 := ⟨m - 6, by omega⟩
    obtain ⟨j, rfl⟩ : ∃ j, m' = j + 2 := ⟨m' - 2, by omega⟩
    obtain ⟨X1, X2, more, e1, e2, e3, e4⟩ := k_cl (m := m0) ot hC hR hp hk hn hD h0 hP
    have en : nI n + 1 = nI (n + 1) := nI_add n 1
    rw [f11_readsAll_L2, if_neg (by decide), e1, Option.bind_some, e2, Option.bind_some, en]
    rcases e4 with ⟨f, S', f0, f1, f2, f3, f4, f5⟩ | ⟨S', N', f0, f1, f2, f3, f4, f5, f6, f7⟩ | ⟨S', N', p1, t, f0, f1, f2, f3, f4, f5, f6, f7, f8, f9, f10⟩
    · refine ⟨S', X2, ?_, e3, f5, Or.inl ⟨f, f1, f2, f4, f3⟩⟩
      dsimp only
      rw [f0, f11_readsAll_L2, if_pos rfl]
    · refine ⟨S', X2, ?_, e3, f6, Or.inr ⟨N', f5, f1, f3, f4, f7, f2⟩⟩
      dsimp only
      rw [f0, f11_readsAll_L2, if_pos rfl]
    · obtain ⟨S2, X3, g1, g2, g3, g4⟩ := ih p1 S' X2 N' (n + 1) (m0 + 6 - t) (k + t) (j + 1) (by omega) f3 f4 f9 f7 (by omega) f5 (fun z => by omega) (fun _ => f6) (by omega) (by omega)
      refine ⟨S2, X3, ?_, g2, g3, ?_⟩
      · dsimp only; rw [f0]; exact g1
      · rw [f2]; exact g4
