/-! a whole rule's text: both -/
def fl : mR → List Int32
  | [] => []
  | q :: r => q.1 ++ q.2 ++ fl r
def encR : mR → List Int32
  | [] => []
  | q :: r => encq q ++ encR r
theorem fl_snoc : ∀ {r : mR} {q : List Int32 × List Int32}, fl (r ++ [q]) = fl r ++ q.1 ++ q.2 := by
  intro r
  induction r with
  | nil => intro q; simp [fl]
  | cons x u ih => intro q; rw [List.cons_append, fl, ih, fl]; simp only [List.append_assoc]
theorem encR_snoc : ∀ {r : mR} {q : List Int32 × List Int32}, encR (r ++ [q]) = encR r ++ encq q := by
  intro r
  induction r with
  | nil => intro q; simp [encR]
  | cons x u ih => intro q; rw [List.cons_append, encR, ih, encR]; simp only [List.append_assoc]
theorem fl_le : ∀ r : mR, (fl r).length ≤ (encR r).length := by
  intro r
  induction r with
  | nil => exact Nat.le_refl _
  | cons q u ih =>
    rw [fl, encR, encq]
    simp only [List.length_append, List.length_cons, List.length_nil]
    omega
def mkP (X : jS) (n : Nat) : Nat → Nat → mR → Prop
  | _, _, [] => True
  | i, k, q :: r => (X.1 33 (12 * n + i) = nI k ∧ X.1 34 (12 * n + i) = nI (k + q.1.length) ∧ X.1 35 (12 * n + i) = nI (k + q.1.length + q.2.length)) ∧ mkP X n (i + 1) (k + q.1.length + q.2.length) r
theorem mkP_snoc {X X1 : jS} {n : Nat} {q : List Int32 × List Int32} : ∀ {r : mR} {i k : Nat}, mkP X n i k r → (∀ a j, 33 ≤ a → a ≤ 35 → j ≠ 12 * n + (i + r.length) → X1.1 a j = X.1 a j) → X1.1 33 (12 * n + (i + r.length)) = nI (k + (fl r).length) → X1.1 34 (12 * n + (i + r.length)) = nI (k + (fl r).length + q.1.length) → X1.1 35 (12 * n + (i + r.length)) = nI (k + (fl r).length + q.1.length + q.2.length) → mkP X1 n i k (r ++ [q]) := by
  intro r
  induction r with
  | nil => intro i k _ _ h1 h2 h3; exact ⟨⟨h1, h2, h3⟩, trivial⟩
  | cons x u ih =>
    intro i k h e h1 h2 h3
    obtain ⟨⟨a1, a2, a3⟩, a4⟩ := h
    have l : (fl (x :: u)).length = x.1.length + x.2.length + (fl u).length := by rw [fl]; simp only [List.length_append]
    have ei : i + (x :: u).length = i + 1 + u.length := by simp only [List.length_cons]; omega
    rw [ei] at e h1 h2 h3
    rw [l] at h1 h2 h3
    refine ⟨⟨(e _ _ (by omega) (by omega) (by omega)).trans a1, (e _ _ (by omega) (by omega) (by omega)).trans a2, (e _ _ (by omega) (by omega) (by omega)).trans a3⟩, ih a4 e (by rw [h1]; congr 1; omega) (by rw [h2]; congr 1; omega) (by rw [h3]; congr 1; omega)⟩
theorem rre_of {X : jS} {n : Nat} : ∀ {r : mR} {i k : Nat}, mkP X n i k r → ents (X.1 30) (X.1 31) (300 * n + k) (fl r) → k + (fl r).length ≤ 300 → rre X n i k r := by
  intro r
  induction r with
  | nil => intro i k _ _ h; rw [fl] at h; exact h
  | cons q u ih =>
    intro i k h e hl
    obtain ⟨⟨a1, a2, a3⟩, a4⟩ := h
    rw [fl] at e hl
    simp only [List.length_append] at hl
    obtain ⟨e1, e2⟩ := ents_app.mp e
    obtain ⟨e3, e4⟩ := ents_app.mp e1
    refine ⟨a1, a2, a3, e3, by rw [← Nat.add_assoc]; exact e4, ih a4 ?_ (by omega)⟩
    have : 300 * n + (k + q.1.length + q.2.length) = 300 * n + k + (q.1 ++ q.2).length := by simp only [List.length_append]; omega
    rw [this]; exact e2
theorem rcd_of {f : Nat → Int32} : ∀ {r : mR} {k : Nat}, cod f k (encR r) → rcd f (k + (encR r).length) k r := by
  intro r
  induction r with
  | nil => intro k _; rfl
  | cons q u ih =>
    intro k h
    rw [encR] at h ⊢
    obtain ⟨h1, h2⟩ := cod_app.mp h
    unfold encq at h1 h2 ⊢
    obtain ⟨h3, h4⟩ := cod_app.mp h1
    obtain ⟨h5, h6⟩ := cod_app.mp h3
    have l : k + (q.1 ++ q.2 ++ [if q.2 = [] then (-24 : Int32) else -25] ++ encR u).length = k + q.1.length + q.2.length + 1 + (encR u).length := by
      simp only [List.length_append, List.length_cons, List.length_nil]; omega
    have l2 : k + (q.1 ++ q.2 ++ [if q.2 = [] then (-24 : Int32) else -25]).length = k + q.1.length + q.2.length + 1 := by
      simp only [List.length_append, List.length_cons, List.length_nil]; omega
    have l3 : k + (q.1 ++ q.2).length = k + q.1.length + q.2.length := by simp only [List.length_append]; omega
    rw [l2] at h2
    rw [l3] at h4
    have i1 := ih h2
    rw [l]
    refine ⟨h5, ?_⟩
    by_cases c : q.2 = []
    · rw [if_pos c]
      have e0 : q.2.length = 0 := by rw [c]; rfl
      have h7 := h4.1
      rw [if_pos c, e0] at h7
      rw [e0] at i1 ⊢
      exact ⟨h7, i1⟩
    · rw [if_neg c]
      have h7 := h4.1
      rw [if_neg c] at h7
      exact ⟨h6, h7, i1⟩
theorem r7_5 {S0 S : jS} {tn : Nat} {tb : Nat → Nat} {p k : Nat} {te co : Int32} {cl pa : Nat} {cd wt : List Int32} (h : K7 S0 S tn tb p 5 te co cl pa cd wt) (hk : k ≤ 500) : r7 S k = some (S, 0) := by
  have ej : jF - k = (jF - (k + 1)) + 1 := by unfold jF; omega
  unfold r7
  rw [ej, f7_read_L1, h.1.2.1.1, if_pos rfl]
  split <;> rfl
theorem k_rl {S0 X0 : jS} {tn : Nat} {tb : Nat → Nat} (ot : TpOk tn tb) {n : Nat} (hn : n ≤ 5) : ∀ d p S X k pa te co done ops m, tn - p < d → K7 S0 S tn tb p 0 te co done.length pa (encR done) [] → R7 X X tn tb p n (fl done) ops 0 pa → fK n X0 X → mkP X n 0 0 done → (∀ q ∈ done, clOk q) → p ≤ tn → k ≤ p → tn - p + 3 ≤ m → ∃ S' X' y, f11_rule_L1 m X (nI done.length) 1 = some (X', y) ∧ fK n X0 X' ∧ fC S0 S' ∧ ((∃ f, f ≠ 0 ∧ f < 2 ^ 31 ∧ r7 S k = some (S', nI f) ∧ X'.1 0 21 = nI f) ∨ (∃ R : mR, r7 S k = some (S', 0) ∧ X'.1 0 21 = 0 ∧ (S'.1 12 2 = nI (encR R).length ∧ cod (S'.1 13) 0 (encR R)) ∧ (encR R).length ≤ 300 ∧ rre X' n 0 0 R ∧ R.length ≤ 12 ∧ (∀ q ∈ R, clOk q) ∧ y = nI R.length)) := by
  intro d
  induction d with
  | zero => intro p S X k pa te co done ops m h; omega
  | succ d ih =>
    intro p S X k pa te co done ops m hd hK hR hf hm hc hp hkp hfu
    have l := ot.1
    obtain ⟨m, rfl⟩ : ∃ m', m = m' + 2 := ⟨m - 2, by omega⟩
    obtain ⟨X1, X2, more, e1, e2, e3, e4⟩ := k_rc ot hn hK hR hp hkp (fl_le done)
    have en : nI done.length + 1 = nI (done.length + 1) := nI_add _ 1
    rw [f11_rule_L1, if_neg (by decide), e1, Option.bind_some]
    dsimp only
    rw [e2, Option.bind_some, en]
    dsimp only
    rcases e4 with ⟨f, S', f0, f1, f2, f3, f4, f5⟩ | ⟨S', k', p1, p2, pa', st, te', co', q, ops', g1, g2, g3, g4, g5, g6, g7, g8, g9, g10⟩
    · refine ⟨S', X2, nI (done.length + 1), ?_, hf.tr e3, f5, Or.inl ⟨f, f1, f2, f4, f3⟩⟩
      rw [f0, f11_rule_L1, if_pos rfl]
    · have hm2 : mkP X2 n 0 0 (done ++ [q]) := mkP_snoc hm (fun a j u v w => g10 a j u v (by omega)) (by rw [Nat.zero_add, Nat.zero_add]; exact g7) (by rw [Nat.zero_add, Nat.zero_add]; exact g8) (by rw [Nat.zero_add, Nat.zero_add]; exact g9)
      have hc2 : ∀ x ∈ done ++ [q], clOk x := fun x hx => by
        rcases List.mem_append.mp hx with hx | hx
        · exact hc x hx
        · rw [List.mem_singleton] at hx; rw [hx]; exact g3
      have ln : (done ++ [q]).length = done.length + 1 := by simp
      rw [← encR_snoc] at g2
      rw [← fl_snoc] at g4
      rcases g5 with ⟨h1, h2, h3, h4, h5, h6⟩ | ⟨h1, h2, h3, h4⟩
      · subst h1 h3
        rw [← ln] at g2
        obtain ⟨S2, X3, y, z1, z2, z3, z4⟩ := ih p2 S' X2 k' pa' te' co' (done ++ [q]) ops' (m + 1) (by omega) g2 g4 (hf.tr e3) hm2 hc2 h6 h4 (by omega)
        rw [ln] at z1
        refine ⟨S2, X3, y, by rw [h2]; exact z1, z2, z3, ?_⟩
        rcases z4 with ⟨f, y1, y2, y3, y4⟩ | ⟨R, y1, y2⟩
        · exact Or.inl ⟨f, y1, y2, g1.trans y3, y4⟩
        · exact Or.inr ⟨R, g1.trans y1, y2⟩
      · subst h1
        have bl : (encR (done ++ [q])).length ≤ 300 := by
          obtain ⟨-, -, m3, m4, m5⟩ := g2.2
          have hs : sl 5 = 0 := rfl
          have ho : oc [] = 0 := rfl
          rw [hs, ho] at m5
          simp only [List.length_nil] at m5
          omega
        have fle := fl_le (done ++ [q])
        refine ⟨S', X2, nI (done.length + 1), ?_, hf.tr e3, g2.1.1.2.2, Or.inr ⟨done ++ [q], g1.trans (r7_5 g2 (by omega)), g4.1.2.2, g2.1.2.2.2.1, by omega, rre_of hm2 (by rw [Nat.add_zero]; exact g4.2.2.1.2) (by omega), by rw [ln]; omega, hc2, by rw [ln]⟩⟩
        rw [h2, f11_rule_L1, if_pos rfl]
