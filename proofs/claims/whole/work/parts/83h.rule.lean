/-! facts and tests: the reference's stack -/
def opc (x : Int32) : Int32 := if x = -26 then 12 else enS x
/-- signs of tests -/
def tw (w : List Int32) : Prop := ∀ x ∈ w, x = -21 ∨ x = -22 ∨ x = -23 ∨ x = -26
def tpo : List Int32 → Int32
  | [] => -1
  | o :: _ => o
def opT : List Int32 → List Bool
  | [] => []
  | x :: w => if x = -21 ∨ x = -22 then true :: opT w else opT w
theorem tw_hk {w : List Int32} (h : tw w) : hk w ≤ 3 := by
  cases w with
  | nil => exact Nat.zero_le _
  | cons x r =>
    show rnk x ≤ 3
    rcases h x List.mem_cons_self with e | e | e | e <;> rw [e] <;> decide
theorem tw_t {x : Int32} {w : List Int32} (h : tw (x :: w)) : tw w := fun y hy => h y (List.mem_cons_of_mem _ hy)
theorem tw_rsd {r : Nat} : ∀ {w : List Int32}, tw w → tw (rsd r w) := by
  intro w
  induction w with
  | nil => intro h; exact h
  | cons x u ih =>
    intro h
    by_cases c : r ≤ rnk x
    · rw [(rsd_p c).1]; exact ih (tw_t h)
    · rw [(rsd_n c).1]; exact h
theorem pop_pop {r r' : Nat} (h : r ≤ r') : ∀ w : List Int32, pop r w = pop r' w ++ pop r (rsd r' w) ∧ rsd r w = rsd r (rsd r' w) := by
  intro w
  induction w with
  | nil => exact ⟨rfl, rfl⟩
  | cons x u ih =>
    by_cases c : r' ≤ rnk x
    · rw [(rsd_p c).1, (rsd_p c).2, (rsd_p (show r ≤ rnk x by omega)).1, (rsd_p (show r ≤ rnk x by omega)).2, ih.2]
      exact ⟨by rw [ih.1]; rfl, rfl⟩
    · rw [(rsd_n c).1, (rsd_n c).2]; exact ⟨rfl, rfl⟩
theorem pop_ex {r : Nat} : ∀ {ex w : List Int32}, (∀ x ∈ ex, r ≤ rnk x) → pop r (ex ++ w) = ex ++ pop r w ∧ rsd r (ex ++ w) = rsd r w := by
  intro ex
  induction ex with
  | nil => intro w _; exact ⟨rfl, rfl⟩
  | cons x u ih =>
    intro w h
    obtain ⟨i1, i2⟩ := ih (w := w) (fun y hy => h y (List.mem_cons_of_mem _ hy))
    have c := h x List.mem_cons_self
    rw [List.cons_append, (rsd_p c).1, (rsd_p c).2, i1, i2]
    exact ⟨rfl, rfl⟩
theorem ty_pop {r : Nat} (hr : 1 ≤ r) : ∀ {w : List Int32}, tw w → tky 60 (pop r w) (true :: opT w) = some (true :: opT (rsd r w)) := by
  intro w
  induction w with
  | nil => intro _; rfl
  | cons x u ih =>
    intro h
    by_cases c : r ≤ rnk x
    · rw [(rsd_p c).1, (rsd_p c).2]
      refine tky_app (s := [x]) (t := pop r u) (u := true :: opT u) ?_ (ih (tw_t h))
      rcases h x List.mem_cons_self with e | e | e | e <;> subst e
      · rfl
      · rfl
      · rfl
      · exact absurd c (by have := rnk_0.1; omega)
    · rw [(rsd_n c).1, (rsd_n c).2]; rfl
theorem opT_len : ∀ {w : List Int32}, (opT w).length ≤ w.length := by
  intro w
  induction w with
  | nil => exact Nat.le_refl _
  | cons x u ih =>
    rw [opT]
    split
    · simp only [List.length_cons]; omega
    · simp only [List.length_cons]; omega
section
variable {X0 X : jS} {tn : Nat} {tb : Nat → Nat} {p n : Nat} {E ops : List Int32} {deep cnt f : Nat}
theorem R7.psh {o : Int32} {deep' : Nat} (h : R7 X0 X tn tb p n E ops deep cnt) (X1 : jS) (q : ∀ a i, ¬ (a = 0 ∧ (i = 25 ∨ i = 27)) → ¬ (a = 36 ∧ i = ops.length) → X1.1 a i = X.1 a i) (h25 : X1.1 0 25 = nI deep') (h27 : X1.1 0 27 = nI (ops.length + 1)) (h36 : X1.1 36 ops.length = o) : R7 X0 X1 tn tb p n E (o :: ops) deep' cnt := by
  obtain ⟨⟨a1, a2, a3⟩, ⟨b1, b2⟩, ⟨c1, c2⟩, ⟨d1, d2⟩, ⟨e1, e2⟩, g⟩ := h
  refine ⟨⟨⟨(q _ _ (by omega) (by omega)).trans a1.1, fun i hi => (q _ _ (by omega) (by omega)).trans (a1.2 i hi)⟩, (q _ _ (by omega) (by omega)).trans a2, (q _ _ (by omega) (by omega)).trans a3⟩, ⟨(q _ _ (by omega) (by omega)).trans b1, (q _ _ (by omega) (by omega)).trans b2⟩, ⟨(q _ _ (by omega) (by omega)).trans c1, ents_ext (fun i _ _ => ⟨q _ _ (by omega) (by omega), q _ _ (by omega) (by omega)⟩) c2⟩, ⟨h25, (q _ _ (by omega) (by omega)).trans d2⟩, ⟨h27, h36, wst_ext (fun i hi => q _ _ (by omega) (by omega)) e2⟩, fun a i k => ?_⟩
  have k' := k; unfold kpX at k'
  exact (q _ _ (by omega) (by omega)).trans (g a i k)
/-- a sign that joins two is opened -/
theorem r_opn2 {o : Int32} (h : R7 X0 X tn tb p n E ops deep cnt) (ho : o = 10 ∨ o = 11) (hl : ops.length < 402) : ∃ X1, f11_opens X o = some (X1, ()) ∧ R7 X0 X1 tn tb p n E (o :: ops) deep cnt := by
  have e1 : nI ops.length + 1 = nI (ops.length + 1) := nI_add _ 1
  have w : ∀ a i, (wI (wI X 36 ops.length o) 0 27 (nI (ops.length + 1))).1 a i = if a = 0 ∧ i = 27 then nI (ops.length + 1) else if a = 36 ∧ i = ops.length then o else X.1 a i := fun a i => by rw [wI_g, wI_g]
  refine ⟨_, ?_, h.psh (wI (wI X 36 ops.length o) 0 27 (nI (ops.length + 1))) (fun a i u v => by rw [w, if_neg (by omega), if_neg v]) (by rw [w, if_neg (by omega), if_neg (by omega)]; exact h.2.2.2.1.1) (wI_self _ _ _ _) (by rw [w, if_neg (by omega), if_pos ⟨rfl, rfl⟩])⟩
  unfold f11_opens
  rw [if_neg (by rcases ho with z | z <;> rw [z] <;> decide), if_neg (by rcases ho with z | z <;> rw [z] <;> decide), Option.bind_some, h.2.2.2.2.1.1, inbk (by omega) hl, if_pos rfl, nI_clamp (by omega), wI_ne (by omega), h.2.2.2.2.1.1, e1]
/-- not or a bracket is opened -/
theorem r_opn1 {o : Int32} (h : R7 X0 X tn tb p n E ops deep cnt) (ho : o = 9 ∨ o = 12) (hl : ops.length < 402) (hp : p ≤ tn) (hd : deep ≤ 10) : (deep < 10 → ∃ X1, f11_opens X o = some (X1, ()) ∧ R7 X0 X1 tn tb p n E (o :: ops) (1 + deep) cnt) ∧ (deep = 10 → ∃ X1, f11_opens X o = some (X1, ()) ∧ RF7 X0 X1 tn tb n (1 + 8 * p + 2) ∧ X1.1 0 20 = nI p) := by
  have e1 : nI ops.length + 1 = nI (ops.length + 1) := nI_add _ 1
  have ed : nI deep + 1 = nI (1 + deep) := by have : nI deep + 1 = nI (deep + 1) := nI_add _ 1
                                              rw [this, Nat.add_comm]
  have q10 : nI deep = (10 : Int32) ↔ deep = 10 := nI_eqI (b := 10) (by omega) (by omega)
  have h27 := h.2.2.2.2.1.1
  have h25 := h.2.2.2.1.1
  refine ⟨fun y => ?_, fun y => ?_⟩
  · have w : ∀ a i, (wI (wI (wI X 0 25 (nI (1 + deep))) 36 ops.length o) 0 27 (nI (ops.length + 1))).1 a i = if a = 0 ∧ i = 27 then nI (ops.length + 1) else if a = 36 ∧ i = ops.length then o else if a = 0 ∧ i = 25 then nI (1 + deep) else X.1 a i := fun a i => by rw [wI_g, wI_g, wI_g]
    refine ⟨_, ?_, h.psh (wI (wI (wI X 0 25 (nI (1 + deep))) 36 ops.length o) 0 27 (nI (ops.length + 1))) (fun a i u v => by rw [w, if_neg (by omega), if_neg v, if_neg (by omega)]) (by rw [w, if_neg (by omega), if_neg (by omega), if_pos ⟨rfl, rfl⟩]) (wI_self _ _ _ _) (by rw [w, if_neg (by omega), if_pos ⟨rfl, rfl⟩])⟩
    have c : Option.bind (if (X.1 0 25) = 10 then Option.bind (f11_fails X 2 (X.1 0 20)) (fun r1 => some r1.1) else some X) (fun (y2 : jS) => some (wI y2 0 25 ((y2.1 0 25) + 1))) = some (wI X 0 25 (nI (1 + deep))) := by
      rw [h25, if_neg (fun z => by have := q10.mp z; omega), Option.bind_some, h25, ed]
    unfold f11_opens
    rw [c]
    rcases ho with z | z
    · rw [if_pos z, Option.bind_some, wI_nj (by omega), h27, inbk (by omega) hl, if_pos rfl, nI_clamp (by omega), wI_ne (by omega), wI_nj (by omega), h27, e1]
    · rw [if_neg (by rw [z]; decide), if_pos z, Option.bind_some, wI_nj (by omega), h27, inbk (by omega) hl, if_pos rfl, nI_clamp (by omega), wI_ne (by omega), wI_nj (by omega), h27, e1]
  · have F := h.flt (f := 1 + 8 * p + 2) (p' := 0) (by omega)
    have c : Option.bind (if (X.1 0 25) = 10 then Option.bind (f11_fails X 2 (X.1 0 20)) (fun r1 => some r1.1) else some X) (fun (y2 : jS) => some (wI y2 0 25 ((y2.1 0 25) + 1))) = some (wI (wI X 0 21 (nI (1 + 8 * p + 2))) 0 25 ((wI X 0 21 (nI (1 + 8 * p + 2))).1 0 25 + 1)) := by
      rw [h25, if_pos (q10.mpr y), h.1.2.1, r_flt (x := 2) (e := 2) rfl, Option.bind_some, Option.bind_some, h.1.2.2, if_pos rfl]
    have F2 := F.w (i := 25) (x := (wI X 0 21 (nI (1 + 8 * p + 2))).1 0 25 + 1) (by omega)
    generalize hX2 : wI (wI X 0 21 (nI (1 + 8 * p + 2))) 0 25 ((wI X 0 21 (nI (1 + 8 * p + 2))).1 0 25 + 1) = X2 at *
    have g27 : X2.1 0 27 = nI ops.length := by rw [← hX2, wI_nj (by omega), wI_nj (by omega)]; exact h27
    have g20 : X2.1 0 20 = nI p := by rw [← hX2, wI_nj (by omega), wI_nj (by omega)]; exact h.1.2.1
    obtain ⟨a1, ⟨q, a2, a3⟩, a4, a5, a6⟩ := F2
    refine ⟨wI (wI X2 36 ops.length o) 0 27 (nI (ops.length + 1)), ?_, ⟨(a1.w (by omega) (by omega)).w (by omega) (by omega), ⟨q, a2, by rw [wI_nj (by omega), wI_ne (by omega)]; exact a3⟩, by rw [wI_nj (by omega), wI_ne (by omega)]; exact a4, by rw [wI_nj (by omega), wI_ne (by omega)]; exact a5, (a6.w (by omega)).w (by omega)⟩, by rw [wI_nj (by omega), wI_ne (by omega)]; exact g20⟩
    unfold f11_opens
    rw [c]
    rcases ho with z | z
    · rw [if_pos z, Option.bind_some, g27, inbk (by omega) hl, if_pos rfl, nI_clamp (by omega), wI_ne (by omega), g27, e1]
    · rw [if_neg (by rw [z]; decide), if_pos z, Option.bind_some, g27, inbk (by omega) hl, if_pos rfl, nI_clamp (by omega), wI_ne (by omega), g27, e1]
theorem r_top (h : R7 X0 X tn tb p n E ops deep cnt) (hl : ops.length < 402) : f11_top X = some (tpo ops) := by
  unfold f11_top
  cases ops with
  | nil => rw [h.2.2.2.2.1.1]; rfl
  | cons o w =>
    simp only [List.length_cons] at hl
    have e : X.1 0 27 = nI (w.length + 1) := h.2.2.2.2.1.1
    have es : nI (w.length + 1) - 1 = nI w.length := by
      have := nI_sub (a := w.length + 1) (b := 1) (by omega)
      rw [show (1 : Int32) = nI 1 from rfl, this]; congr 1
    rw [e, if_neg (fun z => by have := nI_j (b := 0) (by omega) (by omega) z; omega), es, inbk (by omega) (by omega), if_pos rfl, nI_clamp (by omega)]
    exact congrArg some h.2.2.2.2.1.2.1
/-- one sign is taken off the stack -/
theorem R7.pop1 {o : Int32} {w : List Int32} {deep' : Nat} (h : R7 X0 X tn tb p n E (o :: w) deep cnt) (X1 : jS) (q : ∀ a i, ¬ (a = 0 ∧ (i = 25 ∨ i = 27)) → X1.1 a i = X.1 a i) (h25 : X1.1 0 25 = nI deep') (h27 : X1.1 0 27 = nI w.length) : R7 X0 X1 tn tb p n E w deep' cnt := by
  obtain ⟨⟨a1, a2, a3⟩, ⟨b1, b2⟩, ⟨c1, c2⟩, ⟨d1, d2⟩, ⟨e1, e2⟩, g⟩ := h
  refine ⟨⟨⟨(q _ _ (by omega)).trans a1.1, fun i hi => (q _ _ (by omega)).trans (a1.2 i hi)⟩, (q _ _ (by omega)).trans a2, (q _ _ (by omega)).trans a3⟩, ⟨(q _ _ (by omega)).trans b1, (q _ _ (by omega)).trans b2⟩, ⟨(q _ _ (by omega)).trans c1, ents_ext (fun i _ _ => ⟨q _ _ (by omega), q _ _ (by omega)⟩) c2⟩, ⟨h25, (q _ _ (by omega)).trans d2⟩, ⟨h27, wst_ext (fun i hi => q _ _ (by omega)) e2.2⟩, fun a i k => ?_⟩
  have k' := k; unfold kpX at k'
  exact (q _ _ (by omega)).trans (g a i k)
/-- the sign of a rank and its number on the reference's stack -/
def rkO (r : Nat) (o x : Int32) : Prop := (r = 3 ∧ o = 9 ∧ x = -23) ∨ (r = 2 ∧ o = 10 ∧ x = -21) ∨ (r = 1 ∧ o = 11 ∧ x = -22)
theorem r_ans1 {r : Nat} {o x : Int32} (hn : n ≤ 5) (hr : rkO r o x) : ∀ (w : List Int32) (m : Nat) (X : jS) (E : List Int32), w.length < m → w.length ≤ 100 → E.length + w.length < 300 → gw w → tw w → hk w ≤ r → R7 X0 X tn tb p n E (w.map opc) (cn w) cnt → ∃ X1, f11_answers_L1 o m X = some X1 ∧ R7 X0 X1 tn tb p n (E ++ pop r w) ((rsd r w).map opc) (cn (rsd r w)) cnt := by
  intro w
  induction w with
  | nil =>
    intro m X E hm _ _ _ _ _ h
    obtain ⟨m, rfl⟩ : ∃ m', m = m' + 1 := ⟨m - 1, by simp only [List.length_nil] at hm; omega⟩
    rw [f11_answers_L1, r_top h (by simp), Option.bind_some]
    have : ¬ (-1 : Int32) = o := by rcases hr with ⟨-, z, -⟩ | ⟨-, z, -⟩ | ⟨-, z, -⟩ <;> rw [z] <;> decide
    refine ⟨X, ?_, by rw [show pop r [] = [] from rfl, List.append_nil]; exact h⟩
    show (if (-1 : Int32) = o then _ else _) = _
    rw [if_neg this]
  | cons y u ih =>
    intro m X E hm h100 hl hg ht hh h
    simp only [List.length_cons] at hm h100 hl
    obtain ⟨m, rfl⟩ : ∃ m', m = m' + 1 := ⟨m - 1, by omega⟩
    have hy := ht y List.mem_cons_self
    have hh' : rnk y ≤ r := hh
    have key : (r ≤ rnk y ↔ opc y = o) ∧ (r ≤ rnk y → y = x) := by
      rcases hr with ⟨z1, z2, z3⟩ | ⟨z1, z2, z3⟩ | ⟨z1, z2, z3⟩ <;> subst z1 z2 z3 <;> rcases hy with e | e | e | e <;> subst e <;> first | decide | (exact absurd hh' (by decide))
    rw [f11_answers_L1, r_top h (by simp only [List.map_cons, List.length_cons, List.length_map]; omega), Option.bind_some]
    show ∃ X1, (if opc y = o then _ else _) = some X1 ∧ _
    by_cases c : r ≤ rnk y
    · have yx := key.2 c
      have en : enS x = o ∧ enN x = 0 ∧ (o = 9 ↔ x = -23) ∧ x ≠ -26 := by rcases hr with ⟨-, z2, z3⟩ | ⟨-, z2, z3⟩ | ⟨-, z2, z3⟩ <;> subst z2 z3 <;> decide
      obtain ⟨X2, a1, a2⟩ := r_ent (x := x) (k := o) (y := 0) h (by omega) hn en.1.symm en.2.1.symm
      rw [if_pos (key.1.mp c), h.1.2.2, if_pos rfl, a1, Option.bind_some]
      dsimp only
      have e27 : X2.1 0 27 = nI (u.length + 1) := by rw [a2.2.2.2.2.1.1]; simp
      have es : nI (u.length + 1) - 1 = nI u.length := by
        have := nI_sub (a := u.length + 1) (b := 1) (by omega)
        rw [show (1 : Int32) = nI 1 from rfl, this]; congr 1
      have e25 : X2.1 0 25 = nI (cn (y :: u)) := a2.2.2.2.1.1
      have ec : nI (cn (y :: u)) - (if o = 9 then 1 else 0) = nI (cn u) := by
        rw [cn]
        by_cases c23 : x = -23
        · rw [if_pos (en.2.2.1.mpr c23), if_pos (Or.inl (yx.trans c23))]
          have := nI_sub (a := 1 + cn u) (b := 1) (by omega)
          rw [show (1 : Int32) = nI 1 from rfl, this]; congr 1; omega
        · rw [if_neg (fun z => c23 (en.2.2.1.mp z)), if_neg (by rw [yx]; rintro (z | z); (· exact c23 z); (· exact en.2.2.2 z)), Nat.zero_add]
          exact nI_sub (b := 0) (by omega)
      rw [e27, es, wI_nj (by omega), e25, ec]
      have a3 : R7 X0 (wI (wI X2 0 27 (nI u.length)) 0 25 (nI (cn u))) tn tb p n (E ++ [x]) (u.map opc) (cn u) cnt := by
        refine R7.pop1 (o := opc y) a2 _ (fun a i v => by rw [wI_g, if_neg (by omega), wI_g, if_neg (by omega)]) (wI_self _ _ _ _) (by rw [wI_nj (by omega), wI_self, List.length_map])
      have hu : hk u ≤ r := by
        have g := hg.2
        have := tw_hk (tw_t ht)
        rcases hr with ⟨z1, -, z3⟩ | ⟨z1, -, z3⟩ | ⟨z1, -, z3⟩
        · omega
        · rw [yx, z3, if_neg (by decide)] at g; have : rnk (-21) = 2 := by decide
          omega
        · rw [yx, z3, if_neg (by decide)] at g; have : rnk (-22) = 1 := by decide
          omega
      obtain ⟨X4, b1, b2⟩ := ih m _ (E ++ [x]) (by omega) (by omega) (by simp only [List.length_append, List.length_cons, List.length_nil]; omega) hg.1 (tw_t ht) hu a3
      refine ⟨X4, b1, ?_⟩
      rw [(rsd_p c).1, (rsd_p c).2, yx]
      rw [List.append_assoc] at b2
      exact b2
    · rw [if_neg (fun z => c (key.1.mpr z)), (rsd_n c).1, (rsd_n c).2, List.append_nil]
      exact ⟨X, rfl, h⟩
theorem ans_eq (X : jS) (o : Int32) : f11_answers X o = Option.bind (f11_answers_L1 o (jF + 1) X) (fun y => some (y, ())) := by
  rw [f11_answers_L1]
  unfold f11_answers
  cases f11_top X with
  | none => rfl
  | some r =>
    rw [Option.bind_some, Option.bind_some]
    by_cases c : r = o
    · rw [if_pos c, if_pos c]
      by_cases d : X.1 0 21 = 0
      · rw [if_pos d, if_pos d]
        cases f11_entry X o 0 with
        | none => rfl
        | some y => rfl
      · rw [if_neg d, if_neg d]; rfl
    · rw [if_neg c, if_neg c]; rfl
theorem r_ans {r : Nat} {o x : Int32} {w : List Int32} (hn : n ≤ 5) (hr : rkO r o x) (h100 : w.length ≤ 100) (hl : E.length + w.length < 300) (hg : gw w) (ht : tw w) (hh : hk w ≤ r) (h : R7 X0 X tn tb p n E (w.map opc) (cn w) cnt) : ∃ X1, f11_answers X o = some (X1, ()) ∧ R7 X0 X1 tn tb p n (E ++ pop r w) ((rsd r w).map opc) (cn (rsd r w)) cnt := by
  obtain ⟨X1, a, b⟩ := r_ans1 hn hr w (jF + 1) X E (by unfold jF; omega) h100 hl hg ht hh h
  exact ⟨X1, by rw [ans_eq, a]; rfl, b⟩
end
