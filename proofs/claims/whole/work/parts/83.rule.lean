/-! reading a rule: lists of signs, and the class's small steps -/
def wst (f : Nat → Int32) : List Int32 → Prop
  | [] => True
  | x :: w => f w.length = x ∧ wst f w
theorem wst_ext {f g : Nat → Int32} : ∀ {w : List Int32}, (∀ i, i < w.length → g i = f i) → wst f w → wst g w := by
  intro w
  induction w with
  | nil => intro _ _; trivial
  | cons x r ih =>
    intro h s
    exact ⟨(h _ (by simp)).trans s.1, ih (fun i hi => h i (by simp only [List.length_cons]; omega)) s.2⟩
theorem cod_app {f : Nat → Int32} : ∀ {a b : List Int32} {k : Nat}, cod f k (a ++ b) ↔ (cod f k a ∧ cod f (k + a.length) b) := by
  intro a
  induction a with
  | nil => intro b k; exact ⟨fun h => ⟨trivial, h⟩, fun h => h.2⟩
  | cons x r ih =>
    intro b k
    have e : k + (x :: r).length = k + 1 + r.length := by simp only [List.length_cons]; omega
    rw [e]
    exact ⟨fun h => ⟨⟨h.1, (ih.mp h.2).1⟩, (ih.mp h.2).2⟩, fun h => ⟨h.1.1, ih.mpr ⟨h.1.2, h.2⟩⟩⟩
theorem cod_ext {f g : Nat → Int32} : ∀ {a : List Int32} {k : Nat}, (∀ i, k ≤ i → i < k + a.length → g i = f i) → cod f k a → cod g k a := by
  intro a
  induction a with
  | nil => intro k _ _; trivial
  | cons x r ih =>
    intro k h s
    exact ⟨(h k (by omega) (by simp only [List.length_cons]; omega)).trans s.1, ih (fun i a b => h i (by omega) (by simp only [List.length_cons]; omega)) s.2⟩
theorem ents_app {f g : Nat → Int32} : ∀ {a b : List Int32} {k : Nat}, ents f g k (a ++ b) ↔ (ents f g k a ∧ ents f g (k + a.length) b) := by
  intro a
  induction a with
  | nil => intro b k; exact ⟨fun h => ⟨trivial, h⟩, fun h => h.2⟩
  | cons x r ih =>
    intro b k
    have e : k + (x :: r).length = k + 1 + r.length := by simp only [List.length_cons]; omega
    rw [e]
    exact ⟨fun h => ⟨⟨h.1, (ih.mp h.2).1⟩, (ih.mp h.2).2⟩, fun h => ⟨h.1.1, ih.mpr ⟨h.1.2, h.2⟩⟩⟩
/-- the rank of a sign -/
def rnk (a0 : Int32) : Nat := (if a0 = (-23) then 3 else (if a0 = (-22) then 1 else (if a0 = (-21) then 2 else (if a0 = (-20) then 4 else (if a0 = (-19) then 4 else (if a0 = (-18) then 4 else (if a0 = (-17) then 4 else (if a0 = (-16) then 4 else (if a0 = (-15) then 6 else (if a0 = (-14) then 6 else (if a0 = (-13) then 6 else (if a0 = (-12) then 5 else (if a0 = (-11) then 5 else 0)))))))))))))
theorem c_rk (x : Int32) : f7_rankOf x = some (nI (rnk x)) := by
  unfold f7_rankOf rnk
  by_cases h23 : x = -23
  · rw [if_pos h23, if_pos h23]; rfl
  rw [if_neg h23, if_neg h23]
  by_cases h22 : x = -22
  · rw [if_pos h22, if_pos h22]; rfl
  rw [if_neg h22, if_neg h22]
  by_cases h21 : x = -21
  · rw [if_pos h21, if_pos h21]; rfl
  rw [if_neg h21, if_neg h21]
  by_cases h20 : x = -20
  · rw [if_pos h20, if_pos h20]; rfl
  rw [if_neg h20, if_neg h20]
  by_cases h19 : x = -19
  · rw [if_pos h19, if_pos h19]; rfl
  rw [if_neg h19, if_neg h19]
  by_cases h18 : x = -18
  · rw [if_pos h18, if_pos h18]; rfl
  rw [if_neg h18, if_neg h18]
  by_cases h17 : x = -17
  · rw [if_pos h17, if_pos h17]; rfl
  rw [if_neg h17, if_neg h17]
  by_cases h16 : x = -16
  · rw [if_pos h16, if_pos h16]; rfl
  rw [if_neg h16, if_neg h16]
  by_cases h15 : x = -15
  · rw [if_pos h15, if_pos h15]; rfl
  rw [if_neg h15, if_neg h15]
  by_cases h14 : x = -14
  · rw [if_pos h14, if_pos h14]; rfl
  rw [if_neg h14, if_neg h14]
  by_cases h13 : x = -13
  · rw [if_pos h13, if_pos h13]; rfl
  rw [if_neg h13, if_neg h13]
  by_cases h12 : x = -12
  · rw [if_pos h12, if_pos h12]; rfl
  rw [if_neg h12, if_neg h12]
  by_cases h11 : x = -11
  · rw [if_pos h11, if_pos h11]; rfl
  rw [if_neg h11, if_neg h11]
  rfl
theorem rnk_le (x : Int32) : rnk x ≤ 6 := by
  unfold rnk
  by_cases h23 : x = -23
  · rw [if_pos h23]; omega
  rw [if_neg h23]
  by_cases h22 : x = -22
  · rw [if_pos h22]; omega
  rw [if_neg h22]
  by_cases h21 : x = -21
  · rw [if_pos h21]; omega
  rw [if_neg h21]
  by_cases h20 : x = -20
  · rw [if_pos h20]; omega
  rw [if_neg h20]
  by_cases h19 : x = -19
  · rw [if_pos h19]; omega
  rw [if_neg h19]
  by_cases h18 : x = -18
  · rw [if_pos h18]; omega
  rw [if_neg h18]
  by_cases h17 : x = -17
  · rw [if_pos h17]; omega
  rw [if_neg h17]
  by_cases h16 : x = -16
  · rw [if_pos h16]; omega
  rw [if_neg h16]
  by_cases h15 : x = -15
  · rw [if_pos h15]; omega
  rw [if_neg h15]
  by_cases h14 : x = -14
  · rw [if_pos h14]; omega
  rw [if_neg h14]
  by_cases h13 : x = -13
  · rw [if_pos h13]; omega
  rw [if_neg h13]
  by_cases h12 : x = -12
  · rw [if_pos h12]; omega
  rw [if_neg h12]
  by_cases h11 : x = -11
  · rw [if_pos h11]; omega
  rw [if_neg h11]
  omega
/-- how many brackets and nots are open -/
def cn : List Int32 → Nat
  | [] => 0
  | x :: w => (if x = -23 ∨ x = -26 then 1 else 0) + cn w
/-- what is released, and what stays -/
def pop (r : Nat) (w : List Int32) : List Int32 := w.takeWhile (fun x => decide (r ≤ rnk x))
def rsd (r : Nat) (w : List Int32) : List Int32 := w.dropWhile (fun x => decide (r ≤ rnk x))
def C7 (S0 S : jS) (tn : Nat) (tb : Nat → Nat) (p : Nat) (st te co : Int32) (cl pa de : Nat) (cd wt : List Int32) : Prop := (CTp S tn tb ∧ S.1 1 2 = nI p ∧ fC S0 S) ∧ (S.1 12 5 = st ∧ S.1 12 9 = te ∧ S.1 12 10 = co) ∧ (S.1 12 6 = nI cl ∧ S.1 12 7 = nI pa ∧ S.1 12 8 = nI de) ∧ (S.1 12 2 = nI cd.length ∧ cod (S.1 13) 0 cd) ∧ (S.1 12 4 = nI wt.length ∧ wst (S.1 14) wt)
section
variable {S0 S S1 : jS} {tn : Nat} {tb : Nat → Nat} {p : Nat} {st te co st' te' co' : Int32} {cl pa de cl' pa' de' : Nat} {cd wt : List Int32}
theorem C7.set (h : C7 S0 S tn tb p st te co cl pa de cd wt) (q : ∀ a i, ¬ (a = 12 ∧ 5 ≤ i ∧ i ≤ 10) → ¬ (a = 1 ∧ i = 6) → S1.1 a i = S.1 a i) (h5 : S1.1 12 5 = st') (h9 : S1.1 12 9 = te') (h10 : S1.1 12 10 = co') (h6 : S1.1 12 6 = nI cl') (h7 : S1.1 12 7 = nI pa') (h8 : S1.1 12 8 = nI de') : C7 S0 S1 tn tb p st' te' co' cl' pa' de' cd wt := by
  obtain ⟨⟨a1, a2, a3⟩, -, -, ⟨d1, d2⟩, ⟨e1, e2⟩⟩ := h
  refine ⟨⟨⟨(q _ _ (by omega) (by omega)).trans a1.1, fun i hi => (q _ _ (by omega) (by omega)).trans (a1.2 i hi)⟩, (q _ _ (by omega) (by omega)).trans a2, fun a i k => ?_⟩, ⟨h5, h9, h10⟩, ⟨h6, h7, h8⟩, ⟨(q _ _ (by omega) (by omega)).trans d1, cod_ext (fun i _ _ => q _ _ (by omega) (by omega)) d2⟩, ⟨(q _ _ (by omega) (by omega)).trans e1, wst_ext (fun i _ => q _ _ (by omega) (by omega)) e2⟩⟩
  have k' := k; unfold kpC at k'
  exact (q _ _ (by omega) (by omega)).trans (a3 a i k)
theorem C7.sg (h : C7 S0 S tn tb p st te co cl pa de cd wt) (g : SG tn tb S S1 p) : C7 S0 S1 tn tb (tkE tn tb (sk tn tb p)) st te co cl pa de cd wt := by
  obtain ⟨⟨a1, a2, a3⟩, ⟨b1, b2, b3⟩, ⟨c1, c2, c3⟩, ⟨d1, d2⟩, ⟨e1, e2⟩⟩ := h
  obtain ⟨g1, -, -, -, q⟩ := g
  refine ⟨⟨⟨(q _ _ (by omega)).trans a1.1, fun i hi => (q _ _ (by omega)).trans (a1.2 i hi)⟩, g1, fun a i k => ?_⟩, ⟨(q _ _ (by omega)).trans b1, (q _ _ (by omega)).trans b2, (q _ _ (by omega)).trans b3⟩, ⟨(q _ _ (by omega)).trans c1, (q _ _ (by omega)).trans c2, (q _ _ (by omega)).trans c3⟩, ⟨(q _ _ (by omega)).trans d1, cod_ext (fun i _ _ => q _ _ (by omega)) d2⟩, ⟨(q _ _ (by omega)).trans e1, wst_ext (fun i _ => q _ _ (by omega)) e2⟩⟩
  have k' := k; unfold kpC at k'
  exact (q _ _ (by omega)).trans (a3 a i k)
theorem c_emit {x : Int32} (h : C7 S0 S tn tb p st te co cl pa de cd wt) (hl : cd.length < 400) : ∃ S1, f7_emit S x = some (S1, ()) ∧ C7 S0 S1 tn tb p st te co cl pa de (cd ++ [x]) wt ∧ ∀ a i, a ≠ 13 → ¬ (a = 12 ∧ i = 2) → S1.1 a i = S.1 a i := by
  obtain ⟨⟨a1, a2, a3⟩, ⟨b1, b2, b3⟩, ⟨c1, c2, c3⟩, ⟨d1, d2⟩, ⟨e1, e2⟩⟩ := h
  have en : nI cd.length + 1 = nI (cd.length + 1) := nI_add _ 1
  have ex : (cd ++ [x]).length = cd.length + 1 := by simp
  refine ⟨wI (wI S 13 cd.length x) 12 2 (nI (cd.length + 1)), ?_, ⟨⟨⟨by rw [wI_ne (by omega), wI_ne (by omega)]; exact a1.1, fun i hi => by rw [wI_ne (by omega), wI_ne (by omega)]; exact a1.2 i hi⟩, by rw [wI_ne (by omega), wI_ne (by omega)]; exact a2, (fC.w (fC.w a3 (by omega)) (by omega))⟩, ⟨by rw [wI_nj (by omega), wI_ne (by omega)]; exact b1, by rw [wI_nj (by omega), wI_ne (by omega)]; exact b2, by rw [wI_nj (by omega), wI_ne (by omega)]; exact b3⟩, ⟨by rw [wI_nj (by omega), wI_ne (by omega)]; exact c1, by rw [wI_nj (by omega), wI_ne (by omega)]; exact c2, by rw [wI_nj (by omega), wI_ne (by omega)]; exact c3⟩, ⟨by rw [wI_self, ex], cod_app.mpr ⟨cod_ext (fun i _ hi => by rw [wI_ne (by omega), wI_nj (by omega)]) d2, by rw [wI_ne (by omega), Nat.zero_add, wI_self], trivial⟩⟩, ⟨by rw [wI_nj (by omega), wI_ne (by omega)]; exact e1, wst_ext (fun i _ => by rw [wI_ne (by omega), wI_ne (by omega)]) e2⟩⟩, fun a i u v => by rw [wI_g, if_neg v, wI_ne u]⟩
  unfold f7_emit
  rw [d1, if_neg (by rw [show (400 : Int32) = nI 400 from rfl, nI_leI (by omega) (by omega)]; omega), inbk (by omega) hl, if_pos rfl, nI_clamp (by omega), wI_ne (by omega), d1, en]
theorem c_psh {z : Int32} (h : C7 S0 S tn tb p st te co cl pa de cd wt) (hz : S.1 1 4 = z) (hl : wt.length < 64) : ∃ S1, f7_push S st' = some (S1, ()) ∧ C7 S0 S1 tn tb p st' te co cl pa de cd (z :: wt) ∧ ∀ a i, a ≠ 14 → ¬ (a = 12 ∧ (i = 4 ∨ i = 5)) → S1.1 a i = S.1 a i := by
  obtain ⟨⟨a1, a2, a3⟩, ⟨b1, b2, b3⟩, ⟨c1, c2, c3⟩, ⟨d1, d2⟩, ⟨e1, e2⟩⟩ := h
  have en : nI wt.length + 1 = nI (wt.length + 1) := nI_add _ 1
  have w : ∀ a i, (wI (wI (wI S 14 wt.length z) 12 4 (nI (wt.length + 1))) 12 5 st').1 a i = if a = 12 ∧ i = 5 then st' else if a = 12 ∧ i = 4 then nI (wt.length + 1) else if a = 14 ∧ i = wt.length then z else S.1 a i := fun a i => by rw [wI_g, wI_g, wI_g]
  have wn : ∀ a i, ¬ (a = 12 ∧ (i = 4 ∨ i = 5)) → ¬ (a = 14 ∧ i = wt.length) → (wI (wI (wI S 14 wt.length z) 12 4 (nI (wt.length + 1))) 12 5 st').1 a i = S.1 a i := fun a i u v => by
    rw [w, if_neg (by omega), if_neg (by omega), if_neg v]
  refine ⟨_, ?_, ⟨⟨⟨(wn _ _ (by omega) (by omega)).trans a1.1, fun i hi => (wn _ _ (by omega) (by omega)).trans (a1.2 i hi)⟩, (wn _ _ (by omega) (by omega)).trans a2, fC.w (fC.w (fC.w a3 (by omega)) (by omega)) (by omega)⟩, ⟨wI_self _ _ _ _, (wn _ _ (by omega) (by omega)).trans b2, (wn _ _ (by omega) (by omega)).trans b3⟩, ⟨(wn _ _ (by omega) (by omega)).trans c1, (wn _ _ (by omega) (by omega)).trans c2, (wn _ _ (by omega) (by omega)).trans c3⟩, ⟨(wn _ _ (by omega) (by omega)).trans d1, cod_ext (fun i _ _ => wn _ _ (by omega) (by omega)) d2⟩, ⟨by rw [w, if_neg (by omega), if_pos ⟨rfl, rfl⟩]; rfl, by rw [w, if_neg (by omega), if_neg (by omega), if_pos ⟨rfl, rfl⟩], wst_ext (fun i hi => wn _ _ (by omega) (by omega)) e2⟩⟩, fun a i u v => wn a i v (by omega)⟩
  unfold f7_push
  rw [e1, if_neg (by rw [show (0 : Int32) = nI 0 from rfl, nI_ltI (by omega) (by omega)]; omega), if_neg (by rw [show (64 : Int32) = nI 64 from rfl, nI_leI (by omega) (by omega)]; omega), inbk (by omega) hl, if_pos rfl, nI_clamp (by omega), wI_ne (by omega), e1, en, hz, Option.bind_some]
theorem rel_eq (S : jS) (a0 : Int32) : f7_release S a0 = Option.bind (f7_release_L1 a0 (jF + 1) S) (fun y => some (y, ())) := by
  rw [f7_release_L1]
  unfold f7_release
  by_cases c1 : S.1 12 4 ≤ 0
  · rw [if_pos c1, if_pos c1]; rfl
  · rw [if_neg c1, if_neg c1]
    by_cases c2 : inb ((S.1 12 4) - 1) 64 = true
    · rw [if_pos c2, if_pos c2, c_rk, Option.bind_some, Option.bind_some]
      by_cases c3 : nI (rnk (S.1 14 ((S.1 12 4) - 1).toNatClampNeg)) < a0
      · rw [if_pos c3, if_pos c3]; rfl
      · rw [if_neg c3, if_neg c3]
        split
        · generalize (if ((wI S 12 4 ((S.1 12 4) - 1)).1 14 ((wI S 12 4 ((S.1 12 4) - 1)).1 12 4).toNatClampNeg) = ((-23)) then some (wI (wI S 12 4 ((S.1 12 4) - 1)) 12 8 (((wI S 12 4 ((S.1 12 4) - 1)).1 12 8) - 1)) else some (wI S 12 4 ((S.1 12 4) - 1)) : Option jS) = o
          cases o with
          | none => rfl
          | some y =>
            rw [Option.bind_some, Option.bind_some]
            split
            · generalize f7_emit y (y.1 14 (y.1 12 4).toNatClampNeg) = o2
              cases o2 with
              | none => rfl
              | some y2 => rfl
            · rfl
        · rfl
    · rw [if_neg c2, if_neg c2]; rfl
end
theorem c_rel1 {S0 : jS} {tn : Nat} {tb : Nat → Nat} {p : Nat} {st te co : Int32} {cl pa r : Nat} (hr : 1 ≤ r ∧ r ≤ 6) : ∀ (wt : List Int32) (n : Nat) (S : jS) (cd : List Int32), wt.length < n → C7 S0 S tn tb p st te co cl pa (cn wt) cd wt → wt.length ≤ 64 → cd.length + wt.length < 400 → ∃ S1, f7_release_L1 (nI r) n S = some S1 ∧ C7 S0 S1 tn tb p st te co cl pa (cn (rsd r wt)) (cd ++ pop r wt) (rsd r wt) ∧ ∀ a i, a ≠ 13 → ¬ (a = 12 ∧ (i = 2 ∨ i = 4 ∨ i = 8)) → S1.1 a i = S.1 a i := by
  intro wt
  induction wt with
  | nil =>
    intro n S cd hn h _ _
    obtain ⟨m, rfl⟩ : ∃ m, n = m + 1 := ⟨n - 1, by simp only [List.length_nil] at hn; omega⟩
    have e := h.2.2.2.2.1
    rw [f7_release_L1, e, if_pos (by decide)]
    exact ⟨S, rfl, by rw [show pop r [] = [] from rfl, List.append_nil]; exact h, fun _ _ _ _ => rfl⟩
  | cons x w ih =>
    intro n S cd hn h h64 hl
    simp only [List.length_cons] at hn h64 hl
    obtain ⟨m, rfl⟩ : ∃ m, n = m + 1 := ⟨n - 1, by omega⟩
    have e : S.1 12 4 = nI (w.length + 1) := h.2.2.2.2.1
    have ex : S.1 14 w.length = x := h.2.2.2.2.2.1
    have es : nI (w.length + 1) - 1 = nI w.length := by
      have := nI_sub (a := w.length + 1) (b := 1) (by omega)
      rw [show (1 : Int32) = nI 1 from rfl, this]; congr 1
    have hk := rnk_le x
    rw [f7_release_L1, e, if_neg (by rw [show (0 : Int32) = nI 0 from rfl, nI_leI (by omega) (by omega)]; omega), es, inbk (by omega) (by omega), if_pos rfl, nI_clamp (by omega), ex, c_rk, Option.bind_some]
    by_cases c : r ≤ rnk x
    · have ep : pop r (x :: w) = x :: pop r w := by unfold pop; rw [List.takeWhile_cons_of_pos (by simpa using c)]
      have er : rsd r (x :: w) = rsd r w := by unfold rsd; rw [List.dropWhile_cons_of_pos (by simpa using c)]
      have n26 : x ≠ -26 := fun z => by rw [z] at c; have : rnk (-26) = 0 := by decide
                                        omega
      rw [if_neg (by rw [nI_ltI (by omega) (by omega)]; omega), wI_self, inbk (by omega) (by omega), if_pos rfl, nI_clamp (by omega), wI_ne (by omega), ex]
      have h2 : ∃ S2, (if x = ((-23)) then some (wI (wI S 12 4 (nI w.length)) 12 8 (((wI S 12 4 (nI w.length)).1 12 8) - 1)) else some (wI S 12 4 (nI w.length))) = some S2 ∧ C7 S0 S2 tn tb p st te co cl pa (cn w) cd w ∧ (∀ a i, ¬ (a = 12 ∧ (i = 4 ∨ i = 8)) → S2.1 a i = S.1 a i) := by
        obtain ⟨⟨a1, a2, a3⟩, ⟨b1, b2, b3⟩, ⟨c1, c2, c3⟩, ⟨d1, d2⟩, ⟨e1, e2⟩⟩ := id h
        have hb : C7 S0 (wI S 12 4 (nI w.length)) tn tb p st te co cl pa (cn (x :: w)) cd w := ⟨⟨⟨by rw [wI_ne (by omega)]; exact a1.1, fun i hi => by rw [wI_ne (by omega)]; exact a1.2 i hi⟩, by rw [wI_ne (by omega)]; exact a2, fC.w a3 (by omega)⟩, ⟨by rw [wI_nj (by omega)]; exact b1, by rw [wI_nj (by omega)]; exact b2, by rw [wI_nj (by omega)]; exact b3⟩, ⟨by rw [wI_nj (by omega)]; exact c1, by rw [wI_nj (by omega)]; exact c2, by rw [wI_nj (by omega)]; exact c3⟩, ⟨by rw [wI_nj (by omega)]; exact d1, cod_ext (fun i _ _ => by rw [wI_ne (by omega)]) d2⟩, ⟨wI_self _ _ _ _, wst_ext (fun i _ => by rw [wI_ne (by omega)]) e2.2⟩⟩
        by_cases c23 : x = -23
        · have e8 : (wI S 12 4 (nI w.length)).1 12 8 - 1 = nI (cn w) := by
            rw [wI_nj (by omega), c3, cn, if_pos (Or.inl c23)]
            have := nI_sub (a := 1 + cn w) (b := 1) (by omega)
            rw [show (1 : Int32) = nI 1 from rfl, this]; congr 1; omega
          rw [if_pos c23, e8]
          refine ⟨_, rfl, hb.set (fun a i u _ => by rw [wI_g, if_neg (by omega)]) (by rw [wI_nj (by omega)]; exact hb.2.1.1) (by rw [wI_nj (by omega)]; exact hb.2.1.2.1) (by rw [wI_nj (by omega)]; exact hb.2.1.2.2) (by rw [wI_nj (by omega)]; exact hb.2.2.1.1) (by rw [wI_nj (by omega)]; exact hb.2.2.1.2.1) (wI_self _ _ _ _), fun a i u => by rw [wI_g, if_neg (by omega), wI_g, if_neg (by omega)]⟩
        · have ec : cn (x :: w) = cn w := by rw [cn, if_neg (by rintro (z | z); (· exact c23 z); (· exact n26 z)), Nat.zero_add]
          rw [if_neg c23]
          exact ⟨_, rfl, by rw [ec] at hb; exact hb, fun a i u => by rw [wI_g, if_neg (by omega)]⟩
      obtain ⟨S2, s1, s2, s3⟩ := h2
      rw [s1, Option.bind_some, s2.2.2.2.2.1, inbk (by omega) (by omega), if_pos rfl, nI_clamp (by omega), s3 14 _ (by omega), ex]
      obtain ⟨S3, t1, t2, t3⟩ := c_emit (x := x) s2 (by omega)
      rw [t1, Option.bind_some]
      obtain ⟨S4, u1, u2, u3⟩ := ih m S3 (cd ++ [x]) (by omega) t2 (by omega) (by simp only [List.length_append, List.length_cons, List.length_nil]; omega)
      refine ⟨S4, u1, ?_, fun a i v v' => ?_⟩
      · rw [ep, er]
        rw [List.append_assoc] at u2
        exact u2
      · rw [u3 a i v v', t3 a i v (by omega), s3 a i (by omega)]
    · have ep : pop r (x :: w) = [] := by unfold pop; rw [List.takeWhile_cons_of_neg (by simpa using c)]
      have er : rsd r (x :: w) = x :: w := by unfold rsd; rw [List.dropWhile_cons_of_neg (by simpa using c)]
      rw [if_pos (by rw [nI_ltI (by omega) (by omega)]; omega), ep, er, List.append_nil]
      exact ⟨S, rfl, h, fun _ _ _ _ => rfl⟩
theorem c_rel {S0 S : jS} {tn : Nat} {tb : Nat → Nat} {p : Nat} {st te co : Int32} {cl pa r : Nat} {cd wt : List Int32} (hr : 1 ≤ r ∧ r ≤ 6) (h : C7 S0 S tn tb p st te co cl pa (cn wt) cd wt) (h64 : wt.length ≤ 64) (hl : cd.length + wt.length < 400) : ∃ S1, f7_release S (nI r) = some (S1, ()) ∧ C7 S0 S1 tn tb p st te co cl pa (cn (rsd r wt)) (cd ++ pop r wt) (rsd r wt) ∧ ∀ a i, a ≠ 13 → ¬ (a = 12 ∧ (i = 2 ∨ i = 4 ∨ i = 8)) → S1.1 a i = S.1 a i := by
  obtain ⟨S1, a, b, c⟩ := c_rel1 hr wt (jF + 1) S cd (by unfold jF; omega) h h64 hl
  exact ⟨S1, by rw [rel_eq, a]; rfl, b, c⟩
