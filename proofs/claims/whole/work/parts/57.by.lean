/-! a round by a rule, or by told beats, where it may be over -/
def ovB (N : mN) : Bool := decide (pcn (N 0 4) ≤ 1) || decide (N 0 3 = 0)
theorem ovB_t {N : mN} : ovB N = true ↔ overN N := by
  unfold ovB overN; simp
theorem ovB_f {N : mN} : ovB N = false ↔ ¬ overN N := by
  rw [← ovB_t]; simp
def ovN (N : mN) : mN := fun a i => if a = 0 ∧ i = 7 then 0 else if a = 0 ∧ i = 5 then N 0 5 + 1 else N a i
def rbb (N : mN) (b : Nat) : mN := if ovB N = true then ovN N else rnd N b
def rbs (N : mN) (b : Nat) : Nat := if ovB N = true then 0 else rnd N b 0 4
def bwN (ru : Option mR) (N : mN) : Nat := match ru with
  | none => 8
  | some R => ((mmaxL 1 (mminL 60 (rlv (wvN N) R))).toInt32).toNatClampNeg
theorem clampL (v : Int64) : ∃ b, 1 ≤ b ∧ b ≤ 60 ∧ (mmaxL 1 (mminL 60 v)).toInt32 = nI b ∧ ((0 : Int32) ≤ lg_cmp v 1 → lg_cmp v 60 ≤ 0 → v.toInt32 = nI b) ∧ ((0 : Int32) ≤ lg_cmp v 1 → ¬ lg_cmp v 60 ≤ 0 → b = 60) ∧ (¬ (0 : Int32) ≤ lg_cmp v 1 → b = 1) := by
  rw [lg_ge, lg_le]
  by_cases h1 : v < 1
  · refine ⟨1, by omega, by omega, ?_, fun z => absurd h1 z, fun z => absurd h1 z, fun _ => rfl⟩
    have e1 : mminL 60 v = v := by unfold mminL; rw [if_pos (by grind)]
    have e2 : mmaxL 1 v = 1 := by unfold mmaxL; rw [if_pos h1]
    rw [e1, e2]; decide
  · by_cases h2 : 60 < v
    · refine ⟨60, by omega, by omega, ?_, fun _ z => absurd h2 z, fun _ _ => rfl, fun z => absurd h1 z⟩
      have e1 : mminL 60 v = 60 := by unfold mminL; rw [if_neg (by grind)]
      rw [e1]; decide
    · have k1 : ¬ (v.toInt < (1 : Int64).toInt) := fun z => h1 (Int64.lt_iff_toInt_lt.mpr z)
      have k2 : ¬ ((60 : Int64).toInt < v.toInt) := fun z => h2 (Int64.lt_iff_toInt_lt.mpr z)
      have c1 : (1 : Int64).toInt = 1 := by decide
      have c2 : (60 : Int64).toInt = 60 := by decide
      rw [c1] at k1
      rw [c2] at k2
      have e : v = lN v.toInt.toNat := by
        apply Int64.toInt_inj.mp
        rw [lN_toInt (by omega)]; omega
      have tb : ∀ b, b < 61 → (lN b).toInt32 = nI b := by decide +kernel
      have hv : v.toInt32 = nI v.toInt.toNat := by
        have := tb v.toInt.toNat (by omega)
        rw [← e] at this; exact this
      refine ⟨v.toInt.toNat, by omega, by omega, ?_, fun _ _ => hv, fun _ z => absurd h2 z, fun z => absurd h1 z⟩
      have e1 : mminL 60 v = v := by unfold mminL; split <;> grind
      have e2 : mmaxL 1 v = v := by unfold mmaxL; rw [if_neg h1]
      rw [e1, e2]; exact hv
theorem bw_some {R : mR} {N : mN} : 1 ≤ bwN (some R) N ∧ bwN (some R) N ≤ 60 ∧ (mmaxL 1 (mminL 60 (rlv (wvN N) R))).toInt32 = nI (bwN (some R) N) ∧ (if (0 : Int32) ≤ lg_cmp (rlv (wvN N) R) 1 then (if lg_cmp (rlv (wvN N) R) 60 ≤ 0 then (rlv (wvN N) R).toInt32 else 60) else 1) = nI (bwN (some R) N) := by
  obtain ⟨b, b1, b2, b3, b4, b5, b6⟩ := clampL (rlv (wvN N) R)
  have e : bwN (some R) N = b := by
    show ((mmaxL 1 (mminL 60 (rlv (wvN N) R))).toInt32).toNatClampNeg = b
    rw [b3, nI_clamp (by omega)]
  rw [e]
  refine ⟨b1, b2, b3, ?_⟩
  split
  · rename_i h1
    split
    · rename_i h2; exact b4 h1 h2
    · rename_i h2; rw [b5 h1 h2]; rfl
  · rename_i h1; rw [b6 h1]; rfl
theorem bw_le (ru : Option mR) (N : mN) : 1 ≤ bwN ru N ∧ bwN ru N ≤ 60 := by
  cases ru with
  | none => exact ⟨by show 1 ≤ 8; omega, by show 8 ≤ 60; omega⟩
  | some R => exact ⟨bw_some.1, bw_some.2.1⟩
theorem ovN_ok {N : mN} (hN : NOk N) : NOk (ovN N) := by
  obtain ⟨h1, h2, h3, h4, h5, h6, h7, h8, h9, h10⟩ := hN
  exact ⟨h1, h2, h3, h4, h5, h6, by show 0 ≤ 60; omega, h8, h9, h10⟩
theorem rbb_ok {N : mN} {b : Nat} (hN : NOk N) (hb : b ≤ 60) : NOk (rbb N b) := by
  unfold rbb; split
  · exact ovN_ok hN
  · exact rnd_ok hN hb
/-- what a round in the class leaves alone -/
def cFr (o : Nat) (S S1 : jS) : Prop := ∀ a i, a ≠ 17 → a ≠ 18 → a ≠ 19 → (a < o ∨ o + 6 < a) → (a < 1200 ∨ a % 10 = 1) → S1.1 a i = S.1 a i
def ruC (T : jT) (S : jS) (q : Option Nat) (ru : Option mR) : Prop := match q, ru with
  | none, none => True
  | some r, some R => 1200 ≤ r ∧ r % 10 = 0 ∧ T.2.2.1 (r + 1) ≤ 400 ∧ rcd (S.1 (r + 1)) (T.2.2.1 (r + 1)) 0 R ∧ ∀ q ∈ R, clOk q
  | _, _ => False
theorem ruC.fr {T : jT} {S S1 : jS} {o : Nat} {q : Option Nat} {ru : Option mR} (h : ruC T S q ru) (ho : o < 1100) (hf : cFr o S S1) : ruC T S1 q ru := by
  cases q with
  | none => cases ru with
    | none => trivial
    | some R => exact h
  | some r => cases ru with
    | none => exact h
    | some R =>
      obtain ⟨h1, h2, h3, h4, h5⟩ := h
      refine ⟨h1, h2, h3, ?_, h5⟩
      have : S1.1 (r + 1) = S.1 (r + 1) := funext (fun i => hf _ _ (by omega) (by omega) (by omega) (by omega) (by omega))
      rw [this]; exact h4
theorem HIs_ov {S : jS} {o : Nat} {N : mN} (h : HIs (hC S o) N) : HIs (hC (wI (wI S o 7 0) o 5 (nI (N 0 5 + 1))) o) (ovN N) := by
  refine ⟨fun i a1 a2 => ?_, ?_, fun c hc => ?_, fun a g a1 a2 hg => ?_⟩
  · show (wI (wI S o 7 0) o 5 (nI (N 0 5 + 1))).1 (o + 0) i = nI (ovN N 0 i)
    rw [Nat.add_zero, wI_g, wI_g]
    unfold ovN
    by_cases i5 : i = 5
    · subst i5; rw [if_pos ⟨rfl, rfl⟩]; rfl
    · by_cases i7 : i = 7
      · subst i7; rw [if_neg (by omega), if_pos ⟨rfl, rfl⟩]; rfl
      · simp only [i5, i7, and_false, if_false]
        exact h.1 i a1 a2
  · show (wI (wI S o 7 0) o 5 (nI (N 0 5 + 1))).1 o 6 = nI (N 0 6) - 1
    rw [wI_nj (by omega), wI_nj (by omega)]; exact h.2.1
  · show (wI (wI S o 7 0) o 5 (nI (N 0 5 + 1))).1 (o + 1) c = nI (N 1 c)
    rw [wI_ne (by omega), wI_ne (by omega)]; exact h.2.2.1 c hc
  · show (wI (wI S o 7 0) o 5 (nI (N 0 5 + 1))).1 (o + a) g = nI (ovN N a g)
    have e : ovN N a g = N a g := by
      unfold ovN; rw [if_neg (by omega), if_neg (by omega)]
    rw [wI_ne (by omega), wI_ne (by omega), e]; exact h.2.2.2 a g a1 a2 hg
theorem c_by {T : jT} {S : jS} {o : Nat} {N : mN} {q : Option Nat} {ru : Option mR} (ho : 20 ≤ o) (ho2 : o < 1100) (hN : NOk N) (h : HIs (hC S o) N) (hq : ruC T S q ru) : ∃ S1, f3_roundBy T S o q = some (S1, nI (rbs N (bwN ru N))) ∧ HIs (hC S1 o) (rbb N (bwN ru N)) ∧ cFr o S S1 := by
  unfold rbb rbs
  by_cases hv : ovB N = true
  · have e5 : S.1 o 5 = nI (N 0 5) := h.1 5 (by omega) (by omega)
    rw [if_pos hv, if_pos hv]
    refine ⟨wI (wI S o 7 0) o 5 (nI (N 0 5 + 1)), ?_, HIs_ov h, ?_⟩
    · unfold f3_roundBy
      simp (disch := omega) only [(c_over hN h).1 (ovB_t.mp hv), ↓reduceIte, Option.bind_some, not_true_eq_false, not_false_eq_true, and_true, true_and, and_false, false_and, or_false, false_or, or_true, true_or, Bool.false_eq_true, reduceCtorEq, wI_self, wI_ne, wI_nj, wI_L, one_ne0, e5, nI_1]
      rfl
    · intro a i _ _ _ h4 _
      rw [wI_ne (by omega), wI_ne (by omega)]
  · have hv' : ¬ overN N := fun z => hv (ovB_t.mpr z)
    rw [if_neg hv, if_neg hv]
    cases q with
    | none => cases ru with
      | some R => exact hq.elim
      | none =>
        obtain ⟨S1, p1, p2, p3, p4⟩ := c_round (b := 8) ho hN h (by omega)
        refine ⟨S1, ?_, p2, fun a i a1 a2 a3 a4 _ => p3 a i a1 a2 a3 a4⟩
        have e : (mmaxL 1 (mminL 60 8)).toInt32 = nI 8 := by decide
        unfold f3_roundBy
        simp only [(c_over hN h).2 hv', ↓reduceIte, Option.bind_some, not_true_eq_false, not_false_eq_true, and_true, true_and, and_false, false_and, or_false, false_or, or_true, true_or, Bool.false_eq_true, reduceCtorEq, jopt, e, p1]
        rfl
    | some r => cases ru with
      | none => exact hq.elim
      | some R =>
        obtain ⟨h1, h2, h3, h4, h5⟩ := hq
        obtain ⟨S0, s1, s2, s3⟩ := c_sum (T := T) (o := o) hN (by omega) h3 h h4 h5
        have hb := bw_some (R := R) (N := N)
        obtain ⟨S1, p1, p2, p3, p4⟩ := c_round (b := bwN (some R) N) ho hN (h.mono (fun a i q1 q2 => s2 a i (by omega))) hb.2.1
        refine ⟨S1, ?_, p2, fun a i a1 a2 a3 a4 a5 => (p3 a i a1 a2 a3 a4).trans (s2 a i (by omega))⟩
        unfold f3_roundBy
        simp only [(c_over hN h).2 hv', ↓reduceIte, Option.bind_some, not_true_eq_false, not_false_eq_true, and_true, true_and, and_false, false_and, or_false, false_or, or_true, true_or, Bool.false_eq_true, reduceCtorEq, jopt, s1, hb.2.2.1, p1]
/-- a rule of the reference -/
def ruR (S : jS) (ru : Option mR) : Prop := match ru with
  | none => S.1 1 10 = -1
  | some R => ∃ sl, sl < 6 ∧ S.1 1 10 = nI sl ∧ S.1 32 sl = nI R.length ∧ R.length ≤ 12 ∧ rre S sl 0 0 R ∧ ∀ q ∈ R, clOk q
theorem r_ovr {S : jS} {N : mN} (hN : NOk N) (h : HIs (hV S.1) N) (hv : overN N) : ∃ S1, f11_goes S = some (S1, 0) ∧ HIs (hV S1.1) (ovN N) ∧ rF S S1 := by
  have e5 := HV5 h
  refine ⟨wI (wI S 1 4 0) 1 3 (nI (N 0 5 + 1)), ?_, ?_, ?_⟩
  · unfold f11_goes
    simp (disch := omega) only [(r_done hN h).1 hv, ↓reduceIte, Option.bind_some, not_true_eq_false, not_false_eq_true, and_true, true_and, and_false, false_and, or_false, false_or, or_true, true_or, Bool.false_eq_true, reduceCtorEq, wI_self, wI_ne, wI_nj, wI_L, one_ne0, e5, nI_1]
  · refine HIs_V ?_ ?_ ?_ ?_ ?_ ?_ ?_ ?_ (fun c hc => ?_) (fun a g h1' h2' hg => ?_)
    · simp (disch := omega) only [wI_self, wI_ne, wI_nj, wI_L]; exact (HV0 h).trans rfl
    · simp (disch := omega) only [wI_self, wI_ne, wI_nj, wI_L]; exact (HV1 h).trans rfl
    · simp (disch := omega) only [wI_self, wI_ne, wI_nj, wI_L]; exact (HV2 h).trans rfl
    · simp (disch := omega) only [wI_self, wI_ne, wI_nj, wI_L]; exact (HV3 h).trans rfl
    · simp (disch := omega) only [wI_self, wI_ne, wI_nj, wI_L]; exact (HV4 h).trans rfl
    · simp (disch := omega) only [wI_self, wI_ne, wI_nj, wI_L]; rfl
    · simp (disch := omega) only [wI_self, wI_ne, wI_nj, wI_L]; exact (HV6 h).trans rfl
    · simp (disch := omega) only [wI_self, wI_ne, wI_nj, wI_L]; rfl
    · simp (disch := omega) only [wI_self, wI_ne, wI_nj, wI_L]; exact (HVc h hc).trans rfl
    · simp (disch := omega) only [wI_self, wI_ne, wI_nj, wI_L]
      have e : ovN N a g = N a g := by
        unfold ovN; rw [if_neg (by omega), if_neg (by omega)]
      rw [e]; exact HVg h h1' h2' hg
  · intro a i b2 b5 b6 b39 b41 b1
    rw [wI_g, wI_g, if_neg (by omega), if_neg (by omega)]
theorem r_by {S : jS} {N : mN} {ru : Option mR} (hN : NOk N) (h : HIs (hV S.1) N) (h40 : S.1 0 40 = -1) (hq : ruR S ru) : ∃ S1, f11_goes S = some (S1, nI (rbs N (bwN ru N))) ∧ HIs (hV S1.1) (rbb N (bwN ru N)) ∧ rF S S1 := by
  unfold rbb rbs
  by_cases hv : ovB N = true
  · rw [if_pos hv, if_pos hv]
    exact r_ovr hN h (ovB_t.mp hv)
  · have hv' : ¬ overN N := fun z => hv (ovB_t.mpr z)
    rw [if_neg hv, if_neg hv]
    cases ru with
    | none =>
      have h10 : S.1 1 10 = -1 := hq
      have hw : f11_beatsWanted S = some (S, nI 8) := by
        unfold f11_beatsWanted; rw [if_pos h40, if_pos h10]; rfl
      obtain ⟨S1, p1, p2, p3, p4⟩ := r_round (b := 8) hN h hv' (by omega) hw rfl
      exact ⟨S1, p1, p2, p3⟩
    | some R =>
      obtain ⟨sl, s1, s2, s3, s4, s5, s6⟩ := hq
      have h10 : ¬ S.1 1 10 = -1 := by rw [s2]; exact fun z => (qeqm (by omega)).mp z
      obtain ⟨S0, a1, a2, a3, a4⟩ := r_asked hN h hv' h40 h10
      obtain ⟨S2, b1, b2, b3⟩ := r_rule (w := wvN N) (sl := sl) (c := R.length) (n := jF) (i := 0) (k := 0) s1 s4 (S := S0) a3 (by rw [a1]; exact s3) (by omega) (rre_ext a1 s5) s6 (by show _ < 5000; omega)
      have hb := bw_some (R := R) (N := N)
      have hw : f11_beatsWanted S = some (S2, nI (bwN (some R) N)) := by
        rw [a4]
        unfold f11_wanted
        rw [a1, s2, nI_12]
        have b1' : f11_wanted_L1 (nI sl) jF S0 (nI (12 * sl)) = some (S2, rlv (wvN N) R) := b1
        rw [b1', Option.bind_some, ← hb.2.2.2]
        simp only
        split
        · split <;> rfl
        · rfl
      obtain ⟨S1, p1, p2, p3, p4⟩ := r_round hN h hv' hb.2.1 hw (b2.trans a1)
      exact ⟨S1, p1, p2, p3⟩
theorem r_gb {S : jS} {N : mN} {b : Nat} (hN : NOk N) (h : HIs (hV S.1) N) (h40 : S.1 0 40 = nI b) (hb : b ≤ 60) : ∃ S1, f11_goes S = some (S1, nI (rbs N b)) ∧ HIs (hV S1.1) (rbb N b) ∧ rF S S1 := by
  unfold rbb rbs
  by_cases hv : ovB N = true
  · rw [if_pos hv, if_pos hv]
    exact r_ovr hN h (ovB_t.mp hv)
  · have hv' : ¬ overN N := fun z => hv (ovB_t.mpr z)
    rw [if_neg hv, if_neg hv]
    have hw : f11_beatsWanted S = some (S, nI b) := by
      unfold f11_beatsWanted; rw [h40, if_neg (fun z => (qeqm (by omega)).mp z)]
    obtain ⟨S1, p1, p2, p3, p4⟩ := r_round hN h hv' hb hw rfl
    exact ⟨S1, p1, p2, p3⟩
