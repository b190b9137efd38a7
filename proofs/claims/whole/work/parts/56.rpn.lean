/-! rules as rows of signs (the class's own numbers): what they come to -/
theorem lg_eq {x y : Int64} : lg_cmp x y = 0 ↔ x = y := by
  unfold lg_cmp
  by_cases h : x > y
  · rw [if_pos h]
    exact ⟨fun z => absurd z (by decide), fun z => by grind⟩
  · rw [if_neg h]
    by_cases h2 : x = y
    · rw [if_pos h2]; exact ⟨fun _ => h2, fun _ => rfl⟩
    · rw [if_neg h2]; exact ⟨fun z => absurd z (by decide), fun z => absurd z h2⟩
theorem lg_gt {x y : Int64} : 0 < lg_cmp x y ↔ y < x := by
  unfold lg_cmp
  by_cases h : x > y
  · rw [if_pos h]; exact ⟨fun _ => h, fun _ => by decide⟩
  · rw [if_neg h]
    by_cases h2 : x = y
    · rw [if_pos h2]; exact ⟨fun z => absurd z (by decide), fun z => absurd z h⟩
    · rw [if_neg h2]; exact ⟨fun z => absurd z (by decide), fun z => absurd z h⟩
theorem lg_ge {x y : Int64} : 0 ≤ lg_cmp x y ↔ ¬ x < y := by
  rw [← lg_lt]; grind
theorem lg_le {x y : Int64} : lg_cmp x y ≤ 0 ↔ ¬ y < x := by
  rw [← lg_gt]; grind
def opv (x : Int32) (a b : Int64) : Int64 := (f6_join x a b).getD 0
theorem join_opv (x : Int32) (a b : Int64) : f6_join x a b = some (opv x a b) := by
  have key : (f6_join x a b).isSome = true := by
    unfold f6_join
    simp only [lg_eq]
    repeat' split
    all_goals first | rfl | (exfalso; contradiction)
  rw [Option.isSome_iff_exists] at key
  obtain ⟨v, hv⟩ := key
  unfold opv; rw [hv]; rfl
def tky (D : Nat) : List Int32 → List Bool → Option (List Bool)
  | [], ts => some ts
  | x :: r, ts => if -10 ≤ x then (if ts.length < D then tky D r (false :: ts) else none)
    else if x = -23 then (match ts with
      | true :: u => tky D r (true :: u)
      | _ => none)
    else if -15 ≤ x then (match ts with
      | false :: false :: u => tky D r (false :: u)
      | _ => none)
    else if -20 ≤ x then (match ts with
      | false :: false :: u => tky D r (true :: u)
      | _ => none)
    else if -22 ≤ x then (match ts with
      | true :: true :: u => tky D r (true :: u)
      | _ => none)
    else none
def evs (w : Nat → Int64) : List Int32 → List Int64 → List Int64
  | [], st => st
  | x :: r, st => if 0 ≤ x then evs w r (x.toInt64 :: st)
    else if -10 ≤ x then evs w r (w (-1 - x).toNatClampNeg :: st)
    else if x = -23 then (match st with
      | a :: u => evs w r ((1 - a) :: u)
      | [] => [])
    else (match st with
      | b :: a :: u => evs w r (opv x a b :: u)
      | _ => [])
def tyd : List Bool → List Int64 → Prop
  | [], [] => True
  | t :: ts, v :: vs => (t = true → v = 0 ∨ v = 1) ∧ tyd ts vs
  | _, _ => False
theorem tyd_len : ∀ {ts : List Bool} {vs : List Int64}, tyd ts vs → vs.length = ts.length
  | [], [], _ => rfl
  | _ :: _, _ :: _, h => by simp [tyd_len h.2]
  | [], _ :: _, h => h.elim
  | _ :: _, [], h => h.elim
/-- one sign: how the kinds and the values of the stack go on -/
def tk1 (D : Nat) (x : Int32) (ts : List Bool) : Option (List Bool) := tky D [x] ts
def ev1 (w : Nat → Int64) (x : Int32) (st : List Int64) : List Int64 := evs w [x] st
theorem tky_cons {D : Nat} {x : Int32} {r : List Int32} {ts ts' : List Bool} (h : tky D (x :: r) ts = some ts') : ∃ u, tk1 D x ts = some u ∧ tky D r u = some ts' := by
  unfold tky at h
  unfold tk1
  simp only [tky]
  split at h
  · split at h
    · rename_i h1 h2; rw [if_pos h1, if_pos h2]; exact ⟨_, rfl, h⟩
    · cases h
  · rename_i h1
    rw [if_neg h1]
    split at h
    · rename_i h2
      rw [if_pos h2]
      split at h
      · exact ⟨_, rfl, h⟩
      · cases h
    · rename_i h2
      rw [if_neg h2]
      split at h
      · rename_i h3
        rw [if_pos h3]
        split at h
        · exact ⟨_, rfl, h⟩
        · cases h
      · rename_i h3
        rw [if_neg h3]
        split at h
        · rename_i h4
          rw [if_pos h4]
          split at h
          · exact ⟨_, rfl, h⟩
          · cases h
        · rename_i h4
          rw [if_neg h4]
          split at h
          · rename_i h5
            rw [if_pos h5]
            split at h
            · exact ⟨_, rfl, h⟩
            · cases h
          · cases h
/-- the kinds of sign -/
theorem tk1_cs {D : Nat} {x : Int32} {ts u : List Bool} (h : tk1 D x ts = some u) : (-10 ≤ x ∧ ts.length < D ∧ u = false :: ts) ∨ (x = -23 ∧ ∃ v, ts = true :: v ∧ u = true :: v) ∨ (x < -10 ∧ -15 ≤ x ∧ ∃ v, ts = false :: false :: v ∧ u = false :: v) ∨ (x < -15 ∧ -20 ≤ x ∧ ∃ v, ts = false :: false :: v ∧ u = true :: v) ∨ (x < -20 ∧ -22 ≤ x ∧ ∃ v, ts = true :: true :: v ∧ u = true :: v) := by
  unfold tk1 at h
  simp only [tky] at h
  split at h
  · rename_i h1
    split at h
    · rename_i h2; cases h; exact Or.inl ⟨h1, h2, rfl⟩
    · cases h
  · rename_i h1
    split at h
    · rename_i h2
      split at h
      · cases h; exact Or.inr (Or.inl ⟨h2, _, rfl, rfl⟩)
      · cases h
    · rename_i h2
      split at h
      · rename_i h3
        split at h
        · cases h; exact Or.inr (Or.inr (Or.inl ⟨by grind, h3, _, rfl, rfl⟩))
        · cases h
      · rename_i h3
        split at h
        · rename_i h4
          split at h
          · cases h; exact Or.inr (Or.inr (Or.inr (Or.inl ⟨by grind, h4, _, rfl, rfl⟩)))
          · cases h
        · rename_i h4
          split at h
          · rename_i h5
            split at h
            · cases h; exact Or.inr (Or.inr (Or.inr (Or.inr ⟨by grind, h5, _, rfl, rfl⟩)))
            · cases h
          · cases h
theorem cmp_01 {x : Int32} {a b : Int64} (h1 : x < -15) (h2 : -20 ≤ x) : opv x a b = 0 ∨ opv x a b = 1 := by
  have hx : x = -16 ∨ x = -17 ∨ x = -18 ∨ x = -19 ∨ x = -20 := by grind
  rcases hx with rfl | rfl | rfl | rfl | rfl
  · show (f6_join (-16) a b).getD 0 = 0 ∨ (f6_join (-16) a b).getD 0 = 1
    have : f6_join (-16) a b = (if (0 : Int32) ≤ (lg_cmp a b) then some 0 else some 1) := rfl
    rw [this]; split
    · exact Or.inl rfl
    · exact Or.inr rfl
  · show (f6_join (-17) a b).getD 0 = 0 ∨ (f6_join (-17) a b).getD 0 = 1
    have : f6_join (-17) a b = (if (0 : Int32) < (lg_cmp a b) then some 0 else some 1) := rfl
    rw [this]; split
    · exact Or.inl rfl
    · exact Or.inr rfl
  · show (f6_join (-18) a b).getD 0 = 0 ∨ (f6_join (-18) a b).getD 0 = 1
    have : f6_join (-18) a b = (if (lg_cmp a b) = 0 then some 1 else some 0) := rfl
    rw [this]; split
    · exact Or.inr rfl
    · exact Or.inl rfl
  · show (f6_join (-19) a b).getD 0 = 0 ∨ (f6_join (-19) a b).getD 0 = 1
    have : f6_join (-19) a b = (if (lg_cmp a b) < 0 then some 0 else some 1) := rfl
    rw [this]; split
    · exact Or.inl rfl
    · exact Or.inr rfl
  · show (f6_join (-20) a b).getD 0 = 0 ∨ (f6_join (-20) a b).getD 0 = 1
    have : f6_join (-20) a b = (if (lg_cmp a b) ≤ 0 then some 0 else some 1) := rfl
    rw [this]; split
    · exact Or.inl rfl
    · exact Or.inr rfl
theorem and_01 {x : Int32} {a b : Int64} (h1 : x < -20) (h2 : -22 ≤ x) (ha : a = 0 ∨ a = 1) (hb : b = 0 ∨ b = 1) : opv x a b = 0 ∨ opv x a b = 1 := by
  have hx : x = -21 ∨ x = -22 := by grind
  rcases hx with rfl | rfl <;> rcases ha with rfl | rfl <;> rcases hb with rfl | rfl <;> decide
theorem tyd_inv {t : Bool} {ts : List Bool} {vs : List Int64} (h : tyd (t :: ts) vs) : ∃ v u, vs = v :: u ∧ (t = true → v = 0 ∨ v = 1) ∧ tyd ts u := by
  cases vs with
  | nil => exact h.elim
  | cons v u => exact ⟨v, u, rfl, h.1, h.2⟩
theorem evs_cons {D : Nat} {w : Nat → Int64} {x : Int32} {r : List Int32} {ts u : List Bool} {st : List Int64} (h : tk1 D x ts = some u) (ht : tyd ts st) : evs w (x :: r) st = evs w r (ev1 w x st) ∧ tyd u (ev1 w x st) := by
  unfold ev1
  rcases tk1_cs h with ⟨h1, h2, rfl⟩ | ⟨rfl, v, rfl, rfl⟩ | ⟨h1, h2, v, rfl, rfl⟩ | ⟨h1, h2, v, rfl, rfl⟩ | ⟨h1, h2, v, rfl, rfl⟩
  · by_cases h0 : 0 ≤ x
    · simp only [evs, h0, if_true]
      exact ⟨trivial, fun z => absurd z (by decide), ht⟩
    · simp only [evs, h0, if_false, h1, if_true]
      exact ⟨trivial, fun z => absurd z (by decide), ht⟩
  · obtain ⟨a, q, rfl, k1, k2⟩ := tyd_inv ht
    refine ⟨rfl, ?_, k2⟩
    intro _
    show 1 - a = 0 ∨ 1 - a = 1
    rcases k1 rfl with rfl | rfl
    · exact Or.inr rfl
    · exact Or.inl rfl
  all_goals
    obtain ⟨b, q, rfl, k1, k2⟩ := tyd_inv ht
    obtain ⟨a, q, rfl, k3, k4⟩ := tyd_inv k2
    have n1 : ¬ 0 ≤ x := by grind
    have n2 : ¬ -10 ≤ x := by grind
    have n3 : ¬ x = -23 := by grind
    simp only [evs, n1, n2, n3, if_false]
  · exact ⟨trivial, fun z => absurd z (by decide), k4⟩
  · exact ⟨trivial, fun _ => cmp_01 h1 h2, k4⟩
  · exact ⟨trivial, fun _ => and_01 h1 h2 (k3 rfl) (k1 rfl), k4⟩
theorem evs_ty {D : Nat} {w : Nat → Int64} : ∀ {s : List Int32} {ts u : List Bool} {st : List Int64}, tky D s ts = some u → tyd ts st → tyd u (evs w s st)
  | [], ts, u, st, h, ht => by cases h; exact ht
  | x :: r, ts, u, st, h, ht => by
    obtain ⟨v, h1, h2⟩ := tky_cons h
    obtain ⟨e1, e2⟩ := evs_cons (w := w) (r := r) h1 ht
    rw [e1]; exact evs_ty h2 e2
theorem tk1_app {D : Nat} {x : Int32} {ts u z : List Bool} (h : tk1 D x ts = some u) : tk1 (D + z.length) x (ts ++ z) = some (u ++ z) := by
  rcases tk1_cs h with ⟨h1, h2, rfl⟩ | ⟨rfl, v, rfl, rfl⟩ | ⟨h1, h2, v, rfl, rfl⟩ | ⟨h1, h2, v, rfl, rfl⟩ | ⟨h1, h2, v, rfl, rfl⟩
  · unfold tk1; simp only [tky]
    rw [if_pos h1, if_pos (by rw [List.length_append]; omega)]; rfl
  · rfl
  · have n2 : ¬ -10 ≤ x := by grind
    have n3 : ¬ x = -23 := by grind
    unfold tk1; simp only [tky, List.cons_append, n2, n3, h2, if_false, if_true]
  · have n2 : ¬ -10 ≤ x := by grind
    have n3 : ¬ x = -23 := by grind
    have n4 : ¬ -15 ≤ x := by grind
    unfold tk1; simp only [tky, List.cons_append, n2, n3, n4, h2, if_false, if_true]
  · have n2 : ¬ -10 ≤ x := by grind
    have n3 : ¬ x = -23 := by grind
    have n4 : ¬ -15 ≤ x := by grind
    have n5 : ¬ -20 ≤ x := by grind
    unfold tk1; simp only [tky, List.cons_append, n2, n3, n4, n5, h2, if_false, if_true]
theorem tky_of {D : Nat} {x : Int32} {r : List Int32} {ts u v : List Bool} (h : tk1 D x ts = some u) (h2 : tky D r u = some v) : tky D (x :: r) ts = some v := by
  rcases tk1_cs h with ⟨h1, h3, rfl⟩ | ⟨rfl, v', rfl, rfl⟩ | ⟨h1, h3, v', rfl, rfl⟩ | ⟨h1, h3, v', rfl, rfl⟩ | ⟨h1, h3, v', rfl, rfl⟩
  · simp only [tky]
    rw [if_pos h1, if_pos h3]; exact h2
  · exact h2
  · have n2 : ¬ -10 ≤ x := by grind
    have n3 : ¬ x = -23 := by grind
    simp only [tky, n2, n3, h3, if_false, if_true]; exact h2
  · have n2 : ¬ -10 ≤ x := by grind
    have n3 : ¬ x = -23 := by grind
    have n4 : ¬ -15 ≤ x := by grind
    simp only [tky, n2, n3, n4, h3, if_false, if_true]; exact h2
  · have n2 : ¬ -10 ≤ x := by grind
    have n3 : ¬ x = -23 := by grind
    have n4 : ¬ -15 ≤ x := by grind
    have n5 : ¬ -20 ≤ x := by grind
    simp only [tky, n2, n3, n4, n5, h3, if_false, if_true]; exact h2
theorem tky_up {D : Nat} (z : List Bool) : ∀ {s : List Int32} {ts u : List Bool}, tky D s ts = some u → tky (D + z.length) s (ts ++ z) = some (u ++ z)
  | [], ts, u, h => by cases h; rfl
  | x :: r, ts, u, h => by
    obtain ⟨v, h1, h2⟩ := tky_cons h
    exact tky_of (tk1_app h1) (tky_up z h2)
/-- rows of signs one behind another -/
theorem tky_app {D : Nat} : ∀ {s t : List Int32} {ts u v : List Bool}, tky D s ts = some u → tky D t u = some v → tky D (s ++ t) ts = some v
  | [], t, ts, u, v, h, h2 => by cases h; exact h2
  | x :: r, t, ts, u, v, h, h2 => by
    obtain ⟨q, k1, k2⟩ := tky_cons h
    exact tky_of k1 (tky_app k2 h2)
theorem ev1_app {D : Nat} {w : Nat → Int64} {x : Int32} {ts u : List Bool} {st z : List Int64} (h : tk1 D x ts = some u) (ht : tyd ts st) : ev1 w x (st ++ z) = ev1 w x st ++ z := by
  unfold ev1
  rcases tk1_cs h with ⟨h1, h2, rfl⟩ | ⟨rfl, v, rfl, rfl⟩ | ⟨h1, h2, v, rfl, rfl⟩ | ⟨h1, h2, v, rfl, rfl⟩ | ⟨h1, h2, v, rfl, rfl⟩
  · by_cases h0 : 0 ≤ x
    · simp only [evs, h0, if_true, List.cons_append]
    · simp only [evs, h0, if_false, h1, if_true, List.cons_append]
  · obtain ⟨a, q, rfl, k1, k2⟩ := tyd_inv ht
    rfl
  all_goals
    obtain ⟨b, q, rfl, k1, k2⟩ := tyd_inv ht
    obtain ⟨a, q, rfl, k3, k4⟩ := tyd_inv k2
    have n1 : ¬ 0 ≤ x := by grind
    have n2 : ¬ -10 ≤ x := by grind
    have n3 : ¬ x = -23 := by grind
    simp only [evs, n1, n2, n3, if_false, List.cons_append]
theorem evs_app {D : Nat} {w : Nat → Int64} {z : List Int64} {y : List Bool} (hz : tyd y z) : ∀ {s : List Int32} {ts u : List Bool} {st : List Int64}, tky D s ts = some u → tyd ts st → evs w s (st ++ z) = evs w s st ++ z
  | [], ts, u, st, h, ht => rfl
  | x :: r, ts, u, st, h, ht => by
    obtain ⟨v, h1, h2⟩ := tky_cons h
    obtain ⟨e1, e2⟩ := evs_cons (w := w) (r := r) h1 ht
    have hap : ∀ {a : List Bool} {b : List Int64}, tyd a b → tyd (a ++ y) (b ++ z) := by
      intro a
      induction a with
      | nil => intro b hb; cases b with
        | nil => exact hz
        | cons _ _ => exact hb.elim
      | cons a0 a ih => intro b hb; cases b with
        | nil => exact hb.elim
        | cons b0 b => exact ⟨hb.1, ih hb.2⟩
    obtain ⟨e3, e4⟩ := evs_cons (w := w) (r := r) (tk1_app (z := y) h1) (hap ht)
    rw [e1, e3, ev1_app h1 ht]
    exact evs_app hz h2 e2
abbrev mR : Type := List (List Int32 × List Int32)
def rlv (w : Nat → Int64) : mR → Int64
  | [] => 0
  | q :: r => if q.2 = [] then (evs w q.1 []).headD 0 else if (evs w q.2 []).headD 0 = 0 then rlv w r else (evs w q.1 []).headD 0
def clOk (q : List Int32 × List Int32) : Prop := tky 60 q.1 [] = some [false] ∧ (q.2 = [] ∨ tky 60 q.2 [] = some [true])
