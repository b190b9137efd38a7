section OBJ
variable {M : jM} {d mc ms kc ks pc : Nat} {L : List (Nat × jV)} {st : List jV} {μ : jMem} {Q : Option jV → jMem → Prop}
theorem go_obj {idx : Nat} {x : jId} (hd : decode M.2.2.1 pc = .ok (.invokespecial idx, 3)) (hl0 : Cond.methodLink (jcn M.1) idx Lib.objectInit ∈ lw_tbl) (hc0 : M.2.1.cls = jcn M.1) (hdd : 1 ≤ d) (hst : jwd st ≤ 8) (k : Go M d mc ms kc ks (pc + 3) L st μ Q) : Go M d mc ms kc ks pc L (.inr (.inr (some x)) :: st) μ Q := by
  intro p l e s m args below meth c H locs cells slots ls D cid adK adV base hC hW hS hl h1 h2
  obtain ⟨hx0, hb, hml, hr, hts, hown, hlocks, hmn, hbs, hK, hO⟩ := id hC
  rw [hc0] at hown
  have kk := k p l e s m args below meth c H locs cells slots ls D cid adK adV base hC hW hS hl h1 h2
  have z := lv_room (m := m) (pc := pc) (ls := ls) (rest := .ref (gA adK μ x) :: st.map (jcv adK μ)) (jcatsum (adK := adK) (μ := μ) hst)
  exact W.objInit (g := F0 m pc ls (.ref (gA adK μ x) :: st.map (jcv adK μ))) hx0 hb hown (hts _ (jw_mem hl0 rfl)) (hts _ (jw_mem (jin_1 (List.mem_of_getElem? (i := 27) rfl)) rfl)) (hts _ (jw_mem (show Cond.code Lib.objectInit ⟨#[0xb1]⟩ 1 none ∈ lw_tbl from in_M21_init) rfl)) rfl (hl.1.trans hml.symm) rfl hd (by show 1 ≤ d; omega) (by show _ + _ + 12 ≤ 64 * d; omega) kk
end OBJ
abbrev jP : Type := jS × jT
def pN (P : jP) (a t n q : Nat) : jP := ((jst P.1.1 a (fun _ => 0), jst P.1.2 a (fun _ => 0)), (jst P.2.1 a (fun _ => none), jst P.2.2.1 a t, jst P.2.2.2.1 a n, jst P.2.2.2.2.1 a q, P.2.2.2.2.2 ++ [a]))
def pI (P : jP) (a i : Nat) (x : Int32) : jP := (wI P.1 a i x, P.2)
def pR (P : jP) (a i b : Nat) : jP := (P.1, (jst P.2.1 a (va_up (P.2.1 a) i (some b)), P.2.2))
/-- tag, length, address, references, ints, longs of a cell -/
def cT (P : jP) (a : Nat) : Nat := P.2.2.1 a
def cN (P : jP) (a : Nat) : Nat := P.2.2.2.1 a
def cA (P : jP) (a : Nat) : Nat := P.2.2.2.2.1 a
def cR (P : jP) (a i : Nat) : Option Nat := P.2.1 a i
def cI (P : jP) (a i : Nat) : Int32 := P.1.1 a i
def cL (P : jP) (a i : Nat) : Int64 := P.1.2 a i
theorem pN_T (P : jP) (a t n q b : Nat) : cT (pN P a t n q) b = if b = a then t else cT P b := rfl
theorem pN_N (P : jP) (a t n q b : Nat) : cN (pN P a t n q) b = if b = a then n else cN P b := rfl
theorem pN_A (P : jP) (a t n q b : Nat) : cA (pN P a t n q) b = if b = a then q else cA P b := rfl
theorem pN_R (P : jP) (a t n q b i : Nat) : cR (pN P a t n q) b i = if b = a then none else cR P b i := by
  show jst P.2.1 a (fun _ => none) b i = _
  unfold jst; by_cases h : b = a
  · rw [if_pos h, if_pos h]
  · rw [if_neg h, if_neg h]; rfl
theorem pN_I (P : jP) (a t n q b i : Nat) : cI (pN P a t n q) b i = if b = a then 0 else cI P b i := by
  show jst P.1.1 a (fun _ => 0) b i = _
  unfold jst; by_cases h : b = a
  · rw [if_pos h, if_pos h]
  · rw [if_neg h, if_neg h]; rfl
theorem pN_L (P : jP) (a t n q b i : Nat) : cL (pN P a t n q) b i = if b = a then 0 else cL P b i := by
  show jst P.1.2 a (fun _ => 0) b i = _
  unfold jst; by_cases h : b = a
  · rw [if_pos h, if_pos h]
  · rw [if_neg h, if_neg h]; rfl
theorem pI_T (P : jP) (a i : Nat) (x : Int32) (b : Nat) : cT (pI P a i x) b = cT P b := rfl
theorem pI_N (P : jP) (a i : Nat) (x : Int32) (b : Nat) : cN (pI P a i x) b = cN P b := rfl
theorem pI_A (P : jP) (a i : Nat) (x : Int32) (b : Nat) : cA (pI P a i x) b = cA P b := rfl
theorem pI_R (P : jP) (a i : Nat) (x : Int32) (b j : Nat) : cR (pI P a i x) b j = cR P b j := rfl
theorem pI_L (P : jP) (a i : Nat) (x : Int32) (b j : Nat) : cL (pI P a i x) b j = cL P b j := rfl
theorem pI_I (P : jP) (a i : Nat) (x : Int32) (b j : Nat) : cI (pI P a i x) b j = if b = a ∧ j = i then x else cI P b j := by
  show jst P.1.1 a (upd (P.1.1 a) i x) b j = _
  unfold jst upd; by_cases h : b = a
  · subst h; rw [if_pos rfl]
    by_cases h2 : j = i
    · rw [if_pos h2, if_pos ⟨rfl, h2⟩]
    · rw [if_neg h2, if_neg (fun z => h2 z.2)]; rfl
  · rw [if_neg h, if_neg (fun z => h z.1)]; rfl
theorem pR_T (P : jP) (a i c b : Nat) : cT (pR P a i c) b = cT P b := rfl
theorem pR_N (P : jP) (a i c b : Nat) : cN (pR P a i c) b = cN P b := rfl
theorem pR_A (P : jP) (a i c b : Nat) : cA (pR P a i c) b = cA P b := rfl
theorem pR_I (P : jP) (a i c b j : Nat) : cI (pR P a i c) b j = cI P b j := rfl
theorem pR_L (P : jP) (a i c b j : Nat) : cL (pR P a i c) b j = cL P b j := rfl
theorem pR_R (P : jP) (a i c b j : Nat) : cR (pR P a i c) b j = if b = a ∧ j = i then some c else cR P b j := by
  show jst P.2.1 a (va_up (P.2.1 a) i (some c)) b j = _
  unfold jst va_up; by_cases h : b = a
  · subst h; rw [if_pos rfl]
    by_cases h2 : j = i
    · rw [if_pos h2, if_pos ⟨rfl, h2⟩]
    · rw [if_neg h2, if_neg (fun z => h2 z.2)]; rfl
  · rw [if_neg h, if_neg (fun z => h z.1)]; rfl
/-- outside [lo, hi) nothing has changed -/
def pF (P P1 : jP) (lo hi : Nat) : Prop := ∀ a, (a < lo ∨ hi ≤ a) → cT P1 a = cT P a ∧ cN P1 a = cN P a ∧ cA P1 a = cA P a ∧ (∀ i, cR P1 a i = cR P a i) ∧ (∀ i, cI P1 a i = cI P a i) ∧ (∀ i, cL P1 a i = cL P a i)
/-- a Hall was made at o -/
def NewHall (P P1 : jP) (h : Nat) : Prop := LayHall P1.2 h ∧ (∀ i, i < 8 → cI P1 h i = if i = 6 then -1 else 0) ∧ (∀ k i, 1 ≤ k → k < 7 → cI P1 (h + k) i = 0) ∧ pF P P1 h (h + 7) ∧ cA P1 h = cA P h
theorem newHall_of (P : jP) (o q1 q2 q3 q4 q5 q6 : Nat) (ht : cT P o = 5) (hi : ∀ i, cI P o i = 0) : NewHall P (pR (pN (pR (pN (pR (pN (pR (pN (pR (pN (pR (pN (pI (pI (pI (pI (pI (pI (pI (pI P o 0 0) o 1 0) o 2 0) o 3 0) o 4 0) o 5 0) o 6 (-1)) o 7 0) (o + 1) 20 6 q1) o 8 (o + 1)) (o + 2) 20 7 q2) o 9 (o + 2)) (o + 3) 20 7 q3) o 10 (o + 3)) (o + 4) 20 7 q4) o 11 (o + 4)) (o + 5) 20 7 q5) o 12 (o + 5)) (o + 6) 20 7 q6) o 13 (o + 6)) o := by
  refine ⟨⟨?_, ?_, ?_, ?_, ?_, ?_, ?_⟩, ?_, ?_, ?_, ?_⟩
  · show cT _ o = 5; simp [pN_T, pN_N, pN_A, pN_R, pN_I, pN_L, pI_T, pI_N, pI_A, pI_R, pI_I, pI_L, pR_T, pR_N, pR_A, pR_R, pR_I, pR_L, ht]
  · refine ⟨?_, ?_, ?_⟩
    · show cR _ o 8 = _; simp [pN_T, pN_N, pN_A, pN_R, pN_I, pN_L, pI_T, pI_N, pI_A, pI_R, pI_I, pI_L, pR_T, pR_N, pR_A, pR_R, pR_I, pR_L]
    · show cT _ (o + 1) = _; simp [pN_T, pN_N, pN_A, pN_R, pN_I, pN_L, pI_T, pI_N, pI_A, pI_R, pI_I, pI_L, pR_T, pR_N, pR_A, pR_R, pR_I, pR_L]
    · show cN _ (o + 1) = _; simp [pN_T, pN_N, pN_A, pN_R, pN_I, pN_L, pI_T, pI_N, pI_A, pI_R, pI_I, pI_L, pR_T, pR_N, pR_A, pR_R, pR_I, pR_L]
  · refine ⟨?_, ?_, ?_⟩
    · show cR _ o 9 = _; simp [pN_T, pN_N, pN_A, pN_R, pN_I, pN_L, pI_T, pI_N, pI_A, pI_R, pI_I, pI_L, pR_T, pR_N, pR_A, pR_R, pR_I, pR_L]
    · show cT _ (o + 2) = _; simp [pN_T, pN_N, pN_A, pN_R, pN_I, pN_L, pI_T, pI_N, pI_A, pI_R, pI_I, pI_L, pR_T, pR_N, pR_A, pR_R, pR_I, pR_L]
    · show cN _ (o + 2) = _; simp [pN_T, pN_N, pN_A, pN_R, pN_I, pN_L, pI_T, pI_N, pI_A, pI_R, pI_I, pI_L, pR_T, pR_N, pR_A, pR_R, pR_I, pR_L]
  · refine ⟨?_, ?_, ?_⟩
    · show cR _ o 10 = _; simp [pN_T, pN_N, pN_A, pN_R, pN_I, pN_L, pI_T, pI_N, pI_A, pI_R, pI_I, pI_L, pR_T, pR_N, pR_A, pR_R, pR_I, pR_L]
    · show cT _ (o + 3) = _; simp [pN_T, pN_N, pN_A, pN_R, pN_I, pN_L, pI_T, pI_N, pI_A, pI_R, pI_I, pI_L, pR_T, pR_N, pR_A, pR_R, pR_I, pR_L]
    · show cN _ (o + 3) = _; simp [pN_T, pN_N, pN_A, pN_R, pN_I, pN_L, pI_T, pI_N, pI_A, pI_R, pI_I, pI_L, pR_T, pR_N, pR_A, pR_R, pR_I, pR_L]
  · refine ⟨?_, ?_, ?_⟩
    · show cR _ o 11 = _; simp [pN_T, pN_N, pN_A, pN_R, pN_I, pN_L, pI_T, pI_N, pI_A, pI_R, pI_I, pI_L, pR_T, pR_N, pR_A, pR_R, pR_I, pR_L]
    · show cT _ (o + 4) = _; simp [pN_T, pN_N, pN_A, pN_R, pN_I, pN_L, pI_T, pI_N, pI_A, pI_R, pI_I, pI_L, pR_T, pR_N, pR_A, pR_R, pR_I, pR_L]
    · show cN _ (o + 4) = _; simp [pN_T, pN_N, pN_A, pN_R, pN_I, pN_L, pI_T, pI_N, pI_A, pI_R, pI_I, pI_L, pR_T, pR_N, pR_A, pR_R, pR_I, pR_L]
  · refine ⟨?_, ?_, ?_⟩
    · show cR _ o 12 = _; simp [pN_T, pN_N, pN_A, pN_R, pN_I, pN_L, pI_T, pI_N, pI_A, pI_R, pI_I, pI_L, pR_T, pR_N, pR_A, pR_R, pR_I, pR_L]
    · show cT _ (o + 5) = _; simp [pN_T, pN_N, pN_A, pN_R, pN_I, pN_L, pI_T, pI_N, pI_A, pI_R, pI_I, pI_L, pR_T, pR_N, pR_A, pR_R, pR_I, pR_L]
    · show cN _ (o + 5) = _; simp [pN_T, pN_N, pN_A, pN_R, pN_I, pN_L, pI_T, pI_N, pI_A, pI_R, pI_I, pI_L, pR_T, pR_N, pR_A, pR_R, pR_I, pR_L]
  · refine ⟨?_, ?_, ?_⟩
    · show cR _ o 13 = _; simp [pN_T, pN_N, pN_A, pN_R, pN_I, pN_L, pI_T, pI_N, pI_A, pI_R, pI_I, pI_L, pR_T, pR_N, pR_A, pR_R, pR_I, pR_L]
    · show cT _ (o + 6) = _; simp [pN_T, pN_N, pN_A, pN_R, pN_I, pN_L, pI_T, pI_N, pI_A, pI_R, pI_I, pI_L, pR_T, pR_N, pR_A, pR_R, pR_I, pR_L]
    · show cN _ (o + 6) = _; simp [pN_T, pN_N, pN_A, pN_R, pN_I, pN_L, pI_T, pI_N, pI_A, pI_R, pI_I, pI_L, pR_T, pR_N, pR_A, pR_R, pR_I, pR_L]
  · intro i h
    have h8 : i = 0 ∨ i = 1 ∨ i = 2 ∨ i = 3 ∨ i = 4 ∨ i = 5 ∨ i = 6 ∨ i = 7 := by omega
    rcases h8 with rfl | rfl | rfl | rfl | rfl | rfl | rfl | rfl <;> simp [pN_T, pN_N, pN_A, pN_R, pN_I, pN_L, pI_T, pI_N, pI_A, pI_R, pI_I, pI_L, pR_T, pR_N, pR_A, pR_R, pR_I, pR_L]
  · intro k i h1 h2
    have h8 : k = 1 ∨ k = 2 ∨ k = 3 ∨ k = 4 ∨ k = 5 ∨ k = 6 := by omega
    rcases h8 with rfl | rfl | rfl | rfl | rfl | rfl <;> simp [pN_T, pN_N, pN_A, pN_R, pN_I, pN_L, pI_T, pI_N, pI_A, pI_R, pI_I, pI_L, pR_T, pR_N, pR_A, pR_R, pR_I, pR_L]
  · intro a ha
    have e0 : a ≠ o := by omega
    have e1 : a ≠ o + 1 := by omega
    have e2 : a ≠ o + 2 := by omega
    have e3 : a ≠ o + 3 := by omega
    have e4 : a ≠ o + 4 := by omega
    have e5 : a ≠ o + 5 := by omega
    have e6 : a ≠ o + 6 := by omega
    refine ⟨?_, ?_, ?_, fun i => ?_, fun i => ?_, fun i => ?_⟩ <;> simp [pN_T, pN_N, pN_A, pN_R, pN_I, pN_L, pI_T, pI_N, pI_A, pI_R, pI_I, pI_L, pR_T, pR_N, pR_A, pR_R, pR_I, pR_L, e0, e1, e2, e3, e4, e5, e6]
  · simp [pN_T, pN_N, pN_A, pN_R, pN_I, pN_L, pI_T, pI_N, pI_A, pI_R, pI_I, pI_L, pR_T, pR_N, pR_A, pR_R, pR_I, pR_L]
theorem ret4_init {P : jP} {Y : jP} {o : Nat} (ht : cT P o = 5) (hi : ∀ i, cI P o i = 0) (hu0 : ∀ k, 1 ≤ k → k < 7 → cT P (o + k) = 0) : RetQ M4_init 2 6 41 [rc o] (P, Y) (fun v μ1 => v = none ∧ ∃ P1, μ1 = (P1, Y) ∧ NewHall P P1 o) := by
  refine RetQ.of (by decide +kernel) (Nat.le_of_ble_eq_true rfl) ?_
  have hu : cT P (o + 1) = 0 ∧ cT P (o + 2) = 0 ∧ cT P (o + 3) = 0 ∧ cT P (o + 4) = 0 ∧ cT P (o + 5) = 0 ∧ cT P (o + 6) = 0 := ⟨hu0 1 (by decide) (by decide), hu0 2 (by decide) (by decide), hu0 3 (by decide) (by decide), hu0 4 (by decide) (by decide), hu0 5 (by decide) (by decide), hu0 6 (by decide) (by decide)⟩
  show Go _ _ _ _ 6 41 0 [(0, rc o)] [] (P, Y) _
  refine go_blk rfl [(.aload_n 0, 1, 0, 0, 0, .inl 0)] 0 1 _ _ _ (by decide +kernel) ?_
  show Go _ _ _ _ 6 41 1 [(0, rc o)] [rc o] (P, Y) _
  refine go_obj (idx := 3) (by decide +kernel) (jin_1 (List.mem_of_getElem? (i := 76) rfl)) rfl (by decide) (Nat.le_of_ble_eq_true rfl) ?_
  show Go _ _ _ _ 6 41 4 [(0, rc o)] [] (P, Y) _
  refine go_blk rfl [(.aload_n 0, 1, 0, 0, 0, .inl 0), (.iconst 0, 1, 0, 0, 0, .inl 0), (.putfield 9, 3, 4, 0, 0, .inl 0)] 4 9 _ _ _ (by decide +kernel) ?_
  refine And.intro (show cT P o = 5 by simp [pN_T, pI_T, pR_T, ht]) (And.intro trivial ?_)
  show Go _ _ _ _ 6 41 9 [(0, rc o)] [] (pI P o 0 0, Y) _
  refine go_blk rfl [(.aload_n 0, 1, 0, 0, 0, .inl 0), (.iconst 0, 1, 0, 0, 0, .inl 0), (.putfield 15, 3, 4, 1, 0, .inl 0)] 9 14 _ _ _ (by decide +kernel) ?_
  refine And.intro (show cT (pI P o 0 0) o = 5 by simp [pN_T, pI_T, pR_T, ht]) (And.intro trivial ?_)
  show Go _ _ _ _ 6 41 14 [(0, rc o)] [] (pI (pI P o 0 0) o 1 0, Y) _
  refine go_blk rfl [(.aload_n 0, 1, 0, 0, 0, .inl 0), (.iconst 0, 1, 0, 0, 0, .inl 0), (.putfield 18, 3, 4, 2, 0, .inl 0)] 14 19 _ _ _ (by decide +kernel) ?_
  refine And.intro (show cT (pI (pI P o 0 0) o 1 0) o = 5 by simp [pN_T, pI_T, pR_T, ht]) (And.intro trivial ?_)
  show Go _ _ _ _ 6 41 19 [(0, rc o)] [] (pI (pI (pI P o 0 0) o 1 0) o 2 0, Y) _
  refine go_blk rfl [(.aload_n 0, 1, 0, 0, 0, .inl 0), (.iconst 0, 1, 0, 0, 0, .inl 0), (.putfield 21, 3, 4, 3, 0, .inl 0)] 19 24 _ _ _ (by decide +kernel) ?_
  refine And.intro (show cT (pI (pI (pI P o 0 0) o 1 0) o 2 0) o = 5 by simp [pN_T, pI_T, pR_T, ht]) (And.intro trivial ?_)
  show Go _ _ _ _ 6 41 24 [(0, rc o)] [] (pI (pI (pI (pI P o 0 0) o 1 0) o 2 0) o 3 0, Y) _
  refine go_blk rfl [(.aload_n 0, 1, 0, 0, 0, .inl 0), (.iconst 0, 1, 0, 0, 0, .inl 0), (.putfield 24, 3, 4, 4, 0, .inl 0)] 24 29 _ _ _ (by decide +kernel) ?_
  refine And.intro (show cT (pI (pI (pI (pI P o 0 0) o 1 0) o 2 0) o 3 0) o = 5 by simp [pN_T, pI_T, pR_T, ht]) (And.intro trivial ?_)
  show Go _ _ _ _ 6 41 29 [(0, rc o)] [] (pI (pI (pI (pI (pI P o 0 0) o 1 0) o 2 0) o 3 0) o 4 0, Y) _
  refine go_blk rfl [(.aload_n 0, 1, 0, 0, 0, .inl 0), (.iconst 0, 1, 0, 0, 0, .inl 0), (.putfield 27, 3, 4, 5, 0, .inl 0)] 29 34 _ _ _ (by decide +kernel) ?_
  refine And.intro (show cT (pI (pI (pI (pI (pI P o 0 0) o 1 0) o 2 0) o 3 0) o 4 0) o = 5 by simp [pN_T, pI_T, pR_T, ht]) (And.intro trivial ?_)
  show Go _ _ _ _ 6 41 34 [(0, rc o)] [] (pI (pI (pI (pI (pI (pI P o 0 0) o 1 0) o 2 0) o 3 0) o 4 0) o 5 0, Y) _
  refine go_blk rfl [(.aload_n 0, 1, 0, 0, 0, .inl 0), (.iconst (-1), 1, 0, 0, 0, .inl (-1)), (.putfield 30, 3, 4, 6, 0, .inl 0)] 34 39 _ _ _ (by decide +kernel) ?_
  refine And.intro (show cT (pI (pI (pI (pI (pI (pI P o 0 0) o 1 0) o 2 0) o 3 0) o 4 0) o 5 0) o = 5 by simp [pN_T, pI_T, pR_T, ht]) (And.intro trivial ?_)
  show Go _ _ _ _ 6 41 39 [(0, rc o)] [] (pI (pI (pI (pI (pI (pI (pI P o 0 0) o 1 0) o 2 0) o 3 0) o 4 0) o 5 0) o 6 (-1), Y) _
  refine go_blk rfl [(.aload_n 0, 1, 0, 0, 0, .inl 0), (.iconst 0, 1, 0, 0, 0, .inl 0), (.putfield 33, 3, 4, 7, 0, .inl 0)] 39 44 _ _ _ (by decide +kernel) ?_
  refine And.intro (show cT (pI (pI (pI (pI (pI (pI (pI P o 0 0) o 1 0) o 2 0) o 3 0) o 4 0) o 5 0) o 6 (-1)) o = 5 by simp [pN_T, pI_T, pR_T, ht]) (And.intro trivial ?_)
  show Go _ _ _ _ 6 41 44 [(0, rc o)] [] (pI (pI (pI (pI (pI (pI (pI (pI P o 0 0) o 1 0) o 2 0) o 3 0) o 4 0) o 5 0) o 6 (-1)) o 7 0, Y) _
  refine go_blk rfl [(.aload_n 0, 1, 0, 0, 0, .inl 0), (.bipush 6, 2, 0, 0, 0, .inl 6)] 44 47 _ _ _ (by decide +kernel) ?_
  show Go _ _ _ _ 6 41 47 [(0, rc o)] [vi 6, rc o] (pI (pI (pI (pI (pI (pI (pI (pI P o 0 0) o 1 0) o 2 0) o 3 0) o 4 0) o 5 0) o 6 (-1)) o 7 0, Y) _
  refine go_newa20 (n := 6) (N' := 6) (x := .inl (o + 1)) (kc' := 5) (ks' := 35) (by decide +kernel) (by decide) (by decide) (by decide) trivial (show cT (pI (pI (pI (pI (pI (pI (pI (pI P o 0 0) o 1 0) o 2 0) o 3 0) o 4 0) o 5 0) o 6 (-1)) o 7 0) (o + 1) = 0 by simp [pN_T, pI_T, pR_T, hu]) (by simp [jnr]) (by simp [jnr]) (by decide) (by decide) (fun q1 => ?_)
  show Go _ _ _ _ 5 35 49 [(0, rc o)] [rc (o + 1), rc o] (pN (pI (pI (pI (pI (pI (pI (pI (pI P o 0 0) o 1 0) o 2 0) o 3 0) o 4 0) o 5 0) o 6 (-1)) o 7 0) (o + 1) 20 6 q1, Y) _
  refine go_putR (idx := 36) (a := 4) (b := 8) (z := 0) (w := some (o + 1)) (by decide +kernel) (by decide) rfl (by decide) (by decide) (show cT (pN (pI (pI (pI (pI (pI (pI (pI (pI P o 0 0) o 1 0) o 2 0) o 3 0) o 4 0) o 5 0) o 6 (-1)) o 7 0) (o + 1) 20 6 q1) o = 5 by simp [pN_T, pI_T, pR_T, ht]) rfl rfl rfl rfl ⟨rfl, by intro e; cases e⟩ (fun y hy => by cases hy; show cT (pN (pI (pI (pI (pI (pI (pI (pI (pI P o 0 0) o 1 0) o 2 0) o 3 0) o 4 0) o 5 0) o 6 (-1)) o 7 0) (o + 1) 20 6 q1) (o + 1) ≠ 0; simp [pN_T, pI_T, pR_T]) ?_
  show Go _ _ _ _ 5 35 52 [(0, rc o)] [] (pR (pN (pI (pI (pI (pI (pI (pI (pI (pI P o 0 0) o 1 0) o 2 0) o 3 0) o 4 0) o 5 0) o 6 (-1)) o 7 0) (o + 1) 20 6 q1) o 8 (o + 1), Y) _
  refine go_blk rfl [(.aload_n 0, 1, 0, 0, 0, .inl 0), (.bipush 7, 2, 0, 0, 0, .inl 7)] 52 55 _ _ _ (by decide +kernel) ?_
  show Go _ _ _ _ 5 35 55 [(0, rc o)] [vi 7, rc o] (pR (pN (pI (pI (pI (pI (pI (pI (pI (pI P o 0 0) o 1 0) o 2 0) o 3 0) o 4 0) o 5 0) o 6 (-1)) o 7 0) (o + 1) 20 6 q1) o 8 (o + 1), Y) _
  refine go_newa20 (n := 7) (N' := 7) (x := .inl (o + 2)) (kc' := 4) (ks' := 28) (by decide +kernel) (by decide) (by decide) (by decide) trivial (show cT (pR (pN (pI (pI (pI (pI (pI (pI (pI (pI P o 0 0) o 1 0) o 2 0) o 3 0) o 4 0) o 5 0) o 6 (-1)) o 7 0) (o + 1) 20 6 q1) o 8 (o + 1)) (o + 2) = 0 by simp [pN_T, pI_T, pR_T, hu]) (by simp [jnr]) (by simp [jnr]) (by decide) (by decide) (fun q2 => ?_)
  show Go _ _ _ _ 4 28 57 [(0, rc o)] [rc (o + 2), rc o] (pN (pR (pN (pI (pI (pI (pI (pI (pI (pI (pI P o 0 0) o 1 0) o 2 0) o 3 0) o 4 0) o 5 0) o 6 (-1)) o 7 0) (o + 1) 20 6 q1) o 8 (o + 1)) (o + 2) 20 7 q2, Y) _
  refine go_putR (idx := 40) (a := 4) (b := 9) (z := 0) (w := some (o + 2)) (by decide +kernel) (by decide) rfl (by decide) (by decide) (show cT (pN (pR (pN (pI (pI (pI (pI (pI (pI (pI (pI P o 0 0) o 1 0) o 2 0) o 3 0) o 4 0) o 5 0) o 6 (-1)) o 7 0) (o + 1) 20 6 q1) o 8 (o + 1)) (o + 2) 20 7 q2) o = 5 by simp [pN_T, pI_T, pR_T, ht]) rfl rfl rfl rfl ⟨rfl, by intro e; cases e⟩ (fun y hy => by cases hy; show cT (pN (pR (pN (pI (pI (pI (pI (pI (pI (pI (pI P o 0 0) o 1 0) o 2 0) o 3 0) o 4 0) o 5 0) o 6 (-1)) o 7 0) (o + 1) 20 6 q1) o 8 (o + 1)) (o + 2) 20 7 q2) (o + 2) ≠ 0; simp [pN_T, pI_T, pR_T]) ?_
  show Go _ _ _ _ 4 28 60 [(0, rc o)] [] (pR (pN (pR (pN (pI (pI (pI (pI (pI (pI (pI (pI P o 0 0) o 1 0) o 2 0) o 3 0) o 4 0) o 5 0) o 6 (-1)) o 7 0) (o + 1) 20 6 q1) o 8 (o + 1)) (o + 2) 20 7 q2) o 9 (o + 2), Y) _
  refine go_blk rfl [(.aload_n 0, 1, 0, 0, 0, .inl 0), (.bipush 7, 2, 0, 0, 0, .inl 7)] 60 63 _ _ _ (by decide +kernel) ?_
  show Go _ _ _ _ 4 28 63 [(0, rc o)] [vi 7, rc o] (pR (pN (pR (pN (pI (pI (pI (pI (pI (pI (pI (pI P o 0 0) o 1 0) o 2 0) o 3 0) o 4 0) o 5 0) o 6 (-1)) o 7 0) (o + 1) 20 6 q1) o 8 (o + 1)) (o + 2) 20 7 q2) o 9 (o + 2), Y) _
  refine go_newa20 (n := 7) (N' := 7) (x := .inl (o + 3)) (kc' := 3) (ks' := 21) (by decide +kernel) (by decide) (by decide) (by decide) trivial (show cT (pR (pN (pR (pN (pI (pI (pI (pI (pI (pI (pI (pI P o 0 0) o 1 0) o 2 0) o 3 0) o 4 0) o 5 0) o 6 (-1)) o 7 0) (o + 1) 20 6 q1) o 8 (o + 1)) (o + 2) 20 7 q2) o 9 (o + 2)) (o + 3) = 0 by simp [pN_T, pI_T, pR_T, hu]) (by simp [jnr]) (by simp [jnr]) (by decide) (by decide) (fun q3 => ?_)
  show Go _ _ _ _ 3 21 65 [(0, rc o)] [rc (o + 3), rc o] (pN (pR (pN (pR (pN (pI (pI (pI (pI (pI (pI (pI (pI P o 0 0) o 1 0) o 2 0) o 3 0) o 4 0) o 5 0) o 6 (-1)) o 7 0) (o + 1) 20 6 q1) o 8 (o + 1)) (o + 2) 20 7 q2) o 9 (o + 2)) (o + 3) 20 7 q3, Y) _
  refine go_putR (idx := 43) (a := 4) (b := 10) (z := 0) (w := some (o + 3)) (by decide +kernel) (by decide) rfl (by decide) (by decide) (show cT (pN (pR (pN (pR (pN (pI (pI (pI (pI (pI (pI (pI (pI P o 0 0) o 1 0) o 2 0) o 3 0) o 4 0) o 5 0) o 6 (-1)) o 7 0) (o + 1) 20 6 q1) o 8 (o + 1)) (o + 2) 20 7 q2) o 9 (o + 2)) (o + 3) 20 7 q3) o = 5 by simp [pN_T, pI_T, pR_T, ht]) rfl rfl rfl rfl ⟨rfl, by intro e; cases e⟩ (fun y hy => by cases hy; show cT (pN (pR (pN (pR (pN (pI (pI (pI (pI (pI (pI (pI (pI P o 0 0) o 1 0) o 2 0) o 3 0) o 4 0) o 5 0) o 6 (-1)) o 7 0) (o + 1) 20 6 q1) o 8 (o + 1)) (o + 2) 20 7 q2) o 9 (o + 2)) (o + 3) 20 7 q3) (o + 3) ≠ 0; simp [pN_T, pI_T, pR_T]) ?_
  show Go _ _ _ _ 3 21 68 [(0, rc o)] [] (pR (pN (pR (pN (pR (pN (pI (pI (pI (pI (pI (pI (pI (pI P o 0 0) o 1 0) o 2 0) o 3 0) o 4 0) o 5 0) o 6 (-1)) o 7 0) (o + 1) 20 6 q1) o 8 (o + 1)) (o + 2) 20 7 q2) o 9 (o + 2)) (o + 3) 20 7 q3) o 10 (o + 3), Y) _
  refine go_blk rfl [(.aload_n 0, 1, 0, 0, 0, .inl 0), (.bipush 7, 2, 0, 0, 0, .inl 7)] 68 71 _ _ _ (by decide +kernel) ?_
  show Go _ _ _ _ 3 21 71 [(0, rc o)] [vi 7, rc o] (pR (pN (pR (pN (pR (pN (pI (pI (pI (pI (pI (pI (pI (pI P o 0 0) o 1 0) o 2 0) o 3 0) o 4 0) o 5 0) o 6 (-1)) o 7 0) (o + 1) 20 6 q1) o 8 (o + 1)) (o + 2) 20 7 q2) o 9 (o + 2)) (o + 3) 20 7 q3) o 10 (o + 3), Y) _
  refine go_newa20 (n := 7) (N' := 7) (x := .inl (o + 4)) (kc' := 2) (ks' := 14) (by decide +kernel) (by decide) (by decide) (by decide) trivial (show cT (pR (pN (pR (pN (pR (pN (pI (pI (pI (pI (pI (pI (pI (pI P o 0 0) o 1 0) o 2 0) o 3 0) o 4 0) o 5 0) o 6 (-1)) o 7 0) (o + 1) 20 6 q1) o 8 (o + 1)) (o + 2) 20 7 q2) o 9 (o + 2)) (o + 3) 20 7 q3) o 10 (o + 3)) (o + 4) = 0 by simp [pN_T, pI_T, pR_T, hu]) (by simp [jnr]) (by simp [jnr]) (by decide) (by decide) (fun q4 => ?_)
  show Go _ _ _ _ 2 14 73 [(0, rc o)] [rc (o + 4), rc o] (pN (pR (pN (pR (pN (pR (pN (pI (pI (pI (pI (pI (pI (pI (pI P o 0 0) o 1 0) o 2 0) o 3 0) o 4 0) o 5 0) o 6 (-1)) o 7 0) (o + 1) 20 6 q1) o 8 (o + 1)) (o + 2) 20 7 q2) o 9 (o + 2)) (o + 3) 20 7 q3) o 10 (o + 3)) (o + 4) 20 7 q4, Y) _
  refine go_putR (idx := 46) (a := 4) (b := 11) (z := 0) (w := some (o + 4)) (by decide +kernel) (by decide) rfl (by decide) (by decide) (show cT (pN (pR (pN (pR (pN (pR (pN (pI (pI (pI (pI (pI (pI (pI (pI P o 0 0) o 1 0) o 2 0) o 3 0) o 4 0) o 5 0) o 6 (-1)) o 7 0) (o + 1) 20 6 q1) o 8 (o + 1)) (o + 2) 20 7 q2) o 9 (o + 2)) (o + 3) 20 7 q3) o 10 (o + 3)) (o + 4) 20 7 q4) o = 5 by simp [pN_T, pI_T, pR_T, ht]) rfl rfl rfl rfl ⟨rfl, by intro e; cases e⟩ (fun y hy => by cases hy; show cT (pN (pR (pN (pR (pN (pR (pN (pI (pI (pI (pI (pI (pI (pI (pI P o 0 0) o 1 0) o 2 0) o 3 0) o 4 0) o 5 0) o 6 (-1)) o 7 0) (o + 1) 20 6 q1) o 8 (o + 1)) (o + 2) 20 7 q2) o 9 (o + 2)) (o + 3) 20 7 q3) o 10 (o + 3)) (o + 4) 20 7 q4) (o + 4) ≠ 0; simp [pN_T, pI_T, pR_T]) ?_
  show Go _ _ _ _ 2 14 76 [(0, rc o)] [] (pR (pN (pR (pN (pR (pN (pR (pN (pI (pI (pI (pI (pI (pI (pI (pI P o 0 0) o 1 0) o 2 0) o 3 0) o 4 0) o 5 0) o 6 (-1)) o 7 0) (o + 1) 20 6 q1) o 8 (o + 1)) (o + 2) 20 7 q2) o 9 (o + 2)) (o + 3) 20 7 q3) o 10 (o + 3)) (o + 4) 20 7 q4) o 11 (o + 4), Y) _
  refine go_blk rfl [(.aload_n 0, 1, 0, 0, 0, .inl 0), (.bipush 7, 2, 0, 0, 0, .inl 7)] 76 79 _ _ _ (by decide +kernel) ?_
  show Go _ _ _ _ 2 14 79 [(0, rc o)] [vi 7, rc o] (pR (pN (pR (pN (pR (pN (pR (pN (pI (pI (pI (pI (pI (pI (pI (pI P o 0 0) o 1 0) o 2 0) o 3 0) o 4 0) o 5 0) o 6 (-1)) o 7 0) (o + 1) 20 6 q1) o 8 (o + 1)) (o + 2) 20 7 q2) o 9 (o + 2)) (o + 3) 20 7 q3) o 10 (o + 3)) (o + 4) 20 7 q4) o 11 (o + 4), Y) _
  refine go_newa20 (n := 7) (N' := 7) (x := .inl (o + 5)) (kc' := 1) (ks' := 7) (by decide +kernel) (by decide) (by decide) (by decide) trivial (show cT (pR (pN (pR (pN (pR (pN (pR (pN (pI (pI (pI (pI (pI (pI (pI (pI P o 0 0) o 1 0) o 2 0) o 3 0) o 4 0) o 5 0) o 6 (-1)) o 7 0) (o + 1) 20 6 q1) o 8 (o + 1)) (o + 2) 20 7 q2) o 9 (o + 2)) (o + 3) 20 7 q3) o 10 (o + 3)) (o + 4) 20 7 q4) o 11 (o + 4)) (o + 5) = 0 by simp [pN_T, pI_T, pR_T, hu]) (by simp [jnr]) (by simp [jnr]) (by decide) (by decide) (fun q5 => ?_)
  show Go _ _ _ _ 1 7 81 [(0, rc o)] [rc (o + 5), rc o] (pN (pR (pN (pR (pN (pR (pN (pR (pN (pI (pI (pI (pI (pI (pI (pI (pI P o 0 0) o 1 0) o 2 0) o 3 0) o 4 0) o 5 0) o 6 (-1)) o 7 0) (o + 1) 20 6 q1) o 8 (o + 1)) (o + 2) 20 7 q2) o 9 (o + 2)) (o + 3) 20 7 q3) o 10 (o + 3)) (o + 4) 20 7 q4) o 11 (o + 4)) (o + 5) 20 7 q5, Y) _
  refine go_putR (idx := 49) (a := 4) (b := 12) (z := 0) (w := some (o + 5)) (by decide +kernel) (by decide) rfl (by decide) (by decide) (show cT (pN (pR (pN (pR (pN (pR (pN (pR (pN (pI (pI (pI (pI (pI (pI (pI (pI P o 0 0) o 1 0) o 2 0) o 3 0) o 4 0) o 5 0) o 6 (-1)) o 7 0) (o + 1) 20 6 q1) o 8 (o + 1)) (o + 2) 20 7 q2) o 9 (o + 2)) (o + 3) 20 7 q3) o 10 (o + 3)) (o + 4) 20 7 q4) o 11 (o + 4)) (o + 5) 20 7 q5) o = 5 by simp [pN_T, pI_T, pR_T, ht]) rfl rfl rfl rfl ⟨rfl, by intro e; cases e⟩ (fun y hy => by cases hy; show cT (pN (pR (pN (pR (pN (pR (pN (pR (pN (pI (pI (pI (pI (pI (pI (pI (pI P o 0 0) o 1 0) o 2 0) o 3 0) o 4 0) o 5 0) o 6 (-1)) o 7 0) (o + 1) 20 6 q1) o 8 (o + 1)) (o + 2) 20 7 q2) o 9 (o + 2)) (o + 3) 20 7 q3) o 10 (o + 3)) (o + 4) 20 7 q4) o 11 (o + 4)) (o + 5) 20 7 q5) (o + 5) ≠ 0; simp [pN_T, pI_T, pR_T]) ?_
  show Go _ _ _ _ 1 7 84 [(0, rc o)] [] (pR (pN (pR (pN (pR (pN (pR (pN (pR (pN (pI (pI (pI (pI (pI (pI (pI (pI P o 0 0) o 1 0) o 2 0) o 3 0) o 4 0) o 5 0) o 6 (-1)) o 7 0) (o + 1) 20 6 q1) o 8 (o + 1)) (o + 2) 20 7 q2) o 9 (o + 2)) (o + 3) 20 7 q3) o 10 (o + 3)) (o + 4) 20 7 q4) o 11 (o + 4)) (o + 5) 20 7 q5) o 12 (o + 5), Y) _
  refine go_blk rfl [(.aload_n 0, 1, 0, 0, 0, .inl 0), (.bipush 7, 2, 0, 0, 0, .inl 7)] 84 87 _ _ _ (by decide +kernel) ?_
  show Go _ _ _ _ 1 7 87 [(0, rc o)] [vi 7, rc o] (pR (pN (pR (pN (pR (pN (pR (pN (pR (pN (pI (pI (pI (pI (pI (pI (pI (pI P o 0 0) o 1 0) o 2 0) o 3 0) o 4 0) o 5 0) o 6 (-1)) o 7 0) (o + 1) 20 6 q1) o 8 (o + 1)) (o + 2) 20 7 q2) o 9 (o + 2)) (o + 3) 20 7 q3) o 10 (o + 3)) (o + 4) 20 7 q4) o 11 (o + 4)) (o + 5) 20 7 q5) o 12 (o + 5), Y) _
  refine go_newa20 (n := 7) (N' := 7) (x := .inl (o + 6)) (kc' := 0) (ks' := 0) (by decide +kernel) (by decide) (by decide) (by decide) trivial (show cT (pR (pN (pR (pN (pR (pN (pR (pN (pR (pN (pI (pI (pI (pI (pI (pI (pI (pI P o 0 0) o 1 0) o 2 0) o 3 0) o 4 0) o 5 0) o 6 (-1)) o 7 0) (o + 1) 20 6 q1) o 8 (o + 1)) (o + 2) 20 7 q2) o 9 (o + 2)) (o + 3) 20 7 q3) o 10 (o + 3)) (o + 4) 20 7 q4) o 11 (o + 4)) (o + 5) 20 7 q5) o 12 (o + 5)) (o + 6) = 0 by simp [pN_T, pI_T, pR_T, hu]) (by simp [jnr]) (by simp [jnr]) (by decide) (by decide) (fun q6 => ?_)
  show Go _ _ _ _ 0 0 89 [(0, rc o)] [rc (o + 6), rc o] (pN (pR (pN (pR (pN (pR (pN (pR (pN (pR (pN (pI (pI (pI (pI (pI (pI (pI (pI P o 0 0) o 1 0) o 2 0) o 3 0) o 4 0) o 5 0) o 6 (-1)) o 7 0) (o + 1) 20 6 q1) o 8 (o + 1)) (o + 2) 20 7 q2) o 9 (o + 2)) (o + 3) 20 7 q3) o 10 (o + 3)) (o + 4) 20 7 q4) o 11 (o + 4)) (o + 5) 20 7 q5) o 12 (o + 5)) (o + 6) 20 7 q6, Y) _
  refine go_putR (idx := 52) (a := 4) (b := 13) (z := 0) (w := some (o + 6)) (by decide +kernel) (by decide) rfl (by decide) (by decide) (show cT (pN (pR (pN (pR (pN (pR (pN (pR (pN (pR (pN (pI (pI (pI (pI (pI (pI (pI (pI P o 0 0) o 1 0) o 2 0) o 3 0) o 4 0) o 5 0) o 6 (-1)) o 7 0) (o + 1) 20 6 q1) o 8 (o + 1)) (o + 2) 20 7 q2) o 9 (o + 2)) (o + 3) 20 7 q3) o 10 (o + 3)) (o + 4) 20 7 q4) o 11 (o + 4)) (o + 5) 20 7 q5) o 12 (o + 5)) (o + 6) 20 7 q6) o = 5 by simp [pN_T, pI_T, pR_T, ht]) rfl rfl rfl rfl ⟨rfl, by intro e; cases e⟩ (fun y hy => by cases hy; show cT (pN (pR (pN (pR (pN (pR (pN (pR (pN (pR (pN (pI (pI (pI (pI (pI (pI (pI (pI P o 0 0) o 1 0) o 2 0) o 3 0) o 4 0) o 5 0) o 6 (-1)) o 7 0) (o + 1) 20 6 q1) o 8 (o + 1)) (o + 2) 20 7 q2) o 9 (o + 2)) (o + 3) 20 7 q3) o 10 (o + 3)) (o + 4) 20 7 q4) o 11 (o + 4)) (o + 5) 20 7 q5) o 12 (o + 5)) (o + 6) 20 7 q6) (o + 6) ≠ 0; simp [pN_T, pI_T, pR_T]) ?_
  show Go _ _ _ _ 0 0 92 [(0, rc o)] [] (pR (pN (pR (pN (pR (pN (pR (pN (pR (pN (pR (pN (pI (pI (pI (pI (pI (pI (pI (pI P o 0 0) o 1 0) o 2 0) o 3 0) o 4 0) o 5 0) o 6 (-1)) o 7 0) (o + 1) 20 6 q1) o 8 (o + 1)) (o + 2) 20 7 q2) o 9 (o + 2)) (o + 3) 20 7 q3) o 10 (o + 3)) (o + 4) 20 7 q4) o 11 (o + 4)) (o + 5) 20 7 q5) o 12 (o + 5)) (o + 6) 20 7 q6) o 13 (o + 6), Y) _
  refine go_return (by decide +kernel) rfl ⟨rfl, pR (pN (pR (pN (pR (pN (pR (pN (pR (pN (pR (pN (pI (pI (pI (pI (pI (pI (pI (pI P o 0 0) o 1 0) o 2 0) o 3 0) o 4 0) o 5 0) o 6 (-1)) o 7 0) (o + 1) 20 6 q1) o 8 (o + 1)) (o + 2) 20 7 q2) o 9 (o + 2)) (o + 3) 20 7 q3) o 10 (o + 3)) (o + 4) 20 7 q4) o 11 (o + 4)) (o + 5) 20 7 q5) o 12 (o + 5)) (o + 6) 20 7 q6) o 13 (o + 6), rfl, ?_⟩
  exact newHall_of P o q1 q2 q3 q4 q5 q6 ht hi
