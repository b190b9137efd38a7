/-! the bounds of the reader of rules -/
def hk : List Int32 → Nat
  | [] => 0
  | y :: _ => rnk y
def gw : List Int32 → Prop
  | [] => True
  | x :: w => gw w ∧ (if x = -23 ∨ x = -26 then hk w ≤ 3 else hk w < rnk x)
def oc : List Int32 → Nat
  | [] => 0
  | x :: w => (if x = -26 then 1 else 0) + oc w
def ht (r : Nat) : Nat := if r = 1 then 1 else if r = 2 then 2 else if r = 4 then 3 else if r = 5 then 4 else if r = 6 then 5 else 0
theorem rnk_3 {x : Int32} (h : rnk x = 3) : x = -23 := by
  unfold rnk at h
  by_cases c : x = -23
  · exact c
  rw [if_neg c] at h
  by_cases h22 : x = -22
  · rw [if_pos h22] at h; omega
  rw [if_neg h22] at h
  by_cases h21 : x = -21
  · rw [if_pos h21] at h; omega
  rw [if_neg h21] at h
  by_cases h20 : x = -20
  · rw [if_pos h20] at h; omega
  rw [if_neg h20] at h
  by_cases h19 : x = -19
  · rw [if_pos h19] at h; omega
  rw [if_neg h19] at h
  by_cases h18 : x = -18
  · rw [if_pos h18] at h; omega
  rw [if_neg h18] at h
  by_cases h17 : x = -17
  · rw [if_pos h17] at h; omega
  rw [if_neg h17] at h
  by_cases h16 : x = -16
  · rw [if_pos h16] at h; omega
  rw [if_neg h16] at h
  by_cases h15 : x = -15
  · rw [if_pos h15] at h; omega
  rw [if_neg h15] at h
  by_cases h14 : x = -14
  · rw [if_pos h14] at h; omega
  rw [if_neg h14] at h
  by_cases h13 : x = -13
  · rw [if_pos h13] at h; omega
  rw [if_neg h13] at h
  by_cases h12 : x = -12
  · rw [if_pos h12] at h; omega
  rw [if_neg h12] at h
  by_cases h11 : x = -11
  · rw [if_pos h11] at h; omega
  rw [if_neg h11] at h; omega
theorem rnk_0 : rnk (-26) = 0 ∧ rnk (-23) = 3 ∧ rnk (-22) = 1 ∧ rnk (-21) = 2 := by decide
theorem hk_le (w : List Int32) : hk w ≤ 6 := by
  cases w with
  | nil => exact Nat.zero_le _
  | cons x r => exact rnk_le x
theorem gw_len : ∀ {w : List Int32}, gw w → w.length ≤ 3 * cn w + ht (hk w) := by
  intro w
  induction w with
  | nil => intro _; exact Nat.zero_le _
  | cons x r ih =>
    intro h
    obtain ⟨h1, h2⟩ := h
    have i := ih h1
    have l6 := hk_le r
    have x6 := rnk_le x
    have ht2 : ∀ a, a ≤ 3 → ht a ≤ 2 := by decide
    have ht3 : ∀ a, a ≤ 6 → ∀ b, b ≤ 6 → a < b → b ≠ 3 → ht a + 1 ≤ ht b := by decide
    rw [cn, List.length_cons]
    by_cases c : x = -23 ∨ x = -26
    · rw [if_pos c] at h2 ⊢
      have := ht2 _ h2
      omega
    · rw [if_neg c] at h2 ⊢
      have := ht3 _ l6 _ x6 h2 (fun z => c (Or.inl (rnk_3 z)))
      show r.length + 1 ≤ 3 * (0 + cn r) + ht (rnk x)
      omega
theorem gw_35 {w : List Int32} (h : gw w) (hc : cn w ≤ 10) : w.length ≤ 35 := by
  have := gw_len h
  have h5 : ∀ a, a ≤ 6 → ht a ≤ 5 := by decide
  have := h5 _ (hk_le w)
  omega
theorem pr (r : Nat) (w : List Int32) : pop r w ++ rsd r w = w := List.takeWhile_append_dropWhile
theorem pr_len (r : Nat) (w : List Int32) : (pop r w).length + (rsd r w).length = w.length := by
  rw [← List.length_append, pr]
theorem rsd_p {r : Nat} {x : Int32} {w : List Int32} (h : r ≤ rnk x) : rsd r (x :: w) = rsd r w ∧ pop r (x :: w) = x :: pop r w := by
  unfold rsd pop; rw [List.dropWhile_cons_of_pos (by simpa using h), List.takeWhile_cons_of_pos (by simpa using h)]; exact ⟨rfl, rfl⟩
theorem rsd_n {r : Nat} {x : Int32} {w : List Int32} (h : ¬ r ≤ rnk x) : rsd r (x :: w) = x :: w ∧ pop r (x :: w) = [] := by
  unfold rsd pop; rw [List.dropWhile_cons_of_neg (by simpa using h), List.takeWhile_cons_of_neg (by simpa using h)]; exact ⟨rfl, rfl⟩
theorem rsd_all {r : Nat} (hr : 1 ≤ r) : ∀ {w : List Int32}, gw w → gw (rsd r w) ∧ oc (rsd r w) = oc w ∧ cn (rsd r w) ≤ cn w ∧ hk (rsd r w) < r := by
  intro w
  induction w with
  | nil => intro _; exact ⟨trivial, rfl, Nat.le_refl _, by show 0 < r; omega⟩
  | cons x u ih =>
    intro h
    by_cases c : r ≤ rnk x
    · obtain ⟨i1, i2, i3, i4⟩ := ih h.1
      rw [(rsd_p c).1]
      refine ⟨i1, ?_, ?_, i4⟩
      · rw [i2, oc, if_neg (fun z => by rw [z] at c; have := rnk_0.1; omega), Nat.zero_add]
      · rw [cn]; omega
    · rw [(rsd_n c).1]
      exact ⟨h, rfl, Nat.le_refl _, by show rnk x < r; omega⟩
/-- nothing more to release -/
theorem rsd_stop {r : Nat} (hr : 1 ≤ r) : ∀ {w : List Int32}, hk w < r → rsd r w = w ∧ pop r w = [] := by
  intro w h
  cases w with
  | nil => exact ⟨rfl, rfl⟩
  | cons x u => exact rsd_n (by have : rnk x < r := h; omega)
/-- all of a front of higher rank is released -/
theorem rsd_ex {r : Nat} (hr : 1 ≤ r) : ∀ {ex w : List Int32}, (∀ x ∈ ex, r ≤ rnk x) → hk w < r → rsd r (ex ++ w) = w ∧ pop r (ex ++ w) = ex := by
  intro ex
  induction ex with
  | nil => intro w _ h; exact rsd_stop hr h
  | cons x u ih =>
    intro w h h2
    obtain ⟨i1, i2⟩ := ih (fun y hy => h y (List.mem_cons_of_mem _ hy)) h2
    have c := h x List.mem_cons_self
    rw [List.cons_append, (rsd_p c).1, (rsd_p c).2, i1, i2]
    exact ⟨rfl, rfl⟩
def sl (st : Int32) : Nat := if st = 1 ∨ st = 2 then 1 else if st = 3 ∨ st = 4 then 2 else 0
def MI (st : Int32) (p cl pa : Nat) (cd wt : List Int32) : Prop := gw wt ∧ cn wt ≤ 10 ∧ pa ≤ 60 ∧ cl ≤ 12 ∧ 3 * (cd.length + wt.length + sl st) ≤ 6 * pa + p + 3 * oc wt + 3 * cl
theorem oc_le : ∀ w, oc w ≤ cn w := by
  intro w
  induction w with
  | nil => exact Nat.le_refl _
  | cons x u ih =>
    rw [oc, cn]
    by_cases c : x = -26
    · rw [if_pos c, if_pos (Or.inr c)]; omega
    · rw [if_neg c]; omega
theorem MI.b {st : Int32} {p cl pa : Nat} {cd wt : List Int32} (h : MI st p cl pa cd wt) (hp : p ≤ 400) : cd.length + wt.length ≤ 275 ∧ wt.length ≤ 35 := by
  obtain ⟨h1, h2, h3, h4, h5⟩ := h
  have := oc_le wt
  exact ⟨by omega, gw_35 h1 h2⟩
def K7 (S0 S : jS) (tn : Nat) (tb : Nat → Nat) (p : Nat) (st te co : Int32) (cl pa : Nat) (cd wt : List Int32) : Prop := C7 S0 S tn tb p st te co cl pa (cn wt) cd wt ∧ MI st p cl pa cd wt
def r7 (S : jS) (k : Nat) : Option (jS × Int32) := f7_read_L1 (jF - k) S (nI k)
theorem r7_go {tn : Nat} {tb : Nat → Nat} (ot : TpOk tn tb) {S : jS} {p k : Nat} (hp : p ≤ tn) (hk : k ≤ p) (hc : CTp S tn tb) (h2 : S.1 1 2 = nI p) (hst : S.1 12 5 ≠ 5) : ∃ S1, SG tn tb S S1 p ∧ r7 S k = Option.bind (f7_takeSign S1) (fun r4 => (if r4.2 = 0 then some (r4.1, r4.1.1 1 6) else r7 r4.1 (k + 1))) := by
  have l := ot.1
  obtain ⟨S1, a1, a2⟩ := c_sign ot hp hc h2
  refine ⟨S1, a2, ?_⟩
  have e1 : nI k + 1 = nI (k + 1) := nI_add k 1
  have ej : jF - k = (jF - (k + 1)) + 1 := by unfold jF; omega
  unfold r7
  rw [ej, f7_read_L1, if_neg (by rw [show (400 : Int32) = nI 400 from rfl, nI_ltI (by omega) (by omega)]; omega), if_neg hst, a1, Option.bind_some, e1]
theorem r7_flt {S0 S S1 : jS} {k f : Nat} {r : Option (jS × Int32)} (hf : fC S0 S1) (h : r7 S k = Option.bind r (fun r4 => (if r4.2 = 0 then some (r4.1, r4.1.1 1 6) else r7 r4.1 (k + 1)))) (hr : r = some (wI S1 1 6 (nI f), 0)) : ∃ S', r7 S k = some (S', nI f) ∧ fC S0 S' := by
  refine ⟨wI S1 1 6 (nI f), ?_, hf.w (by omega)⟩
  rw [h, hr, Option.bind_some, if_pos rfl, wI_self]
theorem r7_ok {S S1 : jS} {k : Nat} {r : Option (jS × Int32)} (h : r7 S k = Option.bind r (fun r4 => (if r4.2 = 0 then some (r4.1, r4.1.1 1 6) else r7 r4.1 (k + 1)))) (hr : r = some (S1, 1)) : r7 S k = r7 S1 (k + 1) := by
  rw [h, hr, Option.bind_some, if_neg (show ¬ (1 : Int32) = 0 by decide)]
/-- a value: its fault -/
def vf (tn : Nat) (tb : Nat → Nat) (s pa : Nat) : Option Nat := if tkS tn tb s = 3 ∨ (-10 ≤ tkS tn tb s ∧ tkS tn tb s < 0) then (if pa < 60 then none else some 3) else if tkS tn tb s = 4 then some 1 else some 0
def vx (tn : Nat) (tb : Nat → Nat) (s : Nat) : Int32 := if tkS tn tb s = 3 then nI (tkV tn tb s) else tkS tn tb s
theorem c7_val {S0 S : jS} {tn : Nat} {tb : Nat → Nat} {p s : Nat} {st te co : Int32} {cl pa : Nat} {cd wt : List Int32} (h : C7 S0 S tn tb p st te co cl pa (cn wt) cd wt) (hl : cd.length < 400) (hpa : pa ≤ 60) (h3 : S.1 1 3 = nI s) (h4 : S.1 1 4 = tkS tn tb s) (h5 : tkS tn tb s = 3 → S.1 1 5 = nI (tkV tn tb s)) :
    (∀ e, vf tn tb s pa = some e → f7_takeValue S = some (wI S 1 6 (nI (1 + 8 * s + e)), 0)) ∧
    (vf tn tb s pa = none → ∃ S1, f7_takeValue S = some (S1, 1) ∧ C7 S0 S1 tn tb p 3 te co cl (pa + 1) (cn wt) (cd ++ [vx tn tb s]) wt) := by
  have q60 : nI pa < (60 : Int32) ↔ pa < 60 := by rw [show (60 : Int32) = nI 60 from rfl, nI_ltI (by omega) (by omega)]
  have epa : nI pa + 1 = nI (pa + 1) := nI_add pa 1
  have p7 : S.1 12 7 = nI pa := h.2.2.1.2.1
  have hS2 : C7 S0 (wI S 12 7 (nI (pa + 1))) tn tb p st te co cl (pa + 1) (cn wt) cd wt := h.set (fun a i u _ => by rw [wI_g, if_neg (by omega)]) (by rw [wI_nj (by omega)]; exact h.2.1.1) (by rw [wI_nj (by omega)]; exact h.2.1.2.1) (by rw [wI_nj (by omega)]; exact h.2.1.2.2) (by rw [wI_nj (by omega)]; exact h.2.2.1.1) (wI_self _ _ _ _) (by rw [wI_nj (by omega)]; exact h.2.2.1.2.2)
  obtain ⟨S3, t1, t2, t3⟩ := c_emit (x := vx tn tb s) hS2 hl
  have hS4 : C7 S0 (wI S3 12 5 3) tn tb p 3 te co cl (pa + 1) (cn wt) (cd ++ [vx tn tb s]) wt := t2.set (fun a i u _ => by rw [wI_g, if_neg (by omega)]) (wI_self _ _ _ _) (by rw [wI_nj (by omega)]; exact t2.2.1.2.1) (by rw [wI_nj (by omega)]; exact t2.2.1.2.2) (by rw [wI_nj (by omega)]; exact t2.2.2.1.1) (by rw [wI_nj (by omega)]; exact t2.2.2.1.2.1) (by rw [wI_nj (by omega)]; exact t2.2.2.1.2.2)
  have w14 : (wI S 12 7 (nI (pa + 1))).1 1 4 = tkS tn tb s := by rw [wI_ne (by omega)]; exact h4
  have w15 : tkS tn tb s = 3 → (wI S 12 7 (nI (pa + 1))).1 1 5 = nI (tkV tn tb s) := fun z => by rw [wI_ne (by omega)]; exact h5 z
  have f0 := c_fail (S := S) (x := 0) (e := 0) h3 rfl
  have f1 := c_fail (S := S) (x := 1) (e := 1) h3 rfl
  have f3 := c_fail (S := S) (x := 3) (e := 3) h3 rfl
  unfold f7_takeValue
  rw [h4, p7, epa, w14]
  by_cases c3 : tkS tn tb s = 3
  · have ev : vx tn tb s = nI (tkV tn tb s) := by unfold vx; rw [if_pos c3]
    have hvf : vf tn tb s pa = if pa < 60 then none else some 3 := by unfold vf; rw [if_pos (Or.inl c3)]
    rw [hvf, if_pos c3, if_neg (show ¬ (1 : Int32) = 0 by decide), if_neg (show ¬ (1 : Int32) = 0 by decide), w15 c3, ← ev, t1, Option.bind_some, f3]
    by_cases c : pa < 60
    · rw [if_pos c, if_pos (q60.mpr c)]
      exact ⟨fun e z => (by cases z), fun _ => ⟨_, rfl, hS4⟩⟩
    · rw [if_neg c, if_neg (fun z => c (q60.mp z))]
      exact ⟨fun e z => (by obtain rfl := Option.some.inj z; rfl), fun z => (by cases z)⟩
  · have ev : vx tn tb s = tkS tn tb s := by unfold vx; rw [if_neg c3]
    rw [if_neg c3, if_pos rfl, if_pos rfl]
    by_cases cw : -10 ≤ tkS tn tb s ∧ tkS tn tb s < 0
    · have n0 : ¬ 0 ≤ tkS tn tb s := by have := cw.2; grind
      have n10 : ¬ tkS tn tb s < -10 := by have := cw.1; grind
      have hvf : vf tn tb s pa = if pa < 60 then none else some 3 := by unfold vf; rw [if_pos (Or.inr cw)]
      rw [hvf, if_neg n0, if_neg n10, if_neg (show ¬ (1 : Int32) = 0 by decide), ← ev, t1, Option.bind_some, f3]
      by_cases c : pa < 60
      · rw [if_pos c, if_pos (q60.mpr c)]
        exact ⟨fun e z => (by cases z), fun _ => ⟨_, rfl, hS4⟩⟩
      · rw [if_neg c, if_neg (fun z => c (q60.mp z))]
        exact ⟨fun e z => (by obtain rfl := Option.some.inj z; rfl), fun z => (by cases z)⟩
    · have ez : (if 0 ≤ tkS tn tb s then (0 : Int32) else (if tkS tn tb s < (-10) then 0 else 1)) = 0 := by
        by_cases d : 0 ≤ tkS tn tb s
        · rw [if_pos d]
        · rw [if_neg d]
          by_cases d2 : tkS tn tb s < -10
          · rw [if_pos d2]
          · exact absurd ⟨by grind, by grind⟩ cw
      have hvf : vf tn tb s pa = if tkS tn tb s = 4 then some 1 else some 0 := by unfold vf; rw [if_neg (by rintro (z | z); (· exact c3 z); (· exact cw z))]
      rw [hvf, ez, if_pos rfl]
      by_cases c4 : tkS tn tb s = 4
      · rw [if_pos c4, if_pos c4, f1]
        exact ⟨fun e z => (by obtain rfl := Option.some.inj z; rfl), fun z => (by cases z)⟩
      · rw [if_neg c4, if_neg c4, f0]
        exact ⟨fun e z => (by obtain rfl := Option.some.inj z; rfl), fun z => (by cases z)⟩
