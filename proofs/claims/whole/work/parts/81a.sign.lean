/-! words -/
def jb (t : Nat) : List Int32 := jbyt.getD t []
/-- the letters from s on -/
def wl (tb : Nat → Nat) (s k : Nat) : List Int32 := (List.range k).map (fun i => nI (tb (s + i)))
def wW (tn : Nat) (tb : Nat → Nat) (s : Nat) : List Int32 := wl tb s (run isL tn tb s - s)
theorem wl_len {tb : Nat → Nat} {s k : Nat} : (wl tb s k).length = k := by unfold wl; simp
theorem jb_len : ∀ t, t < 18 → (jb t).length = jlen.getD t 0 ∧ jlen.getD t 0 < 10 := by decide +kernel
theorem wl_eq {tb : Nat → Nat} {s k : Nat} {l : List Int32} (h : l.length = k) : wl tb s k = l ↔ ∀ i, i < k → nI (tb (s + i)) = l.getD i 0 := by
  constructor
  · intro e i hi
    rw [← e]
    unfold wl
    rw [List.getD_eq_getElem?_getD, List.getElem?_map, List.getElem?_range hi]
    rfl
  · intro e
    apply List.ext_getElem (by rw [wl_len, h])
    intro i h1 h2
    have g := e i (by rw [wl_len] at h1; exact h1)
    simp only [wl, List.getElem_map, List.getElem_range]
    rw [g, List.getD_eq_getElem?_getD, List.getElem?_eq_getElem h2]
    rfl
/-- spells, the class: from the k-th letter on -/
theorem c_sp1 {tn : Nat} {tb : Nat → Nat} (ot : TpOk tn tb) {S : jS} {s t L : Nat} (ht : t < 18) (hL : jlen.getD t 0 = L) (hs : s + L ≤ tn) (hc : CTp S tn tb) (h3 : S.1 1 3 = nI s) : ∀ n k, L - k < n → k ≤ L → ∃ r : Int32, f9_spells_L1 S t n (nI k) = some r ∧ ((r = 1 ∧ ∀ i, k ≤ i → i < L → nI (tb (s + i)) = (jb t).getD i 0) ∨ (r = 0 ∧ ¬ ∀ i, k ≤ i → i < L → nI (tb (s + i)) = (jb t).getD i 0)) := by
  intro n
  have l := ot.1
  have hL2 : L < 10 := by rw [← hL]; exact (jb_len t ht).2
  induction n with
  | zero => intro k h; omega
  | succ n ih =>
    intro k hn hk
    have e1 : nI k + 1 = nI (k + 1) := nI_add k 1
    have e2 : nI s + nI k = nI (s + k) := nI_add s k
    rw [f9_spells_L1, slen, hL, hc.1, h3, e2, nI_clamp (by omega)]
    by_cases c : k < L
    · rw [if_neg (by rw [nI_leI (by omega) (by omega)]; omega), if_neg (by rw [nI_leI (by omega) (by omega)]; omega), inb4 (by omega), if_pos rfl, (show inb (nI k) L = true by rw [inb_n (by omega)]; simpa using c), if_pos rfl, hc.2 _ (by omega), sch, nI_clamp (by omega), e1]
      change ∃ r : Int32, (if nI (tb (s + k)) = (jb t).getD k 0 then _ else _) = some r ∧ _
      by_cases e : nI (tb (s + k)) = (jb t).getD k 0
      · rw [if_pos e]
        obtain ⟨r, r1, r2⟩ := ih (k + 1) (by omega) (by omega)
        refine ⟨r, r1, ?_⟩
        rcases r2 with ⟨r2, z⟩ | ⟨r2, z⟩
        · refine Or.inl ⟨r2, fun i a b => ?_⟩
          by_cases ei : i = k
          · rw [ei]; exact e
          · exact z i (by omega) b
        · exact Or.inr ⟨r2, fun y => z (fun i a b => y i (by omega) b)⟩
      · rw [if_neg e]
        exact ⟨0, rfl, Or.inr ⟨rfl, fun z => e (z k (by omega) c)⟩⟩
    · rw [if_pos (by rw [nI_leI (by omega) (by omega)]; omega)]
      exact ⟨1, rfl, Or.inl ⟨rfl, fun i a b => by omega⟩⟩
theorem c_spl {tn : Nat} {tb : Nat → Nat} (ot : TpOk tn tb) {S : jS} {s e t : Nat} (ht : t < 18) (he : s ≤ e) (hn : e ≤ tn) (hc : CTp S tn tb) (h2 : S.1 1 2 = nI e) (h3 : S.1 1 3 = nI s) : f9_spells S t = some (if wl tb s (e - s) = jb t then 1 else 0) := by
  have l := ot.1
  obtain ⟨j1, j2⟩ := jb_len t ht
  have e0 : nI e - nI s = nI (e - s) := nI_sub he
  unfold f9_spells
  rw [h2, h3, e0, slen]
  by_cases c : e - s = jlen.getD t 0
  · obtain ⟨r, r1, r2⟩ := c_sp1 (S := S) (s := s) ot ht rfl (by omega) hc h3 jF 0 (by unfold jF; omega) (by omega)
    rw [if_pos (by rw [c]), show f9_spells_L1 S t jF 0 = some r from r1]
    congr 1
    have q := wl_eq (tb := tb) (s := s) (k := e - s) (l := jb t) (by rw [j1, c])
    rcases r2 with ⟨r2, z⟩ | ⟨r2, z⟩
    · rw [if_pos (q.mpr (fun i b => z i (by omega) (by omega))), r2]
    · rw [if_neg (fun y => z (fun i _ b => q.mp y i (by omega))), r2]
  · have c' : ¬ nI (e - s) = nI (jlen.getD t 0) := by rw [nI_eqI (by omega) (by omega)]; exact c
    rw [if_neg c', if_neg (fun z => c (by rw [← j1, ← z, wl_len]))]
/-- the words, with the class's numbers of them -/
def wT : List (Nat × Int32) := [(13, -1), (15, -2), (6, -3), (3, -4), (8, -5), (1, -6), (4, -7), (16, -8), (9, -9), (17, -10), (14, -24), (7, -25), (11, -22), (0, -21), (10, -23), (12, 5), (2, 6), (5, 7)]
def wgo (w : List Int32) : List (Nat × Int32) → Int32
  | [] => 2
  | q :: r => if w = jb q.1 then q.2 else wgo w r
def wsg (w : List Int32) : Int32 := wgo w wT
theorem wT_k : ∀ k, k < 18 → ∃ q, wT.drop k = q :: wT.drop (k + 1) ∧ f9_wordOf (nI k) = some q.1 ∧ f9_signOf (nI k) = some q.2 ∧ q.1 < 18 ∧ q.2 ≠ 2 := by
  intro k hk
  have h : ∀ k, k < 18 → wT.drop k = (wT.getD k (0, 0)) :: wT.drop (k + 1) ∧ f9_wordOf (nI k) = some (wT.getD k (0, 0)).1 ∧ f9_signOf (nI k) = some (wT.getD k (0, 0)).2 ∧ (wT.getD k (0, 0)).1 < 18 ∧ (wT.getD k (0, 0)).2 ≠ 2 := by decide +kernel
  exact ⟨_, h k hk⟩
theorem c_wd {tn : Nat} {tb : Nat → Nat} (ot : TpOk tn tb) {s e : Nat} (he : s ≤ e) (hn : e ≤ tn) : ∀ n k S, 18 - k < n → k ≤ 18 → CTp S tn tb → S.1 1 2 = nI e → S.1 1 3 = nI s → S.1 1 4 = 2 → ∃ S1, f9_readWord_L2 n S (nI k) = some S1 ∧ S1.1 1 4 = wgo (wl tb s (e - s)) (wT.drop k) ∧ ∀ a i, ¬ (a = 1 ∧ i = 4) → S1.1 a i = S.1 a i := by
  intro n
  induction n with
  | zero => intro k S h; omega
  | succ n ih =>
    intro k S h1 h2 hc a2 a3 a4
    have e1 : nI k + 1 = nI (k + 1) := nI_add k 1
    rw [f9_readWord_L2, a4]
    by_cases c : k < 18
    · obtain ⟨q, b1, b2, b3, b4, b5⟩ := wT_k k c
      rw [if_neg (by rw [show (18 : Int32) = nI 18 from rfl, nI_leI (by omega) (by omega)]; omega), if_pos rfl, b2, Option.bind_some, c_spl ot b4 he hn hc a2 a3, Option.bind_some, b1, wgo]
      by_cases z : wl tb s (e - s) = jb q.1
      · rw [if_pos z, if_pos z, if_neg (by decide), b3, Option.bind_some, Option.bind_some, e1]
        obtain ⟨m, rfl⟩ : ∃ m, n = m + 1 := ⟨n - 1, by omega⟩
        rw [f9_readWord_L2, wI_self, if_neg b5]
        refine ⟨wI S 1 4 q.2, ?_, wI_self _ _ _ _, fun a i g => by rw [wI_g, if_neg g]⟩
        split <;> rfl
      · rw [if_neg z, if_neg z, if_pos rfl, Option.bind_some, e1]
        exact ih (k + 1) S (by omega) (by omega) hc a2 a3 a4
    · have : k = 18 := by omega
      subst this
      rw [if_pos (by decide)]
      exact ⟨S, rfl, a4, fun _ _ _ => rfl⟩
/-- signs that are no words and no numbers -/
def msg (b : Nat) : Int32 := if b = 37 then -15 else if b = 42 then -13 else if b = 43 then -11 else if b = 45 then -12 else if b = 47 then -14 else if b = 59 then 8 else if b = 60 then -16 else if b = 61 then -18 else if b = 62 then -20 else if b = 91 then -26 else if b = 93 then 9 else 2
theorem c_mark : ∀ b, b < 256 → f9_markOf (nI b) = some (msg b) ∧ (nI b = 60 ↔ b = 60) ∧ (nI b = 61 ↔ b = 61) ∧ (nI b = 62 ↔ b = 62) := by decide +kernel
/-- the sign at s, where no blank is: its number, its end, its value -/
def tkS (tn : Nat) (tb : Nat → Nat) (s : Nat) : Int32 := if tn ≤ s then 1 else if isL (tb s) = true then wsg (wW tn tb s) else if isD (tb s) = true then (if run isD tn tb s - s ≤ 5 then 3 else 4) else if (tb s = 60 ∨ tb s = 62) ∧ s + 1 < tn ∧ tb (s + 1) = 61 then (if tb s = 60 then -17 else -19) else msg (tb s)
def tkE (tn : Nat) (tb : Nat → Nat) (s : Nat) : Nat := if tn ≤ s then s else if isL (tb s) = true then run isL tn tb s else if isD (tb s) = true then run isD tn tb s else if (tb s = 60 ∨ tb s = 62) ∧ s + 1 < tn ∧ tb (s + 1) = 61 then s + 2 else s + 1
def tkV (tn : Nat) (tb : Nat → Nat) (s : Nat) : Nat := dgv tb s (run isD tn tb s - s)
def sk (tn : Nat) (tb : Nat → Nat) (p : Nat) : Nat := run isB tn tb p
theorem c_rmark {tn : Nat} {tb : Nat → Nat} (ot : TpOk tn tb) {S : jS} {s : Nat} (hs : s < tn) (hc : CTp S tn tb) (h2 : S.1 1 2 = nI s) (h3 : S.1 1 3 = nI s) (n1 : ¬ isL (tb s) = true) (n2 : ¬ isD (tb s) = true) : ∃ S1, f9_readMark S = some (S1, ()) ∧ S1.1 1 2 = nI (tkE tn tb s) ∧ S1.1 1 4 = tkS tn tb s ∧ ∀ a i, ¬ (a = 1 ∧ i = 2) → ¬ (a = 1 ∧ i = 4) → S1.1 a i = S.1 a i := by
  have l := ot.1
  have e1 : nI s + 1 = nI (s + 1) := nI_add s 1
  have e2 : nI (s + 1) + 1 = nI (s + 2) := nI_add (s + 1) 1
  obtain ⟨m1, m2, m3, m4⟩ := c_mark (tb s) (ot.2 s hs)
  have w1 : ∀ a i, (wI (wI S 1 2 (nI (s + 1))) 1 4 (msg (tb s))).1 a i = if a = 1 ∧ i = 4 then msg (tb s) else if a = 1 ∧ i = 2 then nI (s + 1) else S.1 a i := fun a i => by rw [wI_g, wI_g]
  have r1 : (wI (wI S 1 2 (nI (s + 1))) 1 4 (msg (tb s))).1 1 1 = nI tn := by rw [w1, if_neg (by omega), if_neg (by omega)]; exact hc.1
  have r2 : (wI (wI S 1 2 (nI (s + 1))) 1 4 (msg (tb s))).1 1 2 = nI (s + 1) := by rw [w1, if_neg (by omega), if_pos ⟨rfl, rfl⟩]
  have r3 : s + 1 < tn → (wI (wI S 1 2 (nI (s + 1))) 1 4 (msg (tb s))).1 2 (s + 1) = nI (tb (s + 1)) := fun g => by rw [w1, if_neg (by omega), if_neg (by omega)]; exact hc.2 _ g
  have fr : ∀ a i, ¬ (a = 1 ∧ i = 2) → ¬ (a = 1 ∧ i = 4) → (wI (wI S 1 2 (nI (s + 1))) 1 4 (msg (tb s))).1 a i = S.1 a i := fun a i g g' => by rw [w1, if_neg g', if_neg g]
  have out : ∀ x : Int32, ¬ ((tb s = 60 ∨ tb s = 62) ∧ s + 1 < tn ∧ tb (s + 1) = 61) → ∃ S1, (some (wI (wI S 1 2 (nI (s + 1))) 1 4 (msg (tb s)), ()) : Option (jS × Unit)) = some (S1, ()) ∧ S1.1 1 2 = nI (tkE tn tb s) ∧ S1.1 1 4 = tkS tn tb s ∧ ∀ a i, ¬ (a = 1 ∧ i = 2) → ¬ (a = 1 ∧ i = 4) → S1.1 a i = S.1 a i := by
    intro x g
    refine ⟨_, rfl, ?_, ?_, fr⟩
    · rw [r2]; unfold tkE; rw [if_neg (by omega), if_neg n1, if_neg n2, if_neg g]
    · rw [w1, if_pos ⟨rfl, rfl⟩]; unfold tkS; rw [if_neg (by omega), if_neg n1, if_neg n2, if_neg g]
  have big : (tb s = 60 ∨ tb s = 62) → ∃ S1, (if ((wI (wI S 1 2 (nI (s + 1))) 1 4 (msg (tb s))).1 1 1) ≤ ((wI (wI S 1 2 (nI (s + 1))) 1 4 (msg (tb s))).1 1 2) then some (wI (wI S 1 2 (nI (s + 1))) 1 4 (msg (tb s)), ()) else (if inb ((wI (wI S 1 2 (nI (s + 1))) 1 4 (msg (tb s))).1 1 2) 400 then (if ((wI (wI S 1 2 (nI (s + 1))) 1 4 (msg (tb s))).1 2 ((wI (wI S 1 2 (nI (s + 1))) 1 4 (msg (tb s))).1 1 2).toNatClampNeg) = 61 then some (wI (wI (wI (wI S 1 2 (nI (s + 1))) 1 4 (msg (tb s))) 1 2 (((wI (wI S 1 2 (nI (s + 1))) 1 4 (msg (tb s))).1 1 2) + 1)) 1 4 (((if nI (tb s) = 60 then ((-17)) else ((-19))) : Int32)), ()) else some (wI (wI S 1 2 (nI (s + 1))) 1 4 (msg (tb s)), ())) else none)) = some (S1, ()) ∧ S1.1 1 2 = nI (tkE tn tb s) ∧ S1.1 1 4 = tkS tn tb s ∧ ∀ a i, ¬ (a = 1 ∧ i = 2) → ¬ (a = 1 ∧ i = 4) → S1.1 a i = S.1 a i := by
    intro g
    rw [r1, r2, nI_clamp (by omega)]
    by_cases c : s + 1 < tn
    · rw [if_neg (by rw [nI_leI (by omega) (by omega)]; omega), inb4 (by omega), if_pos rfl, r3 c, e2]
      by_cases e : tb (s + 1) = 61
      · rw [if_pos ((c_mark _ (ot.2 _ c)).2.2.1.mpr e)]
        refine ⟨_, rfl, ?_, ?_, fun a i g g' => by rw [wI_g, if_neg g', wI_g, if_neg g]; exact fr a i g g'⟩
        · rw [wI_g, if_neg (by omega), wI_self]; unfold tkE; rw [if_neg (by omega), if_neg n1, if_neg n2, if_pos ⟨g, c, e⟩]
        · have et : tkS tn tb s = if tb s = 60 then -17 else -19 := by unfold tkS; rw [if_neg (by omega), if_neg n1, if_neg n2, if_pos ⟨g, c, e⟩]
          rw [wI_self, et]
          by_cases e6 : tb s = 60
          · rw [if_pos (m2.mpr e6), if_pos e6]
          · rw [if_neg (fun z => e6 (m2.mp z)), if_neg e6]
      · rw [if_neg (fun z => e ((c_mark _ (ot.2 _ c)).2.2.1.mp z))]
        exact out 0 (fun z => e z.2.2)
    · rw [if_pos (by rw [nI_leI (by omega) (by omega)]; omega)]
      exact out 0 (fun z => c z.2.1)
  unfold f9_readMark
  rw [h3, inb4 (by omega), if_pos rfl, nI_clamp (by omega), hc.2 s hs, m1, Option.bind_some, h2, e1]
  by_cases g1 : tb s = 60
  · rw [if_pos (m2.mpr g1)]
    exact big (Or.inl g1)
  · rw [if_neg (fun z => g1 (m2.mp z))]
    by_cases g2 : tb s = 62
    · rw [if_pos (m4.mpr g2)]
      exact big (Or.inr g2)
    · rw [if_neg (fun z => g2 (m4.mp z))]
      exact out 0 (fun z => z.1.elim g1 g2)
