section OBJ
variable {M : jM} {d mc ms kc ks pc : Nat} {L : List (Nat × jV)} {st : List jV} {μ : jMem} {Q : Option jV → jMem → Prop}
theorem go_obj {idx : Nat} {x : jId} (hd : decode M.2.2.1 pc = .ok (.invokespecial idx, 3)) (hl0 : Cond.methodLink (jcn M.1) idx Lib.objectInit ∈ lw_tbl) (hc0 : M.2.1.cls = jcn M.1) (hdd : 1 ≤ d) (hst : jwd st ≤ 8) (k : Go M d mc ms kc ks (pc + 3) L st μ Q) : Go M d mc ms kc ks pc L (.inr (.inr (some x)) :: st) μ Q := by
  intro p l e s m args below meth c H locs cells slots ls D cid adK adV base hC hW hS hl h1 h2
  obtain ⟨hx0, hb, hml, hr, hts, hown, hlocks, hmn, hbs, hK, hO⟩ := id hC
  rw [hc0] at hown
  have kk := k p l e s m args below meth c H locs cells slots ls D cid adK adV base hC hW hS hl h1 h2
  have z := lv_room (m := m) (pc := pc) (ls := ls) (rest := .ref (gA adK μ x) :: st.map (jcv adK μ)) (jcatsum (adK := adK) (μ := μ) hst)
  exact W.objInit (g := F0 m pc ls (.ref (gA adK μ x) :: st.map (jcv adK μ))) hx0 hb hown (hts _ (jw_mem hl0 rfl)) (hts _ (jw_mem (jin_1 (List.mem_of_getElem? (i := 27) rfl)) rfl)) (hts _ (jw_mem (show Cond.code Lib.objectInit ⟨#[0xb1]⟩ 1 none ∈ lw_tbl from in_M21_init) rfl)) rfl (hl.1.trans hml.symm) rfl hd (by show 1 ≤ d; omega) (by show _ + _ + 12 ≤ 64 * d; omega) kk
end OBJ
abbrev jP : Type := jS × jT
def pN (P : jP) (a t n q : Nat) : jP := ((jst P.1.1 a (fun _ => 0), jst P.1.2 a (fun _ => 0)), (jst P.2.1 a (fun _ => none), jst P.2.2.1 a t, jst P.2.2.2.1 a n, jst P.2.2.2.2.1 a q, P.2.2.2.2.2 ++ [a]))
def pI (P : jP) (a i : Nat) (x : Int32) : jP := (wI P.1 a i x, P.2)
def pR (P : jP) (a i b : Nat) : jP := (P.1, (jst P.2.1 a (va_up (P.2.1 a) i (some b)), P.2.2))
/-- tag, length, address, references, ints, longs of a cell -/
def cT (P : jP) (a : Nat) : Nat := P.2.2.1 a
def cN (P : jP) (a : Nat) : Nat := P.2.2.2.1 a
def cA (P : jP) (a : Nat) : Nat := P.2.2.2.2.1 a
def cR (P : jP) (a i : Nat) : Option Nat := P.2.1 a i
def cI (P : jP) (a i : Nat) : Int32 := P.1.1 a i
def cL (P : jP) (a i : Nat) : Int64 := P.1.2 a i
theorem pN_T (P : jP) (a t n q b : Nat) : cT (pN P a t n q) b = if b = a then t else cT P b := rfl
theorem pN_N (P : jP) (a t n q b : Nat) : cN (pN P a t n q) b = if b = a then n else cN P b := rfl
theorem pN_A (P : jP) (a t n q b : Nat) : cA (pN P a t n q) b = if b = a then q else cA P b := rfl
theorem pN_R (P : jP) (a t n q b i : Nat) : cR (pN P a t n q) b i = if b = a then none else cR P b i := by
  show jst P.2.1 a (fun _ => none) b i = _
  unfold jst; by_cases h : b = a
  · rw [if_pos h, if_pos h]
  · rw [if_neg h, if_neg h]; rfl
theorem pN_I (P : jP) (a t n q b i : Nat) : cI (pN P a t n q) b i = if b = a then 0 else cI P b i := by
  show jst P.1.1 a (fun _ => 0) b i = _
  unfold jst; by_cases h : b = a
  · rw [if_pos h, if_pos h]
  · rw [if_neg h, if_neg h]; rfl
theorem pN_L (P : jP) (a t n q b i : Nat) : cL (pN P a t n q) b i = if b = a then 0 else cL P b i := by
  show jst P.1.2 a (fun _ => 0) b i = _
  unfold jst; by_cases h : b = a
  · rw [if_pos h, if_pos h]
  · rw [if_neg h, if_neg h]; rfl
theorem pI_T (P : jP) (a i : Nat) (x : Int32) (b : Nat) : cT (pI P a i x) b = cT P b := rfl
theorem pI_N (P : jP) (a i : Nat) (x : Int32) (b : Nat) : cN (pI P a i x) b = cN P b := rfl
theorem pI_A (P : jP) (a i : Nat) (x : Int32) (b : Nat) : cA (pI P a i x) b = cA P b := rfl
theorem pI_R (P : jP) (a i : Nat) (x : Int32) (b j : Nat) : cR (pI P a i x) b j = cR P b j := rfl
theorem pI_L (P : jP) (a i : Nat) (x : Int32) (b j : Nat) : cL (pI P a i x) b j = cL P b j := rfl
theorem pI_I (P : jP) (a i : Nat) (x : Int32) (b j : Nat) : cI (pI P a i x) b j = if b = a ∧ j = i then x else cI P b j := by
  show jst P.1.1 a (upd (P.1.1 a) i x) b j = _
  unfold jst upd; by_cases h : b = a
  · subst h; rw [if_pos rfl]
    by_cases h2 : j = i
    · rw [if_pos h2, if_pos ⟨rfl, h2⟩]
    · rw [if_neg h2, if_neg (fun z => h2 z.2)]; rfl
  · rw [if_neg h, if_neg (fun z => h z.1)]; rfl
theorem pR_T (P : jP) (a i c b : Nat) : cT (pR P a i c) b = cT P b := rfl
theorem pR_N (P : jP) (a i c b : Nat) : cN (pR P a i c) b = cN P b := rfl
theorem pR_A (P : jP) (a i c b : Nat) : cA (pR P a i c) b = cA P b := rfl
theorem pR_I (P : jP) (a i c b j : Nat) : cI (pR P a i c) b j = cI P b j := rfl
theorem pR_L (P : jP) (a i c b j : Nat) : cL (pR P a i c) b j = cL P b j := rfl
theorem pR_R (P : jP) (a i c b j : Nat) : cR (pR P a i c) b j = if b = a ∧ j = i then some c else cR P b j := by
  show jst P.2.1 a (va_up (P.2.1 a) i (some c)) b j = _
  unfold jst va_up; by_cases h : b = a
  · subst h; rw [if_pos rfl]
    by_cases h2 : j = i
    · rw [if_pos h2, if_pos ⟨rfl, h2⟩]
    · rw [if_neg h2, if_neg (fun z => h2 z.2)]; rfl
  · rw [if_neg h, if_neg (fun z => h z.1)]; rfl
