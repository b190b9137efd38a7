/-! THE PICTURES: values, two sides of a memory (the class's, the reference's), and what stands outside -/
abbrev jId : Type := Nat ⊕ (Nat ⊕ Nat)
abbrev jV : Type := Int32 ⊕ (Int64 ⊕ Option jId)
abbrev jS : Type := (Nat → Nat → Int32) × (Nat → Nat → Int64)
abbrev jT : Type := (Nat → Nat → Option Nat) × (Nat → Nat) × (Nat → Nat) × (Nat → Nat) × List Nat
abbrev jMem : Type := (jS × jT) × (jS × jT)
def gI (μ : jMem) (x : jId) : Nat → Int32 := match x with
  | .inl a => μ.1.1.1 a
  | .inr (.inl a) => μ.2.1.1 a
  | .inr (.inr _) => fun _ => 0
def gL (μ : jMem) (x : jId) : Nat → Int64 := match x with
  | .inl a => μ.1.1.2 a
  | .inr (.inl a) => μ.2.1.2 a
  | .inr (.inr _) => fun _ => 0
def gR (μ : jMem) (x : jId) : Nat → Option jId := match x with
  | .inl a => fun i => (μ.1.2.1 a i).map .inl
  | .inr (.inl a) => fun i => (μ.2.2.1 a i).map (fun b => .inr (.inl b))
  | .inr (.inr _) => fun _ => none
def gT (μ : jMem) (x : jId) : Nat := match x with
  | .inl a => μ.1.2.2.1 a
  | .inr (.inl a) => μ.2.2.2.1 a
  | .inr (.inr _) => 0
def gN (μ : jMem) (x : jId) : Nat := match x with
  | .inl a => μ.1.2.2.2.1 a
  | .inr (.inl a) => μ.2.2.2.2.1 a
  | .inr (.inr _) => 0
def gA (adK : Nat → Nat) (μ : jMem) (x : jId) : Nat := match x with
  | .inl a => μ.1.2.2.2.2.1 a
  | .inr (.inl a) => μ.2.2.2.2.2.1 a
  | .inr (.inr k) => adK k
def jst {α : Type} (f : Nat → α) (a : Nat) (x : α) : Nat → α := fun b => if b = a then x else f b
def sF (μ : jMem) (x : jId) (f : Nat → Int32) : jMem := match x with
  | .inl a => (((jst μ.1.1.1 a f, μ.1.1.2), μ.1.2), μ.2)
  | .inr (.inl a) => (μ.1, ((jst μ.2.1.1 a f, μ.2.1.2), μ.2.2))
  | .inr (.inr _) => μ
def sFL (μ : jMem) (x : jId) (f : Nat → Int64) : jMem := match x with
  | .inl a => (((μ.1.1.1, jst μ.1.1.2 a f), μ.1.2), μ.2)
  | .inr (.inl a) => (μ.1, ((μ.2.1.1, jst μ.2.1.2 a f), μ.2.2))
  | .inr (.inr _) => μ
def sFR (μ : jMem) (x : jId) (i : Nat) (r : Option Nat) : jMem := match x with
  | .inl a => ((μ.1.1, (jst μ.1.2.1 a (va_up (μ.1.2.1 a) i r), μ.1.2.2)), μ.2)
  | .inr (.inl a) => (μ.1, (μ.2.1, (jst μ.2.2.1 a (va_up (μ.2.2.1 a) i r), μ.2.2.2)))
  | .inr (.inr _) => μ
/-- the side's own number of an id, if it is of the side of x -/
def jsame (x y : jId) : Option Nat := match x, y with
  | .inl _, .inl b => some b
  | .inr (.inl _), .inr (.inl b) => some b
  | _, _ => none
def jcl : List vw_C := [(RX0, TX0, 11), (RX1, TX1, 5), (RX2, TX2, 10), (RX3, TX3, 3), (RX4, TX4, 14), (RX5, TX5, 7), (RX6, TX6, 3), (RX7, TX7, 11), (RX8, TX8, 1), (RX9, TX9, 7), (RX10, TX10, 11), (RX11, TX11, 57)]
def jNl : List Nat := [11, 5, 10, 3, 14, 7, 3, 11, 1, 7, 11, 57]
def jN (c : Nat) : Nat := jNl.getD c 0
/-- kinds of fields: 0 int, 1 a reference, 2 boolean -/
def jks : List (List Nat) := [[1,1,1,0,0,1,1,1,0,0,0], [1,1,1,1,0], [1,1,1,1,1,2,1,1,0,0], [1,1,0], [0,0,0,0,0,0,0,0,1,1,1,1,1,1], [1,1,1,0,0,0,0], [1,1,0], [1,1,0,1,0,0,0,0,0,2,2], [1], [1,0,0,0,0,0,0], [1,1,1,1,0,1,1,1,1,1,1], [0,1,1,1,1,1,1,1,1,1,1,1,1,1,1,1,1,1,1,0,0,0,0,0,0,0,0,0,0,1,1,1,1,1,1,1,1,1,1,1,0,0,1,1,0,0,2,1,1,1,1,1,1,1,1,0,2]]
def jk (c k : Nat) : Nat := (jks.getD c []).getD k 0
def jfs (c : Nat) (I : Nat → Int32) (R : Nat → Option Nat) : List Value := (List.range (jN c)).map (fun k => if jk c k = 1 then va_rf (R k) else .int (I k))
/-- tags: 1 to 12 objects of the classes 0 to 11; 20 int[], 21 byte[], 22 boolean[], 23 long[], 24 Hall[], 25 Rule[], 26 Book[], 27 int[][] -/
def jcell (cid : Nat → ClassId) (t n : Nat) (I : Nat → Int32) (L : Nat → Int64) (R : Nat → Option Nat) : va_E :=
  if t < 20 then .inr (t - 1, jfs (t - 1) I R)
  else if t < 23 then .inl (cid (t - 20), n, .inl I)
  else if t = 23 then .inl (cid 3, n, .inr (.inl L))
  else .inl (cid (t - 20), n, .inr (.inr (.inr (.inr R))))
def jall (μ : jMem) : List jId := μ.1.2.2.2.2.2.map .inl ++ μ.2.2.2.2.2.2.map (fun b => .inr (.inl b))
def jce (adK : Nat → Nat) (cid : Nat → ClassId) (μ : jMem) (x : jId) : va_E := jcell cid (gT μ x) (gN μ x) (gI μ x) (gL μ x) (fun j => (gR μ x j).map (gA adK μ))
def jws (adK : Nat → Nat) (cid : Nat → ClassId) (μ : jMem) : va_W := (jall μ).map (fun x => (gA adK μ x, jce adK cid μ x))
def jWF (μ : jMem) : Prop := (∀ x, x ∈ jall μ ↔ gT μ x ≠ 0) ∧ (jall μ).Nodup ∧ ∀ x i r, gT μ x ≠ 0 → gR μ x i = some r → gT μ r ≠ 0
def jtys (cid : Nat → ClassId) : List (ClassId × FieldType) := [(cid 0, .int), (cid 1, .byte), (cid 2, .boolean), (cid 3, .long), (cid 4, .object RX4), (cid 5, .object RX6), (cid 6, .object RX0), (cid 7, .array .int)]
def jcv (adK : Nat → Nat) (μ : jMem) (v : jV) : Value := match v with
  | .inl x => .int x
  | .inr (.inl x) => .long x
  | .inr (.inr none) => .null
  | .inr (.inr (some x)) => .ref (gA adK μ x)
theorem nodup_set {α β : Type} [DecidableEq α] (f g : α → β) : ∀ (l : List α) (q : Nat) (x : α), l.Nodup → l[q]? = some x → (∀ y, y ≠ x → g y = f y) → (l.map f).set q (g x) = l.map g
  | [], q, x, _, h, _ => by simp at h
  | y :: l, 0, x, hn, h, hg => by
    have e : y = x := by simpa using h
    subst e
    show g y :: l.map f = g y :: l.map g
    congr 1
    apply List.map_congr_left
    intro z hz
    exact (hg z (fun q => (List.nodup_cons.mp hn).1 (q ▸ hz))).symm
  | y :: l, q + 1, x, hn, h, hg => by
    have hx : l[q]? = some x := by simpa using h
    show f y :: (l.map f).set q (g x) = g y :: l.map g
    rw [nodup_set f g l q x (List.nodup_cons.mp hn).2 hx hg, hg y (fun e => (List.nodup_cons.mp hn).1 (e ▸ List.mem_of_getElem? hx))]
theorem jws_at {adK : Nat → Nat} {cid : Nat → ClassId} {μ : jMem} {x : jId} (h : jWF μ) (ht : gT μ x ≠ 0) : ∃ q : Nat, (jall μ)[q]? = some x ∧ (jws adK cid μ)[q]? = some (gA adK μ x, jce adK cid μ x) := by
  obtain ⟨q, hq⟩ := List.getElem?_of_mem ((h.1 x).mpr ht)
  exact ⟨q, hq, by unfold jws; rw [List.getElem?_map, hq]; rfl⟩
/-- a memory of the same ids at the same places, whose cells but one are the same -/
theorem jws_set {adK : Nat → Nat} {cid : Nat → ClassId} {μ μ1 : jMem} {x : jId} {q : Nat} (h : jWF μ) (hq : (jall μ)[q]? = some x) (ha : jall μ1 = jall μ) (hA : gA adK μ1 = gA adK μ) (hc : ∀ y, y ≠ x → jce adK cid μ1 y = jce adK cid μ y) : (jws adK cid μ).set q (gA adK μ x, jce adK cid μ1 x) = jws adK cid μ1 := by
  unfold jws
  rw [ha, hA]
  exact nodup_set (fun y => (gA adK μ y, jce adK cid μ y)) (fun y => (gA adK μ y, jce adK cid μ1 y)) (jall μ) q x h.2.1 hq (fun y hy => by rw [hc y hy])
theorem sF_T (μ : jMem) (x : jId) (f : Nat → Int32) : gT (sF μ x f) = gT μ := by rcases x with a | a | a <;> rfl
theorem sF_N (μ : jMem) (x : jId) (f : Nat → Int32) : gN (sF μ x f) = gN μ := by rcases x with a | a | a <;> rfl
theorem sF_R (μ : jMem) (x : jId) (f : Nat → Int32) : gR (sF μ x f) = gR μ := by rcases x with a | a | a <;> rfl
theorem sF_L (μ : jMem) (x : jId) (f : Nat → Int32) : gL (sF μ x f) = gL μ := by rcases x with a | a | a <;> rfl
theorem sF_A (adK : Nat → Nat) (μ : jMem) (x : jId) (f : Nat → Int32) : gA adK (sF μ x f) = gA adK μ := by rcases x with a | a | a <;> rfl
theorem sF_all (μ : jMem) (x : jId) (f : Nat → Int32) : jall (sF μ x f) = jall μ := by rcases x with a | a | a <;> rfl
theorem sF_I (μ : jMem) (x : jId) (f : Nat → Int32) (hx : gT μ x ≠ 0) : gI (sF μ x f) x = f ∧ ∀ y, y ≠ x → gI (sF μ x f) y = gI μ y := by
  rcases x with a | a | a
  · refine ⟨?_, fun y hy => ?_⟩
    · show jst μ.1.1.1 a f a = f
      unfold jst; rw [if_pos rfl]
    · rcases y with b | b | b
      · show jst μ.1.1.1 a f b = μ.1.1.1 b
        unfold jst; rw [if_neg (fun e => hy (by rw [e]))]
      · rfl
      · rfl
  · refine ⟨?_, fun y hy => ?_⟩
    · show jst μ.2.1.1 a f a = f
      unfold jst; rw [if_pos rfl]
    · rcases y with b | b | b
      · rfl
      · show jst μ.2.1.1 a f b = μ.2.1.1 b
        unfold jst; rw [if_neg (fun e => hy (by rw [e]))]
      · rfl
  · exact absurd rfl hx
theorem sFL_T (μ : jMem) (x : jId) (f : Nat → Int64) : gT (sFL μ x f) = gT μ := by rcases x with a | a | a <;> rfl
theorem sFL_N (μ : jMem) (x : jId) (f : Nat → Int64) : gN (sFL μ x f) = gN μ := by rcases x with a | a | a <;> rfl
theorem sFL_R (μ : jMem) (x : jId) (f : Nat → Int64) : gR (sFL μ x f) = gR μ := by rcases x with a | a | a <;> rfl
theorem sFL_I (μ : jMem) (x : jId) (f : Nat → Int64) : gI (sFL μ x f) = gI μ := by rcases x with a | a | a <;> rfl
theorem sFL_A (adK : Nat → Nat) (μ : jMem) (x : jId) (f : Nat → Int64) : gA adK (sFL μ x f) = gA adK μ := by rcases x with a | a | a <;> rfl
theorem sFL_all (μ : jMem) (x : jId) (f : Nat → Int64) : jall (sFL μ x f) = jall μ := by rcases x with a | a | a <;> rfl
theorem sFL_L (μ : jMem) (x : jId) (f : Nat → Int64) (hx : gT μ x ≠ 0) : gL (sFL μ x f) x = f ∧ ∀ y, y ≠ x → gL (sFL μ x f) y = gL μ y := by
  rcases x with a | a | a
  · refine ⟨?_, fun y hy => ?_⟩
    · show jst μ.1.1.2 a f a = f
      unfold jst; rw [if_pos rfl]
    · rcases y with b | b | b
      · show jst μ.1.1.2 a f b = μ.1.1.2 b
        unfold jst; rw [if_neg (fun e => hy (by rw [e]))]
      · rfl
      · rfl
  · refine ⟨?_, fun y hy => ?_⟩
    · show jst μ.2.1.2 a f a = f
      unfold jst; rw [if_pos rfl]
    · rcases y with b | b | b
      · rfl
      · show jst μ.2.1.2 a f b = μ.2.1.2 b
        unfold jst; rw [if_neg (fun e => hy (by rw [e]))]
      · rfl
  · exact absurd rfl hx
theorem sFR_T (μ : jMem) (x : jId) (i : Nat) (r : Option Nat) : gT (sFR μ x i r) = gT μ := by rcases x with a | a | a <;> rfl
theorem sFR_N (μ : jMem) (x : jId) (i : Nat) (r : Option Nat) : gN (sFR μ x i r) = gN μ := by rcases x with a | a | a <;> rfl
theorem sFR_I (μ : jMem) (x : jId) (i : Nat) (r : Option Nat) : gI (sFR μ x i r) = gI μ := by rcases x with a | a | a <;> rfl
theorem sFR_L (μ : jMem) (x : jId) (i : Nat) (r : Option Nat) : gL (sFR μ x i r) = gL μ := by rcases x with a | a | a <;> rfl
theorem sFR_A (adK : Nat → Nat) (μ : jMem) (x : jId) (i : Nat) (r : Option Nat) : gA adK (sFR μ x i r) = gA adK μ := by rcases x with a | a | a <;> rfl
theorem sFR_all (μ : jMem) (x : jId) (i : Nat) (r : Option Nat) : jall (sFR μ x i r) = jall μ := by rcases x with a | a | a <;> rfl
theorem jmap_up {α : Type} (g : Nat → α) (f : Nat → Option Nat) (i : Nat) (r : Option Nat) (j : Nat) : (va_up f i r j).map g = if j = i then r.map g else (f j).map g := by
  unfold va_up
  by_cases h : j = i
  · rw [if_pos h, if_pos h]
  · rw [if_neg h, if_neg h]
/-- r is the reference z (or null), on the side of x -/
def jside (x : jId) (r : Option jId) (b : Option Nat) : Prop := match r with
  | none => b = none
  | some y => jsame x y = b ∧ b ≠ none
theorem sFR_R (μ : jMem) (x : jId) (i : Nat) (r : Option jId) (b : Option Nat) (hx : gT μ x ≠ 0) (hr : jside x r b) : gR (sFR μ x i b) x = va_up (gR μ x) i r ∧ ∀ y, y ≠ x → gR (sFR μ x i b) y = gR μ y := by
  rcases x with a | a | a
  · have e : b.map (Sum.inl : Nat → jId) = r := by
      rcases r with _ | (z | z | z)
      · rw [show b = none from hr]; rfl
      · rw [← (hr : jsame (.inl a) (.inl z) = b ∧ _).1]; rfl
      · exact absurd (hr.1.symm : b = none) hr.2
      · exact absurd (hr.1.symm : b = none) hr.2
    refine ⟨?_, fun y hy => ?_⟩
    · funext j
      show (jst μ.1.2.1 a (va_up (μ.1.2.1 a) i b) a j).map Sum.inl = _
      unfold jst; rw [if_pos rfl, jmap_up, e]; rfl
    · rcases y with c | c | c
      · funext j
        show (jst μ.1.2.1 a (va_up (μ.1.2.1 a) i b) c j).map Sum.inl = (μ.1.2.1 c j).map Sum.inl
        unfold jst; rw [if_neg (fun e => hy (by rw [e]))]
      · rfl
      · rfl
  · have e : b.map (fun b => (Sum.inr (Sum.inl b) : jId)) = r := by
      rcases r with _ | (z | z | z)
      · rw [show b = none from hr]; rfl
      · exact absurd (hr.1.symm : b = none) hr.2
      · rw [← (hr : jsame (.inr (.inl a)) (.inr (.inl z)) = b ∧ _).1]; rfl
      · exact absurd (hr.1.symm : b = none) hr.2
    refine ⟨?_, fun y hy => ?_⟩
    · funext j
      show (jst μ.2.2.1 a (va_up (μ.2.2.1 a) i b) a j).map _ = _
      unfold jst; rw [if_pos rfl, jmap_up, e]; rfl
    · rcases y with c | c | c
      · rfl
      · funext j
        show (jst μ.2.2.1 a (va_up (μ.2.2.1 a) i b) c j).map _ = (μ.2.2.1 c j).map _
        unfold jst; rw [if_neg (fun e => hy (by rw [e]))]
      · rfl
  · exact absurd rfl hx
theorem jWF_sF {μ : jMem} {x : jId} {f : Nat → Int32} (h : jWF μ) : jWF (sF μ x f) := by
  unfold jWF; rw [sF_T, sF_all, sF_R]; exact h
theorem jWF_sFL {μ : jMem} {x : jId} {f : Nat → Int64} (h : jWF μ) : jWF (sFL μ x f) := by
  unfold jWF; rw [sFL_T, sFL_all, sFL_R]; exact h
theorem jWF_sFR {μ : jMem} {x : jId} {i : Nat} {r : Option jId} {b : Option Nat} (h : jWF μ) (hx : gT μ x ≠ 0) (hr : jside x r b) (ho : ∀ y, r = some y → gT μ y ≠ 0) : jWF (sFR μ x i b) := by
  unfold jWF; rw [sFR_T, sFR_all]
  refine ⟨h.1, h.2.1, fun y j z hy hz => ?_⟩
  by_cases e : y = x
  · subst e
    rw [(sFR_R μ y i r b hx hr).1] at hz
    unfold va_up at hz
    by_cases e2 : j = i
    · rw [if_pos e2] at hz; exact ho z hz
    · rw [if_neg e2] at hz; exact h.2.2 y j z hy hz
  · rw [(sFR_R μ x i r b hx hr).2 y e] at hz
    exact h.2.2 y j z hy hz
/-- the cells of an object: reading and writing a field -/
theorem jfs_get {c k : Nat} (hk : k < jN c) (I : Nat → Int32) (R : Nat → Option Nat) : (jfs c I R)[k]? = some (if jk c k = 1 then va_rf (R k) else .int (I k)) := by
  unfold jfs
  rw [List.getElem?_map, List.getElem?_range hk]; rfl
theorem jfs_len (c : Nat) (I : Nat → Int32) (R : Nat → Option Nat) : (jfs c I R).length = jN c := by unfold jfs; simp
theorem jfs_setI {c k : Nat} (hk : k < jN c) (h1 : jk c k ≠ 1) (I : Nat → Int32) (R : Nat → Option Nat) (x : Int32) : (jfs c I R).set k (.int x) = jfs c (upd I k x) R := by
  unfold jfs
  have h := nodup_set (fun k => if jk c k = 1 then va_rf (R k) else Value.int (I k)) (fun j => if jk c j = 1 then va_rf (R j) else Value.int (upd I k x j)) (List.range (jN c)) k k List.nodup_range (List.getElem?_range hk) (fun y hy => by
    show (if jk c y = 1 then va_rf (R y) else Value.int (upd I k x y)) = _
    unfold upd; rw [if_neg hy])
  rw [← h]
  show _ = (List.map _ _).set k (if jk c k = 1 then va_rf (R k) else .int (upd I k x k))
  rw [if_neg h1]; unfold upd; rw [if_pos rfl]
theorem jfs_setR {c k : Nat} (hk : k < jN c) (h1 : jk c k = 1) (I : Nat → Int32) (R : Nat → Option Nat) (x : Option Nat) : (jfs c I R).set k (va_rf x) = jfs c I (va_up R k x) := by
  unfold jfs
  have h := nodup_set (fun k => if jk c k = 1 then va_rf (R k) else Value.int (I k)) (fun j => if jk c j = 1 then va_rf (va_up R k x j) else Value.int (I j)) (List.range (jN c)) k k List.nodup_range (List.getElem?_range hk) (fun y hy => by
    show (if jk c y = 1 then va_rf (va_up R k x y) else Value.int (I y)) = _
    unfold va_up; rw [if_neg hy])
  rw [← h]
  show _ = (List.map _ _).set k (if jk c k = 1 then va_rf (va_up R k x k) else .int (I k))
  rw [if_pos h1]; unfold va_up; rw [if_pos rfl]
