/-- new int[8][64]: the outer array's id 81, the rows' ids 82 to 89 -/
def pM (P : jS × jT) (q : Nat) (r : Nat → Nat) : jS × jT := ((fun a => if 81 ≤ a ∧ a ≤ 89 then (fun _ => 0) else P.1.1 a, fun a => if 81 ≤ a ∧ a ≤ 89 then (fun _ => 0) else P.1.2 a), (fun a => if a = 81 then (fun i => if i < 8 then some (82 + i) else none) else if 82 ≤ a ∧ a ≤ 89 then (fun _ => none) else P.2.1 a, fun a => if a = 81 then 27 else if 82 ≤ a ∧ a ≤ 89 then 20 else P.2.2.1 a, fun a => if a = 81 then 8 else if 82 ≤ a ∧ a ≤ 89 then 64 else P.2.2.2.1 a, fun a => if a = 81 then q else if 82 ≤ a ∧ a ≤ 89 then r (a - 82) else P.2.2.2.2.1 a, P.2.2.2.2.2 ++ [81, 82, 83, 84, 85, 86, 87, 88, 89]))
theorem pM_old {P Y : jS × jT} {q : Nat} {r : Nat → Nat} (adK : Nat → Nat) {y : jId} (hy : ∀ a, y = .inl a → ¬ (81 ≤ a ∧ a ≤ 89)) : gT (pM P q r, Y) y = gT (P, Y) y ∧ gN (pM P q r, Y) y = gN (P, Y) y ∧ gA adK (pM P q r, Y) y = gA adK (P, Y) y ∧ gI (pM P q r, Y) y = gI (P, Y) y ∧ gL (pM P q r, Y) y = gL (P, Y) y ∧ gR (pM P q r, Y) y = gR (P, Y) y := by
  rcases y with a | a | a
  · have h := hy a rfl
    refine ⟨?_, ?_, ?_, ?_, ?_, ?_⟩
    · show (if a = 81 then 27 else if 82 ≤ a ∧ a ≤ 89 then 20 else P.2.2.1 a) = P.2.2.1 a
      rw [if_neg (by omega), if_neg (by omega)]
    · show (if a = 81 then 8 else if 82 ≤ a ∧ a ≤ 89 then 64 else P.2.2.2.1 a) = P.2.2.2.1 a
      rw [if_neg (by omega), if_neg (by omega)]
    · show (if a = 81 then q else if 82 ≤ a ∧ a ≤ 89 then r (a - 82) else P.2.2.2.2.1 a) = P.2.2.2.2.1 a
      rw [if_neg (by omega), if_neg (by omega)]
    · show (if 81 ≤ a ∧ a ≤ 89 then (fun _ => 0) else P.1.1 a) = P.1.1 a
      rw [if_neg h]
    · show (if 81 ≤ a ∧ a ≤ 89 then (fun _ => 0) else P.1.2 a) = P.1.2 a
      rw [if_neg h]
    · funext i
      show ((if a = 81 then (fun i => if i < 8 then some (82 + i) else none) else if 82 ≤ a ∧ a ≤ 89 then (fun _ => none) else P.2.1 a) i).map Sum.inl = (P.2.1 a i).map Sum.inl
      rw [if_neg (by omega), if_neg (by omega)]
  · exact ⟨rfl, rfl, rfl, rfl, rfl, rfl⟩
  · exact ⟨rfl, rfl, rfl, rfl, rfl, rfl⟩
theorem pM_row {P Y : jS × jT} {q : Nat} {r : Nat → Nat} (adK : Nat → Nat) {k : Nat} (hk : k < 8) : gT (pM P q r, Y) (.inl (82 + k)) = 20 ∧ gN (pM P q r, Y) (.inl (82 + k)) = 64 ∧ gA adK (pM P q r, Y) (.inl (82 + k)) = r k ∧ gI (pM P q r, Y) (.inl (82 + k)) = (fun _ => 0) ∧ gL (pM P q r, Y) (.inl (82 + k)) = (fun _ => 0) ∧ gR (pM P q r, Y) (.inl (82 + k)) = (fun _ => none) := by
  refine ⟨?_, ?_, ?_, ?_, ?_, ?_⟩
  · show (if 82 + k = 81 then 27 else if 82 ≤ 82 + k ∧ 82 + k ≤ 89 then 20 else P.2.2.1 (82 + k)) = 20
    rw [if_neg (by omega), if_pos (by omega)]
  · show (if 82 + k = 81 then 8 else if 82 ≤ 82 + k ∧ 82 + k ≤ 89 then 64 else P.2.2.2.1 (82 + k)) = 64
    rw [if_neg (by omega), if_pos (by omega)]
  · show (if 82 + k = 81 then q else if 82 ≤ 82 + k ∧ 82 + k ≤ 89 then r (82 + k - 82) else P.2.2.2.2.1 (82 + k)) = r k
    rw [if_neg (by omega), if_pos (by omega), Nat.add_sub_cancel_left]
  · show (if 81 ≤ 82 + k ∧ 82 + k ≤ 89 then (fun _ => 0) else P.1.1 (82 + k)) = (fun _ => 0)
    rw [if_pos (by omega)]
  · show (if 81 ≤ 82 + k ∧ 82 + k ≤ 89 then (fun _ => 0) else P.1.2 (82 + k)) = (fun _ => 0)
    rw [if_pos (by omega)]
  · funext i
    show ((if 82 + k = 81 then (fun i => if i < 8 then some (82 + i) else none) else if 82 ≤ 82 + k ∧ 82 + k ≤ 89 then (fun _ => none) else P.2.1 (82 + k)) i).map Sum.inl = none
    rw [if_neg (by omega), if_pos (by omega)]; rfl
theorem pM_mem {P Y : jS × jT} {q : Nat} {r : Nat → Nat} {y : jId} : y ∈ jall (pM P q r, Y) ↔ y ∈ jall (P, Y) ∨ y = .inl 81 ∨ ∃ k, k < 8 ∧ y = .inl (82 + k) := by
  unfold jall
  show y ∈ (P.2.2.2.2.2 ++ [81, 82, 83, 84, 85, 86, 87, 88, 89]).map Sum.inl ++ _ ↔ _
  rw [List.map_append]
  simp only [List.mem_append]
  have e : y ∈ ([81, 82, 83, 84, 85, 86, 87, 88, 89] : List Nat).map (Sum.inl : Nat → jId) ↔ (y = .inl 81 ∨ ∃ k, k < 8 ∧ y = .inl (82 + k)) := by
    constructor
    · intro h
      obtain ⟨a, ha, rfl⟩ := List.mem_map.mp h
      by_cases z : a = 81
      · exact Or.inl (by rw [z])
      · refine Or.inr ⟨a - 82, ?_, ?_⟩
        · simp at ha; omega
        · simp at ha; congr 1; omega
    · rintro (rfl | ⟨k, hk, rfl⟩)
      · exact List.mem_map.mpr ⟨81, by simp, rfl⟩
      · exact List.mem_map.mpr ⟨82 + k, by simp; omega, rfl⟩
  rw [e]
  constructor
  · rintro ((h | h) | h)
    · exact Or.inl (Or.inl h)
    · exact Or.inr h
    · exact Or.inl (Or.inr h)
  · rintro ((h | h) | h)
    · exact Or.inl (Or.inl h)
    · exact Or.inr h
    · exact Or.inl (Or.inr h)
theorem pM_out {P Y : jS × jT} (h0 : ∀ a, 81 ≤ a → a ≤ 89 → P.2.2.1 a = 0) {y : jId} (hT : gT (P, Y) y ≠ 0) : ∀ a, y = .inl a → ¬ (81 ≤ a ∧ a ≤ 89) := by
  intro a e h
  subst e
  exact hT (h0 a h.1 h.2)
theorem pM_WF {P Y : jS × jT} {q : Nat} {r : Nat → Nat} (h : jWF (P, Y)) (h0 : ∀ a, 81 ≤ a → a ≤ 89 → P.2.2.1 a = 0) : jWF (pM P q r, Y) := by
  have hn : ∀ a, 81 ≤ a → a ≤ 89 → (Sum.inl a : jId) ∉ jall (P, Y) := fun a h1 h2 e => (h.1 _).mp e (h0 a h1 h2)
  refine ⟨fun y => ?_, ?_, fun y i b hy hb => ?_⟩
  · rw [pM_mem]
    by_cases z : ∃ a, y = .inl a ∧ 81 ≤ a ∧ a ≤ 89
    · obtain ⟨a, rfl, z1, z2⟩ := z
      constructor
      · intro _
        by_cases w : a = 81
        · subst w; show (27 : Nat) ≠ 0; decide
        · have := (pM_row (P := P) (Y := Y) (q := q) (r := r) (fun _ => 0) (k := a - 82) (by omega)).1
          rw [show 82 + (a - 82) = a by omega] at this
          rw [this]; decide
      · intro _
        by_cases w : a = 81
        · exact Or.inr (Or.inl (by rw [w]))
        · exact Or.inr (Or.inr ⟨a - 82, by omega, by congr 1; omega⟩)
    · have z' : ∀ a, y = .inl a → ¬ (81 ≤ a ∧ a ≤ 89) := fun a e w => z ⟨a, e, w⟩
      rw [(pM_old (fun _ => 0) z').1]
      constructor
      · rintro (e | e | ⟨k, hk, e⟩)
        · exact (h.1 y).mp e
        · exact absurd ⟨by omega, by omega⟩ (z' 81 e)
        · exact absurd ⟨by omega, by omega⟩ (z' _ e)
      · intro e; exact Or.inl ((h.1 y).mpr e)
  · unfold jall
    show ((P.2.2.2.2.2 ++ [81, 82, 83, 84, 85, 86, 87, 88, 89]).map Sum.inl ++ _).Nodup
    have hnd := h.2.1
    unfold jall at hnd hn
    rw [List.map_append, List.append_assoc]
    rw [List.nodup_append] at hnd ⊢
    obtain ⟨g1, g2, g3⟩ := hnd
    refine ⟨g1, ?_, ?_⟩
    · rw [List.nodup_append]
      refine ⟨by decide, g2, ?_⟩
      intro u hu w hw e
      obtain ⟨b, _, rfl⟩ := List.mem_map.mp hw
      obtain ⟨c, _, rfl⟩ := List.mem_map.mp hu
      cases e
    · intro u hu w hw e
      subst e
      rw [List.mem_append] at hw
      rcases hw with hw | hw
      · obtain ⟨c, hc, rfl⟩ := List.mem_map.mp hw
        simp at hc
        exact hn c (by omega) (by omega) (List.mem_append_left _ hu)
      · exact g3 u hu u hw rfl
  · by_cases z : ∃ a, y = .inl a ∧ 81 ≤ a ∧ a ≤ 89
    · obtain ⟨a, rfl, z1, z2⟩ := z
      by_cases w : a = 81
      · subst w
        have hb2 : (if i < 8 then some (82 + i) else none).map (Sum.inl : Nat → jId) = some b := hb
        by_cases hi : i < 8
        · rw [if_pos hi] at hb2
          cases hb2
          rw [(pM_row (fun _ => 0) hi).1]; decide
        · rw [if_neg hi] at hb2; cases hb2
      · have := (pM_row (P := P) (Y := Y) (q := q) (r := r) (fun _ => 0) (k := a - 82) (by omega)).2.2.2.2.2
        rw [show 82 + (a - 82) = a by omega] at this
        rw [this] at hb; cases hb
    · have z' : ∀ a, y = .inl a → ¬ (81 ≤ a ∧ a ≤ 89) := fun a e w => z ⟨a, e, w⟩
      have e1 := pM_old (P := P) (Y := Y) (q := q) (r := r) (fun _ => 0) z'
      rw [e1.1] at hy
      rw [e1.2.2.2.2.2] at hb
      have hz := h.2.2 y i b hy hb
      rw [(pM_old (fun _ => 0) (pM_out h0 hz)).1]
      exact hz
theorem pM_ce {adK : Nat → Nat} {cid : Nat → ClassId} {P Y : jS × jT} {q : Nat} {r : Nat → Nat} (h : jWF (P, Y)) (h0 : ∀ a, 81 ≤ a → a ≤ 89 → P.2.2.1 a = 0) {y : jId} (hy : y ∈ jall (P, Y)) : gA adK (pM P q r, Y) y = gA adK (P, Y) y ∧ jce adK cid (pM P q r, Y) y = jce adK cid (P, Y) y := by
  have hyT := (h.1 y).mp hy
  obtain ⟨a1, a2, a3, a4, a5, a6⟩ := pM_old (P := P) (Y := Y) (q := q) (r := r) adK (pM_out h0 hyT)
  refine ⟨a3, ?_⟩
  unfold jce
  rw [a1, a2, a4, a5, a6]
  congr 1
  funext j
  cases hr : gR (P, Y) y j with
  | none => rfl
  | some b =>
    have hz := h.2.2 y j b hyT hr
    show some (gA adK (pM P q r, Y) b) = some (gA adK (P, Y) b)
    rw [(pM_old adK (pM_out h0 hz)).2.2.1]
/-- the world behind it, by what va_mna says -/
theorem pM_ws {adK : Nat → Nat} {cid : Nat → ClassId} {P Y : jS × jT} {q : Nat} {r : Nat → Nat} {D : va_G} {A : Nat → Prop} {H : Heap} (h : jWF (P, Y)) (h0 : ∀ a, 81 ≤ a → a ≤ 89 → P.2.2.1 a = 0) {W : va_W}
    (hW1 : W = (jws adK cid (P, Y) ++ [(q, .inl (cid 7, 8, .inr (.inr (.inr (.inr (fun i => if i < 8 then some (r i) else none))))))]) ++ (List.range 8).map (fun i => (r i, (.inl (cid 0, 64, .inl (fun _ => 0)) : va_E))))
    (hP : va_P D jcl W H) (hD : va_D A W) : va_P D jcl (jws adK cid (pM P q r, Y)) H ∧ va_D A (jws adK cid (pM P q r, Y)) := by
  have hout : (gA adK (pM P q r, Y) (.inl 81), jce adK cid (pM P q r, Y) (.inl 81)) = (q, .inl (cid 7, 8, .inr (.inr (.inr (.inr (fun i => if i < 8 then some (r i) else none)))))) := by
    show (q, jcell cid 27 8 _ _ (fun j => ((if j < 8 then some (82 + j) else none).map (Sum.inl : Nat → jId)).map (gA adK (pM P q r, Y)))) = _
    congr 1
    unfold jcell
    rw [if_neg (by decide), if_neg (by decide), if_neg (by decide)]
    congr 7
    funext j
    by_cases hj : j < 8
    · rw [if_pos hj, if_pos hj]
      show some (gA adK (pM P q r, Y) (.inl (82 + j))) = _
      rw [(pM_row adK hj).2.2.1]
    · rw [if_neg hj, if_neg hj]; rfl
  have hrow : ∀ k, k < 8 → (gA adK (pM P q r, Y) (.inl (82 + k)), jce adK cid (pM P q r, Y) (.inl (82 + k))) = (r k, .inl (cid 0, 64, .inl (fun _ => 0))) := by
    intro k hk
    obtain ⟨a1, a2, a3, a4, a5, a6⟩ := pM_row (P := P) (Y := Y) (q := q) (r := r) adK hk
    unfold jce
    rw [a1, a2, a3, a4, a5, a6]; rfl
  have hl : (jws adK cid (P, Y)).length = (jall (P, Y)).length := by unfold jws; rw [List.length_map]
  -- each id's place in W
  have hpos : ∀ y, y ∈ jall (pM P q r, Y) → ∃ k, W[k]? = some (gA adK (pM P q r, Y) y, jce adK cid (pM P q r, Y) y) ∧ ((jall (P, Y))[k]? = some y ∨ (k = (jall (P, Y)).length ∧ y = .inl 81) ∨ ∃ j, j < 8 ∧ k = (jall (P, Y)).length + 1 + j ∧ y = .inl (82 + j)) := by
    intro y hy
    rw [pM_mem] at hy
    rcases hy with hy | rfl | ⟨j, hj, rfl⟩
    · obtain ⟨k, hk⟩ := List.getElem?_of_mem hy
      have hk2 : k < (jall (P, Y)).length := (List.getElem?_eq_some_iff.mp hk).1
      refine ⟨k, ?_, Or.inl hk⟩
      obtain ⟨e1, e2⟩ := pM_ce (adK := adK) (cid := cid) (q := q) (r := r) h h0 hy
      rw [hW1, List.getElem?_append_left (by rw [List.length_append, hl]; simp; omega), List.getElem?_append_left (by rw [hl]; exact hk2), e1, e2]
      unfold jws
      rw [List.getElem?_map, hk]; rfl
    · refine ⟨(jall (P, Y)).length, ?_, Or.inr (Or.inl ⟨rfl, rfl⟩)⟩
      rw [hW1, List.getElem?_append_left (by rw [List.length_append, hl]; simp), List.getElem?_append_right (by rw [hl]; exact Nat.le_refl _), hl, Nat.sub_self, hout]; rfl
    · refine ⟨(jall (P, Y)).length + 1 + j, ?_, Or.inr (Or.inr ⟨j, hj, rfl, rfl⟩)⟩
      rw [hW1, List.getElem?_append_right (by rw [List.length_append, hl]; simp), List.length_append, hl, hrow j hj]
      rw [show (jall (P, Y)).length + 1 + j - ((jall (P, Y)).length + [((q, .inl (cid 7, 8, .inr (.inr (.inr (.inr (fun i => if i < 8 then some (r i) else none)))))) : Nat × va_E)].length) = j by simp]
      rw [List.getElem?_map, List.getElem?_range hj]; rfl
  have hnd := (pM_WF (q := q) (r := r) h h0).2.1
  refine ⟨fun k z hz => ?_, fun i j z w hz hw e => ?_, fun k z hz => ?_⟩
  · unfold jws at hz
    rw [List.getElem?_map] at hz
    obtain ⟨y, hy, rfl⟩ := Option.map_eq_some_iff.mp hz
    obtain ⟨k2, hk2, -⟩ := hpos y (List.mem_of_getElem? hy)
    exact hP k2 _ hk2
  · unfold jws at hz hw
    rw [List.getElem?_map] at hz hw
    obtain ⟨y, hy, rfl⟩ := Option.map_eq_some_iff.mp hz
    obtain ⟨u, hu, rfl⟩ := Option.map_eq_some_iff.mp hw
    obtain ⟨k1, hk1, c1⟩ := hpos y (List.mem_of_getElem? hy)
    obtain ⟨k2, hk2, c2⟩ := hpos u (List.mem_of_getElem? hu)
    have ek := hD.1 k1 k2 _ _ hk1 hk2 e
    subst ek
    have eu : y = u := by
      rcases c1 with c1 | ⟨c1, d1⟩ | ⟨j1, l1, c1, d1⟩ <;> rcases c2 with c2 | ⟨c2, d2⟩ | ⟨j2, l2, c2, d2⟩
      · exact Option.some.inj (c1.symm.trans c2)
      · have := (List.getElem?_eq_some_iff.mp c1).1; omega
      · have := (List.getElem?_eq_some_iff.mp c1).1; omega
      · have := (List.getElem?_eq_some_iff.mp c2).1; omega
      · rw [d1, d2]
      · omega
      · have := (List.getElem?_eq_some_iff.mp c2).1; omega
      · omega
      · rw [d1, d2, show j1 = j2 by omega]
    subst eu
    exact (List.getElem?_inj (List.getElem?_eq_some_iff.mp hy).1 hnd).mp (hy.trans hu.symm)
  · unfold jws at hz
    rw [List.getElem?_map] at hz
    obtain ⟨y, hy, rfl⟩ := Option.map_eq_some_iff.mp hz
    obtain ⟨k2, hk2, -⟩ := hpos y (List.mem_of_getElem? hy)
    exact hD.2 k2 _ hk2
section MNA
variable {M : jM} {d mc ms kc ks pc : Nat} {L : List (Nat × jV)} {st : List jV} {Q : Option jV → jMem → Prop}
/-- v is no reference to one of these -/
def jnm (v : jV) : Bool := match v with
  | .inr (.inr (some (.inl a))) => !(decide (81 ≤ a ∧ a ≤ 89))
  | _ => true
theorem jnm_cv {adK : Nat → Nat} {P Y : jS × jT} {q : Nat} {r : Nat → Nat} {v : jV} (h : jnm v = true) : jcv adK (pM P q r, Y) v = jcv adK (P, Y) v := by
  rcases v with y | y | (_ | y)
  · rfl
  · rfl
  · rfl
  · show Value.ref _ = Value.ref _
    rw [(pM_old adK (y := y) (fun a e z => by subst e; unfold jnm at h; simp [z] at h)).2.2.1]
theorem go_mna {idx kc' ks' : Nat} {P Y : jS × jT} (hd : decode M.2.2.1 pc = .ok (.multianewarray idx 2, 4)) (hcl : Cond.classLink (jcn M.1) idx "[[I" ∈ lw_tbl) (hac : Cond.arrayClass .int ∈ lw_tbl) (hc0 : M.2.1.cls = jcn M.1) (h0 : ∀ a, 81 ≤ a → a ≤ 89 → P.2.2.1 a = 0) (hnst : st.all jnm = true) (hnL : L.all (fun q => jnm q.2) = true) (hkc : kc' + 9 = kc) (hks : ks' + 520 = ks)
    (k : ∀ (q : Nat) (r : Nat → Nat), Go M d mc ms kc' ks' (pc + 4) L (rc 81 :: st) (pM P q r, Y) Q) : Go M d mc ms kc ks pc L (vi 64 :: vi 8 :: st) (P, Y) Q := by
  intro p l e s m args below meth c H locs cells slots ls D cid adK adV base hC hW hS hl h1 h2
  obtain ⟨hx0, hb, hml, hr, hts, hown, hlocks, hmn, hbs, hK, hO⟩ := id hC
  rw [hc0] at hown
  have hcy : s.vm.findClass (FieldType.array .int).toString = some (cid 0) := (hK.2 0 (cid 0, .int) rfl).2
  refine va_mna (X := jws adK cid (P, Y)) (L := []) (f := fun _ => .inr (0, [])) (z := (64, .inl (fun _ => 0))) (ty := .int) (cy := cid 0) (N' := 8) (K' := 64) hx0 hb hown (hts _ (jw_mem hcl rfl)) hO.2.2.2.2.2.2.2.1 (hts _ (jw_mem hac rfl)) hcy hK (by rw [show va_pl [] (fun _ => (.inr (0, []) : va_E)) = [] from rfl, List.append_nil]; exact hW.1) (by rw [show va_pl [] (fun _ => (.inr (0, []) : va_E)) = [] from rfl, List.append_nil]; exact hW.2.1) hS (fun z hz => Nat.le_trans hbs hz) (by decide) (by decide) (by decide) (by decide) (by decide) (by decide) (by decide) rfl rfl (by show cells + (1 + 8) ≤ mc; omega) (by show slots + (8 + 8 * 64) ≤ ms; omega) (fun c => arrV_new c 64 (.int 0)) hd (fun q r cA H1 hri hrL hK1 hP1 hD1 hS1 => ?_)
  have ec : cA = cid 7 := by
    have e1 : s.vm.findClass ("[" ++ (FieldType.array .int).toString) = some (cid 7) := (hK.2 7 (cid 7, .array .int) rfl).2
    have e2 : s.vm.findClass ("[" ++ (FieldType.array .int).toString) = some cA := (hK1.2 8 (cA, .array .int) rfl).2
    exact Option.some.inj (e2.symm.trans e1)
  subst ec
  have eW : va_pl ([] ++ (List.range 8).map r) (vr_up (fun _ => (.inr (0, []) : va_E)) ((List.range 8).map r) (.inl (cid 0, 64, .inl (fun _ => 0)))) = (List.range 8).map (fun i => (r i, (.inl (cid 0, 64, .inl (fun _ => 0)) : va_E))) := by
    unfold va_pl
    rw [List.nil_append, List.map_map]
    apply List.map_congr_left
    intro a ha
    show (r a, vr_up _ _ _ (r a)) = _
    rw [vr_up_in (List.mem_map_of_mem ha)]
  obtain ⟨hP2, hD2⟩ := pM_ws (adK := adK) (cid := cid) (q := q) (r := r) hW.2.2 h0 (by rw [eW]) hP1 hD1
  have := k q r p l e s m args below meth c H1 locs (cells + 1 + 8) (slots + 8 + 8 * 64) ls D cid adK adV base hC ⟨hP2, hD2, pM_WF hW.2.2 h0⟩ hS1 (by
    have eL : L.map (jlv adK (pM P q r, Y)) = L.map (jlv adK (P, Y)) := by
      apply List.map_congr_left
      intro v hv
      unfold jlv
      rw [jnm_cv (List.all_eq_true.mp hnL v hv)]
    rw [eL]; exact hl) (by omega) (by omega)
  have eS : st.map (jcv adK (pM P q r, Y)) = st.map (jcv adK (P, Y)) := by
    apply List.map_congr_left
    intro v hv
    exact jnm_cv (List.all_eq_true.mp hnst v hv)
  rw [List.map_cons, eS] at this
  exact this
end MNA
