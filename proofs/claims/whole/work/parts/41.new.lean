/-- a new cell: the id x, at the address q -/
def jmk (μ : jMem) (x : jId) (t n q : Nat) : jMem := match x with
  | .inl a => (((jst μ.1.1.1 a (fun _ => 0), jst μ.1.1.2 a (fun _ => 0)), (jst μ.1.2.1 a (fun _ => none), jst μ.1.2.2.1 a t, jst μ.1.2.2.2.1 a n, jst μ.1.2.2.2.2.1 a q, μ.1.2.2.2.2.2 ++ [a])), μ.2)
  | .inr (.inl a) => (μ.1, ((jst μ.2.1.1 a (fun _ => 0), jst μ.2.1.2 a (fun _ => 0)), (jst μ.2.2.1 a (fun _ => none), jst μ.2.2.2.1 a t, jst μ.2.2.2.2.1 a n, jst μ.2.2.2.2.2.1 a q, μ.2.2.2.2.2.2 ++ [a])))
  | .inr (.inr _) => μ
theorem jst_s {α : Type} (f : Nat → α) (a : Nat) (x : α) : jst f a x a = x := if_pos rfl
theorem jst_n {α : Type} (f : Nat → α) {a b : Nat} (x : α) (h : b ≠ a) : jst f a x b = f b := if_neg h
/-- an id of one of the two sides -/
def jin2 (x : jId) : Prop := match x with
  | .inr (.inr _) => False
  | _ => True
theorem mk_x {μ : jMem} {x : jId} {t n q : Nat} (adK : Nat → Nat) (hx : jin2 x) : gT (jmk μ x t n q) x = t ∧ gN (jmk μ x t n q) x = n ∧ gA adK (jmk μ x t n q) x = q ∧ gI (jmk μ x t n q) x = (fun _ => 0) ∧ gL (jmk μ x t n q) x = (fun _ => 0) ∧ gR (jmk μ x t n q) x = (fun _ => none) := by
  rcases x with a | a | a
  · refine ⟨jst_s _ _ _, jst_s _ _ _, jst_s _ _ _, jst_s _ _ _, jst_s _ _ _, ?_⟩
    funext i
    show (jst μ.1.2.1 a (fun _ => none) a i).map Sum.inl = none
    rw [jst_s]; rfl
  · refine ⟨jst_s _ _ _, jst_s _ _ _, jst_s _ _ _, jst_s _ _ _, jst_s _ _ _, ?_⟩
    funext i
    show (jst μ.2.2.1 a (fun _ => none) a i).map _ = none
    rw [jst_s]; rfl
  · exact hx.elim
theorem mk_y {μ : jMem} {x y : jId} {t n q : Nat} (adK : Nat → Nat) (hy : y ≠ x) : gT (jmk μ x t n q) y = gT μ y ∧ gN (jmk μ x t n q) y = gN μ y ∧ gA adK (jmk μ x t n q) y = gA adK μ y ∧ gI (jmk μ x t n q) y = gI μ y ∧ gL (jmk μ x t n q) y = gL μ y ∧ gR (jmk μ x t n q) y = gR μ y := by
  rcases x with a | a | a
  · rcases y with b | b | b
    · have h : b ≠ a := fun e => hy (by rw [e])
      refine ⟨jst_n _ _ h, jst_n _ _ h, jst_n _ _ h, jst_n _ _ h, jst_n _ _ h, ?_⟩
      funext i
      show (jst μ.1.2.1 a (fun _ => none) b i).map Sum.inl = (μ.1.2.1 b i).map Sum.inl
      rw [jst_n _ _ h]
    · exact ⟨rfl, rfl, rfl, rfl, rfl, rfl⟩
    · exact ⟨rfl, rfl, rfl, rfl, rfl, rfl⟩
  · rcases y with b | b | b
    · exact ⟨rfl, rfl, rfl, rfl, rfl, rfl⟩
    · have h : b ≠ a := fun e => hy (by rw [e])
      refine ⟨jst_n _ _ h, jst_n _ _ h, jst_n _ _ h, jst_n _ _ h, jst_n _ _ h, ?_⟩
      funext i
      show (jst μ.2.2.1 a (fun _ => none) b i).map _ = (μ.2.2.1 b i).map _
      rw [jst_n _ _ h]
    · exact ⟨rfl, rfl, rfl, rfl, rfl, rfl⟩
  · exact ⟨rfl, rfl, rfl, rfl, rfl, rfl⟩
theorem mk_mem {μ : jMem} {x y : jId} {t n q : Nat} (hx : jin2 x) : y ∈ jall (jmk μ x t n q) ↔ y ∈ jall μ ∨ y = x := by
  rcases x with a | a | a
  · unfold jall
    show y ∈ (μ.1.2.2.2.2.2 ++ [a]).map Sum.inl ++ _ ↔ _
    rw [List.map_append]
    simp only [List.mem_append, List.map_cons, List.map_nil, List.mem_singleton]
    constructor
    · rintro ((h | h) | h)
      · exact Or.inl (Or.inl h)
      · exact Or.inr h
      · exact Or.inl (Or.inr h)
    · rintro ((h | h) | h)
      · exact Or.inl (Or.inl h)
      · exact Or.inr h
      · exact Or.inl (Or.inr h)
  · unfold jall
    show y ∈ _ ++ (μ.2.2.2.2.2.2 ++ [a]).map (fun b => (Sum.inr (Sum.inl b) : jId)) ↔ _
    rw [List.map_append, ← List.append_assoc]
    simp only [List.mem_append, List.map_cons, List.map_nil, List.mem_singleton]
    exact Iff.rfl
  · exact hx.elim
theorem mk_nodup {μ : jMem} {x : jId} {t n q : Nat} (hx : jin2 x) (hn : (jall μ).Nodup) (hxm : x ∉ jall μ) : (jall (jmk μ x t n q)).Nodup := by
  rcases x with a | a | a
  · unfold jall at hn hxm ⊢
    show ((μ.1.2.2.2.2.2 ++ [a]).map Sum.inl ++ _).Nodup
    rw [List.map_append, List.append_assoc]
    rw [List.nodup_append] at hn ⊢
    obtain ⟨h1, h2, h3⟩ := hn
    rw [List.mem_append, not_or] at hxm
    refine ⟨h1, ?_, ?_⟩
    · rw [List.nodup_append]
      refine ⟨by simp, h2, ?_⟩
      intro u hu w hw e
      simp at hu
      subst hu; subst e
      exact hxm.2 hw
    · intro u hu w hw e
      rw [List.mem_append] at hw
      rcases hw with hw | hw
      · simp at hw
        subst hw; subst e
        exact hxm.1 hu
      · exact h3 u hu w hw e
  · unfold jall at hn hxm ⊢
    show (_ ++ (μ.2.2.2.2.2.2 ++ [a]).map (fun b => (Sum.inr (Sum.inl b) : jId))).Nodup
    rw [List.map_append, ← List.append_assoc]
    rw [List.nodup_append]
    refine ⟨hn, by simp, ?_⟩
    intro u hu w hw e
    simp at hw
    subst hw; subst e
    exact hxm hu
  · exact hx.elim
theorem mk_WF {μ : jMem} {x : jId} {t n q : Nat} (hx : jin2 x) (h : jWF μ) (h0 : gT μ x = 0) (ht : t ≠ 0) : jWF (jmk μ x t n q) := by
  have hxm : x ∉ jall μ := fun e => (h.1 x).mp e h0
  refine ⟨fun y => ?_, mk_nodup hx h.2.1 hxm, fun y i r hy hr => ?_⟩
  · rw [mk_mem hx]
    by_cases e : y = x
    · subst e
      rw [(mk_x (fun _ => 0) hx).1]
      exact ⟨fun _ => ht, fun _ => Or.inr rfl⟩
    · rw [(mk_y (fun _ => 0) e).1]
      constructor
      · rintro (z | z)
        · exact (h.1 y).mp z
        · exact absurd z e
      · intro z; exact Or.inl ((h.1 y).mpr z)
  · by_cases e : y = x
    · subst e
      rw [(mk_x (fun _ => 0) hx).2.2.2.2.2] at hr
      cases hr
    · rw [(mk_y (fun _ => 0) e).2.2.2.2.2] at hr
      rw [(mk_y (fun _ => 0) e).1] at hy
      have hz := h.2.2 y i r hy hr
      have e2 : r ≠ x := fun e3 => hz (by rw [e3]; exact h0)
      rw [(mk_y (fun _ => 0) e2).1]
      exact hz
theorem mk_ce {adK : Nat → Nat} {cid : Nat → ClassId} {μ : jMem} {x y : jId} {t n q : Nat} (h : jWF μ) (h0 : gT μ x = 0) (hy : y ∈ jall μ) : (gA adK (jmk μ x t n q) y, jce adK cid (jmk μ x t n q) y) = (gA adK μ y, jce adK cid μ y) := by
  have hyT := (h.1 y).mp hy
  have e : y ≠ x := fun e => hyT (by rw [e]; exact h0)
  obtain ⟨a1, a2, a3, a4, a5, a6⟩ := mk_y (μ := μ) (t := t) (n := n) (q := q) adK e
  rw [a3]
  congr 1
  unfold jce
  rw [a1, a2, a4, a5, a6]
  congr 1
  funext j
  cases hr : gR μ y j with
  | none => rfl
  | some r =>
    have hz := h.2.2 y j r hyT hr
    have e2 : r ≠ x := fun e3 => hz (by rw [e3]; exact h0)
    show some (gA adK (jmk μ x t n q) r) = some (gA adK μ r)
    rw [(mk_y adK e2).2.2.1]
theorem mk_ws {adK : Nat → Nat} {cid : Nat → ClassId} {μ : jMem} {x : jId} {t n q : Nat} {D : va_G} {A : Nat → Prop} {H : Heap} (hx : jin2 x) (h : jWF μ) (h0 : gT μ x = 0) (hP : va_P D jcl (jws adK cid μ ++ [(q, jcell cid t n (fun _ => 0) (fun _ => 0) (fun _ => none))]) H) (hD : va_D A (jws adK cid μ ++ [(q, jcell cid t n (fun _ => 0) (fun _ => 0) (fun _ => none))])) : va_P D jcl (jws adK cid (jmk μ x t n q)) H ∧ va_D A (jws adK cid (jmk μ x t n q)) := by
  have hnew : (gA adK (jmk μ x t n q) x, jce adK cid (jmk μ x t n q) x) = (q, jcell cid t n (fun _ => 0) (fun _ => 0) (fun _ => none)) := by
    obtain ⟨a1, a2, a3, a4, a5, a6⟩ := mk_x (μ := μ) (t := t) (n := n) (q := q) adK hx
    unfold jce
    rw [a1, a2, a3, a4, a5, a6]; rfl
  rcases x with a | a | a
  · have e : jws adK cid (jmk μ (.inl a) t n q) = (μ.1.2.2.2.2.2.map (fun b => (gA adK μ (.inl b), jce adK cid μ (.inl b))) ++ [(q, jcell cid t n (fun _ => 0) (fun _ => 0) (fun _ => none))]) ++ μ.2.2.2.2.2.2.map (fun b => (gA adK μ (.inr (.inl b)), jce adK cid μ (.inr (.inl b)))) := by
      unfold jws
      have e1 : jall (jmk μ (.inl a) t n q) = (μ.1.2.2.2.2.2 ++ [a]).map Sum.inl ++ μ.2.2.2.2.2.2.map (fun b => (Sum.inr (Sum.inl b) : jId)) := rfl
      rw [e1, List.map_append, List.map_append, List.map_append, List.map_map, List.map_map]
      congr 1
      · congr 1
        · apply List.map_congr_left
          intro b hb
          exact mk_ce h h0 (List.mem_append_left _ (List.mem_map_of_mem hb))
        · show [(gA adK (jmk μ (.inl a) t n q) (.inl a), jce adK cid (jmk μ (.inl a) t n q) (.inl a))] = _
          rw [hnew]
      · rw [List.map_map]
        apply List.map_congr_left
        intro b hb
        exact mk_ce h h0 (List.mem_append_right _ (List.mem_map_of_mem hb))
    have e0 : jws adK cid μ = μ.1.2.2.2.2.2.map (fun b => (gA adK μ (.inl b), jce adK cid μ (.inl b))) ++ μ.2.2.2.2.2.2.map (fun b => (gA adK μ (.inr (.inl b)), jce adK cid μ (.inr (.inl b)))) := by
      unfold jws jall
      rw [List.map_append, List.map_map, List.map_map]; rfl
    rw [e]
    rw [e0] at hP hD
    exact ⟨va_P.swap hP, va_D.swap hD⟩
  · have e : jws adK cid (jmk μ (.inr (.inl a)) t n q) = jws adK cid μ ++ [(q, jcell cid t n (fun _ => 0) (fun _ => 0) (fun _ => none))] := by
      unfold jws
      have e1 : jall (jmk μ (.inr (.inl a)) t n q) = jall μ ++ [(.inr (.inl a))] := by
        unfold jall
        show _ ++ (μ.2.2.2.2.2.2 ++ [a]).map (fun b => (Sum.inr (Sum.inl b) : jId)) = _
        rw [List.map_append, ← List.append_assoc]; rfl
      rw [e1, List.map_append]
      congr 1
      · apply List.map_congr_left
        intro b hb
        exact mk_ce h h0 hb
      · show [(gA adK (jmk μ (.inr (.inl a)) t n q) (.inr (.inl a)), jce adK cid (jmk μ (.inr (.inl a)) t n q) (.inr (.inl a)))] = _
        rw [hnew]
    rw [e]; exact ⟨hP, hD⟩
  · exact hx.elim
/-- v isn't the reference x -/
def jnr (x : jId) (v : jV) : Bool := match v with
  | .inr (.inr (some y)) => !(decide (y = x))
  | _ => true
theorem jnr_cv {adK : Nat → Nat} {μ : jMem} {x : jId} {t n q : Nat} {v : jV} (h : jnr x v = true) : jcv adK (jmk μ x t n q) v = jcv adK μ v := by
  rcases v with y | y | (_ | y)
  · rfl
  · rfl
  · rfl
  · have e : y ≠ x := by
      intro e; unfold jnr at h; simp [e] at h
    show Value.ref _ = Value.ref _
    rw [(mk_y adK e).2.2.1]
theorem jnr_st {adK : Nat → Nat} {μ : jMem} {x : jId} {t n q : Nat} {st : List jV} (h : st.all (jnr x) = true) : st.map (jcv adK (jmk μ x t n q)) = st.map (jcv adK μ) := by
  apply List.map_congr_left
  intro v hv
  exact jnr_cv (List.all_eq_true.mp h v hv)
theorem jnr_L {adK : Nat → Nat} {μ : jMem} {x : jId} {t n q : Nat} {L : List (Nat × jV)} (h : L.all (fun q => jnr x q.2) = true) : L.map (jlv adK (jmk μ x t n q)) = L.map (jlv adK μ) := by
  apply List.map_congr_left
  intro v hv
  unfold jlv
  rw [jnr_cv (List.all_eq_true.mp h v hv)]
theorem jcell_new (cid : Nat → ClassId) (ci : Nat) (h : ci < 12) : jcell cid (ci + 1) 0 (fun _ => 0) (fun _ => 0) (fun _ => none) = .inr (ci, jfs ci (fun _ => 0) (fun _ => none)) := by
  unfold jcell; rw [if_pos (by omega)]; rfl
section MAKE
variable {M : jM} {d mc ms kc ks pc : Nat} {L : List (Nat × jV)} {st : List jV} {μ : jMem} {Q : Option jV → jMem → Prop}
theorem go_new {idx ci kc' ks' : Nat} {x : jId} (hd : decode M.2.2.1 pc = .ok (.new idx, 3)) (hcl : Cond.classLink (jcn M.1) idx (jcn ci) ∈ lw_tbl) (hc0 : M.2.1.cls = jcn M.1) (hci : ci < 12) (hinst : Cond.instantiable (jcn ci) (jN ci) ∈ lw_tbl) (hini : Cond.initialized (jcn ci) ∈ lw_tbl) (hx : jin2 x) (h0 : gT μ x = 0) (hnst : st.all (jnr x) = true) (hnL : L.all (fun q => jnr x q.2) = true) (hkc : kc' + 1 = kc) (hks : ks' + jN ci = ks)
    (k : ∀ q, Go M d mc ms kc' ks' (pc + 3) L (.inr (.inr (some x)) :: st) (jmk μ x (ci + 1) 0 q) Q) : Go M d mc ms kc ks pc L st μ Q := by
  intro p l e s m args below meth c H locs cells slots ls D cid adK adV base hC hW hS hl h1 h2
  obtain ⟨hx0, hb, hml, hr, hts, hown, hlocks, hmn, hbs, hK, hO⟩ := id hC
  rw [hc0] at hown
  obtain ⟨q, ty0, hq, hn, hw, hty, hnm, hk, hcn⟩ := jclf ci hci
  have hin : ∀ w ∈ u_ws q.1 q.2.1 q.2.2, w ∈ jwords M := fun w h => jw_mem (hw w h) (jlays_good h)
  rw [← hcn] at hcl hinst hini
  rw [← hn] at hinst hks
  refine va_new (ci := ci) (C := q.1) (T := q.2.1) (N := q.2.2) (fs := jfs ci (fun _ => 0) (fun _ => none)) hx0 hb hts hin ty0 hty hown (hts _ (jw_mem hcl rfl)) (hts _ (jw_mem hinst rfl)) (hts _ (jw_mem hini rfl)) hK hW.1 hW.2.1 hS (fun z hz => Nat.le_trans hbs hz) hq (fun j hj => ?_) (by show cells + 1 ≤ mc; omega) (by show slots + q.2.2 ≤ ms; omega) hd (fun a H1 hP1 hD1 hS1 => ?_)
  · have hv := jfs_get (c := ci) (k := j) (by rw [← hn]; exact hj) (fun _ => 0) (fun _ => none)
    unfold vp_V
    rw [List.getD_eq_getElem?_getD, hv]
    have hkj := hk j hj
    by_cases h1 : jk ci j = 1
    · rw [if_pos h1]
      have := (hkj.2.2.1 h1).1
      cases hty0 : ty0 j <;> rw [hty0] at this <;> first | rfl | cases this
    · rw [if_neg h1]
      have h3 : jk ci j = 0 ∨ jk ci j = 2 := by have := hkj.2.2.2.1; omega
      rcases h3 with h3 | h3
      · rw [(hkj.1 h3).1]; rfl
      · rw [(hkj.2.1 h3).1]; rfl
  · rw [← jcell_new cid ci hci] at hP1 hD1
    obtain ⟨hP2, hD2⟩ := mk_ws hx hW.2.2 h0 hP1 hD1
    have := k a p l e s m args below meth c H1 locs (cells + 1) (slots + q.2.2) ls D cid adK adV base hC ⟨hP2, hD2, mk_WF hx hW.2.2 h0 (by omega)⟩ hS1 (by rw [jnr_L hnL]; exact hl) (by omega) (by omega)
    rw [List.map_cons, jnr_st hnst] at this
    have ea : jcv adK (jmk μ x (ci + 1) 0 a) (.inr (.inr (some x))) = .ref a := by
      show Value.ref _ = _
      rw [(mk_x adK hx).2.2.1]
    rw [ea] at this
    exact this
theorem go_newa20 {N' kc' ks' : Nat} {n : Int32} {x : jId} (hd : decode M.2.2.1 pc = .ok (.newarray .int, 2)) (hn : ¬ n < 0) (hN : n.toNatClampNeg = N') (hby : N' ≤ 100000) (hx : jin2 x) (h0 : gT μ x = 0) (hnst : st.all (jnr x) = true) (hnL : L.all (fun q => jnr x q.2) = true) (hkc : kc' + 1 = kc) (hks : ks' + N' = ks)
    (k : ∀ q, Go M d mc ms kc' ks' (pc + 2) L (.inr (.inr (some x)) :: st) (jmk μ x 20 N' q) Q) : Go M d mc ms kc ks pc L (.inl n :: st) μ Q := by
  intro p l e s m args below meth c H locs cells slots ls D cid adK adV base hC hW hS hl h1 h2
  obtain ⟨hx0, hb, hml, hr, hts, hown, hlocks, hmn, hbs, hK, hO⟩ := id hC
  refine va_newa (atype := .int) (ty := .int) (N' := N') (a0 := (N', .inl (fun _ => 0))) hx0 hb (hts _ (jw_mem (jin_1 (List.mem_of_getElem? (i := 64) rfl)) rfl)) rfl hK hW.1 hW.2.1 hS (fun z hz => Nat.le_trans hbs hz) (fun _ => rfl) hn hN (by show N' * componentBytes .int ≤ 536870912; simp only [componentBytes]; omega) (by show cells + 1 ≤ mc; omega) (by show slots + N' ≤ ms; omega) hd (fun a cA H1 hK1 hP1 hD1 hS1 => ?_)
  · have e1 := (hK.2 0 (cid 0, .int) rfl).2
    have e2 := (hK1.2 8 (cA, .int) rfl).2
    have ec : cA = cid 0 := Option.some.inj (e2.symm.trans e1)
    subst ec
    obtain ⟨hP2, hD2⟩ := mk_ws (adK := adK) (cid := cid) (t := 20) (n := N') (q := a) hx hW.2.2 h0 hP1 hD1
    have := k a p l e s m args below meth c H1 locs (cells + 1) (slots + N') ls D cid adK adV base hC ⟨hP2, hD2, mk_WF hx hW.2.2 h0 (by omega)⟩ hS1 (by rw [jnr_L hnL]; exact hl) (by omega) (by omega)
    rw [List.map_cons, jnr_st hnst] at this
    have ea : jcv adK (jmk μ x 20 N' a) (.inr (.inr (some x))) = .ref a := by
      show Value.ref _ = _
      rw [(mk_x adK hx).2.2.1]
    rw [ea] at this
    exact this
theorem go_newa21 {N' kc' ks' : Nat} {n : Int32} {x : jId} (hd : decode M.2.2.1 pc = .ok (.newarray .byte, 2)) (hn : ¬ n < 0) (hN : n.toNatClampNeg = N') (hby : N' ≤ 100000) (hx : jin2 x) (h0 : gT μ x = 0) (hnst : st.all (jnr x) = true) (hnL : L.all (fun q => jnr x q.2) = true) (hkc : kc' + 1 = kc) (hks : ks' + N' = ks)
    (k : ∀ q, Go M d mc ms kc' ks' (pc + 2) L (.inr (.inr (some x)) :: st) (jmk μ x 21 N' q) Q) : Go M d mc ms kc ks pc L (.inl n :: st) μ Q := by
  intro p l e s m args below meth c H locs cells slots ls D cid adK adV base hC hW hS hl h1 h2
  obtain ⟨hx0, hb, hml, hr, hts, hown, hlocks, hmn, hbs, hK, hO⟩ := id hC
  refine va_newa (atype := .byte) (ty := .byte) (N' := N') (a0 := (N', .inl (fun _ => 0))) hx0 hb (hts _ (jw_mem (jin_3 (List.mem_of_getElem? (i := 115) rfl)) rfl)) rfl hK hW.1 hW.2.1 hS (fun z hz => Nat.le_trans hbs hz) (fun _ => rfl) hn hN (by show N' * componentBytes .byte ≤ 536870912; simp only [componentBytes]; omega) (by show cells + 1 ≤ mc; omega) (by show slots + N' ≤ ms; omega) hd (fun a cA H1 hK1 hP1 hD1 hS1 => ?_)
  · have e1 := (hK.2 1 (cid 1, .byte) rfl).2
    have e2 := (hK1.2 8 (cA, .byte) rfl).2
    have ec : cA = cid 1 := Option.some.inj (e2.symm.trans e1)
    subst ec
    obtain ⟨hP2, hD2⟩ := mk_ws (adK := adK) (cid := cid) (t := 21) (n := N') (q := a) hx hW.2.2 h0 hP1 hD1
    have := k a p l e s m args below meth c H1 locs (cells + 1) (slots + N') ls D cid adK adV base hC ⟨hP2, hD2, mk_WF hx hW.2.2 h0 (by omega)⟩ hS1 (by rw [jnr_L hnL]; exact hl) (by omega) (by omega)
    rw [List.map_cons, jnr_st hnst] at this
    have ea : jcv adK (jmk μ x 21 N' a) (.inr (.inr (some x))) = .ref a := by
      show Value.ref _ = _
      rw [(mk_x adK hx).2.2.1]
    rw [ea] at this
    exact this
theorem go_newa22 {N' kc' ks' : Nat} {n : Int32} {x : jId} (hd : decode M.2.2.1 pc = .ok (.newarray .boolean, 2)) (hn : ¬ n < 0) (hN : n.toNatClampNeg = N') (hby : N' ≤ 100000) (hx : jin2 x) (h0 : gT μ x = 0) (hnst : st.all (jnr x) = true) (hnL : L.all (fun q => jnr x q.2) = true) (hkc : kc' + 1 = kc) (hks : ks' + N' = ks)
    (k : ∀ q, Go M d mc ms kc' ks' (pc + 2) L (.inr (.inr (some x)) :: st) (jmk μ x 22 N' q) Q) : Go M d mc ms kc ks pc L (.inl n :: st) μ Q := by
  intro p l e s m args below meth c H locs cells slots ls D cid adK adV base hC hW hS hl h1 h2
  obtain ⟨hx0, hb, hml, hr, hts, hown, hlocks, hmn, hbs, hK, hO⟩ := id hC
  refine va_newa (atype := .boolean) (ty := .boolean) (N' := N') (a0 := (N', .inl (fun _ => 0))) hx0 hb (hts _ (jw_mem (jin_6 (List.mem_of_getElem? (i := 140) rfl)) rfl)) rfl hK hW.1 hW.2.1 hS (fun z hz => Nat.le_trans hbs hz) (fun _ => rfl) hn hN (by show N' * componentBytes .boolean ≤ 536870912; simp only [componentBytes]; omega) (by show cells + 1 ≤ mc; omega) (by show slots + N' ≤ ms; omega) hd (fun a cA H1 hK1 hP1 hD1 hS1 => ?_)
  · have e1 := (hK.2 2 (cid 2, .boolean) rfl).2
    have e2 := (hK1.2 8 (cA, .boolean) rfl).2
    have ec : cA = cid 2 := Option.some.inj (e2.symm.trans e1)
    subst ec
    obtain ⟨hP2, hD2⟩ := mk_ws (adK := adK) (cid := cid) (t := 22) (n := N') (q := a) hx hW.2.2 h0 hP1 hD1
    have := k a p l e s m args below meth c H1 locs (cells + 1) (slots + N') ls D cid adK adV base hC ⟨hP2, hD2, mk_WF hx hW.2.2 h0 (by omega)⟩ hS1 (by rw [jnr_L hnL]; exact hl) (by omega) (by omega)
    rw [List.map_cons, jnr_st hnst] at this
    have ea : jcv adK (jmk μ x 22 N' a) (.inr (.inr (some x))) = .ref a := by
      show Value.ref _ = _
      rw [(mk_x adK hx).2.2.1]
    rw [ea] at this
    exact this
theorem go_newa23 {N' kc' ks' : Nat} {n : Int32} {x : jId} (hd : decode M.2.2.1 pc = .ok (.newarray .long, 2)) (hn : ¬ n < 0) (hN : n.toNatClampNeg = N') (hby : N' ≤ 100000) (hx : jin2 x) (h0 : gT μ x = 0) (hnst : st.all (jnr x) = true) (hnL : L.all (fun q => jnr x q.2) = true) (hkc : kc' + 1 = kc) (hks : ks' + N' = ks)
    (k : ∀ q, Go M d mc ms kc' ks' (pc + 2) L (.inr (.inr (some x)) :: st) (jmk μ x 23 N' q) Q) : Go M d mc ms kc ks pc L (.inl n :: st) μ Q := by
  intro p l e s m args below meth c H locs cells slots ls D cid adK adV base hC hW hS hl h1 h2
  obtain ⟨hx0, hb, hml, hr, hts, hown, hlocks, hmn, hbs, hK, hO⟩ := id hC
  refine va_newa (atype := .long) (ty := .long) (N' := N') (a0 := (N', .inr (.inl (fun _ => 0)))) hx0 hb (hts _ (jw_mem (jin_3 (List.mem_of_getElem? (i := 208) rfl)) rfl)) rfl hK hW.1 hW.2.1 hS (fun z hz => Nat.le_trans hbs hz) (fun _ => rfl) hn hN (by show N' * componentBytes .long ≤ 536870912; simp only [componentBytes]; omega) (by show cells + 1 ≤ mc; omega) (by show slots + N' ≤ ms; omega) hd (fun a cA H1 hK1 hP1 hD1 hS1 => ?_)
  · have e1 := (hK.2 3 (cid 3, .long) rfl).2
    have e2 := (hK1.2 8 (cA, .long) rfl).2
    have ec : cA = cid 3 := Option.some.inj (e2.symm.trans e1)
    subst ec
    obtain ⟨hP2, hD2⟩ := mk_ws (adK := adK) (cid := cid) (t := 23) (n := N') (q := a) hx hW.2.2 h0 hP1 hD1
    have := k a p l e s m args below meth c H1 locs (cells + 1) (slots + N') ls D cid adK adV base hC ⟨hP2, hD2, mk_WF hx hW.2.2 h0 (by omega)⟩ hS1 (by rw [jnr_L hnL]; exact hl) (by omega) (by omega)
    rw [List.map_cons, jnr_st hnst] at this
    have ea : jcv adK (jmk μ x 23 N' a) (.inr (.inr (some x))) = .ref a := by
      show Value.ref _ = _
      rw [(mk_x adK hx).2.2.1]
    rw [ea] at this
    exact this
theorem go_newq24 {idx N' kc' ks' : Nat} {n : Int32} {x : jId} (hd : decode M.2.2.1 pc = .ok (.anewarray idx, 3)) (hcl : Cond.classLink (jcn M.1) idx RX4 ∈ lw_tbl) (hc0 : M.2.1.cls = jcn M.1) (hn : ¬ n < 0) (hN : n.toNatClampNeg = N') (hby : N' ≤ 100000) (hx : jin2 x) (h0 : gT μ x = 0) (hnst : st.all (jnr x) = true) (hnL : L.all (fun q => jnr x q.2) = true) (hkc : kc' + 1 = kc) (hks : ks' + N' = ks)
    (k : ∀ q, Go M d mc ms kc' ks' (pc + 3) L (.inr (.inr (some x)) :: st) (jmk μ x 24 N' q) Q) : Go M d mc ms kc ks pc L (.inl n :: st) μ Q := by
  intro p l e s m args below meth c H locs cells slots ls D cid adK adV base hC hW hS hl h1 h2
  obtain ⟨hx0, hb, hml, hr, hts, hown, hlocks, hmn, hbs, hK, hO⟩ := id hC
  rw [hc0] at hown
  refine va_newq (C := RX4) (N' := N') hx0 hb hown (hts _ (jw_mem hcl rfl)) hO.2.2.2.2.1 hK hW.1 hW.2.1 hS (fun z hz => Nat.le_trans hbs hz) hn hN (by omega) (by show cells + 1 ≤ mc; omega) (by show slots + N' ≤ ms; omega) hd (fun a cA H1 hK1 hP1 hD1 hS1 => ?_)
  · obtain ⟨_, _, _, _, _, e1⟩ := (hK.2 4 (cid 4, .object RX4) rfl).2
    obtain ⟨_, _, _, _, _, e2⟩ := (hK1.2 8 (cA, .object RX4) rfl).2
    have ec : cA = cid 4 := Option.some.inj (e2.symm.trans e1)
    subst ec
    obtain ⟨hP2, hD2⟩ := mk_ws (adK := adK) (cid := cid) (t := 24) (n := N') (q := a) hx hW.2.2 h0 hP1 hD1
    have := k a p l e s m args below meth c H1 locs (cells + 1) (slots + N') ls D cid adK adV base hC ⟨hP2, hD2, mk_WF hx hW.2.2 h0 (by omega)⟩ hS1 (by rw [jnr_L hnL]; exact hl) (by omega) (by omega)
    rw [List.map_cons, jnr_st hnst] at this
    have ea : jcv adK (jmk μ x 24 N' a) (.inr (.inr (some x))) = .ref a := by
      show Value.ref _ = _
      rw [(mk_x adK hx).2.2.1]
    rw [ea] at this
    exact this
theorem go_newq25 {idx N' kc' ks' : Nat} {n : Int32} {x : jId} (hd : decode M.2.2.1 pc = .ok (.anewarray idx, 3)) (hcl : Cond.classLink (jcn M.1) idx RX6 ∈ lw_tbl) (hc0 : M.2.1.cls = jcn M.1) (hn : ¬ n < 0) (hN : n.toNatClampNeg = N') (hby : N' ≤ 100000) (hx : jin2 x) (h0 : gT μ x = 0) (hnst : st.all (jnr x) = true) (hnL : L.all (fun q => jnr x q.2) = true) (hkc : kc' + 1 = kc) (hks : ks' + N' = ks)
    (k : ∀ q, Go M d mc ms kc' ks' (pc + 3) L (.inr (.inr (some x)) :: st) (jmk μ x 25 N' q) Q) : Go M d mc ms kc ks pc L (.inl n :: st) μ Q := by
  intro p l e s m args below meth c H locs cells slots ls D cid adK adV base hC hW hS hl h1 h2
  obtain ⟨hx0, hb, hml, hr, hts, hown, hlocks, hmn, hbs, hK, hO⟩ := id hC
  rw [hc0] at hown
  refine va_newq (C := RX6) (N' := N') hx0 hb hown (hts _ (jw_mem hcl rfl)) hO.2.2.2.2.2.1 hK hW.1 hW.2.1 hS (fun z hz => Nat.le_trans hbs hz) hn hN (by omega) (by show cells + 1 ≤ mc; omega) (by show slots + N' ≤ ms; omega) hd (fun a cA H1 hK1 hP1 hD1 hS1 => ?_)
  · obtain ⟨_, _, _, _, _, e1⟩ := (hK.2 5 (cid 5, .object RX6) rfl).2
    obtain ⟨_, _, _, _, _, e2⟩ := (hK1.2 8 (cA, .object RX6) rfl).2
    have ec : cA = cid 5 := Option.some.inj (e2.symm.trans e1)
    subst ec
    obtain ⟨hP2, hD2⟩ := mk_ws (adK := adK) (cid := cid) (t := 25) (n := N') (q := a) hx hW.2.2 h0 hP1 hD1
    have := k a p l e s m args below meth c H1 locs (cells + 1) (slots + N') ls D cid adK adV base hC ⟨hP2, hD2, mk_WF hx hW.2.2 h0 (by omega)⟩ hS1 (by rw [jnr_L hnL]; exact hl) (by omega) (by omega)
    rw [List.map_cons, jnr_st hnst] at this
    have ea : jcv adK (jmk μ x 25 N' a) (.inr (.inr (some x))) = .ref a := by
      show Value.ref _ = _
      rw [(mk_x adK hx).2.2.1]
    rw [ea] at this
    exact this
theorem go_newq26 {idx N' kc' ks' : Nat} {n : Int32} {x : jId} (hd : decode M.2.2.1 pc = .ok (.anewarray idx, 3)) (hcl : Cond.classLink (jcn M.1) idx RX0 ∈ lw_tbl) (hc0 : M.2.1.cls = jcn M.1) (hn : ¬ n < 0) (hN : n.toNatClampNeg = N') (hby : N' ≤ 100000) (hx : jin2 x) (h0 : gT μ x = 0) (hnst : st.all (jnr x) = true) (hnL : L.all (fun q => jnr x q.2) = true) (hkc : kc' + 1 = kc) (hks : ks' + N' = ks)
    (k : ∀ q, Go M d mc ms kc' ks' (pc + 3) L (.inr (.inr (some x)) :: st) (jmk μ x 26 N' q) Q) : Go M d mc ms kc ks pc L (.inl n :: st) μ Q := by
  intro p l e s m args below meth c H locs cells slots ls D cid adK adV base hC hW hS hl h1 h2
  obtain ⟨hx0, hb, hml, hr, hts, hown, hlocks, hmn, hbs, hK, hO⟩ := id hC
  rw [hc0] at hown
  refine va_newq (C := RX0) (N' := N') hx0 hb hown (hts _ (jw_mem hcl rfl)) hO.2.2.2.2.2.2.1 hK hW.1 hW.2.1 hS (fun z hz => Nat.le_trans hbs hz) hn hN (by omega) (by show cells + 1 ≤ mc; omega) (by show slots + N' ≤ ms; omega) hd (fun a cA H1 hK1 hP1 hD1 hS1 => ?_)
  · obtain ⟨_, _, _, _, _, e1⟩ := (hK.2 6 (cid 6, .object RX0) rfl).2
    obtain ⟨_, _, _, _, _, e2⟩ := (hK1.2 8 (cA, .object RX0) rfl).2
    have ec : cA = cid 6 := Option.some.inj (e2.symm.trans e1)
    subst ec
    obtain ⟨hP2, hD2⟩ := mk_ws (adK := adK) (cid := cid) (t := 26) (n := N') (q := a) hx hW.2.2 h0 hP1 hD1
    have := k a p l e s m args below meth c H1 locs (cells + 1) (slots + N') ls D cid adK adV base hC ⟨hP2, hD2, mk_WF hx hW.2.2 h0 (by omega)⟩ hS1 (by rw [jnr_L hnL]; exact hl) (by omega) (by omega)
    rw [List.map_cons, jnr_st hnst] at this
    have ea : jcv adK (jmk μ x 26 N' a) (.inr (.inr (some x))) = .ref a := by
      show Value.ref _ = _
      rw [(mk_x adK hx).2.2.1]
    rw [ea] at this
    exact this
theorem go_putR {idx a b z : Nat} {x : jId} {r : Option jId} {w : Option Nat} (hd : decode M.2.2.1 pc = .ok (.putfield idx, 3)) (hl0 : (M.1, idx, a, b, z) ∈ jfl) (hc0 : M.2.1.cls = jcn M.1) (ha : a < 12) (hb0 : b < jN a) (hT : gT μ x = a + 1) (hk1 : jk a b = 1) (hz : z = 0) (hini : M.2.1.name = "<init>") (hown0 : M.1 = a) (hsd : jside x r w) (hro : ∀ y, r = some y → gT μ y ≠ 0)
    (k : Go M d mc ms kc ks (pc + 3) L st (sFR μ x b w) Q) : Go M d mc ms kc ks pc L (.inr (.inr r) :: .inr (.inr (some x)) :: st) μ Q := by
  intro p l e s m args below meth c H locs cells slots ls D cid adK adV base hC hW hS hl h1 h2
  obtain ⟨q, ty0, hq, hn, hw, hty, hnm, hk, hcn⟩ := jclf a ha
  obtain ⟨hx, hb, hml, hr, hts, hown, hlocks, hmn, hbs, hK, hO⟩ := id hC
  rw [hc0] at hown
  have hT0 : gT μ x ≠ 0 := by omega
  obtain ⟨i, hi0, hi⟩ := jws_at (adK := adK) (cid := cid) hW.2.2 (x := x) hT0
  rw [jce_obj hT ha] at hi
  have hin : ∀ w ∈ u_ws q.1 q.2.1 q.2.2, w ∈ jwords M := fun w h => jw_mem (hw w h) (jlays_good h)
  have hbq : b < q.2.2 := by rw [hn]; exact hb0
  have hkb := hk b hbq
  have hfin : (q.2.1 b).2.2.2 = true := (hkb.2.2.1 hk1).2
  have hrk : refKind (ty0 b) = true := (hkb.2.2.1 hk1).1
  have ev : va_rf (r.map (gA adK μ)) = jcv adK μ (.inr (.inr r)) := by cases r <;> rfl
  have hnar : narrow (ty0 b) (jcv adK μ (.inr (.inr r))) = jcv adK μ (.inr (.inr r)) ∧ fits (ty0 b) (jcv adK μ (.inr (.inr r))) = true := by
    cases hty0 : ty0 b <;> rw [hty0] at hrk <;> first | (cases hrk; done) | (cases r <;> exact ⟨rfl, rfl⟩)
  have hset : (jws adK cid μ).set i (gA adK μ x, .inr (a, (jfs a (gI μ x) (fun j => (gR μ x j).map (gA adK μ))).set b (jcv adK μ (.inr (.inr r))))) = jws adK cid (sFR μ x b w) := by
    rw [← ev, jfs_setR hb0 hk1]
    have e9 : jce adK cid (sFR μ x b w) x = .inr (a, jfs a (gI μ x) (va_up (fun j => (gR μ x j).map (gA adK μ)) b (r.map (gA adK μ)))) := by
      rw [jce_obj (by rw [sFR_T]; exact hT) ha, sFR_I, (sFR_R μ x b r w hT0 hsd).1, sFR_A]
      congr 2
      congr 1
      funext j
      unfold va_up
      by_cases e : j = b
      · rw [if_pos e, if_pos e]
      · rw [if_neg e, if_neg e]
    rw [← e9]
    exact jws_set hW.2.2 hi0 (sFR_all _ _ _ _) (sFR_A _ _ _ _ _) (jce_sFR hT0 hsd)
  have hlk := jlink (q := q) hl0 hq hts hO
  refine va_putF (C := q.1) (T := q.2.1) (N := q.2.2) hx hb hts hin ty0 hty hnm hown hK hW.1 hW.2.1 hS i hi hq b hbq (hlk.1 hz) (fun _ h9 => h9) hfin (by rw [hmn]; exact hini) (by rw [hkb.2.2.2.2, hcn, hown0]) (hty b hbq) hnar.1 hnar.2 (by rw [jfs_len]; exact hb0) hd (fun H1 locs1 hP1 hD1 hS1 => ?_)
  rw [hset] at hP1 hD1
  have := k p l e s m args below meth c H1 locs1 cells slots ls D cid adK adV base hC ⟨hP1, hD1, jWF_sFR hW.2.2 hT0 hsd hro⟩ hS1 (by rw [jlv_sFR]; exact hl) h1 h2
  rw [jcv_sFR] at this
  exact this
theorem go_aast24 {x y : jId} {i : Int32} {n : Nat} {w : Option Nat} (hd : decode M.2.2.1 pc = .ok (.aastore, 1)) (hT : gT μ x = 24) (hTy : gT μ y = 5) (hN : gN μ x = n) (hi : vp_in i n) (hsd : jside x (some y) w) (k : Go M d mc ms kc ks (pc + 1) L st (sFR μ x i.toNatClampNeg w) Q) : Go M d mc ms kc ks pc L (.inr (.inr (some y)) :: .inl i :: .inr (.inr (some x)) :: st) μ Q := by
  intro p l e s m args below meth c H locs cells slots ls D cid adK adV base hC hW hS hl h1 h2
  have hT0 : gT μ x ≠ 0 := by omega
  obtain ⟨q, hq0, hq⟩ := jws_at (adK := adK) (cid := cid) hW.2.2 (x := x) hT0
  obtain ⟨qy, -, hqy⟩ := jws_at (adK := adK) (cid := cid) hW.2.2 (x := y) (by omega)
  rw [jce_ref (t := 24) hT (by omega)] at hq
  rw [jce_obj hTy (by omega)] at hqy
  obtain ⟨qc, ty0, hqc, -, -, -, -, -, hcn⟩ := jclf 4 (by omega)
  refine va_astq (r := qc) hC.1 hC.2.1 hC.2.2.2.2.2.2.2.2.2.1 hW.1 hW.2.1 hS q 4 qy 4 hq (by rw [hcn]; rfl) hqy hqc (by rw [hN]; exact hi) hd (fun H1 locs1 hP1 hD1 hS1 => ?_)
  have e9 : jce adK cid (sFR μ x i.toNatClampNeg w) x = .inl (cid 4, gN μ x, .inr (.inr (.inr (.inr (va_up (fun j => (gR μ x j).map (gA adK μ)) i.toNatClampNeg (some (gA adK μ y))))))) := by
    rw [jce_ref (t := 24) (by rw [sFR_T]; exact hT) (by omega), (sFR_R μ x i.toNatClampNeg (some y) w hT0 hsd).1, sFR_A, sFR_N]
    have ef : (fun j => Option.map (gA adK μ) (va_up (gR μ x) i.toNatClampNeg (some y) j)) = va_up (fun j => (gR μ x j).map (gA adK μ)) i.toNatClampNeg (some (gA adK μ y)) := by
      funext j
      unfold va_up
      by_cases e : j = i.toNatClampNeg
      · rw [if_pos e, if_pos e]; rfl
      · rw [if_neg e, if_neg e]
    rw [ef]
  have hset := jws_set hW.2.2 hq0 (sFR_all μ x i.toNatClampNeg w) (sFR_A adK _ _ _ _) (jce_sFR (cid := cid) hT0 hsd)
  rw [e9] at hset
  rw [hset] at hP1 hD1
  have := k p l e s m args below meth c H1 locs1 cells slots ls D cid adK adV base hC ⟨hP1, hD1, jWF_sFR hW.2.2 hT0 hsd (fun z hz => by cases hz; omega)⟩ hS1 (by rw [jlv_sFR]; exact hl) h1 h2
  rw [jcv_sFR] at this
  exact this
theorem go_aast25 {x y : jId} {i : Int32} {n : Nat} {w : Option Nat} (hd : decode M.2.2.1 pc = .ok (.aastore, 1)) (hT : gT μ x = 25) (hTy : gT μ y = 7) (hN : gN μ x = n) (hi : vp_in i n) (hsd : jside x (some y) w) (k : Go M d mc ms kc ks (pc + 1) L st (sFR μ x i.toNatClampNeg w) Q) : Go M d mc ms kc ks pc L (.inr (.inr (some y)) :: .inl i :: .inr (.inr (some x)) :: st) μ Q := by
  intro p l e s m args below meth c H locs cells slots ls D cid adK adV base hC hW hS hl h1 h2
  have hT0 : gT μ x ≠ 0 := by omega
  obtain ⟨q, hq0, hq⟩ := jws_at (adK := adK) (cid := cid) hW.2.2 (x := x) hT0
  obtain ⟨qy, -, hqy⟩ := jws_at (adK := adK) (cid := cid) hW.2.2 (x := y) (by omega)
  rw [jce_ref (t := 25) hT (by omega)] at hq
  rw [jce_obj hTy (by omega)] at hqy
  obtain ⟨qc, ty0, hqc, -, -, -, -, -, hcn⟩ := jclf 6 (by omega)
  refine va_astq (r := qc) hC.1 hC.2.1 hC.2.2.2.2.2.2.2.2.2.1 hW.1 hW.2.1 hS q 5 qy 6 hq (by rw [hcn]; rfl) hqy hqc (by rw [hN]; exact hi) hd (fun H1 locs1 hP1 hD1 hS1 => ?_)
  have e9 : jce adK cid (sFR μ x i.toNatClampNeg w) x = .inl (cid 5, gN μ x, .inr (.inr (.inr (.inr (va_up (fun j => (gR μ x j).map (gA adK μ)) i.toNatClampNeg (some (gA adK μ y))))))) := by
    rw [jce_ref (t := 25) (by rw [sFR_T]; exact hT) (by omega), (sFR_R μ x i.toNatClampNeg (some y) w hT0 hsd).1, sFR_A, sFR_N]
    have ef : (fun j => Option.map (gA adK μ) (va_up (gR μ x) i.toNatClampNeg (some y) j)) = va_up (fun j => (gR μ x j).map (gA adK μ)) i.toNatClampNeg (some (gA adK μ y)) := by
      funext j
      unfold va_up
      by_cases e : j = i.toNatClampNeg
      · rw [if_pos e, if_pos e]; rfl
      · rw [if_neg e, if_neg e]
    rw [ef]
  have hset := jws_set hW.2.2 hq0 (sFR_all μ x i.toNatClampNeg w) (sFR_A adK _ _ _ _) (jce_sFR (cid := cid) hT0 hsd)
  rw [e9] at hset
  rw [hset] at hP1 hD1
  have := k p l e s m args below meth c H1 locs1 cells slots ls D cid adK adV base hC ⟨hP1, hD1, jWF_sFR hW.2.2 hT0 hsd (fun z hz => by cases hz; omega)⟩ hS1 (by rw [jlv_sFR]; exact hl) h1 h2
  rw [jcv_sFR] at this
  exact this
theorem go_aast26 {x y : jId} {i : Int32} {n : Nat} {w : Option Nat} (hd : decode M.2.2.1 pc = .ok (.aastore, 1)) (hT : gT μ x = 26) (hTy : gT μ y = 1) (hN : gN μ x = n) (hi : vp_in i n) (hsd : jside x (some y) w) (k : Go M d mc ms kc ks (pc + 1) L st (sFR μ x i.toNatClampNeg w) Q) : Go M d mc ms kc ks pc L (.inr (.inr (some y)) :: .inl i :: .inr (.inr (some x)) :: st) μ Q := by
  intro p l e s m args below meth c H locs cells slots ls D cid adK adV base hC hW hS hl h1 h2
  have hT0 : gT μ x ≠ 0 := by omega
  obtain ⟨q, hq0, hq⟩ := jws_at (adK := adK) (cid := cid) hW.2.2 (x := x) hT0
  obtain ⟨qy, -, hqy⟩ := jws_at (adK := adK) (cid := cid) hW.2.2 (x := y) (by omega)
  rw [jce_ref (t := 26) hT (by omega)] at hq
  rw [jce_obj hTy (by omega)] at hqy
  obtain ⟨qc, ty0, hqc, -, -, -, -, -, hcn⟩ := jclf 0 (by omega)
  refine va_astq (r := qc) hC.1 hC.2.1 hC.2.2.2.2.2.2.2.2.2.1 hW.1 hW.2.1 hS q 6 qy 0 hq (by rw [hcn]; rfl) hqy hqc (by rw [hN]; exact hi) hd (fun H1 locs1 hP1 hD1 hS1 => ?_)
  have e9 : jce adK cid (sFR μ x i.toNatClampNeg w) x = .inl (cid 6, gN μ x, .inr (.inr (.inr (.inr (va_up (fun j => (gR μ x j).map (gA adK μ)) i.toNatClampNeg (some (gA adK μ y))))))) := by
    rw [jce_ref (t := 26) (by rw [sFR_T]; exact hT) (by omega), (sFR_R μ x i.toNatClampNeg (some y) w hT0 hsd).1, sFR_A, sFR_N]
    have ef : (fun j => Option.map (gA adK μ) (va_up (gR μ x) i.toNatClampNeg (some y) j)) = va_up (fun j => (gR μ x j).map (gA adK μ)) i.toNatClampNeg (some (gA adK μ y)) := by
      funext j
      unfold va_up
      by_cases e : j = i.toNatClampNeg
      · rw [if_pos e, if_pos e]; rfl
      · rw [if_neg e, if_neg e]
    rw [ef]
  have hset := jws_set hW.2.2 hq0 (sFR_all μ x i.toNatClampNeg w) (sFR_A adK _ _ _ _) (jce_sFR (cid := cid) hT0 hsd)
  rw [e9] at hset
  rw [hset] at hP1 hD1
  have := k p l e s m args below meth c H1 locs1 cells slots ls D cid adK adV base hC ⟨hP1, hD1, jWF_sFR hW.2.2 hT0 hsd (fun z hz => by cases hz; omega)⟩ hS1 (by rw [jlv_sFR]; exact hl) h1 h2
  rw [jcv_sFR] at this
  exact this
end MAKE
