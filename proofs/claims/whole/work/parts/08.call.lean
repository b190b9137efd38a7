def jargs : Nat → List jV → List (Nat × jV)
  | _, [] => []
  | n, v :: r => (n, v) :: jargs (cond (jis2 v) (n + 2) (n + 1)) r
def jwd (A : List jV) : Nat := (A.map (fun v => if jis2 v then 2 else 1)).sum
theorem jcat2 (adK : Nat → Nat) (μ : jMem) (x : jV) : (jcv adK μ x).category = if jis2 x then 2 else 1 := by
  rcases x with x | x | (_ | x) <;> rfl
theorem jargs_map (adK : Nat → Nat) (μ : jMem) : ∀ (n : Nat) (A : List jV), lv_args n (A.map (jcv adK μ)) = (jargs n A).map (jlv adK μ)
  | _, [] => rfl
  | n, v :: r => by
    show (n, jcv adK μ v) :: lv_args (if (jcv adK μ v).category = 2 then n + 2 else n + 1) (r.map (jcv adK μ)) = (n, jcv adK μ v) :: (jargs (cond (jis2 v) (n + 2) (n + 1)) r).map (jlv adK μ)
    rw [← jargs_map adK μ _ r]
    congr 2
    rcases v with x | x | (_ | x) <;> rfl
theorem jwd_len (adK : Nat → Nat) (μ : jMem) : ∀ A : List jV, (lg_sl (A.map (jcv adK μ))).length = jwd A
  | [] => rfl
  | v :: r => by
    have h := jwd_len adK μ r
    unfold lg_sl at h ⊢
    rw [List.map_cons, List.flatMap_cons, List.length_append, h]
    unfold jwd
    rw [List.map_cons, List.sum_cons]
    congr 1
    rcases v with x | x | (_ | x) <;> rfl
/-- a method's contract: called so, in that memory, its answer and the memory then are as Q says -/
def RetQ (M : jM) (d mc ms : Nat) (A : List jV) (μ : jMem) (Q : Option jV → jMem → Prop) : Prop :=
  ∀ (l : Launch) (D : va_G) (cid : Nat → ClassId) (adK adV : Nat → Nat) (base : Nat), Met l M.2.1 (jwords M) (jRm d mc ms) (va_Pc (A.map (jcv adK μ)) (fun U => jWd D cid adK base μ U.heap ∧ base ≤ U.heap.size ∧ va_K D jcl (jtys cid) U ∧ jOut adK adV base U U.heap)) (jQ D cid adK adV base Q) mc ms (fun q => base ≤ q)
/-- it answers v, and the memory is μ1 then -/
def Ret (M : jM) (d mc ms : Nat) (A : List jV) (μ : jMem) (v : Option jV) (μ1 : jMem) : Prop := RetQ M d mc ms A μ (eqQ v μ1)
theorem RetQ.of {M : jM} {d mc ms : Nat} {A : List jV} {μ : jMem} {Q : Option jV → jMem → Prop} (hp : plainName M.2.1.cls = true) (hw : jwd A ≤ M.2.2.2.1) (h : Go M d mc ms mc ms 0 (jargs 0 A) [] μ Q) : RetQ M d mc ms A μ Q := by
  intro l D cid adK adV base
  refine Met.ofW (cc := M.2.2.1) (maxL := M.2.2.2.1) (ret := M.2.2.2.2) hp rfl ?_
  intro p e s m args below meth c s₁ B hml hv
  obtain ⟨rfl, hW, hbs, hK, hO⟩ := hv
  have hl := lv_entry (A.map (jcv adK μ)) (n := M.2.2.2.1) (by rw [jwd_len]; exact hw)
  rw [lg_entry_eq]
  rw [jargs_map] at hl
  exact h p l e s m _ below meth c s.heap [] 0 0 _ D cid adK adV base ⟨B.exec, B.bytes, hml, B.returns, atoms_spec (ws := jwords M) B.pre, findClass_of_methodNamed B.named, B.notSynchronized, (name_of_methodNamed B.named B.method).1, hbs, hK, hO⟩ hW va_S.rf hl (by omega) (by omega)
theorem Ret.of {M : jM} {d mc ms : Nat} {A : List jV} {μ : jMem} {v : Option jV} {μ1 : jMem} (hp : plainName M.2.1.cls = true) (hw : jwd A ≤ M.2.2.2.1) (h : Go M d mc ms mc ms 0 (jargs 0 A) [] μ (eqQ v μ1)) : Ret M d mc ms A μ v μ1 := RetQ.of hp hw h
theorem jnw_f {q : Nat × Nat × Nat × Nat × Nat} {s U : State} (hW : s.WarmedH U.vm) (h : va_Nw (jfc q) s) : va_Nw (jfc q) U := by
  unfold jfc at h ⊢
  cases hc : jcl[q.2.2.1]? with
  | none => rw [hc] at h; exact word_at hW (Or.inl rfl) h
  | some c =>
    rw [hc] at h
    by_cases hz : q.2.2.2.2 = 0
    · simp only [hz, if_pos] at h ⊢
      exact word_at hW (Or.inl rfl) h
    · simp only [if_neg hz] at h ⊢
      exact va_Nw.warmF hW h
theorem jnw_m {q : Nat × Nat × jM × Nat} {s U : State} (hW : s.WarmedH U.vm) (h : va_Nw (jmc q) s) : va_Nw (jmc q) U := by
  unfold jmc at h ⊢
  by_cases hz : q.2.2.2 = 0
  · simp only [hz, if_pos] at h ⊢
    exact word_at hW (Or.inl rfl) h
  · simp only [if_neg hz] at h ⊢
    exact va_Nw.warmM hW h
theorem jAOA.moved {u U : State} (hvm : u.vm.Alike U.vm) (h : jAOA u) : jAOA U := by
  obtain ⟨comp, c, k, h1, h2, h3, h4, h5⟩ := arrayOverA_spec h
  obtain ⟨k', hk', he⟩ := hvm.2.2 _ _ h3
  have hi : (U.vm.classes.findIdx? fun (x : Class) => match x.kind with | .array component _ => component == comp | _ => false) = some c := by
    rw [hvm.findIdx?_eq _ (fun _ => rfl)]
    exact h2
  have hkind : k'.kind = .array comp (.array .int) := by rw [he]; exact h4
  have f1 : U.vm.findClass (FieldType.array .int).toString = some comp := by rw [hvm.findClass]; exact h1
  have f2 : U.vm.findClass ("[" ++ (FieldType.array .int).toString) = some c := by rw [hvm.findClass]; exact h5
  unfold jAOA Cond.before Cond.holds
  simp only [Cond.value]
  rw [f1, Option.bind_some]
  refine (congrArg (fun o : Option Nat => (o.bind (fun c => (U.vm.classes[c]?).map fun (k : Class) => match k.kind with | .array _ ty => decide (ty = FieldType.array .int) && decide (U.vm.findClass ("[" ++ (FieldType.array .int).toString) = some c) | _ => false) == some true)) hi).trans ?_
  simp [hk', hkind, f2]
theorem jStr.moved {adK adV : Nat → Nat} {base : Nat} {u U : State} {H : Heap} (hvm : u.vm.Alike U.vm) (h : jStr adK adV base u H) : jStr adK adV base U H :=
  ⟨h.1, va_Z.moved hvm h.2.1, h.2.2.elim (fun z => Or.inl (va_Z.moved hvm z)) (fun z => Or.inr (va_Z.moved hvm z))⟩
theorem jStr.kept {adK adV : Nat → Nat} {base : Nat} {U : State} {H H1 : Heap} (h : jStr adK adV base U H) (hq : ∀ a : Nat, a < H.size → ¬ base ≤ a → H1[a]? = H[a]?) : jStr adK adV base U H1 :=
  ⟨h.1, h.2.1.kept hq, h.2.2.elim (fun z => Or.inl (z.kept hq)) (fun z => Or.inr (z.kept hq))⟩
theorem jOut.warm {adK adV : Nat → Nat} {base : Nat} {s U : State} {H : Heap} {locs : List Loc} (h : jOut adK adV base s s.heap) (hW : s.WarmedH U.vm) (hS : va_S (fun q => base ≤ q) s.heap H locs) (hU : U.heap = H) : jOut adK adV base U U.heap :=
  ⟨vk_S.moved hW.alike (vk_S.kept h.1 (fun a ha hn => by rw [hU]; exact hS.2.1 a ha hn)), fun q hq => (h.2.1 q hq).warm hW, fun q hq => jnw_f hW (h.2.2.1 q hq), fun q hq => jnw_m hW (h.2.2.2.1 q hq), va_AO.moved hW.alike h.2.2.2.2.1, va_AO.moved hW.alike h.2.2.2.2.2.1, va_AO.moved hW.alike h.2.2.2.2.2.2.1, jAOA.moved hW.alike h.2.2.2.2.2.2.2.1, (h.2.2.2.2.2.2.2.2.kept (fun a ha hn => by rw [hU]; exact hS.2.1 a ha hn)).moved hW.alike⟩
theorem jot_f (q : Nat × Nat × Nat × Nat × Nat) : (jfc q).onTables = true := by
  unfold jfc
  split
  · split <;> rfl
  · rfl
theorem jot_m (q : Nat × Nat × jM × Nat) : (jmc q).onTables = true := by
  unfold jmc
  split <;> rfl
theorem jblind {A : List Value} {D : va_G} {cid : Nat → ClassId} {adK adV : Nat → Nat} {base : Nat} {μ : jMem} : FrameBlind (va_Pc A (fun U => jWd D cid adK base μ U.heap ∧ base ≤ U.heap.size ∧ va_K D jcl (jtys cid) U ∧ jOut adK adV base U U.heap)) := by
  intro a U g mk h
  obtain ⟨h1, h2, h3, h4, h5⟩ := h
  refine ⟨h1, h2, h3, va_K.moved (u := U) (U := U.calling g mk a) (Vm.Alike.refl U.vm) h4, vk_S.moved (u := U) (Vm.Alike.refl U.vm) h5.1, fun q hq => vk_R.same (u := U) rfl (h5.2.1 q hq), fun q hq => ?_, fun q hq => ?_, h5.2.2.2.2.1, h5.2.2.2.2.2.1, h5.2.2.2.2.2.2.1, h5.2.2.2.2.2.2.2.1, jStr.moved (u := U) (Vm.Alike.refl U.vm) h5.2.2.2.2.2.2.2.2⟩
  · exact va_Nw.same (u := U) (jot_f q) rfl (h5.2.2.1 q hq)
  · exact va_Nw.same (u := U) (jot_m q) rfl (h5.2.2.2.1 q hq)
theorem jcall {p : Program} {l : Launch} {e : Env} {R : Room} {s : State} {m : MethodId} {args : Array Value} {below : List Frame} {meth : Method} {c : Code} {H : Heap} {locs : List Loc} {cells slots mc ms pc base : Nat} {Qs : State → Prop} {ls : Array Slot} {st0 rest : List Value} {D : va_G} {cid : Nat → ClassId} {adK adV : Nat → Nat} {Q' : Option jV → jMem → Prop} {a : Array Value}
    (hr : va_Run p l e R s m args below meth c H locs cells slots mc ms (F0 m pc ls st0) rest (jQ D cid adK adV base Q' a) (fun q => base ≤ q)) (hS : va_S (fun q => base ≤ q) s.heap H locs)
    (kk : ∀ (v : Option jV) (μ1 : jMem) (H1 : Heap) (locs1 : List Loc), Q' v μ1 → jWd D cid adK base μ1 H1 → va_S (fun q => base ≤ q) s.heap H1 locs1 → W p l e R s m args below meth c H1 locs1 (cells + mc) (slots + ms) Qs (F0 m (pc + 3) ls ((v.map (jcv adK μ1)).toList ++ rest))) : W p l e R s m args below meth c H locs cells slots Qs (F0 m pc ls st0) := by
  intro T hT X
  obtain ⟨v0, st₀, t, T', L, h0, X', hL, e1, e2, ⟨v, μ1, hq, hv, hw, hz, hk⟩, st⟩ := hr T hT X
  have hv0 : v0 = v.map (jcv adK μ1) := by injection hv
  subst hv0
  rw [h0] at hz hk
  obtain ⟨t2, a1, b1⟩ := kk v μ1 T'.heap (locs ++ L) hq (by rw [e1]; exact hw) ⟨Nat.le_trans hS.1 (by rw [e1]; exact hz), fun q h1 h2 => by rw [e1, hk q (Nat.lt_of_lt_of_le h1 hS.1) h2]; exact hS.2.1 q h1 h2, fun q hq => by
      rcases List.mem_append.mp hq with h | h
      · exact hS.2.2 q h
      · exact hL q h⟩ T' rfl X'
  exact ⟨t2, st t2 a1, b1⟩
def jwV (M : jM) (n : Nat) : Prop := Cond.instanceMethod M.2.1 ∈ lw_tbl ∧ Cond.selects M.2.1.cls M.2.1 M.2.1 ∈ lw_tbl ∧ Cond.initialized M.2.1.cls ∈ lw_tbl ∧ jcode M ∈ lw_tbl ∧ M.2.1.cls ≠ "java/lang/invoke/MethodHandle" ∧ M.2.1.cls ≠ "java/lang/invoke/VarHandle" ∧ (parseMethodDescriptor M.2.1.desc).map (fun d => d.parameters.length) = some n ∧ M.2.2.2.1 ≤ 40
def jwS (M : jM) (n : Nat) : Prop := Cond.static M.2.1 ∈ lw_tbl ∧ Cond.initialized M.2.1.cls ∈ lw_tbl ∧ jcode M ∈ lw_tbl ∧ M.2.1.cls ≠ "java/lang/invoke/MethodHandle" ∧ M.2.1.cls ≠ "java/lang/invoke/VarHandle" ∧ (parseMethodDescriptor M.2.1.desc).map (fun d => d.parameters.length) = some n ∧ M.2.2.2.1 ≤ 40
def jwI (M : jM) (n : Nat) : Prop := Cond.instanceMethod M.2.1 ∈ lw_tbl ∧ Cond.initialized M.2.1.cls ∈ lw_tbl ∧ jcode M ∈ lw_tbl ∧ M.2.1.cls ≠ "java/lang/invoke/MethodHandle" ∧ M.2.1.cls ≠ "java/lang/invoke/VarHandle" ∧ (parseMethodDescriptor M.2.1.desc).map (fun d => d.parameters.length) = some n ∧ M.2.2.2.1 ≤ 40 ∧ M.2.1.name = "<init>" ∧ M.2.2.2.2 = none
theorem jgoodIn {M M' : jM} (h : jcode M' ∈ lw_tbl) : GoodIn (jwords M) (jwords M') := by
  intro w hw
  rcases List.mem_cons.mp hw with rfl | hw
  · exact ⟨jw_mem h rfl, Or.inl rfl⟩
  · exact ⟨List.mem_cons_of_mem _ hw, good_of_word (List.mem_filter.mp hw).2⟩
theorem jmlink {M : jM} {idx z : Nat} {M' : jM} {args : Array Value} {s : State} {adK adV : Nat → Nat} {base : Nat} (hl : (M.1, idx, M', z) ∈ jml) (hts : ∀ w ∈ jwords M, w.before args s = true) (hO : jOut adK adV base s s.heap) :
    (z = 0 → (Cond.methodLink (jcn M.1) idx M'.2.1).before args s = true) ∧ (z ≠ 0 → va_Nw (.methodLinkNest (jcn M.1) idx M'.2.1 "MusicChairs") s) := by
  have hN := hO.2.2.2.1 _ hl
  have hm := jml_in _ hl
  unfold jmc at hN hm
  refine ⟨fun h => ?_, fun h => ?_⟩
  · simp only [h, if_pos] at hm
    exact hts _ (jw_mem hm rfl)
  · simp only [if_neg h] at hN
    exact hN
section CALL
variable {M : jM} {d mc ms kc ks pc : Nat} {L : List (Nat × jV)} {st : List jV} {μ : jMem} {Q : Option jV → jMem → Prop}
/-- a call of a method of an object of the class ci -/
theorem go_callVQ {idx z n ci d' mc' ms' kc' ks' : Nat} {M' : jM} {A st0 : List jV} {x : jId} {Q' : Option jV → jMem → Prop} (hd : decode M.2.2.1 pc = .ok (.invokevirtual idx, 3)) (hl0 : (M.1, idx, M', z) ∈ jml) (hc0 : M.2.1.cls = jcn M.1) (hM : jwV M' n) (hn : A.length = n) (hci : ci < 12) (hcl : M'.2.1.cls = jcn ci) (hT : gT μ x = ci + 1)
    (hR : RetQ M' d' mc' ms' (.inr (.inr (some x)) :: A) μ Q') (hdd : d' + 1 ≤ d) (hkc : mc' + kc' = kc) (hks : ms' + ks' = ks) (hst : jwd st ≤ 8) (hst0 : st0 = A.reverse ++ .inr (.inr (some x)) :: st) (hag : ∀ v' μ', Q' v' μ' → ∀ adK, st.map (jcv adK μ') = st.map (jcv adK μ) ∧ L.map (jlv adK μ') = L.map (jlv adK μ))
    (k : ∀ v' μ', Q' v' μ' → Go M d mc ms kc' ks' (pc + 3) L (v'.toList ++ st) μ' Q) : Go M d mc ms kc ks pc L st0 μ Q := by
  subst hst0
  intro p l e s m args below meth c H locs cells slots ls D cid adK adV base hC hW hS hl h1 h2
  obtain ⟨hx, hb, hml, hr, hts, hown, hlocks, hmn, hbs, hK, hO⟩ := id hC
  rw [hc0] at hown
  obtain ⟨w1, w2, w3, w4, w5, w6, w7, w8⟩ := hM
  obtain ⟨q, ty0, hq, hnq, -, -, -, -, hcn⟩ := jclf ci hci
  obtain ⟨i, -, hi⟩ := jws_at (adK := adK) (cid := cid) hW.2.2 (x := x) (by omega)
  rw [jce_obj hT hci] at hi
  have hrec := va_recv hK hW.1 hq hi
  rw [hcn, ← hcl] at hrec
  have hlk := jmlink hl0 hts hO
  have hRm : (jRm d' mc' ms').frames + 1 ≤ (jRm d mc ms).frames ∧ 8 + (M'.2.2.2.1 + 11) + (jRm d' mc' ms').locals ≤ (jRm d mc ms).locals := ⟨hdd, by show 8 + (M'.2.2.2.1 + 11) + 64 * d' ≤ 64 * d; omega⟩
  have hpre : PreV s H M'.2.1.cls (gA adK μ x) (va_Pc ((.inr (.inr (some x)) :: A : List jV).map (jcv adK μ)) (fun U => jWd D cid adK base μ U.heap ∧ base ≤ U.heap.size ∧ va_K D jcl (jtys cid) U ∧ jOut adK adV base U U.heap)) (A.map (jcv adK μ)) :=
    ⟨jblind, hrec, fun U hU hWU => ⟨rfl, by rw [hU]; exact hW, by rw [hU]; exact Nat.le_trans hbs hS.1, va_K.moved hWU.alike hK, hO.warm hWU hS hU⟩⟩
  have hstk : (F0 m pc ls ((A.reverse ++ .inr (.inr (some x)) :: st).map (jcv adK μ))).stack = (A.map (jcv adK μ)).reverse ++ .ref (gA adK μ x) :: st.map (jcv adK μ) := by
    show (A.reverse ++ .inr (.inr (some x)) :: st).map (jcv adK μ) = _
    rw [List.map_append, List.map_reverse]; rfl
  have hwd : ((st.map (jcv adK μ)).map fun v => v.category).sum ≤ 8 := by
    have e : (st.map (jcv adK μ)).map (fun v => v.category) = st.map (fun v => if jis2 v then 2 else 1) := by
      rw [List.map_map]; apply List.map_congr_left; intro y _; exact jcat2 adK μ y
    rw [e]; exact hst
  have hrun : va_Run p l e (jRm d mc ms) s m args below meth c H locs cells slots mc' ms' (F0 m pc ls ((A.reverse ++ .inr (.inr (some x)) :: st).map (jcv adK μ))) (st.map (jcv adK μ)) (jQ D cid adK adV base Q' (Value.ref (gA adK μ x) :: A.map (jcv adK μ)).toArray) (fun q => base ≤ q) := by
    by_cases hz : z = 0
    · exact va_runV (nL := M.2.2.2.1) (Ts := jwords M) ⟨hx, hb, hml, hown, hts⟩ (hR l D cid adK adV base) ⟨callB_of n hts (jgoodIn w4) rfl rfl rfl (hts _ (jw_mem w3 rfl)) (hlk.1 hz) ⟨w5, w6, w7⟩ hRm, hts _ (jw_mem w1 rfl), hts _ (jw_mem w2 rfl)⟩ hpre rfl (by rw [List.length_map]; exact hn) hl.1 hstk (lv_room hwd) hd ⟨by show cells + mc' ≤ mc; omega, by show slots + ms' ≤ ms; omega⟩
    · exact va_runVN (nL := M.2.2.2.1) (Ts := jwords M) ⟨hx, hb, hml, hown, hts⟩ (hR l D cid adK adV base) ⟨va_cnB n hts (jgoodIn w4) rfl rfl rfl (hlk.2 hz) (hts _ (jw_mem w3 rfl)) ⟨w5, w6, w7⟩ hRm, hts _ (jw_mem w1 rfl), hts _ (jw_mem w2 rfl)⟩ hpre rfl (by rw [List.length_map]; exact hn) hl.1 hstk (lv_room hwd) hd ⟨by show cells + mc' ≤ mc; omega, by show slots + ms' ≤ ms; omega⟩
  refine jcall hrun hS (fun v' μ' H1 locs1 hq1 hW1 hS1 => ?_)
  have := k v' μ' hq1 p l e s m args below meth c H1 locs1 (cells + mc') (slots + ms') ls D cid adK adV base hC hW1 hS1 (by rw [(hag v' μ' hq1 adK).2]; exact hl) (by omega) (by omega)
  rw [List.map_append, (hag v' μ' hq1 adK).1] at this
  cases v' <;> exact this
theorem go_callSQ {idx z n d' mc' ms' kc' ks' : Nat} {M' : jM} {A st0 : List jV} {Q' : Option jV → jMem → Prop} (hd : decode M.2.2.1 pc = .ok (.invokestatic idx, 3)) (hl0 : (M.1, idx, M', z) ∈ jml) (hc0 : M.2.1.cls = jcn M.1) (hM : jwS M' n) (hn : A.length = n)
    (hR : RetQ M' d' mc' ms' A μ Q') (hdd : d' + 1 ≤ d) (hkc : mc' + kc' = kc) (hks : ms' + ks' = ks) (hst : jwd st ≤ 8) (hst0 : st0 = A.reverse ++ st) (hag : ∀ v' μ', Q' v' μ' → ∀ adK, st.map (jcv adK μ') = st.map (jcv adK μ) ∧ L.map (jlv adK μ') = L.map (jlv adK μ))
    (k : ∀ v' μ', Q' v' μ' → Go M d mc ms kc' ks' (pc + 3) L (v'.toList ++ st) μ' Q) : Go M d mc ms kc ks pc L st0 μ Q := by
  subst hst0
  intro p l e s m args below meth c H locs cells slots ls D cid adK adV base hC hW hS hl h1 h2
  obtain ⟨hx, hb, hml, hr, hts, hown, hlocks, hmn, hbs, hK, hO⟩ := id hC
  rw [hc0] at hown
  obtain ⟨w1, w3, w4, w5, w6, w7, w8⟩ := hM
  have hlk := jmlink hl0 hts hO
  have hRm : (jRm d' mc' ms').frames + 1 ≤ (jRm d mc ms).frames ∧ 8 + (M'.2.2.2.1 + 11) + (jRm d' mc' ms').locals ≤ (jRm d mc ms).locals := ⟨hdd, by show 8 + (M'.2.2.2.1 + 11) + 64 * d' ≤ 64 * d; omega⟩
  have hpre : PreS s H (va_Pc (A.map (jcv adK μ)) (fun U => jWd D cid adK base μ U.heap ∧ base ≤ U.heap.size ∧ va_K D jcl (jtys cid) U ∧ jOut adK adV base U U.heap)) (A.map (jcv adK μ)) :=
    ⟨jblind, fun U hU hWU => ⟨rfl, by rw [hU]; exact hW, by rw [hU]; exact Nat.le_trans hbs hS.1, va_K.moved hWU.alike hK, hO.warm hWU hS hU⟩⟩
  have hstk : (F0 m pc ls ((A.reverse ++ st).map (jcv adK μ))).stack = (A.map (jcv adK μ)).reverse ++ st.map (jcv adK μ) := by
    show (A.reverse ++ st).map (jcv adK μ) = _
    rw [List.map_append, List.map_reverse]
  have hwd : ((st.map (jcv adK μ)).map fun v => v.category).sum ≤ 8 := by
    have e : (st.map (jcv adK μ)).map (fun v => v.category) = st.map (fun v => if jis2 v then 2 else 1) := by
      rw [List.map_map]; apply List.map_congr_left; intro y _; exact jcat2 adK μ y
    rw [e]; exact hst
  have hrun : va_Run p l e (jRm d mc ms) s m args below meth c H locs cells slots mc' ms' (F0 m pc ls ((A.reverse ++ st).map (jcv adK μ))) (st.map (jcv adK μ)) (jQ D cid adK adV base Q' (A.map (jcv adK μ)).toArray) (fun q => base ≤ q) := by
    by_cases hz : z = 0
    · exact va_runS (nL := M.2.2.2.1) (Ts := jwords M) ⟨hx, hb, hml, hown, hts⟩ (hR l D cid adK adV base) ⟨callB_of n hts (jgoodIn w4) rfl rfl rfl (hts _ (jw_mem w3 rfl)) (hlk.1 hz) ⟨w5, w6, w7⟩ hRm, hts _ (jw_mem w1 rfl)⟩ hpre rfl (by rw [List.length_map]; exact hn) hl.1 hstk (lv_room hwd) hd ⟨by show cells + mc' ≤ mc; omega, by show slots + ms' ≤ ms; omega⟩
    · exact va_runSN (nL := M.2.2.2.1) (Ts := jwords M) ⟨hx, hb, hml, hown, hts⟩ (hR l D cid adK adV base) ⟨va_cnB n hts (jgoodIn w4) rfl rfl rfl (hlk.2 hz) (hts _ (jw_mem w3 rfl)) ⟨w5, w6, w7⟩ hRm, hts _ (jw_mem w1 rfl), trivial⟩ hpre rfl (by rw [List.length_map]; exact hn) hl.1 hstk (lv_room hwd) hd ⟨by show cells + mc' ≤ mc; omega, by show slots + ms' ≤ ms; omega⟩
  refine jcall hrun hS (fun v' μ' H1 locs1 hq1 hW1 hS1 => ?_)
  have := k v' μ' hq1 p l e s m args below meth c H1 locs1 (cells + mc') (slots + ms') ls D cid adK adV base hC hW1 hS1 (by rw [(hag v' μ' hq1 adK).2]; exact hl) (by omega) (by omega)
  rw [List.map_append, (hag v' μ' hq1 adK).1] at this
  cases v' <;> exact this
theorem go_callIQ {idx z n d' mc' ms' kc' ks' : Nat} {M' : jM} {A st0 : List jV} {x : jId} {Q' : Option jV → jMem → Prop} (hd : decode M.2.2.1 pc = .ok (.invokespecial idx, 3)) (hl0 : (M.1, idx, M', z) ∈ jml) (hc0 : M.2.1.cls = jcn M.1) (hM : jwI M' n) (hn : A.length = n)
    (hR : RetQ M' d' mc' ms' (.inr (.inr (some x)) :: A) μ Q') (hdd : d' + 1 ≤ d) (hkc : mc' + kc' = kc) (hks : ms' + ks' = ks) (hst : jwd st ≤ 8) (hst0 : st0 = A.reverse ++ .inr (.inr (some x)) :: st) (hag : ∀ v' μ', Q' v' μ' → ∀ adK, st.map (jcv adK μ') = st.map (jcv adK μ) ∧ L.map (jlv adK μ') = L.map (jlv adK μ))
    (k : ∀ v' μ', Q' v' μ' → Go M d mc ms kc' ks' (pc + 3) L (v'.toList ++ st) μ' Q) : Go M d mc ms kc ks pc L st0 μ Q := by
  subst hst0
  intro p l e s m args below meth c H locs cells slots ls D cid adK adV base hC hW hS hl h1 h2
  obtain ⟨hx, hb, hml, hr, hts, hown, hlocks, hmn, hbs, hK, hO⟩ := id hC
  rw [hc0] at hown
  obtain ⟨w1, w3, w4, w5, w6, w7, w8, w9, w10⟩ := hM
  have hlk := jmlink hl0 hts hO
  have hRm : (jRm d' mc' ms').frames + 1 ≤ (jRm d mc ms).frames ∧ 8 + (M'.2.2.2.1 + 11) + (jRm d' mc' ms').locals ≤ (jRm d mc ms).locals := ⟨hdd, by show 8 + (M'.2.2.2.1 + 11) + 64 * d' ≤ 64 * d; omega⟩
  have hpre : PreS s H (va_Pc ((.inr (.inr (some x)) :: A : List jV).map (jcv adK μ)) (fun U => jWd D cid adK base μ U.heap ∧ base ≤ U.heap.size ∧ va_K D jcl (jtys cid) U ∧ jOut adK adV base U U.heap)) (.ref (gA adK μ x) :: A.map (jcv adK μ)) :=
    ⟨jblind, fun U hU hWU => ⟨rfl, by rw [hU]; exact hW, by rw [hU]; exact Nat.le_trans hbs hS.1, va_K.moved hWU.alike hK, hO.warm hWU hS hU⟩⟩
  have hstk : (F0 m pc ls ((A.reverse ++ .inr (.inr (some x)) :: st).map (jcv adK μ))).stack = (A.map (jcv adK μ)).reverse ++ .ref (gA adK μ x) :: st.map (jcv adK μ) := by
    show (A.reverse ++ .inr (.inr (some x)) :: st).map (jcv adK μ) = _
    rw [List.map_append, List.map_reverse]; rfl
  have hwd : ((st.map (jcv adK μ)).map fun v => v.category).sum ≤ 8 := by
    have e : (st.map (jcv adK μ)).map (fun v => v.category) = st.map (fun v => if jis2 v then 2 else 1) := by
      rw [List.map_map]; apply List.map_congr_left; intro y _; exact jcat2 adK μ y
    rw [e]; exact hst
  have w4' : Cond.code M'.2.1 M'.2.2.1 M'.2.2.2.1 none ∈ lw_tbl := by have h := w4; unfold jcode at h; rw [w10] at h; exact h
  have hws : jwords M' = Cond.code M'.2.1 M'.2.2.1 M'.2.2.2.1 none :: jgt := by unfold jwords jcode; rw [w10]
  have hrun : va_Run p l e (jRm d mc ms) s m args below meth c H locs cells slots mc' ms' (F0 m pc ls ((A.reverse ++ .inr (.inr (some x)) :: st).map (jcv adK μ))) (st.map (jcv adK μ)) (jQ D cid adK adV base Q' (Value.ref (gA adK μ x) :: A.map (jcv adK μ)).toArray) (fun q => base ≤ q) := by
    by_cases hz : z = 0
    · exact va_runI (nL := M.2.2.2.1) (Ts := jwords M) ⟨hx, hb, hml, hown, hts⟩ (hR l D cid adK adV base) ⟨callB_of n hts (jgoodIn w4) hws rfl rfl (hts _ (jw_mem w3 rfl)) (hlk.1 hz) ⟨w5, w6, w7⟩ hRm, w9, hts _ (jw_mem w1 rfl)⟩ hpre rfl (by rw [List.length_map]; exact hn) hl.1 hstk (lv_room hwd) hd ⟨by show cells + mc' ≤ mc; omega, by show slots + ms' ≤ ms; omega⟩
    · exact va_runIN (nL := M.2.2.2.1) (Ts := jwords M) ⟨hx, hb, hml, hown, hts⟩ (hR l D cid adK adV base) ⟨va_cnB n hts (jgoodIn w4) hws rfl rfl (hlk.2 hz) (hts _ (jw_mem w3 rfl)) ⟨w5, w6, w7⟩ hRm, w9, hts _ (jw_mem w1 rfl)⟩ hpre rfl (by rw [List.length_map]; exact hn) hl.1 hstk (lv_room hwd) hd ⟨by show cells + mc' ≤ mc; omega, by show slots + ms' ≤ ms; omega⟩
  refine jcall hrun hS (fun v' μ' H1 locs1 hq1 hW1 hS1 => ?_)
  have := k v' μ' hq1 p l e s m args below meth c H1 locs1 (cells + mc') (slots + ms') ls D cid adK adV base hC hW1 hS1 (by rw [(hag v' μ' hq1 adK).2]; exact hl) (by omega) (by omega)
  rw [List.map_append, (hag v' μ' hq1 adK).1] at this
  cases v' <;> exact this
theorem jag {μ' : jMem} (h1 : μ'.1.2 = μ.1.2) (h2 : μ'.2.2 = μ.2.2) : ∀ adK, st.map (jcv adK μ') = st.map (jcv adK μ) ∧ L.map (jlv adK μ') = L.map (jlv adK μ) := by
  intro adK
  have e : gA adK μ' = gA adK μ := by
    funext x; rcases x with a | a | a
    · show μ'.1.2.2.2.2.1 a = μ.1.2.2.2.2.1 a; rw [h1]
    · show μ'.2.2.2.2.2.1 a = μ.2.2.2.2.2.1 a; rw [h2]
    · rfl
  have e2 : jcv adK μ' = jcv adK μ := by
    funext y; rcases y with y | y | (_ | y) <;> first | rfl | (show Value.ref (gA adK μ' y) = Value.ref (gA adK μ y); rw [e])
  have e3 : jlv adK μ' = jlv adK μ := by funext q; unfold jlv; rw [e2]
  rw [e2, e3]; exact ⟨rfl, rfl⟩
theorem go_callV {idx z n ci d' mc' ms' kc' ks' : Nat} {M' : jM} {A st0 : List jV} {x : jId} {v' : Option jV} {μ' : jMem} (hd : decode M.2.2.1 pc = .ok (.invokevirtual idx, 3)) (hl0 : (M.1, idx, M', z) ∈ jml) (hc0 : M.2.1.cls = jcn M.1) (hM : jwV M' n) (hn : A.length = n) (hci : ci < 12) (hcl : M'.2.1.cls = jcn ci) (hT : gT μ x = ci + 1)
    (hR : Ret M' d' mc' ms' (.inr (.inr (some x)) :: A) μ v' μ') (hdd : d' + 1 ≤ d) (hkc : mc' + kc' = kc) (hks : ms' + ks' = ks) (hst : jwd st ≤ 8) (hst0 : st0 = A.reverse ++ .inr (.inr (some x)) :: st) (hag : ∀ adK, st.map (jcv adK μ') = st.map (jcv adK μ) ∧ L.map (jlv adK μ') = L.map (jlv adK μ))
    (k : Go M d mc ms kc' ks' (pc + 3) L (v'.toList ++ st) μ' Q) : Go M d mc ms kc ks pc L st0 μ Q :=
  go_callVQ hd hl0 hc0 hM hn hci hcl hT hR hdd hkc hks hst hst0 (fun v2 μ2 h => by obtain ⟨rfl, rfl⟩ := h; exact hag) (fun v2 μ2 h => by obtain ⟨rfl, rfl⟩ := h; exact k)
theorem go_callS {idx z n d' mc' ms' kc' ks' : Nat} {M' : jM} {A st0 : List jV} {v' : Option jV} {μ' : jMem} (hd : decode M.2.2.1 pc = .ok (.invokestatic idx, 3)) (hl0 : (M.1, idx, M', z) ∈ jml) (hc0 : M.2.1.cls = jcn M.1) (hM : jwS M' n) (hn : A.length = n)
    (hR : Ret M' d' mc' ms' A μ v' μ') (hdd : d' + 1 ≤ d) (hkc : mc' + kc' = kc) (hks : ms' + ks' = ks) (hst : jwd st ≤ 8) (hst0 : st0 = A.reverse ++ st) (hag : ∀ adK, st.map (jcv adK μ') = st.map (jcv adK μ) ∧ L.map (jlv adK μ') = L.map (jlv adK μ))
    (k : Go M d mc ms kc' ks' (pc + 3) L (v'.toList ++ st) μ' Q) : Go M d mc ms kc ks pc L st0 μ Q :=
  go_callSQ hd hl0 hc0 hM hn hR hdd hkc hks hst hst0 (fun v2 μ2 h => by obtain ⟨rfl, rfl⟩ := h; exact hag) (fun v2 μ2 h => by obtain ⟨rfl, rfl⟩ := h; exact k)
end CALL
