abbrev jE : Type := Instr × Nat × Nat × Nat × Nat × jV
abbrev irm (x y : Int32) : Int32 := x - x / y * y
abbrev lrm (x y : Int64) : Int64 := x - x / y * y
abbrev iush (x y : Int32) : Int32 := (x.toUInt32 >>> (y.toUInt32 &&& Int32.toUInt32 31)).toInt32
def jgt : List Cond := lw_tbl.filter goodWord
def jwords (M : jM) : List Cond := jcode M :: jgt
def jRm (d mc ms : Nat) : Room := { frames := d, cells := mc, slots := ms, locals := 64 * d }
def jlen : List Nat := jtx.map (fun t => t.length)
def jbyt : List (List Int32) := jtx.map (fun t => t.toList.map (fun c => Int32.ofNat c.toNat))
def jAOA (U : State) : Prop := (Cond.arrayOver (.array .int)).before #[] U = true
/-- of texts: the byte row of the text t has the number t + 18; the two statics that are asked -/
def jStr (adK adV : Nat → Nat) (base : Nat) (U : State) (H : Heap) : Prop := (∀ t, t < 18 → adV t = adK (t + 18)) ∧ va_Z "java/lang/String" "COMPACT_STRINGS" "Z" (.int 1) (fun q => base ≤ q) U H ∧ (va_Z "jdk/internal/util/Preconditions" "SIOOBE_FORMATTER" "Ljava/util/function/BiFunction;" .null (fun q => base ≤ q) U H ∨ va_Z "jdk/internal/util/Preconditions" "SIOOBE_FORMATTER" "Ljava/util/function/BiFunction;" (.ref (adK 36)) (fun q => base ≤ q) U H)
/-- what stands outside: texts, links by the nest, array classes -/
def jOut (adK adV : Nat → Nat) (base : Nat) (U : State) (H : Heap) : Prop := vk_S 18 jlen jbyt adK adV (fun q => base ≤ q) U H ∧ (∀ q ∈ jsl, vk_R (jcn q.1) q.2.1 (jtx.getD q.2.2 "") (adK q.2.2) U) ∧ (∀ q ∈ jfl, va_Nw (jfc q) U) ∧ (∀ q ∈ jml, va_Nw (jmc q) U) ∧ va_AO RX4 U ∧ va_AO RX6 U ∧ va_AO RX0 U ∧ jAOA U ∧ jStr adK adV base U H
def jC (M : jM) (p : Program) (s : State) (m : MethodId) (args : Array Value) (meth : Method) (c : Code) (D : va_G) (cid : Nat → ClassId) (adK adV : Nat → Nat) (base : Nat) : Prop :=
  p.tables.exec = Jvm.exec ∧ c.code = M.2.2.1 ∧ c.maxLocals = M.2.2.2.1 ∧ meth.sig.returnType = M.2.2.2.2 ∧ (∀ w ∈ jwords M, w.before args s = true) ∧ s.vm.findClass M.2.1.cls = some m.cls ∧ meth.locks = false ∧ meth.name = M.2.1.name ∧ base ≤ s.heap.size ∧ va_K D jcl (jtys cid) s ∧ jOut adK adV base s s.heap
def jWd (D : va_G) (cid : Nat → ClassId) (adK : Nat → Nat) (base : Nat) (μ : jMem) (H : Heap) : Prop := va_P D jcl (jws adK cid μ) H ∧ va_D (fun q => base ≤ q) (jws adK cid μ) ∧ jWF μ
def jlv (adK : Nat → Nat) (μ : jMem) (q : Nat × jV) : Nat × Value := (q.1, jcv adK μ q.2)
/-- a method's end: its answer and the memory then are as Q says -/
def jQ (D : va_G) (cid : Nat → ClassId) (adK adV : Nat → Nat) (base : Nat) (Q : Option jV → jMem → Prop) : Array Value → State → Outcome → State → Prop := fun _ st o t =>
  ∃ (v : Option jV) (μ1 : jMem), Q v μ1 ∧ o = .returned (v.map (jcv adK μ1)) ∧ jWd D cid adK base μ1 t.heap ∧ va_F (fun q => base ≤ q) st t
def eqQ (v : Option jV) (μ1 : jMem) : Option jV → jMem → Prop := fun v2 μ2 => v2 = v ∧ μ2 = μ1
/-- from here on the method comes to its end; its answer and the memory then are as Q says -/
def Go (M : jM) (d mc ms kc ks pc : Nat) (L : List (Nat × jV)) (st : List jV) (μ : jMem) (Q : Option jV → jMem → Prop) : Prop :=
  ∀ (p : Program) (l : Launch) (e : Env) (s : State) (m : MethodId) (args : Array Value) (below : List Frame) (meth : Method) (c : Code) (H : Heap) (locs : List Loc) (cells slots : Nat) (ls : Array Slot) (D : va_G) (cid : Nat → ClassId) (adK adV : Nat → Nat) (base : Nat),
    jC M p s m args meth c D cid adK adV base → jWd D cid adK base μ H → va_S (fun q => base ≤ q) s.heap H locs → lv_has ls M.2.2.2.1 (L.map (jlv adK μ)) → cells + kc ≤ mc → slots + ks ≤ ms →
    W p l e (jRm d mc ms) s m args below meth c H locs cells slots (MQ below (jQ D cid adK adV base Q) args s mc ms (fun q => base ≤ q)) (F0 m pc ls (st.map (jcv adK μ)))
def jlu (L : List (Nat × jV)) (i : Nat) : Option jV := match L with
  | [] => none
  | q :: r => cond (Nat.beq q.1 i) (some q.2) (jlu r i)
def jis2 (v : jV) : Bool := match v with
  | .inr (.inl _) => true
  | _ => false
def jsv1 (L : List (Nat × jV)) (i : Nat) (v : jV) : List (Nat × jV) := (i, v) :: L.filter (fun q => !(Nat.beq q.1 i) && !(Nat.beq (q.1 + 1) i && jis2 q.2))
def jsv2 (L : List (Nat × jV)) (i : Nat) (v : jV) : List (Nat × jV) := (i, v) :: L.filter (fun q => !(Nat.beq q.1 i) && (!(Nat.beq q.1 (i + 1)) && !(Nat.beq (q.1 + 1) i && jis2 q.2)))
theorem jlu_mem : ∀ {L : List (Nat × jV)} {i : Nat} {v : jV}, jlu L i = some v → (i, v) ∈ L
  | [], i, v, h => by simp [jlu] at h
  | q :: r, i, v, h => by
    unfold jlu at h
    cases hb : Nat.beq q.1 i with
    | true =>
      rw [hb] at h
      have e : q.1 = i := Nat.eq_of_beq_eq_true hb
      have e2 : q.2 = v := Option.some.inj h
      have : q = (i, v) := Prod.ext e e2
      rw [this]; exact List.mem_cons_self
    | false => rw [hb] at h; exact List.mem_cons_of_mem _ (jlu_mem h)
theorem jcat (adK : Nat → Nat) (μ : jMem) (v : jV) : ((jcv adK μ v).category == 2) = jis2 v := by
  rcases v with x | x | (_ | x) <;> rfl
theorem jbeq (a b : Nat) : (a == b) = Nat.beq a b := by
  cases h : Nat.beq a b with
  | true => have e := Nat.eq_of_beq_eq_true h; subst e; exact beq_self_eq_true a
  | false =>
    apply beq_eq_false_iff_ne.mpr
    intro e; subst e
    rw [Nat.beq_refl] at h; cases h
theorem jsv1_map (adK : Nat → Nat) (μ : jMem) (L : List (Nat × jV)) (i : Nat) (v : jV) : (i, jcv adK μ v) :: (L.map (jlv adK μ)).filter (fun q => !(q.1 == i) && !(q.1 + 1 == i && q.2.category == 2)) = (jsv1 L i v).map (jlv adK μ) := by
  unfold jsv1
  rw [List.map_cons, List.filter_map]
  show _ = (i, jcv adK μ v) :: _
  congr 2
  apply List.filter_congr
  intro q _
  show (!(q.1 == i) && !(q.1 + 1 == i && (jcv adK μ q.2).category == 2)) = _
  rw [jcat, jbeq, jbeq]
theorem jsv2_map (adK : Nat → Nat) (μ : jMem) (L : List (Nat × jV)) (i : Nat) (v : jV) : (i, jcv adK μ v) :: (L.map (jlv adK μ)).filter (fun q => !(q.1 == i) && (!(q.1 == i + 1) && !(q.1 + 1 == i && q.2.category == 2))) = (jsv2 L i v).map (jlv adK μ) := by
  unfold jsv2
  rw [List.map_cons, List.filter_map]
  show _ = (i, jcv adK μ v) :: _
  congr 2
  apply List.filter_congr
  intro q _
  show (!(q.1 == i) && (!(q.1 == i + 1) && !(q.1 + 1 == i && (jcv adK μ q.2).category == 2))) = _
  rw [jcat, jbeq, jbeq, jbeq]
theorem jlu_at {adK : Nat → Nat} {μ : jMem} {L : List (Nat × jV)} {ls : Array Slot} {n i : Nat} {v : jV} (hl : lv_has ls n (L.map (jlv adK μ))) (h : jlu L i = some v) : ls[i]? = some (.val (jcv adK μ v)) :=
  hl.2.2 (i, jcv adK μ v) (List.mem_map.mpr ⟨(i, v), jlu_mem h, rfl⟩)
section PURE
variable {M : jM} {d mc ms kc ks pc : Nat} {L : List (Nat × jV)} {st : List jV} {μ : jMem} {Q : Option jV → jMem → Prop}
theorem go_push {i : Instr} {n : Nat} {x : jV} (h : ∀ (p : Program) (l : Launch) (e : Env) (s : State) (m : MethodId) (args : Array Value) (below : List Frame) (meth : Method) (c : Code) (H : Heap) (locs : List Loc) (cells slots : Nat) (ls : Array Slot) (D : va_G) (cid : Nat → ClassId) (adK adV : Nat → Nat) (base : Nat) (Qs : State → Prop) (rest : List Value), jC M p s m args meth c D cid adK adV base → lv_has ls M.2.2.2.1 (L.map (jlv adK μ)) →
    W p l e (jRm d mc ms) s m args below meth c H locs cells slots Qs (F0 m (pc + n) ls (jcv adK μ x :: rest)) → W p l e (jRm d mc ms) s m args below meth c H locs cells slots Qs (F0 m pc ls rest))
    (k : Go M d mc ms kc ks (pc + n) L (x :: st) μ Q) : Go M d mc ms kc ks pc L st μ Q := by
  intro p l e s m args below meth c H locs cells slots ls D cid adK adV base hC hW hS hl h1 h2
  exact h p l e s m args below meth c H locs cells slots ls D cid adK adV base _ _ hC hl (k p l e s m args below meth c H locs cells slots ls D cid adK adV base hC hW hS hl h1 h2)
theorem go_iconst {i : Int} {x : Int32} (hd : decode M.2.2.1 pc = .ok (.iconst i, 1)) (hv : Int32.ofInt i = x) (k : Go M d mc ms kc ks (pc + 1) L (.inl x :: st) μ Q) : Go M d mc ms kc ks pc L st μ Q :=
  go_push (i := .iconst i) (x := .inl x) (fun _ _ _ _ _ _ _ _ _ _ _ _ _ _ _ _ _ _ _ _ _ hC _ w => lv_iconst hC.1 hC.2.1 hd hv w) k
theorem go_bipush {i : Int} {x : Int32} (hd : decode M.2.2.1 pc = .ok (.bipush i, 2)) (hv : (Int8.ofInt i).toInt32 = x) (k : Go M d mc ms kc ks (pc + 2) L (.inl x :: st) μ Q) : Go M d mc ms kc ks pc L st μ Q :=
  go_push (i := .bipush i) (x := .inl x) (fun _ _ _ _ _ _ _ _ _ _ _ _ _ _ _ _ _ _ _ _ _ hC _ w => lv_bipush hC.1 hC.2.1 hd hv w) k
theorem go_sipush {i : Int} {x : Int32} (hd : decode M.2.2.1 pc = .ok (.sipush i, 3)) (hv : (Int16.ofInt i).toInt32 = x) (k : Go M d mc ms kc ks (pc + 3) L (.inl x :: st) μ Q) : Go M d mc ms kc ks pc L st μ Q :=
  go_push (i := .sipush i) (x := .inl x) (fun _ _ _ _ _ _ _ _ _ _ _ _ _ _ _ _ _ _ _ _ _ hC _ w => lv_sipush hC.1 hC.2.1 hd hv w) k
theorem go_lconst {i : Fin 2} {x : Int64} (hd : decode M.2.2.1 pc = .ok (.lconst i, 1)) (hv : Int64.ofNat (i : Nat) = x) (k : Go M d mc ms kc ks (pc + 1) L (.inr (.inl x) :: st) μ Q) : Go M d mc ms kc ks pc L st μ Q :=
  go_push (i := .lconst i) (x := .inr (.inl x)) (fun _ _ _ _ _ _ _ _ _ _ _ _ _ _ _ _ _ _ _ _ _ hC _ w => lv_lconst hC.1 hC.2.1 hd hv w) k
theorem go_null (hd : decode M.2.2.1 pc = .ok (.aconst_null, 1)) (k : Go M d mc ms kc ks (pc + 1) L (.inr (.inr none) :: st) μ Q) : Go M d mc ms kc ks pc L st μ Q :=
  go_push (i := .aconst_null) (x := .inr (.inr none)) (fun _ _ _ _ _ _ _ _ _ _ _ _ _ _ _ _ _ _ _ _ _ hC _ w => lv_null hC.1 hC.2.1 hd w) k
theorem go_iload_n {i : Fin 4} {a : Nat} {x : Int32} (hd : decode M.2.2.1 pc = .ok (.iload_n i, 1)) (ha : (i : Nat) = a) (hx : jlu L a = some (.inl x)) (k : Go M d mc ms kc ks (pc + 1) L (.inl x :: st) μ Q) : Go M d mc ms kc ks pc L st μ Q :=
  go_push (i := .iload_n i) (x := .inl x) (fun _ _ _ _ _ _ _ _ _ _ _ _ _ _ _ _ _ _ _ _ _ hC hl w => lv_iload_n hC.1 hC.2.1 hd ha (jlu_at hl hx) w) k
theorem go_iload {a : Nat} {x : Int32} (hd : decode M.2.2.1 pc = .ok (.iload a, 2)) (hx : jlu L a = some (.inl x)) (k : Go M d mc ms kc ks (pc + 2) L (.inl x :: st) μ Q) : Go M d mc ms kc ks pc L st μ Q :=
  go_push (i := .iload a) (x := .inl x) (fun _ _ _ _ _ _ _ _ _ _ _ _ _ _ _ _ _ _ _ _ _ hC hl w => lv_iload hC.1 hC.2.1 hd (jlu_at hl hx) w) k
theorem go_lload_n {i : Fin 4} {a : Nat} {x : Int64} (hd : decode M.2.2.1 pc = .ok (.lload_n i, 1)) (ha : (i : Nat) = a) (hx : jlu L a = some (.inr (.inl x))) (k : Go M d mc ms kc ks (pc + 1) L (.inr (.inl x) :: st) μ Q) : Go M d mc ms kc ks pc L st μ Q :=
  go_push (i := .lload_n i) (x := .inr (.inl x)) (fun _ _ _ _ _ _ _ _ _ _ _ _ _ _ _ _ _ _ _ _ _ hC hl w => lv_lload_n hC.1 hC.2.1 hd ha (jlu_at hl hx) w) k
theorem go_lload {a : Nat} {x : Int64} (hd : decode M.2.2.1 pc = .ok (.lload a, 2)) (hx : jlu L a = some (.inr (.inl x))) (k : Go M d mc ms kc ks (pc + 2) L (.inr (.inl x) :: st) μ Q) : Go M d mc ms kc ks pc L st μ Q :=
  go_push (i := .lload a) (x := .inr (.inl x)) (fun _ _ _ _ _ _ _ _ _ _ _ _ _ _ _ _ _ _ _ _ _ hC hl w => lv_lload hC.1 hC.2.1 hd (jlu_at hl hx) w) k
theorem go_aload_n {i : Fin 4} {a : Nat} {x : Option jId} (hd : decode M.2.2.1 pc = .ok (.aload_n i, 1)) (ha : (i : Nat) = a) (hx : jlu L a = some (.inr (.inr x))) (k : Go M d mc ms kc ks (pc + 1) L (.inr (.inr x) :: st) μ Q) : Go M d mc ms kc ks pc L st μ Q := by
  cases x with
  | none => exact go_push (i := .aload_n i) (x := .inr (.inr none)) (fun _ _ _ _ _ _ _ _ _ _ _ _ _ _ _ _ _ _ _ _ _ hC hl w => lv_aload_nN hC.1 hC.2.1 hd ha (jlu_at hl hx) w) k
  | some x => exact go_push (i := .aload_n i) (x := .inr (.inr (some x))) (fun _ _ _ _ _ _ _ _ _ _ _ _ _ _ _ _ _ _ _ _ _ hC hl w => lv_aload_n hC.1 hC.2.1 hd ha (jlu_at hl hx) w) k
theorem go_aload {a : Nat} {x : Option jId} (hd : decode M.2.2.1 pc = .ok (.aload a, 2)) (hx : jlu L a = some (.inr (.inr x))) (k : Go M d mc ms kc ks (pc + 2) L (.inr (.inr x) :: st) μ Q) : Go M d mc ms kc ks pc L st μ Q := by
  cases x with
  | none => exact go_push (i := .aload a) (x := .inr (.inr none)) (fun _ _ _ _ _ _ _ _ _ _ _ _ _ _ _ _ _ _ _ _ _ hC hl w => lv_aloadN hC.1 hC.2.1 hd (jlu_at hl hx) w) k
  | some x => exact go_push (i := .aload a) (x := .inr (.inr (some x))) (fun _ _ _ _ _ _ _ _ _ _ _ _ _ _ _ _ _ _ _ _ _ hC hl w => lv_aload hC.1 hC.2.1 hd (jlu_at hl hx) w) k
end PURE
section PURE2
variable {M : jM} {d mc ms kc ks pc : Nat} {L : List (Nat × jV)} {st : List jV} {μ : jMem} {Q : Option jV → jMem → Prop}
theorem go_st {n : Nat} {st0 st1 : List jV} (h : ∀ (p : Program) (l : Launch) (e : Env) (s : State) (m : MethodId) (args : Array Value) (below : List Frame) (meth : Method) (c : Code) (H : Heap) (locs : List Loc) (cells slots : Nat) (ls : Array Slot) (D : va_G) (cid : Nat → ClassId) (adK adV : Nat → Nat) (base : Nat) (Qs : State → Prop), jC M p s m args meth c D cid adK adV base →
    W p l e (jRm d mc ms) s m args below meth c H locs cells slots Qs (F0 m (pc + n) ls (st1.map (jcv adK μ))) → W p l e (jRm d mc ms) s m args below meth c H locs cells slots Qs (F0 m pc ls (st0.map (jcv adK μ))))
    (k : Go M d mc ms kc ks (pc + n) L st1 μ Q) : Go M d mc ms kc ks pc L st0 μ Q := by
  intro p l e s m args below meth c H locs cells slots ls D cid adK adV base hC hW hS hl h1 h2
  exact h p l e s m args below meth c H locs cells slots ls D cid adK adV base _ hC (k p l e s m args below meth c H locs cells slots ls D cid adK adV base hC hW hS hl h1 h2)
theorem go_iadd {x y : Int32} (hd : decode M.2.2.1 pc = .ok (.iadd, 1)) (k : Go M d mc ms kc ks (pc + 1) L (.inl (x + y) :: st) μ Q) : Go M d mc ms kc ks pc L (.inl y :: .inl x :: st) μ Q :=
  go_st (st0 := .inl y :: .inl x :: st) (st1 := .inl (x + y) :: st) (fun _ _ _ _ _ _ _ _ _ _ _ _ _ _ _ _ _ _ _ _ hC w => lv_iadd hC.1 hC.2.1 hd w) k
theorem go_isub {x y : Int32} (hd : decode M.2.2.1 pc = .ok (.isub, 1)) (k : Go M d mc ms kc ks (pc + 1) L (.inl (x - y) :: st) μ Q) : Go M d mc ms kc ks pc L (.inl y :: .inl x :: st) μ Q :=
  go_st (st0 := .inl y :: .inl x :: st) (st1 := .inl (x - y) :: st) (fun _ _ _ _ _ _ _ _ _ _ _ _ _ _ _ _ _ _ _ _ hC w => lv_isub hC.1 hC.2.1 hd w) k
theorem go_imul {x y : Int32} (hd : decode M.2.2.1 pc = .ok (.imul, 1)) (k : Go M d mc ms kc ks (pc + 1) L (.inl (x * y) :: st) μ Q) : Go M d mc ms kc ks pc L (.inl y :: .inl x :: st) μ Q :=
  go_st (st0 := .inl y :: .inl x :: st) (st1 := .inl (x * y) :: st) (fun _ _ _ _ _ _ _ _ _ _ _ _ _ _ _ _ _ _ _ _ hC w => lv_imul hC.1 hC.2.1 hd w) k
theorem go_iand {x y : Int32} (hd : decode M.2.2.1 pc = .ok (.iand, 1)) (k : Go M d mc ms kc ks (pc + 1) L (.inl (x &&& y) :: st) μ Q) : Go M d mc ms kc ks pc L (.inl y :: .inl x :: st) μ Q :=
  go_st (st0 := .inl y :: .inl x :: st) (st1 := .inl (x &&& y) :: st) (fun _ _ _ _ _ _ _ _ _ _ _ _ _ _ _ _ _ _ _ _ hC w => lv_iand hC.1 hC.2.1 hd w) k
theorem go_ior {x y : Int32} (hd : decode M.2.2.1 pc = .ok (.ior, 1)) (k : Go M d mc ms kc ks (pc + 1) L (.inl (x ||| y) :: st) μ Q) : Go M d mc ms kc ks pc L (.inl y :: .inl x :: st) μ Q :=
  go_st (st0 := .inl y :: .inl x :: st) (st1 := .inl (x ||| y) :: st) (fun _ _ _ _ _ _ _ _ _ _ _ _ _ _ _ _ _ _ _ _ hC w => lv_ior hC.1 hC.2.1 hd w) k
theorem go_ixor {x y : Int32} (hd : decode M.2.2.1 pc = .ok (.ixor, 1)) (k : Go M d mc ms kc ks (pc + 1) L (.inl (x ^^^ y) :: st) μ Q) : Go M d mc ms kc ks pc L (.inl y :: .inl x :: st) μ Q :=
  go_st (st0 := .inl y :: .inl x :: st) (st1 := .inl (x ^^^ y) :: st) (fun _ _ _ _ _ _ _ _ _ _ _ _ _ _ _ _ _ _ _ _ hC w => lv_ixor hC.1 hC.2.1 hd w) k
theorem go_ishl {x y : Int32} (hd : decode M.2.2.1 pc = .ok (.ishl, 1)) (k : Go M d mc ms kc ks (pc + 1) L (.inl (x <<< (y &&& 31)) :: st) μ Q) : Go M d mc ms kc ks pc L (.inl y :: .inl x :: st) μ Q :=
  go_st (st0 := .inl y :: .inl x :: st) (st1 := .inl (x <<< (y &&& 31)) :: st) (fun _ _ _ _ _ _ _ _ _ _ _ _ _ _ _ _ _ _ _ _ hC w => lv_ishl hC.1 hC.2.1 hd w) k
theorem go_ishr {x y : Int32} (hd : decode M.2.2.1 pc = .ok (.ishr, 1)) (k : Go M d mc ms kc ks (pc + 1) L (.inl (x >>> (y &&& 31)) :: st) μ Q) : Go M d mc ms kc ks pc L (.inl y :: .inl x :: st) μ Q :=
  go_st (st0 := .inl y :: .inl x :: st) (st1 := .inl (x >>> (y &&& 31)) :: st) (fun _ _ _ _ _ _ _ _ _ _ _ _ _ _ _ _ _ _ _ _ hC w => lv_ishr hC.1 hC.2.1 hd w) k
theorem go_iushr {x y : Int32} (hd : decode M.2.2.1 pc = .ok (.iushr, 1)) (k : Go M d mc ms kc ks (pc + 1) L (.inl (iush x y) :: st) μ Q) : Go M d mc ms kc ks pc L (.inl y :: .inl x :: st) μ Q :=
  go_st (st0 := .inl y :: .inl x :: st) (st1 := .inl (iush x y) :: st) (fun _ _ _ _ _ _ _ _ _ _ _ _ _ _ _ _ _ _ _ _ hC w => lv_iushr hC.1 hC.2.1 hd rfl w) k
theorem go_idiv {x y : Int32} (hd : decode M.2.2.1 pc = .ok (.idiv, 1)) (hz : ¬ y = 0) (k : Go M d mc ms kc ks (pc + 1) L (.inl (x / y) :: st) μ Q) : Go M d mc ms kc ks pc L (.inl y :: .inl x :: st) μ Q :=
  go_st (st0 := .inl y :: .inl x :: st) (st1 := .inl (x / y) :: st) (fun _ _ _ _ _ _ _ _ _ _ _ _ _ _ _ _ _ _ _ _ hC w => lv_idiv hC.1 hC.2.1 hd hz w) k
theorem go_irem {x y : Int32} (hd : decode M.2.2.1 pc = .ok (.irem, 1)) (hz : ¬ y = 0) (k : Go M d mc ms kc ks (pc + 1) L (.inl (irm x y) :: st) μ Q) : Go M d mc ms kc ks pc L (.inl y :: .inl x :: st) μ Q :=
  go_st (st0 := .inl y :: .inl x :: st) (st1 := .inl (irm x y) :: st) (fun _ _ _ _ _ _ _ _ _ _ _ _ _ _ _ _ _ _ _ _ hC w => lv_irem hC.1 hC.2.1 hd hz w) k
theorem go_ladd {x y : Int64} (hd : decode M.2.2.1 pc = .ok (.ladd, 1)) (k : Go M d mc ms kc ks (pc + 1) L (.inr (.inl (x + y)) :: st) μ Q) : Go M d mc ms kc ks pc L (.inr (.inl y) :: .inr (.inl x) :: st) μ Q :=
  go_st (st0 := .inr (.inl y) :: .inr (.inl x) :: st) (st1 := .inr (.inl (x + y)) :: st) (fun _ _ _ _ _ _ _ _ _ _ _ _ _ _ _ _ _ _ _ _ hC w => lv_ladd hC.1 hC.2.1 hd w) k
theorem go_lsub {x y : Int64} (hd : decode M.2.2.1 pc = .ok (.lsub, 1)) (k : Go M d mc ms kc ks (pc + 1) L (.inr (.inl (x - y)) :: st) μ Q) : Go M d mc ms kc ks pc L (.inr (.inl y) :: .inr (.inl x) :: st) μ Q :=
  go_st (st0 := .inr (.inl y) :: .inr (.inl x) :: st) (st1 := .inr (.inl (x - y)) :: st) (fun _ _ _ _ _ _ _ _ _ _ _ _ _ _ _ _ _ _ _ _ hC w => lv_lsub hC.1 hC.2.1 hd w) k
theorem go_lmul {x y : Int64} (hd : decode M.2.2.1 pc = .ok (.lmul, 1)) (k : Go M d mc ms kc ks (pc + 1) L (.inr (.inl (x * y)) :: st) μ Q) : Go M d mc ms kc ks pc L (.inr (.inl y) :: .inr (.inl x) :: st) μ Q :=
  go_st (st0 := .inr (.inl y) :: .inr (.inl x) :: st) (st1 := .inr (.inl (x * y)) :: st) (fun _ _ _ _ _ _ _ _ _ _ _ _ _ _ _ _ _ _ _ _ hC w => lv_lmul hC.1 hC.2.1 hd w) k
theorem go_land {x y : Int64} (hd : decode M.2.2.1 pc = .ok (.land, 1)) (k : Go M d mc ms kc ks (pc + 1) L (.inr (.inl (x &&& y)) :: st) μ Q) : Go M d mc ms kc ks pc L (.inr (.inl y) :: .inr (.inl x) :: st) μ Q :=
  go_st (st0 := .inr (.inl y) :: .inr (.inl x) :: st) (st1 := .inr (.inl (x &&& y)) :: st) (fun _ _ _ _ _ _ _ _ _ _ _ _ _ _ _ _ _ _ _ _ hC w => lv_land hC.1 hC.2.1 hd w) k
theorem go_lor {x y : Int64} (hd : decode M.2.2.1 pc = .ok (.lor, 1)) (k : Go M d mc ms kc ks (pc + 1) L (.inr (.inl (x ||| y)) :: st) μ Q) : Go M d mc ms kc ks pc L (.inr (.inl y) :: .inr (.inl x) :: st) μ Q :=
  go_st (st0 := .inr (.inl y) :: .inr (.inl x) :: st) (st1 := .inr (.inl (x ||| y)) :: st) (fun _ _ _ _ _ _ _ _ _ _ _ _ _ _ _ _ _ _ _ _ hC w => lv_lor hC.1 hC.2.1 hd w) k
theorem go_ldiv {x y : Int64} (hd : decode M.2.2.1 pc = .ok (.ldiv, 1)) (hz : ¬ y = 0) (k : Go M d mc ms kc ks (pc + 1) L (.inr (.inl (x / y)) :: st) μ Q) : Go M d mc ms kc ks pc L (.inr (.inl y) :: .inr (.inl x) :: st) μ Q :=
  go_st (st0 := .inr (.inl y) :: .inr (.inl x) :: st) (st1 := .inr (.inl (x / y)) :: st) (fun _ _ _ _ _ _ _ _ _ _ _ _ _ _ _ _ _ _ _ _ hC w => lv_ldiv hC.1 hC.2.1 hd hz w) k
theorem go_lrem {x y : Int64} (hd : decode M.2.2.1 pc = .ok (.lrem, 1)) (hz : ¬ y = 0) (k : Go M d mc ms kc ks (pc + 1) L (.inr (.inl (lrm x y)) :: st) μ Q) : Go M d mc ms kc ks pc L (.inr (.inl y) :: .inr (.inl x) :: st) μ Q :=
  go_st (st0 := .inr (.inl y) :: .inr (.inl x) :: st) (st1 := .inr (.inl (lrm x y)) :: st) (fun _ _ _ _ _ _ _ _ _ _ _ _ _ _ _ _ _ _ _ _ hC w => lv_lrem hC.1 hC.2.1 hd hz w) k
theorem go_lcmp {x y : Int64} (hd : decode M.2.2.1 pc = .ok (.lcmp, 1)) (k : Go M d mc ms kc ks (pc + 1) L (.inl (lg_cmp x y) :: st) μ Q) : Go M d mc ms kc ks pc L (.inr (.inl y) :: .inr (.inl x) :: st) μ Q :=
  go_st (st0 := .inr (.inl y) :: .inr (.inl x) :: st) (st1 := .inl (lg_cmp x y) :: st) (fun _ _ _ _ _ _ _ _ _ _ _ _ _ _ _ _ _ _ _ _ hC w => W.lcmp hC.1 hC.2.1 hd w) k
theorem go_ineg {x : Int32} (hd : decode M.2.2.1 pc = .ok (.ineg, 1)) (k : Go M d mc ms kc ks (pc + 1) L (.inl (-x) :: st) μ Q) : Go M d mc ms kc ks pc L (.inl (x) :: st) μ Q :=
  go_st (st0 := .inl (x) :: st) (st1 := .inl (-x) :: st) (fun _ _ _ _ _ _ _ _ _ _ _ _ _ _ _ _ _ _ _ _ hC w => lv_ineg hC.1 hC.2.1 hd w) k
theorem go_i2l {x : Int32} (hd : decode M.2.2.1 pc = .ok (.i2l, 1)) (k : Go M d mc ms kc ks (pc + 1) L (.inr (.inl (x.toInt64)) :: st) μ Q) : Go M d mc ms kc ks pc L (.inl (x) :: st) μ Q :=
  go_st (st0 := .inl (x) :: st) (st1 := .inr (.inl (x.toInt64)) :: st) (fun _ _ _ _ _ _ _ _ _ _ _ _ _ _ _ _ _ _ _ _ hC w => lv_i2l hC.1 hC.2.1 hd rfl w) k
theorem go_l2i {x : Int64} (hd : decode M.2.2.1 pc = .ok (.l2i, 1)) (k : Go M d mc ms kc ks (pc + 1) L (.inl (x.toInt32) :: st) μ Q) : Go M d mc ms kc ks pc L (.inr (.inl (x)) :: st) μ Q :=
  go_st (st0 := .inr (.inl (x)) :: st) (st1 := .inl (x.toInt32) :: st) (fun _ _ _ _ _ _ _ _ _ _ _ _ _ _ _ _ _ _ _ _ hC w => lv_l2i hC.1 hC.2.1 hd rfl w) k
theorem go_i2b {x : Int32} (hd : decode M.2.2.1 pc = .ok (.i2b, 1)) (k : Go M d mc ms kc ks (pc + 1) L (.inl (x.toInt8.toInt32) :: st) μ Q) : Go M d mc ms kc ks pc L (.inl (x) :: st) μ Q :=
  go_st (st0 := .inl (x) :: st) (st1 := .inl (x.toInt8.toInt32) :: st) (fun _ _ _ _ _ _ _ _ _ _ _ _ _ _ _ _ _ _ _ _ hC w => lv_i2b hC.1 hC.2.1 hd rfl w) k
theorem go_i2c {x : Int32} (hd : decode M.2.2.1 pc = .ok (.i2c, 1)) (k : Go M d mc ms kc ks (pc + 1) L (.inl ((x.toUInt32 % 65536).toInt32) :: st) μ Q) : Go M d mc ms kc ks pc L (.inl (x) :: st) μ Q :=
  go_st (st0 := .inl (x) :: st) (st1 := .inl ((x.toUInt32 % 65536).toInt32) :: st) (fun _ _ _ _ _ _ _ _ _ _ _ _ _ _ _ _ _ _ _ _ hC w => lv_i2c hC.1 hC.2.1 hd rfl w) k
theorem jcat1 (adK : Nat → Nat) (μ : jMem) {x : jV} (h : jis2 x = false) : (jcv adK μ x).category = 1 := by
  rcases x with x | x | (_ | x)
  · rfl
  · cases h
  · rfl
  · rfl
theorem go_dup {x : jV} (hd : decode M.2.2.1 pc = .ok (.dup, 1)) (hx : jis2 x = false) (k : Go M d mc ms kc ks (pc + 1) L (x :: x :: st) μ Q) : Go M d mc ms kc ks pc L (x :: st) μ Q :=
  go_st (st0 := x :: st) (st1 := x :: x :: st) (fun _ _ _ _ _ _ _ _ _ _ _ _ _ _ _ _ _ _ _ _ hC w => lv_dup hC.1 hC.2.1 hd (jcat1 _ _ hx) w) k
theorem go_dup2 {x y : jV} (hd : decode M.2.2.1 pc = .ok (.dup2, 1)) (hx : jis2 x = false) (hy : jis2 y = false) (k : Go M d mc ms kc ks (pc + 1) L (x :: y :: x :: y :: st) μ Q) : Go M d mc ms kc ks pc L (x :: y :: st) μ Q :=
  go_st (st0 := x :: y :: st) (st1 := x :: y :: x :: y :: st) (fun _ _ _ _ _ _ _ _ _ _ _ _ _ _ _ _ _ _ _ _ hC w => lv_dup2_11 hC.1 hC.2.1 hd (jcat1 _ _ hx) (jcat1 _ _ hy) w) k
theorem go_pop {x : jV} (hd : decode M.2.2.1 pc = .ok (.pop, 1)) (hx : jis2 x = false) (k : Go M d mc ms kc ks (pc + 1) L st μ Q) : Go M d mc ms kc ks pc L (x :: st) μ Q :=
  go_st (st0 := x :: st) (st1 := st) (fun _ _ _ _ _ _ _ _ _ _ _ _ _ _ _ _ _ _ _ _ hC w => lv_pop hC.1 hC.2.1 hd (jcat1 _ _ hx) w) k
theorem go_istore_n {i : Fin 4} {a : Nat} {x : Int32} (hd : decode M.2.2.1 pc = .ok (.istore_n i, 1)) (ha : (i : Nat) = a) (hn : a < M.2.2.2.1) (k : Go M d mc ms kc ks (pc + 1) (jsv1 L a (.inl x)) st μ Q) : Go M d mc ms kc ks pc L (.inl x :: st) μ Q := by
  intro p l e s m args below meth c H locs cells slots ls D cid adK adV base hC hW hS hl h1 h2
  exact lv_istore_n hC.1 hC.2.1 hd ha hl hn (jsv1_map adK μ L a (.inl x)) (fun ls hl => k p l e s m args below meth c H locs cells slots ls D cid adK adV base hC hW hS hl h1 h2)
theorem go_istore {a : Nat} {x : Int32} (hd : decode M.2.2.1 pc = .ok (.istore a, 2)) (hn : a < M.2.2.2.1) (k : Go M d mc ms kc ks (pc + 2) (jsv1 L a (.inl x)) st μ Q) : Go M d mc ms kc ks pc L (.inl x :: st) μ Q := by
  intro p l e s m args below meth c H locs cells slots ls D cid adK adV base hC hW hS hl h1 h2
  exact lv_istore hC.1 hC.2.1 hd hl hn (jsv1_map adK μ L a (.inl x)) (fun ls hl => k p l e s m args below meth c H locs cells slots ls D cid adK adV base hC hW hS hl h1 h2)
theorem go_lstore_n {i : Fin 4} {a : Nat} {x : Int64} (hd : decode M.2.2.1 pc = .ok (.lstore_n i, 1)) (ha : (i : Nat) = a) (hn : a + 1 < M.2.2.2.1) (k : Go M d mc ms kc ks (pc + 1) (jsv2 L a (.inr (.inl x))) st μ Q) : Go M d mc ms kc ks pc L (.inr (.inl x) :: st) μ Q := by
  intro p l e s m args below meth c H locs cells slots ls D cid adK adV base hC hW hS hl h1 h2
  exact lv_lstore_n hC.1 hC.2.1 hd ha hl hn (jsv2_map adK μ L a (.inr (.inl x))) (fun ls hl => k p l e s m args below meth c H locs cells slots ls D cid adK adV base hC hW hS hl h1 h2)
theorem go_lstore {a : Nat} {x : Int64} (hd : decode M.2.2.1 pc = .ok (.lstore a, 2)) (hn : a + 1 < M.2.2.2.1) (k : Go M d mc ms kc ks (pc + 2) (jsv2 L a (.inr (.inl x))) st μ Q) : Go M d mc ms kc ks pc L (.inr (.inl x) :: st) μ Q := by
  intro p l e s m args below meth c H locs cells slots ls D cid adK adV base hC hW hS hl h1 h2
  exact lv_lstore hC.1 hC.2.1 hd hl hn (jsv2_map adK μ L a (.inr (.inl x))) (fun ls hl => k p l e s m args below meth c H locs cells slots ls D cid adK adV base hC hW hS hl h1 h2)
theorem go_astore_n {i : Fin 4} {a : Nat} {x : Option jId} (hd : decode M.2.2.1 pc = .ok (.astore_n i, 1)) (ha : (i : Nat) = a) (hn : a < M.2.2.2.1) (k : Go M d mc ms kc ks (pc + 1) (jsv1 L a (.inr (.inr x))) st μ Q) : Go M d mc ms kc ks pc L (.inr (.inr x) :: st) μ Q := by
  intro p l e s m args below meth c H locs cells slots ls D cid adK adV base hC hW hS hl h1 h2
  cases x with
  | none => exact lv_astore_nN hC.1 hC.2.1 hd ha hl hn (jsv1_map adK μ L a (.inr (.inr none))) (fun ls hl => k p l e s m args below meth c H locs cells slots ls D cid adK adV base hC hW hS hl h1 h2)
  | some x => exact lv_astore_n hC.1 hC.2.1 hd ha hl hn (jsv1_map adK μ L a (.inr (.inr (some x)))) (fun ls hl => k p l e s m args below meth c H locs cells slots ls D cid adK adV base hC hW hS hl h1 h2)
theorem go_astore {a : Nat} {x : Option jId} (hd : decode M.2.2.1 pc = .ok (.astore a, 2)) (hn : a < M.2.2.2.1) (k : Go M d mc ms kc ks (pc + 2) (jsv1 L a (.inr (.inr x))) st μ Q) : Go M d mc ms kc ks pc L (.inr (.inr x) :: st) μ Q := by
  intro p l e s m args below meth c H locs cells slots ls D cid adK adV base hC hW hS hl h1 h2
  cases x with
  | none => exact lv_astoreN hC.1 hC.2.1 hd hl hn (jsv1_map adK μ L a (.inr (.inr none))) (fun ls hl => k p l e s m args below meth c H locs cells slots ls D cid adK adV base hC hW hS hl h1 h2)
  | some x => exact lv_astore hC.1 hC.2.1 hd hl hn (jsv1_map adK μ L a (.inr (.inr (some x)))) (fun ls hl => k p l e s m args below meth c H locs cells slots ls D cid adK adV base hC hW hS hl h1 h2)
theorem go_iinc {a : Nat} {n : Int} {x y : Int32} (hd : decode M.2.2.1 pc = .ok (.iinc a n, 3)) (hy : Int32.ofInt n = y) (hn : a < M.2.2.2.1) (hx : jlu L a = some (.inl x)) (k : Go M d mc ms kc ks (pc + 3) (jsv1 L a (.inl (x + y))) st μ Q) : Go M d mc ms kc ks pc L st μ Q := by
  intro p l e s m args below meth c H locs cells slots ls D cid adK adV base hC hW hS hl h1 h2
  obtain ⟨j, hj⟩ := List.getElem?_of_mem (List.mem_map.mpr ⟨(a, .inl x), jlu_mem hx, rfl⟩ : (a, Value.int x) ∈ L.map (jlv adK μ))
  exact lv_iinc hC.1 hC.2.1 hd hl hj (by rw [hy]) hn (jsv1_map adK μ L a (.inl (x + y))) (fun ls hl => k p l e s m args below meth c H locs cells slots ls D cid adK adV base hC hW hS hl h1 h2)
theorem go_icmp_eq {x y : Int32} {off : Int} {tgt : Nat} (hd : decode M.2.2.1 pc = .ok (.if_icmp .eq off, 3)) (ht : (pc : Int) + off = (tgt : Int)) (kt : x = y → Go M d mc ms kc ks tgt L st μ Q) (kf : ¬ x = y → Go M d mc ms kc ks (pc + 3) L st μ Q) : Go M d mc ms kc ks pc L (.inl y :: .inl x :: st) μ Q := by
  intro p l e s m args below meth c H locs cells slots ls D cid adK adV base hC hW hS hl h1 h2
  exact lv_icmp_eq hC.1 hC.2.1 hd ht (fun q => kt q p l e s m args below meth c H locs cells slots ls D cid adK adV base hC hW hS hl h1 h2) (fun q => kf q p l e s m args below meth c H locs cells slots ls D cid adK adV base hC hW hS hl h1 h2)
theorem go_if_eq {x : Int32} {off : Int} {tgt : Nat} (hd : decode M.2.2.1 pc = .ok (.ifCond .eq off, 3)) (ht : (pc : Int) + off = (tgt : Int)) (kt : x = 0 → Go M d mc ms kc ks tgt L st μ Q) (kf : ¬ x = 0 → Go M d mc ms kc ks (pc + 3) L st μ Q) : Go M d mc ms kc ks pc L (.inl x :: st) μ Q := by
  intro p l e s m args below meth c H locs cells slots ls D cid adK adV base hC hW hS hl h1 h2
  exact lv_if_eq hC.1 hC.2.1 hd ht (fun q => kt q p l e s m args below meth c H locs cells slots ls D cid adK adV base hC hW hS hl h1 h2) (fun q => kf q p l e s m args below meth c H locs cells slots ls D cid adK adV base hC hW hS hl h1 h2)
theorem go_icmp_ne {x y : Int32} {off : Int} {tgt : Nat} (hd : decode M.2.2.1 pc = .ok (.if_icmp .ne off, 3)) (ht : (pc : Int) + off = (tgt : Int)) (kt : ¬ x = y → Go M d mc ms kc ks tgt L st μ Q) (kf : x = y → Go M d mc ms kc ks (pc + 3) L st μ Q) : Go M d mc ms kc ks pc L (.inl y :: .inl x :: st) μ Q := by
  intro p l e s m args below meth c H locs cells slots ls D cid adK adV base hC hW hS hl h1 h2
  exact lv_icmp_ne hC.1 hC.2.1 hd ht (fun q => kt q p l e s m args below meth c H locs cells slots ls D cid adK adV base hC hW hS hl h1 h2) (fun q => kf q p l e s m args below meth c H locs cells slots ls D cid adK adV base hC hW hS hl h1 h2)
theorem go_if_ne {x : Int32} {off : Int} {tgt : Nat} (hd : decode M.2.2.1 pc = .ok (.ifCond .ne off, 3)) (ht : (pc : Int) + off = (tgt : Int)) (kt : ¬ x = 0 → Go M d mc ms kc ks tgt L st μ Q) (kf : x = 0 → Go M d mc ms kc ks (pc + 3) L st μ Q) : Go M d mc ms kc ks pc L (.inl x :: st) μ Q := by
  intro p l e s m args below meth c H locs cells slots ls D cid adK adV base hC hW hS hl h1 h2
  exact lv_if_ne hC.1 hC.2.1 hd ht (fun q => kt q p l e s m args below meth c H locs cells slots ls D cid adK adV base hC hW hS hl h1 h2) (fun q => kf q p l e s m args below meth c H locs cells slots ls D cid adK adV base hC hW hS hl h1 h2)
theorem go_icmp_lt {x y : Int32} {off : Int} {tgt : Nat} (hd : decode M.2.2.1 pc = .ok (.if_icmp .lt off, 3)) (ht : (pc : Int) + off = (tgt : Int)) (kt : x < y → Go M d mc ms kc ks tgt L st μ Q) (kf : ¬ x < y → Go M d mc ms kc ks (pc + 3) L st μ Q) : Go M d mc ms kc ks pc L (.inl y :: .inl x :: st) μ Q := by
  intro p l e s m args below meth c H locs cells slots ls D cid adK adV base hC hW hS hl h1 h2
  exact lv_icmp_lt hC.1 hC.2.1 hd ht (fun q => kt q p l e s m args below meth c H locs cells slots ls D cid adK adV base hC hW hS hl h1 h2) (fun q => kf q p l e s m args below meth c H locs cells slots ls D cid adK adV base hC hW hS hl h1 h2)
theorem go_if_lt {x : Int32} {off : Int} {tgt : Nat} (hd : decode M.2.2.1 pc = .ok (.ifCond .lt off, 3)) (ht : (pc : Int) + off = (tgt : Int)) (kt : x < 0 → Go M d mc ms kc ks tgt L st μ Q) (kf : ¬ x < 0 → Go M d mc ms kc ks (pc + 3) L st μ Q) : Go M d mc ms kc ks pc L (.inl x :: st) μ Q := by
  intro p l e s m args below meth c H locs cells slots ls D cid adK adV base hC hW hS hl h1 h2
  exact lv_if_lt hC.1 hC.2.1 hd ht (fun q => kt q p l e s m args below meth c H locs cells slots ls D cid adK adV base hC hW hS hl h1 h2) (fun q => kf q p l e s m args below meth c H locs cells slots ls D cid adK adV base hC hW hS hl h1 h2)
theorem go_icmp_ge {x y : Int32} {off : Int} {tgt : Nat} (hd : decode M.2.2.1 pc = .ok (.if_icmp .ge off, 3)) (ht : (pc : Int) + off = (tgt : Int)) (kt : y ≤ x → Go M d mc ms kc ks tgt L st μ Q) (kf : ¬ y ≤ x → Go M d mc ms kc ks (pc + 3) L st μ Q) : Go M d mc ms kc ks pc L (.inl y :: .inl x :: st) μ Q := by
  intro p l e s m args below meth c H locs cells slots ls D cid adK adV base hC hW hS hl h1 h2
  exact lv_icmp_ge hC.1 hC.2.1 hd ht (fun q => kt q p l e s m args below meth c H locs cells slots ls D cid adK adV base hC hW hS hl h1 h2) (fun q => kf q p l e s m args below meth c H locs cells slots ls D cid adK adV base hC hW hS hl h1 h2)
theorem go_if_ge {x : Int32} {off : Int} {tgt : Nat} (hd : decode M.2.2.1 pc = .ok (.ifCond .ge off, 3)) (ht : (pc : Int) + off = (tgt : Int)) (kt : 0 ≤ x → Go M d mc ms kc ks tgt L st μ Q) (kf : ¬ 0 ≤ x → Go M d mc ms kc ks (pc + 3) L st μ Q) : Go M d mc ms kc ks pc L (.inl x :: st) μ Q := by
  intro p l e s m args below meth c H locs cells slots ls D cid adK adV base hC hW hS hl h1 h2
  exact lv_if_ge hC.1 hC.2.1 hd ht (fun q => kt q p l e s m args below meth c H locs cells slots ls D cid adK adV base hC hW hS hl h1 h2) (fun q => kf q p l e s m args below meth c H locs cells slots ls D cid adK adV base hC hW hS hl h1 h2)
theorem go_icmp_gt {x y : Int32} {off : Int} {tgt : Nat} (hd : decode M.2.2.1 pc = .ok (.if_icmp .gt off, 3)) (ht : (pc : Int) + off = (tgt : Int)) (kt : y < x → Go M d mc ms kc ks tgt L st μ Q) (kf : ¬ y < x → Go M d mc ms kc ks (pc + 3) L st μ Q) : Go M d mc ms kc ks pc L (.inl y :: .inl x :: st) μ Q := by
  intro p l e s m args below meth c H locs cells slots ls D cid adK adV base hC hW hS hl h1 h2
  exact lv_icmp_gt hC.1 hC.2.1 hd ht (fun q => kt q p l e s m args below meth c H locs cells slots ls D cid adK adV base hC hW hS hl h1 h2) (fun q => kf q p l e s m args below meth c H locs cells slots ls D cid adK adV base hC hW hS hl h1 h2)
theorem go_if_gt {x : Int32} {off : Int} {tgt : Nat} (hd : decode M.2.2.1 pc = .ok (.ifCond .gt off, 3)) (ht : (pc : Int) + off = (tgt : Int)) (kt : 0 < x → Go M d mc ms kc ks tgt L st μ Q) (kf : ¬ 0 < x → Go M d mc ms kc ks (pc + 3) L st μ Q) : Go M d mc ms kc ks pc L (.inl x :: st) μ Q := by
  intro p l e s m args below meth c H locs cells slots ls D cid adK adV base hC hW hS hl h1 h2
  exact lv_if_gt hC.1 hC.2.1 hd ht (fun q => kt q p l e s m args below meth c H locs cells slots ls D cid adK adV base hC hW hS hl h1 h2) (fun q => kf q p l e s m args below meth c H locs cells slots ls D cid adK adV base hC hW hS hl h1 h2)
theorem go_icmp_le {x y : Int32} {off : Int} {tgt : Nat} (hd : decode M.2.2.1 pc = .ok (.if_icmp .le off, 3)) (ht : (pc : Int) + off = (tgt : Int)) (kt : x ≤ y → Go M d mc ms kc ks tgt L st μ Q) (kf : ¬ x ≤ y → Go M d mc ms kc ks (pc + 3) L st μ Q) : Go M d mc ms kc ks pc L (.inl y :: .inl x :: st) μ Q := by
  intro p l e s m args below meth c H locs cells slots ls D cid adK adV base hC hW hS hl h1 h2
  exact lv_icmp_le hC.1 hC.2.1 hd ht (fun q => kt q p l e s m args below meth c H locs cells slots ls D cid adK adV base hC hW hS hl h1 h2) (fun q => kf q p l e s m args below meth c H locs cells slots ls D cid adK adV base hC hW hS hl h1 h2)
theorem go_if_le {x : Int32} {off : Int} {tgt : Nat} (hd : decode M.2.2.1 pc = .ok (.ifCond .le off, 3)) (ht : (pc : Int) + off = (tgt : Int)) (kt : x ≤ 0 → Go M d mc ms kc ks tgt L st μ Q) (kf : ¬ x ≤ 0 → Go M d mc ms kc ks (pc + 3) L st μ Q) : Go M d mc ms kc ks pc L (.inl x :: st) μ Q := by
  intro p l e s m args below meth c H locs cells slots ls D cid adK adV base hC hW hS hl h1 h2
  exact lv_if_le hC.1 hC.2.1 hd ht (fun q => kt q p l e s m args below meth c H locs cells slots ls D cid adK adV base hC hW hS hl h1 h2) (fun q => kf q p l e s m args below meth c H locs cells slots ls D cid adK adV base hC hW hS hl h1 h2)
theorem go_goto {off : Int} {tgt : Nat} (hd : decode M.2.2.1 pc = .ok (.goto off, 3)) (ht : (pc : Int) + off = (tgt : Int)) (k : Go M d mc ms kc ks tgt L st μ Q) : Go M d mc ms kc ks pc L st μ Q := by
  intro p l e s m args below meth c H locs cells slots ls D cid adK adV base hC hW hS hl h1 h2
  exact lv_goto hC.1 hC.2.1 hd ht (k p l e s m args below meth c H locs cells slots ls D cid adK adV base hC hW hS hl h1 h2)
theorem go_ifnull {x : Option jId} {off : Int} {tgt : Nat} (hd : decode M.2.2.1 pc = .ok (.ifnull off, 3)) (ht : (pc : Int) + off = (tgt : Int)) (kt : x = none → Go M d mc ms kc ks tgt L st μ Q) (kf : ¬ x = none → Go M d mc ms kc ks (pc + 3) L st μ Q) : Go M d mc ms kc ks pc L (.inr (.inr x) :: st) μ Q := by
  intro p l e s m args below meth c H locs cells slots ls D cid adK adV base hC hW hS hl h1 h2
  cases x with
  | none => exact lv_ifnullN hC.1 hC.2.1 hd ht (kt rfl p l e s m args below meth c H locs cells slots ls D cid adK adV base hC hW hS hl h1 h2)
  | some x => exact lv_ifnull hC.1 hC.2.1 hd (kf (fun q => by cases q) p l e s m args below meth c H locs cells slots ls D cid adK adV base hC hW hS hl h1 h2)
theorem go_ifnonnull {x : Option jId} {off : Int} {tgt : Nat} (hd : decode M.2.2.1 pc = .ok (.ifnonnull off, 3)) (ht : (pc : Int) + off = (tgt : Int)) (kt : ¬ x = none → Go M d mc ms kc ks tgt L st μ Q) (kf : x = none → Go M d mc ms kc ks (pc + 3) L st μ Q) : Go M d mc ms kc ks pc L (.inr (.inr x) :: st) μ Q := by
  intro p l e s m args below meth c H locs cells slots ls D cid adK adV base hC hW hS hl h1 h2
  cases x with
  | none => exact lv_ifnonnullN hC.1 hC.2.1 hd (kf rfl p l e s m args below meth c H locs cells slots ls D cid adK adV base hC hW hS hl h1 h2)
  | some x => exact lv_ifnonnull hC.1 hC.2.1 hd ht (kt (fun q => by cases q) p l e s m args below meth c H locs cells slots ls D cid adK adV base hC hW hS hl h1 h2)
theorem go_tableIn {dflt lo hi : Int} {offs : Array Int} {len : Nat} {x : Int32} {off : Int} {tgt : Nat} (hd : decode M.2.2.1 pc = .ok (.tableswitch dflt lo hi offs, len)) (h3 : ¬ x.toInt < lo) (h4 : ¬ hi < x.toInt) (ho : offs[(x.toInt - lo).toNat]? = some off) (ht : (pc : Int) + off = (tgt : Int)) (k : Go M d mc ms kc ks tgt L st μ Q) : Go M d mc ms kc ks pc L (.inl x :: st) μ Q := by
  intro p l e s m args below meth c H locs cells slots ls D cid adK adV base hC hW hS hl h1 h2
  exact lv_tableIn hC.1 hC.2.1 hd h3 h4 ho ht (k p l e s m args below meth c H locs cells slots ls D cid adK adV base hC hW hS hl h1 h2)
theorem go_tableOut {dflt lo hi : Int} {offs : Array Int} {len : Nat} {x : Int32} {tgt : Nat} (hd : decode M.2.2.1 pc = .ok (.tableswitch dflt lo hi offs, len)) (h3 : x.toInt < lo ∨ hi < x.toInt) (ht : (pc : Int) + dflt = (tgt : Int)) (k : Go M d mc ms kc ks tgt L st μ Q) : Go M d mc ms kc ks pc L (.inl x :: st) μ Q := by
  intro p l e s m args below meth c H locs cells slots ls D cid adK adV base hC hW hS hl h1 h2
  exact lv_tableOut hC.1 hC.2.1 hd h3 ht (k p l e s m args below meth c H locs cells slots ls D cid adK adV base hC hW hS hl h1 h2)
theorem go_lookup {dflt : Int} {ps : Array (Int × Int)} {len : Nat} {x : Int32} {off : Int} {tgt : Nat} (hd : decode M.2.2.1 pc = .ok (.lookupswitch dflt ps, len)) (hp : (ps.toList.zip (ps.toList.drop 1)).all (fun (a, next) => a.1 < next.1) = true) (ho : Op.lookupswitch.offset ps.toList dflt x.toInt = off) (ht : (pc : Int) + off = (tgt : Int)) (k : Go M d mc ms kc ks tgt L st μ Q) : Go M d mc ms kc ks pc L (.inl x :: st) μ Q := by
  intro p l e s m args below meth c H locs cells slots ls D cid adK adV base hC hW hS hl h1 h2
  exact lv_lookup hC.1 hC.2.1 hd hp ho ht (k p l e s m args below meth c H locs cells slots ls D cid adK adV base hC hW hS hl h1 h2)
end PURE2
