section CONST
variable {M : jM} {d mc ms kc ks pc : Nat} {L : List (Nat × jV)} {st : List jV} {μ : jMem} {Q : Option jV → jMem → Prop}
theorem go_ldc {i : Nat} {x : Int32} (hM : M.2.1.cls = jcn M.1) (hd : decode M.2.2.1 pc = .ok (.ldc i, 2)) (hc : Cond.constant (jcn M.1) i x ∈ jkc) (k : Go M d mc ms kc ks (pc + 2) L (.inl x :: st) μ Q) : Go M d mc ms kc ks pc L st μ Q :=
  go_push (i := .ldc i) (x := .inl x) (fun _ _ _ _ _ _ _ _ _ _ _ _ _ _ _ _ _ _ _ _ _ hC _ w => lv_ldc hC.1 hC.2.1 (by rw [← hM]; exact hC.2.2.2.2.2.1) (hC.2.2.2.2.1 _ (jw_mem (jkc_in _ hc) rfl)) hd w) k
theorem go_ldcw {i : Nat} {x : Int32} (hM : M.2.1.cls = jcn M.1) (hd : decode M.2.2.1 pc = .ok (.ldc_w i, 3)) (hc : Cond.constant (jcn M.1) i x ∈ jkc) (k : Go M d mc ms kc ks (pc + 3) L (.inl x :: st) μ Q) : Go M d mc ms kc ks pc L st μ Q :=
  go_push (i := .ldc_w i) (x := .inl x) (fun _ _ _ _ _ _ _ _ _ _ _ _ _ _ _ _ _ _ _ _ _ hC _ w => lv_ldcw hC.1 hC.2.1 (by rw [← hM]; exact hC.2.2.2.2.2.1) (hC.2.2.2.2.1 _ (jw_mem (jkc_in _ hc) rfl)) hd w) k
theorem go_ldc2 {i : Nat} {x : Int64} (hM : M.2.1.cls = jcn M.1) (hd : decode M.2.2.1 pc = .ok (.ldc2_w i, 3)) (hc : Cond.constantLong (jcn M.1) i x ∈ jkc) (k : Go M d mc ms kc ks (pc + 3) L (.inr (.inl x) :: st) μ Q) : Go M d mc ms kc ks pc L st μ Q :=
  go_push (i := .ldc2_w i) (x := .inr (.inl x)) (fun _ _ _ _ _ _ _ _ _ _ _ _ _ _ _ _ _ _ _ _ _ hC _ w => lv_ldc2 hC.1 hC.2.1 (by rw [← hM]; exact hC.2.2.2.2.2.1) (hC.2.2.2.2.1 _ (jw_mem (jkc_in _ hc) rfl)) hd w) k
theorem go_ldcS {i t : Nat} (hM : M.2.1.cls = jcn M.1) (hd : decode M.2.2.1 pc = .ok (.ldc i, 2)) (hc : (M.1, i, t) ∈ jsl) (k : Go M d mc ms kc ks (pc + 2) L (.inr (.inr (some (.inr (.inr t)))) :: st) μ Q) : Go M d mc ms kc ks pc L st μ Q :=
  go_push (i := .ldc i) (x := .inr (.inr (some (.inr (.inr t))))) (fun _ _ _ _ _ _ _ _ _ _ _ _ _ _ _ _ _ _ _ _ _ hC _ w => va_ldcS hC.1 hC.2.1 (by rw [← hM]; exact hC.2.2.2.2.2.1) (hC.2.2.2.2.2.2.2.2.2.2.2.1 _ hc) hd w) k
theorem jldcwS {p : Program} {l : Launch} {e : Env} {R : Room} {s : State} {m : MethodId} {args : Array Value} {below : List Frame} {meth : Method} {c : Code} {H : Heap} {locs : List Loc} {cells slots : Nat} {Q : State → Prop} {cc : ByteArray} {pc : Nat} {ls : Array Slot} {rest : List Value} (hexec : p.tables.exec = Jvm.exec) (hb : c.code = cc) {own tx : String} {index q : Nat} (hown : s.vm.findClass own = some m.cls) (hZ : vk_R own index tx q s) (hdg : decode cc pc = .ok (.ldc_w index, 3))
    (k : W p l e R s m args below meth c H locs cells slots Q (F0 m (pc + 3) ls (.ref q :: rest))) : W p l e R s m args below meth c H locs cells slots Q (F0 m pc ls rest) := by
  intro T hT X
  obtain ⟨t, a1, b1⟩ := k T hT X
  refine ⟨t, ?_, b1⟩
  obtain ⟨k0, cf, i, a', hk, hcf, hcp, -, hr, hev'⟩ := Cond.stringRef_spec hown hZ.1
  cases hZ.2.symm.trans hev'
  obtain ⟨k', hk', he⟩ := X.warmed.alike.2.2 _ _ hk
  have hr' : k'.resolved[index]? = some (some (.string q)) := by
    rcases X.warmed.entry hk hk' index with h | ⟨h, -⟩
    · rw [h]; exact hr
    · rw [hr] at h; cases h
  subst hb
  jvm_step X.here [hexec, hdg, Op.ldc_w.wp_string (e := e) (s := T) (f := F0 m pc ls rest) X.here.top hk' (by rw [he]; exact hcf) hcp hr']
  exact a1
theorem go_ldcwS {i t : Nat} (hM : M.2.1.cls = jcn M.1) (hd : decode M.2.2.1 pc = .ok (.ldc_w i, 3)) (hc : (M.1, i, t) ∈ jsl) (k : Go M d mc ms kc ks (pc + 3) L (.inr (.inr (some (.inr (.inr t)))) :: st) μ Q) : Go M d mc ms kc ks pc L st μ Q :=
  go_push (i := .ldc_w i) (x := .inr (.inr (some (.inr (.inr t))))) (fun _ _ _ _ _ _ _ _ _ _ _ _ _ _ _ _ _ _ _ _ _ hC _ w => jldcwS hC.1 hC.2.1 (by rw [← hM]; exact hC.2.2.2.2.2.1) (hC.2.2.2.2.2.2.2.2.2.2.2.1 _ hc) hd w) k
end CONST
def jx (i : Instr) (n a b c : Nat) (κ : jV) (L : List (Nat × jV)) (st : List jV) (μ : jMem) (k : List (Nat × jV) → List jV → jMem → Prop) : Prop := match i with
  | .iconst _ => k L (κ :: st) μ
  | .bipush _ => k L (κ :: st) μ
  | .sipush _ => k L (κ :: st) μ
  | .lconst _ => k L (κ :: st) μ
  | .aconst_null => k L (.inr (.inr none) :: st) μ
  | .iload_n _ => (match jlu L a with
    | some (.inl x) => k L (.inl x :: st) μ
    | _ => False)
  | .iload _ => (match jlu L a with
    | some (.inl x) => k L (.inl x :: st) μ
    | _ => False)
  | .lload_n _ => (match jlu L a with
    | some (.inr (.inl x)) => k L (.inr (.inl x) :: st) μ
    | _ => False)
  | .lload _ => (match jlu L a with
    | some (.inr (.inl x)) => k L (.inr (.inl x) :: st) μ
    | _ => False)
  | .aload_n _ => (match jlu L a with
    | some (.inr (.inr x)) => k L (.inr (.inr x) :: st) μ
    | _ => False)
  | .aload _ => (match jlu L a with
    | some (.inr (.inr x)) => k L (.inr (.inr x) :: st) μ
    | _ => False)
  | .istore_n _ => (match st with
    | .inl x :: st => k (jsv1 L a (.inl x)) st μ
    | _ => False)
  | .istore _ => (match st with
    | .inl x :: st => k (jsv1 L a (.inl x)) st μ
    | _ => False)
  | .lstore_n _ => (match st with
    | .inr (.inl x) :: st => k (jsv2 L a (.inr (.inl x))) st μ
    | _ => False)
  | .lstore _ => (match st with
    | .inr (.inl x) :: st => k (jsv2 L a (.inr (.inl x))) st μ
    | _ => False)
  | .astore_n _ => (match st with
    | .inr (.inr x) :: st => k (jsv1 L a (.inr (.inr x))) st μ
    | _ => False)
  | .astore _ => (match st with
    | .inr (.inr x) :: st => k (jsv1 L a (.inr (.inr x))) st μ
    | _ => False)
  | .iinc _ _ => (match jlu L a, κ with
    | some (.inl x), .inl y => k (jsv1 L a (.inl (x + y))) st μ
    | _, _ => False)
  | .iadd => (match st with
    | .inl y :: .inl x :: st => k L (.inl (x + y) :: st) μ
    | _ => False)
  | .isub => (match st with
    | .inl y :: .inl x :: st => k L (.inl (x - y) :: st) μ
    | _ => False)
  | .imul => (match st with
    | .inl y :: .inl x :: st => k L (.inl (x * y) :: st) μ
    | _ => False)
  | .iand => (match st with
    | .inl y :: .inl x :: st => k L (.inl (x &&& y) :: st) μ
    | _ => False)
  | .ior => (match st with
    | .inl y :: .inl x :: st => k L (.inl (x ||| y) :: st) μ
    | _ => False)
  | .ixor => (match st with
    | .inl y :: .inl x :: st => k L (.inl (x ^^^ y) :: st) μ
    | _ => False)
  | .ishl => (match st with
    | .inl y :: .inl x :: st => k L (.inl (x <<< (y &&& 31)) :: st) μ
    | _ => False)
  | .ishr => (match st with
    | .inl y :: .inl x :: st => k L (.inl (x >>> (y &&& 31)) :: st) μ
    | _ => False)
  | .iushr => (match st with
    | .inl y :: .inl x :: st => k L (.inl (iush x y) :: st) μ
    | _ => False)
  | .idiv => (match st with
    | .inl y :: .inl x :: st => (¬ y = 0) ∧ k L (.inl (x / y) :: st) μ
    | _ => False)
  | .irem => (match st with
    | .inl y :: .inl x :: st => (¬ y = 0) ∧ k L (.inl (irm x y) :: st) μ
    | _ => False)
  | .ladd => (match st with
    | .inr (.inl y) :: .inr (.inl x) :: st => k L (.inr (.inl (x + y)) :: st) μ
    | _ => False)
  | .lsub => (match st with
    | .inr (.inl y) :: .inr (.inl x) :: st => k L (.inr (.inl (x - y)) :: st) μ
    | _ => False)
  | .lmul => (match st with
    | .inr (.inl y) :: .inr (.inl x) :: st => k L (.inr (.inl (x * y)) :: st) μ
    | _ => False)
  | .land => (match st with
    | .inr (.inl y) :: .inr (.inl x) :: st => k L (.inr (.inl (x &&& y)) :: st) μ
    | _ => False)
  | .lor => (match st with
    | .inr (.inl y) :: .inr (.inl x) :: st => k L (.inr (.inl (x ||| y)) :: st) μ
    | _ => False)
  | .ldiv => (match st with
    | .inr (.inl y) :: .inr (.inl x) :: st => (¬ y = 0) ∧ k L (.inr (.inl (x / y)) :: st) μ
    | _ => False)
  | .lrem => (match st with
    | .inr (.inl y) :: .inr (.inl x) :: st => (¬ y = 0) ∧ k L (.inr (.inl (lrm x y)) :: st) μ
    | _ => False)
  | .lcmp => (match st with
    | .inr (.inl y) :: .inr (.inl x) :: st => k L (.inl (lg_cmp x y) :: st) μ
    | _ => False)
  | .ineg => (match st with
    | .inl x :: st => k L (.inl (-x) :: st) μ
    | _ => False)
  | .i2l => (match st with
    | .inl x :: st => k L (.inr (.inl x.toInt64) :: st) μ
    | _ => False)
  | .l2i => (match st with
    | .inr (.inl x) :: st => k L (.inl x.toInt32 :: st) μ
    | _ => False)
  | .i2b => (match st with
    | .inl x :: st => k L (.inl x.toInt8.toInt32 :: st) μ
    | _ => False)
  | .i2c => (match st with
    | .inl x :: st => k L (.inl (x.toUInt32 % 65536).toInt32 :: st) μ
    | _ => False)
  | .dup => (match st with
    | x :: st => cond (jis2 x) False (k L (x :: x :: st) μ)
    | _ => False)
  | .pop => (match st with
    | x :: st => cond (jis2 x) False (k L st μ)
    | _ => False)
  | .dup2 => (match st with
    | x :: y :: st => cond (jis2 x || jis2 y) False (k L (x :: y :: x :: y :: st) μ)
    | _ => False)
  | .getfield _ => (match st with
    | .inr (.inr (some x)) :: st => gT μ x = a + 1 ∧ cond (Nat.beq c 1) (∃ r, gR μ x b = r ∧ k L (.inr (.inr r) :: st) μ) (k L (.inl (gI μ x b) :: st) μ)
    | _ => False)
  | .putfield _ => (match st with
    | .inl y :: .inr (.inr (some x)) :: st => gT μ x = a + 1 ∧ (cond (Nat.beq c 0) True (c = 2 ∧ (y = 0 ∨ y = 1))) ∧ k L st (sF μ x (upd (gI μ x) b y))
    | _ => False)
  | .iaload => (match st with
    | .inl j :: .inr (.inr (some x)) :: st => gT μ x = a ∧ ∃ m, gN μ x = m ∧ vp_in j m ∧ k L (.inl (gI μ x j.toNatClampNeg) :: st) μ
    | _ => False)
  | .baload => (match st with
    | .inl j :: .inr (.inr (some x)) :: st => gT μ x = a ∧ ∃ m, gN μ x = m ∧ vp_in j m ∧ k L (.inl (gI μ x j.toNatClampNeg) :: st) μ
    | _ => False)
  | .laload => (match st with
    | .inl j :: .inr (.inr (some x)) :: st => gT μ x = a ∧ ∃ m, gN μ x = m ∧ vp_in j m ∧ k L (.inr (.inl (gL μ x j.toNatClampNeg)) :: st) μ
    | _ => False)
  | .aaload => (match st with
    | .inl j :: .inr (.inr (some x)) :: st => gT μ x = a ∧ ∃ m, gN μ x = m ∧ vp_in j m ∧ ∃ r, gR μ x j.toNatClampNeg = r ∧ k L (.inr (.inr r) :: st) μ
    | _ => False)
  | .iastore => (match st with
    | .inl y :: .inl j :: .inr (.inr (some x)) :: st => gT μ x = 20 ∧ ∃ m, gN μ x = m ∧ vp_in j m ∧ k L st (sF μ x (upd (gI μ x) j.toNatClampNeg y))
    | _ => False)
  | .bastore => (match st with
    | .inl y :: .inl j :: .inr (.inr (some x)) :: st => gT μ x = a ∧ ∃ m, gN μ x = m ∧ vp_in j m ∧ k L st (sF μ x (upd (gI μ x) j.toNatClampNeg (cond (Nat.beq a 21) (vp_nar .byte y) (vp_nar .boolean y))))
    | _ => False)
  | .lastore => (match st with
    | .inr (.inl y) :: .inl j :: .inr (.inr (some x)) :: st => gT μ x = 23 ∧ ∃ m, gN μ x = m ∧ vp_in j m ∧ k L st (sFL μ x (vp_updL (gL μ x) j.toNatClampNeg y))
    | _ => False)
  | .arraylength => (match st with
    | .inr (.inr (some x)) :: st => gT μ x = a ∧ ∃ m, gN μ x = m ∧ k L (.inl (nI m) :: st) μ
    | _ => False)
  | .ldc _ => k L (κ :: st) μ
  | .ldc_w _ => k L (κ :: st) μ
  | .ldc2_w _ => k L (κ :: st) μ
  | _ => False
def jlk (M : jM) (i : Instr) (n a b c : Nat) (κ : jV) : Bool := match i with
  | .iconst i => Nat.beq n 1 && decide (κ = .inl (Int32.ofInt i))
  | .bipush i => Nat.beq n 2 && decide (κ = .inl ((Int8.ofInt i).toInt32))
  | .sipush i => Nat.beq n 3 && decide (κ = .inl ((Int16.ofInt i).toInt32))
  | .lconst i => Nat.beq n 1 && decide (κ = .inr (.inl (Int64.ofNat (i : Nat))))
  | .aconst_null => Nat.beq n 1
  | .iload_n i => Nat.beq n 1 && Nat.beq (i : Nat) a
  | .iload i => Nat.beq n 2 && Nat.beq i a
  | .lload_n i => Nat.beq n 1 && Nat.beq (i : Nat) a
  | .lload i => Nat.beq n 2 && Nat.beq i a
  | .aload_n i => Nat.beq n 1 && Nat.beq (i : Nat) a
  | .aload i => Nat.beq n 2 && Nat.beq i a
  | .istore_n i => Nat.beq n 1 && Nat.beq (i : Nat) a && decide (a < M.2.2.2.1)
  | .istore i => Nat.beq n 2 && Nat.beq i a && decide (a < M.2.2.2.1)
  | .lstore_n i => Nat.beq n 1 && Nat.beq (i : Nat) a && decide (a + 1 < M.2.2.2.1)
  | .lstore i => Nat.beq n 2 && Nat.beq i a && decide (a + 1 < M.2.2.2.1)
  | .astore_n i => Nat.beq n 1 && Nat.beq (i : Nat) a && decide (a < M.2.2.2.1)
  | .astore i => Nat.beq n 2 && Nat.beq i a && decide (a < M.2.2.2.1)
  | .iinc i q => Nat.beq n 3 && Nat.beq i a && decide (a < M.2.2.2.1) && decide (κ = .inl (Int32.ofInt q))
  | .iadd => Nat.beq n 1
  | .isub => Nat.beq n 1
  | .imul => Nat.beq n 1
  | .iand => Nat.beq n 1
  | .ior => Nat.beq n 1
  | .ixor => Nat.beq n 1
  | .ishl => Nat.beq n 1
  | .ishr => Nat.beq n 1
  | .iushr => Nat.beq n 1
  | .idiv => Nat.beq n 1
  | .irem => Nat.beq n 1
  | .ladd => Nat.beq n 1
  | .lsub => Nat.beq n 1
  | .lmul => Nat.beq n 1
  | .land => Nat.beq n 1
  | .lor => Nat.beq n 1
  | .ldiv => Nat.beq n 1
  | .lrem => Nat.beq n 1
  | .lcmp => Nat.beq n 1
  | .ineg => Nat.beq n 1
  | .i2l => Nat.beq n 1
  | .l2i => Nat.beq n 1
  | .i2b => Nat.beq n 1
  | .i2c => Nat.beq n 1
  | .dup => Nat.beq n 1
  | .pop => Nat.beq n 1
  | .dup2 => Nat.beq n 1
  | .getfield i => Nat.beq n 3 && decide (a < 12) && decide (b < jN a) && Nat.beq (jk a b) c && (jfl.contains (M.1, i, a, b, 0) || jfl.contains (M.1, i, a, b, 1))
  | .putfield i => Nat.beq n 3 && decide (a < 12) && decide (b < jN a) && Nat.beq (jk a b) c && (jfl.contains (M.1, i, a, b, 0) || jfl.contains (M.1, i, a, b, 1))
  | .iaload => Nat.beq n 1 && (Nat.beq a 20)
  | .baload => Nat.beq n 1 && (Nat.beq a 21 || Nat.beq a 22)
  | .laload => Nat.beq n 1 && (Nat.beq a 23)
  | .aaload => Nat.beq n 1 && (Nat.beq a 24 || (Nat.beq a 25 || (Nat.beq a 26 || Nat.beq a 27)))
  | .iastore => Nat.beq n 1
  | .bastore => Nat.beq n 1 && (Nat.beq a 21 || Nat.beq a 22)
  | .lastore => Nat.beq n 1
  | .arraylength => Nat.beq n 1 && decide (20 ≤ a) && decide (a < 28)
  | .ldc i => Nat.beq n 2 && (match κ with
    | .inl x => decide (Cond.constant (jcn M.1) i x ∈ jkc)
    | .inr (.inr (some (.inr (.inr t)))) => decide ((M.1, i, t) ∈ jsl)
    | _ => false)
  | .ldc_w i => Nat.beq n 3 && (match κ with
    | .inl x => decide (Cond.constant (jcn M.1) i x ∈ jkc)
    | .inr (.inr (some (.inr (.inr t)))) => decide ((M.1, i, t) ∈ jsl)
    | _ => false)
  | .ldc2_w i => Nat.beq n 3 && (match κ with
    | .inr (.inl x) => decide (Cond.constantLong (jcn M.1) i x ∈ jkc)
    | _ => false)
  | _ => false
section BLK
variable {M : jM} {d mc ms kc ks pc : Nat} {Q : Option jV → jMem → Prop}
set_option maxHeartbeats 4000000 in
theorem go_x (hM : M.2.1.cls = jcn M.1) {i : Instr} {n a b c : Nat} {κ : jV} {L : List (Nat × jV)} {st : List jV} {μ : jMem} (hok : decode M.2.2.1 pc = .ok (i, n) ∧ jlk M i n a b c κ = true) (h : jx i n a b c κ L st μ (fun L' st' μ' => Go M d mc ms kc ks (pc + n) L' st' μ' Q)) : Go M d mc ms kc ks pc L st μ Q := by
  have hd := hok.1
  cases i
  case iconst i =>
    simp only [jlk, Bool.and_eq_true, decide_eq_true_eq] at hok
    obtain ⟨hn, hκ⟩ := hok.2
    subst hκ; rw [Nat.eq_of_beq_eq_true hn] at hd h
    exact go_iconst hd rfl h
  case bipush i =>
    simp only [jlk, Bool.and_eq_true, decide_eq_true_eq] at hok
    obtain ⟨hn, hκ⟩ := hok.2
    subst hκ; rw [Nat.eq_of_beq_eq_true hn] at hd h
    exact go_bipush hd rfl h
  case sipush i =>
    simp only [jlk, Bool.and_eq_true, decide_eq_true_eq] at hok
    obtain ⟨hn, hκ⟩ := hok.2
    subst hκ; rw [Nat.eq_of_beq_eq_true hn] at hd h
    exact go_sipush hd rfl h
  case lconst i =>
    simp only [jlk, Bool.and_eq_true, decide_eq_true_eq] at hok
    obtain ⟨hn, hκ⟩ := hok.2
    subst hκ; rw [Nat.eq_of_beq_eq_true hn] at hd h
    exact go_lconst hd rfl h
  case aconst_null =>
    simp only [jlk, Bool.and_eq_true, decide_eq_true_eq] at hok
    rw [Nat.eq_of_beq_eq_true hok.2] at hd h
    exact go_null hd h
  case iload_n i =>
    simp only [jlk, Bool.and_eq_true, decide_eq_true_eq] at hok
    obtain ⟨hn, hi⟩ := hok.2
    have hi := Nat.eq_of_beq_eq_true hi
    
    rw [Nat.eq_of_beq_eq_true hn] at hd h
    unfold jx at h; dsimp only at h
    split at h
    · rename_i x hx
      exact go_iload_n hd hi hx h
    · exact h.elim
  case iload i =>
    simp only [jlk, Bool.and_eq_true, decide_eq_true_eq] at hok
    obtain ⟨hn, hi⟩ := hok.2
    have hi := Nat.eq_of_beq_eq_true hi
    subst hi
    rw [Nat.eq_of_beq_eq_true hn] at hd h
    unfold jx at h; dsimp only at h
    split at h
    · rename_i x hx
      exact go_iload hd hx h
    · exact h.elim
  case lload_n i =>
    simp only [jlk, Bool.and_eq_true, decide_eq_true_eq] at hok
    obtain ⟨hn, hi⟩ := hok.2
    have hi := Nat.eq_of_beq_eq_true hi
    
    rw [Nat.eq_of_beq_eq_true hn] at hd h
    unfold jx at h; dsimp only at h
    split at h
    · rename_i x hx
      exact go_lload_n hd hi hx h
    · exact h.elim
  case lload i =>
    simp only [jlk, Bool.and_eq_true, decide_eq_true_eq] at hok
    obtain ⟨hn, hi⟩ := hok.2
    have hi := Nat.eq_of_beq_eq_true hi
    subst hi
    rw [Nat.eq_of_beq_eq_true hn] at hd h
    unfold jx at h; dsimp only at h
    split at h
    · rename_i x hx
      exact go_lload hd hx h
    · exact h.elim
  case aload_n i =>
    simp only [jlk, Bool.and_eq_true, decide_eq_true_eq] at hok
    obtain ⟨hn, hi⟩ := hok.2
    have hi := Nat.eq_of_beq_eq_true hi
    
    rw [Nat.eq_of_beq_eq_true hn] at hd h
    unfold jx at h; dsimp only at h
    split at h
    · rename_i x hx
      exact go_aload_n hd hi hx h
    · exact h.elim
  case aload i =>
    simp only [jlk, Bool.and_eq_true, decide_eq_true_eq] at hok
    obtain ⟨hn, hi⟩ := hok.2
    have hi := Nat.eq_of_beq_eq_true hi
    subst hi
    rw [Nat.eq_of_beq_eq_true hn] at hd h
    unfold jx at h; dsimp only at h
    split at h
    · rename_i x hx
      exact go_aload hd hx h
    · exact h.elim
  case istore_n i =>
    simp only [jlk, Bool.and_eq_true, decide_eq_true_eq] at hok
    obtain ⟨⟨hn, hi⟩, hb⟩ := hok.2
    have hi := Nat.eq_of_beq_eq_true hi
    
    rw [Nat.eq_of_beq_eq_true hn] at hd h
    unfold jx at h; dsimp only at h
    split at h
    · exact go_istore_n hd hi hb h
    · exact h.elim
  case istore i =>
    simp only [jlk, Bool.and_eq_true, decide_eq_true_eq] at hok
    obtain ⟨⟨hn, hi⟩, hb⟩ := hok.2
    have hi := Nat.eq_of_beq_eq_true hi
    subst hi
    rw [Nat.eq_of_beq_eq_true hn] at hd h
    unfold jx at h; dsimp only at h
    split at h
    · exact go_istore hd hb h
    · exact h.elim
  case lstore_n i =>
    simp only [jlk, Bool.and_eq_true, decide_eq_true_eq] at hok
    obtain ⟨⟨hn, hi⟩, hb⟩ := hok.2
    have hi := Nat.eq_of_beq_eq_true hi
    
    rw [Nat.eq_of_beq_eq_true hn] at hd h
    unfold jx at h; dsimp only at h
    split at h
    · exact go_lstore_n hd hi hb h
    · exact h.elim
  case lstore i =>
    simp only [jlk, Bool.and_eq_true, decide_eq_true_eq] at hok
    obtain ⟨⟨hn, hi⟩, hb⟩ := hok.2
    have hi := Nat.eq_of_beq_eq_true hi
    subst hi
    rw [Nat.eq_of_beq_eq_true hn] at hd h
    unfold jx at h; dsimp only at h
    split at h
    · exact go_lstore hd hb h
    · exact h.elim
  case astore_n i =>
    simp only [jlk, Bool.and_eq_true, decide_eq_true_eq] at hok
    obtain ⟨⟨hn, hi⟩, hb⟩ := hok.2
    have hi := Nat.eq_of_beq_eq_true hi
    
    rw [Nat.eq_of_beq_eq_true hn] at hd h
    unfold jx at h; dsimp only at h
    split at h
    · exact go_astore_n hd hi hb h
    · exact h.elim
  case astore i =>
    simp only [jlk, Bool.and_eq_true, decide_eq_true_eq] at hok
    obtain ⟨⟨hn, hi⟩, hb⟩ := hok.2
    have hi := Nat.eq_of_beq_eq_true hi
    subst hi
    rw [Nat.eq_of_beq_eq_true hn] at hd h
    unfold jx at h; dsimp only at h
    split at h
    · exact go_astore hd hb h
    · exact h.elim
  case iinc i q =>
    simp only [jlk, Bool.and_eq_true, decide_eq_true_eq] at hok
    obtain ⟨⟨⟨hn, hi⟩, hb⟩, hκ⟩ := hok.2
    have hi := Nat.eq_of_beq_eq_true hi
    subst hi; subst hκ
    rw [Nat.eq_of_beq_eq_true hn] at hd h
    unfold jx at h; dsimp only at h
    split at h
    · rename_i x y hx hy
      cases hy
      exact go_iinc hd rfl hb hx h
    · exact h.elim
  case iadd =>
    simp only [jlk, Bool.and_eq_true, decide_eq_true_eq] at hok
    rw [Nat.eq_of_beq_eq_true hok.2] at hd h
    unfold jx at h; dsimp only at h
    split at h
    · exact go_iadd hd h
    · exact h.elim
  case isub =>
    simp only [jlk, Bool.and_eq_true, decide_eq_true_eq] at hok
    rw [Nat.eq_of_beq_eq_true hok.2] at hd h
    unfold jx at h; dsimp only at h
    split at h
    · exact go_isub hd h
    · exact h.elim
  case imul =>
    simp only [jlk, Bool.and_eq_true, decide_eq_true_eq] at hok
    rw [Nat.eq_of_beq_eq_true hok.2] at hd h
    unfold jx at h; dsimp only at h
    split at h
    · exact go_imul hd h
    · exact h.elim
  case iand =>
    simp only [jlk, Bool.and_eq_true, decide_eq_true_eq] at hok
    rw [Nat.eq_of_beq_eq_true hok.2] at hd h
    unfold jx at h; dsimp only at h
    split at h
    · exact go_iand hd h
    · exact h.elim
  case ior =>
    simp only [jlk, Bool.and_eq_true, decide_eq_true_eq] at hok
    rw [Nat.eq_of_beq_eq_true hok.2] at hd h
    unfold jx at h; dsimp only at h
    split at h
    · exact go_ior hd h
    · exact h.elim
  case ixor =>
    simp only [jlk, Bool.and_eq_true, decide_eq_true_eq] at hok
    rw [Nat.eq_of_beq_eq_true hok.2] at hd h
    unfold jx at h; dsimp only at h
    split at h
    · exact go_ixor hd h
    · exact h.elim
  case ishl =>
    simp only [jlk, Bool.and_eq_true, decide_eq_true_eq] at hok
    rw [Nat.eq_of_beq_eq_true hok.2] at hd h
    unfold jx at h; dsimp only at h
    split at h
    · exact go_ishl hd h
    · exact h.elim
  case ishr =>
    simp only [jlk, Bool.and_eq_true, decide_eq_true_eq] at hok
    rw [Nat.eq_of_beq_eq_true hok.2] at hd h
    unfold jx at h; dsimp only at h
    split at h
    · exact go_ishr hd h
    · exact h.elim
  case iushr =>
    simp only [jlk, Bool.and_eq_true, decide_eq_true_eq] at hok
    rw [Nat.eq_of_beq_eq_true hok.2] at hd h
    unfold jx at h; dsimp only at h
    split at h
    · exact go_iushr hd h
    · exact h.elim
  case idiv =>
    simp only [jlk, Bool.and_eq_true, decide_eq_true_eq] at hok
    rw [Nat.eq_of_beq_eq_true hok.2] at hd h
    unfold jx at h; dsimp only at h
    split at h
    · exact go_idiv hd h.1 h.2
    · exact h.elim
  case irem =>
    simp only [jlk, Bool.and_eq_true, decide_eq_true_eq] at hok
    rw [Nat.eq_of_beq_eq_true hok.2] at hd h
    unfold jx at h; dsimp only at h
    split at h
    · exact go_irem hd h.1 h.2
    · exact h.elim
  case ladd =>
    simp only [jlk, Bool.and_eq_true, decide_eq_true_eq] at hok
    rw [Nat.eq_of_beq_eq_true hok.2] at hd h
    unfold jx at h; dsimp only at h
    split at h
    · exact go_ladd hd h
    · exact h.elim
  case lsub =>
    simp only [jlk, Bool.and_eq_true, decide_eq_true_eq] at hok
    rw [Nat.eq_of_beq_eq_true hok.2] at hd h
    unfold jx at h; dsimp only at h
    split at h
    · exact go_lsub hd h
    · exact h.elim
  case lmul =>
    simp only [jlk, Bool.and_eq_true, decide_eq_true_eq] at hok
    rw [Nat.eq_of_beq_eq_true hok.2] at hd h
    unfold jx at h; dsimp only at h
    split at h
    · exact go_lmul hd h
    · exact h.elim
  case land =>
    simp only [jlk, Bool.and_eq_true, decide_eq_true_eq] at hok
    rw [Nat.eq_of_beq_eq_true hok.2] at hd h
    unfold jx at h; dsimp only at h
    split at h
    · exact go_land hd h
    · exact h.elim
  case lor =>
    simp only [jlk, Bool.and_eq_true, decide_eq_true_eq] at hok
    rw [Nat.eq_of_beq_eq_true hok.2] at hd h
    unfold jx at h; dsimp only at h
    split at h
    · exact go_lor hd h
    · exact h.elim
  case ldiv =>
    simp only [jlk, Bool.and_eq_true, decide_eq_true_eq] at hok
    rw [Nat.eq_of_beq_eq_true hok.2] at hd h
    unfold jx at h; dsimp only at h
    split at h
    · exact go_ldiv hd h.1 h.2
    · exact h.elim
  case lrem =>
    simp only [jlk, Bool.and_eq_true, decide_eq_true_eq] at hok
    rw [Nat.eq_of_beq_eq_true hok.2] at hd h
    unfold jx at h; dsimp only at h
    split at h
    · exact go_lrem hd h.1 h.2
    · exact h.elim
  case lcmp =>
    simp only [jlk, Bool.and_eq_true, decide_eq_true_eq] at hok
    rw [Nat.eq_of_beq_eq_true hok.2] at hd h
    unfold jx at h; dsimp only at h
    split at h
    · exact go_lcmp hd h
    · exact h.elim
  case ineg =>
    simp only [jlk, Bool.and_eq_true, decide_eq_true_eq] at hok
    rw [Nat.eq_of_beq_eq_true hok.2] at hd h
    unfold jx at h; dsimp only at h
    split at h
    · exact go_ineg hd h
    · exact h.elim
  case i2l =>
    simp only [jlk, Bool.and_eq_true, decide_eq_true_eq] at hok
    rw [Nat.eq_of_beq_eq_true hok.2] at hd h
    unfold jx at h; dsimp only at h
    split at h
    · exact go_i2l hd h
    · exact h.elim
  case l2i =>
    simp only [jlk, Bool.and_eq_true, decide_eq_true_eq] at hok
    rw [Nat.eq_of_beq_eq_true hok.2] at hd h
    unfold jx at h; dsimp only at h
    split at h
    · exact go_l2i hd h
    · exact h.elim
  case i2b =>
    simp only [jlk, Bool.and_eq_true, decide_eq_true_eq] at hok
    rw [Nat.eq_of_beq_eq_true hok.2] at hd h
    unfold jx at h; dsimp only at h
    split at h
    · exact go_i2b hd h
    · exact h.elim
  case i2c =>
    simp only [jlk, Bool.and_eq_true, decide_eq_true_eq] at hok
    rw [Nat.eq_of_beq_eq_true hok.2] at hd h
    unfold jx at h; dsimp only at h
    split at h
    · exact go_i2c hd h
    · exact h.elim
  case dup =>
    simp only [jlk, Bool.and_eq_true, decide_eq_true_eq] at hok
    rw [Nat.eq_of_beq_eq_true hok.2] at hd h
    unfold jx at h; dsimp only at h
    split at h
    · rename_i x st
      cases hx : jis2 x with
      | true => rw [hx] at h; exact h.elim
      | false => rw [hx] at h; exact go_dup hd hx h
    · exact h.elim
  case pop =>
    simp only [jlk, Bool.and_eq_true, decide_eq_true_eq] at hok
    rw [Nat.eq_of_beq_eq_true hok.2] at hd h
    unfold jx at h; dsimp only at h
    split at h
    · rename_i x st
      cases hx : jis2 x with
      | true => rw [hx] at h; exact h.elim
      | false => rw [hx] at h; exact go_pop hd hx h
    · exact h.elim
  case dup2 =>
    simp only [jlk, Bool.and_eq_true, decide_eq_true_eq] at hok
    rw [Nat.eq_of_beq_eq_true hok.2] at hd h
    unfold jx at h; dsimp only at h
    split at h
    · rename_i x y st
      cases hx : jis2 x with
      | true => rw [hx] at h; exact h.elim
      | false =>
        cases hy : jis2 y with
        | true => rw [hx, hy] at h; exact h.elim
        | false => rw [hx, hy] at h; exact go_dup2 hd hx hy h
    · exact h.elim
  case getfield i =>
    simp only [jlk, Bool.and_eq_true, decide_eq_true_eq] at hok
    obtain ⟨⟨⟨⟨hn, ha⟩, hb⟩, hc⟩, hf⟩ := hok.2
    have hc := Nat.eq_of_beq_eq_true hc
    have hf : ∃ z, (M.1, i, a, b, z) ∈ jfl := by
      rcases Bool.or_eq_true_iff.mp hf with q | q
      · exact ⟨0, List.contains_iff_mem.mp q⟩
      · exact ⟨1, List.contains_iff_mem.mp q⟩
    obtain ⟨z, hf⟩ := hf
    rw [Nat.eq_of_beq_eq_true hn] at hd h
    unfold jx at h; dsimp only at h
    split at h
    · rename_i x st
      obtain ⟨hT, h⟩ := h
      cases hb1 : Nat.beq c 1 with
      | true =>
        rw [hb1] at h
        obtain ⟨r, hr, h⟩ := h
        exact go_getf hd hf hM ha hb hT (Or.inr ⟨hc.trans (Nat.eq_of_beq_eq_true hb1), by rw [hr]⟩) h
      | false =>
        rw [hb1] at h
        exact go_getf hd hf hM ha hb hT (Or.inl ⟨by rw [hc]; exact Nat.ne_of_beq_eq_false hb1, rfl⟩) h
    · exact h.elim
  case putfield i =>
    simp only [jlk, Bool.and_eq_true, decide_eq_true_eq] at hok
    obtain ⟨⟨⟨⟨hn, ha⟩, hb⟩, hc⟩, hf⟩ := hok.2
    have hc := Nat.eq_of_beq_eq_true hc
    have hf : ∃ z, (M.1, i, a, b, z) ∈ jfl := by
      rcases Bool.or_eq_true_iff.mp hf with q | q
      · exact ⟨0, List.contains_iff_mem.mp q⟩
      · exact ⟨1, List.contains_iff_mem.mp q⟩
    obtain ⟨z, hf⟩ := hf
    rw [Nat.eq_of_beq_eq_true hn] at hd h
    unfold jx at h; dsimp only at h
    split at h
    · rename_i y x st
      obtain ⟨hT, h0, h⟩ := h
      refine go_putf hd hf hM ha hb hT ?_ h
      cases hb1 : Nat.beq c 0 with
      | true => exact Or.inl (hc.trans (Nat.eq_of_beq_eq_true hb1))
      | false => rw [hb1] at h0; exact Or.inr ⟨hc.trans h0.1, h0.2⟩
    · exact h.elim
  case iaload =>
    simp only [jlk, Bool.and_eq_true, decide_eq_true_eq] at hok
    obtain ⟨hn, ha⟩ := hok.2
    rw [Nat.eq_of_beq_eq_true hn] at hd h
    unfold jx at h; dsimp only at h
    split at h
    · obtain ⟨hT, m, hN, hi, h⟩ := h
      rw [Nat.eq_of_beq_eq_true ha] at hT
      exact go_iald hd hT hN hi h
    · exact h.elim
  case baload =>
    simp only [jlk, Bool.and_eq_true, decide_eq_true_eq] at hok
    obtain ⟨hn, ha⟩ := hok.2
    rw [Nat.eq_of_beq_eq_true hn] at hd h
    unfold jx at h; dsimp only at h
    split at h
    · obtain ⟨hT, m, hN, hi, h⟩ := h
      rcases Bool.or_eq_true_iff.mp ha with ha | ha
      · rw [Nat.eq_of_beq_eq_true ha] at hT; exact go_bald hd hT hN hi h
      · rw [Nat.eq_of_beq_eq_true ha] at hT; exact go_zald hd hT hN hi h
    · exact h.elim
  case laload =>
    simp only [jlk, Bool.and_eq_true, decide_eq_true_eq] at hok
    obtain ⟨hn, ha⟩ := hok.2
    rw [Nat.eq_of_beq_eq_true hn] at hd h
    unfold jx at h; dsimp only at h
    split at h
    · obtain ⟨hT, m, hN, hi, h⟩ := h
      rw [Nat.eq_of_beq_eq_true ha] at hT
      exact go_lald hd hT hN hi h
    · exact h.elim
  case aaload =>
    simp only [jlk, Bool.and_eq_true, decide_eq_true_eq] at hok
    obtain ⟨hn, ha⟩ := hok.2
    rw [Nat.eq_of_beq_eq_true hn] at hd h
    unfold jx at h; dsimp only at h
    split at h
    · obtain ⟨hT, m, hN, hi, r, hr, h⟩ := h
      rcases Bool.or_eq_true_iff.mp ha with ha | ha
      · rw [Nat.eq_of_beq_eq_true ha] at hT; exact go_aald24 hd hT hN hi hr h
      · rcases Bool.or_eq_true_iff.mp ha with ha | ha
        · rw [Nat.eq_of_beq_eq_true ha] at hT; exact go_aald25 hd hT hN hi hr h
        · rcases Bool.or_eq_true_iff.mp ha with ha | ha
          · rw [Nat.eq_of_beq_eq_true ha] at hT; exact go_aald26 hd hT hN hi hr h
          · rw [Nat.eq_of_beq_eq_true ha] at hT; exact go_aald27 hd hT hN hi hr h
    · exact h.elim
  case iastore =>
    simp only [jlk, Bool.and_eq_true, decide_eq_true_eq] at hok
    rw [Nat.eq_of_beq_eq_true hok.2] at hd h
    unfold jx at h; dsimp only at h
    split at h
    · obtain ⟨hT, m, hN, hi, h⟩ := h
      exact go_iast hd hT hN hi h
    · exact h.elim
  case bastore =>
    simp only [jlk, Bool.and_eq_true, decide_eq_true_eq] at hok
    obtain ⟨hn, ha⟩ := hok.2
    rw [Nat.eq_of_beq_eq_true hn] at hd h
    unfold jx at h; dsimp only at h
    split at h
    · obtain ⟨hT, m, hN, hi, h⟩ := h
      rcases Bool.or_eq_true_iff.mp ha with ha | ha
      · have e := Nat.eq_of_beq_eq_true ha; subst e; exact go_bast hd hT hN hi h
      · have e := Nat.eq_of_beq_eq_true ha; subst e; exact go_zast hd hT hN hi h
    · exact h.elim
  case lastore =>
    simp only [jlk, Bool.and_eq_true, decide_eq_true_eq] at hok
    rw [Nat.eq_of_beq_eq_true hok.2] at hd h
    unfold jx at h; dsimp only at h
    split at h
    · obtain ⟨hT, m, hN, hi, h⟩ := h
      exact go_last hd hT hN hi h
    · exact h.elim
  case arraylength =>
    simp only [jlk, Bool.and_eq_true, decide_eq_true_eq] at hok
    obtain ⟨⟨hn, h20⟩, h28⟩ := hok.2
    rw [Nat.eq_of_beq_eq_true hn] at hd h
    unfold jx at h; dsimp only at h
    split at h
    · obtain ⟨hT, m, hN, h⟩ := h
      exact go_alen hd hT h20 h28 hN h
    · exact h.elim
  case ldc i =>
    simp only [jlk, Bool.and_eq_true, decide_eq_true_eq] at hok
    obtain ⟨hn, hκ⟩ := hok.2
    rw [Nat.eq_of_beq_eq_true hn] at hd h
    split at hκ
    · exact go_ldc hM hd (of_decide_eq_true hκ) h
    · exact go_ldcS hM hd (of_decide_eq_true hκ) h
    · cases hκ
  case ldc_w i =>
    simp only [jlk, Bool.and_eq_true, decide_eq_true_eq] at hok
    obtain ⟨hn, hκ⟩ := hok.2
    rw [Nat.eq_of_beq_eq_true hn] at hd h
    split at hκ
    · exact go_ldcw hM hd (of_decide_eq_true hκ) h
    · exact go_ldcwS hM hd (of_decide_eq_true hκ) h
    · cases hκ
  case ldc2_w i =>
    simp only [jlk, Bool.and_eq_true, decide_eq_true_eq] at hok
    obtain ⟨hn, hκ⟩ := hok.2
    rw [Nat.eq_of_beq_eq_true hn] at hd h
    split at hκ
    · exact go_ldc2 hM hd (of_decide_eq_true hκ) h
    · cases hκ
  all_goals exact False.elim h
def jgo : List jE → List (Nat × jV) → List jV → jMem → (List (Nat × jV) → List jV → jMem → Prop) → Prop
  | [], L, st, μ, k => k L st μ
  | e :: es, L, st, μ, k => jx e.1 e.2.1 e.2.2.1 e.2.2.2.1 e.2.2.2.2.1 e.2.2.2.2.2 L st μ (fun L' st' μ' => jgo es L' st' μ' k)
def jblk (M : jM) : Nat → List jE → Nat → Bool
  | pc, [], pc' => Nat.beq pc pc'
  | pc, e :: es, pc' => decide (decode M.2.2.1 pc = .ok (e.1, e.2.1)) && jlk M e.1 e.2.1 e.2.2.1 e.2.2.2.1 e.2.2.2.2.1 e.2.2.2.2.2 && jblk M (pc + e.2.1) es pc'
theorem jx_mono {i : Instr} {n a b c : Nat} {κ : jV} {L : List (Nat × jV)} {st : List jV} {μ : jMem} {k k2 : List (Nat × jV) → List jV → jMem → Prop} (hk : ∀ L' st' μ', k L' st' μ' → k2 L' st' μ') (h : jx i n a b c κ L st μ k) : jx i n a b c κ L st μ k2 := by
  revert h
  unfold jx
  cases i
  case dup =>
    dsimp only; split
    · rename_i x st; cases jis2 x <;> intro h
      · exact hk _ _ _ h
      · exact h
    · exact id
  case pop =>
    dsimp only; split
    · rename_i x st; cases jis2 x <;> intro h
      · exact hk _ _ _ h
      · exact h
    · exact id
  case dup2 =>
    dsimp only; split
    · rename_i x y st; cases (jis2 x || jis2 y) <;> intro h
      · exact hk _ _ _ h
      · exact h
    · exact id
  case getfield =>
    dsimp only; split
    · intro h
      refine ⟨h.1, ?_⟩
      have h := h.2
      revert h
      cases Nat.beq c 1 <;> intro h
      · exact hk _ _ _ h
      · obtain ⟨r, h1, h2⟩ := h
        exact ⟨r, h1, hk _ _ _ h2⟩
    · exact id
  all_goals first
    | exact id
    | exact fun h => hk _ _ _ h
    | (dsimp only; split <;> intro h <;> first
        | exact hk _ _ _ h
        | exact h.elim
        | exact ⟨h.1, hk _ _ _ h.2⟩
        | exact ⟨h.1, h.2.1, hk _ _ _ h.2.2⟩
        | (obtain ⟨h1, m, h2, h3, h4⟩ := h; exact ⟨h1, m, h2, h3, hk _ _ _ h4⟩)
        | (obtain ⟨h1, m, h2, h3⟩ := h; exact ⟨h1, m, h2, hk _ _ _ h3⟩)
        | (obtain ⟨h1, m, h2, h3, r, h4, h5⟩ := h; exact ⟨h1, m, h2, h3, r, h4, hk _ _ _ h5⟩))
theorem go_blk (hM : M.2.1.cls = jcn M.1) : ∀ (es : List jE) (pc pc' : Nat) (L : List (Nat × jV)) (st : List jV) (μ : jMem), jblk M pc es pc' = true → jgo es L st μ (fun L' st' μ' => Go M d mc ms kc ks pc' L' st' μ' Q) → Go M d mc ms kc ks pc L st μ Q
  | [], pc, pc', L, st, μ, hb, h => by
    have e := Nat.eq_of_beq_eq_true hb
    subst e; exact h
  | e :: es, pc, pc', L, st, μ, hb, h => by
    unfold jblk at hb
    simp only [Bool.and_eq_true, decide_eq_true_eq] at hb
    exact go_x hM hb.1 (jx_mono (fun L' st' μ' q => go_blk hM es (pc + e.2.1) pc' L' st' μ' hb.2 q) h)
end BLK
