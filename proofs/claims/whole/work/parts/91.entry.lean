/-! THE ENTRY OF THE LAW: what stands outside, out of the tables and of what is given -/
theorem lw_inst (c : Nat) (hc : c < 12) : Cond.instantiable (jcn c) (jN c) ∈ lw_tbl := by
  match c, hc with
  | 0, _ => exact jin_1 (List.mem_of_getElem? (i := 229) rfl)
  | 1, _ => exact jin_2 (List.mem_of_getElem? (i := 102) rfl)
  | 2, _ => exact jin_2 (List.mem_of_getElem? (i := 60) rfl)
  | 3, _ => exact jin_2 (List.mem_of_getElem? (i := 44) rfl)
  | 4, _ => exact jin_1 (List.mem_of_getElem? (i := 72) rfl)
  | 5, _ => exact jin_1 (List.mem_of_getElem? (i := 66) rfl)
  | 6, _ => exact jin_3 (List.mem_of_getElem? (i := 179) rfl)
  | 7, _ => exact jin_1 (List.mem_of_getElem? (i := 187) rfl)
  | 8, _ => exact jin_2 (List.mem_of_getElem? (i := 126) rfl)
  | 9, _ => exact jin_1 (List.mem_of_getElem? (i := 30) rfl)
  | 10, _ => exact jin_1 (List.mem_of_getElem? (i := 22) rfl)
  | 11, _ => exact jin_5 (List.mem_of_getElem? (i := 204) rfl)
  | n + 12, h => omega
theorem lw_D {A : Array Value} {s : State} (hts : ∀ w ∈ lw_tbl, w.before A s = true) : ∃ D : va_G, ∀ (c : Nat) (q : vw_C), jcl[c]? = some q → u_Kn s q.1 q.2.1 q.2.2 (D.1 c) (D.2 c) := by
  have h : ∀ c : Nat, ∃ x : ClassId × (Nat → Nat), ∀ q : vw_C, jcl[c]? = some q → u_Kn s q.1 q.2.1 q.2.2 x.1 x.2 := by
    intro c
    by_cases hc : c < 12
    · obtain ⟨q, ty0, hq, hn, hw, hty, hnm, hk, hcn⟩ := jclf c hc
      have hi := hts _ (lw_inst c hc)
      rw [← hcn] at hi
      obtain ⟨cC, iS, hk⟩ := u_known (C := q.1) (T := q.2.1) (N := q.2.2) hts hw hi
      refine ⟨(cC, iS), fun q' hq' => ?_⟩
      rw [hq] at hq'
      cases hq'
      exact hk
    · refine ⟨(0, fun _ => 0), fun q' hq' => ?_⟩
      have : c < jcl.length := (List.getElem?_eq_some_iff.mp hq').1
      exact absurd this hc
  obtain ⟨f, hf⟩ := Classical.axiomOfChoice h
  exact ⟨(fun c => (f c).1, fun c => (f c).2), fun c q hq => hf c q hq⟩
theorem lw_cid {A : Array Value} {s : State} (hts : ∀ w ∈ lw_tbl, w.before A s = true) : ∃ cid : Nat → ClassId, ∀ (k : Nat) (q : ClassId × FieldType), (jtys cid)[k]? = some q → ArrOfT s q.1 q.2 ∧ va_RA s q.1 q.2 := by
  have h0 : ∃ c : ClassId, ArrOfT s c .int ∧ va_RA s c .int := by
    obtain ⟨c, k, comp, h1, h2, h3⟩ := Cond.arrayClass_spec (hts (.arrayClass .int) (jin_1 (List.mem_of_getElem? (i := 64) rfl)))
    exact ⟨c, fun n z => ⟨fun k h => (by cases h), k, h2, comp, h3⟩, h1⟩
  have h1 : ∃ c : ClassId, ArrOfT s c .byte ∧ va_RA s c .byte := by
    obtain ⟨c, k, comp, h1, h2, h3⟩ := Cond.arrayClass_spec (hts (.arrayClass .byte) (jin_3 (List.mem_of_getElem? (i := 115) rfl)))
    exact ⟨c, fun n z => ⟨fun k h => (by cases h), k, h2, comp, h3⟩, h1⟩
  have h2 : ∃ c : ClassId, ArrOfT s c .boolean ∧ va_RA s c .boolean := by
    obtain ⟨c, k, comp, h1, h2, h3⟩ := Cond.arrayClass_spec (hts (.arrayClass .boolean) (jin_6 (List.mem_of_getElem? (i := 140) rfl)))
    exact ⟨c, fun n z => ⟨fun k h => (by cases h), k, h2, comp, h3⟩, h1⟩
  have h3 : ∃ c : ClassId, ArrOfT s c .long ∧ va_RA s c .long := by
    obtain ⟨c, k, comp, h1, h2, h3⟩ := Cond.arrayClass_spec (hts (.arrayClass .long) (jin_3 (List.mem_of_getElem? (i := 208) rfl)))
    exact ⟨c, fun n z => ⟨fun k h => (by cases h), k, h2, comp, h3⟩, h1⟩
  have h4 : ∃ c : ClassId, ArrOfT s c (.object RX4) ∧ va_RA s c (.object RX4) := by
    obtain ⟨comp, c, k, h1, h2, h3, h4, h5⟩ := Cond.arrayOver_spec (hts (.arrayOver (.object RX4)) (jin_1 (List.mem_of_getElem? (i := 236) rfl)))
    exact ⟨c, fun n z => ⟨fun k h => (by cases h), k, h3, comp, h4⟩, k, comp, h3, h4, h1, h5⟩
  have h5 : ∃ c : ClassId, ArrOfT s c (.object RX6) ∧ va_RA s c (.object RX6) := by
    obtain ⟨comp, c, k, h1, h2, h3, h4, h5⟩ := Cond.arrayOver_spec (hts (.arrayOver (.object RX6)) (jin_1 (List.mem_of_getElem? (i := 227) rfl)))
    exact ⟨c, fun n z => ⟨fun k h => (by cases h), k, h3, comp, h4⟩, k, comp, h3, h4, h1, h5⟩
  have h6 : ∃ c : ClassId, ArrOfT s c (.object RX0) ∧ va_RA s c (.object RX0) := by
    obtain ⟨comp, c, k, h1, h2, h3, h4, h5⟩ := Cond.arrayOver_spec (hts (.arrayOver (.object RX0)) (jin_2 (List.mem_of_getElem? (i := 42) rfl)))
    exact ⟨c, fun n z => ⟨fun k h => (by cases h), k, h3, comp, h4⟩, k, comp, h3, h4, h1, h5⟩
  have h7 : ∃ c : ClassId, ArrOfT s c (.array .int) ∧ va_RA s c (.array .int) := by
    obtain ⟨comp, c, k, h1, h2, h3, h4, h5⟩ := arrayOverA_spec (hts (.arrayOver (.array .int)) (jin_2 (List.mem_of_getElem? (i := 132) rfl)))
    exact ⟨c, fun n z => ⟨fun k h => (by cases h), k, h3, comp, h4⟩, h5⟩
  obtain ⟨c0, h0⟩ := h0
  obtain ⟨c1, h1⟩ := h1
  obtain ⟨c2, h2⟩ := h2
  obtain ⟨c3, h3⟩ := h3
  obtain ⟨c4, h4⟩ := h4
  obtain ⟨c5, h5⟩ := h5
  obtain ⟨c6, h6⟩ := h6
  obtain ⟨c7, h7⟩ := h7
  refine ⟨fun k => [c0, c1, c2, c3, c4, c5, c6, c7].getD k c0, fun k q hq => ?_⟩
  match k, hq with
  | 0, hq => cases hq; exact h0
  | 1, hq => cases hq; exact h1
  | 2, hq => cases hq; exact h2
  | 3, hq => cases hq; exact h3
  | 4, hq => cases hq; exact h4
  | 5, hq => cases hq; exact h5
  | 6, hq => cases hq; exact h6
  | 7, hq => cases hq; exact h7
  | k + 8, hq => simp [jtys] at hq
def lw_ti : List Nat := [98, 82, 104, 78, 84, 106, 76, 94, 80, 88, 100, 96, 102, 72, 92, 74, 86, 90]
def lw_tj : List Nat := [272, 169, 278, 165, 171, 280, 163, 325, 167, 175, 258, 274, 276, 159, 323, 161, 173, 177]
def lw_tm (i : Nat) : Term := .string "MusicChairs$Tape" (lw_ti.getD i 0)
def lw_tv (i : Nat) : Term := .field (lw_tm i) "java/lang/String" "value" "[B"
def lw_tn (i : Nat) : Term := .string "MusicChairsModel" (lw_tj.getD i 0)
def lw_gv : List Cond := flatC (Cond.and given_1 narrow_1)
theorem lw_g1 : ∀ i, i < 18 → Cond.exactly (lw_tm i) "java/lang/String" ∈ lw_gv := by decide +kernel
theorem lw_g2 : ∀ i, i < 18 → Cond.eq (.field (lw_tm i) "java/lang/String" "coder" "B") (.int 0) ∈ lw_gv := by decide +kernel
theorem lw_g3 : ∀ i, i < 18 → Cond.arrayOf (lw_tv i) .byte ∈ lw_gv := by decide +kernel
theorem lw_g4 : ∀ i, i < 18 → Cond.eq (.length (lw_tv i)) (.int (Int32.ofNat (jlen.getD i 0))) ∈ lw_gv := by decide +kernel
theorem lw_g5 : ∀ i, i < 18 → ∀ j, j < jlen.getD i 0 → Cond.eq (.elem (lw_tv i) (.int (Int32.ofNat j))) (.int ((jbyt.getD i []).getD j 0)) ∈ lw_gv := by decide +kernel
theorem lw_g6 : ∀ i, i < 18 → Cond.eq (lw_tm i) (lw_tn i) ∈ lw_gv := by decide +kernel
theorem lw_g7 : ∀ i, i < 18 → ∀ j, j < 18 → jlen.getD i 0 = jlen.getD j 0 → (∀ k, k < jlen.getD i 0 → (jbyt.getD i []).getD k 0 = (jbyt.getD j []).getD k 0) → i = j := by decide +kernel
theorem lw_g8 : ∀ i, i < 18 → jlen.getD i 0 < 2 ^ 31 := by decide +kernel
theorem lw_Sof {A : Array Value} {s : State} {P : Nat → Prop} (hA : ∀ a : Nat, a < s.heap.size → ¬ P a) (hs : ∀ w ∈ lw_gv, w.before A s = true) : ∃ adK adV : Nat → Nat, vk_S 18 jlen jbyt adK adV P s s.heap ∧ ∀ i, i < 18 → (lw_tm i).eval A s none [] s = some (.ref (adK i)) := by
  have h0 : ∀ i : Nat, ∃ q : Nat × Nat, i < 18 → (lw_tm i).eval A s none [] s = some (.ref q.1) ∧ va_O "java/lang/String" q.1 P s s.heap ∧ va_OF "java/lang/String" "coder" "B" (.int 0) q.1 P s s.heap ∧ va_OF "java/lang/String" "value" "[B" (.ref q.2) q.1 P s s.heap ∧ va_T .byte q.2 (jlen.getD i 0) (fun j => .int ((jbyt.getD i []).getD j 0)) P s s.heap := by
    intro i
    by_cases hi : i < 18
    · obtain ⟨a, c, cA, kA, q1, q2, q3, q4, q5, q6, -⟩ := Cond.exactly_spec (args := A) (first := s) (o := none) (s := s) (idx := []) (t := lw_tm i) (cls := "java/lang/String") (hs _ (lw_g1 i hi))
      obtain ⟨t, ht, hT⟩ := va_Tof (tm := lw_tv i) (f := fun j => .int ((jbyt.getD i []).getD j 0)) (A := P) (lw_g8 i hi) (hs _ (lw_g3 i hi)) (va_eqt (hs _ (lw_g4 i hi))) (fun j hj => va_eqt (hs _ (lw_g5 i hi j hj))) hA
      exact ⟨(a, t), fun _ => ⟨q1, ⟨cA, q3, q5, by rw [q6]; exact q2, hA a (Array.getElem?_eq_some_iff.mp q3).1⟩, vk_OFof q1 (va_eqt (hs _ (lw_g2 i hi))) hA, vk_OFof q1 ht hA, hT⟩⟩
    · exact ⟨(0, 0), fun h => absurd h hi⟩
  obtain ⟨ad, had⟩ := Classical.axiomOfChoice h0
  refine ⟨fun i => (ad i).1, fun i => (ad i).2, ⟨fun i hi => (had i hi).2, fun i j hi hj e => ?_⟩, fun i hi => (had i hi).1⟩
  have e : (ad i).1 = (ad j).1 := e
  obtain ⟨-, -, -, ⟨f1, k1, n1, f, c1, a1, a2, a3, a4, a5, -⟩, ⟨d1, b1, b2, b3, b4, b5, b6, -⟩⟩ := had i hi
  obtain ⟨-, -, -, ⟨f1', k1', n1', f', c1', a1', a2', a3', a4', a5', -⟩, ⟨d1', b1', b2', b3', b4', b5', b6', -⟩⟩ := had j hj
  rw [a1] at a1'
  cases a1'
  rw [e, a3'] at a3
  cases a3
  rw [a5'] at a5
  have ev : (ad j).2 = (ad i).2 := by injection a5 with h; injection h
  rw [ev, b1] at b1'
  cases b1'
  have el : jlen.getD i 0 = jlen.getD j 0 := by
    have h := b5.symm.trans b5'
    have h1 := congrArg Int32.toNatClampNeg h
    have hs1 : ∀ k, k < 18 → (Int32.ofNat (jlen.getD k 0)).toNatClampNeg = jlen.getD k 0 := by decide +kernel
    rw [hs1 i hi, hs1 j hj] at h1
    exact h1
  refine lw_g7 i hi j hj el (fun k hk => ?_)
  have h1 := b6 k hk
  have h2 := b6' k (by rw [← el]; exact hk)
  rw [h1] at h2
  injection h2 with h; injection h
def lw_ad (adK adV : Nat → Nat) (z : Nat) (i : Nat) : Nat := if i < 18 then adK i else if i < 36 then adV (i - 18) else z
theorem lw_sr : ∀ q ∈ jsl, Cond.stringRef (jcn q.1) q.2.1 (jtx.getD q.2.2 "") ∈ lw_tbl := by
  refine List.forall_mem_cons.mpr ⟨jin_2 (List.mem_of_getElem? (i := 213) rfl), ?_⟩
  refine List.forall_mem_cons.mpr ⟨jin_2 (List.mem_of_getElem? (i := 214) rfl), ?_⟩
  refine List.forall_mem_cons.mpr ⟨jin_2 (List.mem_of_getElem? (i := 215) rfl), ?_⟩
  refine List.forall_mem_cons.mpr ⟨jin_2 (List.mem_of_getElem? (i := 216) rfl), ?_⟩
  refine List.forall_mem_cons.mpr ⟨jin_2 (List.mem_of_getElem? (i := 217) rfl), ?_⟩
  refine List.forall_mem_cons.mpr ⟨jin_2 (List.mem_of_getElem? (i := 218) rfl), ?_⟩
  refine List.forall_mem_cons.mpr ⟨jin_2 (List.mem_of_getElem? (i := 219) rfl), ?_⟩
  refine List.forall_mem_cons.mpr ⟨jin_2 (List.mem_of_getElem? (i := 220) rfl), ?_⟩
  refine List.forall_mem_cons.mpr ⟨jin_2 (List.mem_of_getElem? (i := 221) rfl), ?_⟩
  refine List.forall_mem_cons.mpr ⟨jin_2 (List.mem_of_getElem? (i := 222) rfl), ?_⟩
  refine List.forall_mem_cons.mpr ⟨jin_2 (List.mem_of_getElem? (i := 223) rfl), ?_⟩
  refine List.forall_mem_cons.mpr ⟨jin_2 (List.mem_of_getElem? (i := 224) rfl), ?_⟩
  refine List.forall_mem_cons.mpr ⟨jin_2 (List.mem_of_getElem? (i := 225) rfl), ?_⟩
  refine List.forall_mem_cons.mpr ⟨jin_2 (List.mem_of_getElem? (i := 226) rfl), ?_⟩
  refine List.forall_mem_cons.mpr ⟨jin_2 (List.mem_of_getElem? (i := 227) rfl), ?_⟩
  refine List.forall_mem_cons.mpr ⟨jin_2 (List.mem_of_getElem? (i := 228) rfl), ?_⟩
  refine List.forall_mem_cons.mpr ⟨jin_2 (List.mem_of_getElem? (i := 229) rfl), ?_⟩
  refine List.forall_mem_cons.mpr ⟨jin_2 (List.mem_of_getElem? (i := 230) rfl), ?_⟩
  refine List.forall_mem_cons.mpr ⟨jin_6 (List.mem_of_getElem? (i := 180) rfl), ?_⟩
  refine List.forall_mem_cons.mpr ⟨jin_6 (List.mem_of_getElem? (i := 181) rfl), ?_⟩
  refine List.forall_mem_cons.mpr ⟨jin_6 (List.mem_of_getElem? (i := 182) rfl), ?_⟩
  refine List.forall_mem_cons.mpr ⟨jin_7 (List.mem_of_getElem? (i := 6) rfl), ?_⟩
  refine List.forall_mem_cons.mpr ⟨jin_7 (List.mem_of_getElem? (i := 30) rfl), ?_⟩
  refine List.forall_mem_cons.mpr ⟨jin_7 (List.mem_of_getElem? (i := 31) rfl), ?_⟩
  refine List.forall_mem_cons.mpr ⟨jin_7 (List.mem_of_getElem? (i := 32) rfl), ?_⟩
  refine List.forall_mem_cons.mpr ⟨jin_7 (List.mem_of_getElem? (i := 33) rfl), ?_⟩
  refine List.forall_mem_cons.mpr ⟨jin_7 (List.mem_of_getElem? (i := 34) rfl), ?_⟩
  refine List.forall_mem_cons.mpr ⟨jin_7 (List.mem_of_getElem? (i := 35) rfl), ?_⟩
  refine List.forall_mem_cons.mpr ⟨jin_7 (List.mem_of_getElem? (i := 36) rfl), ?_⟩
  refine List.forall_mem_cons.mpr ⟨jin_7 (List.mem_of_getElem? (i := 37) rfl), ?_⟩
  refine List.forall_mem_cons.mpr ⟨jin_7 (List.mem_of_getElem? (i := 38) rfl), ?_⟩
  refine List.forall_mem_cons.mpr ⟨jin_7 (List.mem_of_getElem? (i := 39) rfl), ?_⟩
  refine List.forall_mem_cons.mpr ⟨jin_7 (List.mem_of_getElem? (i := 40) rfl), ?_⟩
  refine List.forall_mem_cons.mpr ⟨jin_7 (List.mem_of_getElem? (i := 53) rfl), ?_⟩
  refine List.forall_mem_cons.mpr ⟨jin_7 (List.mem_of_getElem? (i := 70) rfl), ?_⟩
  refine List.forall_mem_cons.mpr ⟨jin_7 (List.mem_of_getElem? (i := 71) rfl), ?_⟩
  exact fun _ h => absurd h List.not_mem_nil
theorem lw_st : ∀ q ∈ jsl, q.2.2 < 18 ∧ ((jcn q.1 = "MusicChairs$Tape" ∧ lw_ti.getD q.2.2 0 = q.2.1) ∨ (jcn q.1 = "MusicChairsModel" ∧ lw_tj.getD q.2.2 0 = q.2.1)) := by decide +kernel
theorem lw_out {A : Array Value} {s : State} (hts : ∀ w ∈ lw_tbl, w.before A s = true) (hg : (Cond.and given_1 narrow_1).before A s = true) : ∃ adK adV : Nat → Nat, jOut adK adV s.heap.size s s.heap := by
  have hs : ∀ w ∈ lw_gv, w.before A s = true := flat_of_before _ hg
  have hA : ∀ a : Nat, a < s.heap.size → ¬ (fun q : Nat => s.heap.size ≤ q) a := fun a h => Nat.not_le.mpr h
  obtain ⟨adK, adV, hS, he⟩ := lw_Sof (P := fun q => s.heap.size ≤ q) hA hs
  have hZ : va_Z "java/lang/String" "COMPACT_STRINGS" "Z" (.int 1) (fun q => s.heap.size ≤ q) s s.heap := va_Zof (hts (.laysStatic "java/lang/String" "COMPACT_STRINGS" "Z") (jin_3 (List.mem_of_getElem? (i := 4) rfl))) (hts (.initialized "java/lang/String") (jin_1 (List.mem_of_getElem? (i := 12) rfl))) (va_eqt (hs _ (show Cond.eq (.static "java/lang/String" "COMPACT_STRINGS" "Z") (.int 1) ∈ lw_gv by decide +kernel))) hA
  have hF : va_Zq "jdk/internal/util/Preconditions" "SIOOBE_FORMATTER" "Ljava/util/function/BiFunction;" (fun q => s.heap.size ≤ q) s s.heap := va_Zqof (hts (.laysStatic "jdk/internal/util/Preconditions" "SIOOBE_FORMATTER" "Ljava/util/function/BiFunction;") (jin_3 (List.mem_of_getElem? (i := 20) rfl))) (hts (.initialized "jdk/internal/util/Preconditions") (jin_1 (List.mem_of_getElem? (i := 14) rfl))) (hs _ (show Cond.isRef (.static "jdk/internal/util/Preconditions" "SIOOBE_FORMATTER" "Ljava/util/function/BiFunction;") ∈ lw_gv by decide +kernel)) hA
  obtain ⟨z, hz⟩ : ∃ z : Nat, va_Z "jdk/internal/util/Preconditions" "SIOOBE_FORMATTER" "Ljava/util/function/BiFunction;" .null (fun q => s.heap.size ≤ q) s s.heap ∨ va_Z "jdk/internal/util/Preconditions" "SIOOBE_FORMATTER" "Ljava/util/function/BiFunction;" (.ref z) (fun q => s.heap.size ≤ q) s s.heap := by
    rcases hF with h | ⟨t, h⟩
    · exact ⟨0, Or.inl h⟩
    · exact ⟨t, Or.inr h⟩
  have k1 : ∀ i, i < 18 → lw_ad adK adV z i = adK i := fun i hi => by unfold lw_ad; rw [if_pos hi]
  have hm : ∀ i, i < 18 → (lw_tn i).eval A s none [] s = some (.ref (adK i)) := fun i hi => by
    have h := hs _ (lw_g6 i hi)
    have h1 := he i hi
    simp only [Cond.before, Cond.holds, Cond.value, h1] at h
    cases hx : (lw_tn i).eval A s none [] s with
    | none => simp [hx] at h
    | some x => cases x <;> simp [hx] at h ⊢ <;> first | exact h.symm | exact h
  refine ⟨lw_ad adK adV z, adV, ⟨fun i hi => ?_, fun i j hi hj e => ?_⟩, fun q hq => ?_, fun q hq => va_Nw.of (jot_f q) (hts _ (jfl_in q hq)), fun q hq => va_Nw.of (jot_m q) (hts _ (jml_in q hq)), va_AO.of (hts (.arrayOver (.object RX4)) (jin_1 (List.mem_of_getElem? (i := 236) rfl))), va_AO.of (hts (.arrayOver (.object RX6)) (jin_1 (List.mem_of_getElem? (i := 227) rfl))), va_AO.of (hts (.arrayOver (.object RX0)) (jin_2 (List.mem_of_getElem? (i := 42) rfl))), ?_, fun t ht => ?_, hZ, ?_⟩
  · rw [k1 i hi]; exact hS.1 i hi
  · rw [k1 i hi, k1 j hj] at e; exact hS.2 i j hi hj e
  · obtain ⟨h18, h⟩ := lw_st q hq
    rw [k1 _ h18]
    refine vk_R.of (A := A) (hts _ (lw_sr q hq)) ?_
    rcases h with ⟨h1, h2⟩ | ⟨h1, h2⟩
    · have := he _ h18; unfold lw_tm at this; rw [h2] at this; rw [h1]; exact this
    · have := hm _ h18; unfold lw_tn at this; rw [h2] at this; rw [h1]; exact this
  · exact (hts (.arrayOver (.array .int)) (jin_2 (List.mem_of_getElem? (i := 132) rfl)))
  · unfold lw_ad; rw [if_neg (by omega), if_pos (by omega), Nat.add_sub_cancel]
  · rcases hz with h | h
    · exact Or.inl h
    · refine Or.inr ?_
      have : lw_ad adK adV z 36 = z := by unfold lw_ad; rw [if_neg (by omega), if_neg (by omega)]
      rw [this]; exact h
