/-- a text, or its byte row (from 18 on) -/
def rk (t : Nat) : jV := .inr (.inr (some (.inr (.inr t))))
section STR
variable {M : jM} {d mc ms kc ks pc : Nat} {L : List (Nat × jV)} {st : List jV} {μ : jMem} {Q : Option jV → jMem → Prop}
theorem go_kval {idx t : Nat} (hd : decode M.2.2.1 pc = .ok (.getfield idx, 3)) (hl0 : Cond.fieldLink (jcn M.1) idx "java/lang/String" "value" "[B" ∈ lw_tbl) (hc0 : M.2.1.cls = jcn M.1) (ht : t < 18) (k : Go M d mc ms kc ks (pc + 3) L (rk (t + 18) :: st) μ Q) : Go M d mc ms kc ks pc L (rk t :: st) μ Q := by
  intro p l e s m args below meth c H locs cells slots ls D cid adK adV base hC hW hS hl h1 h2
  obtain ⟨hx0, hb, hml, hr, hts, hown, hlocks, hmn, hbs, hK, hO⟩ := id hC
  rw [hc0] at hown
  refine vk_getf hx0 hb ((hO.1.1 t ht).2.2.1) hS hown (hts _ (jw_mem hl0 rfl)) (fun x h => h) hd ?_
  rw [hO.2.2.2.2.2.2.2.2.1 t ht]
  exact k p l e s m args below meth c H locs cells slots ls D cid adK adV base hC hW hS hl h1 h2
theorem go_kcod {idx t : Nat} (hd : decode M.2.2.1 pc = .ok (.getfield idx, 3)) (hl0 : Cond.fieldLink (jcn M.1) idx "java/lang/String" "coder" "B" ∈ lw_tbl) (hc0 : M.2.1.cls = jcn M.1) (ht : t < 18) (k : Go M d mc ms kc ks (pc + 3) L (vi 0 :: st) μ Q) : Go M d mc ms kc ks pc L (rk t :: st) μ Q := by
  intro p l e s m args below meth c H locs cells slots ls D cid adK adV base hC hW hS hl h1 h2
  obtain ⟨hx0, hb, hml, hr, hts, hown, hlocks, hmn, hbs, hK, hO⟩ := id hC
  rw [hc0] at hown
  exact vk_getf hx0 hb ((hO.1.1 t ht).2.1) hS hown (hts _ (jw_mem hl0 rfl)) (fun x h => h) hd (k p l e s m args below meth c H locs cells slots ls D cid adK adV base hC hW hS hl h1 h2)
theorem go_klen {t : Nat} (hd : decode M.2.2.1 pc = .ok (.arraylength, 1)) (ht : t < 18) (k : Go M d mc ms kc ks (pc + 1) L (vi (slen t) :: st) μ Q) : Go M d mc ms kc ks pc L (rk (t + 18) :: st) μ Q := by
  intro p l e s m args below meth c H locs cells slots ls D cid adK adV base hC hW hS hl h1 h2
  obtain ⟨hx0, hb, hml, hr, hts, hown, hlocks, hmn, hbs, hK, hO⟩ := id hC
  have hT := (hO.1.1 t ht).2.2.2
  rw [hO.2.2.2.2.2.2.2.2.1 t ht] at hT
  exact va_tlen hx0 hb hT hS (v := slen t) rfl hd (k p l e s m args below meth c H locs cells slots ls D cid adK adV base hC hW hS hl h1 h2)
theorem go_kbal {t : Nat} {i : Int32} (hd : decode M.2.2.1 pc = .ok (.baload, 1)) (ht : t < 18) (hi : vp_in i (jlen.getD t 0)) (k : Go M d mc ms kc ks (pc + 1) L (vi (sch t i) :: st) μ Q) : Go M d mc ms kc ks pc L (vi i :: rk (t + 18) :: st) μ Q := by
  intro p l e s m args below meth c H locs cells slots ls D cid adK adV base hC hW hS hl h1 h2
  obtain ⟨hx0, hb, hml, hr, hts, hown, hlocks, hmn, hbs, hK, hO⟩ := id hC
  have hT := (hO.1.1 t ht).2.2.2
  rw [hO.2.2.2.2.2.2.2.2.1 t ht] at hT
  exact va_tb hx0 hb hT hS hi rfl hd (k p l e s m args below meth c H locs cells slots ls D cid adK adV base hC hW hS hl h1 h2)
theorem go_kcom {idx : Nat} (hd : decode M.2.2.1 pc = .ok (.getstatic idx, 3)) (hl0 : Cond.fieldLink (jcn M.1) idx "java/lang/String" "COMPACT_STRINGS" "Z" ∈ lw_tbl) (hc0 : M.2.1.cls = jcn M.1) (k : Go M d mc ms kc ks (pc + 3) L (vi 1 :: st) μ Q) : Go M d mc ms kc ks pc L st μ Q := by
  intro p l e s m args below meth c H locs cells slots ls D cid adK adV base hC hW hS hl h1 h2
  obtain ⟨hx0, hb, hml, hr, hts, hown, hlocks, hmn, hbs, hK, hO⟩ := id hC
  rw [hc0] at hown
  exact va_gets hx0 hb hO.2.2.2.2.2.2.2.2.2.1 hS hown (hts _ (jw_mem hl0 rfl)) (fun x h => h) hd (k p l e s m args below meth c H locs cells slots ls D cid adK adV base hC hW hS hl h1 h2)
theorem go_kfor {idx : Nat} (hd : decode M.2.2.1 pc = .ok (.getstatic idx, 3)) (hl0 : Cond.fieldLink (jcn M.1) idx "jdk/internal/util/Preconditions" "SIOOBE_FORMATTER" "Ljava/util/function/BiFunction;" ∈ lw_tbl) (hc0 : M.2.1.cls = jcn M.1) (k : ∀ x : Option jId, Go M d mc ms kc ks (pc + 3) L (.inr (.inr x) :: st) μ Q) : Go M d mc ms kc ks pc L st μ Q := by
  intro p l e s m args below meth c H locs cells slots ls D cid adK adV base hC hW hS hl h1 h2
  obtain ⟨hx0, hb, hml, hr, hts, hown, hlocks, hmn, hbs, hK, hO⟩ := id hC
  rw [hc0] at hown
  rcases hO.2.2.2.2.2.2.2.2.2.2 with z | z
  · exact va_gets hx0 hb z hS hown (hts _ (jw_mem hl0 rfl)) (fun x h => h) hd (k none p l e s m args below meth c H locs cells slots ls D cid adK adV base hC hW hS hl h1 h2)
  · exact va_gets hx0 hb z hS hown (hts _ (jw_mem hl0 rfl)) (fun x h => h) hd (k (some (.inr (.inr 36))) p l e s m args below meth c H locs cells slots ls D cid adK adV base hC hW hS hl h1 h2)
/-- a call of a text's own method, that changes nothing -/
theorem go_callK {idx n t d' : Nat} {M' : jM} {A st0 : List jV} {v : Option jV} (hd : decode M.2.2.1 pc = .ok (.invokevirtual idx, 3)) (hl0 : (M.1, idx, M', 0) ∈ jml) (hc0 : M.2.1.cls = jcn M.1) (hM : jwV M' n) (hn : A.length = n) (ht : t < 18) (hcl : M'.2.1.cls = "java/lang/String")
    (hR : Ret M' d' 0 0 (rk t :: A) μ v μ) (hdd : d' + 1 ≤ d) (hst : jwd st ≤ 8) (hst0 : st0 = A.reverse ++ rk t :: st)
    (k : Go M d mc ms kc ks (pc + 3) L (v.toList ++ st) μ Q) : Go M d mc ms kc ks pc L st0 μ Q := by
  subst hst0
  intro p l e s m args below meth c H locs cells slots ls D cid adK adV base hC hW hS hl h1 h2
  obtain ⟨hx, hb, hml, hr, hts, hown, hlocks, hmn, hbs, hK, hO⟩ := id hC
  rw [hc0] at hown
  obtain ⟨w1, w2, w3, w4, w5, w6, w7, w8⟩ := hM
  have hrec := vk_recv hO.1 ht hS
  rw [← hcl] at hrec
  have hlk := jmlink hl0 hts hO
  have hRm : (jRm d' 0 0).frames + 1 ≤ (jRm d mc ms).frames ∧ 8 + (M'.2.2.2.1 + 11) + (jRm d' 0 0).locals ≤ (jRm d mc ms).locals := ⟨hdd, by show 8 + (M'.2.2.2.1 + 11) + 64 * d' ≤ 64 * d; omega⟩
  have hpre : PreV s H M'.2.1.cls (adK t) (va_Pc ((rk t :: A : List jV).map (jcv adK μ)) (fun U => jWd D cid adK base μ U.heap ∧ base ≤ U.heap.size ∧ va_K D jcl (jtys cid) U ∧ jOut adK adV base U U.heap)) (A.map (jcv adK μ)) :=
    ⟨jblind, hrec, fun U hU hWU => ⟨rfl, by rw [hU]; exact hW, by rw [hU]; exact Nat.le_trans hbs hS.1, va_K.moved hWU.alike hK, hO.warm hWU hS hU⟩⟩
  have hstk : (F0 m pc ls ((A.reverse ++ rk t :: st).map (jcv adK μ))).stack = (A.map (jcv adK μ)).reverse ++ .ref (adK t) :: st.map (jcv adK μ) := by
    show (A.reverse ++ rk t :: st).map (jcv adK μ) = _
    rw [List.map_append, List.map_reverse]; rfl
  have hwd : ((st.map (jcv adK μ)).map fun v => v.category).sum ≤ 8 := by
    have e : (st.map (jcv adK μ)).map (fun v => v.category) = st.map (fun v => if jis2 v then 2 else 1) := by
      rw [List.map_map]; apply List.map_congr_left; intro y _; exact jcat2 adK μ y
    rw [e]; exact hst
  have hrun : va_Run p l e (jRm d mc ms) s m args below meth c H locs cells slots 0 0 (F0 m pc ls ((A.reverse ++ rk t :: st).map (jcv adK μ))) (st.map (jcv adK μ)) (jQ D cid adK adV base (eqQ v μ) (Value.ref (adK t) :: A.map (jcv adK μ)).toArray) (fun q => base ≤ q) :=
    va_runV (nL := M.2.2.2.1) (Ts := jwords M) ⟨hx, hb, hml, hown, hts⟩ (hR l D cid adK adV base) ⟨callB_of n hts (jgoodIn w4) rfl rfl rfl (hts _ (jw_mem w3 rfl)) (hlk.1 rfl) ⟨w5, w6, w7⟩ hRm, hts _ (jw_mem w1 rfl), hts _ (jw_mem w2 rfl)⟩ hpre rfl (by rw [List.length_map]; exact hn) hl.1 hstk (lv_room hwd) hd ⟨by show cells + 0 ≤ mc; omega, by show slots + 0 ≤ ms; omega⟩
  refine jcall hrun hS (fun v' μ' H1 locs1 hq1 hW1 hS1 => ?_)
  obtain ⟨rfl, rfl⟩ := hq1
  have := k p l e s m args below meth c H1 locs1 (cells + 0) (slots + 0) ls D cid adK adV base hC hW1 hS1 hl (by omega) (by omega)
  rw [List.map_append] at this
  cases v' <;> exact this
end STR
theorem ret15_coder {μ : jMem} {t : Nat} (ht : t < 18) : Ret M15_coder 1 0 0 [rk t] μ (some (vi 0)) μ := by
  refine RetQ.of (by decide +kernel) (Nat.le_of_ble_eq_true rfl) ?_
  show Go _ _ _ _ 0 0 0 [(0, rk t)] [] μ _
  refine go_kcom (idx := 38) (by decide +kernel) (jin_3 (List.mem_of_getElem? (i := 3) rfl)) rfl ?_
  show Go _ _ _ _ 0 0 3 [(0, rk t)] [vi 1] μ _
  refine go_if_eq (off := 10) (tgt := 13) (by decide +kernel) (by decide) (fun z => absurd z (by decide)) (fun _ => ?_)
  show Go _ _ _ _ 0 0 6 [(0, rk t)] [] μ _
  refine go_blk rfl [(.aload_n 0, 1, 0, 0, 0, .inl 0)] 6 7 _ _ _ (by decide +kernel) ?_
  show Go _ _ _ _ 0 0 7 [(0, rk t)] [rk t] μ _
  refine go_kcod (idx := 15) (by decide +kernel) (jin_8 (List.mem_of_getElem? (i := 158) rfl)) rfl ht ?_
  show Go _ _ _ _ 0 0 10 [(0, rk t)] [vi 0] μ _
  refine go_goto (off := 4) (tgt := 14) (by decide +kernel) (by decide) ?_
  exact go_ireturn (by decide +kernel) rfl (by decide) ⟨rfl, rfl⟩
theorem ret15_isLatin1 {μ : jMem} {t : Nat} (ht : t < 18) : Ret M15_isLatin1 1 0 0 [rk t] μ (some (vi 1)) μ := by
  refine RetQ.of (by decide +kernel) (Nat.le_of_ble_eq_true rfl) ?_
  show Go _ _ _ _ 0 0 0 [(0, rk t)] [] μ _
  refine go_kcom (idx := 38) (by decide +kernel) (jin_3 (List.mem_of_getElem? (i := 3) rfl)) rfl ?_
  show Go _ _ _ _ 0 0 3 [(0, rk t)] [vi 1] μ _
  refine go_if_eq (off := 14) (tgt := 17) (by decide +kernel) (by decide) (fun z => absurd z (by decide)) (fun _ => ?_)
  show Go _ _ _ _ 0 0 6 [(0, rk t)] [] μ _
  refine go_blk rfl [(.aload_n 0, 1, 0, 0, 0, .inl 0)] 6 7 _ _ _ (by decide +kernel) ?_
  show Go _ _ _ _ 0 0 7 [(0, rk t)] [rk t] μ _
  refine go_kcod (idx := 15) (by decide +kernel) (jin_8 (List.mem_of_getElem? (i := 158) rfl)) rfl ht ?_
  show Go _ _ _ _ 0 0 10 [(0, rk t)] [vi 0] μ _
  refine go_if_ne (off := 7) (tgt := 17) (by decide +kernel) (by decide) (fun z => absurd rfl z) (fun _ => ?_)
  show Go _ _ _ _ 0 0 13 [(0, rk t)] [] μ _
  refine go_blk rfl [(.iconst 1, 1, 0, 0, 0, .inl 1)] 13 14 _ _ _ (by decide +kernel) ?_
  show Go _ _ _ _ 0 0 14 [(0, rk t)] [vi 1] μ _
  refine go_goto (off := 4) (tgt := 18) (by decide +kernel) (by decide) ?_
  exact go_ireturn (by decide +kernel) rfl (by decide) ⟨rfl, rfl⟩
theorem ret19_checkIndex {μ : jMem} {i n : Int32} {x : Option jId} (h0 : ¬ i < 0) (h1 : i < n) : Ret M19_checkIndex 1 0 0 [vi i, vi n, .inr (.inr x)] μ (some (vi i)) μ := by
  refine RetQ.of (by decide +kernel) (Nat.le_of_ble_eq_true rfl) ?_
  show Go _ _ _ _ 0 0 0 [(0, vi i), (1, vi n), (2, .inr (.inr x))] [] μ _
  refine go_blk rfl [(.iload_n 0, 1, 0, 0, 0, .inl 0)] 0 1 _ _ _ (by decide +kernel) ?_
  show Go _ _ _ _ 0 0 1 [(0, vi i), (1, vi n), (2, .inr (.inr x))] [vi i] μ _
  refine go_if_lt (off := 8) (tgt := 9) (by decide +kernel) (by decide) (fun z => absurd z h0) (fun _ => ?_)
  show Go _ _ _ _ 0 0 4 [(0, vi i), (1, vi n), (2, .inr (.inr x))] [] μ _
  refine go_blk rfl [(.iload_n 0, 1, 0, 0, 0, .inl 0), (.iload_n 1, 1, 1, 0, 0, .inl 0)] 4 6 _ _ _ (by decide +kernel) ?_
  show Go _ _ _ _ 0 0 6 [(0, vi i), (1, vi n), (2, .inr (.inr x))] [vi n, vi i] μ _
  refine go_icmp_lt (off := 10) (tgt := 16) (by decide +kernel) (by decide) (fun _ => ?_) (fun z => absurd h1 z)
  show Go _ _ _ _ 0 0 16 [(0, vi i), (1, vi n), (2, .inr (.inr x))] [] μ _
  refine go_blk rfl [(.iload_n 0, 1, 0, 0, 0, .inl 0)] 16 17 _ _ _ (by decide +kernel) ?_
  exact go_ireturn (ty := .int) (by decide +kernel) rfl rfl ⟨rfl, rfl⟩
theorem ret15_checkIndex {μ : jMem} {i n : Int32} (h0 : ¬ i < 0) (h1 : i < n) : Ret M15_checkIndex 2 0 0 [vi i, vi n] μ none μ := by
  refine RetQ.of (by decide +kernel) (Nat.le_of_ble_eq_true rfl) ?_
  show Go _ _ _ _ 0 0 0 [(0, vi i), (1, vi n)] [] μ _
  refine go_blk rfl [(.iload_n 0, 1, 0, 0, 0, .inl 0), (.iload_n 1, 1, 1, 0, 0, .inl 0)] 0 2 _ _ _ (by decide +kernel) ?_
  show Go _ _ _ _ 0 0 2 [(0, vi i), (1, vi n)] [vi n, vi i] μ _
  refine go_kfor (idx := 1053) (by decide +kernel) (jin_3 (List.mem_of_getElem? (i := 19) rfl)) rfl (fun x => ?_)
  show Go _ _ _ _ 0 0 5 [(0, vi i), (1, vi n)] [.inr (.inr x), vi n, vi i] μ _
  refine go_callS (idx := 1059) (z := 0) (M' := M19_checkIndex) (n := 3) (A := [vi i, vi n, .inr (.inr x)]) (v' := some (vi i)) (μ' := μ) (d' := 1) (mc' := 0) (ms' := 0) (kc' := 0) (ks' := 0) (st := []) (by decide +kernel) ml_15_1059 rfl ws19_checkIndex rfl (ret19_checkIndex h0 h1) (by decide) rfl rfl (Nat.le_of_ble_eq_true rfl) rfl (jag rfl rfl) ?_
  show Go _ _ _ _ 0 0 8 [(0, vi i), (1, vi n)] [vi i] μ _
  refine go_pop (by decide +kernel) rfl ?_
  exact go_return (by decide +kernel) rfl ⟨rfl, rfl⟩
theorem sch_and (t : Nat) (ht : t < 18) : ∀ j, j < (jbyt.getD t []).length → (((jbyt.getD t []).getD j 0 &&& 255).toUInt32 % 65536).toInt32 = (jbyt.getD t []).getD j 0 ∧ narrow .char (.int ((jbyt.getD t []).getD j 0)) = .int ((jbyt.getD t []).getD j 0) := by
  have h : ∀ t, t < 18 → ∀ j, j < (jbyt.getD t []).length → (((jbyt.getD t []).getD j 0 &&& 255).toUInt32 % 65536).toInt32 = (jbyt.getD t []).getD j 0 ∧ narrow .char (.int ((jbyt.getD t []).getD j 0)) = .int ((jbyt.getD t []).getD j 0) := by decide +kernel
  exact h t ht
theorem slen_ok : ∀ t, t < 18 → jlen.getD t 0 = (jbyt.getD t []).length ∧ jlen.getD t 0 < 10 := by decide +kernel
theorem vp_lt {i : Int32} {n : Nat} (h : vp_in i n) (hn : n < 2 ^ 31) : ¬ i < 0 ∧ i < nI n ∧ i.toNatClampNeg < n := by
  unfold vp_in at h
  have h1 : ¬ i < 0 := fun z => h (Or.inl z)
  have h2 : i.toNatClampNeg < n := Nat.not_le.mp (fun z => h (Or.inr z))
  refine ⟨h1, ?_, h2⟩
  rw [Int32.lt_iff_toInt_lt] at h1 ⊢
  have e0 : (0 : Int32).toInt = 0 := rfl
  rw [e0] at h1
  have e1 : (nI n).toInt = (n : Int) := by
    show (Int32.ofNat n).toInt = _
    rw [Int32.toInt_ofNat_of_lt (by simpa using hn)]
  rw [e1]
  have e2 : i.toNatClampNeg = i.toInt.toNat := rfl
  omega
theorem ret16_charAt {μ : jMem} {t : Nat} {i : Int32} (ht : t < 18) (hi : vp_in i (jlen.getD t 0)) : Ret M16_charAt 3 0 0 [rk (t + 18), vi i] μ (some (vi (sch t i))) μ := by
  obtain ⟨l1, l2⟩ := slen_ok t ht
  obtain ⟨h0, h1, h2⟩ := vp_lt hi (by omega)
  obtain ⟨e1, e2⟩ := sch_and t ht i.toNatClampNeg (by omega)
  refine RetQ.of (by decide +kernel) (Nat.le_of_ble_eq_true rfl) ?_
  show Go _ _ _ _ 0 0 0 [(0, rk (t + 18)), (1, vi i)] [] μ _
  refine go_blk rfl [(.iload_n 1, 1, 1, 0, 0, .inl 0), (.aload_n 0, 1, 0, 0, 0, .inl 0)] 0 2 _ _ _ (by decide +kernel) ?_
  show Go _ _ _ _ 0 0 2 [(0, rk (t + 18)), (1, vi i)] [rk (t + 18), vi i] μ _
  refine go_klen (by decide +kernel) ht ?_
  show Go _ _ _ _ 0 0 3 [(0, rk (t + 18)), (1, vi i)] [vi (slen t), vi i] μ _
  refine go_callS (idx := 9) (z := 0) (M' := M15_checkIndex) (n := 2) (A := [vi i, vi (slen t)]) (v' := none) (μ' := μ) (d' := 2) (mc' := 0) (ms' := 0) (kc' := 0) (ks' := 0) (st := []) (by decide +kernel) ml_16_9 rfl ws15_checkIndex rfl (ret15_checkIndex h0 h1) (by decide) rfl rfl (Nat.le_of_ble_eq_true rfl) rfl (jag rfl rfl) ?_
  show Go _ _ _ _ 0 0 6 [(0, rk (t + 18)), (1, vi i)] [] μ _
  refine go_blk rfl [(.aload_n 0, 1, 0, 0, 0, .inl 0), (.iload_n 1, 1, 1, 0, 0, .inl 0)] 6 8 _ _ _ (by decide +kernel) ?_
  show Go _ _ _ _ 0 0 8 [(0, rk (t + 18)), (1, vi i)] [vi i, rk (t + 18)] μ _
  refine go_kbal (by decide +kernel) ht hi ?_
  show Go _ _ _ _ 0 0 9 [(0, rk (t + 18)), (1, vi i)] [vi (sch t i)] μ _
  refine go_blk rfl [(.sipush 255, 3, 0, 0, 0, .inl 255), (.iand, 1, 0, 0, 0, .inl 0), (.i2c, 1, 0, 0, 0, .inl 0)] 9 14 _ _ _ (by decide +kernel) ?_
  show Go _ _ _ _ 0 0 14 [(0, rk (t + 18)), (1, vi i)] [vi (((sch t i &&& 255).toUInt32 % 65536).toInt32)] μ _
  rw [show ((sch t i &&& 255).toUInt32 % 65536).toInt32 = sch t i from e1]
  exact go_ireturn (ty := .char) (by decide +kernel) rfl e2 ⟨rfl, rfl⟩
theorem ret15_length {μ : jMem} {t : Nat} (ht : t < 18) : Ret M15_length 2 0 0 [rk t] μ (some (vi (slen t))) μ := by
  refine RetQ.of (by decide +kernel) (Nat.le_of_ble_eq_true rfl) ?_
  show Go _ _ _ _ 0 0 0 [(0, rk t)] [] μ _
  refine go_blk rfl [(.aload_n 0, 1, 0, 0, 0, .inl 0)] 0 1 _ _ _ (by decide +kernel) ?_
  show Go _ _ _ _ 0 0 1 [(0, rk t)] [rk t] μ _
  refine go_kval (idx := 9) (by decide +kernel) (jin_8 (List.mem_of_getElem? (i := 157) rfl)) rfl ht ?_
  show Go _ _ _ _ 0 0 4 [(0, rk t)] [rk (t + 18)] μ _
  refine go_klen (by decide +kernel) ht ?_
  show Go _ _ _ _ 0 0 5 [(0, rk t)] [vi (slen t)] μ _
  refine go_blk rfl [(.aload_n 0, 1, 0, 0, 0, .inl 0)] 5 6 _ _ _ (by decide +kernel) ?_
  show Go _ _ _ _ 0 0 6 [(0, rk t)] [rk t, vi (slen t)] μ _
  refine go_callK (idx := 335) (M' := M15_coder) (n := 0) (A := []) (v := some (vi 0)) (d' := 1) (t := t) (st := [vi (slen t)]) (by decide +kernel) ml_15_335 rfl wv15_coder rfl ht rfl (ret15_coder ht) (by decide) (Nat.le_of_ble_eq_true rfl) rfl ?_
  show Go _ _ _ _ 0 0 9 [(0, rk t)] [vi 0, vi (slen t)] μ _
  refine go_blk rfl [(.ishr, 1, 0, 0, 0, .inl 0)] 9 10 _ _ _ (by decide +kernel) ?_
  show Go _ _ _ _ 0 0 10 [(0, rk t)] [vi (slen t >>> (0 &&& 31))] μ _
  have e : ∀ t, t < 18 → slen t >>> ((0 : Int32) &&& 31) = slen t := by decide +kernel
  rw [e t ht]
  exact go_ireturn (ty := .int) (by decide +kernel) rfl rfl ⟨rfl, rfl⟩
theorem ret15_charAt {μ : jMem} {t : Nat} {i : Int32} (ht : t < 18) (hi : vp_in i (jlen.getD t 0)) : Ret M15_charAt 4 0 0 [rk t, vi i] μ (some (vi (sch t i))) μ := by
  obtain ⟨l1, l2⟩ := slen_ok t ht
  obtain ⟨h0, h1, h2⟩ := vp_lt hi (by omega)
  obtain ⟨e1, e2⟩ := sch_and t ht i.toNatClampNeg (by omega)
  refine RetQ.of (by decide +kernel) (Nat.le_of_ble_eq_true rfl) ?_
  show Go _ _ _ _ 0 0 0 [(0, rk t), (1, vi i)] [] μ _
  refine go_blk rfl [(.aload_n 0, 1, 0, 0, 0, .inl 0)] 0 1 _ _ _ (by decide +kernel) ?_
  show Go _ _ _ _ 0 0 1 [(0, rk t), (1, vi i)] [rk t] μ _
  refine go_callK (idx := 492) (M' := M15_isLatin1) (n := 0) (A := []) (v := some (vi 1)) (d' := 1) (t := t) (st := []) (by decide +kernel) ml_15_492 rfl wv15_isLatin1 rfl ht rfl (ret15_isLatin1 ht) (by decide) (Nat.le_of_ble_eq_true rfl) rfl ?_
  show Go _ _ _ _ 0 0 4 [(0, rk t), (1, vi i)] [vi 1] μ _
  refine go_if_eq (off := 12) (tgt := 16) (by decide +kernel) (by decide) (fun z => absurd z (by decide)) (fun _ => ?_)
  show Go _ _ _ _ 0 0 7 [(0, rk t), (1, vi i)] [] μ _
  refine go_blk rfl [(.aload_n 0, 1, 0, 0, 0, .inl 0)] 7 8 _ _ _ (by decide +kernel) ?_
  show Go _ _ _ _ 0 0 8 [(0, rk t), (1, vi i)] [rk t] μ _
  refine go_kval (idx := 9) (by decide +kernel) (jin_8 (List.mem_of_getElem? (i := 157) rfl)) rfl ht ?_
  show Go _ _ _ _ 0 0 11 [(0, rk t), (1, vi i)] [rk (t + 18)] μ _
  refine go_blk rfl [(.iload_n 1, 1, 1, 0, 0, .inl 0)] 11 12 _ _ _ (by decide +kernel) ?_
  show Go _ _ _ _ 0 0 12 [(0, rk t), (1, vi i)] [vi i, rk (t + 18)] μ _
  refine go_callS (idx := 495) (z := 0) (M' := M16_charAt) (n := 2) (A := [rk (t + 18), vi i]) (v' := some (vi (sch t i))) (μ' := μ) (d' := 3) (mc' := 0) (ms' := 0) (kc' := 0) (ks' := 0) (st := []) (by decide +kernel) ml_15_495 rfl ws16_charAt rfl (ret16_charAt ht hi) (by decide) rfl rfl (Nat.le_of_ble_eq_true rfl) rfl (jag rfl rfl) ?_
  show Go _ _ _ _ 0 0 15 [(0, rk t), (1, vi i)] [vi (sch t i)] μ _
  exact go_ireturn (ty := .char) (by decide +kernel) rfl e2 ⟨rfl, rfl⟩
section LIBT
variable {M : jM} {d mc ms kc ks pc : Nat} {L : List (Nat × jV)} {st : List jV} {μ : jMem} {Q : Option jV → jMem → Prop}
theorem Ret.up {M : jM} {d d2 mc ms : Nat} {A : List jV} {μ : jMem} {v : Option jV} {μ1 : jMem} (h : Ret M d mc ms A μ v μ1) (hd : d = d2) : Ret M d2 mc ms A μ v μ1 := hd ▸ h
theorem go_slen {idx t : Nat} (hd : decode M.2.2.1 pc = .ok (.invokevirtual idx, 3)) (hl0 : (M.1, idx, M15_length, 0) ∈ jml) (hc0 : M.2.1.cls = jcn M.1) (ht : t < 18) (hdd : 5 ≤ d) (hst : jwd st ≤ 8) (k : Go M d mc ms kc ks (pc + 3) L (.inl (slen t) :: st) μ Q) : Go M d mc ms kc ks pc L (.inr (.inr (some (.inr (.inr t)))) :: st) μ Q :=
  go_callK (M' := M15_length) (n := 0) (A := []) (v := some (vi (slen t))) (d' := 2) (t := t) (st := st) hd hl0 hc0 wv15_length rfl ht rfl (ret15_length ht) (by omega) hst rfl k
theorem go_sch {idx t : Nat} {i : Int32} (hd : decode M.2.2.1 pc = .ok (.invokevirtual idx, 3)) (hl0 : (M.1, idx, M15_charAt, 0) ∈ jml) (hc0 : M.2.1.cls = jcn M.1) (ht : t < 18) (hi : vp_in i (jlen.getD t 0)) (hdd : 5 ≤ d) (hst : jwd st ≤ 8) (k : Go M d mc ms kc ks (pc + 3) L (.inl (sch t i) :: st) μ Q) : Go M d mc ms kc ks pc L (.inl i :: .inr (.inr (some (.inr (.inr t)))) :: st) μ Q :=
  go_callK (M' := M15_charAt) (n := 1) (A := [vi i]) (v := some (vi (sch t i))) (d' := 4) (t := t) (st := st) hd hl0 hc0 wv15_charAt rfl ht rfl (ret15_charAt ht hi) (by omega) hst rfl k
end LIBT
