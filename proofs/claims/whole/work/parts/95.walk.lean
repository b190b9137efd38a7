def lwT : List Nat := [200, 263, 286, 299, 312, 335, 368, 401, 434, 447, 470, 503, 536, 559, 572, 615, 638, 661, 694, 737, 760, 783, 796, 829, 842, 885, 928, 951, 974, 1027, 1060, 1103, 1126, 1159, 1182, 1225, 1248, 1271]
def lwO : Array Int := #[167, 230, 253, 266, 279, 302, 335, 368, 401, 414, 437, 470, 503, 526, 539, 582, 605, 628, 661, 704, 727, 750, 763, 796, 809, 852, 895, 918, 941, 994, 1027, 1070, 1093, 1126, 1149, 1192, 1215, 1238]
theorem lw_sw0 : decode code 33 = .ok (.tableswitch 1261 0 37 lwO, 167) := by decide +kernel
theorem lw_sw1 : ∀ n, n < 38 → ¬ (nI n).toInt < 0 ∧ ¬ 37 < (nI n).toInt ∧ lwO[((nI n).toInt - 0).toNat]? = some ((lwT.getD n 0 : Int) - 33) := by decide +kernel
theorem lw_sw2 : ∀ n, n < 64 → 38 ≤ n → 37 < (nI n).toInt := by decide +kernel
theorem lw_63 (x : Int32) : ∃ n, n < 64 ∧ x &&& 63 = nI n := by
  have e : nI (x &&& 63).toBitVec.toNat = x &&& 63 := by unfold nI; apply Int32.toBitVec_inj.mp; simp
  refine ⟨(x &&& 63).toBitVec.toNat, ?_, e.symm⟩
  have : (x &&& 63).toBitVec = x.toBitVec &&& 63#32 := rfl
  rw [this, BitVec.toNat_and]
  exact Nat.lt_of_le_of_lt Nat.and_le_right (by decide)
section LOOP2
variable {p : Program} {l : Launch} {e : Env} {s : State} {m : MethodId} {below : List Frame} {meth : Method} {c : Code} {b L : Nat} {xs : Nat → Int32} {D : va_G} {cid : Nat → ClassId} {adK adV : Nat → Nat}
variable {H : Heap} {locs : List Loc} {cells slots : Nat} {ls : Array Slot} {Qs : State → Prop}
set_option maxHeartbeats 4000000 in
theorem lw_cases (hX : lwX p s m meth c b L xs D cid adK adV) {i j q1 q2 n : Nat} (hi : i + 6 ≤ L) (hL : L ≤ 3072) (hj : j < 600) (hn : n < 38)
    {S : jS} {T : jT} {X : jS} {TX : jT} (hS : lwS s b D cid adK q1 q2 i j H locs cells slots ls S T X TX)
    (k : ∀ H locs cells slots S T X TX, lwS s b D cid adK q1 q2 i (j + 1) H locs cells slots ls S T X TX → W p l e room_1 s m #[Value.ref b] below meth c H locs cells slots Qs (F0 m 1294 ls [])) :
    W p l e room_1 s m #[Value.ref b] below meth c H locs cells slots Qs (F0 m (lwT.getD n 0) ls []) := by
  match n, hn with
  | 0, _ => exact lw_case (pc := 200) (n := 5) (idx := 13) (idx' := 17) (off := 1036) hX hi hL hj (by decide) ⟨by decide +kernel, by decide +kernel, by decide +kernel, by decide +kernel, by decide +kernel, by decide +kernel, by decide +kernel, by decide⟩ ml_12_13 ml_12_17 wv10_feed wv11_feed rfl rfl cpL_feed hS k
  | 1, _ => exact lw_case (pc := 263) (n := 1) (idx := 18) (idx' := 22) (off := 1013) hX hi hL hj (by decide) ⟨by decide +kernel, by decide +kernel, by decide +kernel, by decide +kernel, by decide +kernel, by decide +kernel, by decide +kernel, by decide⟩ ml_12_18 ml_12_22 wv10_end wv11_end rfl rfl cpL_end hS k
  | 2, _ => exact lw_case (pc := 286) (n := 0) (idx := 23) (idx' := 27) (off := 1000) hX hi hL hj (by decide) ⟨by decide +kernel, by decide +kernel, by decide +kernel, by decide +kernel, by decide +kernel, by decide +kernel, by decide +kernel, by decide⟩ ml_12_23 ml_12_27 wv10_party wv11_party rfl rfl cpL_party hS k
  | 3, _ => exact lw_case (pc := 299) (n := 0) (idx := 28) (idx' := 31) (off := 987) hX hi hL hj (by decide) ⟨by decide +kernel, by decide +kernel, by decide +kernel, by decide +kernel, by decide +kernel, by decide +kernel, by decide +kernel, by decide⟩ ml_12_28 ml_12_31 wv10_rule wv11_rule rfl rfl cpL_rule hS k
  | 4, _ => exact lw_case (pc := 312) (n := 1) (idx := 32) (idx' := 35) (off := 964) hX hi hL hj (by decide) ⟨by decide +kernel, by decide +kernel, by decide +kernel, by decide +kernel, by decide +kernel, by decide +kernel, by decide +kernel, by decide⟩ ml_12_32 ml_12_35 wv10_force wv11_force rfl rfl cpL_force hS k
  | 5, _ => exact lw_case (pc := 335) (n := 2) (idx := 36) (idx' := 40) (off := 931) hX hi hL hj (by decide) ⟨by decide +kernel, by decide +kernel, by decide +kernel, by decide +kernel, by decide +kernel, by decide +kernel, by decide +kernel, by decide⟩ ml_12_36 ml_12_40 wv10_chair wv11_chair rfl rfl cpL_chair hS k
  | 6, _ => exact lw_case (pc := 368) (n := 2) (idx := 41) (idx' := 44) (off := 898) hX hi hL hj (by decide) ⟨by decide +kernel, by decide +kernel, by decide +kernel, by decide +kernel, by decide +kernel, by decide +kernel, by decide +kernel, by decide⟩ ml_12_41 ml_12_44 wv10_guest wv11_guest rfl rfl cpL_guest hS k
  | 7, _ => exact lw_case (pc := 401) (n := 2) (idx := 45) (idx' := 48) (off := 865) hX hi hL hj (by decide) ⟨by decide +kernel, by decide +kernel, by decide +kernel, by decide +kernel, by decide +kernel, by decide +kernel, by decide +kernel, by decide⟩ ml_12_45 ml_12_48 wv10_time wv11_time rfl rfl cpL_time hS k
  | 8, _ => exact lw_case (pc := 434) (n := 0) (idx := 49) (idx' := 52) (off := 852) hX hi hL hj (by decide) ⟨by decide +kernel, by decide +kernel, by decide +kernel, by decide +kernel, by decide +kernel, by decide +kernel, by decide +kernel, by decide⟩ ml_12_49 ml_12_52 wv10_round wv11_round rfl rfl cpL_round hS k
  | 9, _ => exact lw_case (pc := 447) (n := 1) (idx := 53) (idx' := 56) (off := 829) hX hi hL hj (by decide) ⟨by decide +kernel, by decide +kernel, by decide +kernel, by decide +kernel, by decide +kernel, by decide +kernel, by decide +kernel, by decide⟩ ml_12_53 ml_12_56 wv10_play wv11_play rfl rfl cpL_play hS k
  | 10, _ => exact lw_case (pc := 470) (n := 2) (idx := 57) (idx' := 60) (off := 796) hX hi hL hj (by decide) ⟨by decide +kernel, by decide +kernel, by decide +kernel, by decide +kernel, by decide +kernel, by decide +kernel, by decide +kernel, by decide⟩ ml_12_57 ml_12_60 wv10_swap wv11_swap rfl rfl cpL_swap hS k
  | 11, _ => exact lw_case (pc := 503) (n := 2) (idx := 61) (idx' := 64) (off := 763) hX hi hL hj (by decide) ⟨by decide +kernel, by decide +kernel, by decide +kernel, by decide +kernel, by decide +kernel, by decide +kernel, by decide +kernel, by decide⟩ ml_12_61 ml_12_64 wv10_pace wv11_pace rfl rfl cpL_pace hS k
  | 12, _ => exact lw_case (pc := 536) (n := 1) (idx := 65) (idx' := 68) (off := 740) hX hi hL hj (by decide) ⟨by decide +kernel, by decide +kernel, by decide +kernel, by decide +kernel, by decide +kernel, by decide +kernel, by decide +kernel, by decide⟩ ml_12_65 ml_12_68 wv10_bring wv11_bring rfl rfl cpL_bring hS k
  | 13, _ => exact lw_case (pc := 559) (n := 0) (idx := 69) (idx' := 72) (off := 727) hX hi hL hj (by decide) ⟨by decide +kernel, by decide +kernel, by decide +kernel, by decide +kernel, by decide +kernel, by decide +kernel, by decide +kernel, by decide⟩ ml_12_69 ml_12_72 wv10_undo wv11_undo rfl rfl cpL_undo hS k
  | 14, _ => exact lw_case (pc := 572) (n := 3) (idx := 73) (idx' := 77) (off := 684) hX hi hL hj (by decide) ⟨by decide +kernel, by decide +kernel, by decide +kernel, by decide +kernel, by decide +kernel, by decide +kernel, by decide +kernel, by decide⟩ ml_12_73 ml_12_77 wv10_ahead wv11_ahead rfl rfl cpL_ahead hS k
  | 15, _ => exact lw_case (pc := 615) (n := 1) (idx := 78) (idx' := 81) (off := 661) hX hi hL hj (by decide) ⟨by decide +kernel, by decide +kernel, by decide +kernel, by decide +kernel, by decide +kernel, by decide +kernel, by decide +kernel, by decide⟩ ml_12_78 ml_12_81 wv10_winner wv11_winner rfl rfl cpL_winner hS k
  | 16, _ => exact lw_case (pc := 638) (n := 1) (idx := 82) (idx' := 85) (off := 638) hX hi hL hj (by decide) ⟨by decide +kernel, by decide +kernel, by decide +kernel, by decide +kernel, by decide +kernel, by decide +kernel, by decide +kernel, by decide⟩ ml_12_82 ml_12_85 wv10_gone wv11_gone rfl rfl cpL_gone hS k
  | 17, _ => exact lw_case (pc := 661) (n := 2) (idx := 86) (idx' := 89) (off := 605) hX hi hL hj (by decide) ⟨by decide +kernel, by decide +kernel, by decide +kernel, by decide +kernel, by decide +kernel, by decide +kernel, by decide +kernel, by decide⟩ ml_12_86 ml_12_89 wv10_safe wv11_safe rfl rfl cpL_safe hS k
  | 18, _ => exact lw_case (pc := 694) (n := 3) (idx := 90) (idx' := 93) (off := 562) hX hi hL hj (by decide) ⟨by decide +kernel, by decide +kernel, by decide +kernel, by decide +kernel, by decide +kernel, by decide +kernel, by decide +kernel, by decide⟩ ml_12_90 ml_12_93 wv10_row wv11_row rfl rfl cpL_row hS k
  | 19, _ => exact lw_case (pc := 737) (n := 1) (idx := 94) (idx' := 97) (off := 539) hX hi hL hj (by decide) ⟨by decide +kernel, by decide +kernel, by decide +kernel, by decide +kernel, by decide +kernel, by decide +kernel, by decide +kernel, by decide⟩ ml_12_94 ml_12_97 wv10_within wv11_within rfl rfl cpL_within hS k
  | 20, _ => exact lw_case (pc := 760) (n := 1) (idx := 98) (idx' := 101) (off := 516) hX hi hL hj (by decide) ⟨by decide +kernel, by decide +kernel, by decide +kernel, by decide +kernel, by decide +kernel, by decide +kernel, by decide +kernel, by decide⟩ ml_12_98 ml_12_101 wv10_kind wv11_kind rfl rfl cpL_kind hS k
  | 21, _ => exact lw_case (pc := 783) (n := 0) (idx := 102) (idx' := 105) (off := 503) hX hi hL hj (by decide) ⟨by decide +kernel, by decide +kernel, by decide +kernel, by decide +kernel, by decide +kernel, by decide +kernel, by decide +kernel, by decide⟩ ml_12_102 ml_12_105 wv10_longest wv11_longest rfl rfl cpL_longest hS k
  | 22, _ => exact lw_case (pc := 796) (n := 2) (idx := 106) (idx' := 109) (off := 470) hX hi hL hj (by decide) ⟨by decide +kernel, by decide +kernel, by decide +kernel, by decide +kernel, by decide +kernel, by decide +kernel, by decide +kernel, by decide⟩ ml_12_106 ml_12_109 wv10_meet wv11_meet rfl rfl cpL_meet hS k
  | 23, _ => exact lw_case (pc := 829) (n := 0) (idx := 110) (idx' := 113) (off := 457) hX hi hL hj (by decide) ⟨by decide +kernel, by decide +kernel, by decide +kernel, by decide +kernel, by decide +kernel, by decide +kernel, by decide +kernel, by decide⟩ ml_12_110 ml_12_113 wv10_tour wv11_tour rfl rfl cpL_tour hS k
  | 24, _ => exact lw_case (pc := 842) (n := 3) (idx := 114) (idx' := 117) (off := 414) hX hi hL hj (by decide) ⟨by decide +kernel, by decide +kernel, by decide +kernel, by decide +kernel, by decide +kernel, by decide +kernel, by decide +kernel, by decide⟩ ml_12_114 ml_12_117 wv10_away wv11_away rfl rfl cpL_away hS k
  | 25, _ => exact lw_case (pc := 885) (n := 3) (idx := 118) (idx' := 121) (off := 371) hX hi hL hj (by decide) ⟨by decide +kernel, by decide +kernel, by decide +kernel, by decide +kernel, by decide +kernel, by decide +kernel, by decide +kernel, by decide⟩ ml_12_118 ml_12_121 wv10_begin wv11_begin rfl rfl cpL_begin hS k
  | 26, _ => exact lw_case (pc := 928) (n := 1) (idx := 122) (idx' := 125) (off := 348) hX hi hL hj (by decide) ⟨by decide +kernel, by decide +kernel, by decide +kernel, by decide +kernel, by decide +kernel, by decide +kernel, by decide +kernel, by decide⟩ ml_12_122 ml_12_125 wv10_steps wv11_steps rfl rfl cpL_steps hS k
  | 27, _ => exact lw_case (pc := 951) (n := 1) (idx := 126) (idx' := 129) (off := 325) hX hi hL hj (by decide) ⟨by decide +kernel, by decide +kernel, by decide +kernel, by decide +kernel, by decide +kernel, by decide +kernel, by decide +kernel, by decide⟩ ml_12_126 ml_12_129 wv10_quicks wv11_quicks rfl rfl cpL_quicks hS k
  | 28, _ => exact lw_case (pc := 974) (n := 4) (idx := 130) (idx' := 134) (off := 272) hX hi hL hj (by decide) ⟨by decide +kernel, by decide +kernel, by decide +kernel, by decide +kernel, by decide +kernel, by decide +kernel, by decide +kernel, by decide⟩ ml_12_130 ml_12_134 wv10_rests wv11_rests rfl rfl cpL_rests hS k
  | 29, _ => exact lw_case (pc := 1027) (n := 2) (idx := 135) (idx' := 138) (off := 239) hX hi hL hj (by decide) ⟨by decide +kernel, by decide +kernel, by decide +kernel, by decide +kernel, by decide +kernel, by decide +kernel, by decide +kernel, by decide⟩ ml_12_135 ml_12_138 wv10_pence wv11_pence rfl rfl cpL_pence hS k
  | 30, _ => exact lw_case (pc := 1060) (n := 3) (idx := 139) (idx' := 142) (off := 196) hX hi hL hj (by decide) ⟨by decide +kernel, by decide +kernel, by decide +kernel, by decide +kernel, by decide +kernel, by decide +kernel, by decide +kernel, by decide⟩ ml_12_139 ml_12_142 wv10_note wv11_note rfl rfl cpL_note hS k
  | 31, _ => exact lw_case (pc := 1103) (n := 1) (idx := 143) (idx' := 146) (off := 173) hX hi hL hj (by decide) ⟨by decide +kernel, by decide +kernel, by decide +kernel, by decide +kernel, by decide +kernel, by decide +kernel, by decide +kernel, by decide⟩ ml_12_143 ml_12_146 wv10_ruled wv11_ruled rfl rfl cpL_ruled hS k
  | 32, _ => exact lw_case (pc := 1126) (n := 2) (idx := 147) (idx' := 150) (off := 140) hX hi hL hj (by decide) ⟨by decide +kernel, by decide +kernel, by decide +kernel, by decide +kernel, by decide +kernel, by decide +kernel, by decide +kernel, by decide⟩ ml_12_147 ml_12_150 wv10_look wv11_look rfl rfl cpL_look hS k
  | 33, _ => exact lw_case (pc := 1159) (n := 1) (idx := 151) (idx' := 154) (off := 117) hX hi hL hj (by decide) ⟨by decide +kernel, by decide +kernel, by decide +kernel, by decide +kernel, by decide +kernel, by decide +kernel, by decide +kernel, by decide⟩ ml_12_151 ml_12_154 wv10_seed wv11_seed rfl rfl cpL_seed hS k
  | 34, _ => exact lw_case (pc := 1182) (n := 3) (idx := 155) (idx' := 158) (off := 74) hX hi hL hj (by decide) ⟨by decide +kernel, by decide +kernel, by decide +kernel, by decide +kernel, by decide +kernel, by decide +kernel, by decide +kernel, by decide⟩ ml_12_155 ml_12_158 wv10_tunes wv11_tunes rfl rfl cpL_tunes hS k
  | 35, _ => exact lw_case (pc := 1225) (n := 1) (idx := 159) (idx' := 162) (off := 51) hX hi hL hj (by decide) ⟨by decide +kernel, by decide +kernel, by decide +kernel, by decide +kernel, by decide +kernel, by decide +kernel, by decide +kernel, by decide⟩ ml_12_159 ml_12_162 wv10_count wv11_count rfl rfl cpL_count hS k
  | 36, _ => exact lw_case (pc := 1248) (n := 1) (idx := 163) (idx' := 166) (off := 28) hX hi hL hj (by decide) ⟨by decide +kernel, by decide +kernel, by decide +kernel, by decide +kernel, by decide +kernel, by decide +kernel, by decide +kernel, by decide⟩ ml_12_163 ml_12_166 wv10_image wv11_image rfl rfl cpL_image hS k
  | 37, _ => exact lw_case (pc := 1271) (n := 1) (idx := 167) (idx' := 170) (off := 5) hX hi hL hj (by decide) ⟨by decide +kernel, by decide +kernel, by decide +kernel, by decide +kernel, by decide +kernel, by decide +kernel, by decide +kernel, by decide⟩ ml_12_167 ml_12_170 wv10_back wv11_back rfl rfl cpL_back hS k
  | n + 38, h => exact absurd h (by omega)
theorem lw_cmp {L i : Nat} (hL : L ≤ 3072) (hi : i < 5000) (h : ¬ nI L - 6 < nI i) : i + 6 ≤ L := by
  by_cases h6 : 6 ≤ L
  · have e : nI L - 6 = nI (L - 6) := nI_sub (b := 6) h6
    rw [e] at h
    by_cases g : i + 6 ≤ L
    · exact g
    · exact absurd (nI_lt (by omega) (by omega)) h
  · have h1 : ∀ k, k < 6 → nI k - 6 < nI 0 := by decide
    have h2 := h1 L (by omega)
    exfalso
    apply h
    by_cases h0 : i = 0
    · rw [h0]; exact h2
    · exact Int32.lt_trans h2 (nI_lt (by omega) (by omega))
theorem lw_loop (hX : lwX p s m meth c b L xs D cid adK adV) (hL : L ≤ 3072) {q1 q2 : Nat} : ∀ (f j : Nat), j + f = 600 → ∀ (H : Heap) (locs : List Loc) (cells slots : Nat) (ls : Array Slot) (S : jS) (T : jT) (X : jS) (TX : jT), lwS s b D cid adK q1 q2 (6 * j) j H locs cells slots ls S T X TX → W p l e room_1 s m #[Value.ref b] below meth c H locs cells slots (lw_Z below #[Value.ref b] s) (F0 m 18 ls []) := by
  obtain ⟨⟨hx, hb, hr, hml, hown, hts, hXX, hbl, hlocks, hgv⟩, -, -⟩ := id hX
  intro f
  induction f with
  | zero =>
    intro j hj H locs cells slots ls S T X TX hS
    obtain ⟨hW, hv, hls, hG, hLM, hI, ha1, ha2, hcc, hss⟩ := id hS
    refine lv_iload_n hx hb (k := 3) (by decide +kernel) rfl (lv_at hls 0 rfl) ?_
    refine lv_aload_n hx hb (k := 0) (by decide +kernel) rfl (lv_at hls 3 rfl) ?_
    refine va_slen hx hb hXX hbl (A := fun q => s.heap.size ≤ q) (Nat.not_le.mpr hbl) hv (by decide +kernel) ?_
    refine lv_bipush (n := 6) (v := 6) hx hb (by decide +kernel) rfl ?_
    refine lv_isub hx hb (by decide +kernel) ?_
    refine lv_icmp_gt (tgt := 1300) (off := 1276) hx hb (by decide +kernel) (by decide) (fun _ => ?_) (fun h => ?_)
    · refine lv_iconst (v := 1) hx hb (n := 1) (by decide +kernel) rfl ?_
      refine va_forget hv.2.2 ?_
      refine W.widen (k := 600000) (n := 7302250) (by omega) (by omega) ?_
      exact lw_ret hx hb hr hlocks (by decide +kernel)
    · have := lw_cmp hL (i := 6 * j) (by omega) h
      omega
  | succ f ih =>
    intro j hj H locs cells slots ls S T X TX hS
    obtain ⟨hW, hv, hls, hG, hLM, hI, ha1, ha2, hcc, hss⟩ := id hS
    refine lv_iload_n hx hb (k := 3) (by decide +kernel) rfl (lv_at hls 0 rfl) ?_
    refine lv_aload_n hx hb (k := 0) (by decide +kernel) rfl (lv_at hls 3 rfl) ?_
    refine va_slen hx hb hXX hbl (A := fun q => s.heap.size ≤ q) (Nat.not_le.mpr hbl) hv (by decide +kernel) ?_
    refine lv_bipush (n := 6) (v := 6) hx hb (by decide +kernel) rfl ?_
    refine lv_isub hx hb (by decide +kernel) ?_
    refine lv_icmp_gt (tgt := 1300) (off := 1276) hx hb (by decide +kernel) (by decide) (fun _ => ?_) (fun h => ?_)
    · refine lv_iconst (v := 1) hx hb (n := 1) (by decide +kernel) rfl ?_
      refine va_forget hv.2.2 ?_
      refine W.widen (k := 600000) (n := 7302250) (by omega) (by omega) ?_
      exact lw_ret hx hb hr hlocks (by decide +kernel)
    · have hi := lw_cmp hL (i := 6 * j) (by omega) h
      have k : ∀ H locs cells slots S T X TX, lwS s b D cid adK q1 q2 (6 * j) (j + 1) H locs cells slots ls S T X TX → W p l e room_1 s m #[Value.ref b] below meth c H locs cells slots (lw_Z below #[Value.ref b] s) (F0 m 1294 ls []) := by
        intro H locs cells slots S T X TX hS
        obtain ⟨hW, hv, hls, hG, hLM, hI, ha1, ha2, hcc, hss⟩ := id hS
        refine lv_iinc (k := 0) (v := nI (6 * (j + 1))) (lv' := [(3, .int (nI (6 * (j + 1)))), (2, .ref q2), (1, .ref q1), (0, .ref b)]) (i := 3) (n := 6) hx hb (by decide +kernel) hls rfl ?_ (by decide) rfl (fun ls' hls' => ?_)
        · show nI (6 * j) + nI 6 = _
          rw [nI_add]; rfl
        refine lv_goto (tgt := 18) (off := -1279) hx hb (by decide +kernel) (by decide) ?_
        exact ih (j + 1) (by omega) H locs cells slots ls' S T X TX ⟨hW, hv, hls', hG, hLM, hI, ha1, ha2, hcc, hss⟩
      refine lv_aload_n hx hb (k := 0) (by decide +kernel) rfl (lv_at hls 3 rfl) ?_
      refine lv_iload_n hx hb (k := 3) (by decide +kernel) rfl (lv_at hls 0 rfl) ?_
      have hin : vp_in (nI (6 * j)) L := by
        refine inb_in ?_
        rw [inb_n (by omega)]
        omega
      refine va_sld hx hb hXX hbl (A := fun q => s.heap.size ≤ q) (Nat.not_le.mpr hbl) hv hin (by decide +kernel) ?_
      refine lv_bipush (n := 63) (v := 63) hx hb (by decide +kernel) rfl ?_
      refine lv_iand hx hb (by decide +kernel) ?_
      obtain ⟨n, hn, en⟩ := lw_63 (xs (nI (6 * j)).toNatClampNeg)
      rw [en]
      by_cases h38 : n < 38
      · obtain ⟨g1, g2, g3⟩ := lw_sw1 n h38
        refine lv_tableIn (tgt := lwT.getD n 0) hx hb lw_sw0 g1 g2 g3 (by omega) ?_
        exact lw_cases hX hi hL (by omega) h38 hS k
      · refine lv_tableOut (tgt := 1294) hx hb lw_sw0 (Or.inr (lw_sw2 n hn (by omega))) (by decide) ?_
        exact k H locs cells slots S T X TX ⟨hW, hv, hls, hG, hLM, hI, ha1, ha2, by omega, by omega⟩
end LOOP2
