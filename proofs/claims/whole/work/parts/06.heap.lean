theorem jcv_sF (adK : Nat → Nat) (μ : jMem) (x : jId) (f : Nat → Int32) : jcv adK (sF μ x f) = jcv adK μ := by
  funext y; rcases y with y | y | (_ | y) <;> first | rfl | (show Value.ref (gA adK (sF μ x f) y) = Value.ref (gA adK μ y); rw [sF_A])
theorem jcv_sFL (adK : Nat → Nat) (μ : jMem) (x : jId) (f : Nat → Int64) : jcv adK (sFL μ x f) = jcv adK μ := by
  funext y; rcases y with y | y | (_ | y) <;> first | rfl | (show Value.ref (gA adK (sFL μ x f) y) = Value.ref (gA adK μ y); rw [sFL_A])
theorem jcv_sFR (adK : Nat → Nat) (μ : jMem) (x : jId) (i : Nat) (f : Option Nat) : jcv adK (sFR μ x i f) = jcv adK μ := by
  funext y; rcases y with y | y | (_ | y) <;> first | rfl | (show Value.ref (gA adK (sFR μ x i f) y) = Value.ref (gA adK μ y); rw [sFR_A])
theorem jlv_sF (adK : Nat → Nat) (μ : jMem) (x : jId) (f : Nat → Int32) : jlv adK (sF μ x f) = jlv adK μ := by funext q; unfold jlv; rw [jcv_sF]
theorem jlv_sFL (adK : Nat → Nat) (μ : jMem) (x : jId) (f : Nat → Int64) : jlv adK (sFL μ x f) = jlv adK μ := by funext q; unfold jlv; rw [jcv_sFL]
theorem jlv_sFR (adK : Nat → Nat) (μ : jMem) (x : jId) (i : Nat) (f : Option Nat) : jlv adK (sFR μ x i f) = jlv adK μ := by funext q; unfold jlv; rw [jcv_sFR]
theorem jce_obj {adK : Nat → Nat} {cid : Nat → ClassId} {μ : jMem} {x : jId} {a : Nat} (h : gT μ x = a + 1) (ha : a < 12) : jce adK cid μ x = .inr (a, jfs a (gI μ x) (fun j => (gR μ x j).map (gA adK μ))) := by
  unfold jce jcell; rw [h, if_pos (by omega)]; rfl
theorem jce_int {adK : Nat → Nat} {cid : Nat → ClassId} {μ : jMem} {x : jId} {t : Nat} (h : gT μ x = t) (h1 : 20 ≤ t) (h2 : t < 23) : jce adK cid μ x = .inl (cid (t - 20), gN μ x, .inl (gI μ x)) := by
  unfold jce jcell; rw [h, if_neg (by omega), if_pos h2]
theorem jce_long {adK : Nat → Nat} {cid : Nat → ClassId} {μ : jMem} {x : jId} (h : gT μ x = 23) : jce adK cid μ x = .inl (cid 3, gN μ x, .inr (.inl (gL μ x))) := by
  unfold jce jcell; rw [h]; rfl
theorem jce_ref {adK : Nat → Nat} {cid : Nat → ClassId} {μ : jMem} {x : jId} {t : Nat} (h : gT μ x = t) (h1 : 23 < t) : jce adK cid μ x = .inl (cid (t - 20), gN μ x, .inr (.inr (.inr (.inr (fun j => (gR μ x j).map (gA adK μ)))))) := by
  unfold jce jcell; rw [h, if_neg (by omega), if_neg (by omega), if_neg (by omega)]
/-- what the tables say of a class -/
def jcf (a : Nat) (q : vw_C) (ty0 : Nat → FieldType) : Prop := jcl[a]? = some q ∧ q.2.2 = jN a ∧ (∀ w ∈ u_ws q.1 q.2.1 q.2.2, w ∈ lw_tbl) ∧ (∀ k, k < q.2.2 → parseFieldDescriptor (q.2.1 k).2.2.1 = some (ty0 k)) ∧ (∀ a, a < q.2.2 → ∀ b, b < q.2.2 → a ≠ b → (q.2.1 a).2.1 ≠ (q.2.1 b).2.1) ∧
  (∀ k, k < q.2.2 → (jk a k = 0 → ty0 k = .int ∧ (q.2.1 k).2.2.2 = false) ∧ (jk a k = 2 → ty0 k = .boolean ∧ (q.2.1 k).2.2.2 = false) ∧ (jk a k = 1 → refKind (ty0 k) = true ∧ (q.2.1 k).2.2.2 = true) ∧ jk a k ≤ 2 ∧ (q.2.1 k).1 = q.1) ∧ q.1 = jcn a
def jisY (w : Cond) : Bool := match w with
  | .lays _ _ _ _ => true
  | .laysFinal _ _ _ _ => true
  | _ => false
def jlt : List Cond := tables_1.filter jisY
theorem jlt_in {w : Cond} (h : w ∈ jlt) : w ∈ lw_tbl := List.mem_append_right _ (List.mem_filter.mp h).1
theorem jlt_ok {C : String} {T : u_T} {N : Nat} (h : (u_ws C T N).all (fun w => decide (w ∈ jlt)) = true) : ∀ w ∈ u_ws C T N, w ∈ lw_tbl := fun w hw => jlt_in (of_decide_eq_true (List.all_eq_true.mp h w hw))
theorem jclf (a : Nat) (ha : a < 12) : ∃ (q : vw_C) (ty0 : Nat → FieldType), jcf a q ty0 := by
  match a, ha with
  | 0, _ => exact ⟨(RX0, TX0, 11), tyX0, rfl, rfl, jlt_ok (by decide +kernel), tyX0_ok, nmX0, by decide +kernel, rfl⟩
  | 1, _ => exact ⟨(RX1, TX1, 5), tyX1, rfl, rfl, jlt_ok (by decide +kernel), tyX1_ok, nmX1, by decide +kernel, rfl⟩
  | 2, _ => exact ⟨(RX2, TX2, 10), tyX2, rfl, rfl, jlt_ok (by decide +kernel), tyX2_ok, nmX2, by decide +kernel, rfl⟩
  | 3, _ => exact ⟨(RX3, TX3, 3), tyX3, rfl, rfl, jlt_ok (by decide +kernel), tyX3_ok, nmX3, by decide +kernel, rfl⟩
  | 4, _ => exact ⟨(RX4, TX4, 14), tyX4, rfl, rfl, jlt_ok (by decide +kernel), tyX4_ok, nmX4, by decide +kernel, rfl⟩
  | 5, _ => exact ⟨(RX5, TX5, 7), tyX5, rfl, rfl, jlt_ok (by decide +kernel), tyX5_ok, nmX5, by decide +kernel, rfl⟩
  | 6, _ => exact ⟨(RX6, TX6, 3), tyX6, rfl, rfl, jlt_ok (by decide +kernel), tyX6_ok, nmX6, by decide +kernel, rfl⟩
  | 7, _ => exact ⟨(RX7, TX7, 11), tyX7, rfl, rfl, jlt_ok (by decide +kernel), tyX7_ok, nmX7, by decide +kernel, rfl⟩
  | 8, _ => exact ⟨(RX8, TX8, 1), tyX8, rfl, rfl, jlt_ok (by decide +kernel), tyX8_ok, nmX8, by decide +kernel, rfl⟩
  | 9, _ => exact ⟨(RX9, TX9, 7), tyX9, rfl, rfl, jlt_ok (by decide +kernel), tyX9_ok, nmX9, by decide +kernel, rfl⟩
  | 10, _ => exact ⟨(RX10, TX10, 11), tyX10, rfl, rfl, jlt_ok (by decide +kernel), tyX10_ok, nmX10, by decide +kernel, rfl⟩
  | 11, _ => exact ⟨(RX11, TX11, 57), tyX11, rfl, rfl, jlt_ok (by decide +kernel), tyX11_ok, nmX11, by decide +kernel, rfl⟩
  | n + 12, h => omega
theorem jgt_mem {w : Cond} (h : w ∈ lw_tbl) (hg : goodWord w = true) : w ∈ jgt := List.mem_filter.mpr ⟨h, hg⟩
theorem jw_mem {M : jM} {w : Cond} (h : w ∈ lw_tbl) (hg : goodWord w = true) : w ∈ jwords M := List.mem_cons_of_mem _ (jgt_mem h hg)
theorem jlays_good {C : String} {T : u_T} {N : Nat} {w : Cond} (h : w ∈ u_ws C T N) : goodWord w = true := by
  unfold u_ws at h
  obtain ⟨k, -, rfl⟩ := List.mem_map.mp h
  unfold u_lay
  by_cases q : (T k).2.2.2 = true
  · rw [if_pos q]; rfl
  · rw [if_neg q]; rfl
section HEAP
variable {M : jM} {d mc ms kc ks pc : Nat} {L : List (Nat × jV)} {st : List jV} {μ : jMem} {Q : Option jV → jMem → Prop}
/-- what a field's link gives -/
theorem jlink {a b idx z : Nat} {q : vw_C} {args : Array Value} {s : State} {adK adV : Nat → Nat} {base : Nat} (hl : (M.1, idx, a, b, z) ∈ jfl) (hq : jcl[a]? = some q) (hts : ∀ w ∈ jwords M, w.before args s = true) (hO : jOut adK adV base s s.heap) :
    (z = 0 → (Cond.fieldLink (jcn M.1) idx (q.2.1 b).1 (q.2.1 b).2.1 (q.2.1 b).2.2.1).before args s = true) ∧ (z ≠ 0 → (Cond.fieldLinkNest (jcn M.1) idx (q.2.1 b).1 (q.2.1 b).2.1 (q.2.1 b).2.2.1 "MusicChairs").before args s = true) := by
  have hN := hO.2.2.1 _ hl
  have hm := jfl_in _ hl
  unfold jfc at hN hm
  simp only [hq] at hN hm
  refine ⟨fun h => ?_, fun h => ?_⟩
  · rw [if_pos h] at hm
    exact hts _ (jw_mem hm rfl)
  · rw [if_neg h] at hN
    exact va_Nw.use rfl hN
theorem go_getf {idx a b z : Nat} {x : jId} {y : jV} (hd : decode M.2.2.1 pc = .ok (.getfield idx, 3)) (hl0 : (M.1, idx, a, b, z) ∈ jfl) (hc0 : M.2.1.cls = jcn M.1) (ha : a < 12) (hb0 : b < jN a) (hT : gT μ x = a + 1)
    (hy : (jk a b ≠ 1 ∧ y = .inl (gI μ x b)) ∨ (jk a b = 1 ∧ y = .inr (.inr (gR μ x b)))) (k : Go M d mc ms kc ks (pc + 3) L (y :: st) μ Q) : Go M d mc ms kc ks pc L (.inr (.inr (some x)) :: st) μ Q := by
  intro p l e s m args below meth c H locs cells slots ls D cid adK adV base hC hW hS hl h1 h2
  obtain ⟨q, ty0, hq, hn, hw, hty, hnm, hk, hcn⟩ := jclf a ha
  obtain ⟨hx, hb, hml, hr, hts, hown, hlocks, hmn, hbs, hK, hO⟩ := id hC
  rw [hc0] at hown
  obtain ⟨i, -, hi⟩ := jws_at (adK := adK) (cid := cid) hW.2.2 (x := x) (by omega)
  rw [jce_obj hT ha] at hi
  have hin : ∀ w ∈ u_ws q.1 q.2.1 q.2.2, w ∈ jwords M := fun w h => jw_mem (hw w h) (jlays_good h)
  have hv : (jfs a (gI μ x) (fun j => (gR μ x j).map (gA adK μ)))[b]? = some (jcv adK μ y) := by
    rw [jfs_get hb0]
    rcases hy with ⟨h, rfl⟩ | ⟨h, rfl⟩
    · rw [if_neg h]; rfl
    · rw [if_pos h]; cases gR μ x b <;> rfl
  have kk := k p l e s m args below meth c H locs cells slots ls D cid adK adV base hC hW hS hl h1 h2
  have hlk := jlink (q := q) hl0 hq hts hO
  by_cases hz : z = 0
  · exact va_get (C := q.1) (T := q.2.1) (N := q.2.2) hx hb hts hin hown hK hW.1 i hi hq b (by rw [hn]; exact hb0) (hlk.1 hz) (fun _ h9 => h9) hv hd kk
  · exact va_getN (C := q.1) (T := q.2.1) (N := q.2.2) hx hb hts hin hown hK hW.1 i hi hq b (by rw [hn]; exact hb0) (hlk.2 hz) (fun _ h9 => h9) hv hd kk
theorem jce_sF {adK : Nat → Nat} {cid : Nat → ClassId} {μ : jMem} {x : jId} {f : Nat → Int32} (hT : gT μ x ≠ 0) : ∀ y, y ≠ x → jce adK cid (sF μ x f) y = jce adK cid μ y := by
  intro y hy
  unfold jce
  rw [sF_T, sF_N, sF_L, sF_R, sF_A, (sF_I μ x f hT).2 y hy]
theorem jce_sFL {adK : Nat → Nat} {cid : Nat → ClassId} {μ : jMem} {x : jId} {f : Nat → Int64} (hT : gT μ x ≠ 0) : ∀ y, y ≠ x → jce adK cid (sFL μ x f) y = jce adK cid μ y := by
  intro y hy
  unfold jce
  rw [sFL_T, sFL_N, sFL_I, sFL_R, sFL_A, (sFL_L μ x f hT).2 y hy]
theorem jce_sFR {adK : Nat → Nat} {cid : Nat → ClassId} {μ : jMem} {x : jId} {i : Nat} {r : Option jId} {b : Option Nat} (hT : gT μ x ≠ 0) (hr : jside x r b) : ∀ y, y ≠ x → jce adK cid (sFR μ x i b) y = jce adK cid μ y := by
  intro y hy
  unfold jce
  rw [sFR_T, sFR_N, sFR_I, sFR_L, sFR_A, (sFR_R μ x i r b hT hr).2 y hy]
theorem go_putf {idx a b z : Nat} {x : jId} {y : Int32} (hd : decode M.2.2.1 pc = .ok (.putfield idx, 3)) (hl0 : (M.1, idx, a, b, z) ∈ jfl) (hc0 : M.2.1.cls = jcn M.1) (ha : a < 12) (hb0 : b < jN a) (hT : gT μ x = a + 1)
    (hy : jk a b = 0 ∨ (jk a b = 2 ∧ (y = 0 ∨ y = 1))) (k : Go M d mc ms kc ks (pc + 3) L st (sF μ x (upd (gI μ x) b y)) Q) : Go M d mc ms kc ks pc L (.inl y :: .inr (.inr (some x)) :: st) μ Q := by
  intro p l e s m args below meth c H locs cells slots ls D cid adK adV base hC hW hS hl h1 h2
  obtain ⟨q, ty0, hq, hn, hw, hty, hnm, hk, hcn⟩ := jclf a ha
  obtain ⟨hx, hb, hml, hr, hts, hown, hlocks, hmn, hbs, hK, hO⟩ := id hC
  rw [hc0] at hown
  have hT0 : gT μ x ≠ 0 := by omega
  obtain ⟨i, hi0, hi⟩ := jws_at (adK := adK) (cid := cid) hW.2.2 (x := x) hT0
  have hi2 := hi
  rw [jce_obj hT ha] at hi2
  have hin : ∀ w ∈ u_ws q.1 q.2.1 q.2.2, w ∈ jwords M := fun w h => jw_mem (hw w h) (jlays_good h)
  have hbq : b < q.2.2 := by rw [hn]; exact hb0
  have hk1 : jk a b ≠ 1 := by omega
  have hkb := hk b hbq
  have hfin : (q.2.1 b).2.2.2 = false := by
    rcases hy with h | h
    · exact (hkb.1 h).2
    · exact (hkb.2.1 h.1).2
  have hnar : narrow (ty0 b) (.int y) = .int y ∧ fits (ty0 b) (.int y) = true := by
    rcases hy with h | ⟨h, h3⟩
    · rw [(hkb.1 h).1]; exact ⟨rfl, rfl⟩
    · rw [(hkb.2.1 h).1]
      rcases h3 with rfl | rfl <;> exact ⟨rfl, rfl⟩
  have hset : (jws adK cid μ).set i (gA adK μ x, .inr (a, (jfs a (gI μ x) (fun j => (gR μ x j).map (gA adK μ))).set b (.int y))) = jws adK cid (sF μ x (upd (gI μ x) b y)) := by
    rw [jfs_setI hb0 hk1]
    have e : jce adK cid (sF μ x (upd (gI μ x) b y)) x = .inr (a, jfs a (upd (gI μ x) b y) (fun j => (gR μ x j).map (gA adK μ))) := by
      rw [jce_obj (by rw [sF_T]; exact hT) ha, (sF_I μ x _ hT0).1, sF_R, sF_A]
    rw [← e]
    exact jws_set hW.2.2 hi0 (sF_all _ _ _) (sF_A _ _ _ _) (jce_sF hT0)
  have kk : ∀ (H1 : Heap) (locs1 : List Loc), va_P D jcl ((jws adK cid μ).set i (gA adK μ x, .inr (a, (jfs a (gI μ x) (fun j => (gR μ x j).map (gA adK μ))).set b (.int y)))) H1 → va_D (fun q => base ≤ q) ((jws adK cid μ).set i (gA adK μ x, .inr (a, (jfs a (gI μ x) (fun j => (gR μ x j).map (gA adK μ))).set b (.int y)))) → va_S (fun q => base ≤ q) s.heap H1 locs1 → W p l e (jRm d mc ms) s m args below meth c H1 locs1 cells slots (MQ below (jQ D cid adK adV base Q) args s mc ms (fun q => base ≤ q)) (F0 m (pc + 3) ls (st.map (jcv adK μ))) := by
    intro H1 locs1 hP1 hD1 hS1
    rw [hset] at hP1 hD1
    have := k p l e s m args below meth c H1 locs1 cells slots ls D cid adK adV base hC ⟨hP1, hD1, jWF_sF hW.2.2⟩ hS1 (by rw [jlv_sF]; exact hl) h1 h2
    rw [jcv_sF] at this
    exact this
  have hlk := jlink (q := q) hl0 hq hts hO
  by_cases hz : z = 0
  · exact va_put (C := q.1) (T := q.2.1) (N := q.2.2) hx hb hts hin ty0 hty hnm hown hK hW.1 hW.2.1 hS i hi2 hq b hbq (hlk.1 hz) (fun _ h9 => h9) hfin (hty b hbq) hnar.1 hnar.2 (by rw [jfs_len]; exact hb0) hd kk
  · exact va_putN (C := q.1) (T := q.2.1) (N := q.2.2) hx hb hts hin ty0 hty hnm hown hK hW.1 hW.2.1 hS i hi2 hq b hbq (hlk.2 hz) (fun _ h9 => h9) hfin (hty b hbq) hnar.1 hnar.2 (by rw [jfs_len]; exact hb0) hd kk
end HEAP
