/-! THE LAW FROM ITS ENTRY -/
def lw_emp : jP := ((fun _ _ => 0, fun _ _ => 0), (fun _ _ => none, fun _ => 0, fun _ => 0, fun _ => 0, []))
theorem lw_wd0 (D : va_G) (cid : Nat → ClassId) (adK : Nat → Nat) (base : Nat) (H : Heap) : jWd D cid adK base (lw_emp, lw_emp) H := by
  refine ⟨fun k q h => ?_, ⟨fun i j p q h => ?_, fun k q h => ?_⟩, ?_, ?_, ?_⟩
  · exact absurd h (by show ¬ ([] : va_W)[k]? = some q; simp)
  · exact absurd h (by show ¬ ([] : va_W)[i]? = some p; simp)
  · exact absurd h (by show ¬ ([] : va_W)[k]? = some q; simp)
  · intro x
    constructor
    · intro h; exact absurd h (by show ¬ x ∈ ([] : List jId); simp)
    · intro h; exact absurd (by rcases x with a | a | a <;> rfl) h
  · exact List.nodup_nil
  · intro x i r h; exact absurd (by rcases x with a | a | a <;> rfl) h
section ENTRY
variable {p : Program} {l : Launch} {e : Env} {s : State} {m : MethodId} {below : List Frame} {meth : Method} {c : Code} {b L : Nat} {xs : Nat → Int32} {D : va_G} {cid : Nat → ClassId} {adK adV : Nat → Nat}
variable {H : Heap} {locs : List Loc} {cells slots : Nat} {ls : Array Slot} {rest : List Value} {μ : jMem} {pc : Nat} {Qs : State → Prop}
theorem lw_new (hX : lwX p s m meth c b L xs D cid adK adV) {idx ci : Nat} {x : jId} (hd : decode code pc = .ok (.new idx, 3)) (hcl : Cond.classLink R_law idx (jcn ci) ∈ lw_tbl) (hci : ci < 12) (hini : Cond.initialized (jcn ci) ∈ lw_tbl) (hx : jin2 x) (h0 : gT μ x = 0) (hW : jWd D cid adK s.heap.size μ H) (hS : va_S (fun q => s.heap.size ≤ q) s.heap H locs) (hcc : cells + 1 ≤ 600000) (hss : slots + jN ci ≤ 7302250)
    (k : ∀ (a : Nat) (H1 : Heap), jWd D cid adK s.heap.size (jmk μ x (ci + 1) 0 a) H1 → va_S (fun q => s.heap.size ≤ q) s.heap H1 locs → W p l e room_1 s m #[Value.ref b] below meth c H1 locs (cells + 1) (slots + jN ci) Qs (F0 m (pc + 3) ls (.ref (gA adK (jmk μ x (ci + 1) 0 a) x) :: rest))) :
    W p l e room_1 s m #[Value.ref b] below meth c H locs cells slots Qs (F0 m pc ls rest) := by
  obtain ⟨⟨hx0, hb, hr, hml, hown, hts, hXX, hbl, hlocks, hgv⟩, hK, hO⟩ := id hX
  obtain ⟨q, ty0, hq, hn, hw, hty, hnm, hk, hcn⟩ := jclf ci hci
  have hinst := lw_inst ci hci
  rw [← hcn] at hcl hinst hini
  rw [← hn] at hinst
  refine va_new (ci := ci) (C := q.1) (T := q.2.1) (N := q.2.2) (fs := jfs ci (fun _ => 0) (fun _ => none)) hx0 hb hts hw ty0 hty hown (hts _ hcl) (hts _ hinst) (hts _ hini) hK hW.1 hW.2.1 hS (fun z hz => hz) hq (fun j hj => ?_) hcc (by rw [hn]; exact hss) hd (fun a H1 hP1 hD1 hS1 => ?_)
  · have hv := jfs_get (c := ci) (k := j) (by rw [← hn]; exact hj) (fun _ => 0) (fun _ => none)
    unfold vp_V
    rw [List.getD_eq_getElem?_getD, hv]
    have hkj := hk j hj
    by_cases h1 : jk ci j = 1
    · rw [if_pos h1]
      have := (hkj.2.2.1 h1).1
      cases hty0 : ty0 j <;> rw [hty0] at this <;> first | rfl | cases this
    · rw [if_neg h1]
      have h3 : jk ci j = 0 ∨ jk ci j = 2 := by have := hkj.2.2.2.1; omega
      rcases h3 with h3 | h3
      · rw [(hkj.1 h3).1]; rfl
      · rw [(hkj.2.1 h3).1]; rfl
  · rw [← jcell_new cid ci hci] at hP1 hD1
    obtain ⟨hP2, hD2⟩ := mk_ws hx hW.2.2 h0 hP1 hD1
    have := k a H1 ⟨hP2, hD2, mk_WF hx hW.2.2 h0 (by omega)⟩ hS1
    rw [(mk_x adK hx).2.2.1, ← hn] at this
    exact this
end ENTRY
set_option maxHeartbeats 4000000 in
/-- THE LAW, from its entry -/
theorem whole_start {p : Program} {e : Env} {s : State} {m : MethodId} {below : List Frame} {meth : Method} {c : Code} (l : Launch) {b L : Nat} {xs : Nat → Int32} (hL : L ≤ 3072) (C0 : lw_At p s m meth c b L xs) : W p l e room_1 s m #[Value.ref b] below meth c s.heap [] 0 0 (lw_Z below #[Value.ref b] s) (entryFrame m ([Value.ref b] : List Value).toArray 4) := by
  obtain ⟨hx, hb, hr, hml, hown, hts, hXX, hbl, hlocks, hgv⟩ := id C0
  obtain ⟨D, hD⟩ := lw_D hts
  obtain ⟨cid, hcid⟩ := lw_cid hts
  obtain ⟨adK, adV, hO⟩ := lw_out hts hgv
  have hX : lwX p s m meth c b L xs D cid adK adV := ⟨C0, ⟨hD, hcid⟩, hO⟩
  have hl := lv_entry ([.ref b]) (n := 4) (Nat.le_of_ble_eq_true rfl)
  rw [lg_entry_eq]
  generalize (lg_sl ([.ref b]) ++ List.replicate (4 - (lg_sl ([.ref b])).length) Slot.unset).toArray = ls at hl ⊢
  have hl : lv_has ls 4 [(0, .ref b)] := hl
  refine lw_new (x := .inl 0) (ci := 10) (idx := 7) (μ := (lw_emp, lw_emp)) hX (by decide +kernel) (jin_1 (List.mem_of_getElem? (i := 21) rfl)) (by decide) (jin_1 (List.mem_of_getElem? (i := 1) rfl)) trivial rfl (lw_wd0 D cid adK s.heap.size s.heap) va_S.rf (by decide) (by decide) (fun a H hW hS => ?_)
  refine lv_dup hx hb (by decide +kernel) rfl ?_
  have eP : jmk (lw_emp, lw_emp) (.inl 0) (10 + 1) 0 a = (pN lw_emp 0 11 0 a, lw_emp) := rfl
  rw [eP] at hW ⊢
  generalize e1 : pN lw_emp 0 11 0 a = P at hW ⊢
  have c0 := cell_N e1
  have z0 : ∀ k, 1 ≤ k → cT P k = 0 := fun k hk => (sN e1 (by omega)).1
  refine lw_callI hX (idx := 9) (M' := M10_init) (x := .inl 0) (by decide +kernel) ml_12_9 wi10_init (ret10_init c0 (fun k h1 _ => z0 k h1)) (by decide) hW hS hl.1 (Nat.le_of_ble_eq_true rfl) (by decide) (by decide) (fun v μ1 H1 locs1 hq hW1 hS1 => ?_)
  obtain ⟨rfl, P1, rfl, hN, hfar, hA⟩ := hq
  have eA : gA adK (P, lw_emp) (.inl 0) = cA P1 0 := hA.symm
  rw [eA]
  refine lv_astore_n (k := 1) (lv' := [(1, .ref (cA P1 0)), (0, .ref b)]) hx hb (by decide +kernel) rfl hl (by decide) rfl (fun ls hl => ?_)
  refine lw_new (x := .inr (.inl 0)) (ci := 11) (idx := 10) (μ := (P1, lw_emp)) hX (by decide +kernel) (jin_5 (List.mem_of_getElem? (i := 203) rfl)) (by decide) (jin_1 (List.mem_of_getElem? (i := 11) rfl)) trivial rfl hW1 hS1 (by decide) (by decide) (fun a2 H2 hW2 hS2 => ?_)
  refine lv_dup hx hb (by decide +kernel) rfl ?_
  have eP2 : jmk (P1, lw_emp) (.inr (.inl 0)) (11 + 1) 0 a2 = (P1, pN lw_emp 0 12 0 a2) := rfl
  rw [eP2] at hW2 ⊢
  generalize e2 : pN lw_emp 0 12 0 a2 = PX at hW2 ⊢
  have c2 := cell_N e2
  have z2 : ∀ k, 1 ≤ k → cT PX k = 0 := fun k hk => (sN e2 (by omega)).1
  refine lw_callI hX (idx := 12) (M' := M11_init) (x := .inr (.inl 0)) (by decide +kernel) ml_12_12 wi11_init (ret11_init c2 (fun k h1 _ => z2 k h1)) (by decide) hW2 hS2 hl.1 (Nat.le_of_ble_eq_true rfl) (by decide) (by decide) (fun v μ3 H3 locs3 hq hW3 hS3 => ?_)
  obtain ⟨rfl, PX1, rfl, hMd, hA2⟩ := hq
  have eA2 : gA adK (P1, PX) (.inr (.inl 0)) = cA PX1 0 := hA2.symm
  rw [eA2]
  refine lv_astore_n (k := 2) (lv' := [(2, .ref (cA PX1 0)), (1, .ref (cA P1 0)), (0, .ref b)]) hx hb (by decide +kernel) rfl hl (by decide) rfl (fun ls hl => ?_)
  refine lv_iconst (n := 0) (v := 0) hx hb (by decide +kernel) rfl ?_
  refine lv_istore_n (k := 3) (lv' := [(3, .int (nI 0)), (2, .ref (cA PX1 0)), (1, .ref (cA P1 0)), (0, .ref b)]) hx hb (by decide +kernel) rfl hl (by decide) rfl (fun ls hl => ?_)
  refine lw_loop hX hL (q1 := cA P1 0) (q2 := cA PX1 0) 600 0 rfl H3 locs3 _ _ ls P1.1 P1.2 PX1.1 PX1.2 ⟨hW3, hS3, hl, GL.start hN (fun k hk => ?_), LayM.start hMd, INV.start hN hMd, rfl, rfl, ?_, ?_⟩
  · exact (hfar k hk).1.trans (z0 k (by omega))
  · decide
  · decide
