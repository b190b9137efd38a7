/-! THE LAW'S ROWS -/
/-- what is known at the law's entry, with the names chosen there -/
def lwX (p : Program) (s : State) (m : MethodId) (meth : Method) (c : Code) (b L : Nat) (xs : Nat → Int32) (D : va_G) (cid : Nat → ClassId) (adK adV : Nat → Nat) : Prop :=
  lw_At p s m meth c b L xs ∧ va_K D jcl (jtys cid) s ∧ jOut adK adV s.heap.size s s.heap
theorem lw_goodIn {M' : jM} (h : jcode M' ∈ lw_tbl) : GoodIn lw_tbl (jwords M') := by
  intro w hw
  rcases List.mem_cons.mp hw with rfl | hw
  · exact ⟨h, Or.inl rfl⟩
  · exact ⟨(List.mem_filter.mp hw).1, good_of_word (List.mem_filter.mp hw).2⟩
section LAW
variable {p : Program} {l : Launch} {e : Env} {s : State} {m : MethodId} {below : List Frame} {meth : Method} {c : Code} {b L : Nat} {xs : Nat → Int32} {D : va_G} {cid : Nat → ClassId} {adK adV : Nat → Nat}
variable {H : Heap} {locs : List Loc} {cells slots : Nat} {ls : Array Slot} {rest : List Value} {μ : jMem} {pc : Nat} {Qs : State → Prop}
theorem lw_link (hX : lwX p s m meth c b L xs D cid adK adV) {idx : Nat} {M' : jM} (hl0 : (12, idx, M', 0) ∈ jml) : (Cond.methodLink R_law idx M'.2.1).before #[Value.ref b] s = true := by
  have hm := jml_in _ hl0
  unfold jmc at hm
  rw [if_pos rfl] at hm
  exact hX.1.2.2.2.2.2.1 _ hm
theorem lw_callV (hX : lwX p s m meth c b L xs D cid adK adV) {idx n ci d' mc' ms' : Nat} {M' : jM} {A : List jV} {x : jId} {Q' : Option jV → jMem → Prop} (hd : decode code pc = .ok (.invokevirtual idx, 3)) (hl0 : (12, idx, M', 0) ∈ jml) (hM : jwV M' n) (hn : A.length = n) (hci : ci < 12) (hcl : M'.2.1.cls = jcn ci) (hT : gT μ x = ci + 1)
    (hR : RetQ M' d' mc' ms' (.inr (.inr (some x)) :: A) μ Q') (hdd : d' ≤ 1200) (hW : jWd D cid adK s.heap.size μ H) (hS : va_S (fun q => s.heap.size ≤ q) s.heap H locs) (hsz : ls.size = 4) (hst : (rest.map fun v => v.category).sum ≤ 8) (hcc : cells + mc' ≤ 600000) (hss : slots + ms' ≤ 7302250)
    (k : ∀ (v' : Option jV) (μ' : jMem) (H1 : Heap) (locs1 : List Loc), Q' v' μ' → jWd D cid adK s.heap.size μ' H1 → va_S (fun q => s.heap.size ≤ q) s.heap H1 locs1 → W p l e room_1 s m #[Value.ref b] below meth c H1 locs1 (cells + mc') (slots + ms') Qs (F0 m (pc + 3) ls ((v'.map (jcv adK μ')).toList ++ rest))) :
    W p l e room_1 s m #[Value.ref b] below meth c H locs cells slots Qs (F0 m pc ls ((A.map (jcv adK μ)).reverse ++ .ref (gA adK μ x) :: rest)) := by
  obtain ⟨⟨hx, hb, hr, hml, hown, hts, hXX, hbl, hlocks, hgv⟩, hK, hO⟩ := id hX
  obtain ⟨w1, w2, w3, w4, w5, w6, w7, w8⟩ := hM
  obtain ⟨q, ty0, hq, hnq, -, -, -, -, hcn⟩ := jclf ci hci
  obtain ⟨i, -, hi⟩ := jws_at (adK := adK) (cid := cid) hW.2.2 (x := x) (by omega)
  rw [jce_obj hT hci] at hi
  have hrec := va_recv hK hW.1 hq hi
  rw [hcn, ← hcl] at hrec
  have hlk := lw_link hX hl0
  have hRm : (jRm d' mc' ms').frames + 1 ≤ room_1.frames ∧ 8 + (M'.2.2.2.1 + 11) + (jRm d' mc' ms').locals ≤ room_1.locals := ⟨by show d' + 1 ≤ 2048; omega, by show 8 + (M'.2.2.2.1 + 11) + 64 * d' ≤ 84000; omega⟩
  have hpre : PreV s H M'.2.1.cls (gA adK μ x) (va_Pc ((.inr (.inr (some x)) :: A : List jV).map (jcv adK μ)) (fun U => jWd D cid adK s.heap.size μ U.heap ∧ s.heap.size ≤ U.heap.size ∧ va_K D jcl (jtys cid) U ∧ jOut adK adV s.heap.size U U.heap)) (A.map (jcv adK μ)) :=
    ⟨jblind, hrec, fun U hU hWU => ⟨rfl, by rw [hU]; exact hW, by rw [hU]; exact hS.1, va_K.moved hWU.alike hK, hO.warm hWU hS hU⟩⟩
  have hrun : va_Run p l e room_1 s m #[Value.ref b] below meth c H locs cells slots mc' ms' (F0 m pc ls ((A.map (jcv adK μ)).reverse ++ .ref (gA adK μ x) :: rest)) rest (jQ D cid adK adV s.heap.size Q' (Value.ref (gA adK μ x) :: A.map (jcv adK μ)).toArray) (fun q => s.heap.size ≤ q) :=
    va_runV (nL := 4) (Ts := lw_tbl) ⟨hx, hb, hml, hown, hts⟩ (hR l D cid adK adV s.heap.size) ⟨callB_of n hts (lw_goodIn w4) rfl rfl rfl (hts _ w3) hlk ⟨w5, w6, w7⟩ hRm, hts _ w1, hts _ w2⟩ hpre rfl (by rw [List.length_map]; exact hn) hsz rfl (lv_room hst) hd ⟨hcc, hss⟩
  exact jcall hrun hS k
theorem lw_callI (hX : lwX p s m meth c b L xs D cid adK adV) {idx d' mc' ms' : Nat} {M' : jM} {x : jId} {Q' : Option jV → jMem → Prop} (hd : decode code pc = .ok (.invokespecial idx, 3)) (hl0 : (12, idx, M', 0) ∈ jml) (hM : jwI M' 0)
    (hR : RetQ M' d' mc' ms' [.inr (.inr (some x))] μ Q') (hdd : d' ≤ 1200) (hW : jWd D cid adK s.heap.size μ H) (hS : va_S (fun q => s.heap.size ≤ q) s.heap H locs) (hsz : ls.size = 4) (hst : (rest.map fun v => v.category).sum ≤ 8) (hcc : cells + mc' ≤ 600000) (hss : slots + ms' ≤ 7302250)
    (k : ∀ (v' : Option jV) (μ' : jMem) (H1 : Heap) (locs1 : List Loc), Q' v' μ' → jWd D cid adK s.heap.size μ' H1 → va_S (fun q => s.heap.size ≤ q) s.heap H1 locs1 → W p l e room_1 s m #[Value.ref b] below meth c H1 locs1 (cells + mc') (slots + ms') Qs (F0 m (pc + 3) ls ((v'.map (jcv adK μ')).toList ++ rest))) :
    W p l e room_1 s m #[Value.ref b] below meth c H locs cells slots Qs (F0 m pc ls (.ref (gA adK μ x) :: rest)) := by
  obtain ⟨⟨hx, hb, hr, hml, hown, hts, hXX, hbl, hlocks, hgv⟩, hK, hO⟩ := id hX
  obtain ⟨w1, w3, w4, w5, w6, w7, w8, w9, w10⟩ := hM
  have hlk := lw_link hX hl0
  have hRm : (jRm d' mc' ms').frames + 1 ≤ room_1.frames ∧ 8 + (M'.2.2.2.1 + 11) + (jRm d' mc' ms').locals ≤ room_1.locals := ⟨by show d' + 1 ≤ 2048; omega, by show 8 + (M'.2.2.2.1 + 11) + 64 * d' ≤ 84000; omega⟩
  have hpre : PreS s H (va_Pc (([.inr (.inr (some x))] : List jV).map (jcv adK μ)) (fun U => jWd D cid adK s.heap.size μ U.heap ∧ s.heap.size ≤ U.heap.size ∧ va_K D jcl (jtys cid) U ∧ jOut adK adV s.heap.size U U.heap)) [.ref (gA adK μ x)] :=
    ⟨jblind, fun U hU hWU => ⟨rfl, by rw [hU]; exact hW, by rw [hU]; exact hS.1, va_K.moved hWU.alike hK, hO.warm hWU hS hU⟩⟩
  have hws : jwords M' = Cond.code M'.2.1 M'.2.2.1 M'.2.2.2.1 none :: jgt := by unfold jwords jcode; rw [w10]
  have hrun : va_Run p l e room_1 s m #[Value.ref b] below meth c H locs cells slots mc' ms' (F0 m pc ls (.ref (gA adK μ x) :: rest)) rest (jQ D cid adK adV s.heap.size Q' (Value.ref (gA adK μ x) :: []).toArray) (fun q => s.heap.size ≤ q) :=
    va_runI (nL := 4) (Ts := lw_tbl) (As := []) ⟨hx, hb, hml, hown, hts⟩ (hR l D cid adK adV s.heap.size) ⟨callB_of 0 hts (lw_goodIn w4) hws rfl rfl (hts _ w3) hlk ⟨w5, w6, w7⟩ hRm, w9, hts _ w1⟩ hpre rfl rfl hsz rfl (lv_room hst) hd ⟨hcc, hss⟩
  exact jcall hrun hS k
end LAW
