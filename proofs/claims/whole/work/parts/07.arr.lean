section ARR
variable {M : jM} {d mc ms kc ks pc : Nat} {L : List (Nat × jV)} {st : List jV} {μ : jMem} {Q : Option jV → jMem → Prop}
theorem jty_at (cid : Nat → ClassId) (t : Nat) (h1 : 20 ≤ t) (h2 : t < 28) : ∃ ty, (jtys cid)[t - 20]? = some (cid (t - 20), ty) := by
  match t, h1, h2 with
  | 20, _, _ => exact ⟨_, rfl⟩
  | 21, _, _ => exact ⟨_, rfl⟩
  | 22, _, _ => exact ⟨_, rfl⟩
  | 23, _, _ => exact ⟨_, rfl⟩
  | 24, _, _ => exact ⟨_, rfl⟩
  | 25, _, _ => exact ⟨_, rfl⟩
  | 26, _, _ => exact ⟨_, rfl⟩
  | 27, _, _ => exact ⟨_, rfl⟩
  | n + 28, _, h => omega
theorem go_iald {x : jId} {i : Int32} {n : Nat} (hd : decode M.2.2.1 pc = .ok (.iaload, 1)) (hT : gT μ x = 20) (hN : gN μ x = n) (hi : vp_in i n) (k : Go M d mc ms kc ks (pc + 1) L (.inl (gI μ x i.toNatClampNeg) :: st) μ Q) : Go M d mc ms kc ks pc L (.inl i :: .inr (.inr (some x)) :: st) μ Q := by
  intro p l e s m args below meth c H locs cells slots ls D cid adK adV base hC hW hS hl h1 h2
  obtain ⟨q, -, hq⟩ := jws_at (adK := adK) (cid := cid) hW.2.2 (x := x) (by omega)
  rw [jce_int (t := 20) hT (by omega) (by omega)] at hq
  exact va_iald hC.1 hC.2.1 hC.2.2.2.2.2.2.2.2.2.1 hW.1 q 0 hq rfl (by rw [hN]; exact hi) hd (k p l e s m args below meth c H locs cells slots ls D cid adK adV base hC hW hS hl h1 h2)
theorem go_bald {x : jId} {i : Int32} {n : Nat} (hd : decode M.2.2.1 pc = .ok (.baload, 1)) (hT : gT μ x = 21) (hN : gN μ x = n) (hi : vp_in i n) (k : Go M d mc ms kc ks (pc + 1) L (.inl (gI μ x i.toNatClampNeg) :: st) μ Q) : Go M d mc ms kc ks pc L (.inl i :: .inr (.inr (some x)) :: st) μ Q := by
  intro p l e s m args below meth c H locs cells slots ls D cid adK adV base hC hW hS hl h1 h2
  obtain ⟨q, -, hq⟩ := jws_at (adK := adK) (cid := cid) hW.2.2 (x := x) (by omega)
  rw [jce_int (t := 21) hT (by omega) (by omega)] at hq
  exact va_bald hC.1 hC.2.1 hC.2.2.2.2.2.2.2.2.2.1 hW.1 q 1 hq rfl (by rw [hN]; exact hi) hd (k p l e s m args below meth c H locs cells slots ls D cid adK adV base hC hW hS hl h1 h2)
theorem go_zald {x : jId} {i : Int32} {n : Nat} (hd : decode M.2.2.1 pc = .ok (.baload, 1)) (hT : gT μ x = 22) (hN : gN μ x = n) (hi : vp_in i n) (k : Go M d mc ms kc ks (pc + 1) L (.inl (gI μ x i.toNatClampNeg) :: st) μ Q) : Go M d mc ms kc ks pc L (.inl i :: .inr (.inr (some x)) :: st) μ Q := by
  intro p l e s m args below meth c H locs cells slots ls D cid adK adV base hC hW hS hl h1 h2
  obtain ⟨q, -, hq⟩ := jws_at (adK := adK) (cid := cid) hW.2.2 (x := x) (by omega)
  rw [jce_int (t := 22) hT (by omega) (by omega)] at hq
  exact va_zald hC.1 hC.2.1 hC.2.2.2.2.2.2.2.2.2.1 hW.1 q 2 hq rfl (by rw [hN]; exact hi) hd (k p l e s m args below meth c H locs cells slots ls D cid adK adV base hC hW hS hl h1 h2)
theorem go_lald {x : jId} {i : Int32} {n : Nat} (hd : decode M.2.2.1 pc = .ok (.laload, 1)) (hT : gT μ x = 23) (hN : gN μ x = n) (hi : vp_in i n) (k : Go M d mc ms kc ks (pc + 1) L (.inr (.inl (gL μ x i.toNatClampNeg)) :: st) μ Q) : Go M d mc ms kc ks pc L (.inl i :: .inr (.inr (some x)) :: st) μ Q := by
  intro p l e s m args below meth c H locs cells slots ls D cid adK adV base hC hW hS hl h1 h2
  obtain ⟨q, -, hq⟩ := jws_at (adK := adK) (cid := cid) hW.2.2 (x := x) (by omega)
  rw [jce_long hT] at hq
  exact va_lald hC.1 hC.2.1 hC.2.2.2.2.2.2.2.2.2.1 hW.1 q 3 hq rfl (by rw [hN]; exact hi) hd (k p l e s m args below meth c H locs cells slots ls D cid adK adV base hC hW hS hl h1 h2)
theorem go_aald24 {x : jId} {i : Int32} {n : Nat} {r : Option jId} (hd : decode M.2.2.1 pc = .ok (.aaload, 1)) (hT : gT μ x = 24) (hN : gN μ x = n) (hi : vp_in i n) (hr : gR μ x i.toNatClampNeg = r) (k : Go M d mc ms kc ks (pc + 1) L (.inr (.inr r) :: st) μ Q) : Go M d mc ms kc ks pc L (.inl i :: .inr (.inr (some x)) :: st) μ Q := by
  intro p l e s m args below meth c H locs cells slots ls D cid adK adV base hC hW hS hl h1 h2
  obtain ⟨q, -, hq⟩ := jws_at (adK := adK) (cid := cid) hW.2.2 (x := x) (by omega)
  rw [jce_ref (t := 24) hT (by omega)] at hq
  refine va_aldq hC.1 hC.2.1 hC.2.2.2.2.2.2.2.2.2.1 hW.1 q 4 hq rfl (by rw [hN]; exact hi) hd ?_
  have kk := k p l e s m args below meth c H locs cells slots ls D cid adK adV base hC hW hS hl h1 h2
  have e : va_rf ((gR μ x i.toNatClampNeg).map (gA adK μ)) = jcv adK μ (.inr (.inr r)) := by rw [hr]; cases r <;> rfl
  rw [e]
  exact kk
theorem go_aald25 {x : jId} {i : Int32} {n : Nat} {r : Option jId} (hd : decode M.2.2.1 pc = .ok (.aaload, 1)) (hT : gT μ x = 25) (hN : gN μ x = n) (hi : vp_in i n) (hr : gR μ x i.toNatClampNeg = r) (k : Go M d mc ms kc ks (pc + 1) L (.inr (.inr r) :: st) μ Q) : Go M d mc ms kc ks pc L (.inl i :: .inr (.inr (some x)) :: st) μ Q := by
  intro p l e s m args below meth c H locs cells slots ls D cid adK adV base hC hW hS hl h1 h2
  obtain ⟨q, -, hq⟩ := jws_at (adK := adK) (cid := cid) hW.2.2 (x := x) (by omega)
  rw [jce_ref (t := 25) hT (by omega)] at hq
  refine va_aldq hC.1 hC.2.1 hC.2.2.2.2.2.2.2.2.2.1 hW.1 q 5 hq rfl (by rw [hN]; exact hi) hd ?_
  have kk := k p l e s m args below meth c H locs cells slots ls D cid adK adV base hC hW hS hl h1 h2
  have e : va_rf ((gR μ x i.toNatClampNeg).map (gA adK μ)) = jcv adK μ (.inr (.inr r)) := by rw [hr]; cases r <;> rfl
  rw [e]
  exact kk
theorem go_aald26 {x : jId} {i : Int32} {n : Nat} {r : Option jId} (hd : decode M.2.2.1 pc = .ok (.aaload, 1)) (hT : gT μ x = 26) (hN : gN μ x = n) (hi : vp_in i n) (hr : gR μ x i.toNatClampNeg = r) (k : Go M d mc ms kc ks (pc + 1) L (.inr (.inr r) :: st) μ Q) : Go M d mc ms kc ks pc L (.inl i :: .inr (.inr (some x)) :: st) μ Q := by
  intro p l e s m args below meth c H locs cells slots ls D cid adK adV base hC hW hS hl h1 h2
  obtain ⟨q, -, hq⟩ := jws_at (adK := adK) (cid := cid) hW.2.2 (x := x) (by omega)
  rw [jce_ref (t := 26) hT (by omega)] at hq
  refine va_aldq hC.1 hC.2.1 hC.2.2.2.2.2.2.2.2.2.1 hW.1 q 6 hq rfl (by rw [hN]; exact hi) hd ?_
  have kk := k p l e s m args below meth c H locs cells slots ls D cid adK adV base hC hW hS hl h1 h2
  have e : va_rf ((gR μ x i.toNatClampNeg).map (gA adK μ)) = jcv adK μ (.inr (.inr r)) := by rw [hr]; cases r <;> rfl
  rw [e]
  exact kk
theorem go_aald27 {x : jId} {i : Int32} {n : Nat} {r : Option jId} (hd : decode M.2.2.1 pc = .ok (.aaload, 1)) (hT : gT μ x = 27) (hN : gN μ x = n) (hi : vp_in i n) (hr : gR μ x i.toNatClampNeg = r) (k : Go M d mc ms kc ks (pc + 1) L (.inr (.inr r) :: st) μ Q) : Go M d mc ms kc ks pc L (.inl i :: .inr (.inr (some x)) :: st) μ Q := by
  intro p l e s m args below meth c H locs cells slots ls D cid adK adV base hC hW hS hl h1 h2
  obtain ⟨q, -, hq⟩ := jws_at (adK := adK) (cid := cid) hW.2.2 (x := x) (by omega)
  rw [jce_ref (t := 27) hT (by omega)] at hq
  have kk := k p l e s m args below meth c H locs cells slots ls D cid adK adV base hC hW hS hl h1 h2
  have e9 : va_rf ((gR μ x i.toNatClampNeg).map (gA adK μ)) = jcv adK μ (.inr (.inr r)) := by rw [hr]; cases r <;> rfl
  have hlt : i.toNatClampNeg < gN μ x := Nat.not_le.mp fun q => hi (Or.inr (by rw [← hN]; exact q))
  exact W.aald (v := jcv adK μ (.inr (.inr r))) (ty := .array .int) hC.1 hC.2.1 (hW.1 q _ hq) ((hC.2.2.2.2.2.2.2.2.2.1.2 7 _ rfl).1 (gN μ x) (fun j => va_rf ((gR μ x j).map (gA adK μ)))) rfl (fun q => by cases q) (by show ¬ (i < 0 ∨ (arrV _ _ _).slots.size ≤ _); rw [arrV_size, hN]; exact hi) (by show (arrV _ _ _).slots[_]? = _; rw [arrV_read _ _ hlt, e9]) rfl rfl hd kk
theorem go_iast {x : jId} {i : Int32} {n : Nat} {y : Int32} (hd : decode M.2.2.1 pc = .ok (.iastore, 1)) (hT : gT μ x = 20) (hN : gN μ x = n) (hi : vp_in i n) (k : Go M d mc ms kc ks (pc + 1) L st (sF μ x (upd (gI μ x) i.toNatClampNeg (y))) Q) : Go M d mc ms kc ks pc L (.inl y :: .inl i :: .inr (.inr (some x)) :: st) μ Q := by
  intro p l e s m args below meth c H locs cells slots ls D cid adK adV base hC hW hS hl h1 h2
  have hT0 : gT μ x ≠ 0 := by omega
  obtain ⟨q, hq0, hq⟩ := jws_at (adK := adK) (cid := cid) hW.2.2 (x := x) hT0
  rw [jce_int (t := 20) hT (by omega) (by omega)] at hq
  refine va_iast hC.1 hC.2.1 hC.2.2.2.2.2.2.2.2.2.1 hW.1 hW.2.1 hS q 0 hq rfl (by rw [hN]; exact hi) hd (fun H1 locs1 hP1 hD1 hS1 => ?_)
  have e9 : jce adK cid (sF μ x (upd (gI μ x) i.toNatClampNeg (y))) x = .inl (cid 0, gN μ x, .inl (upd (gI μ x) i.toNatClampNeg (y))) := by
    rw [jce_int (t := 20) (by rw [sF_T]; exact hT) (by omega) (by omega), (sF_I μ x _ hT0).1, sF_N]
  have hset := jws_set hW.2.2 hq0 (sF_all μ x (upd (gI μ x) i.toNatClampNeg (y))) (sF_A adK _ _ _) (jce_sF (cid := cid) hT0)
  rw [e9] at hset
  rw [hset] at hP1 hD1
  have := k p l e s m args below meth c H1 locs1 cells slots ls D cid adK adV base hC ⟨hP1, hD1, jWF_sF hW.2.2⟩ hS1 (by rw [jlv_sF]; exact hl) h1 h2
  rw [jcv_sF] at this
  exact this
theorem go_bast {x : jId} {i : Int32} {n : Nat} {y : Int32} (hd : decode M.2.2.1 pc = .ok (.bastore, 1)) (hT : gT μ x = 21) (hN : gN μ x = n) (hi : vp_in i n) (k : Go M d mc ms kc ks (pc + 1) L st (sF μ x (upd (gI μ x) i.toNatClampNeg (vp_nar .byte y))) Q) : Go M d mc ms kc ks pc L (.inl y :: .inl i :: .inr (.inr (some x)) :: st) μ Q := by
  intro p l e s m args below meth c H locs cells slots ls D cid adK adV base hC hW hS hl h1 h2
  have hT0 : gT μ x ≠ 0 := by omega
  obtain ⟨q, hq0, hq⟩ := jws_at (adK := adK) (cid := cid) hW.2.2 (x := x) hT0
  rw [jce_int (t := 21) hT (by omega) (by omega)] at hq
  refine va_bast hC.1 hC.2.1 hC.2.2.2.2.2.2.2.2.2.1 hW.1 hW.2.1 hS q 1 hq rfl (by rw [hN]; exact hi) hd (fun H1 locs1 hP1 hD1 hS1 => ?_)
  have e9 : jce adK cid (sF μ x (upd (gI μ x) i.toNatClampNeg (vp_nar .byte y))) x = .inl (cid 1, gN μ x, .inl (upd (gI μ x) i.toNatClampNeg (vp_nar .byte y))) := by
    rw [jce_int (t := 21) (by rw [sF_T]; exact hT) (by omega) (by omega), (sF_I μ x _ hT0).1, sF_N]
  have hset := jws_set hW.2.2 hq0 (sF_all μ x (upd (gI μ x) i.toNatClampNeg (vp_nar .byte y))) (sF_A adK _ _ _) (jce_sF (cid := cid) hT0)
  rw [e9] at hset
  rw [hset] at hP1 hD1
  have := k p l e s m args below meth c H1 locs1 cells slots ls D cid adK adV base hC ⟨hP1, hD1, jWF_sF hW.2.2⟩ hS1 (by rw [jlv_sF]; exact hl) h1 h2
  rw [jcv_sF] at this
  exact this
theorem go_zast {x : jId} {i : Int32} {n : Nat} {y : Int32} (hd : decode M.2.2.1 pc = .ok (.bastore, 1)) (hT : gT μ x = 22) (hN : gN μ x = n) (hi : vp_in i n) (k : Go M d mc ms kc ks (pc + 1) L st (sF μ x (upd (gI μ x) i.toNatClampNeg (vp_nar .boolean y))) Q) : Go M d mc ms kc ks pc L (.inl y :: .inl i :: .inr (.inr (some x)) :: st) μ Q := by
  intro p l e s m args below meth c H locs cells slots ls D cid adK adV base hC hW hS hl h1 h2
  have hT0 : gT μ x ≠ 0 := by omega
  obtain ⟨q, hq0, hq⟩ := jws_at (adK := adK) (cid := cid) hW.2.2 (x := x) hT0
  rw [jce_int (t := 22) hT (by omega) (by omega)] at hq
  refine va_zast hC.1 hC.2.1 hC.2.2.2.2.2.2.2.2.2.1 hW.1 hW.2.1 hS q 2 hq rfl (by rw [hN]; exact hi) hd (fun H1 locs1 hP1 hD1 hS1 => ?_)
  have e9 : jce adK cid (sF μ x (upd (gI μ x) i.toNatClampNeg (vp_nar .boolean y))) x = .inl (cid 2, gN μ x, .inl (upd (gI μ x) i.toNatClampNeg (vp_nar .boolean y))) := by
    rw [jce_int (t := 22) (by rw [sF_T]; exact hT) (by omega) (by omega), (sF_I μ x _ hT0).1, sF_N]
  have hset := jws_set hW.2.2 hq0 (sF_all μ x (upd (gI μ x) i.toNatClampNeg (vp_nar .boolean y))) (sF_A adK _ _ _) (jce_sF (cid := cid) hT0)
  rw [e9] at hset
  rw [hset] at hP1 hD1
  have := k p l e s m args below meth c H1 locs1 cells slots ls D cid adK adV base hC ⟨hP1, hD1, jWF_sF hW.2.2⟩ hS1 (by rw [jlv_sF]; exact hl) h1 h2
  rw [jcv_sF] at this
  exact this
theorem go_last {x : jId} {i : Int32} {n : Nat} {y : Int64} (hd : decode M.2.2.1 pc = .ok (.lastore, 1)) (hT : gT μ x = 23) (hN : gN μ x = n) (hi : vp_in i n) (k : Go M d mc ms kc ks (pc + 1) L st (sFL μ x (vp_updL (gL μ x) i.toNatClampNeg (y))) Q) : Go M d mc ms kc ks pc L (.inr (.inl y) :: .inl i :: .inr (.inr (some x)) :: st) μ Q := by
  intro p l e s m args below meth c H locs cells slots ls D cid adK adV base hC hW hS hl h1 h2
  have hT0 : gT μ x ≠ 0 := by omega
  obtain ⟨q, hq0, hq⟩ := jws_at (adK := adK) (cid := cid) hW.2.2 (x := x) hT0
  rw [jce_long hT] at hq
  refine va_last hC.1 hC.2.1 hC.2.2.2.2.2.2.2.2.2.1 hW.1 hW.2.1 hS q 3 hq rfl (by rw [hN]; exact hi) hd (fun H1 locs1 hP1 hD1 hS1 => ?_)
  have e9 : jce adK cid (sFL μ x (vp_updL (gL μ x) i.toNatClampNeg (y))) x = .inl (cid 3, gN μ x, .inr (.inl (vp_updL (gL μ x) i.toNatClampNeg (y)))) := by
    rw [jce_long (by rw [sFL_T]; exact hT), (sFL_L μ x _ hT0).1, sFL_N]
  have hset := jws_set hW.2.2 hq0 (sFL_all μ x (vp_updL (gL μ x) i.toNatClampNeg (y))) (sFL_A adK _ _ _) (jce_sFL (cid := cid) hT0)
  rw [e9] at hset
  rw [hset] at hP1 hD1
  have := k p l e s m args below meth c H1 locs1 cells slots ls D cid adK adV base hC ⟨hP1, hD1, jWF_sFL hW.2.2⟩ hS1 (by rw [jlv_sFL]; exact hl) h1 h2
  rw [jcv_sFL] at this
  exact this
theorem go_alen {x : jId} {t n : Nat} (hd : decode M.2.2.1 pc = .ok (.arraylength, 1)) (hT : gT μ x = t) (h20 : 20 ≤ t) (h28 : t < 28) (hN : gN μ x = n) (k : Go M d mc ms kc ks (pc + 1) L (.inl (nI n) :: st) μ Q) : Go M d mc ms kc ks pc L (.inr (.inr (some x)) :: st) μ Q := by
  intro p l e s m args below meth c H locs cells slots ls D cid adK adV base hC hW hS hl h1 h2
  obtain ⟨q, -, hq⟩ := jws_at (adK := adK) (cid := cid) hW.2.2 (x := x) (by omega)
  obtain ⟨ty, hty⟩ := jty_at cid t h20 h28
  have kk := k p l e s m args below meth c H locs cells slots ls D cid adK adV base hC hW hS hl h1 h2
  by_cases h : t < 23
  · rw [jce_int hT h20 h] at hq
    exact va_alen hC.1 hC.2.1 hC.2.2.2.2.2.2.2.2.2.1 hW.1 q (t - 20) hq hty (by rw [hN]; rfl) hd kk
  · by_cases h3 : t = 23
    · subst h3
      rw [jce_long hT] at hq
      exact va_alen hC.1 hC.2.1 hC.2.2.2.2.2.2.2.2.2.1 hW.1 q 3 hq hty (by rw [hN]; rfl) hd kk
    · rw [jce_ref hT (by omega)] at hq
      exact va_alen hC.1 hC.2.1 hC.2.2.2.2.2.2.2.2.2.1 hW.1 q (t - 20) hq hty (by rw [hN]; rfl) hd kk
end ARR
section ENDS
variable {M : jM} {d mc ms kc ks pc : Nat} {L : List (Nat × jV)} {μ : jMem} {Q : Option jV → jMem → Prop}
theorem jQ_of {D : va_G} {cid : Nat → ClassId} {adK adV : Nat → Nat} {base : Nat} {v : Option jV} {H : Heap} {s t : State} {locs : List Loc} {args : Array Value} (hq : Q v μ) (hW : jWd D cid adK base μ H) (hS : va_S (fun q => base ≤ q) s.heap H locs) (ht : t.heap = H) : jQ D cid adK adV base Q args s (.returned (v.map (jcv adK μ))) t :=
  ⟨v, μ, hq, rfl, by rw [ht]; exact hW, hS.F ht⟩
theorem go_ireturn {x : Int32} {ty : FieldType} (hd : decode M.2.2.1 pc = .ok (.ireturn, 1)) (hr : M.2.2.2.2 = some ty) (hn : narrow ty (.int x) = .int x) (hq : Q (some (.inl x)) μ) : Go M d mc ms kc ks pc L [.inl x] μ Q := by
  intro p l e s m args below meth c H locs cells slots ls D cid adK adV base hC hW hS hl h1 h2
  refine W.widen (k := mc) (n := ms) (by omega) (by omega) ?_
  exact W.zret hC.1 hC.2.1 (hC.2.2.2.1.trans hr) hn (fun t ht _ => jQ_of (v := some (.inl x)) hq hW hS ht) hS.2.2 hd hC.2.2.2.2.2.2.1
theorem go_lreturn {x : Int64} (hd : decode M.2.2.1 pc = .ok (.lreturn, 1)) (hr : M.2.2.2.2 = some .long) (hq : Q (some (.inr (.inl x))) μ) : Go M d mc ms kc ks pc L [.inr (.inl x)] μ Q := by
  intro p l e s m args below meth c H locs cells slots ls D cid adK adV base hC hW hS hl h1 h2
  refine W.widen (k := mc) (n := ms) (by omega) (by omega) ?_
  exact W.lret hC.1 hC.2.1 (hC.2.2.2.1.trans hr) (fun t ht _ => jQ_of (v := some (.inr (.inl x))) hq hW hS ht) hS.2.2 hd hC.2.2.2.2.2.2.1
theorem go_return (hd : decode M.2.2.1 pc = .ok (.return_, 1)) (hr : M.2.2.2.2 = none) (hq : Q none μ) : Go M d mc ms kc ks pc L [] μ Q := by
  intro p l e s m args below meth c H locs cells slots ls D cid adK adV base hC hW hS hl h1 h2
  refine W.widen (k := mc) (n := ms) (by omega) (by omega) ?_
  exact W.vret hC.1 hC.2.1 (hC.2.2.2.1.trans hr) (fun t ht _ => jQ_of (v := none) hq hW hS ht) hS.2.2 hd hC.2.2.2.2.2.2.1
theorem go_areturn {x : Option jId} {ty : FieldType} (hd : decode M.2.2.1 pc = .ok (.areturn, 1)) (hr : M.2.2.2.2 = some ty) (hn : refKind ty = true) (hq : Q (some (.inr (.inr x))) μ) : Go M d mc ms kc ks pc L [.inr (.inr x)] μ Q := by
  intro p l e s m args below meth c H locs cells slots ls D cid adK adV base hC hW hS hl h1 h2
  refine W.widen (k := mc) (n := ms) (by omega) (by omega) ?_
  exact W.aret hC.1 hC.2.1 (hC.2.2.2.1.trans hr) (by cases ty <;> first | exact Or.inl ⟨_, rfl⟩ | exact Or.inr ⟨_, rfl⟩ | cases hn) (by cases x with | none => exact Or.inl rfl | some y => exact Or.inr ⟨_, rfl⟩) (fun t ht _ => jQ_of (v := some (.inr (.inr x))) hq hW hS ht) hS.2.2 hd hC.2.2.2.2.2.2.1
end ENDS
