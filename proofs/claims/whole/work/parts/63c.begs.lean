theorem r_begins {X : jS} {N M : mN} (hM : NOk M) (h : HIs (hV X.1) N) (hs : samT N M) (ht : tld M) (hto : RTo X.1 M) : ∃ X1, f11_begins X = some (X1, ()) ∧ HIs (hV X1.1) M ∧ (∀ a i, (a = 0 ∨ 7 ≤ a) ∨ (a = 1 ∧ 8 ≤ i) → X1.1 a i = X.1 a i) := by
  obtain ⟨s0, s1, s2, s3⟩ := hs
  obtain ⟨t1, t2, t3, t4, t5, t6⟩ := ht
  have hG := hM.2.2.1
  have hC := hM.2.1
  obtain ⟨A, B, C, D, a1, b1, c1, d1, base, dd⟩ := r_begins0 (X := X)
  have e2 : D.1 1 2 = nI (M 0 2) := by rw [base _ _ (by omega), HV2 h, s2]
  have e1 : D.1 1 1 = nI (M 0 1) := by rw [base _ _ (by omega), HV1 h, s1]
  have e0 : D.1 1 0 = nI (M 0 0) := by rw [base _ _ (by omega), HV0 h, s0]
  have q2 := shl_m2 e2 (by omega)
  have q1 := shl_m2 e1 (by omega)
  rw [← t2] at q2
  rw [← t1] at q1
  have hb := r_begins1 a1 b1 c1 d1 q2 q1
  generalize hZ : wI (wI (wI (wI (wI D 1 3 0) 1 4 0) 1 5 (-1)) 1 6 (nI (M 0 4))) 1 7 (nI (M 0 3)) = Z at hb
  have z7 : Z.1 1 7 = nI (M 0 3) := by rw [← hZ, wI_self]
  have z6 : Z.1 1 6 = nI (M 0 4) := by rw [← hZ, wI_nj (by omega), wI_self]
  have z5 : Z.1 1 5 = -1 := by rw [← hZ, wI_nj (by omega), wI_nj (by omega), wI_self]
  have z4 : Z.1 1 4 = 0 := by rw [← hZ, wI_nj (by omega), wI_nj (by omega), wI_nj (by omega), wI_self]
  have z3 : Z.1 1 3 = 0 := by rw [← hZ, wI_nj (by omega), wI_nj (by omega), wI_nj (by omega), wI_nj (by omega), wI_self]
  have zz : ∀ a i, ¬ (a = 1 ∧ 3 ≤ i ∧ i ≤ 7) → Z.1 a i = D.1 a i := by
    intro a i hn
    rw [← hZ, wI_g, wI_g, wI_g, wI_g, wI_g, if_neg (by omega), if_neg (by omega), if_neg (by omega), if_neg (by omega), if_neg (by omega)]
  refine ⟨Z, hb, HIs_V ?_ ?_ ?_ z7 z6 ?_ ?_ ?_ (fun c hc => ?_) (fun a g g1 g2 hg => ?_), fun a i hh => ?_⟩
  · rw [zz _ _ (by omega)]; exact e0
  · rw [zz _ _ (by omega)]; exact e1
  · rw [zz _ _ (by omega)]; exact e2
  · rw [z3, t3]; exact nI_0.symm
  · rw [z5, t4]; exact nI_0m.symm
  · rw [z4, t5]; exact nI_0.symm
  · rw [zz _ _ (by omega), base _ _ (by omega), HVc h (by omega), s3 c (by omega)]
  · rw [zz _ _ (by omega)]
    obtain ⟨o1, o2, o3⟩ := hto g hg
    obtain ⟨y1, y2⟩ := t6 g hg
    obtain ⟨w1, w2, w3, w4, w5⟩ := dd g (by omega)
    have hc : a = 2 ∨ a = 3 ∨ a = 4 ∨ a = 5 ∨ a = 6 := by omega
    rcases hc with rfl | rfl | rfl | rfl | rfl
    · rw [w1]; exact o1
    · rw [w2]; exact o2
    · rw [w3]; exact o3
    · rw [w4, y1]; exact nI_0.symm
    · rw [w5, y2]; exact nI_0.symm
  · rw [zz a i (by omega)]; exact base a i (by omega)
/-- bits of those of a row that fit -/
def btS (b : Nat → Bool) (f : Nat) : Nat → Int32
  | 0 => 0
  | k + 1 => if b k = true then btS b f k ||| ((1 : Int32) <<< (nI (k + f) &&& 31)) else btS b f k
theorem RTo.vc {X : jS} {N : mN} (h : RTo (VC X) N) : RTo X.1 N := fun g hg => h g hg
/-- a trial by the notes, from the told hall with one number changed, on both sides -/
def fitB (B : mB) (ru : Option mR) (M : mN) : Bool := ntF B (crs ru M) (bNn B)
theorem r_begsG {X X' : jS} {N0 N M : mN} {a g p : Nat} {ru : Option mR} (hM : NOk M) (h : RRun X X' N) (h40 : X'.1 0 40 = -1) (hq : ruR X ru) (hs : samT N M) (ht : tld M) (hto : RTo X.1 M) (ha : 2 ≤ a) (ha6 : a ≤ 6) (hok : NOk (setG M a g p)) : ∃ X1, f11_begins X' = some (X1, ()) ∧ RRn X (wI X1 a g (nI p)) (setG M a g p) ru := by
  have hto' : RTo X'.1 M := fun k hk => by
    rw [h.1 11 k (by omega) (by omega), h.1 12 k (by omega) (by omega), h.1 13 k (by omega) (by omega)]; exact hto k hk
  obtain ⟨X1, p1, p2, p3⟩ := r_begins hM h.2.2.1 hs ht hto'
  have q0 : rQ0 X X1 := h.1.tr (fun b i u1 u2 => p3 b i (by omega))
  have f10 : X1.1 1 10 = X.1 1 10 := (p3 1 10 (by omega)).trans h.2.2.2.2
  refine ⟨X1, p1, q0.tr (fun b i u1 u2 => wI_ne (by omega)), (h.2.1.fr (fun i => p3 _ _ (by omega))).fr (fun i => wI_ne (by omega)), HV_setG p2 ha ha6, hok, hq.q (q0.tr (fun b i u1 u2 => wI_ne (by omega))) (by rw [wI_ne (by omega)]; exact f10), by rw [wI_ne (by omega), p3 _ _ (by omega)]; exact h40⟩
theorem setS_ok {N : mN} {g p : Nat} (hN : NOk N) (hp : p ≤ 5) : NOk (setG N 3 g p) := setG_ok hN (by omega) (fun z => by omega) (fun _ => hp) (fun z => by omega) (fun z => by omega) (fun z => by omega)
theorem setQ_ok {N : mN} {g p : Nat} (hN : NOk N) (hp : 1 ≤ p) (hp9 : p ≤ 9) : NOk (setG N 4 g p) := setG_ok hN (by omega) (fun z => by omega) (fun z => by omega) (fun _ => ⟨hp, hp9⟩) (fun z => by omega) (fun z => by omega)
theorem or_0 (x : Int32) : x ||| 0 = x := by
  apply Int32.toBitVec_inj.1
  show x.toBitVec ||| 0#32 = x.toBitVec
  simp
theorem k_steps {S : jS} {T : jT} {X : jS} (h : INV S T X) (a0 : Int32) : ∃ S1 X1 v, f10_steps T S a0 = some (S1, v) ∧ f11_steps X a0 = some (X1, v) ∧ INV S1 T X1 := by
  obtain ⟨h40, q, ru, q1, q2, q3⟩ := h.rule
  obtain ⟨tn, tb, rc, R, B, Bi, im, ⟨ct, cr, cb, ci⟩, ⟨rt, rr, rb, ri, r40, r28⟩, ⟨ot, or, ob, oi⟩⟩ := id h
  obtain ⟨b1, b2, b3, b4, b5, b6, b7⟩ := id cb
  have hr := rb.h
  obtain ⟨c1, c2, c3, c4, c5, c6, c7⟩ := id rb
  obtain ⟨hN, k2, hM, hs, ht, k6, k7, k8, k9, k10, k11⟩ := id ob
  have hG := hM.2.2.1
  have hG2 : bTold B 0 2 = bNow B 0 2 := hs.2.2.1
  unfold f10_steps f11_steps
  rcases arg_cs a0 (G := bTold B 0 2) (by omega) with ⟨g, hg, rfl⟩ | hg
  · have n7 : g < 7 := by omega
    rw [(c_isG hM b2).1 g hg, (r_isG hN hr).1 g (by omega), q1]
    simp only [↓reduceIte, Option.bind_some, not_true_eq_false, not_false_eq_true, and_true, true_and, and_false, false_and, or_false, false_or, or_true, true_or, Bool.false_eq_true, reduceCtorEq, one_ne0]
    obtain ⟨⟨S1, v⟩, s1, s2, s3⟩ := lp_up (G := 6) (Post := fun r : jS × Int32 => r.2 = btS (fun k => fitB B ru (setG (bTold B) 3 g k)) 0 6 ∧ cQ S r.1) (fun m k (A : jS × Int32) => f1_fittingSteps_L1 T 100 q (nI g) m A.1 A.2 (nI k)) (fun k A => A.2 = btS (fun k => fitB B ru (setG (bTold B) 3 g k)) 0 k ∧ cQ S A.1) (by
      rintro m k ⟨S2, l4⟩ hk ⟨rfl, hI⟩
      left
      have hh : HIs (hC S2 (100 + 1)) (bTold B) := b2.mono (fun a i u1 u2 => hI a i (by omega) (by omega))
      have hcp := CRun.cp (o := 71) (a0 := 100 + 1) hI hM hh (by omega) (by omega) (by omega)
      have hct : CRun S (wI (cpF S2 71 (100 + 1)) (71 + 3) g (nI k)) 71 (setG (bTold B) 3 g k) := ⟨hcp.1.tr (fun a i u1 u2 => wI_ne (by omega)), HC_setG hcp.2.1 (by omega), setS_ok hM (by omega)⟩
      obtain ⟨S3, t1, t2, t3, t4⟩ := c_fits (T := T) ob b5 hct q2
      have n1 : ¬ 6 ≤ k := by omega
      refine ⟨(S3, btS (fun k => fitB B ru (setG (bTold B) 3 g k)) 0 (k + 1)), ?_, rfl, t2⟩
      show f1_fittingSteps_L1 T 100 q (nI g) (m + 1) S2 (btS (fun k => fitB B ru (setG (bTold B) 3 g k)) 0 k) (nI k) = f1_fittingSteps_L1 T 100 q (nI g) m S3 (btS (fun k => fitB B ru (setG (bTold B) 3 g k)) 0 (k + 1)) (nI (k + 1))
      rw [f1_fittingSteps_L1, btS]
      by_cases hf : fitB B ru (setG (bTold B) 3 g k) = true
      · have hf' : ntF B (crs ru (setG (bTold B) 3 g k)) (bNn B) = true := hf
        simp (disch := omega) only [cp_eq, t1, nI_ltI, nI_leI, nI_eq, nI_clamp, nI_1, nI_add, nI_mul, inb_n, irm_n, nI_div, nI_m6, nI_d6, irm_6, qlt_1, qle_1, qgt_1, qge_1, qeq_1, qlt_2, qle_2, qgt_2, qge_2, qeq_2, qlt_3, qle_3, qgt_3, qge_3, qeq_3, qlt_4, qle_4, qgt_4, qge_4, qeq_4, qlt_5, qle_5, qgt_5, qge_5, qeq_5, qlt_6, qle_6, qgt_6, qge_6, qeq_6, qlt_7, qle_7, qgt_7, qge_7, qeq_7, qlt_8, qle_8, qgt_8, qge_8, qeq_8, qlt_9, qle_9, qgt_9, qge_9, qeq_9, qlt_10, qle_10, qgt_10, qge_10, qeq_10, qlt_12, qle_12, qgt_12, qge_12, qeq_12, qlt_16, qle_16, qgt_16, qge_16, qeq_16, qlt_20, qle_20, qgt_20, qge_20, qeq_20, qlt_24, qle_24, qgt_24, qge_24, qeq_24, qlt_30, qle_30, qgt_30, qge_30, qeq_30, qlt_32, qle_32, qgt_32, qge_32, qeq_32, qlt_37, qle_37, qgt_37, qge_37, qeq_37, qlt_40, qle_40, qgt_40, qge_40, qeq_40, qlt_42, qle_42, qgt_42, qge_42, qeq_42, qlt_43, qle_43, qgt_43, qge_43, qeq_43, qlt_45, qle_45, qgt_45, qge_45, qeq_45, qlt_47, qle_47, qgt_47, qge_47, qeq_47, qlt_48, qle_48, qgt_48, qge_48, qeq_48, qlt_57, qle_57, qgt_57, qge_57, qeq_57, qlt_59, qle_59, qgt_59, qge_59, qeq_59, qlt_60, qle_60, qgt_60, qge_60, qeq_60, qlt_61, qle_61, qgt_61, qge_61, qeq_61, qlt_62, qle_62, qgt_62, qge_62, qeq_62, qlt_64, qle_64, qgt_64, qge_64, qeq_64, qlt_91, qle_91, qgt_91, qge_91, qeq_91, qlt_93, qle_93, qgt_93, qge_93, qeq_93, qlt_97, qle_97, qgt_97, qge_97, qeq_97, qlt_122, qle_122, qgt_122, qge_122, qeq_122, qlt_400, qle_400, qgt_400, qge_400, qeq_400, qlt_999, qle_999, qgt_999, qge_999, qeq_999, qlt_0, qle_0, qgt_0, qge_0, qeq_0, qltm, qeqm, ↓reduceIte, Option.bind_some, not_true_eq_false, not_false_eq_true, and_true, true_and, and_false, false_and, or_false, false_or, or_true, true_or, Bool.false_eq_true, reduceCtorEq, n1, n7, hf, hf', one_ne0, Nat.add_zero]
      · have hf' : ¬ ntF B (crs ru (setG (bTold B) 3 g k)) (bNn B) = true := hf
        simp (disch := omega) only [cp_eq, t1, nI_ltI, nI_leI, nI_eq, nI_clamp, nI_1, nI_add, nI_mul, inb_n, irm_n, nI_div, nI_m6, nI_d6, irm_6, qlt_1, qle_1, qgt_1, qge_1, qeq_1, qlt_2, qle_2, qgt_2, qge_2, qeq_2, qlt_3, qle_3, qgt_3, qge_3, qeq_3, qlt_4, qle_4, qgt_4, qge_4, qeq_4, qlt_5, qle_5, qgt_5, qge_5, qeq_5, qlt_6, qle_6, qgt_6, qge_6, qeq_6, qlt_7, qle_7, qgt_7, qge_7, qeq_7, qlt_8, qle_8, qgt_8, qge_8, qeq_8, qlt_9, qle_9, qgt_9, qge_9, qeq_9, qlt_10, qle_10, qgt_10, qge_10, qeq_10, qlt_12, qle_12, qgt_12, qge_12, qeq_12, qlt_16, qle_16, qgt_16, qge_16, qeq_16, qlt_20, qle_20, qgt_20, qge_20, qeq_20, qlt_24, qle_24, qgt_24, qge_24, qeq_24, qlt_30, qle_30, qgt_30, qge_30, qeq_30, qlt_32, qle_32, qgt_32, qge_32, qeq_32, qlt_37, qle_37, qgt_37, qge_37, qeq_37, qlt_40, qle_40, qgt_40, qge_40, qeq_40, qlt_42, qle_42, qgt_42, qge_42, qeq_42, qlt_43, qle_43, qgt_43, qge_43, qeq_43, qlt_45, qle_45, qgt_45, qge_45, qeq_45, qlt_47, qle_47, qgt_47, qge_47, qeq_47, qlt_48, qle_48, qgt_48, qge_48, qeq_48, qlt_57, qle_57, qgt_57, qge_57, qeq_57, qlt_59, qle_59, qgt_59, qge_59, qeq_59, qlt_60, qle_60, qgt_60, qge_60, qeq_60, qlt_61, qle_61, qgt_61, qge_61, qeq_61, qlt_62, qle_62, qgt_62, qge_62, qeq_62, qlt_64, qle_64, qgt_64, qge_64, qeq_64, qlt_91, qle_91, qgt_91, qge_91, qeq_91, qlt_93, qle_93, qgt_93, qge_93, qeq_93, qlt_97, qle_97, qgt_97, qge_97, qeq_97, qlt_122, qle_122, qgt_122, qge_122, qeq_122, qlt_400, qle_400, qgt_400, qge_400, qeq_400, qlt_999, qle_999, qgt_999, qge_999, qeq_999, qlt_0, qle_0, qgt_0, qge_0, qeq_0, qltm, qeqm, ↓reduceIte, Option.bind_some, not_true_eq_false, not_false_eq_true, and_true, true_and, and_false, false_and, or_false, false_or, or_true, true_or, Bool.false_eq_true, reduceCtorEq, n1, n7, hf, hf']) (by
      rintro m ⟨S2, l4⟩ ⟨h4, hI⟩
      refine ⟨(S2, l4), ?_, h4, hI⟩
      have n1 : 6 ≤ 6 := by omega
      show f1_fittingSteps_L1 T 100 q (nI g) (m + 1) S2 l4 (nI 6) = _
      rw [f1_fittingSteps_L1]
      simp (disch := omega) only [nI_ltI, nI_leI, nI_eq, nI_clamp, nI_1, nI_add, nI_mul, inb_n, irm_n, nI_div, nI_m6, nI_d6, irm_6, qlt_1, qle_1, qgt_1, qge_1, qeq_1, qlt_2, qle_2, qgt_2, qge_2, qeq_2, qlt_3, qle_3, qgt_3, qge_3, qeq_3, qlt_4, qle_4, qgt_4, qge_4, qeq_4, qlt_5, qle_5, qgt_5, qge_5, qeq_5, qlt_6, qle_6, qgt_6, qge_6, qeq_6, qlt_7, qle_7, qgt_7, qge_7, qeq_7, qlt_8, qle_8, qgt_8, qge_8, qeq_8, qlt_9, qle_9, qgt_9, qge_9, qeq_9, qlt_10, qle_10, qgt_10, qge_10, qeq_10, qlt_12, qle_12, qgt_12, qge_12, qeq_12, qlt_16, qle_16, qgt_16, qge_16, qeq_16, qlt_20, qle_20, qgt_20, qge_20, qeq_20, qlt_24, qle_24, qgt_24, qge_24, qeq_24, qlt_30, qle_30, qgt_30, qge_30, qeq_30, qlt_32, qle_32, qgt_32, qge_32, qeq_32, qlt_37, qle_37, qgt_37, qge_37, qeq_37, qlt_40, qle_40, qgt_40, qge_40, qeq_40, qlt_42, qle_42, qgt_42, qge_42, qeq_42, qlt_43, qle_43, qgt_43, qge_43, qeq_43, qlt_45, qle_45, qgt_45, qge_45, qeq_45, qlt_47, qle_47, qgt_47, qge_47, qeq_47, qlt_48, qle_48, qgt_48, qge_48, qeq_48, qlt_57, qle_57, qgt_57, qge_57, qeq_57, qlt_59, qle_59, qgt_59, qge_59, qeq_59, qlt_60, qle_60, qgt_60, qge_60, qeq_60, qlt_61, qle_61, qgt_61, qge_61, qeq_61, qlt_62, qle_62, qgt_62, qge_62, qeq_62, qlt_64, qle_64, qgt_64, qge_64, qeq_64, qlt_91, qle_91, qgt_91, qge_91, qeq_91, qlt_93, qle_93, qgt_93, qge_93, qeq_93, qlt_97, qle_97, qgt_97, qge_97, qeq_97, qlt_122, qle_122, qgt_122, qge_122, qeq_122, qlt_400, qle_400, qgt_400, qge_400, qeq_400, qlt_999, qle_999, qgt_999, qge_999, qeq_999, qlt_0, qle_0, qgt_0, qge_0, qeq_0, qltm, qeqm, ↓reduceIte, Option.bind_some, not_true_eq_false, not_false_eq_true, and_true, true_and, and_false, false_and, or_false, false_or, or_true, true_or, Bool.false_eq_true, reduceCtorEq, n1]) jF 0 (S, 0) (Nat.zero_le _) (by show _ < 5000; omega) ⟨rfl, cQ.rf S⟩
    obtain ⟨X0, x1, x2, x3, x4⟩ := RRun.keep hr hN
    obtain ⟨⟨X1, w⟩, y1, y2, y3, y4, y5⟩ := lp_up (G := 6) (Post := fun r : jS × Int32 => r.2 = btS (fun k => fitB B ru (setG (bTold B) 3 g k)) 0 6 ∧ RRun X r.1 (bNow B) ∧ r.1.1 0 40 = -1 ∧ rQ1 X r.1) (fun m k (A : jS × Int32) => f11_steps_L1 (nI g) m A.1 A.2 (nI k)) (fun k A => A.2 = btS (fun k => fitB B ru (setG (bTold B) 3 g k)) 0 k ∧ RRun X A.1 (bNow B) ∧ A.1.1 0 40 = -1 ∧ rQ1 X A.1) (by
      rintro m k ⟨X2, l2⟩ hk ⟨rfl, hI, i40, hI1⟩
      left
      obtain ⟨X3, p1, p2⟩ := r_begsG (N0 := bNow B) (a := 3) (g := g) (p := k) hM hI i40 q3 hs ht c2.vc (by omega) (by omega) (setS_ok hM (by omega))
      have p1' : f11_begins X2 = some (X3, ()) := p1
      obtain ⟨X4, t1, t2, t3, t4, t5, t6⟩ := r_fits ob c5 p2 hr hN
      have n1 : ¬ 5 < k := by omega
      refine ⟨(X4, btS (fun k => fitB B ru (setG (bTold B) 3 g k)) 0 (k + 1)), ?_, rfl, t2, t4, t3⟩
      show f11_steps_L1 (nI g) (m + 1) X2 (btS (fun k => fitB B ru (setG (bTold B) 3 g k)) 0 k) (nI k) = f11_steps_L1 (nI g) m X4 (btS (fun k => fitB B ru (setG (bTold B) 3 g k)) 0 (k + 1)) (nI (k + 1))
      rw [f11_steps_L1, btS]
      by_cases hf : fitB B ru (setG (bTold B) 3 g k) = true
      · have hf' : ntF B (crs ru (setG (bTold B) 3 g k)) (bNn B) = true := hf
        simp (disch := omega) only [p1', t1, nI_ltI, nI_leI, nI_eq, nI_clamp, nI_1, nI_add, nI_mul, inb_n, irm_n, nI_div, nI_m6, nI_d6, irm_6, qlt_1, qle_1, qgt_1, qge_1, qeq_1, qlt_2, qle_2, qgt_2, qge_2, qeq_2, qlt_3, qle_3, qgt_3, qge_3, qeq_3, qlt_4, qle_4, qgt_4, qge_4, qeq_4, qlt_5, qle_5, qgt_5, qge_5, qeq_5, qlt_6, qle_6, qgt_6, qge_6, qeq_6, qlt_7, qle_7, qgt_7, qge_7, qeq_7, qlt_8, qle_8, qgt_8, qge_8, qeq_8, qlt_9, qle_9, qgt_9, qge_9, qeq_9, qlt_10, qle_10, qgt_10, qge_10, qeq_10, qlt_12, qle_12, qgt_12, qge_12, qeq_12, qlt_16, qle_16, qgt_16, qge_16, qeq_16, qlt_20, qle_20, qgt_20, qge_20, qeq_20, qlt_24, qle_24, qgt_24, qge_24, qeq_24, qlt_30, qle_30, qgt_30, qge_30, qeq_30, qlt_32, qle_32, qgt_32, qge_32, qeq_32, qlt_37, qle_37, qgt_37, qge_37, qeq_37, qlt_40, qle_40, qgt_40, qge_40, qeq_40, qlt_42, qle_42, qgt_42, qge_42, qeq_42, qlt_43, qle_43, qgt_43, qge_43, qeq_43, qlt_45, qle_45, qgt_45, qge_45, qeq_45, qlt_47, qle_47, qgt_47, qge_47, qeq_47, qlt_48, qle_48, qgt_48, qge_48, qeq_48, qlt_57, qle_57, qgt_57, qge_57, qeq_57, qlt_59, qle_59, qgt_59, qge_59, qeq_59, qlt_60, qle_60, qgt_60, qge_60, qeq_60, qlt_61, qle_61, qgt_61, qge_61, qeq_61, qlt_62, qle_62, qgt_62, qge_62, qeq_62, qlt_64, qle_64, qgt_64, qge_64, qeq_64, qlt_91, qle_91, qgt_91, qge_91, qeq_91, qlt_93, qle_93, qgt_93, qge_93, qeq_93, qlt_97, qle_97, qgt_97, qge_97, qeq_97, qlt_122, qle_122, qgt_122, qge_122, qeq_122, qlt_400, qle_400, qgt_400, qge_400, qeq_400, qlt_999, qle_999, qgt_999, qge_999, qeq_999, qlt_0, qle_0, qgt_0, qge_0, qeq_0, qltm, qeqm, ↓reduceIte, Option.bind_some, not_true_eq_false, not_false_eq_true, and_true, true_and, and_false, false_and, or_false, false_or, or_true, true_or, Bool.false_eq_true, reduceCtorEq, n1, n7, hf, hf', one_ne0, Nat.add_zero]
      · have hf' : ¬ ntF B (crs ru (setG (bTold B) 3 g k)) (bNn B) = true := hf
        simp (disch := omega) only [p1', t1, nI_ltI, nI_leI, nI_eq, nI_clamp, nI_1, nI_add, nI_mul, inb_n, irm_n, nI_div, nI_m6, nI_d6, irm_6, qlt_1, qle_1, qgt_1, qge_1, qeq_1, qlt_2, qle_2, qgt_2, qge_2, qeq_2, qlt_3, qle_3, qgt_3, qge_3, qeq_3, qlt_4, qle_4, qgt_4, qge_4, qeq_4, qlt_5, qle_5, qgt_5, qge_5, qeq_5, qlt_6, qle_6, qgt_6, qge_6, qeq_6, qlt_7, qle_7, qgt_7, qge_7, qeq_7, qlt_8, qle_8, qgt_8, qge_8, qeq_8, qlt_9, qle_9, qgt_9, qge_9, qeq_9, qlt_10, qle_10, qgt_10, qge_10, qeq_10, qlt_12, qle_12, qgt_12, qge_12, qeq_12, qlt_16, qle_16, qgt_16, qge_16, qeq_16, qlt_20, qle_20, qgt_20, qge_20, qeq_20, qlt_24, qle_24, qgt_24, qge_24, qeq_24, qlt_30, qle_30, qgt_30, qge_30, qeq_30, qlt_32, qle_32, qgt_32, qge_32, qeq_32, qlt_37, qle_37, qgt_37, qge_37, qeq_37, qlt_40, qle_40, qgt_40, qge_40, qeq_40, qlt_42, qle_42, qgt_42, qge_42, qeq_42, qlt_43, qle_43, qgt_43, qge_43, qeq_43, qlt_45, qle_45, qgt_45, qge_45, qeq_45, qlt_47, qle_47, qgt_47, qge_47, qeq_47, qlt_48, qle_48, qgt_48, qge_48, qeq_48, qlt_57, qle_57, qgt_57, qge_57, qeq_57, qlt_59, qle_59, qgt_59, qge_59, qeq_59, qlt_60, qle_60, qgt_60, qge_60, qeq_60, qlt_61, qle_61, qgt_61, qge_61, qeq_61, qlt_62, qle_62, qgt_62, qge_62, qeq_62, qlt_64, qle_64, qgt_64, qge_64, qeq_64, qlt_91, qle_91, qgt_91, qge_91, qeq_91, qlt_93, qle_93, qgt_93, qge_93, qeq_93, qlt_97, qle_97, qgt_97, qge_97, qeq_97, qlt_122, qle_122, qgt_122, qge_122, qeq_122, qlt_400, qle_400, qgt_400, qge_400, qeq_400, qlt_999, qle_999, qgt_999, qge_999, qeq_999, qlt_0, qle_0, qgt_0, qge_0, qeq_0, qltm, qeqm, ↓reduceIte, Option.bind_some, not_true_eq_false, not_false_eq_true, and_true, true_and, and_false, false_and, or_false, false_or, or_true, true_or, Bool.false_eq_true, reduceCtorEq, n1, n7, hf, hf', or_0]) (by
      rintro m ⟨X2, l2⟩ ⟨h4, hI⟩
      refine ⟨(X2, l2), ?_, h4, hI⟩
      have n1 : 5 < 6 := by omega
      show f11_steps_L1 (nI g) (m + 1) X2 l2 (nI 6) = _
      rw [f11_steps_L1]
      simp (disch := omega) only [nI_ltI, nI_leI, nI_eq, nI_clamp, nI_1, nI_add, nI_mul, inb_n, irm_n, nI_div, nI_m6, nI_d6, irm_6, qlt_1, qle_1, qgt_1, qge_1, qeq_1, qlt_2, qle_2, qgt_2, qge_2, qeq_2, qlt_3, qle_3, qgt_3, qge_3, qeq_3, qlt_4, qle_4, qgt_4, qge_4, qeq_4, qlt_5, qle_5, qgt_5, qge_5, qeq_5, qlt_6, qle_6, qgt_6, qge_6, qeq_6, qlt_7, qle_7, qgt_7, qge_7, qeq_7, qlt_8, qle_8, qgt_8, qge_8, qeq_8, qlt_9, qle_9, qgt_9, qge_9, qeq_9, qlt_10, qle_10, qgt_10, qge_10, qeq_10, qlt_12, qle_12, qgt_12, qge_12, qeq_12, qlt_16, qle_16, qgt_16, qge_16, qeq_16, qlt_20, qle_20, qgt_20, qge_20, qeq_20, qlt_24, qle_24, qgt_24, qge_24, qeq_24, qlt_30, qle_30, qgt_30, qge_30, qeq_30, qlt_32, qle_32, qgt_32, qge_32, qeq_32, qlt_37, qle_37, qgt_37, qge_37, qeq_37, qlt_40, qle_40, qgt_40, qge_40, qeq_40, qlt_42, qle_42, qgt_42, qge_42, qeq_42, qlt_43, qle_43, qgt_43, qge_43, qeq_43, qlt_45, qle_45, qgt_45, qge_45, qeq_45, qlt_47, qle_47, qgt_47, qge_47, qeq_47, qlt_48, qle_48, qgt_48, qge_48, qeq_48, qlt_57, qle_57, qgt_57, qge_57, qeq_57, qlt_59, qle_59, qgt_59, qge_59, qeq_59, qlt_60, qle_60, qgt_60, qge_60, qeq_60, qlt_61, qle_61, qgt_61, qge_61, qeq_61, qlt_62, qle_62, qgt_62, qge_62, qeq_62, qlt_64, qle_64, qgt_64, qge_64, qeq_64, qlt_91, qle_91, qgt_91, qge_91, qeq_91, qlt_93, qle_93, qgt_93, qge_93, qeq_93, qlt_97, qle_97, qgt_97, qge_97, qeq_97, qlt_122, qle_122, qgt_122, qge_122, qeq_122, qlt_400, qle_400, qgt_400, qge_400, qeq_400, qlt_999, qle_999, qgt_999, qge_999, qeq_999, qlt_0, qle_0, qgt_0, qge_0, qeq_0, qltm, qeqm, ↓reduceIte, Option.bind_some, not_true_eq_false, not_false_eq_true, and_true, true_and, and_false, false_and, or_false, false_or, or_true, true_or, Bool.false_eq_true, reduceCtorEq, n1]) jF 0 (X0, 0) (Nat.zero_le _) (by show _ < 5000; omega) ⟨rfl, x2, x3.trans h40, x4⟩
    have s1' : f1_fittingSteps_L1 T 100 q (nI g) jF S 0 0 = some (S1, v) := s1
    have y1' : f11_steps_L1 (nI g) jF X0 0 0 = some (X1, w) := y1
    have evw : v = w := by
      have e1 : v = _ := s2
      have e2 : w = _ := y2
      rw [e1, e2]
    refine ⟨S1, X1, v, ?_, ?_, h.end s3 y3.1 y5 (by rw [h40]; exact y4)⟩
    · unfold f1_fittingSteps
      rw [s1']; rfl
    · rw [x1, Option.bind_some, y1', Option.bind_some, evw]
  · rw [(c_isG hM b2).2 a0 hg, (r_isG hN hr).2 a0 (by rw [← hG2]; exact hg)]
    exact ⟨S, X, -1, rfl, rfl, h⟩
