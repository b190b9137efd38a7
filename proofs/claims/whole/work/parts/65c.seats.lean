def vlN (N : mN) (k s : Nat) : Nat := (lsG N true (N 0 2 - k) s).getD 0
def chN (N : mN) (k s : Nat) : Nat := fiB (fcB N (lsG N true (N 0 2 - (k + 1))) (vlN N k s) k s) (N 0 1)
def psN (N : mN) : Nat → Nat
  | 0 => 0
  | k + 1 => if chN N k (psN N k) = 0 then psN N k else psN N k ||| 2 ^ (chN N k (psN N k) - 1)
theorem ps_ok {N : mN} (hN : NOk N) : ∀ k, k ≤ N 0 2 → subb (psN N k) (N 0 3) ∧ lsG N true (N 0 2 - k) (psN N k) ≠ none := by
  intro k
  induction k with
  | zero => intro _; exact ⟨fun j hj => absurd (show (0 : Nat).testBit j = true from hj) (by rw [Nat.zero_testBit]; decide), lsG_top hN⟩
  | succ k ih =>
    intro hk
    obtain ⟨h1, h2⟩ := ih (by omega)
    obtain ⟨v, hv⟩ := Option.ne_none_iff_exists'.mp h2
    have hvl : vlN N k (psN N k) = v := by unfold vlN; rw [hv]; rfl
    have e5 : N 0 2 - k = (N 0 2 - (k + 1)) + 1 := by omega
    rw [e5, lsG, show N 0 2 - (N 0 2 - (k + 1) + 1) = k by omega] at hv
    unfold psN
    by_cases hz : chN N k (psN N k) = 0
    · rw [if_pos hz]
      refine ⟨h1, ?_⟩
      unfold chN at hz
      rw [hvl] at hz
      rcases lsC_at _ hv with h3 | ⟨c, c1, c2⟩
      · rw [h3]; simp
      · have := (fiB_sp (b := fcB N (lsG N true (N 0 2 - (k + 1))) v k (psN N k)) (N 0 1)).1 hz c c1
        rw [this] at c2; cases c2
    · rw [if_neg hz]
      obtain ⟨m, hm⟩ : ∃ m, chN N k (psN N k) = m + 1 := ⟨chN N k (psN N k) - 1, by omega⟩
      rw [hm, show m + 1 - 1 = m by omega]
      unfold chN at hm
      rw [hvl] at hm
      obtain ⟨u1, u2, u3⟩ := (fiB_sp (b := fcB N (lsG N true (N 0 2 - (k + 1))) v k (psN N k)) (N 0 1)).2 m hm
      unfold fcB at u1
      simp only [Bool.and_eq_true, beq_iff_eq] at u1
      obtain ⟨⟨w1, w2⟩, w3⟩ := u1
      refine ⟨sub_or h1 (fre_t w2).1, ?_⟩
      intro z
      rw [z] at w3; cases w3
theorem k_kind {S : jS} {T : jT} {X : jS} (hT : LayT81 T) (h : INV S T X) (a0 : Int32) : ∃ S1 X1 v, f10_kind T S a0 = some (S1, v) ∧ f11_kind X a0 = some (X1, v) ∧ INV S1 T X1 := by
  obtain ⟨N, hN, hc, hr, -⟩ := h.get
  have hG := hN.2.2.1
  have hC' := hN.2.1
  have e2 : S.1 (100 + 8) 2 = nI (N 0 2) := hc.1 2 (by omega) (by omega)
  have f2 := HV2 hr
  have hm : (-1 : Int32).toInt64 = -1 := by decide
  unfold f10_kind f11_kind
  rw [c_told hN hc, r_told hN hr, f2, r_in a0 hm rfl, e2]
  by_cases z : N 0 0 = 0
  · exact ⟨S, X, -2, by simp [z], by simp [z], h⟩
  · simp only [z, ↓reduceIte, Option.bind_some, not_true_eq_false, not_false_eq_true, and_true, true_and, and_false, false_and, or_false, false_or, or_true, true_or, Bool.false_eq_true, reduceCtorEq, one_ne0]
    by_cases c0 : a0 < -1
    · have : ¬ (-1 ≤ a0 ∧ a0 ≤ nI (N 0 2) - 1) := by grind
      exact ⟨S, X, -2, by rw [if_pos c0], by simp only [this, ↓reduceIte, Option.bind_some, not_true_eq_false, not_false_eq_true, and_true, true_and, and_false, false_and, or_false, false_or, or_true, true_or, Bool.false_eq_true, reduceCtorEq], h⟩
    · rw [if_neg c0]
      have key : a0 < nI (N 0 2) ↔ (-1 ≤ a0 ∧ a0 ≤ nI (N 0 2) - 1) := by
        have := nI_pos' (n := N 0 2) (by omega)
        constructor
        · intro z; exact ⟨by grind, by grind⟩
        · intro z; grind
      by_cases c1 : a0 < nI (N 0 2)
      · rw [if_pos c1]
        obtain ⟨S1, s1, s2, s3⟩ := c_ls (tg := true) hT hN hc
        obtain ⟨X1, x1, x2, x3⟩ := r_ls (tg := true) hN hr
        have s1' : f8_leastTime T S (100 + 8) 1 = some (S1, cE (lsG N true (N 0 2) 0)) := s1
        have x1' : f11_laysLeast X 1 = some (X1, ()) := x1
        have e := x3 0 (by omega) 0 (by omega)
        rw [Nat.sub_zero, ← cE_rE (lsG_top hN)] at e
        have e' : X1.1 47 0 = cE (lsG N true (N 0 2) 0) := e
        have fin : INV S1 T X1 := h.q s2 ⟨fun a i u1 u2 => x2 a i (by omega), ⟨fun i hi => x2 1 i (by omega), fun a g u1 u2 hg => x2 a g (by omega)⟩, x2 0 40 (by omega)⟩
        simp only [key.mp c1, ↓reduceIte, Option.bind_some, not_true_eq_false, not_false_eq_true, and_true, true_and, and_false, false_and, or_false, false_or, or_true, true_or, Bool.false_eq_true, reduceCtorEq, one_ne0, and_self, s1', x1']
        by_cases em : a0 = -1
        · simp only [em, ↓reduceIte, Option.bind_some, not_true_eq_false, not_false_eq_true, and_true, true_and, and_false, false_and, or_false, false_or, or_true, true_or, Bool.false_eq_true, reduceCtorEq, e']
          exact ⟨S1, X1, _, rfl, rfl, fin⟩
        · simp only [em, ↓reduceIte, Option.bind_some, not_true_eq_false, not_false_eq_true, and_true, true_and, and_false, false_and, or_false, false_or, or_true, true_or, Bool.false_eq_true, reduceCtorEq]
          obtain ⟨w, hw, rfl⟩ := nI_of (x := a0) (by grind)
          have hwG : w < N 0 2 := (nI_ltI hw (by omega)).mp c1
          have hh : HIs (hC S1 (100 + 8)) N := hc.mono (fun a i u1 u2 => s2 a i (by omega) (by omega))
          have hx : HIs (hV X1.1) N := HV_mono hr (fun a i u1 u2 => x2 a i (by omega))
          have g2 : S1.1 (100 + 8) 2 = nI (N 0 2) := hh.1 2 (by omega) (by omega)
          have step : ∀ k, k < N 0 2 → f8_firstChair T S1 (100 + 8) (nI k) (nI (psN N k)) = some (nI (chN N k (psN N k)) - 1) ∧ (∀ l1, f11_chairBy_L2 X1 l1 (nI (psN N k)) (nI k) (X1.1 47 (64 * k + psN N k)) jF (-1) 0 = some (nI (chN N k (psN N k)) - 1)) ∧ psN N k < 64 := by
            intro k hk
            obtain ⟨p1, p2⟩ := ps_ok hN k (by omega)
            have hs64 : psN N k < 64 := Nat.lt_of_lt_of_le (subb_lt p1 hN.2.2.2.1) (Nat.pow_le_pow_right (n := 2) (by omega) hN.2.1)
            obtain ⟨v, hv⟩ := Option.ne_none_iff_exists'.mp p2
            have hvl : vlN N k (psN N k) = v := by unfold vlN; rw [hv]; rfl
            have hvb := lsG_b (tg := true) hN (N 0 2 - k) (psN N k) (by omega) v hv
            have hv6 : v ≤ 6720 := by
              have : 960 * (N 0 2 - k) ≤ 960 * 7 := Nat.mul_le_mul (Nat.le_refl _) (by omega)
              omega
            have r1 := s3 k (by omega) (psN N k) hs64
            have r2 := x3 k (by omega) (psN N k) hs64
            rw [hv] at r1 r2
            have hbn : ∀ x, bnd 6 (lsG N true (N 0 2 - (k + 1)) x) := fun x => bnd_mono (lsG_b hN _ x (by omega)) (by omega)
            refine ⟨?_, fun l1 => ?_, hs64⟩
            · have := c_fc (T := T) (g := k) (s := psN N k) (v := v) hT hN hh hk hs64 (fun x hx => s3 (k + 1) (by omega) x hx) hbn r1 hv6
              unfold chN; rw [hvl]; exact this
            · have := r_fc (l1 := l1) (g := k) (s := psN N k) (v := v) hN hx hk hs64 (fun x hx => x3 (k + 1) (by omega) x hx) hbn hv6
              have r2' : X1.1 47 (64 * k + psN N k) = nI v := r2
              rw [r2']
              unfold chN; rw [hvl]; exact this
          have chle : ∀ k, chN N k (psN N k) ≤ 6 := fun k => by
            have := (cn_le (b := fcB N (lsG N true (N 0 2 - (k + 1))) (vlN N k (psN N k)) k (psN N k)) (N 0 1)).2
            unfold chN; omega
          obtain ⟨r, r1, r2⟩ := lp_up (G := w + 1) (Post := fun r : Int32 => r = nI (chN N w (psN N w)) - 1) (fun n k (f : Int32 × Int32) => f8_chairOf_L1 T S1 (100 + 8) (nI w) n f.1 f.2 (nI k)) (fun k f => f.1 = nI (psN N k) ∧ (k = w + 1 → f.2 = nI (chN N w (psN N w)) - 1)) (by
            rintro n k ⟨l3, l4⟩ hk ⟨h3, h4⟩
            left
            have h3' : l3 = nI (psN N k) := h3
            subst h3'
            obtain ⟨q1, q2, q3⟩ := step k (by omega)
            have n1 : ¬ w < k := by omega
            have n2 : ¬ N 0 2 ≤ k := by omega
            refine ⟨(nI (psN N (k + 1)), nI (chN N k (psN N k)) - 1), ?_, rfl, fun ek => ?_⟩
            · show f8_chairOf_L1 T S1 (100 + 8) (nI w) (n + 1) (nI (psN N k)) l4 (nI k) = f8_chairOf_L1 T S1 (100 + 8) (nI w) n (nI (psN N (k + 1))) (nI (chN N k (psN N k)) - 1) (nI (k + 1))
              rw [f8_chairOf_L1, psN]
              have hle := chle k
              cases ec : chN N k (psN N k) with
              | zero =>
                rw [ec, nI_0m] at q1
                rw [nI_0m]
                simp (disch := omega) only [g2, q1, nI_ltI, nI_leI, nI_eq, nI_clamp, nI_1, nI_add, nI_mul, inb_n, irm_n, nI_div, nI_m6, nI_d6, irm_6, qlt_1, qle_1, qgt_1, qge_1, qeq_1, qlt_2, qle_2, qgt_2, qge_2, qeq_2, qlt_3, qle_3, qgt_3, qge_3, qeq_3, qlt_4, qle_4, qgt_4, qge_4, qeq_4, qlt_5, qle_5, qgt_5, qge_5, qeq_5, qlt_6, qle_6, qgt_6, qge_6, qeq_6, qlt_7, qle_7, qgt_7, qge_7, qeq_7, qlt_8, qle_8, qgt_8, qge_8, qeq_8, qlt_9, qle_9, qgt_9, qge_9, qeq_9, qlt_10, qle_10, qgt_10, qge_10, qeq_10, qlt_12, qle_12, qgt_12, qge_12, qeq_12, qlt_16, qle_16, qgt_16, qge_16, qeq_16, qlt_20, qle_20, qgt_20, qge_20, qeq_20, qlt_24, qle_24, qgt_24, qge_24, qeq_24, qlt_30, qle_30, qgt_30, qge_30, qeq_30, qlt_32, qle_32, qgt_32, qge_32, qeq_32, qlt_37, qle_37, qgt_37, qge_37, qeq_37, qlt_40, qle_40, qgt_40, qge_40, qeq_40, qlt_42, qle_42, qgt_42, qge_42, qeq_42, qlt_43, qle_43, qgt_43, qge_43, qeq_43, qlt_45, qle_45, qgt_45, qge_45, qeq_45, qlt_47, qle_47, qgt_47, qge_47, qeq_47, qlt_48, qle_48, qgt_48, qge_48, qeq_48, qlt_57, qle_57, qgt_57, qge_57, qeq_57, qlt_59, qle_59, qgt_59, qge_59, qeq_59, qlt_60, qle_60, qgt_60, qge_60, qeq_60, qlt_61, qle_61, qgt_61, qge_61, qeq_61, qlt_62, qle_62, qgt_62, qge_62, qeq_62, qlt_64, qle_64, qgt_64, qge_64, qeq_64, qlt_91, qle_91, qgt_91, qge_91, qeq_91, qlt_93, qle_93, qgt_93, qge_93, qeq_93, qlt_97, qle_97, qgt_97, qge_97, qeq_97, qlt_122, qle_122, qgt_122, qge_122, qeq_122, qlt_400, qle_400, qgt_400, qge_400, qeq_400, qlt_999, qle_999, qgt_999, qge_999, qeq_999, qlt_0, qle_0, qgt_0, qge_0, qeq_0, qltm, qeqm, ↓reduceIte, Option.bind_some, not_true_eq_false, not_false_eq_true, and_true, true_and, and_false, false_and, or_false, false_or, or_true, true_or, Bool.false_eq_true, reduceCtorEq, n1, n2]
              | succ m =>
                rw [ec, nI_pred] at q1
                obtain ⟨o1, o2⟩ := b_or0 (psN N k) q3 m (by omega)
                have n3 : ¬ m + 1 = 0 := by omega
                have n4 : m + 1 - 1 = m := by omega
                rw [nI_pred]
                simp (disch := omega) only [g2, q1, nI_ltI, nI_leI, nI_eq, nI_clamp, nI_1, nI_add, nI_mul, inb_n, irm_n, nI_div, nI_m6, nI_d6, irm_6, qlt_1, qle_1, qgt_1, qge_1, qeq_1, qlt_2, qle_2, qgt_2, qge_2, qeq_2, qlt_3, qle_3, qgt_3, qge_3, qeq_3, qlt_4, qle_4, qgt_4, qge_4, qeq_4, qlt_5, qle_5, qgt_5, qge_5, qeq_5, qlt_6, qle_6, qgt_6, qge_6, qeq_6, qlt_7, qle_7, qgt_7, qge_7, qeq_7, qlt_8, qle_8, qgt_8, qge_8, qeq_8, qlt_9, qle_9, qgt_9, qge_9, qeq_9, qlt_10, qle_10, qgt_10, qge_10, qeq_10, qlt_12, qle_12, qgt_12, qge_12, qeq_12, qlt_16, qle_16, qgt_16, qge_16, qeq_16, qlt_20, qle_20, qgt_20, qge_20, qeq_20, qlt_24, qle_24, qgt_24, qge_24, qeq_24, qlt_30, qle_30, qgt_30, qge_30, qeq_30, qlt_32, qle_32, qgt_32, qge_32, qeq_32, qlt_37, qle_37, qgt_37, qge_37, qeq_37, qlt_40, qle_40, qgt_40, qge_40, qeq_40, qlt_42, qle_42, qgt_42, qge_42, qeq_42, qlt_43, qle_43, qgt_43, qge_43, qeq_43, qlt_45, qle_45, qgt_45, qge_45, qeq_45, qlt_47, qle_47, qgt_47, qge_47, qeq_47, qlt_48, qle_48, qgt_48, qge_48, qeq_48, qlt_57, qle_57, qgt_57, qge_57, qeq_57, qlt_59, qle_59, qgt_59, qge_59, qeq_59, qlt_60, qle_60, qgt_60, qge_60, qeq_60, qlt_61, qle_61, qgt_61, qge_61, qeq_61, qlt_62, qle_62, qgt_62, qge_62, qeq_62, qlt_64, qle_64, qgt_64, qge_64, qeq_64, qlt_91, qle_91, qgt_91, qge_91, qeq_91, qlt_93, qle_93, qgt_93, qge_93, qeq_93, qlt_97, qle_97, qgt_97, qge_97, qeq_97, qlt_122, qle_122, qgt_122, qge_122, qeq_122, qlt_400, qle_400, qgt_400, qge_400, qeq_400, qlt_999, qle_999, qgt_999, qge_999, qeq_999, qlt_0, qle_0, qgt_0, qge_0, qeq_0, qltm, qeqm, ↓reduceIte, Option.bind_some, not_true_eq_false, not_false_eq_true, and_true, true_and, and_false, false_and, or_false, false_or, or_true, true_or, Bool.false_eq_true, reduceCtorEq, n1, n2, n3, n4, o1]
            · have : k = w := by omega
              subst this; rfl) (by
            rintro n ⟨l3, l4⟩ ⟨h3, h4⟩
            refine ⟨l4, ?_, h4 rfl⟩
            have n1 : w < w + 1 := by omega
            show f8_chairOf_L1 T S1 (100 + 8) (nI w) (n + 1) l3 l4 (nI (w + 1)) = _
            rw [f8_chairOf_L1]
            simp (disch := omega) only [nI_ltI, nI_leI, nI_eq, nI_clamp, nI_1, nI_add, nI_mul, inb_n, irm_n, nI_div, nI_m6, nI_d6, irm_6, qlt_1, qle_1, qgt_1, qge_1, qeq_1, qlt_2, qle_2, qgt_2, qge_2, qeq_2, qlt_3, qle_3, qgt_3, qge_3, qeq_3, qlt_4, qle_4, qgt_4, qge_4, qeq_4, qlt_5, qle_5, qgt_5, qge_5, qeq_5, qlt_6, qle_6, qgt_6, qge_6, qeq_6, qlt_7, qle_7, qgt_7, qge_7, qeq_7, qlt_8, qle_8, qgt_8, qge_8, qeq_8, qlt_9, qle_9, qgt_9, qge_9, qeq_9, qlt_10, qle_10, qgt_10, qge_10, qeq_10, qlt_12, qle_12, qgt_12, qge_12, qeq_12, qlt_16, qle_16, qgt_16, qge_16, qeq_16, qlt_20, qle_20, qgt_20, qge_20, qeq_20, qlt_24, qle_24, qgt_24, qge_24, qeq_24, qlt_30, qle_30, qgt_30, qge_30, qeq_30, qlt_32, qle_32, qgt_32, qge_32, qeq_32, qlt_37, qle_37, qgt_37, qge_37, qeq_37, qlt_40, qle_40, qgt_40, qge_40, qeq_40, qlt_42, qle_42, qgt_42, qge_42, qeq_42, qlt_43, qle_43, qgt_43, qge_43, qeq_43, qlt_45, qle_45, qgt_45, qge_45, qeq_45, qlt_47, qle_47, qgt_47, qge_47, qeq_47, qlt_48, qle_48, qgt_48, qge_48, qeq_48, qlt_57, qle_57, qgt_57, qge_57, qeq_57, qlt_59, qle_59, qgt_59, qge_59, qeq_59, qlt_60, qle_60, qgt_60, qge_60, qeq_60, qlt_61, qle_61, qgt_61, qge_61, qeq_61, qlt_62, qle_62, qgt_62, qge_62, qeq_62, qlt_64, qle_64, qgt_64, qge_64, qeq_64, qlt_91, qle_91, qgt_91, qge_91, qeq_91, qlt_93, qle_93, qgt_93, qge_93, qeq_93, qlt_97, qle_97, qgt_97, qge_97, qeq_97, qlt_122, qle_122, qgt_122, qge_122, qeq_122, qlt_400, qle_400, qgt_400, qge_400, qeq_400, qlt_999, qle_999, qgt_999, qge_999, qeq_999, qlt_0, qle_0, qgt_0, qge_0, qeq_0, qltm, qeqm, ↓reduceIte, Option.bind_some, not_true_eq_false, not_false_eq_true, and_true, true_and, and_false, false_and, or_false, false_or, or_true, true_or, Bool.false_eq_true, reduceCtorEq, n1]) jF 0 (0, -1) (Nat.zero_le _) (by show _ < 5000; omega) ⟨rfl, fun z => by omega⟩
          obtain ⟨t, t1, t2⟩ := lp_up (G := w + 1) (Post := fun r : Int32 => r = nI (chN N w (psN N w)) - 1) (fun n k (f : Int32 × Int32) => f11_chairBy_L1 X1 (nI w) n f.1 f.2 (nI k)) (fun k f => f.1 = nI (psN N k) ∧ (k = w + 1 → f.2 = nI (chN N w (psN N w)) - 1)) (by
            rintro n k ⟨l3, l4⟩ hk ⟨h3, h4⟩
            left
            have h3' : l3 = nI (psN N k) := h3
            subst h3'
            obtain ⟨q1, q2, q3⟩ := step k (by omega)
            have q2' := q2 (nI w)
            have n1 : ¬ w < k := by omega
            have n5 : 64 * k + psN N k < 512 := by omega
            refine ⟨(nI (psN N (k + 1)), nI (chN N k (psN N k)) - 1), ?_, rfl, fun ek => ?_⟩
            · show f11_chairBy_L1 X1 (nI w) (n + 1) (nI (psN N k)) l4 (nI k) = f11_chairBy_L1 X1 (nI w) n (nI (psN N (k + 1))) (nI (chN N k (psN N k)) - 1) (nI (k + 1))
              rw [f11_chairBy_L1, psN]
              have hle := chle k
              cases ec : chN N k (psN N k) with
              | zero =>
                rw [ec, nI_0m] at q2'
                rw [nI_0m]
                simp (disch := omega) only [nI_64m, q2', nI_ltI, nI_leI, nI_eq, nI_clamp, nI_1, nI_add, nI_mul, inb_n, irm_n, nI_div, nI_m6, nI_d6, irm_6, qlt_1, qle_1, qgt_1, qge_1, qeq_1, qlt_2, qle_2, qgt_2, qge_2, qeq_2, qlt_3, qle_3, qgt_3, qge_3, qeq_3, qlt_4, qle_4, qgt_4, qge_4, qeq_4, qlt_5, qle_5, qgt_5, qge_5, qeq_5, qlt_6, qle_6, qgt_6, qge_6, qeq_6, qlt_7, qle_7, qgt_7, qge_7, qeq_7, qlt_8, qle_8, qgt_8, qge_8, qeq_8, qlt_9, qle_9, qgt_9, qge_9, qeq_9, qlt_10, qle_10, qgt_10, qge_10, qeq_10, qlt_12, qle_12, qgt_12, qge_12, qeq_12, qlt_16, qle_16, qgt_16, qge_16, qeq_16, qlt_20, qle_20, qgt_20, qge_20, qeq_20, qlt_24, qle_24, qgt_24, qge_24, qeq_24, qlt_30, qle_30, qgt_30, qge_30, qeq_30, qlt_32, qle_32, qgt_32, qge_32, qeq_32, qlt_37, qle_37, qgt_37, qge_37, qeq_37, qlt_40, qle_40, qgt_40, qge_40, qeq_40, qlt_42, qle_42, qgt_42, qge_42, qeq_42, qlt_43, qle_43, qgt_43, qge_43, qeq_43, qlt_45, qle_45, qgt_45, qge_45, qeq_45, qlt_47, qle_47, qgt_47, qge_47, qeq_47, qlt_48, qle_48, qgt_48, qge_48, qeq_48, qlt_57, qle_57, qgt_57, qge_57, qeq_57, qlt_59, qle_59, qgt_59, qge_59, qeq_59, qlt_60, qle_60, qgt_60, qge_60, qeq_60, qlt_61, qle_61, qgt_61, qge_61, qeq_61, qlt_62, qle_62, qgt_62, qge_62, qeq_62, qlt_64, qle_64, qgt_64, qge_64, qeq_64, qlt_91, qle_91, qgt_91, qge_91, qeq_91, qlt_93, qle_93, qgt_93, qge_93, qeq_93, qlt_97, qle_97, qgt_97, qge_97, qeq_97, qlt_122, qle_122, qgt_122, qge_122, qeq_122, qlt_400, qle_400, qgt_400, qge_400, qeq_400, qlt_999, qle_999, qgt_999, qge_999, qeq_999, qlt_0, qle_0, qgt_0, qge_0, qeq_0, qltm, qeqm, ↓reduceIte, Option.bind_some, not_true_eq_false, not_false_eq_true, and_true, true_and, and_false, false_and, or_false, false_or, or_true, true_or, Bool.false_eq_true, reduceCtorEq, n1, n5, or_0]
              | succ m =>
                rw [ec, nI_pred] at q2'
                obtain ⟨o1, o2⟩ := b_or0 (psN N k) q3 m (by omega)
                have n3 : ¬ m + 1 = 0 := by omega
                have n4 : m + 1 - 1 = m := by omega
                rw [nI_pred]
                simp (disch := omega) only [nI_64m, q2', nI_ltI, nI_leI, nI_eq, nI_clamp, nI_1, nI_add, nI_mul, inb_n, irm_n, nI_div, nI_m6, nI_d6, irm_6, qlt_1, qle_1, qgt_1, qge_1, qeq_1, qlt_2, qle_2, qgt_2, qge_2, qeq_2, qlt_3, qle_3, qgt_3, qge_3, qeq_3, qlt_4, qle_4, qgt_4, qge_4, qeq_4, qlt_5, qle_5, qgt_5, qge_5, qeq_5, qlt_6, qle_6, qgt_6, qge_6, qeq_6, qlt_7, qle_7, qgt_7, qge_7, qeq_7, qlt_8, qle_8, qgt_8, qge_8, qeq_8, qlt_9, qle_9, qgt_9, qge_9, qeq_9, qlt_10, qle_10, qgt_10, qge_10, qeq_10, qlt_12, qle_12, qgt_12, qge_12, qeq_12, qlt_16, qle_16, qgt_16, qge_16, qeq_16, qlt_20, qle_20, qgt_20, qge_20, qeq_20, qlt_24, qle_24, qgt_24, qge_24, qeq_24, qlt_30, qle_30, qgt_30, qge_30, qeq_30, qlt_32, qle_32, qgt_32, qge_32, qeq_32, qlt_37, qle_37, qgt_37, qge_37, qeq_37, qlt_40, qle_40, qgt_40, qge_40, qeq_40, qlt_42, qle_42, qgt_42, qge_42, qeq_42, qlt_43, qle_43, qgt_43, qge_43, qeq_43, qlt_45, qle_45, qgt_45, qge_45, qeq_45, qlt_47, qle_47, qgt_47, qge_47, qeq_47, qlt_48, qle_48, qgt_48, qge_48, qeq_48, qlt_57, qle_57, qgt_57, qge_57, qeq_57, qlt_59, qle_59, qgt_59, qge_59, qeq_59, qlt_60, qle_60, qgt_60, qge_60, qeq_60, qlt_61, qle_61, qgt_61, qge_61, qeq_61, qlt_62, qle_62, qgt_62, qge_62, qeq_62, qlt_64, qle_64, qgt_64, qge_64, qeq_64, qlt_91, qle_91, qgt_91, qge_91, qeq_91, qlt_93, qle_93, qgt_93, qge_93, qeq_93, qlt_97, qle_97, qgt_97, qge_97, qeq_97, qlt_122, qle_122, qgt_122, qge_122, qeq_122, qlt_400, qle_400, qgt_400, qge_400, qeq_400, qlt_999, qle_999, qgt_999, qge_999, qeq_999, qlt_0, qle_0, qgt_0, qge_0, qeq_0, qltm, qeqm, ↓reduceIte, Option.bind_some, not_true_eq_false, not_false_eq_true, and_true, true_and, and_false, false_and, or_false, false_or, or_true, true_or, Bool.false_eq_true, reduceCtorEq, n1, n3, n4, n5, o1]
            · have : k = w := by omega
              subst this; rfl) (by
            rintro n ⟨l3, l4⟩ ⟨h3, h4⟩
            refine ⟨l4, ?_, h4 rfl⟩
            have n1 : w < w + 1 := by omega
            show f11_chairBy_L1 X1 (nI w) (n + 1) l3 l4 (nI (w + 1)) = _
            rw [f11_chairBy_L1]
            simp (disch := omega) only [nI_ltI, nI_leI, nI_eq, nI_clamp, nI_1, nI_add, nI_mul, inb_n, irm_n, nI_div, nI_m6, nI_d6, irm_6, qlt_1, qle_1, qgt_1, qge_1, qeq_1, qlt_2, qle_2, qgt_2, qge_2, qeq_2, qlt_3, qle_3, qgt_3, qge_3, qeq_3, qlt_4, qle_4, qgt_4, qge_4, qeq_4, qlt_5, qle_5, qgt_5, qge_5, qeq_5, qlt_6, qle_6, qgt_6, qge_6, qeq_6, qlt_7, qle_7, qgt_7, qge_7, qeq_7, qlt_8, qle_8, qgt_8, qge_8, qeq_8, qlt_9, qle_9, qgt_9, qge_9, qeq_9, qlt_10, qle_10, qgt_10, qge_10, qeq_10, qlt_12, qle_12, qgt_12, qge_12, qeq_12, qlt_16, qle_16, qgt_16, qge_16, qeq_16, qlt_20, qle_20, qgt_20, qge_20, qeq_20, qlt_24, qle_24, qgt_24, qge_24, qeq_24, qlt_30, qle_30, qgt_30, qge_30, qeq_30, qlt_32, qle_32, qgt_32, qge_32, qeq_32, qlt_37, qle_37, qgt_37, qge_37, qeq_37, qlt_40, qle_40, qgt_40, qge_40, qeq_40, qlt_42, qle_42, qgt_42, qge_42, qeq_42, qlt_43, qle_43, qgt_43, qge_43, qeq_43, qlt_45, qle_45, qgt_45, qge_45, qeq_45, qlt_47, qle_47, qgt_47, qge_47, qeq_47, qlt_48, qle_48, qgt_48, qge_48, qeq_48, qlt_57, qle_57, qgt_57, qge_57, qeq_57, qlt_59, qle_59, qgt_59, qge_59, qeq_59, qlt_60, qle_60, qgt_60, qge_60, qeq_60, qlt_61, qle_61, qgt_61, qge_61, qeq_61, qlt_62, qle_62, qgt_62, qge_62, qeq_62, qlt_64, qle_64, qgt_64, qge_64, qeq_64, qlt_91, qle_91, qgt_91, qge_91, qeq_91, qlt_93, qle_93, qgt_93, qge_93, qeq_93, qlt_97, qle_97, qgt_97, qge_97, qeq_97, qlt_122, qle_122, qgt_122, qge_122, qeq_122, qlt_400, qle_400, qgt_400, qge_400, qeq_400, qlt_999, qle_999, qgt_999, qge_999, qeq_999, qlt_0, qle_0, qgt_0, qge_0, qeq_0, qltm, qeqm, ↓reduceIte, Option.bind_some, not_true_eq_false, not_false_eq_true, and_true, true_and, and_false, false_and, or_false, false_or, or_true, true_or, Bool.false_eq_true, reduceCtorEq, n1]) jF 0 (0, -1) (Nat.zero_le _) (by show _ < 5000; omega) ⟨rfl, fun z => by omega⟩
          have r1' : f8_chairOf_L1 T S1 (100 + 8) (nI w) jF 0 (-1) 0 = some r := r1
          have t1' : f11_chairBy_L1 X1 (nI w) jF 0 (-1) 0 = some t := t1
          refine ⟨S1, X1, r, ?_, ?_, fin⟩
          · unfold f8_chairOf; rw [r1']; rfl
          · unfold f11_chairBy; rw [t1', t2, ← r2]; rfl
      · rw [if_neg c1]
        have : ¬ (-1 ≤ a0 ∧ a0 ≤ nI (N 0 2) - 1) := fun z => c1 (key.mpr z)
        exact ⟨S, X, -2, rfl, by simp only [this, ↓reduceIte, Option.bind_some, not_true_eq_false, not_false_eq_true, and_true, true_and, and_false, false_and, or_false, false_or, or_true, true_or, Bool.false_eq_true, reduceCtorEq], h⟩
