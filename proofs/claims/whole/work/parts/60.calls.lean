/-! calls, one by one: the simplest -/
theorem ite_is {α : Type} {c : Prop} [Decidable c] {A B : Option α} (hA : A.isSome = true) (hB : B.isSome = true) : (if c then A else B).isSome = true := by
  split
  · exact hA
  · exact hB
theorem is_two {α : Type} {x : Option α} (h : x.isSome = true) : ∃ v, x = some v ∧ x = some v := by
  obtain ⟨v, hv⟩ := Option.isSome_iff_exists.mp h
  exact ⟨v, hv, hv⟩
theorem arg_cs (x : Int32) {G : Nat} (hG : G < 2 ^ 31) : (∃ g, g < G ∧ x = nI g) ∨ (x < 0 ∨ nI G ≤ x) := by
  by_cases h : x < 0
  · exact Or.inr (Or.inl h)
  · obtain ⟨j, hj, rfl⟩ := nI_of h
    by_cases h2 : j < G
    · exact Or.inl ⟨j, h2, rfl⟩
    · exact Or.inr (Or.inr (nI_le (by omega) hj))
theorem toL_lt (x y : Int32) : x.toInt64 < y.toInt64 ↔ x < y := by
  rw [Int64.lt_iff_toInt_lt, Int32.lt_iff_toInt_lt, Int32.toInt_toInt64, Int32.toInt_toInt64]
theorem r_in (x : Int32) {l h : Int64} {l' h' : Int32} (hl : l'.toInt64 = l) (hh : h'.toInt64 = h) : f11_in x.toInt64 l h = some (if l' ≤ x ∧ x ≤ h' then 1 else 0) := by
  subst hl; subst hh
  unfold f11_in
  simp only [lg_lt, lg_gt, toL_lt]
  by_cases h1 : x < l'
  · rw [if_pos h1, if_neg (by grind)]
  · rw [if_neg h1]
    by_cases h2 : h' < x
    · rw [if_pos h2, if_neg (by grind)]
    · rw [if_neg h2, if_pos (by grind)]
theorem c_isG {S : jS} {o : Nat} {N : mN} (hN : NOk N) (h : HIs (hC S o) N) : (∀ g, g < N 0 2 → f4_hasGuest S o (nI g) = some 1) ∧ (∀ x, x < 0 ∨ nI (N 0 2) ≤ x → f4_hasGuest S o x = some 0) := by
  have e2 : S.1 o 2 = nI (N 0 2) := h.1 2 (by omega) (by omega)
  have hG := hN.2.2.1
  refine ⟨fun g hg => ?_, fun x hx => ?_⟩
  · have n1 : ¬ N 0 2 ≤ g := by omega
    unfold f4_hasGuest
    simp (disch := omega) only [e2, nI_ltI, nI_leI, nI_eq, nI_clamp, nI_1, nI_add, nI_mul, inb_n, irm_n, nI_div, nI_m6, nI_d6, irm_6, qlt_1, qle_1, qgt_1, qge_1, qeq_1, qlt_2, qle_2, qgt_2, qge_2, qeq_2, qlt_3, qle_3, qgt_3, qge_3, qeq_3, qlt_4, qle_4, qgt_4, qge_4, qeq_4, qlt_5, qle_5, qgt_5, qge_5, qeq_5, qlt_6, qle_6, qgt_6, qge_6, qeq_6, qlt_7, qle_7, qgt_7, qge_7, qeq_7, qlt_8, qle_8, qgt_8, qge_8, qeq_8, qlt_9, qle_9, qgt_9, qge_9, qeq_9, qlt_10, qle_10, qgt_10, qge_10, qeq_10, qlt_12, qle_12, qgt_12, qge_12, qeq_12, qlt_16, qle_16, qgt_16, qge_16, qeq_16, qlt_20, qle_20, qgt_20, qge_20, qeq_20, qlt_24, qle_24, qgt_24, qge_24, qeq_24, qlt_30, qle_30, qgt_30, qge_30, qeq_30, qlt_32, qle_32, qgt_32, qge_32, qeq_32, qlt_37, qle_37, qgt_37, qge_37, qeq_37, qlt_40, qle_40, qgt_40, qge_40, qeq_40, qlt_42, qle_42, qgt_42, qge_42, qeq_42, qlt_43, qle_43, qgt_43, qge_43, qeq_43, qlt_45, qle_45, qgt_45, qge_45, qeq_45, qlt_47, qle_47, qgt_47, qge_47, qeq_47, qlt_48, qle_48, qgt_48, qge_48, qeq_48, qlt_57, qle_57, qgt_57, qge_57, qeq_57, qlt_59, qle_59, qgt_59, qge_59, qeq_59, qlt_60, qle_60, qgt_60, qge_60, qeq_60, qlt_61, qle_61, qgt_61, qge_61, qeq_61, qlt_62, qle_62, qgt_62, qge_62, qeq_62, qlt_64, qle_64, qgt_64, qge_64, qeq_64, qlt_91, qle_91, qgt_91, qge_91, qeq_91, qlt_93, qle_93, qgt_93, qge_93, qeq_93, qlt_97, qle_97, qgt_97, qge_97, qeq_97, qlt_122, qle_122, qgt_122, qge_122, qeq_122, qlt_400, qle_400, qgt_400, qge_400, qeq_400, qlt_999, qle_999, qgt_999, qge_999, qeq_999, qlt_0, qle_0, qgt_0, qge_0, qeq_0, qltm, qeqm, ↓reduceIte, Option.bind_some, not_true_eq_false, not_false_eq_true, and_true, true_and, and_false, false_and, or_false, false_or, or_true, true_or, Bool.false_eq_true, reduceCtorEq, n1]
  · unfold f4_hasGuest
    rw [e2]
    rcases hx with hx | hx
    · rw [if_pos hx]
    · rw [if_pos hx]; split <;> rfl
theorem c_isC {S : jS} {o : Nat} {N : mN} (hN : NOk N) (h : HIs (hC S o) N) : (∀ g, g < N 0 1 → f4_hasChair S o (nI g) = some 1) ∧ (∀ x, x < 0 ∨ nI (N 0 1) ≤ x → f4_hasChair S o x = some 0) := by
  have e2 : S.1 o 1 = nI (N 0 1) := h.1 1 (by omega) (by omega)
  have hG := hN.2.1
  refine ⟨fun g hg => ?_, fun x hx => ?_⟩
  · have n1 : ¬ N 0 1 ≤ g := by omega
    unfold f4_hasChair
    simp (disch := omega) only [e2, nI_ltI, nI_leI, nI_eq, nI_clamp, nI_1, nI_add, nI_mul, inb_n, irm_n, nI_div, nI_m6, nI_d6, irm_6, qlt_1, qle_1, qgt_1, qge_1, qeq_1, qlt_2, qle_2, qgt_2, qge_2, qeq_2, qlt_3, qle_3, qgt_3, qge_3, qeq_3, qlt_4, qle_4, qgt_4, qge_4, qeq_4, qlt_5, qle_5, qgt_5, qge_5, qeq_5, qlt_6, qle_6, qgt_6, qge_6, qeq_6, qlt_7, qle_7, qgt_7, qge_7, qeq_7, qlt_8, qle_8, qgt_8, qge_8, qeq_8, qlt_9, qle_9, qgt_9, qge_9, qeq_9, qlt_10, qle_10, qgt_10, qge_10, qeq_10, qlt_12, qle_12, qgt_12, qge_12, qeq_12, qlt_16, qle_16, qgt_16, qge_16, qeq_16, qlt_20, qle_20, qgt_20, qge_20, qeq_20, qlt_24, qle_24, qgt_24, qge_24, qeq_24, qlt_30, qle_30, qgt_30, qge_30, qeq_30, qlt_32, qle_32, qgt_32, qge_32, qeq_32, qlt_37, qle_37, qgt_37, qge_37, qeq_37, qlt_40, qle_40, qgt_40, qge_40, qeq_40, qlt_42, qle_42, qgt_42, qge_42, qeq_42, qlt_43, qle_43, qgt_43, qge_43, qeq_43, qlt_45, qle_45, qgt_45, qge_45, qeq_45, qlt_47, qle_47, qgt_47, qge_47, qeq_47, qlt_48, qle_48, qgt_48, qge_48, qeq_48, qlt_57, qle_57, qgt_57, qge_57, qeq_57, qlt_59, qle_59, qgt_59, qge_59, qeq_59, qlt_60, qle_60, qgt_60, qge_60, qeq_60, qlt_61, qle_61, qgt_61, qge_61, qeq_61, qlt_62, qle_62, qgt_62, qge_62, qeq_62, qlt_64, qle_64, qgt_64, qge_64, qeq_64, qlt_91, qle_91, qgt_91, qge_91, qeq_91, qlt_93, qle_93, qgt_93, qge_93, qeq_93, qlt_97, qle_97, qgt_97, qge_97, qeq_97, qlt_122, qle_122, qgt_122, qge_122, qeq_122, qlt_400, qle_400, qgt_400, qge_400, qeq_400, qlt_999, qle_999, qgt_999, qge_999, qeq_999, qlt_0, qle_0, qgt_0, qge_0, qeq_0, qltm, qeqm, ↓reduceIte, Option.bind_some, not_true_eq_false, not_false_eq_true, and_true, true_and, and_false, false_and, or_false, false_or, or_true, true_or, Bool.false_eq_true, reduceCtorEq, n1]
  · unfold f4_hasChair
    rw [e2]
    rcases hx with hx | hx
    · rw [if_pos hx]
    · rw [if_pos hx]; split <;> rfl
theorem r_isX {x : Int32} {G : Nat} (hG : G < 2 ^ 31) : (∀ g, g < G → f11_in (nI g).toInt64 0 ((nI G - 1).toInt64) = some 1) ∧ (x < 0 ∨ nI G ≤ x → f11_in x.toInt64 0 ((nI G - 1).toInt64) = some 0) := by
  have hm : (0 : Int32).toInt64 = 0 := by decide
  refine ⟨fun g hg => ?_, fun hx => ?_⟩
  · rw [r_in _ hm rfl, if_pos]
    refine ⟨nI_pos' (by omega), ?_⟩
    obtain ⟨m, rfl⟩ : ∃ m, G = m + 1 := ⟨G - 1, by omega⟩
    rw [nI_pred]; exact nI_le (by omega) (by omega)
  · rw [r_in _ hm rfl, if_neg]
    rintro ⟨h1, h2⟩
    rcases hx with hx | hx
    · grind
    · cases G with
      | zero =>
        rw [nI_0m] at h2; grind
      | succ m =>
        rw [nI_pred] at h2
        have := nI_lt (a := m) (b := m + 1) (by omega) hG
        grind
theorem r_isG {S : jS} {N : mN} (hN : NOk N) (h : HIs (hV S.1) N) : (∀ g, g < N 0 2 → f11_isGuest S (nI g) = some 1) ∧ (∀ x, x < 0 ∨ nI (N 0 2) ≤ x → f11_isGuest S x = some 0) := by
  have hG := hN.2.2.1
  unfold f11_isGuest
  rw [HV2 h]
  refine ⟨fun g hg => ?_, fun x hx => ?_⟩
  · rw [(r_isX (x := 0) (by omega)).1 g hg]; rfl
  · rw [(r_isX (by omega)).2 hx]; rfl
theorem r_isC {S : jS} {N : mN} (hN : NOk N) (h : HIs (hV S.1) N) : (∀ g, g < N 0 1 → f11_isChair S (nI g) = some 1) ∧ (∀ x, x < 0 ∨ nI (N 0 1) ≤ x → f11_isChair S x = some 0) := by
  have hG := hN.2.1
  unfold f11_isChair
  rw [HV1 h]
  refine ⟨fun g hg => ?_, fun x hx => ?_⟩
  · rw [(r_isX (x := 0) (by omega)).1 g hg]; rfl
  · rw [(r_isX (by omega)).2 hx]; rfl
theorem RBk.h {X : jS} {B : mB} (h : RBk (VC X) B) : HIs (hV X.1) (bNow B) := HV_mono h.1 (fun a i h1 h2 => (if_neg (by omega : ¬ a = 43)).symm)
theorem INV.get {S : jS} {T : jT} {X : jS} (h : INV S T X) : ∃ (N : mN), NOk N ∧ HIs (hC S (100 + 8)) N ∧ HIs (hV X.1) N ∧ N 0 5 ≤ 999 := by
  obtain ⟨tn, tb, rc, R, B, Bi, im, ⟨ct, cr, cb, ci⟩, ⟨rt, rr, rb, ri, r40, r28⟩, ⟨ot, or, ob, oi⟩⟩ := h
  exact ⟨bNow B, ob.1, cb.1, rb.h, ob.2.1⟩
theorem k_chair {S : jS} {T : jT} {X : jS} (h : INV S T X) (a0 a1 : Int32) : ∃ v, f10_chair S a0 a1 = some v ∧ f11_chair X a0 a1 = some v := by
  obtain ⟨N, hN, hc, hr, -⟩ := h.get
  have hC := hN.2.1
  have ht := hN.t
  rcases arg_cs a0 (G := N 0 1) (by omega) with ⟨c, h1, rfl⟩ | h1
  · have e1 : S.1 (100 + 8 + 1) c = nI (N 1 c) := hc.2.2.1 c h1
    have e3 : S.1 (100 + 8) 3 = nI (N 0 3) := hc.1 3 (by omega) (by omega)
    have f1 := HVc hr h1
    have f3 := HV3 hr
    have n6 : c < 6 := by omega
    have hm0 : (0 : Int32).toInt64 = 0 := by decide
    have hm1 : (1 : Int32).toInt64 = 1 := by decide
    unfold f10_chair f11_chair
    rw [(c_isC hN hc).1 c h1, (r_isC hN hr).1 c h1]
    simp (disch := omega) only [↓reduceIte, Option.bind_some, not_true_eq_false, not_false_eq_true, and_true, true_and, and_false, false_and, or_false, false_or, or_true, true_or, Bool.false_eq_true, reduceCtorEq, one_ne0, r_in a1 hm0 hm1, e1, e3, f1, f3, nI_ltI, nI_leI, nI_eq, nI_clamp, nI_1, nI_add, nI_mul, inb_n, irm_n, nI_div, nI_m6, nI_d6, irm_6, qlt_1, qle_1, qgt_1, qge_1, qeq_1, qlt_2, qle_2, qgt_2, qge_2, qeq_2, qlt_3, qle_3, qgt_3, qge_3, qeq_3, qlt_4, qle_4, qgt_4, qge_4, qeq_4, qlt_5, qle_5, qgt_5, qge_5, qeq_5, qlt_6, qle_6, qgt_6, qge_6, qeq_6, qlt_7, qle_7, qgt_7, qge_7, qeq_7, qlt_8, qle_8, qgt_8, qge_8, qeq_8, qlt_9, qle_9, qgt_9, qge_9, qeq_9, qlt_10, qle_10, qgt_10, qge_10, qeq_10, qlt_12, qle_12, qgt_12, qge_12, qeq_12, qlt_16, qle_16, qgt_16, qge_16, qeq_16, qlt_20, qle_20, qgt_20, qge_20, qeq_20, qlt_24, qle_24, qgt_24, qge_24, qeq_24, qlt_30, qle_30, qgt_30, qge_30, qeq_30, qlt_32, qle_32, qgt_32, qge_32, qeq_32, qlt_37, qle_37, qgt_37, qge_37, qeq_37, qlt_40, qle_40, qgt_40, qge_40, qeq_40, qlt_42, qle_42, qgt_42, qge_42, qeq_42, qlt_43, qle_43, qgt_43, qge_43, qeq_43, qlt_45, qle_45, qgt_45, qge_45, qeq_45, qlt_47, qle_47, qgt_47, qge_47, qeq_47, qlt_48, qle_48, qgt_48, qge_48, qeq_48, qlt_57, qle_57, qgt_57, qge_57, qeq_57, qlt_59, qle_59, qgt_59, qge_59, qeq_59, qlt_60, qle_60, qgt_60, qge_60, qeq_60, qlt_61, qle_61, qgt_61, qge_61, qeq_61, qlt_62, qle_62, qgt_62, qge_62, qeq_62, qlt_64, qle_64, qgt_64, qge_64, qeq_64, qlt_91, qle_91, qgt_91, qge_91, qeq_91, qlt_93, qle_93, qgt_93, qge_93, qeq_93, qlt_97, qle_97, qgt_97, qge_97, qeq_97, qlt_122, qle_122, qgt_122, qge_122, qeq_122, qlt_400, qle_400, qgt_400, qge_400, qeq_400, qlt_999, qle_999, qgt_999, qge_999, qeq_999, qlt_0, qle_0, qgt_0, qge_0, qeq_0, qltm, qeqm, n6]
    by_cases z0 : a1 = 0
    · subst z0
      have : (0 : Int32) ≤ 0 ∧ (0 : Int32) ≤ 1 := by decide
      simp only [this, ↓reduceIte, Option.bind_some, not_true_eq_false, not_false_eq_true, and_true, true_and, and_false, false_and, or_false, false_or, or_true, true_or, Bool.false_eq_true, reduceCtorEq, one_ne0, and_self]
      exact ⟨_, rfl⟩
    · by_cases z1 : a1 = 1
      · subst z1
        have : (0 : Int32) ≤ 1 ∧ (1 : Int32) ≤ 1 := by decide
        simp only [this, ↓reduceIte, Option.bind_some, not_true_eq_false, not_false_eq_true, and_true, true_and, and_false, false_and, or_false, false_or, or_true, true_or, Bool.false_eq_true, reduceCtorEq, one_ne0, and_self]
        exact ⟨_, rfl⟩
      · have : ¬ (0 ≤ a1 ∧ a1 ≤ 1) := by grind
        simp only [this, z0, z1, ↓reduceIte, Option.bind_some, not_true_eq_false, not_false_eq_true, and_true, true_and, and_false, false_and, or_false, false_or, or_true, true_or, Bool.false_eq_true, reduceCtorEq]
        exact ⟨_, rfl, rfl⟩
  · refine ⟨-1, ?_, ?_⟩
    · unfold f10_chair; rw [(c_isC hN hc).2 a0 h1]; rfl
    · unfold f11_chair; rw [(r_isC hN hr).2 a0 h1]; rfl
theorem k_guest {S : jS} {T : jT} {X : jS} (h : INV S T X) (a0 a1 : Int32) : ∃ v, f10_guest S a0 a1 = some v ∧ f11_guest X a0 a1 = some v := by
  obtain ⟨N, hN, hc, hr, -⟩ := h.get
  have hG := hN.2.2.1
  rcases arg_cs a0 (G := N 0 2) (by omega) with ⟨g, h1, rfl⟩ | h1
  · have e4 : S.1 (100 + 8) 4 = nI (N 0 4) := hc.1 4 (by omega) (by omega)
    have f4 := HV4 hr
    have eg : ∀ a, 2 ≤ a → a ≤ 6 → S.1 (100 + 8 + a) g = nI (N a g) := fun a u v => hc.2.2.2 a g u v h1
    have fg : ∀ a, 2 ≤ a → a ≤ 6 → X.1 a g = nI (N a g) := fun a u v => HVg hr u v h1
    have n7 : g < 7 := by omega
    unfold f10_guest f11_guest
    rw [(c_isG hN hc).1 g h1, (r_isG hN hr).1 g h1]
    simp (disch := omega) only [↓reduceIte, Option.bind_some, not_true_eq_false, not_false_eq_true, and_true, true_and, and_false, false_and, or_false, false_or, or_true, true_or, Bool.false_eq_true, reduceCtorEq, one_ne0, eg, e4, fg, f4, nI_ltI, nI_leI, nI_eq, nI_clamp, nI_1, nI_add, nI_mul, inb_n, irm_n, nI_div, nI_m6, nI_d6, irm_6, qlt_1, qle_1, qgt_1, qge_1, qeq_1, qlt_2, qle_2, qgt_2, qge_2, qeq_2, qlt_3, qle_3, qgt_3, qge_3, qeq_3, qlt_4, qle_4, qgt_4, qge_4, qeq_4, qlt_5, qle_5, qgt_5, qge_5, qeq_5, qlt_6, qle_6, qgt_6, qge_6, qeq_6, qlt_7, qle_7, qgt_7, qge_7, qeq_7, qlt_8, qle_8, qgt_8, qge_8, qeq_8, qlt_9, qle_9, qgt_9, qge_9, qeq_9, qlt_10, qle_10, qgt_10, qge_10, qeq_10, qlt_12, qle_12, qgt_12, qge_12, qeq_12, qlt_16, qle_16, qgt_16, qge_16, qeq_16, qlt_20, qle_20, qgt_20, qge_20, qeq_20, qlt_24, qle_24, qgt_24, qge_24, qeq_24, qlt_30, qle_30, qgt_30, qge_30, qeq_30, qlt_32, qle_32, qgt_32, qge_32, qeq_32, qlt_37, qle_37, qgt_37, qge_37, qeq_37, qlt_40, qle_40, qgt_40, qge_40, qeq_40, qlt_42, qle_42, qgt_42, qge_42, qeq_42, qlt_43, qle_43, qgt_43, qge_43, qeq_43, qlt_45, qle_45, qgt_45, qge_45, qeq_45, qlt_47, qle_47, qgt_47, qge_47, qeq_47, qlt_48, qle_48, qgt_48, qge_48, qeq_48, qlt_57, qle_57, qgt_57, qge_57, qeq_57, qlt_59, qle_59, qgt_59, qge_59, qeq_59, qlt_60, qle_60, qgt_60, qge_60, qeq_60, qlt_61, qle_61, qgt_61, qge_61, qeq_61, qlt_62, qle_62, qgt_62, qge_62, qeq_62, qlt_64, qle_64, qgt_64, qge_64, qeq_64, qlt_91, qle_91, qgt_91, qge_91, qeq_91, qlt_93, qle_93, qgt_93, qge_93, qeq_93, qlt_97, qle_97, qgt_97, qge_97, qeq_97, qlt_122, qle_122, qgt_122, qge_122, qeq_122, qlt_400, qle_400, qgt_400, qge_400, qeq_400, qlt_999, qle_999, qgt_999, qge_999, qeq_999, qlt_0, qle_0, qgt_0, qge_0, qeq_0, qltm, qeqm, n7]
    apply is_two
    repeat' (first | rfl | apply ite_is)
  · refine ⟨-1, ?_, ?_⟩
    · unfold f10_guest; rw [(c_isG hN hc).2 a0 h1]; rfl
    · unfold f11_guest; rw [(r_isG hN hr).2 a0 h1]; rfl
theorem k_time {S : jS} {T : jT} {X : jS} (h : INV S T X) (a0 a1 : Int32) : ∃ v, f10_time S a0 a1 = some v ∧ f11_time X a0 a1 = some v := by
  obtain ⟨N, hN, hc, hr, -⟩ := h.get
  have hG := hN.2.2.1
  have hC := hN.2.1
  rcases arg_cs a0 (G := N 0 2) (by omega) with ⟨g, h1, rfl⟩ | h1
  · rcases arg_cs a1 (G := N 0 1) (by omega) with ⟨c, h2, rfl⟩ | h2
    · refine ⟨nI (tmN N g c), ?_, ?_⟩
      · unfold f10_time; rw [(c_isG hN hc).1 g h1, (c_isC hN hc).1 c h2, c_time hN hc h1 h2]; rfl
      · unfold f11_time; rw [(r_isG hN hr).1 g h1, (r_isC hN hr).1 c h2, r_time hN hr h1 h2]; rfl
    · refine ⟨-1, ?_, ?_⟩
      · unfold f10_time; rw [(c_isG hN hc).1 g h1, (c_isC hN hc).2 a1 h2]; rfl
      · unfold f11_time; rw [(r_isG hN hr).1 g h1, (r_isC hN hr).2 a1 h2]; rfl
  · refine ⟨-1, ?_, ?_⟩
    · unfold f10_time; rw [(c_isG hN hc).2 a0 h1]; rfl
    · unfold f11_time; rw [(r_isG hN hr).2 a0 h1]; rfl
theorem c_told {S : jS} {o : Nat} {N : mN} (hN : NOk N) (h : HIs (hC S o) N) : f4_isTold S o = some (if N 0 0 = 0 then 0 else 1) := by
  have e0 : S.1 o 0 = nI (N 0 0) := h.1 0 (by omega) (by omega)
  have hP := hN.1
  unfold f4_isTold
  simp (disch := omega) only [e0, nI_ltI, nI_leI, nI_eq, nI_clamp, nI_1, nI_add, nI_mul, inb_n, irm_n, nI_div, nI_m6, nI_d6, irm_6, qlt_1, qle_1, qgt_1, qge_1, qeq_1, qlt_2, qle_2, qgt_2, qge_2, qeq_2, qlt_3, qle_3, qgt_3, qge_3, qeq_3, qlt_4, qle_4, qgt_4, qge_4, qeq_4, qlt_5, qle_5, qgt_5, qge_5, qeq_5, qlt_6, qle_6, qgt_6, qge_6, qeq_6, qlt_7, qle_7, qgt_7, qge_7, qeq_7, qlt_8, qle_8, qgt_8, qge_8, qeq_8, qlt_9, qle_9, qgt_9, qge_9, qeq_9, qlt_10, qle_10, qgt_10, qge_10, qeq_10, qlt_12, qle_12, qgt_12, qge_12, qeq_12, qlt_16, qle_16, qgt_16, qge_16, qeq_16, qlt_20, qle_20, qgt_20, qge_20, qeq_20, qlt_24, qle_24, qgt_24, qge_24, qeq_24, qlt_30, qle_30, qgt_30, qge_30, qeq_30, qlt_32, qle_32, qgt_32, qge_32, qeq_32, qlt_37, qle_37, qgt_37, qge_37, qeq_37, qlt_40, qle_40, qgt_40, qge_40, qeq_40, qlt_42, qle_42, qgt_42, qge_42, qeq_42, qlt_43, qle_43, qgt_43, qge_43, qeq_43, qlt_45, qle_45, qgt_45, qge_45, qeq_45, qlt_47, qle_47, qgt_47, qge_47, qeq_47, qlt_48, qle_48, qgt_48, qge_48, qeq_48, qlt_57, qle_57, qgt_57, qge_57, qeq_57, qlt_59, qle_59, qgt_59, qge_59, qeq_59, qlt_60, qle_60, qgt_60, qge_60, qeq_60, qlt_61, qle_61, qgt_61, qge_61, qeq_61, qlt_62, qle_62, qgt_62, qge_62, qeq_62, qlt_64, qle_64, qgt_64, qge_64, qeq_64, qlt_91, qle_91, qgt_91, qge_91, qeq_91, qlt_93, qle_93, qgt_93, qge_93, qeq_93, qlt_97, qle_97, qgt_97, qge_97, qeq_97, qlt_122, qle_122, qgt_122, qge_122, qeq_122, qlt_400, qle_400, qgt_400, qge_400, qeq_400, qlt_999, qle_999, qgt_999, qge_999, qeq_999, qlt_0, qle_0, qgt_0, qge_0, qeq_0, qltm, qeqm]
  split <;> rfl
theorem r_told {S : jS} {N : mN} (hN : NOk N) (h : HIs (hV S.1) N) : f11_isParty S = some (if N 0 0 = 0 then 0 else 1) := by
  have e0 := HV0 h
  have hP := hN.1
  unfold f11_isParty
  simp (disch := omega) only [e0, nI_ltI, nI_leI, nI_eq, nI_clamp, nI_1, nI_add, nI_mul, inb_n, irm_n, nI_div, nI_m6, nI_d6, irm_6, qlt_1, qle_1, qgt_1, qge_1, qeq_1, qlt_2, qle_2, qgt_2, qge_2, qeq_2, qlt_3, qle_3, qgt_3, qge_3, qeq_3, qlt_4, qle_4, qgt_4, qge_4, qeq_4, qlt_5, qle_5, qgt_5, qge_5, qeq_5, qlt_6, qle_6, qgt_6, qge_6, qeq_6, qlt_7, qle_7, qgt_7, qge_7, qeq_7, qlt_8, qle_8, qgt_8, qge_8, qeq_8, qlt_9, qle_9, qgt_9, qge_9, qeq_9, qlt_10, qle_10, qgt_10, qge_10, qeq_10, qlt_12, qle_12, qgt_12, qge_12, qeq_12, qlt_16, qle_16, qgt_16, qge_16, qeq_16, qlt_20, qle_20, qgt_20, qge_20, qeq_20, qlt_24, qle_24, qgt_24, qge_24, qeq_24, qlt_30, qle_30, qgt_30, qge_30, qeq_30, qlt_32, qle_32, qgt_32, qge_32, qeq_32, qlt_37, qle_37, qgt_37, qge_37, qeq_37, qlt_40, qle_40, qgt_40, qge_40, qeq_40, qlt_42, qle_42, qgt_42, qge_42, qeq_42, qlt_43, qle_43, qgt_43, qge_43, qeq_43, qlt_45, qle_45, qgt_45, qge_45, qeq_45, qlt_47, qle_47, qgt_47, qge_47, qeq_47, qlt_48, qle_48, qgt_48, qge_48, qeq_48, qlt_57, qle_57, qgt_57, qge_57, qeq_57, qlt_59, qle_59, qgt_59, qge_59, qeq_59, qlt_60, qle_60, qgt_60, qge_60, qeq_60, qlt_61, qle_61, qgt_61, qge_61, qeq_61, qlt_62, qle_62, qgt_62, qge_62, qeq_62, qlt_64, qle_64, qgt_64, qge_64, qeq_64, qlt_91, qle_91, qgt_91, qge_91, qeq_91, qlt_93, qle_93, qgt_93, qge_93, qeq_93, qlt_97, qle_97, qgt_97, qge_97, qeq_97, qlt_122, qle_122, qgt_122, qge_122, qeq_122, qlt_400, qle_400, qgt_400, qge_400, qeq_400, qlt_999, qle_999, qgt_999, qge_999, qeq_999, qlt_0, qle_0, qgt_0, qge_0, qeq_0, qltm, qeqm]
  split <;> rfl
theorem k_count {S : jS} {T : jT} {X : jS} (h : INV S T X) (a0 : Int32) : ∃ v, f10_count S a0 = some v ∧ f11_count X a0 = some v := by
  obtain ⟨N, hN, hc, hr, -⟩ := h.get
  obtain ⟨tn, tb, rc, R, B, Bi, im, ⟨ct, cr, cb, ci⟩, ⟨rt, rr, rb, ri, r40, r28⟩, ⟨ot, or, ob, oi⟩⟩ := h
  obtain ⟨b1, b2, b3, b4, ⟨b5, b5'⟩, b6, b7⟩ := cb
  obtain ⟨c1, c2, c3, c4, ⟨c5, c5'⟩, c6, c7⟩ := rb
  have e0 : S.1 (100 + 8) 0 = X.1 1 0 := (hc.1 0 (by omega) (by omega)).trans (HV0 hr).symm
  have e1 : S.1 (100 + 8) 1 = X.1 1 1 := (hc.1 1 (by omega) (by omega)).trans (HV1 hr).symm
  have e2 : S.1 (100 + 8) 2 = X.1 1 2 := (hc.1 2 (by omega) (by omega)).trans (HV2 hr).symm
  have e3 : S.1 0 4 = X.1 0 23 := cr.1.trans rr.1.symm
  have e4 : S.1 100 9 = X.1 1 10 := b6.trans c6.symm
  have e5 : S.1 (100 + 8) 5 = X.1 1 3 := (hc.1 5 (by omega) (by omega)).trans (HV5 hr).symm
  have e6 : S.1 (100 + 8) 4 = X.1 1 6 := (hc.1 4 (by omega) (by omega)).trans (HV4 hr).symm
  have e7 : S.1 (100 + 8) 3 = X.1 1 7 := (hc.1 3 (by omega) (by omega)).trans (HV3 hr).symm
  have e9 : S.1 (100 + 8) 6 = X.1 1 5 := hc.2.1.trans (HV6 hr).symm
  have e10 : S.1 (100 + 8) 7 = X.1 1 4 := (hc.1 7 (by omega) (by omega)).trans (HV7 hr).symm
  have e11 : S.1 100 8 = X.1 1 8 := b5.trans c5.symm
  have e12 : S.1 100 4 = X.1 0 44 := b3.trans c3.symm
  have e13 : S.1 100 10 = X.1 1 9 := b7.trans c7.symm
  have e14 : S.1 1 1 = X.1 0 19 := ct.1.trans rt.1.symm
  have e8 : f4_isOver S (100 + 8) = f11_isDone X := by
    by_cases z : overN N
    · rw [(c_over hN hc).1 z, (r_done hN hr).1 z]
    · rw [(c_over hN hc).2 z, (r_done hN hr).2 z]
  have e8s : ∃ w, f11_isDone X = some w := by
    by_cases z : overN N
    · exact ⟨_, (r_done hN hr).1 z⟩
    · exact ⟨_, (r_done hN hr).2 z⟩
  obtain ⟨w, hw⟩ := e8s
  have key : f10_count S a0 = f11_count X a0 := by
    unfold f10_count f11_count
    rw [e0, e1, e2, e3, e4, e5, e6, e7, e8, e9, e10, e11, e12, e13, e14, c_told hN hc, r_told hN hr]
  have ks : (f11_count X a0).isSome = true := by
    unfold f11_count
    rw [r_told hN hr, hw]
    simp only [Option.bind_some]
    repeat' (first | rfl | apply ite_is)
  obtain ⟨v, hv⟩ := Option.isSome_iff_exists.mp ks
  exact ⟨v, key.trans hv, hv⟩
