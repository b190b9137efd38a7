/-! swap, pace, bring -/
theorem setG_sam {N : mN} {a g p : Nat} (ha : 2 ≤ a) : samT N (setG N a g p) ∧ setG N a g p 0 5 = N 0 5 := by
  have e0 : ∀ i, setG N a g p 0 i = N 0 i := fun i => if_neg (by omega)
  have e1 : ∀ i, setG N a g p 1 i = N 1 i := fun i => if_neg (by omega)
  exact ⟨⟨e0 0, e0 1, e0 2, fun c _ => e1 c⟩, e0 5⟩
theorem setT_sam {N : mN} {t : Nat} : samT N (setT N t) ∧ setT N t 0 5 = N 0 5 := by
  have e0 : ∀ i, i ≠ 3 → setT N t 0 i = N 0 i := fun i hi => if_neg (by omega)
  have e1 : ∀ i, setT N t 1 i = N 1 i := fun i => if_neg (by omega)
  exact ⟨⟨e0 0 (by omega), e0 1 (by omega), e0 2 (by omega), fun c _ => e1 c⟩, e0 5 (by omega)⟩
theorem samT.cp {N M K : mN} (h : samT N M) (g : samT M K) : samT N K := ⟨g.1.trans h.1, g.2.1.trans h.2.1, g.2.2.1.trans h.2.2.1, fun c hc => (g.2.2.2 c (by rw [h.2.1]; exact hc)).trans (h.2.2.2 c hc)⟩
theorem k_swap {S : jS} {T : jT} {X : jS} (h : INV S T X) (a0 a1 : Int32) : ∃ c, f4_areTwoIn S (100 + 8) a0 a1 = some c ∧ (c = 0 → f11_swap X a0 a1 = some (X, -1)) ∧ (¬ c = 0 → ∃ g1 g2, g1 < 7 ∧ g2 < 7 ∧ a0 = nI g1 ∧ a1 = nI g2 ∧ ∀ S1 T1, Rem S T S1 T1 → ∃ X2, f11_swap X a0 a1 = some (X2, (wI (wI S1 110 g1 (S1.1 110 g2)) 110 g2 (S1.1 110 g1)).1 110 g1) ∧ INV (wI (wI S1 110 g1 (S1.1 110 g2)) 110 g2 (S1.1 110 g1)) T1 X2) := by
  obtain ⟨N, hN, hc, hr, h5⟩ := h.get
  have hG := hN.2.2.1
  rcases two_cs hN hc hr a0 a1 with ⟨g1, g2, b1, b2, b3, b4, b5, rfl, rfl, b6, b7, b8, b9⟩ | ⟨b1, b2⟩
  · refine ⟨1, b6, fun z => absurd z one_ne0, fun _ => ⟨g1, g2, by omega, by omega, rfl, rfl, fun S1 T1 hm => ?_⟩⟩
    obtain ⟨tn, tb, rc, R, B, Bi, im, gc, gr, go⟩ := id h
    obtain ⟨X1, y1, y2, y3, h1⟩ := INV.rem gc gr go hm
    have hc1 : HIs (hC S1 (100 + 8)) N := hc.mono (fun a i g1 g2 => y3 a i (by omega) (by omega) (by omega))
    have hr1 : HIs (hV X1.1) N := HV_mono hr (fun a i g1 g2 => y2 a i g1 g2)
    have s1 : S1.1 110 g1 = nI (N 2 g1) := hc1.2.2.2 2 g1 (by omega) (by omega) b1
    have s2 : S1.1 110 g2 = nI (N 2 g2) := hc1.2.2.2 2 g2 (by omega) (by omega) b2
    have x1 : X1.1 2 g1 = nI (N 2 g1) := HVg hr1 (by omega) (by omega) b1
    have x2 : X1.1 2 g2 = nI (N 2 g2) := HVg hr1 (by omega) (by omega) b2
    have p1 := (hN.2.2.2.2.2.2.2.2.2 g1 b1).1
    have p2 := (hN.2.2.2.2.2.2.2.2.2 g2 b2).1
    have u1 := HC_setG (a := 2) (g := g1) (p := N 2 g2) hc1 (by omega)
    have u2 := HC_setG (a := 2) (g := g2) (p := N 2 g1) u1 (by omega)
    have v1 := HV_setG (a := 2) (g := g1) (p := N 2 g2) hr1 (by omega) (by omega)
    have v2 := HV_setG (a := 2) (g := g2) (p := N 2 g1) v1 (by omega) (by omega)
    have o1 : NOk (setG N 2 g1 (N 2 g2)) := setP_ok hN p2
    have o2 : NOk (setG (setG N 2 g1 (N 2 g2)) 2 g2 (N 2 g1)) := setP_ok o1 (by rw [(setG_sam (N := N) (a := 2) (g := g1) (p := N 2 g2) (by omega)).1.1]; exact p1)
    have hg1 : (nI g1).toNatClampNeg = g1 := nI_clamp (by omega)
    have hg2 : (nI g2).toNatClampNeg = g2 := nI_clamp (by omega)
    have i1 : inb (nI g1) 7 = true := by rw [inb_n (by omega)]; simpa using (by omega : g1 < 7)
    have i2 : inb (nI g2) 7 = true := by rw [inb_n (by omega)]; simpa using (by omega : g2 < 7)
    have er : (wI (wI S1 110 g1 (nI (N 2 g2))) 110 g2 (nI (N 2 g1))).1 110 g1 = nI (N 2 g2) := by rw [wI_nj b5, wI_self]
    have ex : (wI (wI X1 2 g1 (nI (N 2 g2))) 2 g2 (nI (N 2 g1))).1 2 g1 = nI (N 2 g2) := by rw [wI_nj b5, wI_self]
    rw [s1, s2, er]
    refine ⟨wI (wI X1 2 g1 (nI (N 2 g2))) 2 g2 (nI (N 2 g1)), ?_, INV.now h1 (N' := setG (setG N 2 g1 (N 2 g2)) 2 g2 (N 2 g1)) (fun M m1 m2 m3 m4 => ⟨o2, ?_, ?_⟩) u2 v2 (fun a i k1 k2 k3 => by rw [wI_ne (by omega), wI_ne (by omega)]) (fun a i k1 k2 => by rw [wI_ne (by omega), wI_ne (by omega)]) (fun i k1 k2 => by rw [wI_ne (by omega), wI_ne (by omega)]) ?_⟩
    · unfold f11_swap
      rw [b7, b8]
      simp only [↓reduceIte, Option.bind_some, not_true_eq_false, not_false_eq_true, and_true, true_and, and_false, false_and, or_false, false_or, or_true, true_or, Bool.false_eq_true, reduceCtorEq, one_ne0, b9, y1, i1, i2, hg1, hg2, x1, x2, ex]
    · exact ((HIs.sam hN m1 hc1 m2).tr (setG_sam (by omega)).1).cp (setG_sam (by omega)).1
    · rw [(setG_sam (by omega)).2, (setG_sam (by omega)).2]; exact h5
    · rw [wI_ne (by omega), wI_ne (by omega)]; exact h1.rule.1
  · exact ⟨0, b1, fun _ => by unfold f11_swap; exact b2 _ _, fun z => absurd rfl z⟩
theorem k_pace {S : jS} {T : jT} {X : jS} (h : INV S T X) (a0 a1 : Int32) : (f4_hasGuest S (100 + 8) a0 = some 0 ∧ f11_pace X a0 a1 = some (X, -1)) ∨ (∃ g, g < 7 ∧ a0 = nI g ∧ f4_hasGuest S (100 + 8) a0 = some 1 ∧ ((a1 < 0 ∨ 6 ≤ a1 ∨ a1 = S.1 111 g) → f11_pace X a0 a1 = some (X, -1)) ∧ (¬ (a1 < 0 ∨ 6 ≤ a1 ∨ a1 = S.1 111 g) → ∀ S1 T1, Rem S T S1 T1 → ∃ X2, f11_pace X a0 a1 = some (X2, S1.1 111 g) ∧ INV (wI S1 111 g a1) T1 X2)) := by
  obtain ⟨N, hN, hc, hr, h5⟩ := h.get
  have hG := hN.2.2.1
  have m0 : (0 : Int32).toInt64 = 0 := by decide
  have m5 : (5 : Int32).toInt64 = 5 := by decide
  rcases arg_cs a0 (G := N 0 2) (by omega) with ⟨g, hg, rfl⟩ | hx
  · right
    have sg : S.1 111 g = nI (N 3 g) := hc.2.2.2 3 g (by omega) (by omega) hg
    have xg : X.1 3 g = nI (N 3 g) := HVg hr (by omega) (by omega) hg
    have hgc : (nI g).toNatClampNeg = g := nI_clamp (by omega)
    have ig : inb (nI g) 7 = true := by rw [inb_n (by omega)]; simpa using (by omega : g < 7)
    have hp : f11_pace X (nI g) a1 = (if 0 ≤ a1 ∧ a1 ≤ 5 then (if nI (N 3 g) = a1 then some (X, -1) else Option.bind (f11_keepsAct X) (fun r3 => some (wI r3.1 3 g a1, r3.1.1 3 g))) else some (X, -1)) := by
      unfold f11_pace
      rw [(r_isG hN hr).1 g hg, Option.bind_some, if_neg one_ne0, r_in a1 m0 m5, Option.bind_some, ig, if_pos rfl, hgc, xg]
      by_cases c : 0 ≤ a1 ∧ a1 ≤ 5
      · rw [if_pos c, if_pos c, if_neg one_ne0]
      · rw [if_neg c, if_neg c, if_pos rfl]
    refine ⟨g, by omega, rfl, (c_isG hN hc).1 g hg, fun z => ?_, fun z S1 T1 hm => ?_⟩
    · rw [hp]
      by_cases c : 0 ≤ a1 ∧ a1 ≤ 5
      · rw [if_pos c, if_pos]
        rw [sg] at z
        rcases z with z | z | z
        · grind
        · grind
        · exact z.symm
      · rw [if_neg c]
    · have c : 0 ≤ a1 ∧ a1 ≤ 5 := ⟨by grind, by grind⟩
      have n1 : ¬ nI (N 3 g) = a1 := fun e => z (Or.inr (Or.inr (by rw [sg, e])))
      obtain ⟨p, hp0, rfl⟩ := nI_of (x := a1) (by grind)
      have hp5 : p ≤ 5 := (qle_5 hp0).mp c.2
      obtain ⟨tn, tb, rc, R, B, Bi, im, gc, gr, go⟩ := id h
      obtain ⟨X1, y1, y2, y3, h1⟩ := INV.rem gc gr go hm
      have hc1 : HIs (hC S1 (100 + 8)) N := hc.mono (fun a i g1 g2 => y3 a i (by omega) (by omega) (by omega))
      have hr1 : HIs (hV X1.1) N := HV_mono hr (fun a i g1 g2 => y2 a i g1 g2)
      have s1 : S1.1 111 g = nI (N 3 g) := hc1.2.2.2 3 g (by omega) (by omega) hg
      have x1 : X1.1 3 g = nI (N 3 g) := HVg hr1 (by omega) (by omega) hg
      have u1 := HC_setG (a := 3) (g := g) (p := p) hc1 (by omega)
      have v1 := HV_setG (a := 3) (g := g) (p := p) hr1 (by omega) (by omega)
      have o1 : NOk (setG N 3 g p) := setG_ok hN (by omega) (fun z => by omega) (fun _ => hp5) (fun z => by omega) (fun z => by omega) (fun z => by omega)
      refine ⟨wI X1 3 g (nI p), ?_, INV.now h1 (N' := setG N 3 g p) (fun M m1 m2 m3 m4 => ⟨o1, (HIs.sam hN m1 hc1 m2).tr (setG_sam (by omega)).1, by rw [(setG_sam (by omega)).2]; exact h5⟩) u1 v1 (fun a i k1 k2 k3 => by rw [wI_ne (by omega)]) (fun a i k1 k2 => by rw [wI_ne (by omega)]) (fun i k1 k2 => by rw [wI_ne (by omega)]) (by rw [wI_ne (by omega)]; exact h1.rule.1)⟩
      rw [hp, if_pos c, if_neg n1, y1, Option.bind_some, x1, s1]
  · left
    refine ⟨(c_isG hN hc).2 a0 hx, ?_⟩
    unfold f11_pace
    rw [(r_isG hN hr).2 a0 hx]; rfl
theorem k_bring {S : jS} {T : jT} {X : jS} (h : INV S T X) (a0 : Int32) : (f4_hasChair S (100 + 8) a0 = some 0 ∧ f11_bring X a0 = some (X, -1)) ∨ (f4_hasChair S (100 + 8) a0 = some 1 ∧ ∃ c, f4_isThere S (100 + 8) a0 = some c ∧ (¬ c = 0 → f11_bring X a0 = some (X, -1)) ∧ (c = 0 → ∀ S1 T1, Rem S T S1 T1 → ∃ X2 v, f11_bring X a0 = some (X2, v) ∧ f13_bitCount (S1.1 (100 + 8) 3 ||| ((1 : Int32) <<< (a0 &&& 31))) = some v ∧ INV (wI S1 (100 + 8) 3 (S1.1 (100 + 8) 3 ||| ((1 : Int32) <<< (a0 &&& 31)))) T1 X2)) := by
  obtain ⟨N, hN, hc, hr, h5⟩ := h.get
  have hC' := hN.2.1
  have htt := hN.t
  rcases arg_cs a0 (G := N 0 1) (by omega) with ⟨g, hg, rfl⟩ | hx
  · right
    have x7 := HV3 hr
    have hh := r_has (x := N 0 3) (g := g) (by omega) (by omega)
    refine ⟨(c_isC hN hc).1 g hg, _, c_there hN hc hg, fun z => ?_, fun z S1 T1 hm => ?_⟩
    · unfold f11_bring
      rw [(r_isC hN hr).1 g hg, Option.bind_some, if_neg one_ne0, x7, hh, Option.bind_some, if_neg z]
    · obtain ⟨tn, tb, rc, R, B, Bi, im, gc, gr, go⟩ := id h
      obtain ⟨X1, y1, y2, y3, h1⟩ := INV.rem gc gr go hm
      have hc1 : HIs (hC S1 (100 + 8)) N := hc.mono (fun a i g1 g2 => y3 a i (by omega) (by omega) (by omega))
      have hr1 : HIs (hV X1.1) N := HV_mono hr (fun a i g1 g2 => y2 a i g1 g2)
      have s3 : S1.1 (100 + 8) 3 = nI (N 0 3) := hc1.1 3 (by omega) (by omega)
      have x3 : X1.1 1 7 = nI (N 0 3) := HV3 hr1
      obtain ⟨o1, o2⟩ := b_or0 (N 0 3) htt g (by omega)
      have ht : N 0 3 ||| 2 ^ g < 2 ^ N 0 1 := Nat.or_lt_two_pow hN.2.2.2.1 (Nat.pow_lt_pow_right (by omega) hg)
      have u1 := HC_setT (t := N 0 3 ||| 2 ^ g) hc1
      have v1 := HV_setT (t := N 0 3 ||| 2 ^ g) hr1
      have ok := setT_ok (t := N 0 3 ||| 2 ^ g) hN ht
      rw [s3, o1]
      refine ⟨wI X1 1 7 (nI (N 0 3 ||| 2 ^ g)), nI (pcn (N 0 3 ||| 2 ^ g)), ?_, bitc (by omega), INV.now h1 (N' := setT N (N 0 3 ||| 2 ^ g)) (fun M m1 m2 m3 m4 => ⟨ok, (HIs.sam hN m1 hc1 m2).tr setT_sam.1, by rw [setT_sam.2]; exact h5⟩) u1 v1 (fun a i k1 k2 k3 => by rw [wI_ne (by omega)]) (fun a i k1 k2 => by rw [wI_ne (by omega)]) (fun i k1 k2 => by rw [wI_nj (by omega)]) (by rw [wI_ne (by omega)]; exact h1.rule.1)⟩
      unfold f11_bring
      rw [(r_isC hN hr).1 g hg, Option.bind_some, if_neg one_ne0, x7, hh, Option.bind_some, if_pos z, y1, Option.bind_some]
      simp only [x3, o1, wI_self]
      rw [bits1 (by omega), Option.bind_some]
  · left
    refine ⟨(c_isC hN hc).2 a0 hx, ?_⟩
    unfold f11_bring
    rw [(r_isC hN hr).2 a0 hx]; rfl
