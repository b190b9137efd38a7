/-! image, back -/
/-- what Book.copyFrom (after new Book, where it is wanting) does on the class's side: the book at d is then as the book at s -/
def BCp (S : jS) (T : jT) (S1 : jS) (T1 : jT) (s d : Nat) : Prop := (∀ B rc, BOk B rc → CBk S T s B → CBk S1 T1 d B) ∧ (∀ a i, ¬ (d ≤ a ∧ a < d + 159) → S1.1 a i = S.1 a i) ∧ (∀ a i, ¬ (d ≤ a ∧ a < d + 159) → ¬ (a = 16) → T1.1 a i = T.1 a i) ∧ (∀ a, ¬ (d ≤ a ∧ a < d + 159) → T1.2.2.1 a = T.2.2.1 a)
theorem in4 {a0 : Int32} (h : ¬ (a0 < 0 ∨ 4 ≤ a0)) : ∃ k, k < 4 ∧ a0 = nI k ∧ 0 ≤ a0 ∧ a0 ≤ 3 := by
  have h1 : ¬ a0 < 0 := fun e => h (Or.inl e)
  have h2 : ¬ 4 ≤ a0 := fun e => h (Or.inr e)
  obtain ⟨k, hk, rfl⟩ := nI_of (x := a0) h1
  refine ⟨k, ?_, rfl, by grind, by grind⟩
  rw [qge_4 hk] at h2
  omega
theorem k_image {S : jS} {T : jT} {X : jS} (h : INV S T X) (a0 : Int32) : ((a0 < 0 ∨ 4 ≤ a0) → f11_image X a0 = some (X, -1)) ∧ (¬ (a0 < 0 ∨ 4 ≤ a0) → ∃ k, k < 4 ∧ a0 = nI k ∧ (T.1 16 k = none ∨ T.1 16 k = some (300 + 200 * k)) ∧ ∀ S1 T1, BCp S T S1 T1 100 (300 + 200 * k) → T1.1 16 k = some (300 + 200 * k) → (∀ i, i ≠ k → T1.1 16 i = T.1 16 i) → ∃ X1, f11_image X a0 = some (X1, S1.1 (100 + 8) 5) ∧ INV S1 T1 X1) := by
  have m0 : (0 : Int32).toInt64 = 0 := by decide
  have m3 : (3 : Int32).toInt64 = 3 := by decide
  refine ⟨fun z => ?_, fun z => ?_⟩
  · unfold f11_image
    have c : ¬ (0 ≤ a0 ∧ a0 ≤ 3) := by rintro ⟨c1, c2⟩; rcases z with z | z <;> grind
    rw [r_in a0 m0 m3, if_neg c]; rfl
  · obtain ⟨k, hk, rfl, c1, c2⟩ := in4 z
    obtain ⟨tn, tb, rc, R, B, Bi, im, ⟨ct, cr, cb, ci⟩, ⟨rt, rr, rb, ri, r40, r28⟩, ⟨ot, or, ob, oi⟩⟩ := id h
    refine ⟨k, hk, rfl, ?_, fun S1 T1 hb t1 t2 => ?_⟩
    · cases e : im k with
      | true => exact Or.inr ((ci k hk).1 e).1
      | false => exact Or.inl ((ci k hk).2 e)
    · obtain ⟨q1, q2, q3, q4⟩ := hb
      obtain ⟨X1, x1, x2, x3⟩ := r_img (X := wI X 54 k 1) hk
      have hkc : (nI k).toNatClampNeg = k := nI_clamp (by omega)
      have ik : inb (nI k) 4 = true := by rw [inb_n (by omega)]; simpa using hk
      have en : vp_nar .boolean 1 = (1 : Int32) := by decide
      have e : ∀ (Z : jS) a i, a ≠ 43 → VC Z a i = Z.1 a i := fun Z a i h => if_neg h
      have xf : ∀ b i, ¬ (b = 43 ∧ i = 0) → ¬ (b = 54 ∧ i = k) → ¬ (b = 53 ∧ 950 * k ≤ i ∧ i < 950 * k + 950) → ¬ (b = 0 ∧ (i = 55 ∨ i = 56)) → X1.1 b i = X.1 b i := fun b i g1 g2 g3 g4 => by rw [x3 b i g1 g3 g4, wI_g, if_neg g2]
      have nv : X1.1 1 3 = S1.1 (100 + 8) 5 := by
        rw [xf _ _ (by omega) (by omega) (by omega) (by omega), q2 _ _ (by omega)]
        exact (HV5 rb.h).trans (cb.1.1 5 (by omega) (by omega)).symm
      have vi : ∀ a i, vIm a i → VI X1 k a i = VC X a i := fun a i hv => by
        refine (x2 a i hv).trans ?_
        unfold VC
        unfold vIm at hv
        split
        · exact wI_ne (by omega)
        · exact wI_ne (by omega)
      refine ⟨X1, ?_, tn, tb, rc, R, B, (fun j => if j = k then B else Bi j), (fun j => if j = k then true else im j), ⟨⟨?_, fun i hi => ?_⟩, ⟨?_, fun r hr => ?_, fun r hr => (q3 _ _ (by omega) (by omega)).trans (cr.2.2 r hr)⟩, ?_, fun j hj => ?_⟩, ⟨⟨?_, fun i hi => ?_⟩, ⟨?_, fun r hr => ⟨?_, rre_ext2 (fun a i g1 g2 => xf a i (by omega) (by omega) (by omega) (by omega)) (rr.2 r hr).2⟩⟩, ?_, fun j hj => ?_, ?_, ?_⟩, ot, or, ob, fun j hj => ?_⟩
      · unfold f11_image
        rw [r_in (nI k) m0 m3, if_pos ⟨c1, c2⟩, Option.bind_some, if_neg one_ne0, ik, if_pos rfl, hkc, en, x1, Option.bind_some, nv]
      · rw [q2 _ _ (by omega)]; exact ct.1
      · rw [q2 _ _ (by omega)]; exact ct.2 i hi
      · rw [q2 _ _ (by omega)]; exact cr.1
      · have e1 : S1.1 (1200 + 10 * r + 1) = S.1 (1200 + 10 * r + 1) := funext (fun i => q2 _ _ (by omega))
        rw [e1, q4 _ (by omega), q3 _ _ (by omega) (by omega)]; exact cr.2.1 r hr
      · exact cb.qT (by omega) (by omega) (fun a i g1 g2 => q2 a i (by omega)) (fun i => q3 _ _ (by omega) (by omega))
      · by_cases ej : j = k
        · subst ej
          dsimp only
          rw [if_pos rfl, if_pos rfl]
          exact ⟨fun _ => ⟨t1, q1 B rc ob cb⟩, fun z => by cases z⟩
        · dsimp only
          rw [if_neg ej, if_neg ej]
          obtain ⟨a1, a2⟩ := ci j hj
          refine ⟨fun e => ⟨by rw [t2 j ej]; exact (a1 e).1, (a1 e).2.qT (by omega) (by omega) (fun a i g1 g2 => q2 a i (by omega)) (fun i => q3 _ _ (by omega) (by omega))⟩, fun e => by rw [t2 j ej]; exact a2 e⟩
      · rw [xf _ _ (by omega) (by omega) (by omega) (by omega)]; exact rt.1
      · rw [xf _ _ (by omega) (by omega) (by omega) (by omega)]; exact rt.2 i hi
      · rw [xf _ _ (by omega) (by omega) (by omega) (by omega)]; exact rr.1
      · rw [xf _ _ (by omega) (by omega) (by omega) (by omega)]; exact (rr.2 r hr).1
      · refine RBk.q ob rb (fun i hi => ?_) (fun a i h1 h2 hi => ?_) (fun c hc => ?_) (fun a i h1 h2 hi => ?_) (fun a i h1 h2 hi => ?_) ?_ (fun i hi => ?_)
        · rw [e _ _ _ (by omega), e _ _ _ (by omega)]; exact xf _ _ (by omega) (by omega) (by omega) (by omega)
        · rw [e _ _ _ (by omega), e _ _ _ (by omega)]; exact xf _ _ (by omega) (by omega) (by omega) (by omega)
        · rw [e _ _ _ (by omega), e _ _ _ (by omega)]; exact xf _ _ (by omega) (by omega) (by omega) (by omega)
        · rw [e _ _ _ (by omega), e _ _ _ (by omega)]; exact xf _ _ (by omega) (by omega) (by omega) (by omega)
        · rw [e _ _ _ (by omega), e _ _ _ (by omega)]; exact xf _ _ (by omega) (by omega) (by omega) (by omega)
        · exact xf 0 44 (by omega) (by omega) (by omega) (by omega)
        · rw [e _ _ _ (by omega), e _ _ _ (by omega)]; exact xf _ _ (by omega) (by omega) (by omega) (by omega)
      · by_cases ej : j = k
        · subst ej
          simp only [↓reduceIte]
          refine ⟨by rw [x3 _ _ (by omega) (by omega) (by omega), wI_self], fun _ => ?_⟩
          exact RBk.q ob rb (fun i hi => vi _ _ (Or.inl ⟨rfl, hi⟩)) (fun a i h1 h2 hi => vi _ _ (Or.inr (Or.inl ⟨h1, h2, hi⟩))) (fun c hc => vi _ _ (Or.inr (Or.inr (Or.inl ⟨rfl, hc⟩)))) (fun a i h1 h2 hi => vi _ _ (Or.inr (Or.inr (Or.inr (Or.inl ⟨h1, h2, hi⟩))))) (fun a i h1 h2 hi => vi _ _ (Or.inr (Or.inr (Or.inr (Or.inr (Or.inl ⟨h1, h2, hi⟩)))))) (vi _ _ (Or.inr (Or.inr (Or.inr (Or.inr (Or.inr (Or.inl ⟨rfl, rfl⟩))))))) (fun i hi => vi _ _ (Or.inr (Or.inr (Or.inr (Or.inr (Or.inr (Or.inr ⟨rfl, hi⟩)))))))
        · simp only [ej, ↓reduceIte]
          obtain ⟨a1, a2⟩ := ri j hj
          refine ⟨by rw [xf _ _ (by omega) (by omega) (by omega) (by omega)]; exact a1, fun e => VI_q (oi j hj e) (a2 e) (fun i g1 g2 => xf _ _ (by omega) (by omega) (by omega) (by omega))⟩
      · rw [xf _ _ (by omega) (by omega) (by omega) (by omega)]; exact r40
      · rw [xf _ _ (by omega) (by omega) (by omega) (by omega)]; exact r28
      · by_cases ej : j = k
        · subst ej; dsimp only; rw [if_pos rfl, if_pos rfl]; exact fun _ => ob
        · dsimp only; rw [if_neg ej, if_neg ej]; exact oi j hj
theorem k_back {S : jS} {T : jT} {X : jS} (h : INV S T X) (a0 : Int32) : ((a0 < 0 ∨ 4 ≤ a0) → f11_back X a0 = some (X, -1)) ∧ (¬ (a0 < 0 ∨ 4 ≤ a0) → ∃ k, k < 4 ∧ a0 = nI k ∧ ((T.1 16 k = none ∧ f11_back X a0 = some (X, -1)) ∨ (T.1 16 k = some (300 + 200 * k) ∧ ∀ S1 T1, BCp S T S1 T1 (300 + 200 * k) 100 → (∀ i, T1.1 16 i = T.1 16 i) → ∃ X1, f11_back X a0 = some (X1, S1.1 (100 + 8) 5) ∧ INV S1 T1 X1))) := by
  have m0 : (0 : Int32).toInt64 = 0 := by decide
  have m3 : (3 : Int32).toInt64 = 3 := by decide
  refine ⟨fun z => ?_, fun z => ?_⟩
  · unfold f11_back
    have c : ¬ (0 ≤ a0 ∧ a0 ≤ 3) := by rintro ⟨c1, c2⟩; rcases z with z | z <;> grind
    rw [r_in a0 m0 m3, if_neg c]; rfl
  · obtain ⟨k, hk, rfl, c1, c2⟩ := in4 z
    obtain ⟨tn, tb, rc, R, B, Bi, im, gc, gr, go⟩ := id h
    obtain ⟨ct, cr, cb, ci⟩ := id gc
    obtain ⟨rt, rr, rb, ri, r40, r28⟩ := id gr
    obtain ⟨ot, or, ob, oi⟩ := id go
    have hkc : (nI k).toNatClampNeg = k := nI_clamp (by omega)
    have ik : inb (nI k) 4 = true := by rw [inb_n (by omega)]; simpa using hk
    obtain ⟨a1, a2⟩ := ri k hk
    have hbk : f11_back X (nI k) = (if X.1 54 k = 0 then some (X, -1) else Option.bind (f11_carriesAll X (nI k) 1) (fun r2 => some (r2.1, r2.1.1 1 3))) := by
      unfold f11_back
      rw [r_in (nI k) m0 m3, if_pos ⟨c1, c2⟩, Option.bind_some, if_neg one_ne0, ik, if_pos rfl, hkc]
    refine ⟨k, hk, rfl, ?_⟩
    cases e : im k with
    | false =>
      left
      refine ⟨(ci k hk).2 e, ?_⟩
      rw [e] at a1
      rw [hbk, a1]; rfl
    | true =>
      right
      obtain ⟨b1, b2⟩ := (ci k hk).1 e
      rw [e, if_pos rfl] at a1
      have a2' := a2 e
      have ok := oi k hk e
      refine ⟨b1, fun S1 T1 hb t2 => ?_⟩
      obtain ⟨q1, q2, q3, q4⟩ := hb
      obtain ⟨X1, x1, x2, x3⟩ := r_bck (X := X) hk
      have cb1 := q1 (Bi k) rc ok b2
      have vc : ∀ a i, vIm a i → VC X1 a i = VI X k a i := x2
      have rb1 : RBk (VC X1) (Bi k) := RBk.q ok a2' (fun i hi => vc _ _ (Or.inl ⟨rfl, hi⟩)) (fun a i h1 h2 hi => vc _ _ (Or.inr (Or.inl ⟨h1, h2, hi⟩))) (fun c hc => vc _ _ (Or.inr (Or.inr (Or.inl ⟨rfl, hc⟩)))) (fun a i h1 h2 hi => vc _ _ (Or.inr (Or.inr (Or.inr (Or.inl ⟨h1, h2, hi⟩))))) (fun a i h1 h2 hi => vc _ _ (Or.inr (Or.inr (Or.inr (Or.inr (Or.inl ⟨h1, h2, hi⟩)))))) (vc _ _ (Or.inr (Or.inr (Or.inr (Or.inr (Or.inr (Or.inl ⟨rfl, rfl⟩))))))) (fun i hi => vc _ _ (Or.inr (Or.inr (Or.inr (Or.inr (Or.inr (Or.inr ⟨rfl, hi⟩)))))))
      have nv : X1.1 1 3 = S1.1 (100 + 8) 5 := (HV5 rb1.h).trans (cb1.1.1 5 (by omega) (by omega)).symm
      refine ⟨X1, ?_, INV.act gc gr go cb1 rb1 ok (fun a i g1 g2 => q2 a i (by omega)) (fun a i g1 => ?_) (fun a g1 => q4 a (by omega)) (fun a i g1 g2 => x3 a i (by omega) (by omega))⟩
      · rw [hbk, a1, if_neg one_ne0, x1, Option.bind_some, nv]
      · by_cases e16 : a = 16
        · rw [e16]; exact t2 i
        · exact q3 a i (by omega) e16
