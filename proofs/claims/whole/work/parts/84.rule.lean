/-! rule, both sides -/
theorem BOk.up {B : mB} {rc rc' : Nat} (h : BOk B rc) (hr : rc ≤ rc') : BOk B rc' := by
  obtain ⟨a1, a2, a3, a4, a5, a6, a7, a8, a9, a10, a11⟩ := h
  exact ⟨a1, a2, a3, a4, a5, a6, a7, a8, a9, by omega, a11⟩
/-- what the class does behind a text without a fault: the rule is made and stands in its row -/
def RuN (S : jS) (T : jT) (S2 : jS) (T2 : jT) (rc len : Nat) : Prop := S2.1 0 4 = nI (rc + 1) ∧ S2.1 1 1 = 0 ∧ (∀ i, i < len → S2.1 (1200 + 10 * rc + 1) i = S.1 13 i) ∧ T2.2.2.1 (1200 + 10 * rc + 1) = len ∧ T2.1 15 rc = some (1200 + 10 * rc)
  ∧ (∀ a i, kpC a → ¬ (a = 0 ∧ i = 4) → ¬ (1200 + 10 * rc ≤ a ∧ a < 1200 + 10 * rc + 3) → S2.1 a i = S.1 a i)
  ∧ (∀ a i, ¬ (a = 15 ∧ i = rc) → ¬ (1200 + 10 * rc ≤ a ∧ a < 1200 + 10 * rc + 3) → T2.1 a i = T.1 a i)
  ∧ (∀ a, ¬ (1200 + 10 * rc ≤ a ∧ a < 1200 + 10 * rc + 3) → T2.2.2.1 a = T.2.2.1 a)
def mkl (f : Nat → Int32) : Nat → List Int32
  | 0 => []
  | m + 1 => f m :: mkl f m
theorem mkl_w (f : Nat → Int32) : ∀ m, (mkl f m).length = m ∧ wst f (mkl f m) := by
  intro m
  induction m with
  | zero => exact ⟨rfl, trivial⟩
  | succ m ih => exact ⟨by rw [mkl, List.length_cons, ih.1], by rw [ih.1], ih.2⟩
theorem k_rule {S : jS} {T : jT} {X : jS} (h : INV S T X) : ∃ rc, rc ≤ 6 ∧ S.1 0 4 = nI rc ∧ (rc = 6 → f11_rule X = some (X, -1)) ∧ (rc < 6 → T.1 15 rc = none ∧ ∃ S', fC S S' ∧
    ((∃ f X1, f ≠ 0 ∧ f < 2 ^ 31 ∧ f7_read S = some (S', nI f) ∧ f11_rule X = some (X1, (-2) - nI f) ∧ INV (wI S' 1 1 0) T X1) ∨
     (∃ len X1, len < 400 ∧ f7_read S = some (S', 0) ∧ S'.1 12 2 = nI len ∧ f11_rule X = some (X1, nI rc) ∧ ∀ S2 T2, RuN S' T S2 T2 rc len → INV S2 T2 X1))) := by
  obtain ⟨tn, tb, rc, R, B, Bi, im, hc, hr, ho⟩ := id h
  have hrc := ho.2.1.1
  refine ⟨rc, hrc, hc.2.1.1, fun z => ?_, fun z => ⟨hc.2.1.2.2 rc (Nat.le_refl _), ?_⟩⟩
  · unfold f11_rule
    rw [hr.2.1.1, z, if_pos (by decide)]
  · have ot := ho.1
    have l := ot.1
    -- the class's start
    generalize e3 : wI (wI (wI (wI (wI (wI (wI (wI (wI S 1 2 0) 1 3 0) 1 6 0) 12 2 0) 12 4 0) 12 5 0) 12 6 0) 12 7 0) 12 8 0 = S1
    have rdE : f7_read S = r7 S1 0 := by
      unfold r7 f7_read f9_rewind
      rw [Option.bind_some, Nat.sub_zero]
      dsimp only
      rw [e3]; rfl
    have s1 : ∀ a i, S1.1 a i = if a = 12 ∧ (i = 2 ∨ i = 4 ∨ i = 5 ∨ i = 6 ∨ i = 7 ∨ i = 8) then 0 else if a = 1 ∧ (i = 2 ∨ i = 3 ∨ i = 6) then 0 else S.1 a i := fun a i => by
      rw [← e3]
      simp only [wI_g]
      by_cases c : a = 12
      · subst c
        by_cases d : i = 2 ∨ i = 4 ∨ i = 5 ∨ i = 6 ∨ i = 7 ∨ i = 8
        · rw [if_pos (show (12 : Nat) = 12 ∧ _ from ⟨rfl, d⟩)]
          rcases d with d | d | d | d | d | d <;> subst d <;> rfl
        · rw [if_neg (by omega), if_neg (by omega), if_neg (by omega), if_neg (by omega), if_neg (by omega), if_neg (by omega), if_neg (by omega), if_neg (by omega), if_neg (by omega), if_neg (fun y => d y.2), if_neg (by omega)]
      · rw [if_neg (by omega), if_neg (by omega), if_neg (by omega), if_neg (by omega), if_neg (by omega), if_neg (by omega), if_neg (show ¬ (a = 12 ∧ _) from fun y => c y.1)]
        by_cases d : a = 1
        · subst d
          by_cases e : i = 2 ∨ i = 3 ∨ i = 6
          · rw [if_pos (show (1 : Nat) = 1 ∧ _ from ⟨rfl, e⟩)]
            rcases e with e | e | e <;> subst e <;> rfl
          · rw [if_neg (by omega), if_neg (by omega), if_neg (by omega), if_neg (fun y => e y.2)]
        · rw [if_neg (by omega), if_neg (by omega), if_neg (by omega), if_neg (fun y => d y.1)]
    have K0 : K7 S S1 tn tb 0 0 (S.1 12 9) (S.1 12 10) 0 0 [] [] := by
      refine ⟨⟨⟨⟨?_, fun i hi => ?_⟩, ?_, fun a i k => ?_⟩, ⟨?_, ?_, ?_⟩, ⟨?_, ?_, ?_⟩, ⟨?_, trivial⟩, ⟨?_, trivial⟩⟩, trivial, by decide, by omega, by omega, by decide⟩
      · rw [s1, if_neg (by omega), if_neg (by omega)]; exact hc.1.1
      · rw [s1, if_neg (by omega), if_neg (by omega)]; exact hc.1.2 i hi
      · rw [s1, if_neg (by omega), if_pos (by omega)]; rfl
      · unfold kpC at k; rw [s1, if_neg (by omega), if_neg (by omega)]
      · rw [s1, if_pos (by omega)]
      · rw [s1, if_neg (by omega), if_neg (by omega)]
      · rw [s1, if_neg (by omega), if_neg (by omega)]
      · rw [s1, if_pos (by omega)]; rfl
      · rw [s1, if_pos (by omega)]; rfl
      · rw [s1, if_pos (by omega)]; rfl
      · rw [s1, if_pos (by omega)]; rfl
      · rw [s1, if_pos (by omega)]; rfl
    -- the reference's start
    generalize e4 : wI (wI (wI (wI (wI (wI X 0 22 (nI rc)) 0 20 0) 0 21 0) 0 24 0) 0 25 0) 0 26 0 = X0
    have x0 : ∀ a i, X0.1 a i = if a = 0 ∧ (i = 20 ∨ i = 21 ∨ i = 24 ∨ i = 25 ∨ i = 26) then 0 else if a = 0 ∧ i = 22 then nI rc else X.1 a i := fun a i => by
      rw [← e4]
      simp only [wI_g]
      grind
    have fk0 : ∀ a j, kpR rc a j → X0.1 a j = X.1 a j := fun a j k => by
      unfold kpR at k; rw [x0, if_neg (by omega), if_neg (by omega)]
    have ml := mkl_w (X0.1 36) (X0.1 0 27).toBitVec.toNat
    have R0 : R7 X0 X0 tn tb 0 rc (fl []) (mkl (X0.1 36) (X0.1 0 27).toBitVec.toNat) 0 0 := by
      refine ⟨⟨⟨?_, fun i hi => ?_⟩, ?_, ?_⟩, ⟨?_, ?_⟩, ⟨?_, trivial⟩, ⟨?_, ?_⟩, ⟨by rw [ml.1, nI_bv], ml.2⟩, fX.rf⟩
      · rw [x0, if_neg (by omega), if_neg (by omega)]; exact hr.1.1
      · rw [x0, if_neg (by omega), if_neg (by omega)]; exact hr.1.2 i hi
      · rw [x0, if_pos (by omega)]; rfl
      · rw [x0, if_pos (by omega)]
      · rw [x0, if_neg (by omega), if_pos ⟨rfl, rfl⟩]
      · rw [x0, if_neg (by omega), if_neg (by omega)]; exact hr.2.2.2.2.2
      · rw [x0, if_pos (by omega)]; rfl
      · rw [x0, if_pos (by omega)]; rfl
      · rw [x0, if_pos (by omega)]; rfl
    obtain ⟨S', X', y, g1, g2, g3, g4⟩ := k_rl (S0 := S) (X0 := X0) ot (n := rc) (by omega) (tn + 1) 0 S1 X0 0 0 (S.1 12 9) (S.1 12 10) [] _ jF (by omega) K0 R0 (fun _ _ _ => rfl) trivial (fun q hq => by cases hq) (by omega) (by omega) (by unfold jF; omega)
    have h22 : X'.1 0 22 = nI rc := by rw [g2 0 22 (Or.inr ⟨rfl, rfl⟩), x0, if_neg (by omega), if_pos ⟨rfl, rfl⟩]
    have fr : ∀ a i, kpR rc a i → X'.1 a i = X.1 a i := fun a i k => (g2 a i (Or.inl k)).trans (fk0 a i k)
    have h23 : X'.1 0 23 = nI rc := by rw [fr 0 23 (by unfold kpR; omega)]; exact hr.2.1.1
    have i6 : inb (nI rc) 6 = true := inbk (by omega) z
    have q6 : ¬ nI rc = 6 := fun w => by have := nI_j (b := 6) (by omega) (by omega) w; omega
    have starts : f11_starts (wI X 0 22 (X.1 0 23)) = some (X0, ()) := by
      unfold f11_starts; rw [hr.2.1.1, e4]
    have w22 : (wI X' 0 19 0).1 0 22 = nI rc := by rw [wI_nj (by omega)]; exact h22
    have ru : f11_rule X = (if ((wI (wI (wI X' 0 19 0) 32 rc y) 0 23 (nI rc + (((if X'.1 0 21 = 0 then 1 else 0) : Int32)))).1 0 21) ≤ 0 then some (wI (wI (wI X' 0 19 0) 32 rc y) 0 23 (nI rc + (((if X'.1 0 21 = 0 then 1 else 0) : Int32))), ((wI (wI (wI X' 0 19 0) 32 rc y) 0 23 (nI rc + (((if X'.1 0 21 = 0 then 1 else 0) : Int32)))).1 0 23) - 1) else some (wI (wI (wI X' 0 19 0) 32 rc y) 0 23 (nI rc + (((if X'.1 0 21 = 0 then 1 else 0) : Int32))), ((-2)) - ((wI (wI (wI X' 0 19 0) 32 rc y) 0 23 (nI rc + (((if X'.1 0 21 = 0 then 1 else 0) : Int32)))).1 0 21))) := by
      unfold f11_rule
      rw [starts, hr.2.1.1, if_neg q6, Option.bind_some]
      dsimp only
      rw [show f11_rule_L1 jF X0 0 1 = some (X', y) from g1, Option.bind_some]
      dsimp only
      rw [w22, i6, if_pos rfl, nI_clamp (by omega)]
      have a1 : (wI (wI X' 0 19 0) 32 rc y).1 0 23 = nI rc := by rw [wI_ne (by omega), wI_nj (by omega)]; exact h23
      have a2 : (wI (wI X' 0 19 0) 32 rc y).1 0 21 = X'.1 0 21 := by rw [wI_ne (by omega), wI_nj (by omega)]
      rw [a1, a2]
    generalize hX1 : wI (wI (wI X' 0 19 0) 32 rc y) 0 23 (nI rc + (((if X'.1 0 21 = 0 then 1 else 0) : Int32))) = X1 at ru
    have x1 : ∀ a i, X1.1 a i = if a = 0 ∧ i = 23 then (nI rc + (((if X'.1 0 21 = 0 then 1 else 0) : Int32))) else if a = 32 ∧ i = rc then y else if a = 0 ∧ i = 19 then 0 else X'.1 a i := fun a i => by
      rw [← hX1, wI_g, wI_g, wI_g]
    have x21 : X1.1 0 21 = X'.1 0 21 := by rw [x1, if_neg (by omega), if_neg (by omega), if_neg (by omega)]
    have x23 : X1.1 0 23 = (nI rc + (((if X'.1 0 21 = 0 then 1 else 0) : Int32))) := by rw [x1, if_pos ⟨rfl, rfl⟩]
    have x19 : X1.1 0 19 = nI 0 := by rw [x1, if_neg (by omega), if_neg (by omega), if_pos ⟨rfl, rfl⟩]; rfl
    rw [x21, x23] at ru
    refine ⟨S', g3, ?_⟩
    rw [rdE]
    rcases g4 with ⟨f, f1, f2, f3, f4⟩ | ⟨Rn, f3, f4, ⟨f5, f6⟩, f7, f8, f9, f10, f11⟩
    · refine Or.inl ⟨f, X1, f1, f2, f3, ?_, ?_⟩
      · rw [ru, f4, if_neg (by rw [show (0 : Int32) = nI 0 from rfl, nI_leI f2 (by omega)]; omega)]
      · refine INV.tp hc hr ho (tn' := 0) (tb' := tb) ⟨by omega, fun i hi => by omega⟩ ⟨wI_self _ _ _ _, fun i hi => by omega⟩ ⟨x19, fun i hi => by omega⟩ (fC.w g3 (by omega)) (fun a i k => ?_)
        have k' := k; unfold kpR at k'
        rw [x1]
        by_cases c : a = 0 ∧ i = 23
        · rw [if_pos c, f4, if_neg (show ¬ nI f = 0 from fun w => f1 (nI_j (b := 0) f2 (by omega) w)), c.1, c.2, hr.2.1.1]
          exact nI_add rc 0
        · rw [if_neg c, if_neg (by omega), if_neg (by omega)]; exact fr a i k
    · have e1 : nI rc + 1 = nI (rc + 1) := nI_add rc 1
      have es : nI (rc + 1) - 1 = nI rc := by
        have := nI_sub (a := rc + 1) (b := 1) (by omega)
        rw [show (1 : Int32) = nI 1 from rfl, this]; congr 1
      rw [f4, if_pos rfl, e1] at x23
      refine Or.inr ⟨(encR Rn).length, X1, ?_, f3, f5, ?_, fun S2 T2 hu => ?_⟩
      · omega
      · rw [ru, f4, if_pos (by decide), if_pos rfl, e1, es]
      · obtain ⟨u1, u2, u3, u4, u5, u6, u7, u8⟩ := hu
        have kS : ∀ a i, kpC a → ¬ (a = 0 ∧ i = 4) → ¬ (1200 + 10 * rc ≤ a ∧ a < 1200 + 10 * rc + 3) → S2.1 a i = S.1 a i := fun a i k v w => (u6 a i k v w).trans (g3 a i k)
        have kX : ∀ a i, kpR rc a i → ¬ (a = 0 ∧ i = 23) → X1.1 a i = X.1 a i := fun a i k v => by
          have k' := k; unfold kpR at k'
          rw [x1, if_neg v, if_neg (by omega), if_neg (by omega)]; exact fr a i k
        obtain ⟨ct, cr, cb, ci⟩ := hc
        obtain ⟨rt, rr, rb, ri, r40, r28⟩ := hr
        obtain ⟨-, or, ob, oi⟩ := ho
        have vc : ∀ a i, a ≠ 0 → (a < 14 ∨ 36 < a) → VC X1 a i = VC X a i := fun a i u v => by
          unfold VC
          split
          · exact kX _ _ (by unfold kpR; omega) (by omega)
          · exact kX _ _ (by unfold kpR; omega) (by omega)
        refine ⟨0, tb, rc + 1, (fun r => if r = rc then Rn else R r), B, Bi, im, ⟨⟨u2, fun i hi => by omega⟩, ⟨u1, fun r hr => ?_, fun r hr => by rw [u7 _ _ (by omega) (by omega)]; exact cr.2.2 r (by omega)⟩, cb.qT (by omega) (by omega) (fun a i g1 g2 => kS a i (by unfold kpC; omega) (by omega) (by omega)) (fun i => u7 _ _ (by omega) (by omega)), fun k hk => ⟨fun e => ⟨by rw [u7 _ _ (by omega) (by omega)]; exact ((ci k hk).1 e).1, ((ci k hk).1 e).2.qT (by omega) (by omega) (fun a i g1 g2 => kS a i (by unfold kpC; omega) (by omega) (by omega)) (fun i => u7 _ _ (by omega) (by omega))⟩, fun e => by rw [u7 _ _ (by omega) (by omega)]; exact (ci k hk).2 e⟩⟩, ⟨⟨x19, fun i hi => by omega⟩, ⟨x23, fun r hr => ?_⟩, ?_, fun k hk => ⟨?_, fun e => VI_q (oi k hk e) ((ri k hk).2 e) (fun i g1 g2 => kX _ _ (by unfold kpR; omega) (by omega))⟩, ?_, ?_⟩, ⟨⟨by omega, fun i hi => by omega⟩, ⟨by omega, fun r hr => ?_⟩, ob.up (by omega), fun k hk e => (oi k hk e).up (by omega)⟩⟩
        · by_cases e : r = rc
          · subst e
            dsimp only
            rw [if_pos rfl, u4]
            refine ⟨u5, by omega, ?_⟩
            have := rcd_of (f := S2.1 (1200 + 10 * r + 1)) (r := Rn) (k := 0) (cod_ext (fun i _ hi => u3 i (by omega)) f6)
            rw [Nat.zero_add] at this
            exact this
          · dsimp only
            rw [if_neg e]
            obtain ⟨a1, a2, a3⟩ := cr.2.1 r (by omega)
            have ef : S2.1 (1200 + 10 * r + 1) = S.1 (1200 + 10 * r + 1) := funext (fun i => kS _ _ (by unfold kpC; omega) (by omega) (by omega))
            rw [u7 _ _ (by omega) (by omega), u8 _ (by omega), ef]
            exact ⟨a1, a2, a3⟩
        · by_cases e : r = rc
          · subst e
            dsimp only
            rw [if_pos rfl]
            refine ⟨by rw [x1, if_neg (by omega), if_pos ⟨rfl, rfl⟩, f11], rre_ext3 (fun a i v v' w => ?_) (fun a i v v' w => ?_) (by omega) f8⟩
            · rw [x1, if_neg (by omega), if_neg (by omega), if_neg (by omega)]
            · rw [x1, if_neg (by omega), if_neg (by omega), if_neg (by omega)]
          · dsimp only
            rw [if_neg e]
            obtain ⟨a1, a2⟩ := rr.2 r (by omega)
            exact ⟨by rw [kX _ _ (by unfold kpR; omega) (by omega)]; exact a1, rre_ext3 (fun a i v v' w => kX _ _ (by unfold kpR; omega) (by omega)) (fun a i v v' w => kX _ _ (by unfold kpR; omega) (by omega)) (by have := (or.2 r (by omega)).1; omega) a2⟩
        · exact RBk.q ob rb (fun i hi => vc _ _ (by omega) (by omega)) (fun a i h1 h2 hi => vc _ _ (by omega) (by omega)) (fun c hc => vc _ _ (by omega) (by omega)) (fun a i h1 h2 hi => vc _ _ (by omega) (by omega)) (fun a i h1 h2 hi => vc _ _ (by omega) (by omega)) (vc _ _ (by omega) (by omega)) (fun i hi => vc _ _ (by omega) (by omega))
        · rw [kX _ _ (by unfold kpR; omega) (by omega)]; exact (ri k hk).1
        · rw [kX _ _ (by unfold kpR; omega) (by omega)]; exact r40
        · rw [kX _ _ (by unfold kpR; omega) (by omega)]; exact r28
        · by_cases e : r = rc
          · dsimp only; rw [if_pos e]; exact ⟨f9, f10⟩
          · dsimp only; rw [if_neg e]; exact or.2 r (by omega)
