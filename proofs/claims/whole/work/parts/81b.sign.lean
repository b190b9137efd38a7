/-! reading a sign, the class; looking at it, the reference -/
theorem c_sign {tn : Nat} {tb : Nat → Nat} (ot : TpOk tn tb) {S : jS} {p : Nat} (hp : p ≤ tn) (hc : CTp S tn tb) (h2 : S.1 1 2 = nI p) : ∃ S1, f9_readSign S = some (S1, ()) ∧ S1.1 1 2 = nI (tkE tn tb (sk tn tb p)) ∧ S1.1 1 3 = nI (sk tn tb p) ∧ S1.1 1 4 = tkS tn tb (sk tn tb p) ∧ (tkS tn tb (sk tn tb p) = 3 → S1.1 1 5 = nI (tkV tn tb (sk tn tb p))) ∧ ∀ a i, ¬ (a = 1 ∧ 2 ≤ i ∧ i ≤ 5) → S1.1 a i = S.1 a i := by
  have l := ot.1
  obtain ⟨S0, b1, b2, b3⟩ := c_blk ot (jF + 1) p S (by unfold jF; omega) hp hc h2
  obtain ⟨k1, k2⟩ := run_le (f := isB) (tb := tb) hp
  change S0.1 1 2 = nI (sk tn tb p) at b2
  change p ≤ sk tn tb p at k1
  change sk tn tb p ≤ tn at k2
  generalize sk tn tb p = s at *
  rw [f9_readSign_L1] at b1
  unfold f9_readSign
  rw [bind_id, b1, Option.bind_some, b2]
  have g0 : ∀ a i, ¬ (a = 1 ∧ i = 2) → ¬ (a = 1 ∧ i = 3) → (wI S0 1 3 (nI s)).1 a i = S.1 a i := fun a i u v => by rw [wI_g, if_neg v]; exact b3 a i u
  have g1 : (wI S0 1 3 (nI s)).1 1 1 = nI tn := by rw [g0 _ _ (by omega) (by omega)]; exact hc.1
  have g2 : (wI S0 1 3 (nI s)).1 1 2 = nI s := by rw [wI_nj (by omega)]; exact b2
  have g3 : (wI S0 1 3 (nI s)).1 1 3 = nI s := wI_self _ _ _ _
  have gc : CTp (wI S0 1 3 (nI s)) tn tb := ⟨g1, fun i hi => by rw [g0 _ _ (by omega) (by omega)]; exact hc.2 i hi⟩
  generalize wI S0 1 3 (nI s) = S2 at *
  rw [g1, g2, nI_clamp (by omega)]
  by_cases c : s < tn
  · have hb := ot.2 s c
    rw [if_pos (by rw [nI_ltI (by omega) (by omega)]; omega), inb4 (by omega), if_pos rfl, gc.2 s c, c_isL _ hb, Option.bind_some]
    by_cases cl : isL (tb s) = true
    · rw [if_pos cl, if_neg (by decide)]
      obtain ⟨S3, d1, d2, d3⟩ := c_let ot (jF + 1) s S2 (by unfold jF; omega) (by omega) gc g2
      obtain ⟨r1, r2⟩ := run_le (f := isL) (tb := tb) (Nat.le_of_lt c)
      have hc3 : CTp (wI S3 1 4 2) tn tb := ⟨by rw [wI_nj (by omega), d3 _ _ (by omega)]; exact g1, fun i hi => by rw [wI_ne (by omega), d3 _ _ (by omega)]; exact gc.2 i hi⟩
      obtain ⟨S4, f1, f2, f3⟩ := c_wd ot r1 r2 jF 0 (wI S3 1 4 2) (by unfold jF; omega) (by omega) hc3 (by rw [wI_nj (by omega)]; exact d2) (by rw [wI_nj (by omega), d3 _ _ (by omega)]; exact g3) (wI_self _ _ _ _)
      rw [f9_readWord_L1] at d1
      unfold f9_readWord
      simp only [bind_id]
      rw [d1, Option.bind_some, show f9_readWord_L2 jF (wI S3 1 4 2) 0 = some S4 from f1, Option.bind_some, Option.bind_some]
      have fr : ∀ a i, ¬ (a = 1 ∧ i = 4) → ¬ (a = 1 ∧ i = 2) → S4.1 a i = S2.1 a i := fun a i u v => by rw [f3 a i u, wI_g, if_neg u]; exact d3 a i v
      refine ⟨S4, rfl, ?_, ?_, ?_, fun z => ?_, fun a i u => ?_⟩
      · rw [f3 _ _ (by omega), wI_nj (by omega), d2]; unfold tkE; rw [if_neg (by omega), if_pos cl]
      · rw [fr _ _ (by omega) (by omega)]; exact g3
      · rw [f2]; unfold tkS; rw [if_neg (by omega), if_pos cl]; rfl
      · exfalso
        unfold tkS at z
        rw [if_neg (by omega), if_pos cl] at z
        revert z
        have : ∀ (w : List Int32) (l : List (Nat × Int32)), (∀ q ∈ l, q.2 ≠ 3) → wgo w l ≠ 3 := by
          intro w l
          induction l with
          | nil => intro _; show (2 : Int32) ≠ 3; decide
          | cons q r ih =>
            intro h
            rw [wgo]
            split
            · exact h q (List.mem_cons_self)
            · exact ih (fun x hx => h x (List.mem_cons_of_mem _ hx))
        exact this _ _ (by decide)
      · rw [fr a i (by omega) (by omega)]; exact g0 a i (by omega) (by omega)
    · rw [if_neg cl, if_pos rfl, c_isD _ hb, Option.bind_some]
      by_cases cd : isD (tb s) = true
      · rw [if_pos cd, if_neg (by decide)]
        obtain ⟨S3, d1, d2, d3, d4⟩ := c_dig ot (s := s) jF s (wI S2 1 5 0) (by unfold jF; omega) (by omega) (by omega) (fun i a b => by omega) ⟨by rw [wI_nj (by omega)]; exact g1, fun i hi => by rw [wI_ne (by omega)]; exact gc.2 i hi⟩ (by rw [wI_nj (by omega)]; exact g2) (by rw [wI_nj (by omega)]; exact g3) (by rw [wI_self, Nat.sub_self]; rfl)
        obtain ⟨r1, r2⟩ := run_le (f := isD) (tb := tb) (Nat.le_of_lt c)
        have k3 : S3.1 1 3 = nI s := by rw [d4 _ _ (by omega) (by omega), wI_nj (by omega)]; exact g3
        have es : nI (run isD tn tb s) - nI s = nI (run isD tn tb s - s) := nI_sub r1
        unfold f9_readNumber
        rw [d1, Option.bind_some, Option.bind_some, d2, k3, es]
        refine ⟨_, rfl, ?_, ?_, ?_, fun z => ?_, fun a i u => ?_⟩
        · rw [wI_nj (by omega), d2]; unfold tkE; rw [if_neg (by omega), if_neg cl, if_pos cd]
        · rw [wI_nj (by omega)]; exact k3
        · have et : tkS tn tb s = if run isD tn tb s - s ≤ 5 then 3 else 4 := by unfold tkS; rw [if_neg (by omega), if_neg cl, if_pos cd]
          rw [wI_self, et]
          by_cases c5 : run isD tn tb s - s ≤ 5
          · rw [if_pos c5, if_pos (by rw [show (5 : Int32) = nI 5 from rfl, nI_leI (by omega) (by omega)]; exact c5)]
          · rw [if_neg c5, if_neg (by rw [show (5 : Int32) = nI 5 from rfl, nI_leI (by omega) (by omega)]; exact c5)]
        · rw [wI_nj (by omega), d3]; rfl
        · rw [wI_g, if_neg (by omega), d4 _ _ (by omega) (by omega), wI_g, if_neg (by omega)]; exact g0 a i (by omega) (by omega)
      · rw [if_neg cd, if_pos rfl]
        obtain ⟨S3, d1, d2, d3, d4⟩ := c_rmark ot c gc g2 g3 cl cd
        rw [d1, Option.bind_some]
        refine ⟨S3, rfl, d2, ?_, d3, fun z => ?_, fun a i u => ?_⟩
        · rw [d4 _ _ (by omega) (by omega)]; exact g3
        · exfalso
          unfold tkS at z
          rw [if_neg (by omega), if_neg cl, if_neg cd] at z
          have hm : ∀ b, b < 256 → msg b ≠ 3 := by decide +kernel
          split at z
          · split at z <;> exact absurd z (by decide)
          · exact hm _ hb z
        · rw [d4 _ _ (by omega) (by omega)]; exact g0 a i (by omega) (by omega)
  · rw [if_neg (by rw [nI_ltI (by omega) (by omega)]; omega)]
    refine ⟨_, rfl, ?_, ?_, ?_, fun z => ?_, fun a i u => ?_⟩
    · rw [wI_nj (by omega), g2]; unfold tkE; rw [if_pos (by omega)]
    · rw [wI_nj (by omega)]; exact g3
    · rw [wI_self]; unfold tkS; rw [if_pos (by omega)]
    · exfalso
      unfold tkS at z
      rw [if_pos (by omega)] at z
      exact absurd z (by decide)
    · rw [wI_g, if_neg (by omega)]; exact g0 a i (by omega) (by omega)
/-- what the reference sees at p -/
def sgv (tn : Nat) (tb : Nat → Nat) (p : Nat) : Int32 := if p < tn then nI (tb p) else -1
theorem r_sg {tn : Nat} {tb : Nat → Nat} (ot : TpOk tn tb) {X : jS} {p : Nat} (hp : p < 2 ^ 31) (hr : RTp X tn tb) (h2 : X.1 0 20 = nI p) : f11_sign X = some (sgv tn tb p) := by
  have l := ot.1
  unfold f11_sign sgv
  rw [hr.1, h2, nI_clamp (by omega)]
  by_cases c : p < tn
  · rw [if_neg (by rw [nI_leI (by omega) (by omega)]; omega), inb4 (by omega), if_pos rfl, if_pos c, hr.2 p c]
    exact congrArg some (r_sb _ (ot.2 p c))
  · rw [if_pos (by rw [nI_leI (by omega) (by omega)]; omega), if_neg c]
theorem sg_32 {tn : Nat} {tb : Nat → Nat} (ot : TpOk tn tb) {p : Nat} : sgv tn tb p = 32 ↔ (p < tn ∧ isB (tb p) = true) := by
  unfold sgv
  by_cases c : p < tn
  · rw [if_pos c, c_b32 _ (ot.2 p c)]; exact ⟨fun z => ⟨c, z⟩, fun z => z.2⟩
  · rw [if_neg c]; exact ⟨fun z => absurd z (by decide), fun z => absurd z.1 c⟩
theorem r_blk1 {tn : Nat} {tb : Nat → Nat} (ot : TpOk tn tb) : ∀ n p X, tn - p < n → p < 1000 → RTp X tn tb → X.1 0 20 = nI p → ∃ X1, f11_blanks_L1 n X = some X1 ∧ X1.1 0 20 = nI (sk tn tb p) ∧ ∀ a i, ¬ (a = 0 ∧ i = 20) → X1.1 a i = X.1 a i := by
  intro n
  have l := ot.1
  induction n with
  | zero => intro p S h; omega
  | succ n ih =>
    intro p X hn hp hr h2
    have e1 : nI p + 1 = nI (p + 1) := nI_add p 1
    rw [f11_blanks_L1, r_sg ot (by omega) hr h2, Option.bind_some, h2, e1]
    unfold sk
    by_cases c : p < tn ∧ isB (tb p) = true
    · rw [if_pos ((sg_32 ot).mpr c), run_go c]
      obtain ⟨X1, a1, a2, a3⟩ := ih (p + 1) (wI X 0 20 (nI (p + 1))) (by omega) (by omega) ⟨by rw [wI_nj (by omega)]; exact hr.1, fun i hi => by rw [wI_ne (by omega)]; exact hr.2 i hi⟩ (wI_self _ _ _ _)
      exact ⟨X1, a1, a2, fun a i g => by rw [a3 a i g, wI_g, if_neg g]⟩
    · rw [if_neg (fun z => c ((sg_32 ot).mp z)), run_no c]
      exact ⟨X, rfl, h2, fun _ _ _ => rfl⟩
theorem r_blk {tn : Nat} {tb : Nat → Nat} (ot : TpOk tn tb) {X : jS} {p : Nat} (hp : p < 1000) (hr : RTp X tn tb) (h2 : X.1 0 20 = nI p) : ∃ X1, f11_blanks X = some (X1, ()) ∧ X1.1 0 20 = nI (sk tn tb p) ∧ ∀ a i, ¬ (a = 0 ∧ i = 20) → X1.1 a i = X.1 a i := by
  have l := ot.1
  obtain ⟨X1, a1, a2, a3⟩ := r_blk1 ot (jF + 1) p X (by unfold jF; omega) hp hr h2
  refine ⟨X1, ?_, a2, a3⟩
  rw [f11_blanks_L1] at a1
  unfold f11_blanks
  rw [r_sg ot (by omega) hr h2, Option.bind_some] at a1 ⊢
  split at a1
  · rename_i c; rw [if_pos c, a1]; rfl
  · rename_i c; rw [if_neg c]
    rw [Option.some.inj a1]
theorem r_dgt {tn : Nat} {tb : Nat → Nat} (ot : TpOk tn tb) {X : jS} {p : Nat} (hp : p < 2 ^ 31) (hr : RTp X tn tb) (h2 : X.1 0 20 = nI p) : f11_isDigit X = some (if p < tn ∧ isD (tb p) = true then 1 else 0) := by
  unfold f11_isDigit
  rw [r_sg ot hp hr h2, Option.bind_some, r_in _ (show (48 : Int32).toInt64 = 48 by decide) (show (57 : Int32).toInt64 = 57 by decide), Option.bind_some]
  have e : (48 ≤ sgv tn tb p ∧ sgv tn tb p ≤ 57) ↔ (p < tn ∧ isD (tb p) = true) := by
    have hd : ∀ b, b < 256 → ((48 ≤ nI b ∧ nI b ≤ 57) ↔ isD b = true) := by decide +kernel
    unfold sgv
    by_cases c : p < tn
    · rw [if_pos c, hd _ (ot.2 p c)]; exact ⟨fun z => ⟨c, z⟩, fun z => z.2⟩
    · rw [if_neg c]; exact ⟨fun z => absurd z (by decide), fun z => absurd z.1 c⟩
  by_cases c : p < tn ∧ isD (tb p) = true
  · rw [if_pos (e.mpr c), if_pos c]; rfl
  · rw [if_neg (fun z => c (e.mp z)), if_neg c]; rfl
