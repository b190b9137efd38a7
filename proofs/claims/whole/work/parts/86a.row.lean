/-! rows of beats: the class -/
/-- what rows leaves alone above the level D: halls of the levels so far, the beats so far -/
def rwF (S' S1 : jS) (D : Nat) : Prop := (∀ a i, 30 ≤ a → a < 30 + 7 * (D + 1) → S1.1 a i = S'.1 a i) ∧ (∀ k, k < D → S1.1 65 k = S'.1 65 k)
/-- the first row kept, where there is one: f = 0 none, else its number less one -/
def rwH (S' S1 : jS) (D R f : Nat) (n : Nat) : Prop := (S'.1 20 5 = 1 → S1.1 20 5 = 1 ∧ ∀ k, k < 4 → S1.1 66 k = S'.1 66 k) ∧ (S'.1 20 5 = 0 → (f = 0 → S1.1 20 5 = 0) ∧ (f ≠ 0 → S1.1 20 5 = 1 ∧ (∀ k, k < D → S1.1 66 k = S'.1 65 k) ∧ ∀ m, m < n → S1.1 66 (R - 1 - m) = nI (1 + (f - 1) / 6 ^ m % 6)))
theorem c_rest1 {R D : Nat} (hR : R ≤ 4) {S' : jS} : ∀ m S, (∀ a i, ¬ (a = 65) → S.1 a i = S'.1 a i) → ∀ k, D ≤ k → k ≤ R → ∀ v, v * 6 ^ (R - k) ≤ 1296 → (∀ i, i < D → S.1 65 i = S'.1 65 i) → (∀ i, D ≤ i → i < k → S.1 65 i = 1) → R - k < m → ∃ S1, f2_rowsOfRest_L1 (nI R) m S (nI v) (nI k) = some (S1, nI (v * 6 ^ (R - k))) ∧ (∀ a i, ¬ (a = 65) → S1.1 a i = S'.1 a i) ∧ (∀ i, i < D → S1.1 65 i = S'.1 65 i) ∧ (∀ i, D ≤ i → i < R → S1.1 65 i = 1) := by
  intro m
  induction m with
  | zero => intro S _ k _ _ v _ _ _ h; omega
  | succ m ih =>
    intro S hf k hk hkR v hv h1 h2 hm
    have e1 : nI k + 1 = nI (k + 1) := nI_add _ 1
    have e6 : nI v * 6 = nI (v * 6) := nI_m6 v
    rw [f2_rowsOfRest_L1, e1, e6]
    by_cases c : k = R
    · subst c
      rw [if_pos (by rw [nI_leI (by omega) (by omega)]; omega), Nat.sub_self, Nat.pow_zero, Nat.mul_one]
      exact ⟨S, rfl, hf, h1, h2⟩
    · rw [if_neg (by rw [nI_leI (by omega) (by omega)]; omega), if_neg (by rw [show (4 : Int32) = nI 4 from rfl, nI_leI (by omega) (by omega)]; omega), inbk (by omega) (by omega), if_pos rfl, nI_clamp (by omega)]
      have ep : v * 6 ^ (R - k) = v * 6 * 6 ^ (R - (k + 1)) := by
        rw [show R - k = (R - (k + 1)) + 1 by omega, Nat.pow_succ, Nat.mul_assoc, Nat.mul_comm (6 ^ _) 6]
      rw [ep] at hv ⊢
      · exact ih (wI S 65 k 1) (fun a i u => by rw [wI_ne u]; exact hf a i u) (k + 1) (by omega) (by omega) (v * 6) hv (fun i hi => by rw [wI_nj (by omega)]; exact h1 i hi) (fun i a b => by
          rw [wI_g]
          by_cases e : i = k
          · rw [if_pos ⟨rfl, e⟩]
          · rw [if_neg (fun y => e y.2)]; exact h2 i a (by omega)) (by omega)
theorem c_rest {S S' : jS} {D R n : Nat} {N : mN} {g : Nat} (hR : R ≤ 4) (hd : D + n = R) (hq : cQ S S') (hh : S'.1 20 5 = 0 ∨ S'.1 20 5 = 1) (hall : ∀ c, c < 6 ^ n → stB g n N c = true) : ∃ S1, f2_rowsOfRest S' (nI D) (nI R) = some (S1, nI (cK g n N (6 ^ n))) ∧ cQ S S1 ∧ rwF S' S1 D ∧ rwH S' S1 D R (fK1 g n N (6 ^ n)) n ∧ (S1.1 20 5 = 0 ∨ S1.1 20 5 = 1) := by
  have pn := pow_le (n := n) (by omega)
  have hp : 0 < 6 ^ n := Nat.pos_of_ne_zero (by simp)
  have ck : ∀ k, k ≤ 6 ^ n → cK g n N k = k ∧ fK1 g n N k = min k 1 := by
    intro k
    induction k with
    | zero => intro _; exact ⟨rfl, rfl⟩
    | succ k ih =>
      intro hk
      obtain ⟨i1, i2⟩ := ih (by omega)
      rw [cK, fK1, i1, i2, hall k (by omega), if_pos rfl, if_pos rfl]
      refine ⟨rfl, ?_⟩
      by_cases c : k = 0
      · subst c; rfl
      · rw [if_neg (by omega)]; omega
  obtain ⟨c1, c2⟩ := ck (6 ^ n) (Nat.le_refl _)
  have c2' : fK1 g n N (6 ^ n) = 1 := by rw [c2]; omega
  have en : R - D = n := by omega
  obtain ⟨S1, a1, a2, a3, a4⟩ := c_rest1 (D := D) hR (S' := S') jF S' (fun _ _ _ => rfl) D (Nat.le_refl _) (by omega) 1 (by rw [en]; omega) (fun _ _ => rfl) (fun i a b => by omega) (by unfold jF; omega)
  rw [en, Nat.one_mul] at a1
  have z1 : f2_rowsOfRest_L1 (nI R) jF S' 1 (nI D) = some (S1, nI (6 ^ n)) := a1
  unfold f2_rowsOfRest
  rw [z1, Option.bind_some, c1, c2']
  dsimp only
  rw [a2 20 5 (by omega)]
  have fS1 : cQ S' S1 := fun a i u v => a2 a i (by omega)
  rcases hh with h0 | h1
  · rw [if_pos h0, Option.bind_some]
    have w : ∀ a i, (wI (wC S1 65 66 0 0 4) 20 5 1).1 a i = if a = 20 ∧ i = 5 then 1 else if a = 66 ∧ i < 4 then S1.1 65 i else S1.1 a i := fun a i => by
      rw [wI_g, wC_g]
      by_cases c : a = 20 ∧ i = 5
      · rw [if_pos c, if_pos c]
      · rw [if_neg c, if_neg c]
        by_cases d : a = 66 ∧ i < 4
        · rw [if_pos d, if_pos ⟨d.1, by omega, by omega⟩, show 0 + (i - 0) = i by omega]
        · rw [if_neg d, if_neg (fun y => d ⟨y.1, by omega⟩)]
    refine ⟨_, rfl, hq.tr (fS1.tr (fun a i u v => ?_)), ⟨fun a i u v => ?_, fun k hk => ?_⟩, ⟨fun z => ?_, fun _ => ⟨fun z => ?_, fun _ => ⟨wI_self _ _ _ _, fun k hk => ?_, fun m hm => ?_⟩⟩⟩, Or.inr (wI_self _ _ _ _)⟩
    · rw [w, if_neg (by omega), if_neg (by omega)]
    · rw [w, if_neg (by omega), if_neg (by omega)]; exact a2 a i (by omega)
    · rw [w, if_neg (by omega), if_neg (by omega)]; exact a3 k hk
    · rw [h0] at z; exact absurd z (by decide)
    · omega
    · rw [w, if_neg (by omega), if_pos ⟨rfl, by omega⟩]; exact a3 k hk
    · rw [w, if_neg (by omega), if_pos ⟨rfl, by omega⟩, a4 _ (by omega) (by omega), Nat.sub_self, Nat.zero_div]; rfl
  · rw [if_neg (by rw [h1]; decide), Option.bind_some]
    refine ⟨S1, rfl, hq.tr fS1, ⟨fun a i u v => a2 a i (by omega), a3⟩, ⟨fun _ => ⟨by rw [a2 20 5 (by omega)]; exact h1, fun k _ => a2 66 k (by omega)⟩, fun z => by rw [h1] at z; exact absurd z (by decide)⟩, Or.inr (by rw [a2 20 5 (by omega)]; exact h1)⟩
