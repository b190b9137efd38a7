/-! THE PURE SIDE: memory, loops, small numbers -/
theorem wI_g (S : jS) (a i : Nat) (x : Int32) (b j : Nat) : (wI S a i x).1 b j = if b = a ∧ j = i then x else S.1 b j := by
  show jst S.1 a (upd (S.1 a) i x) b j = _
  unfold jst upd
  by_cases h : b = a
  · subst h
    rw [if_pos rfl]
    by_cases h2 : j = i
    · rw [if_pos h2, if_pos ⟨rfl, h2⟩]
    · rw [if_neg h2, if_neg (fun z => h2 z.2)]
  · rw [if_neg h, if_neg (fun z => h z.1)]
theorem wI_L (S : jS) (a i : Nat) (x : Int32) : (wI S a i x).2 = S.2 := rfl
theorem wL_g (S : jS) (a i : Nat) (x : Int64) : (wL S a i x).1 = S.1 := rfl
theorem wL_L (S : jS) (a i : Nat) (x : Int64) (b j : Nat) : (wL S a i x).2 b j = if b = a ∧ j = i then x else S.2 b j := by
  show jst S.2 a (vp_updL (S.2 a) i x) b j = _
  unfold jst vp_updL
  by_cases h : b = a
  · subst h
    rw [if_pos rfl]
    by_cases h2 : j = i
    · rw [if_pos h2, if_pos ⟨rfl, h2⟩]
    · rw [if_neg h2, if_neg (fun z => h2 z.2)]
  · rw [if_neg h, if_neg (fun z => h z.1)]
theorem wC_g (S : jS) (s d sp dp n b j : Nat) : (wC S s d sp dp n).1 b j = if b = d ∧ dp ≤ j ∧ j < dp + n then S.1 s (sp + (j - dp)) else S.1 b j := by
  show jst S.1 d (va_cpy (S.1 s) (S.1 d) sp dp n) b j = _
  unfold jst va_cpy
  by_cases h : b = d
  · subst h
    rw [if_pos rfl]
    by_cases h2 : dp ≤ j ∧ j < dp + n
    · rw [if_pos h2, if_pos ⟨rfl, h2⟩]
    · rw [if_neg h2, if_neg (fun z => h2 z.2)]
  · rw [if_neg h, if_neg (fun z => h z.1)]
theorem wC_L (S : jS) (s d sp dp n : Nat) : (wC S s d sp dp n).2 = S.2 := rfl
theorem lp_up {α β : Type} {Post : β → Prop} {G : Nat} (L : Nat → Nat → α → Option β) (Inv : Nat → α → Prop)
    (h1 : ∀ n k a, k < G → Inv k a → (∃ a', L (n + 1) k a = L n (k + 1) a' ∧ Inv (k + 1) a') ∨ (∃ r, L (n + 1) k a = some r ∧ Post r))
    (h2 : ∀ n a, Inv G a → ∃ r, L (n + 1) G a = some r ∧ Post r) : ∀ (n k : Nat) (a : α), k ≤ G → G - k < n → Inv k a → ∃ r, L n k a = some r ∧ Post r := by
  intro n
  induction n with
  | zero => intro k a _ h; omega
  | succ n ih =>
    intro k a hk hn hi
    by_cases e : k = G
    · subst e; exact h2 n a hi
    · rcases h1 n k a (by omega) hi with ⟨a', h, hi'⟩ | h
      · rw [h]; exact ih (k + 1) a' (by omega) (by omega) hi'
      · exact h
theorem lp_dn {α β : Type} {Post : β → Prop} (L : Nat → Nat → α → Option β) (Inv : Nat → α → Prop)
    (h1 : ∀ n k a, Inv (k + 1) a → (∃ a', L (n + 1) (k + 1) a = L n k a' ∧ Inv k a') ∨ (∃ r, L (n + 1) (k + 1) a = some r ∧ Post r))
    (h2 : ∀ n a, Inv 0 a → ∃ r, L (n + 1) 0 a = some r ∧ Post r) : ∀ (n k : Nat) (a : α), k < n → Inv k a → ∃ r, L n k a = some r ∧ Post r := by
  intro n
  induction n with
  | zero => intro k a h; omega
  | succ n ih =>
    intro k a hn hi
    cases k with
    | zero => exact h2 n a hi
    | succ k =>
      rcases h1 n k a hi with ⟨a', h, hi'⟩ | h
      · rw [h]; exact ih k a' (by omega) hi'
      · exact h
theorem lp_m {α β : Type} {Post : β → Prop} (L : Nat → α → Option β) (m : α → Nat) (Inv : α → Prop)
    (h1 : ∀ n a, Inv a → (∃ a', L (n + 1) a = L n a' ∧ Inv a' ∧ m a' < m a) ∨ (∃ r, L (n + 1) a = some r ∧ Post r)) : ∀ (n : Nat) (a : α), m a < n → Inv a → ∃ r, L n a = some r ∧ Post r := by
  intro n
  induction n with
  | zero => intro a h; omega
  | succ n ih =>
    intro a hn hi
    rcases h1 n a hi with ⟨a', h, hi', hm⟩ | h
    · rw [h]; exact ih a' (by omega) hi'
    · exact h
theorem li0 : (0 : Int32) = nI 0 := rfl
theorem li1 : (1 : Int32) = nI 1 := rfl
theorem li2 : (2 : Int32) = nI 2 := rfl
theorem li3 : (3 : Int32) = nI 3 := rfl
theorem li4 : (4 : Int32) = nI 4 := rfl
theorem li5 : (5 : Int32) = nI 5 := rfl
theorem li6 : (6 : Int32) = nI 6 := rfl
theorem li7 : (7 : Int32) = nI 7 := rfl
theorem li8 : (8 : Int32) = nI 8 := rfl
theorem li9 : (9 : Int32) = nI 9 := rfl
theorem li10 : (10 : Int32) = nI 10 := rfl
theorem li12 : (12 : Int32) = nI 12 := rfl
theorem li16 : (16 : Int32) = nI 16 := rfl
theorem li20 : (20 : Int32) = nI 20 := rfl
theorem li24 : (24 : Int32) = nI 24 := rfl
theorem li30 : (30 : Int32) = nI 30 := rfl
theorem li40 : (40 : Int32) = nI 40 := rfl
theorem li60 : (60 : Int32) = nI 60 := rfl
theorem li64 : (64 : Int32) = nI 64 := rfl
theorem li400 : (400 : Int32) = nI 400 := rfl
theorem li999 : (999 : Int32) = nI 999 := rfl
theorem inb_n {k n : Nat} (hk : k < 2 ^ 31) : (inb (nI k) n = true) ↔ k < n := by
  unfold inb
  rw [decide_eq_true_iff, nI_clamp hk]
  have := nI_pos hk
  constructor
  · intro h; omega
  · intro h e; rcases e with e | e
    · exact this e
    · omega
theorem nI_mul (a b : Nat) : nI a * nI b = nI (a * b) := (Int32.ofNat_mul a b).symm
theorem nI_sub {a b : Nat} (h : b ≤ a) : nI a - nI b = nI (a - b) := by
  have e : nI (a - b) + nI b = nI a := by rw [nI_add]; congr 1; omega
  rw [← e]; exact Int32.add_sub_cancel _ _
theorem nI_div {a b : Nat} (ha : a < 2 ^ 31) (hb : b < 2 ^ 31) : nI a / nI b = nI (a / b) := by
  have hq : a / b < 2 ^ 31 := Nat.lt_of_le_of_lt (Nat.div_le_self a b) ha
  apply Int32.toInt_inj.mp
  rw [Int32.toInt_div, nI_toInt ha, nI_toInt hb, nI_toInt hq]
  rw [← Int.ofNat_tdiv, Int.bmod_def]
  generalize a / b = q at hq ⊢
  split <;> omega
theorem irm_n {a b : Nat} (ha : a < 2 ^ 31) (hb : b < 2 ^ 31) : irm (nI a) (nI b) = nI (a % b) := by
  show nI a - nI a / nI b * nI b = _
  rw [nI_div ha hb, nI_mul, nI_sub (Nat.div_mul_le_self a b)]
  congr 1
  have := Nat.div_add_mod a b
  rw [Nat.mul_comm]
  omega
theorem tI_test {x y : Int32} (h : x < y) : x ≤ y := by grind
theorem tI_test2 {x y z : Int32} (h : x < y) (h2 : y ≤ z) : x + 1 ≤ z := by grind
theorem lg_lt {x y : Int64} : lg_cmp x y < 0 ↔ x < y := by
  unfold lg_cmp
  by_cases h : x > y
  · rw [if_pos h]
    constructor
    · intro z; exact absurd z (by decide)
    · intro z; exact absurd h (by grind)
  · rw [if_neg h]
    by_cases h2 : x = y
    · rw [if_pos h2]
      constructor
      · intro z; exact absurd z (by decide)
      · intro z; grind
    · rw [if_neg h2]
      constructor
      · intro _; grind
      · intro _; decide
