/-! ALL AT ONCE: a book in plain numbers, and how both sides hold it -/
abbrev mB : Type := (mN × mN) × ((Nat → mN) × Nat) × (Nat × (Nat → Nat) × (Nat → Nat) × (Nat → Nat)) × (Nat × Nat)
def bNow (B : mB) : mN := B.1.1
def bTold (B : mB) : mN := B.1.2
def bPast (B : mB) : Nat → mN := B.2.1.1
def bA (B : mB) : Nat := B.2.1.2
def bNn (B : mB) : Nat := B.2.2.1.1
def bNr (B : mB) : Nat → Nat := B.2.2.1.2.1
def bNg (B : mB) : Nat → Nat := B.2.2.1.2.2.1
def bNi (B : mB) : Nat → Nat := B.2.2.1.2.2.2
def bFo (B : mB) : Nat := B.2.2.2.1
def bSe (B : mB) : Nat := B.2.2.2.2
def samT (N M : mN) : Prop := M 0 0 = N 0 0 ∧ M 0 1 = N 0 1 ∧ M 0 2 = N 0 2 ∧ ∀ c, c < N 0 1 → M 1 c = N 1 c
def tld (N : mN) : Prop := N 0 3 = 2 ^ N 0 1 - 1 ∧ N 0 4 = 2 ^ N 0 2 - 1 ∧ N 0 5 = 0 ∧ N 0 6 = 0 ∧ N 0 7 = 0 ∧ ∀ g, g < N 0 2 → N 5 g = 0 ∧ N 6 g = 0
def BOk (B : mB) (rc : Nat) : Prop := NOk (bNow B) ∧ bNow B 0 5 ≤ 999 ∧ NOk (bTold B) ∧ samT (bNow B) (bTold B) ∧ tld (bTold B) ∧ bA B ≤ 20 ∧ (∀ j, j < bA B → NOk (bPast B j) ∧ samT (bNow B) (bPast B j) ∧ bPast B j 0 5 ≤ 999) ∧ bNn B ≤ 10 ∧ (∀ k, k < bNn B → bNr B k ≤ 20 ∧ bNg B k < 7 ∧ bNi B k ≤ 1) ∧ bFo B ≤ rc ∧ bSe B < 2 ^ 31
def sl0 (np A j : Nat) : Nat := (np + 20 - (A - j)) % 20
def CPa (S : jS) (T : jT) (b : Nat) (B : mB) (np : Nat) : Prop := ∀ j, j < bA B → T.1 (b + 15) (sl0 np (bA B) j) = some (b + 19 + 7 * sl0 np (bA B) j) ∧ HIs (hC S (b + 19 + 7 * sl0 np (bA B) j)) (bPast B j)
def CNt (S : jS) (b : Nat) (B : mB) : Prop := S.1 b 8 = nI (bNn B) ∧ ∀ k, k < bNn B → S.1 (b + 16) k = nI (bNr B k) ∧ S.1 (b + 17) k = nI (bNg B k) ∧ S.1 (b + 18) k = nI (bNi B k)
def CBk (S : jS) (T : jT) (b : Nat) (B : mB) : Prop := HIs (hC S (b + 8)) (bNow B) ∧ HIs (hC S (b + 1)) (bTold B) ∧ S.1 b 4 = nI (bA B) ∧ (∃ np, np < 20 ∧ S.1 b 3 = nI np ∧ CPa S T b B np) ∧ CNt S b B ∧ S.1 b 9 = nI (bFo B) - 1 ∧ S.1 b 10 = nI (bSe B)
def pIs (V : mH) (j : Nat) (N : mN) : Prop := V 42 (40 * j) = nI (N 0 5) ∧ V 42 (40 * j + 1) = nI (N 0 7) ∧ V 42 (40 * j + 2) = nI (N 0 6) - 1 ∧ V 42 (40 * j + 3) = nI (N 0 4) ∧ V 42 (40 * j + 4) = nI (N 0 3) ∧ ∀ a g, 2 ≤ a → a ≤ 6 → g < N 0 2 → V 42 (40 * j + (5 + 7 * (a - 2) + g)) = nI (N a g)
def RTo (V : mH) (N : mN) : Prop := ∀ g, g < N 0 2 → V 11 g = nI (N 2 g) ∧ V 12 g = nI (N 3 g) ∧ V 13 g = nI (N 4 g)
def RNt (V : mH) (B : mB) : Prop := V 1 8 = nI (bNn B) ∧ ∀ k, k < bNn B → V 8 k = nI (bNr B k) ∧ V 9 k = nI (bNg B k) ∧ V 10 k = nI (bNi B k)
def RBk (V : mH) (B : mB) : Prop := HIs (hV V) (bNow B) ∧ RTo V (bTold B) ∧ V 43 0 = nI (bA B) ∧ (∀ j, j < bA B → pIs V j (bPast B j)) ∧ RNt V B ∧ V 1 10 = nI (bFo B) - 1 ∧ V 1 9 = nI (bSe B)
def VC (S : jS) : mH := fun a i => if a = 43 then S.1 0 44 else S.1 a i
def imO (a : Nat) : Nat := if a = 1 then 0 else if a = 2 then 11 else if a = 3 then 18 else if a = 4 then 25 else if a = 5 then 32 else if a = 6 then 39 else if a = 43 then 46 else if a = 7 then 47 else if a = 8 then 53 else if a = 9 then 63 else if a = 10 then 73 else if a = 11 then 83 else if a = 12 then 90 else if a = 13 then 97 else 104
def VI (S : jS) (k : Nat) : mH := fun a i => S.1 53 (950 * k + (imO a + i))
def CTp (S : jS) (tn : Nat) (tb : Nat → Nat) : Prop := S.1 1 1 = nI tn ∧ ∀ i, i < tn → S.1 2 i = nI (tb i)
def RTp (S : jS) (tn : Nat) (tb : Nat → Nat) : Prop := S.1 0 19 = nI tn ∧ ∀ i, i < tn → S.1 29 i = (nI (tb i)).toInt8.toInt32
def TpOk (tn : Nat) (tb : Nat → Nat) : Prop := tn ≤ 400 ∧ ∀ i, i < tn → tb i < 256
def CRl (S : jS) (T : jT) (rc : Nat) (R : Nat → mR) : Prop := S.1 0 4 = nI rc ∧ (∀ r, r < rc → T.1 15 r = some (1200 + 10 * r) ∧ T.2.2.1 (1200 + 10 * r + 1) ≤ 400 ∧ rcd (S.1 (1200 + 10 * r + 1)) (T.2.2.1 (1200 + 10 * r + 1)) 0 (R r)) ∧ ∀ r, rc ≤ r → T.1 15 r = none
def RRl (S : jS) (rc : Nat) (R : Nat → mR) : Prop := S.1 0 23 = nI rc ∧ ∀ r, r < rc → S.1 32 r = nI (R r).length ∧ rre S r 0 0 (R r)
def RlOk (rc : Nat) (R : Nat → mR) : Prop := rc ≤ 6 ∧ ∀ r, r < rc → (R r).length ≤ 12 ∧ ∀ q ∈ R r, clOk q
def CIm (S : jS) (T : jT) (Bi : Nat → mB) (im : Nat → Bool) : Prop := ∀ k, k < 4 → (im k = true → T.1 16 k = some (300 + 200 * k) ∧ CBk S T (300 + 200 * k) (Bi k)) ∧ (im k = false → T.1 16 k = none)
def RIm (S : jS) (Bi : Nat → mB) (im : Nat → Bool) : Prop := ∀ k, k < 4 → S.1 54 k = (if im k = true then 1 else 0) ∧ (im k = true → RBk (VI S k) (Bi k))
def CSt (S : jS) (T : jT) (tn : Nat) (tb : Nat → Nat) (rc : Nat) (R : Nat → mR) (B : mB) (Bi : Nat → mB) (im : Nat → Bool) : Prop := CTp S tn tb ∧ CRl S T rc R ∧ CBk S T 100 B ∧ CIm S T Bi im
def RSt (S : jS) (tn : Nat) (tb : Nat → Nat) (rc : Nat) (R : Nat → mR) (B : mB) (Bi : Nat → mB) (im : Nat → Bool) : Prop := RTp S tn tb ∧ RRl S rc R ∧ RBk (VC S) B ∧ RIm S Bi im ∧ S.1 0 40 = -1 ∧ S.1 0 28 = 10
def AOk (tn : Nat) (tb : Nat → Nat) (rc : Nat) (R : Nat → mR) (B : mB) (Bi : Nat → mB) (im : Nat → Bool) : Prop := TpOk tn tb ∧ RlOk rc R ∧ BOk B rc ∧ ∀ k, k < 4 → im k = true → BOk (Bi k) rc
def INV (S : jS) (T : jT) (X : jS) : Prop := ∃ (tn : Nat) (tb : Nat → Nat) (rc : Nat) (R : Nat → mR) (B : mB) (Bi : Nat → mB) (im : Nat → Bool), CSt S T tn tb rc R B Bi im ∧ RSt X tn tb rc R B Bi im ∧ AOk tn tb rc R B Bi im
/-- what a question leaves alone: the class; the reference -/
def cQ (S S1 : jS) : Prop := ∀ a i, (a ≤ 2 ∨ 100 ≤ a) → (a < 1200 ∨ a % 10 = 1) → S1.1 a i = S.1 a i
def rQ (S X : jS) : Prop := rQ0 S X ∧ rQ1 S X ∧ X.1 0 40 = S.1 0 40
theorem cQ.rf (S : jS) : cQ S S := fun _ _ _ _ => rfl
theorem cQ.tr {S X Z : jS} (h : cQ S X) (g : cQ X Z) : cQ S Z := fun a i h1 h2 => (g a i h1 h2).trans (h a i h1 h2)
theorem rQ.rf (S : jS) : rQ S S := ⟨rQ0.rf S, ⟨fun _ _ => rfl, fun _ _ _ _ _ => rfl⟩, rfl⟩
theorem CBk.q {S S1 : jS} {T : jT} {b : Nat} {B : mB} (h : CBk S T b B) (hb : 100 ≤ b) (hb2 : b ≤ 1000) (q : ∀ a i, b ≤ a → a < b + 159 → S1.1 a i = S.1 a i) : CBk S1 T b B := by
  obtain ⟨h1, h2, h3, ⟨np, h4, h5, h6⟩, ⟨h7, h8⟩, h9, h10⟩ := h
  have hs : ∀ A j, sl0 np A j < 20 := fun A j => Nat.mod_lt _ (by omega)
  refine ⟨h1.mono (fun a i _ _ => q a i (by omega) (by omega)), h2.mono (fun a i _ _ => q a i (by omega) (by omega)), ?_, ⟨np, h4, ?_, fun j hj => ⟨(h6 j hj).1, (h6 j hj).2.mono (fun a i _ _ => q a i (by omega) (by have := hs (bA B) j; omega))⟩⟩, ⟨?_, fun k hk => ?_⟩, ?_, ?_⟩
  · rw [q _ _ (by omega) (by omega)]; exact h3
  · rw [q _ _ (by omega) (by omega)]; exact h5
  · rw [q _ _ (by omega) (by omega)]; exact h7
  · rw [q _ _ (by omega) (by omega), q _ _ (by omega) (by omega), q _ _ (by omega) (by omega)]; exact h8 k hk
  · rw [q _ _ (by omega) (by omega)]; exact h9
  · rw [q _ _ (by omega) (by omega)]; exact h10
theorem CSt.q {S S1 : jS} {T : jT} {tn : Nat} {tb : Nat → Nat} {rc : Nat} {R : Nat → mR} {B : mB} {Bi : Nat → mB} {im : Nat → Bool} (h : CSt S T tn tb rc R B Bi im) (q : cQ S S1) : CSt S1 T tn tb rc R B Bi im := by
  obtain ⟨h1, h2, h3, h4⟩ := h
  refine ⟨⟨?_, fun i hi => ?_⟩, ⟨?_, fun r hr => ?_, h2.2.2⟩, h3.q (by omega) (by omega) (fun a i g1 g2 => q a i (by omega) (by omega)), fun k hk => ⟨fun e => ?_, (h4 k hk).2⟩⟩
  · rw [q _ _ (by omega) (by omega)]; exact h1.1
  · rw [q _ _ (by omega) (by omega)]; exact h1.2 i hi
  · rw [q _ _ (by omega) (by omega)]; exact h2.1
  · obtain ⟨a1, a2, a3⟩ := h2.2.1 r hr
    have e : S1.1 (1200 + 10 * r + 1) = S.1 (1200 + 10 * r + 1) := funext (fun i => q _ _ (by omega) (by omega))
    rw [e]; exact ⟨a1, a2, a3⟩
  · obtain ⟨a1, a2⟩ := (h4 k hk).1 e
    exact ⟨a1, a2.q (by omega) (by omega) (fun a i g1 g2 => q a i (by omega) (by omega))⟩
theorem rre_ext2 {S S1 : jS} {sl : Nat} (h : ∀ a i, 30 ≤ a → a ≤ 35 → S1.1 a i = S.1 a i) : ∀ {r : mR} {i k : Nat}, rre S sl i k r → rre S1 sl i k r := by
  intro r
  have e0 : S1.1 30 = S.1 30 := funext (fun i => h _ _ (by omega) (by omega))
  have e1 : S1.1 31 = S.1 31 := funext (fun i => h _ _ (by omega) (by omega))
  induction r with
  | nil => intro i k g; exact g
  | cons q r ih =>
    intro i k g
    unfold rre
    rw [e0, e1, h 33 _ (by omega) (by omega), h 34 _ (by omega) (by omega), h 35 _ (by omega) (by omega)]
    exact ⟨g.1, g.2.1, g.2.2.1, g.2.2.2.1, g.2.2.2.2.1, ih g.2.2.2.2.2⟩
/-- the reference's book, seen by another view that shows the same -/
theorem RBk.q {V V1 : mH} {B : mB} {rc : Nat} (hok : BOk B rc) (h : RBk V B) (q1 : ∀ i, i < 11 → V1 1 i = V 1 i) (q2 : ∀ a i, 2 ≤ a → a ≤ 6 → i < 7 → V1 a i = V a i) (q3 : ∀ c, c < 6 → V1 7 c = V 7 c) (q4 : ∀ a i, 8 ≤ a → a ≤ 10 → i < 10 → V1 a i = V a i) (q5 : ∀ a i, 11 ≤ a → a ≤ 13 → i < 7 → V1 a i = V a i) (q6 : V1 43 0 = V 43 0) (q7 : ∀ i, i < 800 → V1 42 i = V 42 i) : RBk V1 B := by
  obtain ⟨h1, h2, h3, h4, ⟨h5, h6⟩, h7, h8⟩ := h
  obtain ⟨k1, k2, k3, ⟨k4, k5, k6, k7⟩, k8, k9, k10, k11, k12, k13, k14⟩ := hok
  have hG := k1.2.2.1
  have hC := k1.2.1
  refine ⟨HIs_V ?_ ?_ ?_ ?_ ?_ ?_ ?_ ?_ (fun c hc => ?_) (fun a g g1 g2 hg => ?_), fun g hg => ?_, ?_, fun j hj => ?_, ⟨?_, fun k hk => ?_⟩, ?_, ?_⟩
  · rw [q1 _ (by omega)]; exact HV0 h1
  · rw [q1 _ (by omega)]; exact HV1 h1
  · rw [q1 _ (by omega)]; exact HV2 h1
  · rw [q1 _ (by omega)]; exact HV3 h1
  · rw [q1 _ (by omega)]; exact HV4 h1
  · rw [q1 _ (by omega)]; exact HV5 h1
  · rw [q1 _ (by omega)]; exact HV6 h1
  · rw [q1 _ (by omega)]; exact HV7 h1
  · rw [q3 _ (by omega)]; exact HVc h1 hc
  · rw [q2 _ _ g1 g2 (by omega)]; exact HVg h1 g1 g2 hg
  · rw [q5 _ _ (by omega) (by omega) (by omega), q5 _ _ (by omega) (by omega) (by omega), q5 _ _ (by omega) (by omega) (by omega)]; exact h2 g hg
  · rw [q6]; exact h3
  · obtain ⟨b1, b2, b3, b4, b5, b6⟩ := h4 j hj
    have hgp : bPast B j 0 2 = bNow B 0 2 := (k10 j hj).2.1.2.2.1
    refine ⟨?_, ?_, ?_, ?_, ?_, fun a g g1 g2 hg => ?_⟩
    · rw [q7 _ (by omega)]; exact b1
    · rw [q7 _ (by omega)]; exact b2
    · rw [q7 _ (by omega)]; exact b3
    · rw [q7 _ (by omega)]; exact b4
    · rw [q7 _ (by omega)]; exact b5
    · rw [q7 _ (by omega)]; exact b6 a g g1 g2 hg
  · rw [q1 _ (by omega)]; exact h5
  · rw [q4 _ _ (by omega) (by omega) (by omega), q4 _ _ (by omega) (by omega) (by omega), q4 _ _ (by omega) (by omega) (by omega)]; exact h6 k hk
  · rw [q1 _ (by omega)]; exact h7
  · rw [q1 _ (by omega)]; exact h8
theorem imO_le (a : Nat) : imO a ≤ 104 := by
  unfold imO
  grind (splits := 20)
theorem VI_lt {a i : Nat} (h : (a = 1 ∧ i < 11) ∨ (2 ≤ a ∧ a ≤ 6 ∧ i < 7) ∨ (a = 7 ∧ i < 6) ∨ (8 ≤ a ∧ a ≤ 10 ∧ i < 10) ∨ (11 ≤ a ∧ a ≤ 13 ∧ i < 7) ∨ (a = 43 ∧ i = 0) ∨ (a = 42 ∧ i < 800)) : imO a + i < 950 := by
  have := imO_le a
  omega
theorem VI_q {S X : jS} {k : Nat} {B : mB} {rc : Nat} (hok : BOk B rc) (h : RBk (VI S k) B) (q : ∀ i, 950 * k ≤ i → i < 950 * k + 950 → X.1 53 i = S.1 53 i) : RBk (VI X k) B := by
  refine RBk.q hok h (fun i hi => ?_) (fun a i h1 h2 hi => ?_) (fun c hc => ?_) (fun a i h1 h2 hi => ?_) (fun a i h1 h2 hi => ?_) ?_ (fun i hi => ?_)
  · exact q _ (by omega) (by have := VI_lt (a := 1) (i := i) (by omega); omega)
  · exact q _ (by omega) (by have := VI_lt (a := a) (i := i) (by omega); omega)
  · exact q _ (by omega) (by have := VI_lt (a := 7) (i := c) (by omega); omega)
  · exact q _ (by omega) (by have := VI_lt (a := a) (i := i) (by omega); omega)
  · exact q _ (by omega) (by have := VI_lt (a := a) (i := i) (by omega); omega)
  · exact q _ (by omega) (by have := VI_lt (a := 43) (i := 0) (by omega); omega)
  · exact q _ (by omega) (by have := VI_lt (a := 42) (i := i) (by omega); omega)
theorem VC_q {S X : jS} {B : mB} {rc : Nat} (hok : BOk B rc) (h : RBk (VC S) B) (q : rQ0 S X) (q1 : rQ1 S X) : RBk (VC X) B := by
  have e : ∀ (Z : jS) a i, a ≠ 43 → VC Z a i = Z.1 a i := fun Z a i h => if_neg h
  refine RBk.q hok h (fun i hi => ?_) (fun a i h1 h2 hi => ?_) (fun c hc => ?_) (fun a i h1 h2 hi => ?_) (fun a i h1 h2 hi => ?_) ?_ (fun i hi => ?_)
  · rw [e _ _ _ (by omega), e _ _ _ (by omega)]; exact q1.1 i hi
  · rw [e _ _ _ (by omega), e _ _ _ (by omega)]; exact q1.2 a i h1 h2 hi
  · rw [e _ _ _ (by omega), e _ _ _ (by omega)]; exact q _ _ (by omega) (by omega)
  · rw [e _ _ _ (by omega), e _ _ _ (by omega)]; exact q _ _ (by omega) (by omega)
  · rw [e _ _ _ (by omega), e _ _ _ (by omega)]; exact q _ _ (by omega) (by omega)
  · exact q 0 44 (by omega) (by omega)
  · rw [e _ _ _ (by omega), e _ _ _ (by omega)]; exact q _ _ (by omega) (by omega)
theorem RSt.q {S X : jS} {tn : Nat} {tb : Nat → Nat} {rc : Nat} {R : Nat → mR} {B : mB} {Bi : Nat → mB} {im : Nat → Bool} (h : RSt S tn tb rc R B Bi im) (hok : AOk tn tb rc R B Bi im) (q : rQ S X) : RSt X tn tb rc R B Bi im := by
  obtain ⟨⟨h1, h1'⟩, ⟨h2, h2'⟩, h3, h4, h5, h6⟩ := h
  obtain ⟨k1, k2, k3, k4⟩ := hok
  obtain ⟨q0, q1, q2⟩ := q
  refine ⟨⟨?_, fun i hi => ?_⟩, ⟨?_, fun r hr => ⟨?_, rre_ext2 (fun a i g1 g2 => q0 a i (by omega) (by omega)) (h2' r hr).2⟩⟩, VC_q k3 h3 q0 q1, fun k hk => ⟨?_, fun e => VI_q (k4 k hk e) ((h4 k hk).2 e) (fun i g1 g2 => q0 _ _ (by omega) (by omega))⟩, ?_, ?_⟩
  · rw [q0 _ _ (by omega) (by omega)]; exact h1
  · rw [q0 _ _ (by omega) (by omega)]; exact h1' i hi
  · rw [q0 _ _ (by omega) (by omega)]; exact h2
  · rw [q0 _ _ (by omega) (by omega)]; exact (h2' r hr).1
  · rw [q0 _ _ (by omega) (by omega)]; exact (h4 k hk).1
  · rw [q2]; exact h5
  · rw [q0 _ _ (by omega) (by omega)]; exact h6
/-- a question changes nothing that counts -/
theorem INV.q {S S1 : jS} {T : jT} {X X1 : jS} (h : INV S T X) (h1 : cQ S S1) (h2 : rQ X X1) : INV S1 T X1 := by
  obtain ⟨tn, tb, rc, R, B, Bi, im, a1, a2, a3⟩ := h
  exact ⟨tn, tb, rc, R, B, Bi, im, a1.q h1, a2.q a3 h2, a3⟩
