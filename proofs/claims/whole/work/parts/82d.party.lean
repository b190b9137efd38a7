/-! reading a party: the reference -/
def fR (X0 X : jS) : Prop := ∀ n a i, kpR n a i → X.1 a i = X0.1 a i
def RD (X : jS) (N : mN) : Prop := X.1 14 0 = nI (N 0 0) ∧ X.1 14 1 = nI (N 0 1) ∧ X.1 14 2 = nI (N 0 2) ∧ (∀ c, c < N 0 1 → X.1 15 c = nI (N 1 c)) ∧ (∀ g, g < N 0 2 → X.1 16 g = nI (N 2 g) ∧ X.1 17 g = nI (N 3 g) ∧ X.1 18 g = nI (N 4 g))
/-- only the place and the fault are changed -/
def pf (X X1 : jS) : Prop := ∀ a i, ¬ (a = 0 ∧ i = 20) → ¬ (a = 0 ∧ i = 21) → X1.1 a i = X.1 a i
theorem pf.tr {X X1 X2 : jS} (h : pf X X1) (g : pf X1 X2) : pf X X2 := fun a i u v => (g a i u v).trans (h a i u v)
theorem pf.tp {X X1 : jS} {tn : Nat} {tb : Nat → Nat} (h : pf X X1) (r : RTp X tn tb) : RTp X1 tn tb := ⟨(h _ _ (by omega) (by omega)).trans r.1, fun i hi => (h _ _ (by omega) (by omega)).trans (r.2 i hi)⟩
theorem pf.rd {X X1 : jS} {N : mN} (h : pf X X1) (r : RD X N) : RD X1 N := by
  obtain ⟨a1, a2, a3, a4, a5⟩ := r
  have q : ∀ a i, 14 ≤ a → X1.1 a i = X.1 a i := fun a i u => h a i (by omega) (by omega)
  exact ⟨(q _ _ (by omega)).trans a1, (q _ _ (by omega)).trans a2, (q _ _ (by omega)).trans a3, fun c hc => (q _ _ (by omega)).trans (a4 c hc), fun g hg => ⟨(q _ _ (by omega)).trans (a5 g hg).1, (q _ _ (by omega)).trans (a5 g hg).2.1, (q _ _ (by omega)).trans (a5 g hg).2.2⟩⟩
theorem pf.fr {X0 X X1 : jS} (h : pf X X1) (r : fR X0 X) : fR X0 X1 := fun n a i k => by
  have k' := k; unfold kpR at k'
  exact (h a i (by omega) (by omega)).trans (r n a i k)
theorem pf.w20 {X : jS} {x : Int32} : pf X (wI X 0 20 x) := fun a i u v => by rw [wI_g, if_neg u]
theorem pf.w21 {X : jS} {x : Int32} : pf X (wI X 0 21 x) := fun a i u v => by rw [wI_g, if_neg v]
theorem pf.of {X X1 : jS} (h : ∀ a i, ¬ (a = 0 ∧ i = 20) → X1.1 a i = X.1 a i) : pf X X1 := fun a i u _ => h a i u
theorem r_flt {X : jS} {s e : Nat} {x : Int32} (hx : x = nI e) : f11_fails X x (nI s) = some (wI X 0 21 (if X.1 0 21 = 0 then nI (1 + 8 * s + e) else X.1 0 21), ()) := by
  unfold f11_fails; rw [hx, nI_f]
theorem f_ne {s e : Nat} (hs : s ≤ 1000) (he : e ≤ 4) : nI (1 + 8 * s + e) ≠ 0 := fun z => by
  have := nI_j (b := 0) (by omega) (by omega) z; omega
theorem r_am {tn : Nat} {tb : Nat → Nat} (ot : TpOk tn tb) {X : jS} {p lo hi : Nat} (hp : p ≤ tn) (hb : lo < 100 ∧ hi < 100) (hr : RTp X tn tb) (h2 : X.1 0 20 = nI p) : ∃ X1 v p1, f11_amount X (nI lo) (nI hi) = some (X1, v) ∧ X1.1 0 20 = nI p1 ∧ p1 ≤ tn ∧ pf X X1 ∧ (X.1 0 21 ≠ 0 → X1.1 0 21 = X.1 0 21) ∧ (X.1 0 21 = 0 → (am tn tb (sk tn tb p) lo hi = none → X1.1 0 21 = 0 ∧ v = nI (tkV tn tb (sk tn tb p)) ∧ p1 = tkE tn tb (sk tn tb p)) ∧ ∀ e, am tn tb (sk tn tb p) lo hi = some e → X1.1 0 21 = nI (1 + 8 * sk tn tb p + e)) := by
  have l := ot.1
  obtain ⟨k1, k2⟩ := sk_le (tb := tb) hp
  obtain ⟨Xb, b1, b2, b3⟩ := r_blk ot (by omega) hr h2
  have pb : pf X Xb := pf.of b3
  have rb := pb.tp hr
  have fb : Xb.1 0 21 = X.1 0 21 := b3 _ _ (by omega)
  unfold f11_amount
  rw [b1, Option.bind_some]
  dsimp only
  rw [fb, b2]
  generalize sk tn tb p = s at *
  by_cases c0 : X.1 0 21 = 0
  · rw [if_pos c0]
    by_cases cd : s < tn ∧ isD (tb s) = true
    · obtain ⟨X1, d1, d2, d3, d4⟩ := r_dig ot (by omega) rb b2 cd
      have ht := tk_dig.mp cd
      obtain ⟨t1, t2⟩ := tk_lo ht
      have re := (run_le (f := isD) (tb := tb) (Nat.le_of_lt cd.1)).2
      rw [d1, Option.bind_some, Option.bind_some]
      dsimp only
      rw [fb, c0] at d3
      by_cases c5 : 5 < run isD tn tb s - s
      · rw [if_pos ⟨rfl, c5⟩] at d3
        have h4 : tkS tn tb s = 4 := by rcases ht with h | h; (· have := t1.mp h; omega); (· exact h)
        rw [d3, if_neg (f_ne (s := s) (e := 1) (by omega) (by omega)), Option.bind_some]
        refine ⟨X1, _, _, rfl, d2, re, pb.tr d4, fun z => absurd c0 z, fun _ => ⟨fun z => ?_, fun e z => ?_⟩⟩
        · unfold am at z; rw [h4, if_neg (by decide), if_pos rfl] at z; cases z
        · unfold am at z; rw [h4, if_neg (by decide), if_pos rfl] at z
          obtain rfl := Option.some.inj z; exact d3
      · rw [if_neg (fun y => c5 y.2)] at d3
        have h3 : tkS tn tb s = 3 := t1.mpr (by omega)
        have hv := tkV_le h3
        rw [d3, if_pos rfl, r_in _ (l' := nI lo) (h' := nI hi) rfl rfl, Option.bind_some]
        have q1 : nI lo ≤ nI (tkV tn tb s) ↔ lo ≤ tkV tn tb s := nI_leI (by omega) (by omega)
        have q2 : nI (tkV tn tb s) ≤ nI hi ↔ tkV tn tb s ≤ hi := nI_leI (by omega) (by omega)
        by_cases c : lo ≤ tkV tn tb s ∧ tkV tn tb s ≤ hi
        · rw [if_pos (show nI lo ≤ nI (tkV tn tb s) ∧ nI (tkV tn tb s) ≤ nI hi from ⟨q1.mpr c.1, q2.mpr c.2⟩), if_neg (by decide), Option.bind_some]
          refine ⟨X1, _, _, rfl, d2, re, pb.tr d4, fun z => absurd c0 z, fun _ => ⟨fun z => ⟨d3, rfl, t2.symm⟩, fun e z => ?_⟩⟩
          unfold am at z; rw [if_pos h3, if_pos c] at z; cases z
        · rw [if_neg (show ¬ (nI lo ≤ nI (tkV tn tb s) ∧ nI (tkV tn tb s) ≤ nI hi) from fun y => c ⟨q1.mp y.1, q2.mp y.2⟩), if_pos rfl, r_flt (x := 1) (e := 1) rfl, Option.bind_some, Option.bind_some, d3, if_pos rfl]
          refine ⟨_, _, _, rfl, (by rw [wI_nj (by omega)]; exact d2), re, (pb.tr d4).tr pf.w21, fun z => absurd c0 z, fun _ => ⟨fun z => ?_, fun e z => ?_⟩⟩
          · unfold am at z; rw [if_pos h3, if_neg c] at z; cases z
          · unfold am at z; rw [if_pos h3, if_neg c] at z
            obtain rfl := Option.some.inj z; exact wI_self _ _ _ _
    · have n3 : ¬ tkS tn tb s = 3 := fun z => cd (tk_dig.mpr (Or.inl z))
      have n4 : ¬ tkS tn tb s = 4 := fun z => cd (tk_dig.mpr (Or.inr z))
      have ed : f11_digits Xb 99999 = some (wI Xb 0 21 (nI (1 + 8 * s + 0)), 0) := by
        unfold f11_digits
        rw [r_dgt ot (by omega) rb b2, Option.bind_some, if_neg cd, if_pos rfl, b2, r_flt (x := 0) (e := 0) rfl, Option.bind_some, fb, c0, if_pos rfl]
      rw [ed, Option.bind_some, Option.bind_some]
      dsimp only
      rw [wI_self, if_neg (f_ne (s := s) (e := 0) (by omega) (by omega)), Option.bind_some]
      refine ⟨_, _, s, rfl, (by rw [wI_nj (by omega)]; exact b2), k2, pb.tr pf.w21, fun z => absurd c0 z, fun _ => ⟨fun z => ?_, fun e z => ?_⟩⟩
      · unfold am at z; rw [if_neg n3, if_neg n4] at z; cases z
      · unfold am at z; rw [if_neg n3, if_neg n4] at z
        obtain rfl := Option.some.inj z; exact wI_self _ _ _ _
  · rw [if_neg c0, Option.bind_some]
    dsimp only
    rw [fb, if_neg c0, Option.bind_some]
    exact ⟨Xb, 0, s, rfl, b2, k2, pb, fun _ => fb, fun z => absurd z c0⟩
/-- going on: at the end; with a next clause; a fault -/
theorem r_gon {tn : Nat} {tb : Nat → Nat} (ot : TpOk tn tb) {X : jS} {p : Nat} (hp : p ≤ tn) (hr : RTp X tn tb) (h2 : X.1 0 20 = nI p) : ∃ X1 p1 r, f11_goesOn X = some (X1, r) ∧ X1.1 0 20 = nI p1 ∧ pf X X1 ∧ (X.1 0 21 ≠ 0 → X1.1 0 21 = X.1 0 21 ∧ r = 0) ∧ (X.1 0 21 = 0 → (tkS tn tb (sk tn tb p) = 1 → X1.1 0 21 = 0 ∧ r = 0) ∧ (tkS tn tb (sk tn tb p) = 8 → X1.1 0 21 = 0 ∧ r = 1 ∧ p1 = tkE tn tb (sk tn tb p)) ∧ (tkS tn tb (sk tn tb p) ≠ 1 → tkS tn tb (sk tn tb p) ≠ 8 → X1.1 0 21 = nI (1 + 8 * sk tn tb p + 0) ∧ r = 0)) := by
  have l := ot.1
  obtain ⟨k1, k2⟩ := sk_le (tb := tb) hp
  obtain ⟨Xb, b1, b2, b3⟩ := r_blk ot (by omega) hr h2
  have pb : pf X Xb := pf.of b3
  have rb := pb.tp hr
  have fb : Xb.1 0 21 = X.1 0 21 := b3 _ _ (by omega)
  unfold f11_goesOn
  rw [b1, Option.bind_some]
  dsimp only
  rw [fb, rb.1, b2]
  generalize sk tn tb p = s at *
  have e1 : nI s + 1 = nI (s + 1) := nI_add s 1
  have q : nI tn ≤ nI s ↔ tn ≤ s := nI_leI (by omega) (by omega)
  by_cases c0 : X.1 0 21 = 0
  · rw [if_pos c0]
    by_cases ce : tn ≤ s
    · have t1 := (tk_end (tb := tb)).mp ce
      rw [if_pos (q.mpr ce), Option.bind_some, fb, rb.1, b2, if_pos c0, if_pos (q.mpr ce), if_pos (Or.inl rfl)]
      refine ⟨_, _, _, rfl, wI_self _ _ _ _, pb.tr pf.w20, fun z => absurd c0 z, fun _ => ⟨fun _ => ⟨by rw [wI_nj (by omega), fb, c0], rfl⟩, fun z => absurd (t1.symm.trans z) (by decide), fun z => absurd t1 z⟩⟩
    · have t1 : tkS tn tb s ≠ 1 := fun z => ce (tk_end.mpr z)
      rw [if_neg (fun y => ce (q.mp y)), r_sg ot (by omega) rb b2, Option.bind_some]
      by_cases c8 : tkS tn tb s = 8
      · have te : tkE tn tb s = s + 1 := (tk_m (by rw [c8]; decide)).1
        rw [if_pos ((mk_nxt ot).mpr c8), Option.bind_some, fb, rb.1, b2, if_pos c0, if_neg (fun y => ce (q.mp y)), if_pos (Or.inr rfl), e1]
        refine ⟨_, _, _, rfl, wI_self _ _ _ _, pb.tr pf.w20, fun z => absurd c0 z, fun _ => ⟨fun z => absurd z t1, fun _ => ⟨by rw [wI_nj (by omega), fb, c0], rfl, te.symm⟩, fun _ z => absurd c8 z⟩⟩
      · rw [if_neg (fun y => c8 ((mk_nxt ot).mp y)), r_flt (x := 0) (e := 0) rfl, Option.bind_some, Option.bind_some, fb, c0, if_pos rfl]
        dsimp only
        rw [wI_self, if_neg (f_ne (s := s) (e := 0) (by omega) (by omega)), if_pos (Or.inl rfl), wI_nj (by omega), b2, e1]
        refine ⟨_, _, _, rfl, wI_self _ _ _ _, (pb.tr pf.w21).tr pf.w20, fun z => absurd rfl z, fun _ => ⟨fun z => absurd z t1, fun z => absurd z c8, fun _ _ => ⟨by rw [wI_nj (by omega), wI_self], rfl⟩⟩⟩
  · rw [if_neg c0, Option.bind_some, fb, b2, if_neg c0, if_pos (Or.inl rfl)]
    refine ⟨_, _, _, rfl, (by rw [wI_self, e1]), pb.tr pf.w20, fun _ => ⟨by rw [wI_nj (by omega), fb], rfl⟩, fun z => absurd z c0⟩
