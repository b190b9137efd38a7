/-! a clause of a party: both -/
theorem am_none {tn : Nat} {tb : Nat → Nat} {s lo hi : Nat} (h : am tn tb s lo hi = none) : tkS tn tb s = 3 ∧ lo ≤ tkV tn tb s ∧ tkV tn tb s ≤ hi := by
  unfold am at h
  split at h
  · rename_i c
    split at h
    · rename_i c2; exact ⟨c, c2⟩
    · cases h
  · split at h <;> cases h
theorem am_le {tn : Nat} {tb : Nat → Nat} {s lo hi e : Nat} (h : am tn tb s lo hi = some e) : e ≤ 1 := by
  unfold am at h
  split at h
  · split at h
    · cases h
    · have := Option.some.inj h; omega
  · split at h <;> have := Option.some.inj h <;> omega
theorem tk3_lt {tn : Nat} {tb : Nat → Nat} {p : Nat} (hp : p ≤ tn) (h : tkS tn tb (sk tn tb p) = 3) : p + 1 ≤ tkE tn tb (sk tn tb p) ∧ tkE tn tb (sk tn tb p) ≤ tn := by
  have h1 := (tk_dig.mpr (Or.inl h)).1
  have h2 := sk_le (tb := tb) hp
  have h3 := tk_step (tb := tb) h1
  omega
/-- the outcome of a clause behind its word -/
def PO (S0 X0 S X1 : jS) (tn : Nat) (tb : Nat → Nat) (p n m k : Nat) : Prop := (∃ f S', f ≠ 0 ∧ f < 2 ^ 31 ∧ RF X0 X1 tn tb f ∧ f5_read_L1 (m + 3) S (nI k) = some (S', nI f) ∧ fC S0 S') ∨ (∃ S' N' p2 t, t ≤ 3 ∧ f5_read_L1 (m + 3) S (nI k) = f5_read_L1 (m + 3 - t) S' (nI (k + t)) ∧ C5 S0 S' tn tb p2 N' 2 n ∧ R5 X0 X1 tn tb p2 N' ∧ DOk N' ∧ 4 ≤ N' 0 0 ∧ p + t ≤ p2 ∧ p2 ≤ tn)
theorem po5 {S0 X0 S X : jS} {tn : Nat} {tb : Nat → Nat} (ot : TpOk tn tb) {p : Nat} {N : mN} {n m k : Nat} (hC : C5 S0 S tn tb p N 1 n) (hR : R5 X0 X tn tb p N) (hp : p ≤ tn) (hk : k ≤ p) (hD : DOk N) (hz : S.1 3 4 = 5) (hj : S.1 3 3 = nI 0) (h1 : N 0 1 = 0) (h2 : N 0 2 = 0) : ∃ X1, f11_partyPart X 0 = some (X1, ()) ∧ PO S0 X0 S X1 tn tb p n m k := by
  have l := ot.1
  obtain ⟨r1, r2, r3, r4, r5⟩ := hR
  obtain ⟨n1, -, -, n4⟩ := c5N (m := m + 2) (k := k) (v := fun _ => 0) ot hC hp (by omega) hD hz (Or.inl rfl) hj (by omega) (Or.inr rfl) (Or.inl rfl) (fun i hi => by omega) (fun z => absurd z (by decide)) (fun z => absurd z (by decide))
  obtain ⟨X1, v, p1, a1, a2, a3, a4, -, a6⟩ := r_am (lo := 4) (hi := 24) ot hp (by omega) r1 r2
  obtain ⟨a7, a8⟩ := a6 r3
  have hk2 := sk_le (tb := tb) hp
  have eL : nLo 5 0 = 4 := rfl
  have eH : nHi 5 0 (N 0 0) = 24 := rfl
  rw [eL, eH] at n1 n4
  unfold f11_partyPart
  rw [if_pos rfl, show f11_amount X 4 24 = some (X1, v) from a1, Option.bind_some]
  refine ⟨wI X1 14 0 v, rfl, ?_⟩
  cases ha : am tn tb (sk tn tb p) 4 24 with
  | some e =>
    have he := am_le ha
    obtain ⟨S', s1, s2⟩ := n1 e ha
    exact Or.inl ⟨1 + 8 * sk tn tb p + e, S', by omega, by omega, ⟨(a4.tp r1).w (by omega) (by omega), ⟨p1, a3, by rw [wI_ne (by omega)]; exact a2⟩, by rw [wI_ne (by omega)]; exact a8 e ha, (a4.fr r5).w (by omega)⟩, s1, s2⟩
  | none =>
    obtain ⟨b1, b2, b3⟩ := am_none ha
    obtain ⟨c1, c2, c3⟩ := a7 ha
    obtain ⟨S', s1, s2⟩ := n4 ha (fun z => absurd z (by decide)) (fun z => absurd z (by decide))
    rw [if_pos rfl] at s2
    have tk := tk3_lt hp b1
    obtain ⟨d1, d2, d3, d4, d5⟩ := a4.rd r4
    refine Or.inr ⟨S', _, _, 1, by omega, s1, s2, ⟨(a4.tp r1).w (by omega) (by omega), by rw [wI_ne (by omega), a2, c3], by rw [wI_ne (by omega)]; exact c1, ⟨by rw [wI_self, c2]; rfl, by rw [wI_nj (by omega)]; exact d2, by rw [wI_nj (by omega)]; exact d3, fun c hc => ?_, fun g hg => ?_⟩, (a4.fr r5).w (by omega)⟩, dPl_ok hD h1 h2 b3, b2, by omega, by omega⟩
    · have : c < N 0 1 := hc
      omega
    · have : g < N 0 2 := hg
      omega
theorem r_chF {l1 l2 : Int32} {N : mN} : ∀ n k X, N 0 1 - k < n → k ≤ N 0 1 → N 0 1 ≤ 6 → X.1 14 1 = nI (N 0 1) → X.1 0 21 ≠ 0 → f11_chairPart_L1 l1 l2 n X (nI k) = some X := by
  intro n
  induction n with
  | zero => intro k X h; omega
  | succ n ih =>
    intro k X hn hk h6 h1 hf
    have e1 : nI k + 1 = nI (k + 1) := nI_add k 1
    rw [f11_chairPart_L1, h1, e1]
    by_cases c : k < N 0 1
    · rw [if_neg (by rw [nI_leI (by omega) (by omega)]; omega), if_neg hf, Option.bind_some]
      exact ih (k + 1) X (by omega) (by omega) h6 h1 hf
    · rw [if_pos (by rw [nI_leI (by omega) (by omega)]; omega)]
theorem po6 {S0 X0 S X : jS} {tn : Nat} {tb : Nat → Nat} (ot : TpOk tn tb) {p : Nat} {N : mN} {n m k : Nat} (hC : C5 S0 S tn tb p N 1 n) (hR : R5 X0 X tn tb p N) (hp : p ≤ tn) (hk : k ≤ p) (hD : DOk N) (hz : S.1 3 4 = 6) (hj : S.1 3 3 = nI 0) (hP : 4 ≤ N 0 0) (h6 : N 0 1 < 6) : ∃ X1, f11_partyPart X 1 = some (X1, ()) ∧ PO S0 X0 S X1 tn tb p n m k := by
  have l := ot.1
  have l0 := hD.1
  obtain ⟨r1, r2, r3, r4, r5⟩ := hR
  obtain ⟨n1, n2, -, n4⟩ := c5N (m := m + 2) (k := k) (v := fun _ => 0) ot hC hp (by omega) hD hz (Or.inr (Or.inl rfl)) hj (by omega) (Or.inr rfl) (Or.inr hP) (fun i hi => by omega) (fun _ => h6) (fun z => absurd z (by decide))
  have eL : nLo 6 0 = 0 := rfl
  have eH : nHi 6 0 (N 0 0) = N 0 0 - 1 := rfl
  rw [eL, eH] at n1 n2 n4
  have hk2 := sk_le (tb := tb) hp
  obtain ⟨Xb, b1, b2, b3⟩ := r_blk ot (by omega) r1 r2
  have pb : pf X Xb := pf.of b3
  have rb := pb.tp r1
  have fb : Xb.1 0 21 = 0 := (b3 _ _ (by omega)).trans r3
  have eP : Xb.1 14 0 - 1 = nI (N 0 0 - 1) := by
    rw [(pb.rd r4).1]; exact nI_sub (b := 1) (by omega)
  obtain ⟨X1, v, p1, a1, a2, a3, a4, -, a6⟩ := r_am (lo := 0) (hi := N 0 0 - 1) ot hk2.2 (by omega) rb b2
  rw [show sk tn tb (sk tn tb p) = sk tn tb p from run_id hp] at a6
  obtain ⟨a7, a8⟩ := a6 fb
  have p1' := pb.tr a4
  have rd1 := p1'.rd r4
  have e1 : nI (N 0 1) + 1 = nI (N 0 1 + 1) := nI_add _ 1
  unfold f11_partyPart
  rw [if_neg (by decide), if_pos rfl]
  unfold f11_chairPart
  rw [b1, Option.bind_some]
  dsimp only
  rw [eP, show f11_amount Xb 0 (nI (N 0 0 - 1)) = some (X1, v) from a1, Option.bind_some, b2]
  dsimp only
  cases ha : am tn tb (sk tn tb p) 0 (N 0 0 - 1) with
  | some e =>
    have he := am_le ha
    obtain ⟨S', s1, s2⟩ := n1 e ha
    have hf : X1.1 0 21 ≠ 0 := by rw [a8 e ha]; exact f_ne (by omega) (by omega)
    rw [show f11_chairPart_L1 (nI (sk tn tb p)) v jF X1 0 = some X1 from r_chF (N := N) jF 0 X1 (by unfold jF; omega) (by omega) (by omega) rd1.2.1 hf, Option.bind_some, rd1.2.1, inbk (by omega) h6, if_pos rfl, Option.bind_some]
    refine ⟨_, rfl, Or.inl ⟨1 + 8 * sk tn tb p + e, S', by omega, by omega, ⟨((p1'.tp r1).w (by omega) (by omega)).w (by omega) (by omega), ⟨p1, a3, by rw [wI_ne (by omega), wI_ne (by omega)]; exact a2⟩, by rw [wI_ne (by omega), wI_ne (by omega)]; exact a8 e ha, ((p1'.fr r5).w (by omega)).w (by omega)⟩, s1, s2⟩⟩
  | none =>
    obtain ⟨t1, t2, t3⟩ := am_none ha
    obtain ⟨c1, c2, c3⟩ := a7 ha
    have hv := tkV_le t1
    obtain ⟨X2, d1, d2, d3, -, d5⟩ := r_chs (X0 := X1) (s := sk tn tb p) (v := tkV tn tb (sk tn tb p)) hD (by omega) rd1.2.1 rd1.2.2.2.1 jF 0 X1 (by unfold jF; omega) (by omega) (fun _ _ _ _ => rfl)
    have p2' := p1'.tr d2
    have rd2 := p2'.rd r4
    rw [c2, show f11_chairPart_L1 (nI (sk tn tb p)) (nI (tkV tn tb (sk tn tb p))) jF X1 0 = some X2 from d1, Option.bind_some, rd2.2.1, inbk (by omega) h6, if_pos rfl, Option.bind_some, nI_clamp (by omega), wI_ne (by omega), rd2.2.1, e1]
    refine ⟨_, rfl, ?_⟩
    by_cases hh : ∃ c, c < N 0 1 ∧ N 1 c = tkV tn tb (sk tn tb p)
    · obtain ⟨S', s1, s2⟩ := n2 ha rfl hh
      obtain ⟨c, x1, x2⟩ := hh
      have hf : X2.1 0 21 = nI (1 + 8 * sk tn tb p + 1) := by
        rcases (d5 c1).1 ⟨c, by omega, x1, x2⟩ with y | y
        · exact y
        · exact absurd y (f_ne (by omega) (by omega))
      exact Or.inl ⟨1 + 8 * sk tn tb p + 1, S', by omega, by omega, ⟨((p2'.tp r1).w (by omega) (by omega)).w (by omega) (by omega), ⟨p1, a3, by rw [wI_ne (by omega), wI_ne (by omega), d3]; exact a2⟩, by rw [wI_ne (by omega), wI_ne (by omega)]; exact hf, ((p2'.fr r5).w (by omega)).w (by omega)⟩, s1, s2⟩
    · obtain ⟨S', s1, s2⟩ := n4 ha (fun _ => hh) (fun z => absurd z (by decide))
      rw [if_neg (by decide), if_pos rfl] at s2
      have tk := tk3_lt hp t1
      have hf : X2.1 0 21 = 0 := (d5 c1).2 (fun c _ x1 x2 => hh ⟨c, x1, x2⟩)
      refine Or.inr ⟨S', _, _, 1, by omega, s1, s2, ⟨((p2'.tp r1).w (by omega) (by omega)).w (by omega) (by omega), by rw [wI_ne (by omega), wI_ne (by omega), d3, a2, c3], by rw [wI_ne (by omega), wI_ne (by omega)]; exact hf, ⟨by rw [wI_nj (by omega), wI_ne (by omega)]; exact rd2.1, by rw [wI_self]; rfl, by rw [wI_nj (by omega), wI_ne (by omega)]; exact rd2.2.2.1, fun c hc => ?_, fun g hg => ?_⟩, ((p2'.fr r5).w (by omega)).w (by omega)⟩, dCh_ok hD h6 (by omega), hP, by omega, by omega⟩
      · have hc' : c < N 0 1 + 1 := hc
        rw [wI_ne (by omega), wI_g]
        unfold dCh
        rw [if_neg (show ¬ ((1 : Nat) = 0 ∧ c = 1) by omega), if_neg (show ¬ ((1 : Nat) = 0 ∧ c = 3) by omega)]
        by_cases e : c = N 0 1
        · rw [if_pos ⟨rfl, e⟩, if_pos ⟨rfl, e⟩]
        · rw [if_neg (fun y => e y.2), if_neg (fun y => e y.2)]; exact rd2.2.2.2.1 c (by omega)
      · rw [wI_ne (by omega), wI_ne (by omega), wI_ne (by omega), wI_ne (by omega), wI_ne (by omega), wI_ne (by omega)]; exact rd2.2.2.2.2 g hg
