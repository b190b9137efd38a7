/-! EVERY CALL OF THE LAW: the class's and the reference's, in one -/
/-- after the class's call: what it answered the reference will answer too, and both are alike then -/
def CQ (M' : jM) (A : List jV) (T0 TX : jT) (X : jS) (v : Option jV) (μ1 : jMem) : Prop := ∃ S1 T1 X1 r d', v = some (vi r) ∧ μ1 = ((S1, T1), (X, TX)) ∧ INV S1 T1 X1 ∧ GL T1 ∧ T1.2.2.2.1 0 = T0.2.2.2.1 0 ∧ d' ≤ 1200 ∧ Ret M' d' 0 0 (rm 0 :: A) μ1 (some (vi r)) ((S1, T1), (X1, TX))
def CP (M M' : jM) (A : List jV) : Prop := ∃ d mc ms, d ≤ 1200 ∧ mc ≤ 159 ∧ ms ≤ 1271 ∧ ∀ S T X TX, GL T → LayM TX → INV S T X → ∃ Q', RetQ M d mc ms (rc 0 :: A) ((S, T), (X, TX)) Q' ∧ ∀ v μ1, Q' v μ1 → CQ M' A T TX X v μ1
theorem cpL_feed {a0 a1 a2 a3 a4 : Int32} : CP M10_feed M11_feed [vi a0, vi a1, vi a2, vi a3, vi a4] := by
  refine ⟨2, 0, 0, by decide, by decide, by decide, fun S T X TX hG hM h => ?_⟩
  · obtain ⟨S1, X1, x, h1, h2, hi⟩ := k_feed h a0 a1 a2 a3 a4
    refine ⟨_, ret10_feed hG.1 h1, fun v μ1 hq => ?_⟩
    obtain ⟨rfl, rfl⟩ := hq
    exact ⟨S1, T, X1, x, 2, rfl, rfl, hi, hG, rfl, by decide, ret11_feed hM h2⟩
theorem cpL_end {a0 : Int32} : CP M10_end M11_end [vi a0] := by
  refine ⟨1, 0, 0, by decide, by decide, by decide, fun S T X TX hG hM h => ?_⟩
  · obtain ⟨S1, X1, x, h1, h2, hi⟩ := k_end h a0
    refine ⟨_, ret10_end hG.1 h1, fun v μ1 hq => ?_⟩
    obtain ⟨rfl, rfl⟩ := hq
    exact ⟨S1, T, X1, x, 1, rfl, rfl, hi, hG, rfl, by decide, ret11_end hM h2⟩
theorem cpL_party : CP M10_party M11_party [] := by
  refine ⟨9, 0, 0, by decide, by decide, by decide, fun S T X TX hG hM h => ?_⟩
  · obtain ⟨S1, X1, x, h1, h2, hi⟩ := k_party h
    refine ⟨_, ret10_party hG.1 h1, fun v μ1 hq => ?_⟩
    obtain ⟨rfl, rfl⟩ := hq
    exact ⟨S1, T, X1, x, 9, rfl, rfl, hi, hG, rfl, by decide, ret11_party hM h2⟩
theorem cpL_rule : CP M10_rule M11_rule [] := by
  refine ⟨9, 3, 466, ?_, ?_, ?_, fun S T X TX hG hM h => ⟨_, ret10_rule hG h, fun v μ1 hq => ?_⟩⟩
  · decide
  · decide
  · decide
  obtain ⟨S1, T1, X1, x, rfl, rfl, hr, hi, hg, ha⟩ := hq
  exact ⟨S1, T1, X1, x, 13, rfl, rfl, hi, hg, ha, by decide, ret11_rule hM hr⟩
theorem cpL_force {a0 : Int32} : CP M10_force M11_force [vi a0] := by
  refine ⟨1, 0, 0, by decide, by decide, by decide, fun S T X TX hG hM h => ?_⟩
  · obtain ⟨S1, X1, x, h1, h2, hi⟩ := k_force h a0
    refine ⟨_, ret10_force hG.1 h1, fun v μ1 hq => ?_⟩
    obtain ⟨rfl, rfl⟩ := hq
    exact ⟨S1, T, X1, x, 2, rfl, rfl, hi, hG, rfl, by decide, ret11_force hM h2⟩
theorem cpL_chair {a0 a1 : Int32} : CP M10_chair M11_chair [vi a0, vi a1] := by
  refine ⟨2, 0, 0, by decide, by decide, by decide, fun S T X TX hG hM h => ?_⟩
  · obtain ⟨x, h1, h2⟩ := k_chair h a0 a1
    refine ⟨_, ret10_chair hG.1 h1, fun v μ1 hq => ?_⟩
    obtain ⟨rfl, rfl⟩ := hq
    exact ⟨S, T, X, x, 3, rfl, rfl, h, hG, rfl, by decide, ret11_chair hM h2⟩
theorem cpL_guest {a0 a1 : Int32} : CP M10_guest M11_guest [vi a0, vi a1] := by
  refine ⟨2, 0, 0, by decide, by decide, by decide, fun S T X TX hG hM h => ?_⟩
  · obtain ⟨x, h1, h2⟩ := k_guest h a0 a1
    refine ⟨_, ret10_guest hG.1 h1, fun v μ1 hq => ?_⟩
    obtain ⟨rfl, rfl⟩ := hq
    exact ⟨S, T, X, x, 3, rfl, rfl, h, hG, rfl, by decide, ret11_guest hM h2⟩
theorem cpL_time {a0 a1 : Int32} : CP M10_time M11_time [vi a0, vi a1] := by
  refine ⟨3, 0, 0, by decide, by decide, by decide, fun S T X TX hG hM h => ?_⟩
  · obtain ⟨x, h1, h2⟩ := k_time h a0 a1
    refine ⟨_, ret10_time hG.1 h1, fun v μ1 hq => ?_⟩
    obtain ⟨rfl, rfl⟩ := hq
    exact ⟨S, T, X, x, 3, rfl, rfl, h, hG, rfl, by decide, ret11_time hM h2⟩
theorem cpL_round : CP M10_round M11_round [] := by
  refine ⟨6, 7, 55, ?_, ?_, ?_, fun S T X TX hG hM h => ⟨_, ret10_round hG h, fun v μ1 hq => ?_⟩⟩
  · decide
  · decide
  · decide
  obtain ⟨S1, T1, X1, x, rfl, rfl, hr, hi, hg, ha⟩ := hq
  exact ⟨S1, T1, X1, x, 7, rfl, rfl, hi, hg, ha, by decide, ret11_round hM hr⟩
theorem cpL_play {a0 : Int32} : CP M10_play M11_play [vi a0] := by
  refine ⟨6, 7, 55, ?_, ?_, ?_, fun S T X TX hG hM h => ⟨_, ret10_play hG h, fun v μ1 hq => ?_⟩⟩
  · decide
  · decide
  · decide
  obtain ⟨S1, T1, X1, x, rfl, rfl, hr, hi, hg, ha⟩ := hq
  exact ⟨S1, T1, X1, x, 7, rfl, rfl, hi, hg, ha, by decide, ret11_play hM hr⟩
theorem cpL_swap {a0 a1 : Int32} : CP M10_swap M11_swap [vi a0, vi a1] := by
  refine ⟨5, 7, 55, ?_, ?_, ?_, fun S T X TX hG hM h => ⟨_, ret10_swap hG h, fun v μ1 hq => ?_⟩⟩
  · decide
  · decide
  · decide
  obtain ⟨S1, T1, X1, x, rfl, rfl, hr, hi, hg, ha⟩ := hq
  exact ⟨S1, T1, X1, x, 5, rfl, rfl, hi, hg, ha, by decide, ret11_swap hM hr⟩
theorem cpL_pace {a0 a1 : Int32} : CP M10_pace M11_pace [vi a0, vi a1] := by
  refine ⟨5, 7, 55, ?_, ?_, ?_, fun S T X TX hG hM h => ⟨_, ret10_pace hG h, fun v μ1 hq => ?_⟩⟩
  · decide
  · decide
  · decide
  obtain ⟨S1, T1, X1, x, rfl, rfl, hr, hi, hg, ha⟩ := hq
  exact ⟨S1, T1, X1, x, 5, rfl, rfl, hi, hg, ha, by decide, ret11_pace hM hr⟩
theorem cpL_bring {a0 : Int32} : CP M10_bring M11_bring [vi a0] := by
  refine ⟨5, 7, 55, ?_, ?_, ?_, fun S T X TX hG hM h => ⟨_, ret10_bring hG h, fun v μ1 hq => ?_⟩⟩
  · decide
  · decide
  · decide
  obtain ⟨S1, T1, X1, x, rfl, rfl, hr, hi, hg, ha⟩ := hq
  exact ⟨S1, T1, X1, x, 5, rfl, rfl, hi, hg, ha, by decide, ret11_bring hM hr⟩
theorem cpL_undo : CP M10_undo M11_undo [] := by
  refine ⟨4, 0, 0, by decide, by decide, by decide, fun S T X TX hG hM h => ?_⟩
  · obtain ⟨S1, X1, x, h1, h2, hi⟩ := k_undo h
    refine ⟨_, ret10_undo hG.1 h1, fun v μ1 hq => ?_⟩
    obtain ⟨rfl, rfl⟩ := hq
    exact ⟨S1, T, X1, x, 4, rfl, rfl, hi, hG, rfl, by decide, ret11_undo hM h2⟩
theorem cpL_ahead {a0 a1 a2 : Int32} : CP M10_ahead M11_ahead [vi a0, vi a1, vi a2] := by
  refine ⟨7, 0, 0, by decide, by decide, by decide, fun S T X TX hG hM h => ?_⟩
  · obtain ⟨S1, X1, x, h1, h2, hi⟩ := k_ahead h a0 a1 a2
    refine ⟨_, ret10_ahead hG.1 h1, fun v μ1 hq => ?_⟩
    obtain ⟨rfl, rfl⟩ := hq
    exact ⟨S1, T, X1, x, 8, rfl, rfl, hi, hG, rfl, by decide, ret11_ahead hM h2⟩
theorem cpL_winner {a0 : Int32} : CP M10_winner M11_winner [vi a0] := by
  refine ⟨7, 0, 0, by decide, by decide, by decide, fun S T X TX hG hM h => ?_⟩
  · obtain ⟨S1, X1, x, h1, h2, hi⟩ := k_winner h a0
    refine ⟨_, ret10_winner hG.1 h1, fun v μ1 hq => ?_⟩
    obtain ⟨rfl, rfl⟩ := hq
    exact ⟨S1, T, X1, x, 7, rfl, rfl, hi, hG, rfl, by decide, ret11_winner hM h2⟩
theorem cpL_gone {a0 : Int32} : CP M10_gone M11_gone [vi a0] := by
  refine ⟨7, 0, 0, by decide, by decide, by decide, fun S T X TX hG hM h => ?_⟩
  · obtain ⟨S1, X1, x, h1, h2, hi⟩ := k_gone h a0
    refine ⟨_, ret10_gone hG.1 h1, fun v μ1 hq => ?_⟩
    obtain ⟨rfl, rfl⟩ := hq
    exact ⟨S1, T, X1, x, 7, rfl, rfl, hi, hG, rfl, by decide, ret11_gone hM h2⟩
theorem cpL_safe {a0 a1 : Int32} : CP M10_safe M11_safe [vi a0, vi a1] := by
  refine ⟨7, 0, 0, by decide, by decide, by decide, fun S T X TX hG hM h => ?_⟩
  · obtain ⟨S1, X1, x, h1, h2, hi⟩ := k_safe h a0 a1
    refine ⟨_, ret10_safe hG.1 h1, fun v μ1 hq => ?_⟩
    obtain ⟨rfl, rfl⟩ := hq
    exact ⟨S1, T, X1, x, 7, rfl, rfl, hi, hG, rfl, by decide, ret11_safe hM h2⟩
theorem cpL_row {a0 a1 a2 : Int32} : CP M10_row M11_row [vi a0, vi a1, vi a2] := by
  refine ⟨11, 0, 0, by decide, by decide, by decide, fun S T X TX hG hM h => ?_⟩
  · obtain ⟨S1, X1, x, h1, h2, hi⟩ := k_row hG.1 h a0 a1 a2
    refine ⟨_, ret10_row hG.1 h1, fun v μ1 hq => ?_⟩
    obtain ⟨rfl, rfl⟩ := hq
    exact ⟨S1, T, X1, x, 8, rfl, rfl, hi, hG, rfl, by decide, ret11_row hM h2⟩
theorem cpL_within {a0 : Int32} : CP M10_within M11_within [vi a0] := by
  refine ⟨5, 0, 0, by decide, by decide, by decide, fun S T X TX hG hM h => ?_⟩
  · obtain ⟨S1, X1, x, h1, h2, hi⟩ := k_within a0 h
    refine ⟨_, ret10_within hG.1 h1, fun v μ1 hq => ?_⟩
    obtain ⟨rfl, rfl⟩ := hq
    exact ⟨S1, T, X1, x, 2, rfl, rfl, hi, hG, rfl, by decide, ret11_within hM h2⟩
theorem cpL_kind {a0 : Int32} : CP M10_kind M11_kind [vi a0] := by
  refine ⟨5, 0, 0, by decide, by decide, by decide, fun S T X TX hG hM h => ?_⟩
  · obtain ⟨S1, X1, x, h1, h2, hi⟩ := k_kind hG.2.1 h a0
    refine ⟨_, ret10_kind hG.1 h1, fun v μ1 hq => ?_⟩
    obtain ⟨rfl, rfl⟩ := hq
    exact ⟨S1, T, X1, x, 4, rfl, rfl, hi, hG, rfl, by decide, ret11_kind hM h2⟩
theorem cpL_longest : CP M10_longest M11_longest [] := by
  refine ⟨5, 0, 0, by decide, by decide, by decide, fun S T X TX hG hM h => ?_⟩
  · obtain ⟨S1, X1, x, h1, h2, hi⟩ := k_longest hG.2.1 h
    refine ⟨_, ret10_longest hG.1 h1, fun v μ1 hq => ?_⟩
    obtain ⟨rfl, rfl⟩ := hq
    exact ⟨S1, T, X1, x, 4, rfl, rfl, hi, hG, rfl, by decide, ret11_longest hM h2⟩
theorem cpL_meet {a0 a1 : Int32} : CP M10_meet M11_meet [vi a0, vi a1] := by
  refine ⟨4, 0, 0, by decide, by decide, by decide, fun S T X TX hG hM h => ?_⟩
  · obtain ⟨x, h1, h2⟩ := k_meet h a0 a1
    refine ⟨_, ret10_meet hG.1 h1, fun v μ1 hq => ?_⟩
    obtain ⟨rfl, rfl⟩ := hq
    exact ⟨S, T, X, x, 4, rfl, rfl, h, hG, rfl, by decide, ret11_meet hM h2⟩
theorem cpL_tour : CP M10_tour M11_tour [] := by
  refine ⟨3, 0, 0, by decide, by decide, by decide, fun S T X TX hG hM h => ?_⟩
  · obtain ⟨x, h1, h2⟩ := k_tour h
    refine ⟨_, ret10_tour hG.1 h1, fun v μ1 hq => ?_⟩
    obtain ⟨rfl, rfl⟩ := hq
    exact ⟨S, T, X, x, 3, rfl, rfl, h, hG, rfl, by decide, ret11_tour hM h2⟩
theorem cpL_away {a0 a1 a2 : Int32} : CP M10_away M11_away [vi a0, vi a1, vi a2] := by
  refine ⟨8, 0, 0, by decide, by decide, by decide, fun S T X TX hG hM h => ?_⟩
  · obtain ⟨S1, X1, x, h1, h2, hi⟩ := k_away h a0 a1 a2
    refine ⟨_, ret10_away hG.1 h1, fun v μ1 hq => ?_⟩
    obtain ⟨rfl, rfl⟩ := hq
    exact ⟨S1, T, X1, x, 8, rfl, rfl, hi, hG, rfl, by decide, ret11_away hM h2⟩
theorem cpL_begin {a0 a1 a2 : Int32} : CP M10_begin M11_begin [vi a0, vi a1, vi a2] := by
  refine ⟨8, 0, 0, by decide, by decide, by decide, fun S T X TX hG hM h => ?_⟩
  · obtain ⟨S1, X1, x, h1, h2, hi⟩ := k_begin h a0 a1 a2
    refine ⟨_, ret10_begin hG.1 h1, fun v μ1 hq => ?_⟩
    obtain ⟨rfl, rfl⟩ := hq
    exact ⟨S1, T, X1, x, 8, rfl, rfl, hi, hG, rfl, by decide, ret11_begin hM h2⟩
theorem cpL_steps {a0 : Int32} : CP M10_steps M11_steps [vi a0] := by
  refine ⟨8, 0, 0, by decide, by decide, by decide, fun S T X TX hG hM h => ?_⟩
  · obtain ⟨S1, X1, x, h1, h2, hi⟩ := k_steps h a0
    refine ⟨_, ret10_steps hG.1 h1, fun v μ1 hq => ?_⟩
    obtain ⟨rfl, rfl⟩ := hq
    exact ⟨S1, T, X1, x, 8, rfl, rfl, hi, hG, rfl, by decide, ret11_steps hM h2⟩
theorem cpL_quicks {a0 : Int32} : CP M10_quicks M11_quicks [vi a0] := by
  refine ⟨8, 0, 0, by decide, by decide, by decide, fun S T X TX hG hM h => ?_⟩
  · obtain ⟨S1, X1, x, h1, h2, hi⟩ := k_quicks h a0
    refine ⟨_, ret10_quicks hG.1 h1, fun v μ1 hq => ?_⟩
    obtain ⟨rfl, rfl⟩ := hq
    exact ⟨S1, T, X1, x, 8, rfl, rfl, hi, hG, rfl, by decide, ret11_quicks hM h2⟩
theorem cpL_rests {a0 a1 a2 a3 : Int32} : CP M10_rests M11_rests [vi a0, vi a1, vi a2, vi a3] := by
  refine ⟨7, 0, 0, by decide, by decide, by decide, fun S T X TX hG hM h => ?_⟩
  · obtain ⟨S1, X1, x, h1, h2, hi⟩ := k_rests h a0 a1 a2 a3
    refine ⟨_, ret10_rests hG.1 h1, fun v μ1 hq => ?_⟩
    obtain ⟨rfl, rfl⟩ := hq
    exact ⟨S1, T, X1, x, 8, rfl, rfl, hi, hG, rfl, by decide, ret11_rests hM h2⟩
theorem cpL_pence {a0 a1 : Int32} : CP M10_pence M11_pence [vi a0, vi a1] := by
  refine ⟨2, 0, 0, by decide, by decide, by decide, fun S T X TX hG hM h => ?_⟩
  · obtain ⟨x, h1, h2⟩ := k_pence h a0 a1
    refine ⟨_, ret10_pence hG.1 h1, fun v μ1 hq => ?_⟩
    obtain ⟨rfl, rfl⟩ := hq
    exact ⟨S, T, X, x, 3, rfl, rfl, h, hG, rfl, by decide, ret11_pence hM h2⟩
theorem cpL_note {a0 a1 a2 : Int32} : CP M10_note M11_note [vi a0, vi a1, vi a2] := by
  refine ⟨2, 0, 0, by decide, by decide, by decide, fun S T X TX hG hM h => ?_⟩
  · obtain ⟨S1, X1, x, h1, h2, hi⟩ := k_note h a0 a1 a2
    refine ⟨_, ret10_note hG.1 h1, fun v μ1 hq => ?_⟩
    obtain ⟨rfl, rfl⟩ := hq
    exact ⟨S1, T, X1, x, 3, rfl, rfl, hi, hG, rfl, by decide, ret11_note hM h2⟩
theorem cpL_ruled {a0 : Int32} : CP M10_ruled M11_ruled [vi a0] := by
  refine ⟨8, 0, 0, by decide, by decide, by decide, fun S T X TX hG hM h => ?_⟩
  · obtain ⟨S1, X1, x, h1, h2, hi⟩ := k_ruled h a0
    refine ⟨_, ret10_ruled hG.1 h1, fun v μ1 hq => ?_⟩
    obtain ⟨rfl, rfl⟩ := hq
    exact ⟨S1, T, X1, x, 9, rfl, rfl, hi, hG, rfl, by decide, ret11_ruled hM h2⟩
theorem cpL_look {a0 a1 : Int32} : CP M10_look M11_look [vi a0, vi a1] := by
  refine ⟨8, 0, 0, by decide, by decide, by decide, fun S T X TX hG hM h => ?_⟩
  · obtain ⟨S1, X1, x, h1, h2, hi⟩ := k_look h a0 a1
    refine ⟨_, ret10_look hG.1 h1, fun v μ1 hq => ?_⟩
    obtain ⟨rfl, rfl⟩ := hq
    exact ⟨S1, T, X1, x, 9, rfl, rfl, hi, hG, rfl, by decide, ret11_look hM h2⟩
theorem cpL_seed {a0 : Int32} : CP M10_seed M11_seed [vi a0] := by
  refine ⟨1, 0, 0, by decide, by decide, by decide, fun S T X TX hG hM h => ?_⟩
  · obtain ⟨S1, X1, x, h1, h2, hi⟩ := k_seed h a0
    refine ⟨_, ret10_seed hG.1 h1, fun v μ1 hq => ?_⟩
    obtain ⟨rfl, rfl⟩ := hq
    exact ⟨S1, T, X1, x, 1, rfl, rfl, hi, hG, rfl, by decide, ret11_seed hM h2⟩
theorem cpL_tunes {a0 a1 a2 : Int32} : CP M10_tunes M11_tunes [vi a0, vi a1, vi a2] := by
  refine ⟨6, 0, 0, by decide, by decide, by decide, fun S T X TX hG hM h => ?_⟩
  · obtain ⟨S1, X1, x, h1, h2, hi⟩ := k_tunes h a0 a1 a2
    refine ⟨_, ret10_tunes hG.1 h1, fun v μ1 hq => ?_⟩
    obtain ⟨rfl, rfl⟩ := hq
    exact ⟨S1, T, X1, x, 7, rfl, rfl, hi, hG, rfl, by decide, ret11_tunes hM h2⟩
theorem cpL_count {a0 : Int32} : CP M10_count M11_count [vi a0] := by
  refine ⟨3, 0, 0, by decide, by decide, by decide, fun S T X TX hG hM h => ?_⟩
  · obtain ⟨x, h1, h2⟩ := k_count h a0
    refine ⟨_, ret10_count hG.1 h1, fun v μ1 hq => ?_⟩
    obtain ⟨rfl, rfl⟩ := hq
    exact ⟨S, T, X, x, 3, rfl, rfl, h, hG, rfl, by decide, ret11_count hM h2⟩
theorem cpL_image {a0 : Int32} : CP M10_image M11_image [vi a0] := by
  refine ⟨5, 159, 1271, ?_, ?_, ?_, fun S T X TX hG hM h => ⟨_, ret10_image hG h, fun v μ1 hq => ?_⟩⟩
  · decide
  · decide
  · decide
  obtain ⟨S1, T1, X1, x, rfl, rfl, hr, hi, hg, ha⟩ := hq
  exact ⟨S1, T1, X1, x, 3, rfl, rfl, hi, hg, ha, by decide, ret11_image hM hr⟩
theorem cpL_back {a0 : Int32} : CP M10_back M11_back [vi a0] := by
  refine ⟨5, 140, 1100, ?_, ?_, ?_, fun S T X TX hG hM h => ⟨_, ret10_back hG h, fun v μ1 hq => ?_⟩⟩
  · decide
  · decide
  · decide
  obtain ⟨S1, T1, X1, x, rfl, rfl, hr, hi, hg, ha⟩ := hq
  exact ⟨S1, T1, X1, x, 3, rfl, rfl, hi, hg, ha, by decide, ret11_back hM hr⟩
