/-! THE LAW'S LOOP -/
/-- the script's ints from the place i + k on, n of them -/
def lwA (xs : Nat → Int32) (i : Nat) : Nat → Nat → List jV
  | _, 0 => []
  | k, n + 1 => vi (xs (i + k)) :: lwA xs i (k + 1) n
theorem lwA_len (xs : Nat → Int32) (i : Nat) : ∀ n k, (lwA xs i k n).length = n
  | 0, _ => rfl
  | n + 1, k => congrArg (· + 1) (lwA_len xs i n (k + 1))
abbrev dArg (q j : Nat) : Prop := decode code q = .ok (.aload_n 0, 1) ∧ decode code (q + 1) = .ok (.iload_n 3, 1) ∧ decode code (q + 2) = .ok (.iconst (j : Int), 1) ∧ decode code (q + 3) = .ok (.iadd, 1) ∧ decode code (q + 4) = .ok (.iaload, 1)
abbrev lwD (pc n idx idx' : Nat) (off : Int) : Prop := decode code pc = .ok (.aload_n 1, 1) ∧ (∀ j, j < n → dArg (pc + 1 + 5 * j) (1 + j)) ∧ decode code (pc + 1 + 5 * n) = .ok (.invokevirtual idx, 3) ∧ decode code (pc + 4 + 5 * n) = .ok (.aload_n 2, 1) ∧ (∀ j, j < n → dArg (pc + 5 + 5 * n + 5 * j) (1 + j)) ∧ decode code (pc + 5 + 5 * n + 5 * n) = .ok (.invokevirtual idx', 3) ∧ decode code (pc + 8 + 5 * n + 5 * n) = .ok (.if_icmp .eq off, 3) ∧ ((pc + 8 + 5 * n + 5 * n : Nat) : Int) + off = ((1294 : Nat) : Int)
section LOOP
variable {p : Program} {l : Launch} {e : Env} {s : State} {m : MethodId} {below : List Frame} {meth : Method} {c : Code} {b L : Nat} {xs : Nat → Int32} {D : va_G} {cid : Nat → ClassId} {adK adV : Nat → Nat}
variable {H : Heap} {locs : List Loc} {cells slots : Nat} {ls : Array Slot} {μ : jMem} {Qs : State → Prop}
theorem lw_args (hX : lwX p s m meth c b L xs D cid adK adV) {i : Nat} (hi : i + 6 ≤ L) (hL : L ≤ 3072) (hS : va_S (fun q => s.heap.size ≤ q) s.heap H locs) (h0 : ls[0]? = some (.val (.ref b))) (h3 : ls[3]? = some (.val (.int (nI i)))) :
    ∀ (n k pc : Nat) (rest : List Value), k + n ≤ 6 → (∀ j, j < n → dArg (pc + 5 * j) (k + j)) → W p l e room_1 s m #[Value.ref b] below meth c H locs cells slots Qs (F0 m (pc + 5 * n) ls (((lwA xs i k n).map (jcv adK μ)).reverse ++ rest)) → W p l e room_1 s m #[Value.ref b] below meth c H locs cells slots Qs (F0 m pc ls rest)
  | 0, k, pc, rest, _, _, K => K
  | n + 1, k, pc, rest, hk, hd, K => by
    obtain ⟨⟨hx, hb, hr, hml, hown, hts, hXX, hbl, hlocks, hgv⟩, -, -⟩ := id hX
    obtain ⟨d0, d1, d2, d3, d4⟩ := hd 0 (by omega)
    simp only [Nat.mul_zero, Nat.add_zero] at d0 d1 d2 d3 d4
    refine lv_aload_n hx hb d0 rfl h0 ?_
    refine lv_iload_n hx hb d1 rfl h3 ?_
    refine lv_iconst (v := nI k) hx hb d2 rfl ?_
    refine lv_iadd hx hb d3 ?_
    rw [nI_add]
    have hin : vp_in (nI (i + k)) L := by
      refine inb_in ?_
      rw [inb_n (by omega)]
      omega
    refine va_sld hx hb hXX hbl (A := fun q => s.heap.size ≤ q) (Nat.not_le.mpr hbl) hS hin d4 ?_
    rw [nI_clamp (by omega)]
    refine lw_args hX hi hL hS h0 h3 n (k + 1) (pc + 5) _ (by omega) (fun j hj => ?_) ?_
    · have := hd (j + 1) (by omega)
      rw [show pc + 5 * (j + 1) = pc + 5 + 5 * j by omega, show k + (j + 1) = k + 1 + j by omega] at this
      exact this
    · rw [show pc + 5 * (n + 1) = pc + 5 + 5 * n by omega] at K
      have e : ((lwA xs i k (n + 1)).map (jcv adK μ)).reverse ++ rest = ((lwA xs i (k + 1) n).map (jcv adK μ)).reverse ++ (Value.int (xs (i + k)) :: rest) := by
        show (Value.int (xs (i + k)) :: (lwA xs i (k + 1) n).map (jcv adK μ)).reverse ++ rest = _
        rw [List.reverse_cons, List.append_assoc]; rfl
      rw [e] at K
      exact K
/-- how the machine stands in the loop: at the script's place i, after j calls -/
def lwS (s : State) (b : Nat) (D : va_G) (cid : Nat → ClassId) (adK : Nat → Nat) (q1 q2 i j : Nat) (H : Heap) (locs : List Loc) (cells slots : Nat) (ls : Array Slot) (S : jS) (T : jT) (X : jS) (TX : jT) : Prop :=
  jWd D cid adK s.heap.size ((S, T), (X, TX)) H ∧ va_S (fun q => s.heap.size ≤ q) s.heap H locs ∧ lv_has ls 4 [(3, .int (nI i)), (2, .ref q2), (1, .ref q1), (0, .ref b)] ∧ GL T ∧ LayM TX ∧ INV S T X ∧ T.2.2.2.1 0 = q1 ∧ TX.2.2.2.1 0 = q2 ∧ cells ≤ 1000 + 159 * j ∧ slots ≤ 20000 + 1271 * j
theorem lw_case (hX : lwX p s m meth c b L xs D cid adK adV) {i j q1 q2 pc n idx idx' : Nat} {off : Int} {M M' : jM} (hi : i + 6 ≤ L) (hL : L ≤ 3072) (hj : j < 600) (hn : n ≤ 5) (hD : lwD pc n idx idx' off) (hl : (12, idx, M, 0) ∈ jml) (hl' : (12, idx', M', 0) ∈ jml) (hM : jwV M n) (hM' : jwV M' n) (hc : M.2.1.cls = jcn 10) (hc' : M'.2.1.cls = jcn 11) (hC : CP M M' (lwA xs i 1 n))
    {S : jS} {T : jT} {X : jS} {TX : jT} (hS : lwS s b D cid adK q1 q2 i j H locs cells slots ls S T X TX)
    (k : ∀ H locs cells slots S T X TX, lwS s b D cid adK q1 q2 i (j + 1) H locs cells slots ls S T X TX → W p l e room_1 s m #[Value.ref b] below meth c H locs cells slots Qs (F0 m 1294 ls [])) :
    W p l e room_1 s m #[Value.ref b] below meth c H locs cells slots Qs (F0 m pc ls []) := by
  obtain ⟨⟨hx, hb, hr, hml, hown, hts, hXX, hbl, hlocks, hgv⟩, -, -⟩ := id hX
  obtain ⟨d0, d1, d2, d3, d4, d5, d6, d7⟩ := hD
  obtain ⟨hW, hv, hls, hG, hLM, hI, ha1, ha2, hcc, hss⟩ := hS
  have l0 : ls[0]? = some (.val (.ref b)) := lv_at hls 3 rfl
  have l1 : ls[1]? = some (.val (.ref q1)) := lv_at hls 2 rfl
  have l2 : ls[2]? = some (.val (.ref q2)) := lv_at hls 1 rfl
  have l3 : ls[3]? = some (.val (.int (nI i))) := lv_at hls 0 rfl
  obtain ⟨dd, mc, ms, hd1, hd2, hd3, hC⟩ := hC
  obtain ⟨Q', hR, hQ⟩ := hC S T X TX hG hLM hI
  refine lv_aload_n hx hb d0 rfl l1 ?_
  refine lw_args (μ := ((S, T), (X, TX))) hX hi hL hv l0 l3 n 1 (pc + 1) _ (by omega) d1 ?_
  have e1 : (Value.ref q1) = .ref (gA adK ((S, T), (X, TX)) (.inl 0)) := by rw [← ha1]; rfl
  rw [e1]
  refine lw_callV hX d2 hl hM (lwA_len xs i n 1) (by decide) hc (hG.1.1 (0, 11) (by decide) : gT ((S, T), (X, TX)) (.inl 0) = 10 + 1) hR hd1 hW hv hls.1 (by decide) (by omega) (by omega) (fun v' μ' H1 locs1 hq hW1 hv1 => ?_)
  obtain ⟨S1, T1, X1, r, d', rfl, rfl, hI1, hG1, hA1, hdd, hR1⟩ := hQ v' μ' hq
  show W p l e room_1 s m #[Value.ref b] below meth c H1 locs1 (cells + mc) (slots + ms) Qs (F0 m (pc + 1 + 5 * n + 3) ls [Value.int r])
  rw [show pc + 1 + 5 * n + 3 = pc + 4 + 5 * n by omega]
  refine lv_aload_n hx hb d3 rfl l2 ?_
  rw [show pc + 4 + 5 * n + 1 = pc + 5 + 5 * n by omega]
  refine lw_args (μ := ((S1, T1), (X, TX))) hX hi hL hv1 l0 l3 n 1 (pc + 5 + 5 * n) _ (by omega) d4 ?_
  have e2 : (Value.ref q2) = .ref (gA adK ((S1, T1), (X, TX)) (.inr (.inl 0))) := by rw [← ha2]; rfl
  rw [e2]
  refine lw_callV hX d5 hl' hM' (lwA_len xs i n 1) (by decide) hc' (hLM.1 (0, 12) (by decide) : gT ((S1, T1), (X, TX)) (.inr (.inl 0)) = 11 + 1) hR1 hdd hW1 hv1 hls.1 (Nat.le_of_ble_eq_true rfl) (by omega) (by omega) (fun v2 μ2 H2 locs2 hq2 hW2 hv2 => ?_)
  obtain ⟨rfl, rfl⟩ := hq2
  show W p l e room_1 s m #[Value.ref b] below meth c H2 locs2 (cells + mc + 0) (slots + ms + 0) Qs (F0 m (pc + 5 + 5 * n + 5 * n + 3) ls [Value.int r, Value.int r])
  rw [show pc + 5 + 5 * n + 5 * n + 3 = pc + 8 + 5 * n + 5 * n by omega]
  refine lv_icmp_eq hx hb d6 d7 (fun _ => ?_) (fun h => absurd rfl h)
  exact k H2 locs2 _ _ S1 T1 X1 TX ⟨hW2, hv2, hls, hG1, hLM, hI1, hA1.trans ha1, ha2, by omega, by omega⟩
end LOOP
