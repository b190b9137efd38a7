def f5_takeWord (S : jS) : Option (jS × Int32) := (if ((wI S 3 4 (S.1 1 4)).1 3 4) = 5 then Option.bind (if ((wI S 3 4 (S.1 1 4)).1 3 4) = 6 then (if 6 ≤ ((wI S 3 4 (S.1 1 4)).1 4 1) then some 1 else (if ((wI S 3 4 (S.1 1 4)).1 3 4) = 7 then (if ((wI S 3 4 (S.1 1 4)).1 4 2) < 7 then some 0 else some 1) else some 0)) else (if ((wI S 3 4 (S.1 1 4)).1 3 4) = 7 then (if ((wI S 3 4 (S.1 1 4)).1 4 2) < 7 then some 0 else some 1) else some 0)) (fun (y1 : Int32) => (if (((if (((if ((wI S 3 4 (S.1 1 4)).1 3 4) = 5 then 1 else 0) : Int32)) = (((if ((wI S 3 4 (S.1 1 4)).1 3 5) = 0 then 1 else 0) : Int32)) then (if ((wI S 3 4 (S.1 1 4)).1 3 5) < 40 then 0 else 1) else 1) : Int32)) = 0 then (if y1 = 0 then some (wI (wI (wI (wI S 3 4 (S.1 1 4)) 3 5 (((wI S 3 4 (S.1 1 4)).1 3 5) + 1)) 3 3 0) 3 6 1, 1) else Option.bind (f9_fail (wI S 3 4 (S.1 1 4)) 4) (fun r2 => (if r2.2 = 0 ∨ r2.2 = 1 then some (r2.1, r2.2) else none))) else Option.bind (f9_fail (wI S 3 4 (S.1 1 4)) 4) (fun r3 => (if r3.2 = 0 ∨ r3.2 = 1 then some (r3.1, r3.2) else none)))) else (if ((wI S 3 4 (S.1 1 4)).1 3 4) = 6 then Option.bind (if ((wI S 3 4 (S.1 1 4)).1 3 4) = 6 then (if 6 ≤ ((wI S 3 4 (S.1 1 4)).1 4 1) then some 1 else (if ((wI S 3 4 (S.1 1 4)).1 3 4) = 7 then (if ((wI S 3 4 (S.1 1 4)).1 4 2) < 7 then some 0 else some 1) else some 0)) else (if ((wI S 3 4 (S.1 1 4)).1 3 4) = 7 then (if ((wI S 3 4 (S.1 1 4)).1 4 2) < 7 then some 0 else some 1) else some 0)) (fun (y4 : Int32) => (if (((if (((if ((wI S 3 4 (S.1 1 4)).1 3 4) = 5 then 1 else 0) : Int32)) = (((if ((wI S 3 4 (S.1 1 4)).1 3 5) = 0 then 1 else 0) : Int32)) then (if ((wI S 3 4 (S.1 1 4)).1 3 5) < 40 then 0 else 1) else 1) : Int32)) = 0 then (if y4 = 0 then some (wI (wI (wI (wI S 3 4 (S.1 1 4)) 3 5 (((wI S 3 4 (S.1 1 4)).1 3 5) + 1)) 3 3 0) 3 6 1, 1) else Option.bind (f9_fail (wI S 3 4 (S.1 1 4)) 4) (fun r5 => (if r5.2 = 0 ∨ r5.2 = 1 then some (r5.1, r5.2) else none))) else Option.bind (f9_fail (wI S 3 4 (S.1 1 4)) 4) (fun r6 => (if r6.2 = 0 ∨ r6.2 = 1 then some (r6.1, r6.2) else none)))) else (if ((wI S 3 4 (S.1 1 4)).1 3 4) = 7 then Option.bind (if ((wI S 3 4 (S.1 1 4)).1 3 4) = 6 then (if 6 ≤ ((wI S 3 4 (S.1 1 4)).1 4 1) then some 1 else (if ((wI S 3 4 (S.1 1 4)).1 3 4) = 7 then (if ((wI S 3 4 (S.1 1 4)).1 4 2) < 7 then some 0 else some 1) else some 0)) else (if ((wI S 3 4 (S.1 1 4)).1 3 4) = 7 then (if ((wI S 3 4 (S.1 1 4)).1 4 2) < 7 then some 0 else some 1) else some 0)) (fun (y7 : Int32) => (if (((if (((if ((wI S 3 4 (S.1 1 4)).1 3 4) = 5 then 1 else 0) : Int32)) = (((if ((wI S 3 4 (S.1 1 4)).1 3 5) = 0 then 1 else 0) : Int32)) then (if ((wI S 3 4 (S.1 1 4)).1 3 5) < 40 then 0 else 1) else 1) : Int32)) = 0 then (if y7 = 0 then some (wI (wI (wI (wI S 3 4 (S.1 1 4)) 3 5 (((wI S 3 4 (S.1 1 4)).1 3 5) + 1)) 3 3 0) 3 6 1, 1) else Option.bind (f9_fail (wI S 3 4 (S.1 1 4)) 4) (fun r8 => (if r8.2 = 0 ∨ r8.2 = 1 then some (r8.1, r8.2) else none))) else Option.bind (f9_fail (wI S 3 4 (S.1 1 4)) 4) (fun r9 => (if r9.2 = 0 ∨ r9.2 = 1 then some (r9.1, r9.2) else none)))) else Option.bind (f9_fail (wI S 3 4 (S.1 1 4)) 0) (fun r10 => (if r10.2 = 0 ∨ r10.2 = 1 then some (r10.1, r10.2) else none)))))
theorem ret5_takeWord {S : jS} {T : jT} {Y : jS × jT} {S1 : jS} {x : Int32} (hT : LayC T) (h : f5_takeWord S = some (S1, x)) : Ret M5_takeWord 2 0 0 [rc 3] ((S, T), Y) (some (vi x)) ((S1, T), Y) := by
  refine Ret.of (by decide +kernel) (Nat.le_of_ble_eq_true rfl) ?_
  unfold f5_takeWord at h
  show Go _ _ _ _ _ _ 0 [(0, rc 3)] [] ((S, T), Y) _
  refine go_blk rfl [(.aload_n 0, 1, 0, 0, 0, .inl 0), (.aload_n 0, 1, 0, 0, 0, .inl 0), (.getfield 35, 3, 5, 0, 1, .inl 0), (.getfield 66, 3, 9, 4, 0, .inl 0), (.putfield 26, 3, 5, 4, 0, .inl 0)] 0 11 _ _ _ (by decide +kernel) ?_
  refine And.intro (lc_t3 hT) (Exists.intro _ (And.intro (gRc (lc_r5_0 hT)) ?_))
  refine And.intro (lc_t1 hT) ?_
  refine And.intro (lc_t3 hT) (And.intro trivial ?_)
  show Go _ _ _ _ _ _ 11 [(0, rc 3)] [] ((wI S 3 4 (S.1 1 4), T), Y) _
  refine go_blk rfl [(.aload_n 0, 1, 0, 0, 0, .inl 0), (.getfield 26, 3, 5, 4, 0, .inl 0), (.iconst 5, 1, 0, 0, 0, .inl 5)] 11 16 _ _ _ (by decide +kernel) ?_
  refine And.intro (lc_t3 hT) ?_
  show Go _ _ _ _ _ _ 16 [(0, rc 3)] [vi 5, vi ((wI S 3 4 (S.1 1 4)).1 3 4)] ((wI S 3 4 (S.1 1 4), T), Y) _
  refine ite_el h (fun q1 h => ?_) (fun q1 h => ?_)
  · refine go_icmp_eq (off := 30) (tgt := 46) (by decide +kernel) (by decide) (fun _ => ?_) (fun z => absurd q1 z)
    refine go_blk rfl [(.aload_n 0, 1, 0, 0, 0, .inl 0), (.getfield 26, 3, 5, 4, 0, .inl 0), (.iconst 5, 1, 0, 0, 0, .inl 5)] 46 51 _ _ _ (by decide +kernel) ?_
    refine And.intro (lc_t3 hT) ?_
    show Go _ _ _ _ _ _ 51 [(0, rc 3)] [vi 5, vi ((wI S 3 4 (S.1 1 4)).1 3 4)] ((wI S 3 4 (S.1 1 4), T), Y) _
    have key : ∀ z0 : Int32, z0 = ((if ((wI S 3 4 (S.1 1 4)).1 3 4) = 5 then 1 else 0) : Int32) → Go M5_takeWord 2 0 0 0 0 59 [(0, rc 3)] [vi z0] ((wI S 3 4 (S.1 1 4), T), Y) (eqQ (some (vi x)) ((S1, T), Y)) := by
      intro z0 ez0
      subst ez0
      refine go_blk rfl [(.aload_n 0, 1, 0, 0, 0, .inl 0), (.getfield 29, 3, 5, 5, 0, .inl 0)] 59 63 _ _ _ (by decide +kernel) ?_
      refine And.intro (lc_t3 hT) ?_
      show Go _ _ _ _ _ _ 63 [(0, rc 3)] [vi ((wI S 3 4 (S.1 1 4)).1 3 5), vi (((if ((wI S 3 4 (S.1 1 4)).1 3 4) = 5 then 1 else 0) : Int32))] ((wI S 3 4 (S.1 1 4), T), Y) _
      have key : ∀ z0 : Int32, z0 = ((if ((wI S 3 4 (S.1 1 4)).1 3 5) = 0 then 1 else 0) : Int32) → Go M5_takeWord 2 0 0 0 0 71 [(0, rc 3)] [vi z0, vi (((if ((wI S 3 4 (S.1 1 4)).1 3 4) = 5 then 1 else 0) : Int32))] ((wI S 3 4 (S.1 1 4), T), Y) (eqQ (some (vi x)) ((S1, T), Y)) := by
        intro z0 ez0
        subst ez0
        have key : ∀ z0 : Int32, z0 = ((if (((if ((wI S 3 4 (S.1 1 4)).1 3 4) = 5 then 1 else 0) : Int32)) = (((if ((wI S 3 4 (S.1 1 4)).1 3 5) = 0 then 1 else 0) : Int32)) then (if ((wI S 3 4 (S.1 1 4)).1 3 5) < 40 then 0 else 1) else 1) : Int32) → Go M5_takeWord 2 0 0 0 0 88 [(0, rc 3)] [vi z0] ((wI S 3 4 (S.1 1 4), T), Y) (eqQ (some (vi x)) ((S1, T), Y)) := by
          intro z0 ez0
          subst ez0
          refine go_blk rfl [(.istore_n 1, 1, 1, 0, 0, .inl 0), (.aload_n 0, 1, 0, 0, 0, .inl 0), (.getfield 26, 3, 5, 4, 0, .inl 0), (.bipush 6, 2, 0, 0, 0, .inl 6)] 88 95 _ _ _ (by decide +kernel) ?_
          refine And.intro (lc_t3 hT) ?_
          show Go _ _ _ _ _ _ 95 [(1, vi (((if (((if ((wI S 3 4 (S.1 1 4)).1 3 4) = 5 then 1 else 0) : Int32)) = (((if ((wI S 3 4 (S.1 1 4)).1 3 5) = 0 then 1 else 0) : Int32)) then (if ((wI S 3 4 (S.1 1 4)).1 3 5) < 40 then 0 else 1) else 1) : Int32))), (0, rc 3)] [vi 6, vi ((wI S 3 4 (S.1 1 4)).1 3 4)] ((wI S 3 4 (S.1 1 4), T), Y) _
          obtain ⟨y1, hy1, h⟩ := bind_el h
          have key : Go M5_takeWord 2 0 0 0 0 136 [(0, rc 3), (1, vi (((if (((if ((wI S 3 4 (S.1 1 4)).1 3 4) = 5 then 1 else 0) : Int32)) = (((if ((wI S 3 4 (S.1 1 4)).1 3 5) = 0 then 1 else 0) : Int32)) then (if ((wI S 3 4 (S.1 1 4)).1 3 5) < 40 then 0 else 1) else 1) : Int32)))] [vi y1] ((wI S 3 4 (S.1 1 4), T), Y) (eqQ (some (vi x)) ((S1, T), Y)) := by
            refine go_blk rfl [(.istore_n 2, 1, 2, 0, 0, .inl 0), (.iload_n 1, 1, 1, 0, 0, .inl 0)] 136 138 _ _ _ (by decide +kernel) ?_
            show Go _ _ _ _ _ _ 138 [(2, vi y1), (0, rc 3), (1, vi (((if (((if ((wI S 3 4 (S.1 1 4)).1 3 4) = 5 then 1 else 0) : Int32)) = (((if ((wI S 3 4 (S.1 1 4)).1 3 5) = 0 then 1 else 0) : Int32)) then (if ((wI S 3 4 (S.1 1 4)).1 3 5) < 40 then 0 else 1) else 1) : Int32)))] [vi (((if (((if ((wI S 3 4 (S.1 1 4)).1 3 4) = 5 then 1 else 0) : Int32)) = (((if ((wI S 3 4 (S.1 1 4)).1 3 5) = 0 then 1 else 0) : Int32)) then (if ((wI S 3 4 (S.1 1 4)).1 3 5) < 40 then 0 else 1) else 1) : Int32))] ((wI S 3 4 (S.1 1 4), T), Y) _
            refine ite_el h (fun q12 h => ?_) (fun q12 h => ?_)
            · refine go_if_ne (off := 7) (tgt := 145) (by decide +kernel) (by decide) (fun z => absurd q12 z) (fun _ => ?_)
              refine go_blk rfl [(.iload_n 2, 1, 2, 0, 0, .inl 0)] 141 142 _ _ _ (by decide +kernel) ?_
              show Go _ _ _ _ _ _ 142 [(2, vi y1), (0, rc 3), (1, vi (((if (((if ((wI S 3 4 (S.1 1 4)).1 3 4) = 5 then 1 else 0) : Int32)) = (((if ((wI S 3 4 (S.1 1 4)).1 3 5) = 0 then 1 else 0) : Int32)) then (if ((wI S 3 4 (S.1 1 4)).1 3 5) < 40 then 0 else 1) else 1) : Int32)))] [vi y1] ((wI S 3 4 (S.1 1 4), T), Y) _
              refine ite_el h (fun q13 h => ?_) (fun q13 h => ?_)
              · refine go_if_eq (off := 12) (tgt := 154) (by decide +kernel) (by decide) (fun _ => ?_) (fun z => absurd q13 z)
                refine go_blk rfl [(.aload_n 0, 1, 0, 0, 0, .inl 0), (.dup, 1, 0, 0, 0, .inl 0), (.getfield 29, 3, 5, 5, 0, .inl 0), (.iconst 1, 1, 0, 0, 0, .inl 1), (.iadd, 1, 0, 0, 0, .inl 0), (.putfield 29, 3, 5, 5, 0, .inl 0)] 154 164 _ _ _ (by decide +kernel) ?_
                refine And.intro (lc_t3 hT) ?_
                refine And.intro (lc_t3 hT) (And.intro trivial ?_)
                show Go _ _ _ _ _ _ 164 [(2, vi y1), (0, rc 3), (1, vi (((if (((if ((wI S 3 4 (S.1 1 4)).1 3 4) = 5 then 1 else 0) : Int32)) = (((if ((wI S 3 4 (S.1 1 4)).1 3 5) = 0 then 1 else 0) : Int32)) then (if ((wI S 3 4 (S.1 1 4)).1 3 5) < 40 then 0 else 1) else 1) : Int32)))] [] ((wI (wI S 3 4 (S.1 1 4)) 3 5 (((wI S 3 4 (S.1 1 4)).1 3 5) + 1), T), Y) _
                refine go_blk rfl [(.aload_n 0, 1, 0, 0, 0, .inl 0), (.iconst 0, 1, 0, 0, 0, .inl 0), (.putfield 22, 3, 5, 3, 0, .inl 0)] 164 169 _ _ _ (by decide +kernel) ?_
                refine And.intro (lc_t3 hT) (And.intro trivial ?_)
                show Go _ _ _ _ _ _ 169 [(2, vi y1), (0, rc 3), (1, vi (((if (((if ((wI S 3 4 (S.1 1 4)).1 3 4) = 5 then 1 else 0) : Int32)) = (((if ((wI S 3 4 (S.1 1 4)).1 3 5) = 0 then 1 else 0) : Int32)) then (if ((wI S 3 4 (S.1 1 4)).1 3 5) < 40 then 0 else 1) else 1) : Int32)))] [] ((wI (wI (wI S 3 4 (S.1 1 4)) 3 5 (((wI S 3 4 (S.1 1 4)).1 3 5) + 1)) 3 3 0, T), Y) _
                refine go_blk rfl [(.aload_n 0, 1, 0, 0, 0, .inl 0), (.iconst 1, 1, 0, 0, 0, .inl 1), (.putfield 32, 3, 5, 6, 0, .inl 0)] 169 174 _ _ _ (by decide +kernel) ?_
                refine And.intro (lc_t3 hT) (And.intro trivial ?_)
                show Go _ _ _ _ _ _ 174 [(2, vi y1), (0, rc 3), (1, vi (((if (((if ((wI S 3 4 (S.1 1 4)).1 3 4) = 5 then 1 else 0) : Int32)) = (((if ((wI S 3 4 (S.1 1 4)).1 3 5) = 0 then 1 else 0) : Int32)) then (if ((wI S 3 4 (S.1 1 4)).1 3 5) < 40 then 0 else 1) else 1) : Int32)))] [] ((wI (wI (wI (wI S 3 4 (S.1 1 4)) 3 5 (((wI S 3 4 (S.1 1 4)).1 3 5) + 1)) 3 3 0) 3 6 1, T), Y) _
                refine go_blk rfl [(.iconst 1, 1, 0, 0, 0, .inl 1)] 174 175 _ _ _ (by decide +kernel) ?_
                show Go _ _ _ _ _ _ 175 [(2, vi y1), (0, rc 3), (1, vi (((if (((if ((wI S 3 4 (S.1 1 4)).1 3 4) = 5 then 1 else 0) : Int32)) = (((if ((wI S 3 4 (S.1 1 4)).1 3 5) = 0 then 1 else 0) : Int32)) then (if ((wI S 3 4 (S.1 1 4)).1 3 5) < 40 then 0 else 1) else 1) : Int32)))] [vi 1] ((wI (wI (wI (wI S 3 4 (S.1 1 4)) 3 5 (((wI S 3 4 (S.1 1 4)).1 3 5) + 1)) 3 3 0) 3 6 1, T), Y) _
                obtain ⟨rfl, rfl⟩ := Prod.mk.inj (Option.some.inj h)
                exact go_ireturn (by decide +kernel) rfl rfl ⟨rfl, rfl⟩
              · refine go_if_eq (off := 12) (tgt := 154) (by decide +kernel) (by decide) (fun z => absurd z q13) (fun _ => ?_)
                refine go_blk rfl [(.aload_n 0, 1, 0, 0, 0, .inl 0), (.getfield 35, 3, 5, 0, 1, .inl 0), (.iconst 4, 1, 0, 0, 0, .inl 4)] 145 150 _ _ _ (by decide +kernel) ?_
                refine And.intro (lc_t3 hT) (Exists.intro _ (And.intro (gRc (lc_r5_0 hT)) ?_))
                show Go _ _ _ _ _ _ 150 [(2, vi y1), (0, rc 3), (1, vi (((if (((if ((wI S 3 4 (S.1 1 4)).1 3 4) = 5 then 1 else 0) : Int32)) = (((if ((wI S 3 4 (S.1 1 4)).1 3 5) = 0 then 1 else 0) : Int32)) then (if ((wI S 3 4 (S.1 1 4)).1 3 5) < 40 then 0 else 1) else 1) : Int32)))] [vi 4, rc 1] ((wI S 3 4 (S.1 1 4), T), Y) _
                obtain ⟨r2, hr2, h⟩ := bind_el h
                refine go_callV (idx := 69) (z := 1) (M' := M9_fail) (n := 1) (A := [vi 4]) (v' := some (vi r2.2)) (μ' := ((r2.1, T), Y)) (d' := 1) (mc' := 0) (ms' := 0) (kc' := 0) (ks' := 0) (ci := 9) (x := .inl 1) (by decide +kernel) ml_5_69 rfl wv9_fail rfl (by decide) rfl (lc_t1 hT) (ret9_fail hT hr2) (by decide) rfl rfl (Nat.le_of_ble_eq_true rfl) rfl (jag rfl rfl) ?_
                show Go _ _ _ _ _ _ 153 [(2, vi y1), (0, rc 3), (1, vi (((if (((if ((wI S 3 4 (S.1 1 4)).1 3 4) = 5 then 1 else 0) : Int32)) = (((if ((wI S 3 4 (S.1 1 4)).1 3 5) = 0 then 1 else 0) : Int32)) then (if ((wI S 3 4 (S.1 1 4)).1 3 5) < 40 then 0 else 1) else 1) : Int32)))] [vi r2.2] ((r2.1, T), Y) _
                refine gd_el h (fun q h => ?_)
                obtain ⟨rfl, rfl⟩ := Prod.mk.inj (Option.some.inj h)
                exact go_ireturn (by decide +kernel) rfl (by rcases q with q | q <;> rw [q] <;> rfl) ⟨rfl, rfl⟩
            · refine go_if_ne (off := 7) (tgt := 145) (by decide +kernel) (by decide) (fun _ => ?_) (fun z => absurd z q12)
              refine go_blk rfl [(.aload_n 0, 1, 0, 0, 0, .inl 0), (.getfield 35, 3, 5, 0, 1, .inl 0), (.iconst 4, 1, 0, 0, 0, .inl 4)] 145 150 _ _ _ (by decide +kernel) ?_
              refine And.intro (lc_t3 hT) (Exists.intro _ (And.intro (gRc (lc_r5_0 hT)) ?_))
              show Go _ _ _ _ _ _ 150 [(2, vi y1), (0, rc 3), (1, vi (((if (((if ((wI S 3 4 (S.1 1 4)).1 3 4) = 5 then 1 else 0) : Int32)) = (((if ((wI S 3 4 (S.1 1 4)).1 3 5) = 0 then 1 else 0) : Int32)) then (if ((wI S 3 4 (S.1 1 4)).1 3 5) < 40 then 0 else 1) else 1) : Int32)))] [vi 4, rc 1] ((wI S 3 4 (S.1 1 4), T), Y) _
              obtain ⟨r3, hr3, h⟩ := bind_el h
              refine go_callV (idx := 69) (z := 1) (M' := M9_fail) (n := 1) (A := [vi 4]) (v' := some (vi r3.2)) (μ' := ((r3.1, T), Y)) (d' := 1) (mc' := 0) (ms' := 0) (kc' := 0) (ks' := 0) (ci := 9) (x := .inl 1) (by decide +kernel) ml_5_69 rfl wv9_fail rfl (by decide) rfl (lc_t1 hT) (ret9_fail hT hr3) (by decide) rfl rfl (Nat.le_of_ble_eq_true rfl) rfl (jag rfl rfl) ?_
              show Go _ _ _ _ _ _ 153 [(2, vi y1), (0, rc 3), (1, vi (((if (((if ((wI S 3 4 (S.1 1 4)).1 3 4) = 5 then 1 else 0) : Int32)) = (((if ((wI S 3 4 (S.1 1 4)).1 3 5) = 0 then 1 else 0) : Int32)) then (if ((wI S 3 4 (S.1 1 4)).1 3 5) < 40 then 0 else 1) else 1) : Int32)))] [vi r3.2] ((r3.1, T), Y) _
              refine gd_el h (fun q h => ?_)
              obtain ⟨rfl, rfl⟩ := Prod.mk.inj (Option.some.inj h)
              exact go_ireturn (by decide +kernel) rfl (by rcases q with q | q <;> rw [q] <;> rfl) ⟨rfl, rfl⟩
          replace h := hy1
          refine ite_el h (fun q6 h => ?_) (fun q6 h => ?_)
          · refine go_icmp_ne (off := 15) (tgt := 110) (by decide +kernel) (by decide) (fun z => absurd q6 z) (fun _ => ?_)
            refine go_blk rfl [(.aload_n 0, 1, 0, 0, 0, .inl 0), (.getfield 12, 3, 5, 1, 1, .inl 0), (.getfield 73, 3, 4, 1, 0, .inl 0), (.bipush 6, 2, 0, 0, 0, .inl 6)] 98 107 _ _ _ (by decide +kernel) ?_
            refine And.intro (lc_t3 hT) (Exists.intro _ (And.intro (gRc (lc_r5_1 hT)) ?_))
            refine And.intro (lc_h4 hT).1 ?_
            show Go _ _ _ _ _ _ 107 [(1, vi (((if (((if ((wI S 3 4 (S.1 1 4)).1 3 4) = 5 then 1 else 0) : Int32)) = (((if ((wI S 3 4 (S.1 1 4)).1 3 5) = 0 then 1 else 0) : Int32)) then (if ((wI S 3 4 (S.1 1 4)).1 3 5) < 40 then 0 else 1) else 1) : Int32))), (0, rc 3)] [vi 6, vi ((wI S 3 4 (S.1 1 4)).1 4 1)] ((wI S 3 4 (S.1 1 4), T), Y) _
            refine ite_el h (fun q7 h => ?_) (fun q7 h => ?_)
            · refine go_icmp_ge (off := 24) (tgt := 131) (by decide +kernel) (by decide) (fun _ => ?_) (fun z => absurd q7 z)
              refine go_blk rfl [(.iconst 1, 1, 0, 0, 0, .inl 1)] 131 132 _ _ _ (by decide +kernel) ?_
              show Go _ _ _ _ _ _ 132 [(1, vi (((if (((if ((wI S 3 4 (S.1 1 4)).1 3 4) = 5 then 1 else 0) : Int32)) = (((if ((wI S 3 4 (S.1 1 4)).1 3 5) = 0 then 1 else 0) : Int32)) then (if ((wI S 3 4 (S.1 1 4)).1 3 5) < 40 then 0 else 1) else 1) : Int32))), (0, rc 3)] [vi 1] ((wI S 3 4 (S.1 1 4), T), Y) _
              refine go_goto (off := 4) (tgt := 136) (by decide +kernel) (by decide) ?_
              obtain rfl := Option.some.inj h
              refine go_pick [1, 0] rfl ?_
              exact key
            · refine go_icmp_ge (off := 24) (tgt := 131) (by decide +kernel) (by decide) (fun z => absurd z q7) (fun _ => ?_)
              refine go_blk rfl [(.aload_n 0, 1, 0, 0, 0, .inl 0), (.getfield 26, 3, 5, 4, 0, .inl 0), (.bipush 7, 2, 0, 0, 0, .inl 7)] 110 116 _ _ _ (by decide +kernel) ?_
              refine And.intro (lc_t3 hT) ?_
              show Go _ _ _ _ _ _ 116 [(1, vi (((if (((if ((wI S 3 4 (S.1 1 4)).1 3 4) = 5 then 1 else 0) : Int32)) = (((if ((wI S 3 4 (S.1 1 4)).1 3 5) = 0 then 1 else 0) : Int32)) then (if ((wI S 3 4 (S.1 1 4)).1 3 5) < 40 then 0 else 1) else 1) : Int32))), (0, rc 3)] [vi 7, vi ((wI S 3 4 (S.1 1 4)).1 3 4)] ((wI S 3 4 (S.1 1 4), T), Y) _
              refine ite_el h (fun q8 h => ?_) (fun q8 h => ?_)
              · refine go_icmp_ne (off := 19) (tgt := 135) (by decide +kernel) (by decide) (fun z => absurd q8 z) (fun _ => ?_)
                refine go_blk rfl [(.aload_n 0, 1, 0, 0, 0, .inl 0), (.getfield 12, 3, 5, 1, 1, .inl 0), (.getfield 76, 3, 4, 2, 0, .inl 0), (.bipush 7, 2, 0, 0, 0, .inl 7)] 119 128 _ _ _ (by decide +kernel) ?_
                refine And.intro (lc_t3 hT) (Exists.intro _ (And.intro (gRc (lc_r5_1 hT)) ?_))
                refine And.intro (lc_h4 hT).1 ?_
                show Go _ _ _ _ _ _ 128 [(1, vi (((if (((if ((wI S 3 4 (S.1 1 4)).1 3 4) = 5 then 1 else 0) : Int32)) = (((if ((wI S 3 4 (S.1 1 4)).1 3 5) = 0 then 1 else 0) : Int32)) then (if ((wI S 3 4 (S.1 1 4)).1 3 5) < 40 then 0 else 1) else 1) : Int32))), (0, rc 3)] [vi 7, vi ((wI S 3 4 (S.1 1 4)).1 4 2)] ((wI S 3 4 (S.1 1 4), T), Y) _
                refine ite_el h (fun q9 h => ?_) (fun q9 h => ?_)
                · refine go_icmp_lt (off := 7) (tgt := 135) (by decide +kernel) (by decide) (fun _ => ?_) (fun z => absurd q9 z)
                  refine go_blk rfl [(.iconst 0, 1, 0, 0, 0, .inl 0)] 135 136 _ _ _ (by decide +kernel) ?_
                  show Go _ _ _ _ _ _ 136 [(1, vi (((if (((if ((wI S 3 4 (S.1 1 4)).1 3 4) = 5 then 1 else 0) : Int32)) = (((if ((wI S 3 4 (S.1 1 4)).1 3 5) = 0 then 1 else 0) : Int32)) then (if ((wI S 3 4 (S.1 1 4)).1 3 5) < 40 then 0 else 1) else 1) : Int32))), (0, rc 3)] [vi 0] ((wI S 3 4 (S.1 1 4), T), Y) _
                  obtain rfl := Option.some.inj h
                  refine go_pick [1, 0] rfl ?_
                  exact key
                · refine go_icmp_lt (off := 7) (tgt := 135) (by decide +kernel) (by decide) (fun z => absurd z q9) (fun _ => ?_)
                  refine go_blk rfl [(.iconst 1, 1, 0, 0, 0, .inl 1)] 131 132 _ _ _ (by decide +kernel) ?_
                  show Go _ _ _ _ _ _ 132 [(1, vi (((if (((if ((wI S 3 4 (S.1 1 4)).1 3 4) = 5 then 1 else 0) : Int32)) = (((if ((wI S 3 4 (S.1 1 4)).1 3 5) = 0 then 1 else 0) : Int32)) then (if ((wI S 3 4 (S.1 1 4)).1 3 5) < 40 then 0 else 1) else 1) : Int32))), (0, rc 3)] [vi 1] ((wI S 3 4 (S.1 1 4), T), Y) _
                  refine go_goto (off := 4) (tgt := 136) (by decide +kernel) (by decide) ?_
                  obtain rfl := Option.some.inj h
                  refine go_pick [1, 0] rfl ?_
                  exact key
              · refine go_icmp_ne (off := 19) (tgt := 135) (by decide +kernel) (by decide) (fun _ => ?_) (fun z => absurd z q8)
                refine go_blk rfl [(.iconst 0, 1, 0, 0, 0, .inl 0)] 135 136 _ _ _ (by decide +kernel) ?_
                show Go _ _ _ _ _ _ 136 [(1, vi (((if (((if ((wI S 3 4 (S.1 1 4)).1 3 4) = 5 then 1 else 0) : Int32)) = (((if ((wI S 3 4 (S.1 1 4)).1 3 5) = 0 then 1 else 0) : Int32)) then (if ((wI S 3 4 (S.1 1 4)).1 3 5) < 40 then 0 else 1) else 1) : Int32))), (0, rc 3)] [vi 0] ((wI S 3 4 (S.1 1 4), T), Y) _
                obtain rfl := Option.some.inj h
                refine go_pick [1, 0] rfl ?_
                exact key
          · refine go_icmp_ne (off := 15) (tgt := 110) (by decide +kernel) (by decide) (fun _ => ?_) (fun z => absurd z q6)
            refine go_blk rfl [(.aload_n 0, 1, 0, 0, 0, .inl 0), (.getfield 26, 3, 5, 4, 0, .inl 0), (.bipush 7, 2, 0, 0, 0, .inl 7)] 110 116 _ _ _ (by decide +kernel) ?_
            refine And.intro (lc_t3 hT) ?_
            show Go _ _ _ _ _ _ 116 [(1, vi (((if (((if ((wI S 3 4 (S.1 1 4)).1 3 4) = 5 then 1 else 0) : Int32)) = (((if ((wI S 3 4 (S.1 1 4)).1 3 5) = 0 then 1 else 0) : Int32)) then (if ((wI S 3 4 (S.1 1 4)).1 3 5) < 40 then 0 else 1) else 1) : Int32))), (0, rc 3)] [vi 7, vi ((wI S 3 4 (S.1 1 4)).1 3 4)] ((wI S 3 4 (S.1 1 4), T), Y) _
            refine ite_el h (fun q10 h => ?_) (fun q10 h => ?_)
            · refine go_icmp_ne (off := 19) (tgt := 135) (by decide +kernel) (by decide) (fun z => absurd q10 z) (fun _ => ?_)
              refine go_blk rfl [(.aload_n 0, 1, 0, 0, 0, .inl 0), (.getfield 12, 3, 5, 1, 1, .inl 0), (.getfield 76, 3, 4, 2, 0, .inl 0), (.bipush 7, 2, 0, 0, 0, .inl 7)] 119 128 _ _ _ (by decide +kernel) ?_
              refine And.intro (lc_t3 hT) (Exists.intro _ (And.intro (gRc (lc_r5_1 hT)) ?_))
              refine And.intro (lc_h4 hT).1 ?_
              show Go _ _ _ _ _ _ 128 [(1, vi (((if (((if ((wI S 3 4 (S.1 1 4)).1 3 4) = 5 then 1 else 0) : Int32)) = (((if ((wI S 3 4 (S.1 1 4)).1 3 5) = 0 then 1 else 0) : Int32)) then (if ((wI S 3 4 (S.1 1 4)).1 3 5) < 40 then 0 else 1) else 1) : Int32))), (0, rc 3)] [vi 7, vi ((wI S 3 4 (S.1 1 4)).1 4 2)] ((wI S 3 4 (S.1 1 4), T), Y) _
              refine ite_el h (fun q11 h => ?_) (fun q11 h => ?_)
              · refine go_icmp_lt (off := 7) (tgt := 135) (by decide +kernel) (by decide) (fun _ => ?_) (fun z => absurd q11 z)
                refine go_blk rfl [(.iconst 0, 1, 0, 0, 0, .inl 0)] 135 136 _ _ _ (by decide +kernel) ?_
                show Go _ _ _ _ _ _ 136 [(1, vi (((if (((if ((wI S 3 4 (S.1 1 4)).1 3 4) = 5 then 1 else 0) : Int32)) = (((if ((wI S 3 4 (S.1 1 4)).1 3 5) = 0 then 1 else 0) : Int32)) then (if ((wI S 3 4 (S.1 1 4)).1 3 5) < 40 then 0 else 1) else 1) : Int32))), (0, rc 3)] [vi 0] ((wI S 3 4 (S.1 1 4), T), Y) _
                obtain rfl := Option.some.inj h
                refine go_pick [1, 0] rfl ?_
                exact key
              · refine go_icmp_lt (off := 7) (tgt := 135) (by decide +kernel) (by decide) (fun z => absurd z q11) (fun _ => ?_)
                refine go_blk rfl [(.iconst 1, 1, 0, 0, 0, .inl 1)] 131 132 _ _ _ (by decide +kernel) ?_
                show Go _ _ _ _ _ _ 132 [(1, vi (((if (((if ((wI S 3 4 (S.1 1 4)).1 3 4) = 5 then 1 else 0) : Int32)) = (((if ((wI S 3 4 (S.1 1 4)).1 3 5) = 0 then 1 else 0) : Int32)) then (if ((wI S 3 4 (S.1 1 4)).1 3 5) < 40 then 0 else 1) else 1) : Int32))), (0, rc 3)] [vi 1] ((wI S 3 4 (S.1 1 4), T), Y) _
                refine go_goto (off := 4) (tgt := 136) (by decide +kernel) (by decide) ?_
                obtain rfl := Option.some.inj h
                refine go_pick [1, 0] rfl ?_
                exact key
            · refine go_icmp_ne (off := 19) (tgt := 135) (by decide +kernel) (by decide) (fun _ => ?_) (fun z => absurd z q10)
              refine go_blk rfl [(.iconst 0, 1, 0, 0, 0, .inl 0)] 135 136 _ _ _ (by decide +kernel) ?_
              show Go _ _ _ _ _ _ 136 [(1, vi (((if (((if ((wI S 3 4 (S.1 1 4)).1 3 4) = 5 then 1 else 0) : Int32)) = (((if ((wI S 3 4 (S.1 1 4)).1 3 5) = 0 then 1 else 0) : Int32)) then (if ((wI S 3 4 (S.1 1 4)).1 3 5) < 40 then 0 else 1) else 1) : Int32))), (0, rc 3)] [vi 0] ((wI S 3 4 (S.1 1 4), T), Y) _
              obtain rfl := Option.some.inj h
              refine go_pick [1, 0] rfl ?_
              exact key
        clear h
        by_cases q4 : (((if ((wI S 3 4 (S.1 1 4)).1 3 4) = 5 then 1 else 0) : Int32)) = (((if ((wI S 3 4 (S.1 1 4)).1 3 5) = 0 then 1 else 0) : Int32))
        · refine go_icmp_ne (off := 12) (tgt := 83) (by decide +kernel) (by decide) (fun z => absurd q4 z) (fun _ => ?_)
          refine go_blk rfl [(.aload_n 0, 1, 0, 0, 0, .inl 0), (.getfield 29, 3, 5, 5, 0, .inl 0), (.bipush 40, 2, 0, 0, 0, .inl 40)] 74 80 _ _ _ (by decide +kernel) ?_
          refine And.intro (lc_t3 hT) ?_
          show Go _ _ _ _ _ _ 80 [(0, rc 3)] [vi 40, vi ((wI S 3 4 (S.1 1 4)).1 3 5)] ((wI S 3 4 (S.1 1 4), T), Y) _
          by_cases q5 : ((wI S 3 4 (S.1 1 4)).1 3 5) < 40
          · refine go_icmp_lt (off := 7) (tgt := 87) (by decide +kernel) (by decide) (fun _ => ?_) (fun z => absurd q5 z)
            refine go_blk rfl [(.iconst 0, 1, 0, 0, 0, .inl 0)] 87 88 _ _ _ (by decide +kernel) ?_
            show Go _ _ _ _ _ _ 88 [(0, rc 3)] [vi 0] ((wI S 3 4 (S.1 1 4), T), Y) _
            refine go_pick [0] rfl ?_; exact key _ (by rw [if_pos q4, if_pos q5])
          · refine go_icmp_lt (off := 7) (tgt := 87) (by decide +kernel) (by decide) (fun z => absurd z q5) (fun _ => ?_)
            refine go_blk rfl [(.iconst 1, 1, 0, 0, 0, .inl 1)] 83 84 _ _ _ (by decide +kernel) ?_
            show Go _ _ _ _ _ _ 84 [(0, rc 3)] [vi 1] ((wI S 3 4 (S.1 1 4), T), Y) _
            refine go_goto (off := 4) (tgt := 88) (by decide +kernel) (by decide) ?_
            refine go_pick [0] rfl ?_; exact key _ (by rw [if_pos q4, if_neg q5])
        · refine go_icmp_ne (off := 12) (tgt := 83) (by decide +kernel) (by decide) (fun _ => ?_) (fun z => absurd z q4)
          refine go_blk rfl [(.iconst 1, 1, 0, 0, 0, .inl 1)] 83 84 _ _ _ (by decide +kernel) ?_
          show Go _ _ _ _ _ _ 84 [(0, rc 3)] [vi 1] ((wI S 3 4 (S.1 1 4), T), Y) _
          refine go_goto (off := 4) (tgt := 88) (by decide +kernel) (by decide) ?_
          refine go_pick [0] rfl ?_; exact key _ (by rw [if_neg q4])
      clear h
      by_cases q3 : ((wI S 3 4 (S.1 1 4)).1 3 5) = 0
      · refine go_if_ne (off := 7) (tgt := 70) (by decide +kernel) (by decide) (fun z => absurd q3 z) (fun _ => ?_)
        refine go_blk rfl [(.iconst 1, 1, 0, 0, 0, .inl 1)] 66 67 _ _ _ (by decide +kernel) ?_
        show Go _ _ _ _ _ _ 67 [(0, rc 3)] [vi 1, vi (((if ((wI S 3 4 (S.1 1 4)).1 3 4) = 5 then 1 else 0) : Int32))] ((wI S 3 4 (S.1 1 4), T), Y) _
        refine go_goto (off := 4) (tgt := 71) (by decide +kernel) (by decide) ?_
        refine go_pick [0] rfl ?_; exact key _ (by rw [if_pos q3])
      · refine go_if_ne (off := 7) (tgt := 70) (by decide +kernel) (by decide) (fun _ => ?_) (fun z => absurd z q3)
        refine go_blk rfl [(.iconst 0, 1, 0, 0, 0, .inl 0)] 70 71 _ _ _ (by decide +kernel) ?_
        show Go _ _ _ _ _ _ 71 [(0, rc 3)] [vi 0, vi (((if ((wI S 3 4 (S.1 1 4)).1 3 4) = 5 then 1 else 0) : Int32))] ((wI S 3 4 (S.1 1 4), T), Y) _
        refine go_pick [0] rfl ?_; exact key _ (by rw [if_neg q3])
    clear h
    by_cases q2 : ((wI S 3 4 (S.1 1 4)).1 3 4) = 5
    · refine go_icmp_ne (off := 7) (tgt := 58) (by decide +kernel) (by decide) (fun z => absurd q2 z) (fun _ => ?_)
      refine go_blk rfl [(.iconst 1, 1, 0, 0, 0, .inl 1)] 54 55 _ _ _ (by decide +kernel) ?_
      show Go _ _ _ _ _ _ 55 [(0, rc 3)] [vi 1] ((wI S 3 4 (S.1 1 4), T), Y) _
      refine go_goto (off := 4) (tgt := 59) (by decide +kernel) (by decide) ?_
      refine go_pick [0] rfl ?_; exact key _ (by rw [if_pos q2])
    · refine go_icmp_ne (off := 7) (tgt := 58) (by decide +kernel) (by decide) (fun _ => ?_) (fun z => absurd z q2)
      refine go_blk rfl [(.iconst 0, 1, 0, 0, 0, .inl 0)] 58 59 _ _ _ (by decide +kernel) ?_
      show Go _ _ _ _ _ _ 59 [(0, rc 3)] [vi 0] ((wI S 3 4 (S.1 1 4), T), Y) _
      refine go_pick [0] rfl ?_; exact key _ (by rw [if_neg q2])
  · refine go_icmp_eq (off := 30) (tgt := 46) (by decide +kernel) (by decide) (fun z => absurd z q1) (fun _ => ?_)
    refine go_blk rfl [(.aload_n 0, 1, 0, 0, 0, .inl 0), (.getfield 26, 3, 5, 4, 0, .inl 0), (.bipush 6, 2, 0, 0, 0, .inl 6)] 19 25 _ _ _ (by decide +kernel) ?_
    refine And.intro (lc_t3 hT) ?_
    show Go _ _ _ _ _ _ 25 [(0, rc 3)] [vi 6, vi ((wI S 3 4 (S.1 1 4)).1 3 4)] ((wI S 3 4 (S.1 1 4), T), Y) _
    refine ite_el h (fun q14 h => ?_) (fun q14 h => ?_)
    · refine go_icmp_eq (off := 21) (tgt := 46) (by decide +kernel) (by decide) (fun _ => ?_) (fun z => absurd q14 z)
      refine go_blk rfl [(.aload_n 0, 1, 0, 0, 0, .inl 0), (.getfield 26, 3, 5, 4, 0, .inl 0), (.iconst 5, 1, 0, 0, 0, .inl 5)] 46 51 _ _ _ (by decide +kernel) ?_
      refine And.intro (lc_t3 hT) ?_
      show Go _ _ _ _ _ _ 51 [(0, rc 3)] [vi 5, vi ((wI S 3 4 (S.1 1 4)).1 3 4)] ((wI S 3 4 (S.1 1 4), T), Y) _
      have key : ∀ z0 : Int32, z0 = ((if ((wI S 3 4 (S.1 1 4)).1 3 4) = 5 then 1 else 0) : Int32) → Go M5_takeWord 2 0 0 0 0 59 [(0, rc 3)] [vi z0] ((wI S 3 4 (S.1 1 4), T), Y) (eqQ (some (vi x)) ((S1, T), Y)) := by
        intro z0 ez0
        subst ez0
        refine go_blk rfl [(.aload_n 0, 1, 0, 0, 0, .inl 0), (.getfield 29, 3, 5, 5, 0, .inl 0)] 59 63 _ _ _ (by decide +kernel) ?_
        refine And.intro (lc_t3 hT) ?_
        show Go _ _ _ _ _ _ 63 [(0, rc 3)] [vi ((wI S 3 4 (S.1 1 4)).1 3 5), vi (((if ((wI S 3 4 (S.1 1 4)).1 3 4) = 5 then 1 else 0) : Int32))] ((wI S 3 4 (S.1 1 4), T), Y) _
        have key : ∀ z0 : Int32, z0 = ((if ((wI S 3 4 (S.1 1 4)).1 3 5) = 0 then 1 else 0) : Int32) → Go M5_takeWord 2 0 0 0 0 71 [(0, rc 3)] [vi z0, vi (((if ((wI S 3 4 (S.1 1 4)).1 3 4) = 5 then 1 else 0) : Int32))] ((wI S 3 4 (S.1 1 4), T), Y) (eqQ (some (vi x)) ((S1, T), Y)) := by
          intro z0 ez0
          subst ez0
          have key : ∀ z0 : Int32, z0 = ((if (((if ((wI S 3 4 (S.1 1 4)).1 3 4) = 5 then 1 else 0) : Int32)) = (((if ((wI S 3 4 (S.1 1 4)).1 3 5) = 0 then 1 else 0) : Int32)) then (if ((wI S 3 4 (S.1 1 4)).1 3 5) < 40 then 0 else 1) else 1) : Int32) → Go M5_takeWord 2 0 0 0 0 88 [(0, rc 3)] [vi z0] ((wI S 3 4 (S.1 1 4), T), Y) (eqQ (some (vi x)) ((S1, T), Y)) := by
            intro z0 ez0
            subst ez0
            refine go_blk rfl [(.istore_n 1, 1, 1, 0, 0, .inl 0), (.aload_n 0, 1, 0, 0, 0, .inl 0), (.getfield 26, 3, 5, 4, 0, .inl 0), (.bipush 6, 2, 0, 0, 0, .inl 6)] 88 95 _ _ _ (by decide +kernel) ?_
            refine And.intro (lc_t3 hT) ?_
            show Go _ _ _ _ _ _ 95 [(1, vi (((if (((if ((wI S 3 4 (S.1 1 4)).1 3 4) = 5 then 1 else 0) : Int32)) = (((if ((wI S 3 4 (S.1 1 4)).1 3 5) = 0 then 1 else 0) : Int32)) then (if ((wI S 3 4 (S.1 1 4)).1 3 5) < 40 then 0 else 1) else 1) : Int32))), (0, rc 3)] [vi 6, vi ((wI S 3 4 (S.1 1 4)).1 3 4)] ((wI S 3 4 (S.1 1 4), T), Y) _
            obtain ⟨y4, hy4, h⟩ := bind_el h
            have key : Go M5_takeWord 2 0 0 0 0 136 [(0, rc 3), (1, vi (((if (((if ((wI S 3 4 (S.1 1 4)).1 3 4) = 5 then 1 else 0) : Int32)) = (((if ((wI S 3 4 (S.1 1 4)).1 3 5) = 0 then 1 else 0) : Int32)) then (if ((wI S 3 4 (S.1 1 4)).1 3 5) < 40 then 0 else 1) else 1) : Int32)))] [vi y4] ((wI S 3 4 (S.1 1 4), T), Y) (eqQ (some (vi x)) ((S1, T), Y)) := by
              refine go_blk rfl [(.istore_n 2, 1, 2, 0, 0, .inl 0), (.iload_n 1, 1, 1, 0, 0, .inl 0)] 136 138 _ _ _ (by decide +kernel) ?_
              show Go _ _ _ _ _ _ 138 [(2, vi y4), (0, rc 3), (1, vi (((if (((if ((wI S 3 4 (S.1 1 4)).1 3 4) = 5 then 1 else 0) : Int32)) = (((if ((wI S 3 4 (S.1 1 4)).1 3 5) = 0 then 1 else 0) : Int32)) then (if ((wI S 3 4 (S.1 1 4)).1 3 5) < 40 then 0 else 1) else 1) : Int32)))] [vi (((if (((if ((wI S 3 4 (S.1 1 4)).1 3 4) = 5 then 1 else 0) : Int32)) = (((if ((wI S 3 4 (S.1 1 4)).1 3 5) = 0 then 1 else 0) : Int32)) then (if ((wI S 3 4 (S.1 1 4)).1 3 5) < 40 then 0 else 1) else 1) : Int32))] ((wI S 3 4 (S.1 1 4), T), Y) _
              refine ite_el h (fun q25 h => ?_) (fun q25 h => ?_)
              · refine go_if_ne (off := 7) (tgt := 145) (by decide +kernel) (by decide) (fun z => absurd q25 z) (fun _ => ?_)
                refine go_blk rfl [(.iload_n 2, 1, 2, 0, 0, .inl 0)] 141 142 _ _ _ (by decide +kernel) ?_
                show Go _ _ _ _ _ _ 142 [(2, vi y4), (0, rc 3), (1, vi (((if (((if ((wI S 3 4 (S.1 1 4)).1 3 4) = 5 then 1 else 0) : Int32)) = (((if ((wI S 3 4 (S.1 1 4)).1 3 5) = 0 then 1 else 0) : Int32)) then (if ((wI S 3 4 (S.1 1 4)).1 3 5) < 40 then 0 else 1) else 1) : Int32)))] [vi y4] ((wI S 3 4 (S.1 1 4), T), Y) _
                refine ite_el h (fun q26 h => ?_) (fun q26 h => ?_)
                · refine go_if_eq (off := 12) (tgt := 154) (by decide +kernel) (by decide) (fun _ => ?_) (fun z => absurd q26 z)
                  refine go_blk rfl [(.aload_n 0, 1, 0, 0, 0, .inl 0), (.dup, 1, 0, 0, 0, .inl 0), (.getfield 29, 3, 5, 5, 0, .inl 0), (.iconst 1, 1, 0, 0, 0, .inl 1), (.iadd, 1, 0, 0, 0, .inl 0), (.putfield 29, 3, 5, 5, 0, .inl 0)] 154 164 _ _ _ (by decide +kernel) ?_
                  refine And.intro (lc_t3 hT) ?_
                  refine And.intro (lc_t3 hT) (And.intro trivial ?_)
                  show Go _ _ _ _ _ _ 164 [(2, vi y4), (0, rc 3), (1, vi (((if (((if ((wI S 3 4 (S.1 1 4)).1 3 4) = 5 then 1 else 0) : Int32)) = (((if ((wI S 3 4 (S.1 1 4)).1 3 5) = 0 then 1 else 0) : Int32)) then (if ((wI S 3 4 (S.1 1 4)).1 3 5) < 40 then 0 else 1) else 1) : Int32)))] [] ((wI (wI S 3 4 (S.1 1 4)) 3 5 (((wI S 3 4 (S.1 1 4)).1 3 5) + 1), T), Y) _
                  refine go_blk rfl [(.aload_n 0, 1, 0, 0, 0, .inl 0), (.iconst 0, 1, 0, 0, 0, .inl 0), (.putfield 22, 3, 5, 3, 0, .inl 0)] 164 169 _ _ _ (by decide +kernel) ?_
                  refine And.intro (lc_t3 hT) (And.intro trivial ?_)
                  show Go _ _ _ _ _ _ 169 [(2, vi y4), (0, rc 3), (1, vi (((if (((if ((wI S 3 4 (S.1 1 4)).1 3 4) = 5 then 1 else 0) : Int32)) = (((if ((wI S 3 4 (S.1 1 4)).1 3 5) = 0 then 1 else 0) : Int32)) then (if ((wI S 3 4 (S.1 1 4)).1 3 5) < 40 then 0 else 1) else 1) : Int32)))] [] ((wI (wI (wI S 3 4 (S.1 1 4)) 3 5 (((wI S 3 4 (S.1 1 4)).1 3 5) + 1)) 3 3 0, T), Y) _
                  refine go_blk rfl [(.aload_n 0, 1, 0, 0, 0, .inl 0), (.iconst 1, 1, 0, 0, 0, .inl 1), (.putfield 32, 3, 5, 6, 0, .inl 0)] 169 174 _ _ _ (by decide +kernel) ?_
                  refine And.intro (lc_t3 hT) (And.intro trivial ?_)
                  show Go _ _ _ _ _ _ 174 [(2, vi y4), (0, rc 3), (1, vi (((if (((if ((wI S 3 4 (S.1 1 4)).1 3 4) = 5 then 1 else 0) : Int32)) = (((if ((wI S 3 4 (S.1 1 4)).1 3 5) = 0 then 1 else 0) : Int32)) then (if ((wI S 3 4 (S.1 1 4)).1 3 5) < 40 then 0 else 1) else 1) : Int32)))] [] ((wI (wI (wI (wI S 3 4 (S.1 1 4)) 3 5 (((wI S 3 4 (S.1 1 4)).1 3 5) + 1)) 3 3 0) 3 6 1, T), Y) _
                  refine go_blk rfl [(.iconst 1, 1, 0, 0, 0, .inl 1)] 174 175 _ _ _ (by decide +kernel) ?_
                  show Go _ _ _ _ _ _ 175 [(2, vi y4), (0, rc 3), (1, vi (((if (((if ((wI S 3 4 (S.1 1 4)).1 3 4) = 5 then 1 else 0) : Int32)) = (((if ((wI S 3 4 (S.1 1 4)).1 3 5) = 0 then 1 else 0) : Int32)) then (if ((wI S 3 4 (S.1 1 4)).1 3 5) < 40 then 0 else 1) else 1) : Int32)))] [vi 1] ((wI (wI (wI (wI S 3 4 (S.1 1 4)) 3 5 (((wI S 3 4 (S.1 1 4)).1 3 5) + 1)) 3 3 0) 3 6 1, T), Y) _
                  obtain ⟨rfl, rfl⟩ := Prod.mk.inj (Option.some.inj h)
                  exact go_ireturn (by decide +kernel) rfl rfl ⟨rfl, rfl⟩
                · refine go_if_eq (off := 12) (tgt := 154) (by decide +kernel) (by decide) (fun z => absurd z q26) (fun _ => ?_)
                  refine go_blk rfl [(.aload_n 0, 1, 0, 0, 0, .inl 0), (.getfield 35, 3, 5, 0, 1, .inl 0), (.iconst 4, 1, 0, 0, 0, .inl 4)] 145 150 _ _ _ (by decide +kernel) ?_
                  refine And.intro (lc_t3 hT) (Exists.intro _ (And.intro (gRc (lc_r5_0 hT)) ?_))
                  show Go _ _ _ _ _ _ 150 [(2, vi y4), (0, rc 3), (1, vi (((if (((if ((wI S 3 4 (S.1 1 4)).1 3 4) = 5 then 1 else 0) : Int32)) = (((if ((wI S 3 4 (S.1 1 4)).1 3 5) = 0 then 1 else 0) : Int32)) then (if ((wI S 3 4 (S.1 1 4)).1 3 5) < 40 then 0 else 1) else 1) : Int32)))] [vi 4, rc 1] ((wI S 3 4 (S.1 1 4), T), Y) _
                  obtain ⟨r5, hr5, h⟩ := bind_el h
                  refine go_callV (idx := 69) (z := 1) (M' := M9_fail) (n := 1) (A := [vi 4]) (v' := some (vi r5.2)) (μ' := ((r5.1, T), Y)) (d' := 1) (mc' := 0) (ms' := 0) (kc' := 0) (ks' := 0) (ci := 9) (x := .inl 1) (by decide +kernel) ml_5_69 rfl wv9_fail rfl (by decide) rfl (lc_t1 hT) (ret9_fail hT hr5) (by decide) rfl rfl (Nat.le_of_ble_eq_true rfl) rfl (jag rfl rfl) ?_
                  show Go _ _ _ _ _ _ 153 [(2, vi y4), (0, rc 3), (1, vi (((if (((if ((wI S 3 4 (S.1 1 4)).1 3 4) = 5 then 1 else 0) : Int32)) = (((if ((wI S 3 4 (S.1 1 4)).1 3 5) = 0 then 1 else 0) : Int32)) then (if ((wI S 3 4 (S.1 1 4)).1 3 5) < 40 then 0 else 1) else 1) : Int32)))] [vi r5.2] ((r5.1, T), Y) _
                  refine gd_el h (fun q h => ?_)
                  obtain ⟨rfl, rfl⟩ := Prod.mk.inj (Option.some.inj h)
                  exact go_ireturn (by decide +kernel) rfl (by rcases q with q | q <;> rw [q] <;> rfl) ⟨rfl, rfl⟩
              · refine go_if_ne (off := 7) (tgt := 145) (by decide +kernel) (by decide) (fun _ => ?_) (fun z => absurd z q25)
                refine go_blk rfl [(.aload_n 0, 1, 0, 0, 0, .inl 0), (.getfield 35, 3, 5, 0, 1, .inl 0), (.iconst 4, 1, 0, 0, 0, .inl 4)] 145 150 _ _ _ (by decide +kernel) ?_
                refine And.intro (lc_t3 hT) (Exists.intro _ (And.intro (gRc (lc_r5_0 hT)) ?_))
                show Go _ _ _ _ _ _ 150 [(2, vi y4), (0, rc 3), (1, vi (((if (((if ((wI S 3 4 (S.1 1 4)).1 3 4) = 5 then 1 else 0) : Int32)) = (((if ((wI S 3 4 (S.1 1 4)).1 3 5) = 0 then 1 else 0) : Int32)) then (if ((wI S 3 4 (S.1 1 4)).1 3 5) < 40 then 0 else 1) else 1) : Int32)))] [vi 4, rc 1] ((wI S 3 4 (S.1 1 4), T), Y) _
                obtain ⟨r6, hr6, h⟩ := bind_el h
                refine go_callV (idx := 69) (z := 1) (M' := M9_fail) (n := 1) (A := [vi 4]) (v' := some (vi r6.2)) (μ' := ((r6.1, T), Y)) (d' := 1) (mc' := 0) (ms' := 0) (kc' := 0) (ks' := 0) (ci := 9) (x := .inl 1) (by decide +kernel) ml_5_69 rfl wv9_fail rfl (by decide) rfl (lc_t1 hT) (ret9_fail hT hr6) (by decide) rfl rfl (Nat.le_of_ble_eq_true rfl) rfl (jag rfl rfl) ?_
                show Go _ _ _ _ _ _ 153 [(2, vi y4), (0, rc 3), (1, vi (((if (((if ((wI S 3 4 (S.1 1 4)).1 3 4) = 5 then 1 else 0) : Int32)) = (((if ((wI S 3 4 (S.1 1 4)).1 3 5) = 0 then 1 else 0) : Int32)) then (if ((wI S 3 4 (S.1 1 4)).1 3 5) < 40 then 0 else 1) else 1) : Int32)))] [vi r6.2] ((r6.1, T), Y) _
                refine gd_el h (fun q h => ?_)
                obtain ⟨rfl, rfl⟩ := Prod.mk.inj (Option.some.inj h)
                exact go_ireturn (by decide +kernel) rfl (by rcases q with q | q <;> rw [q] <;> rfl) ⟨rfl, rfl⟩
            replace h := hy4
            refine ite_el h (fun q19 h => ?_) (fun q19 h => ?_)
            · refine go_icmp_ne (off := 15) (tgt := 110) (by decide +kernel) (by decide) (fun z => absurd q19 z) (fun _ => ?_)
              refine go_blk rfl [(.aload_n 0, 1, 0, 0, 0, .inl 0), (.getfield 12, 3, 5, 1, 1, .inl 0), (.getfield 73, 3, 4, 1, 0, .inl 0), (.bipush 6, 2, 0, 0, 0, .inl 6)] 98 107 _ _ _ (by decide +kernel) ?_
              refine And.intro (lc_t3 hT) (Exists.intro _ (And.intro (gRc (lc_r5_1 hT)) ?_))
              refine And.intro (lc_h4 hT).1 ?_
              show Go _ _ _ _ _ _ 107 [(1, vi (((if (((if ((wI S 3 4 (S.1 1 4)).1 3 4) = 5 then 1 else 0) : Int32)) = (((if ((wI S 3 4 (S.1 1 4)).1 3 5) = 0 then 1 else 0) : Int32)) then (if ((wI S 3 4 (S.1 1 4)).1 3 5) < 40 then 0 else 1) else 1) : Int32))), (0, rc 3)] [vi 6, vi ((wI S 3 4 (S.1 1 4)).1 4 1)] ((wI S 3 4 (S.1 1 4), T), Y) _
              refine ite_el h (fun q20 h => ?_) (fun q20 h => ?_)
              · refine go_icmp_ge (off := 24) (tgt := 131) (by decide +kernel) (by decide) (fun _ => ?_) (fun z => absurd q20 z)
                refine go_blk rfl [(.iconst 1, 1, 0, 0, 0, .inl 1)] 131 132 _ _ _ (by decide +kernel) ?_
                show Go _ _ _ _ _ _ 132 [(1, vi (((if (((if ((wI S 3 4 (S.1 1 4)).1 3 4) = 5 then 1 else 0) : Int32)) = (((if ((wI S 3 4 (S.1 1 4)).1 3 5) = 0 then 1 else 0) : Int32)) then (if ((wI S 3 4 (S.1 1 4)).1 3 5) < 40 then 0 else 1) else 1) : Int32))), (0, rc 3)] [vi 1] ((wI S 3 4 (S.1 1 4), T), Y) _
                refine go_goto (off := 4) (tgt := 136) (by decide +kernel) (by decide) ?_
                obtain rfl := Option.some.inj h
                refine go_pick [1, 0] rfl ?_
                exact key
              · refine go_icmp_ge (off := 24) (tgt := 131) (by decide +kernel) (by decide) (fun z => absurd z q20) (fun _ => ?_)
                refine go_blk rfl [(.aload_n 0, 1, 0, 0, 0, .inl 0), (.getfield 26, 3, 5, 4, 0, .inl 0), (.bipush 7, 2, 0, 0, 0, .inl 7)] 110 116 _ _ _ (by decide +kernel) ?_
                refine And.intro (lc_t3 hT) ?_
                show Go _ _ _ _ _ _ 116 [(1, vi (((if (((if ((wI S 3 4 (S.1 1 4)).1 3 4) = 5 then 1 else 0) : Int32)) = (((if ((wI S 3 4 (S.1 1 4)).1 3 5) = 0 then 1 else 0) : Int32)) then (if ((wI S 3 4 (S.1 1 4)).1 3 5) < 40 then 0 else 1) else 1) : Int32))), (0, rc 3)] [vi 7, vi ((wI S 3 4 (S.1 1 4)).1 3 4)] ((wI S 3 4 (S.1 1 4), T), Y) _
                refine ite_el h (fun q21 h => ?_) (fun q21 h => ?_)
                · refine go_icmp_ne (off := 19) (tgt := 135) (by decide +kernel) (by decide) (fun z => absurd q21 z) (fun _ => ?_)
                  refine go_blk rfl [(.aload_n 0, 1, 0, 0, 0, .inl 0), (.getfield 12, 3, 5, 1, 1, .inl 0), (.getfield 76, 3, 4, 2, 0, .inl 0), (.bipush 7, 2, 0, 0, 0, .inl 7)] 119 128 _ _ _ (by decide +kernel) ?_
                  refine And.intro (lc_t3 hT) (Exists.intro _ (And.intro (gRc (lc_r5_1 hT)) ?_))
                  refine And.intro (lc_h4 hT).1 ?_
                  show Go _ _ _ _ _ _ 128 [(1, vi (((if (((if ((wI S 3 4 (S.1 1 4)).1 3 4) = 5 then 1 else 0) : Int32)) = (((if ((wI S 3 4 (S.1 1 4)).1 3 5) = 0 then 1 else 0) : Int32)) then (if ((wI S 3 4 (S.1 1 4)).1 3 5) < 40 then 0 else 1) else 1) : Int32))), (0, rc 3)] [vi 7, vi ((wI S 3 4 (S.1 1 4)).1 4 2)] ((wI S 3 4 (S.1 1 4), T), Y) _
                  refine ite_el h (fun q22 h => ?_) (fun q22 h => ?_)
                  · refine go_icmp_lt (off := 7) (tgt := 135) (by decide +kernel) (by decide) (fun _ => ?_) (fun z => absurd q22 z)
                    refine go_blk rfl [(.iconst 0, 1, 0, 0, 0, .inl 0)] 135 136 _ _ _ (by decide +kernel) ?_
                    show Go _ _ _ _ _ _ 136 [(1, vi (((if (((if ((wI S 3 4 (S.1 1 4)).1 3 4) = 5 then 1 else 0) : Int32)) = (((if ((wI S 3 4 (S.1 1 4)).1 3 5) = 0 then 1 else 0) : Int32)) then (if ((wI S 3 4 (S.1 1 4)).1 3 5) < 40 then 0 else 1) else 1) : Int32))), (0, rc 3)] [vi 0] ((wI S 3 4 (S.1 1 4), T), Y) _
                    obtain rfl := Option.some.inj h
                    refine go_pick [1, 0] rfl ?_
                    exact key
                  · refine go_icmp_lt (off := 7) (tgt := 135) (by decide +kernel) (by decide) (fun z => absurd z q22) (fun _ => ?_)
                    refine go_blk rfl [(.iconst 1, 1, 0, 0, 0, .inl 1)] 131 132 _ _ _ (by decide +kernel) ?_
                    show Go _ _ _ _ _ _ 132 [(1, vi (((if (((if ((wI S 3 4 (S.1 1 4)).1 3 4) = 5 then 1 else 0) : Int32)) = (((if ((wI S 3 4 (S.1 1 4)).1 3 5) = 0 then 1 else 0) : Int32)) then (if ((wI S 3 4 (S.1 1 4)).1 3 5) < 40 then 0 else 1) else 1) : Int32))), (0, rc 3)] [vi 1] ((wI S 3 4 (S.1 1 4), T), Y) _
                    refine go_goto (off := 4) (tgt := 136) (by decide +kernel) (by decide) ?_
                    obtain rfl := Option.some.inj h
                    refine go_pick [1, 0] rfl ?_
                    exact key
                · refine go_icmp_ne (off := 19) (tgt := 135) (by decide +kernel) (by decide) (fun _ => ?_) (fun z => absurd z q21)
                  refine go_blk rfl [(.iconst 0, 1, 0, 0, 0, .inl 0)] 135 136 _ _ _ (by decide +kernel) ?_
                  show Go _ _ _ _ _ _ 136 [(1, vi (((if (((if ((wI S 3 4 (S.1 1 4)).1 3 4) = 5 then 1 else 0) : Int32)) = (((if ((wI S 3 4 (S.1 1 4)).1 3 5) = 0 then 1 else 0) : Int32)) then (if ((wI S 3 4 (S.1 1 4)).1 3 5) < 40 then 0 else 1) else 1) : Int32))), (0, rc 3)] [vi 0] ((wI S 3 4 (S.1 1 4), T), Y) _
                  obtain rfl := Option.some.inj h
                  refine go_pick [1, 0] rfl ?_
                  exact key
            · refine go_icmp_ne (off := 15) (tgt := 110) (by decide +kernel) (by decide) (fun _ => ?_) (fun z => absurd z q19)
              refine go_blk rfl [(.aload_n 0, 1, 0, 0, 0, .inl 0), (.getfield 26, 3, 5, 4, 0, .inl 0), (.bipush 7, 2, 0, 0, 0, .inl 7)] 110 116 _ _ _ (by decide +kernel) ?_
              refine And.intro (lc_t3 hT) ?_
              show Go _ _ _ _ _ _ 116 [(1, vi (((if (((if ((wI S 3 4 (S.1 1 4)).1 3 4) = 5 then 1 else 0) : Int32)) = (((if ((wI S 3 4 (S.1 1 4)).1 3 5) = 0 then 1 else 0) : Int32)) then (if ((wI S 3 4 (S.1 1 4)).1 3 5) < 40 then 0 else 1) else 1) : Int32))), (0, rc 3)] [vi 7, vi ((wI S 3 4 (S.1 1 4)).1 3 4)] ((wI S 3 4 (S.1 1 4), T), Y) _
              refine ite_el h (fun q23 h => ?_) (fun q23 h => ?_)
              · refine go_icmp_ne (off := 19) (tgt := 135) (by decide +kernel) (by decide) (fun z => absurd q23 z) (fun _ => ?_)
                refine go_blk rfl [(.aload_n 0, 1, 0, 0, 0, .inl 0), (.getfield 12, 3, 5, 1, 1, .inl 0), (.getfield 76, 3, 4, 2, 0, .inl 0), (.bipush 7, 2, 0, 0, 0, .inl 7)] 119 128 _ _ _ (by decide +kernel) ?_
                refine And.intro (lc_t3 hT) (Exists.intro _ (And.intro (gRc (lc_r5_1 hT)) ?_))
                refine And.intro (lc_h4 hT).1 ?_
                show Go _ _ _ _ _ _ 128 [(1, vi (((if (((if ((wI S 3 4 (S.1 1 4)).1 3 4) = 5 then 1 else 0) : Int32)) = (((if ((wI S 3 4 (S.1 1 4)).1 3 5) = 0 then 1 else 0) : Int32)) then (if ((wI S 3 4 (S.1 1 4)).1 3 5) < 40 then 0 else 1) else 1) : Int32))), (0, rc 3)] [vi 7, vi ((wI S 3 4 (S.1 1 4)).1 4 2)] ((wI S 3 4 (S.1 1 4), T), Y) _
                refine ite_el h (fun q24 h => ?_) (fun q24 h => ?_)
                · refine go_icmp_lt (off := 7) (tgt := 135) (by decide +kernel) (by decide) (fun _ => ?_) (fun z => absurd q24 z)
                  refine go_blk rfl [(.iconst 0, 1, 0, 0, 0, .inl 0)] 135 136 _ _ _ (by decide +kernel) ?_
                  show Go _ _ _ _ _ _ 136 [(1, vi (((if (((if ((wI S 3 4 (S.1 1 4)).1 3 4) = 5 then 1 else 0) : Int32)) = (((if ((wI S 3 4 (S.1 1 4)).1 3 5) = 0 then 1 else 0) : Int32)) then (if ((wI S 3 4 (S.1 1 4)).1 3 5) < 40 then 0 else 1) else 1) : Int32))), (0, rc 3)] [vi 0] ((wI S 3 4 (S.1 1 4), T), Y) _
                  obtain rfl := Option.some.inj h
                  refine go_pick [1, 0] rfl ?_
                  exact key
                · refine go_icmp_lt (off := 7) (tgt := 135) (by decide +kernel) (by decide) (fun z => absurd z q24) (fun _ => ?_)
                  refine go_blk rfl [(.iconst 1, 1, 0, 0, 0, .inl 1)] 131 132 _ _ _ (by decide +kernel) ?_
                  show Go _ _ _ _ _ _ 132 [(1, vi (((if (((if ((wI S 3 4 (S.1 1 4)).1 3 4) = 5 then 1 else 0) : Int32)) = (((if ((wI S 3 4 (S.1 1 4)).1 3 5) = 0 then 1 else 0) : Int32)) then (if ((wI S 3 4 (S.1 1 4)).1 3 5) < 40 then 0 else 1) else 1) : Int32))), (0, rc 3)] [vi 1] ((wI S 3 4 (S.1 1 4), T), Y) _
                  refine go_goto (off := 4) (tgt := 136) (by decide +kernel) (by decide) ?_
                  obtain rfl := Option.some.inj h
                  refine go_pick [1, 0] rfl ?_
                  exact key
              · refine go_icmp_ne (off := 19) (tgt := 135) (by decide +kernel) (by decide) (fun _ => ?_) (fun z => absurd z q23)
                refine go_blk rfl [(.iconst 0, 1, 0, 0, 0, .inl 0)] 135 136 _ _ _ (by decide +kernel) ?_
                show Go _ _ _ _ _ _ 136 [(1, vi (((if (((if ((wI S 3 4 (S.1 1 4)).1 3 4) = 5 then 1 else 0) : Int32)) = (((if ((wI S 3 4 (S.1 1 4)).1 3 5) = 0 then 1 else 0) : Int32)) then (if ((wI S 3 4 (S.1 1 4)).1 3 5) < 40 then 0 else 1) else 1) : Int32))), (0, rc 3)] [vi 0] ((wI S 3 4 (S.1 1 4), T), Y) _
                obtain rfl := Option.some.inj h
                refine go_pick [1, 0] rfl ?_
                exact key
          clear h
          by_cases q17 : (((if ((wI S 3 4 (S.1 1 4)).1 3 4) = 5 then 1 else 0) : Int32)) = (((if ((wI S 3 4 (S.1 1 4)).1 3 5) = 0 then 1 else 0) : Int32))
          · refine go_icmp_ne (off := 12) (tgt := 83) (by decide +kernel) (by decide) (fun z => absurd q17 z) (fun _ => ?_)
            refine go_blk rfl [(.aload_n 0, 1, 0, 0, 0, .inl 0), (.getfield 29, 3, 5, 5, 0, .inl 0), (.bipush 40, 2, 0, 0, 0, .inl 40)] 74 80 _ _ _ (by decide +kernel) ?_
            refine And.intro (lc_t3 hT) ?_
            show Go _ _ _ _ _ _ 80 [(0, rc 3)] [vi 40, vi ((wI S 3 4 (S.1 1 4)).1 3 5)] ((wI S 3 4 (S.1 1 4), T), Y) _
            by_cases q18 : ((wI S 3 4 (S.1 1 4)).1 3 5) < 40
            · refine go_icmp_lt (off := 7) (tgt := 87) (by decide +kernel) (by decide) (fun _ => ?_) (fun z => absurd q18 z)
              refine go_blk rfl [(.iconst 0, 1, 0, 0, 0, .inl 0)] 87 88 _ _ _ (by decide +kernel) ?_
              show Go _ _ _ _ _ _ 88 [(0, rc 3)] [vi 0] ((wI S 3 4 (S.1 1 4), T), Y) _
              refine go_pick [0] rfl ?_; exact key _ (by rw [if_pos q17, if_pos q18])
            · refine go_icmp_lt (off := 7) (tgt := 87) (by decide +kernel) (by decide) (fun z => absurd z q18) (fun _ => ?_)
              refine go_blk rfl [(.iconst 1, 1, 0, 0, 0, .inl 1)] 83 84 _ _ _ (by decide +kernel) ?_
              show Go _ _ _ _ _ _ 84 [(0, rc 3)] [vi 1] ((wI S 3 4 (S.1 1 4), T), Y) _
              refine go_goto (off := 4) (tgt := 88) (by decide +kernel) (by decide) ?_
              refine go_pick [0] rfl ?_; exact key _ (by rw [if_pos q17, if_neg q18])
          · refine go_icmp_ne (off := 12) (tgt := 83) (by decide +kernel) (by decide) (fun _ => ?_) (fun z => absurd z q17)
            refine go_blk rfl [(.iconst 1, 1, 0, 0, 0, .inl 1)] 83 84 _ _ _ (by decide +kernel) ?_
            show Go _ _ _ _ _ _ 84 [(0, rc 3)] [vi 1] ((wI S 3 4 (S.1 1 4), T), Y) _
            refine go_goto (off := 4) (tgt := 88) (by decide +kernel) (by decide) ?_
            refine go_pick [0] rfl ?_; exact key _ (by rw [if_neg q17])
        clear h
        by_cases q16 : ((wI S 3 4 (S.1 1 4)).1 3 5) = 0
        · refine go_if_ne (off := 7) (tgt := 70) (by decide +kernel) (by decide) (fun z => absurd q16 z) (fun _ => ?_)
          refine go_blk rfl [(.iconst 1, 1, 0, 0, 0, .inl 1)] 66 67 _ _ _ (by decide +kernel) ?_
          show Go _ _ _ _ _ _ 67 [(0, rc 3)] [vi 1, vi (((if ((wI S 3 4 (S.1 1 4)).1 3 4) = 5 then 1 else 0) : Int32))] ((wI S 3 4 (S.1 1 4), T), Y) _
          refine go_goto (off := 4) (tgt := 71) (by decide +kernel) (by decide) ?_
          refine go_pick [0] rfl ?_; exact key _ (by rw [if_pos q16])
        · refine go_if_ne (off := 7) (tgt := 70) (by decide +kernel) (by decide) (fun _ => ?_) (fun z => absurd z q16)
          refine go_blk rfl [(.iconst 0, 1, 0, 0, 0, .inl 0)] 70 71 _ _ _ (by decide +kernel) ?_
          show Go _ _ _ _ _ _ 71 [(0, rc 3)] [vi 0, vi (((if ((wI S 3 4 (S.1 1 4)).1 3 4) = 5 then 1 else 0) : Int32))] ((wI S 3 4 (S.1 1 4), T), Y) _
          refine go_pick [0] rfl ?_; exact key _ (by rw [if_neg q16])
      clear h
      by_cases q15 : ((wI S 3 4 (S.1 1 4)).1 3 4) = 5
      · refine go_icmp_ne (off := 7) (tgt := 58) (by decide +kernel) (by decide) (fun z => absurd q15 z) (fun _ => ?_)
        refine go_blk rfl [(.iconst 1, 1, 0, 0, 0, .inl 1)] 54 55 _ _ _ (by decide +kernel) ?_
        show Go _ _ _ _ _ _ 55 [(0, rc 3)] [vi 1] ((wI S 3 4 (S.1 1 4), T), Y) _
        refine go_goto (off := 4) (tgt := 59) (by decide +kernel) (by decide) ?_
        refine go_pick [0] rfl ?_; exact key _ (by rw [if_pos q15])
      · refine go_icmp_ne (off := 7) (tgt := 58) (by decide +kernel) (by decide) (fun _ => ?_) (fun z => absurd z q15)
        refine go_blk rfl [(.iconst 0, 1, 0, 0, 0, .inl 0)] 58 59 _ _ _ (by decide +kernel) ?_
        show Go _ _ _ _ _ _ 59 [(0, rc 3)] [vi 0] ((wI S 3 4 (S.1 1 4), T), Y) _
        refine go_pick [0] rfl ?_; exact key _ (by rw [if_neg q15])
    · refine go_icmp_eq (off := 21) (tgt := 46) (by decide +kernel) (by decide) (fun z => absurd z q14) (fun _ => ?_)
      refine go_blk rfl [(.aload_n 0, 1, 0, 0, 0, .inl 0), (.getfield 26, 3, 5, 4, 0, .inl 0), (.bipush 7, 2, 0, 0, 0, .inl 7)] 28 34 _ _ _ (by decide +kernel) ?_
      refine And.intro (lc_t3 hT) ?_
      show Go _ _ _ _ _ _ 34 [(0, rc 3)] [vi 7, vi ((wI S 3 4 (S.1 1 4)).1 3 4)] ((wI S 3 4 (S.1 1 4), T), Y) _
      refine ite_el h (fun q27 h => ?_) (fun q27 h => ?_)
      · refine go_icmp_eq (off := 12) (tgt := 46) (by decide +kernel) (by decide) (fun _ => ?_) (fun z => absurd q27 z)
        refine go_blk rfl [(.aload_n 0, 1, 0, 0, 0, .inl 0), (.getfield 26, 3, 5, 4, 0, .inl 0), (.iconst 5, 1, 0, 0, 0, .inl 5)] 46 51 _ _ _ (by decide +kernel) ?_
        refine And.intro (lc_t3 hT) ?_
        show Go _ _ _ _ _ _ 51 [(0, rc 3)] [vi 5, vi ((wI S 3 4 (S.1 1 4)).1 3 4)] ((wI S 3 4 (S.1 1 4), T), Y) _
        have key : ∀ z0 : Int32, z0 = ((if ((wI S 3 4 (S.1 1 4)).1 3 4) = 5 then 1 else 0) : Int32) → Go M5_takeWord 2 0 0 0 0 59 [(0, rc 3)] [vi z0] ((wI S 3 4 (S.1 1 4), T), Y) (eqQ (some (vi x)) ((S1, T), Y)) := by
          intro z0 ez0
          subst ez0
          refine go_blk rfl [(.aload_n 0, 1, 0, 0, 0, .inl 0), (.getfield 29, 3, 5, 5, 0, .inl 0)] 59 63 _ _ _ (by decide +kernel) ?_
          refine And.intro (lc_t3 hT) ?_
          show Go _ _ _ _ _ _ 63 [(0, rc 3)] [vi ((wI S 3 4 (S.1 1 4)).1 3 5), vi (((if ((wI S 3 4 (S.1 1 4)).1 3 4) = 5 then 1 else 0) : Int32))] ((wI S 3 4 (S.1 1 4), T), Y) _
          have key : ∀ z0 : Int32, z0 = ((if ((wI S 3 4 (S.1 1 4)).1 3 5) = 0 then 1 else 0) : Int32) → Go M5_takeWord 2 0 0 0 0 71 [(0, rc 3)] [vi z0, vi (((if ((wI S 3 4 (S.1 1 4)).1 3 4) = 5 then 1 else 0) : Int32))] ((wI S 3 4 (S.1 1 4), T), Y) (eqQ (some (vi x)) ((S1, T), Y)) := by
            intro z0 ez0
            subst ez0
            have key : ∀ z0 : Int32, z0 = ((if (((if ((wI S 3 4 (S.1 1 4)).1 3 4) = 5 then 1 else 0) : Int32)) = (((if ((wI S 3 4 (S.1 1 4)).1 3 5) = 0 then 1 else 0) : Int32)) then (if ((wI S 3 4 (S.1 1 4)).1 3 5) < 40 then 0 else 1) else 1) : Int32) → Go M5_takeWord 2 0 0 0 0 88 [(0, rc 3)] [vi z0] ((wI S 3 4 (S.1 1 4), T), Y) (eqQ (some (vi x)) ((S1, T), Y)) := by
              intro z0 ez0
              subst ez0
              refine go_blk rfl [(.istore_n 1, 1, 1, 0, 0, .inl 0), (.aload_n 0, 1, 0, 0, 0, .inl 0), (.getfield 26, 3, 5, 4, 0, .inl 0), (.bipush 6, 2, 0, 0, 0, .inl 6)] 88 95 _ _ _ (by decide +kernel) ?_
              refine And.intro (lc_t3 hT) ?_
              show Go _ _ _ _ _ _ 95 [(1, vi (((if (((if ((wI S 3 4 (S.1 1 4)).1 3 4) = 5 then 1 else 0) : Int32)) = (((if ((wI S 3 4 (S.1 1 4)).1 3 5) = 0 then 1 else 0) : Int32)) then (if ((wI S 3 4 (S.1 1 4)).1 3 5) < 40 then 0 else 1) else 1) : Int32))), (0, rc 3)] [vi 6, vi ((wI S 3 4 (S.1 1 4)).1 3 4)] ((wI S 3 4 (S.1 1 4), T), Y) _
              obtain ⟨y7, hy7, h⟩ := bind_el h
              have key : Go M5_takeWord 2 0 0 0 0 136 [(0, rc 3), (1, vi (((if (((if ((wI S 3 4 (S.1 1 4)).1 3 4) = 5 then 1 else 0) : Int32)) = (((if ((wI S 3 4 (S.1 1 4)).1 3 5) = 0 then 1 else 0) : Int32)) then (if ((wI S 3 4 (S.1 1 4)).1 3 5) < 40 then 0 else 1) else 1) : Int32)))] [vi y7] ((wI S 3 4 (S.1 1 4), T), Y) (eqQ (some (vi x)) ((S1, T), Y)) := by
                refine go_blk rfl [(.istore_n 2, 1, 2, 0, 0, .inl 0), (.iload_n 1, 1, 1, 0, 0, .inl 0)] 136 138 _ _ _ (by decide +kernel) ?_
                show Go _ _ _ _ _ _ 138 [(2, vi y7), (0, rc 3), (1, vi (((if (((if ((wI S 3 4 (S.1 1 4)).1 3 4) = 5 then 1 else 0) : Int32)) = (((if ((wI S 3 4 (S.1 1 4)).1 3 5) = 0 then 1 else 0) : Int32)) then (if ((wI S 3 4 (S.1 1 4)).1 3 5) < 40 then 0 else 1) else 1) : Int32)))] [vi (((if (((if ((wI S 3 4 (S.1 1 4)).1 3 4) = 5 then 1 else 0) : Int32)) = (((if ((wI S 3 4 (S.1 1 4)).1 3 5) = 0 then 1 else 0) : Int32)) then (if ((wI S 3 4 (S.1 1 4)).1 3 5) < 40 then 0 else 1) else 1) : Int32))] ((wI S 3 4 (S.1 1 4), T), Y) _
                refine ite_el h (fun q38 h => ?_) (fun q38 h => ?_)
                · refine go_if_ne (off := 7) (tgt := 145) (by decide +kernel) (by decide) (fun z => absurd q38 z) (fun _ => ?_)
                  refine go_blk rfl [(.iload_n 2, 1, 2, 0, 0, .inl 0)] 141 142 _ _ _ (by decide +kernel) ?_
                  show Go _ _ _ _ _ _ 142 [(2, vi y7), (0, rc 3), (1, vi (((if (((if ((wI S 3 4 (S.1 1 4)).1 3 4) = 5 then 1 else 0) : Int32)) = (((if ((wI S 3 4 (S.1 1 4)).1 3 5) = 0 then 1 else 0) : Int32)) then (if ((wI S 3 4 (S.1 1 4)).1 3 5) < 40 then 0 else 1) else 1) : Int32)))] [vi y7] ((wI S 3 4 (S.1 1 4), T), Y) _
                  refine ite_el h (fun q39 h => ?_) (fun q39 h => ?_)
                  · refine go_if_eq (off := 12) (tgt := 154) (by decide +kernel) (by decide) (fun _ => ?_) (fun z => absurd q39 z)
                    refine go_blk rfl [(.aload_n 0, 1, 0, 0, 0, .inl 0), (.dup, 1, 0, 0, 0, .inl 0), (.getfield 29, 3, 5, 5, 0, .inl 0), (.iconst 1, 1, 0, 0, 0, .inl 1), (.iadd, 1, 0, 0, 0, .inl 0), (.putfield 29, 3, 5, 5, 0, .inl 0)] 154 164 _ _ _ (by decide +kernel) ?_
                    refine And.intro (lc_t3 hT) ?_
                    refine And.intro (lc_t3 hT) (And.intro trivial ?_)
                    show Go _ _ _ _ _ _ 164 [(2, vi y7), (0, rc 3), (1, vi (((if (((if ((wI S 3 4 (S.1 1 4)).1 3 4) = 5 then 1 else 0) : Int32)) = (((if ((wI S 3 4 (S.1 1 4)).1 3 5) = 0 then 1 else 0) : Int32)) then (if ((wI S 3 4 (S.1 1 4)).1 3 5) < 40 then 0 else 1) else 1) : Int32)))] [] ((wI (wI S 3 4 (S.1 1 4)) 3 5 (((wI S 3 4 (S.1 1 4)).1 3 5) + 1), T), Y) _
                    refine go_blk rfl [(.aload_n 0, 1, 0, 0, 0, .inl 0), (.iconst 0, 1, 0, 0, 0, .inl 0), (.putfield 22, 3, 5, 3, 0, .inl 0)] 164 169 _ _ _ (by decide +kernel) ?_
                    refine And.intro (lc_t3 hT) (And.intro trivial ?_)
                    show Go _ _ _ _ _ _ 169 [(2, vi y7), (0, rc 3), (1, vi (((if (((if ((wI S 3 4 (S.1 1 4)).1 3 4) = 5 then 1 else 0) : Int32)) = (((if ((wI S 3 4 (S.1 1 4)).1 3 5) = 0 then 1 else 0) : Int32)) then (if ((wI S 3 4 (S.1 1 4)).1 3 5) < 40 then 0 else 1) else 1) : Int32)))] [] ((wI (wI (wI S 3 4 (S.1 1 4)) 3 5 (((wI S 3 4 (S.1 1 4)).1 3 5) + 1)) 3 3 0, T), Y) _
                    refine go_blk rfl [(.aload_n 0, 1, 0, 0, 0, .inl 0), (.iconst 1, 1, 0, 0, 0, .inl 1), (.putfield 32, 3, 5, 6, 0, .inl 0)] 169 174 _ _ _ (by decide +kernel) ?_
                    refine And.intro (lc_t3 hT) (And.intro trivial ?_)
                    show Go _ _ _ _ _ _ 174 [(2, vi y7), (0, rc 3), (1, vi (((if (((if ((wI S 3 4 (S.1 1 4)).1 3 4) = 5 then 1 else 0) : Int32)) = (((if ((wI S 3 4 (S.1 1 4)).1 3 5) = 0 then 1 else 0) : Int32)) then (if ((wI S 3 4 (S.1 1 4)).1 3 5) < 40 then 0 else 1) else 1) : Int32)))] [] ((wI (wI (wI (wI S 3 4 (S.1 1 4)) 3 5 (((wI S 3 4 (S.1 1 4)).1 3 5) + 1)) 3 3 0) 3 6 1, T), Y) _
                    refine go_blk rfl [(.iconst 1, 1, 0, 0, 0, .inl 1)] 174 175 _ _ _ (by decide +kernel) ?_
                    show Go _ _ _ _ _ _ 175 [(2, vi y7), (0, rc 3), (1, vi (((if (((if ((wI S 3 4 (S.1 1 4)).1 3 4) = 5 then 1 else 0) : Int32)) = (((if ((wI S 3 4 (S.1 1 4)).1 3 5) = 0 then 1 else 0) : Int32)) then (if ((wI S 3 4 (S.1 1 4)).1 3 5) < 40 then 0 else 1) else 1) : Int32)))] [vi 1] ((wI (wI (wI (wI S 3 4 (S.1 1 4)) 3 5 (((wI S 3 4 (S.1 1 4)).1 3 5) + 1)) 3 3 0) 3 6 1, T), Y) _
                    obtain ⟨rfl, rfl⟩ := Prod.mk.inj (Option.some.inj h)
                    exact go_ireturn (by decide +kernel) rfl rfl ⟨rfl, rfl⟩
                  · refine go_if_eq (off := 12) (tgt := 154) (by decide +kernel) (by decide) (fun z => absurd z q39) (fun _ => ?_)
                    refine go_blk rfl [(.aload_n 0, 1, 0, 0, 0, .inl 0), (.getfield 35, 3, 5, 0, 1, .inl 0), (.iconst 4, 1, 0, 0, 0, .inl 4)] 145 150 _ _ _ (by decide +kernel) ?_
                    refine And.intro (lc_t3 hT) (Exists.intro _ (And.intro (gRc (lc_r5_0 hT)) ?_))
                    show Go _ _ _ _ _ _ 150 [(2, vi y7), (0, rc 3), (1, vi (((if (((if ((wI S 3 4 (S.1 1 4)).1 3 4) = 5 then 1 else 0) : Int32)) = (((if ((wI S 3 4 (S.1 1 4)).1 3 5) = 0 then 1 else 0) : Int32)) then (if ((wI S 3 4 (S.1 1 4)).1 3 5) < 40 then 0 else 1) else 1) : Int32)))] [vi 4, rc 1] ((wI S 3 4 (S.1 1 4), T), Y) _
                    obtain ⟨r8, hr8, h⟩ := bind_el h
                    refine go_callV (idx := 69) (z := 1) (M' := M9_fail) (n := 1) (A := [vi 4]) (v' := some (vi r8.2)) (μ' := ((r8.1, T), Y)) (d' := 1) (mc' := 0) (ms' := 0) (kc' := 0) (ks' := 0) (ci := 9) (x := .inl 1) (by decide +kernel) ml_5_69 rfl wv9_fail rfl (by decide) rfl (lc_t1 hT) (ret9_fail hT hr8) (by decide) rfl rfl (Nat.le_of_ble_eq_true rfl) rfl (jag rfl rfl) ?_
                    show Go _ _ _ _ _ _ 153 [(2, vi y7), (0, rc 3), (1, vi (((if (((if ((wI S 3 4 (S.1 1 4)).1 3 4) = 5 then 1 else 0) : Int32)) = (((if ((wI S 3 4 (S.1 1 4)).1 3 5) = 0 then 1 else 0) : Int32)) then (if ((wI S 3 4 (S.1 1 4)).1 3 5) < 40 then 0 else 1) else 1) : Int32)))] [vi r8.2] ((r8.1, T), Y) _
                    refine gd_el h (fun q h => ?_)
                    obtain ⟨rfl, rfl⟩ := Prod.mk.inj (Option.some.inj h)
                    exact go_ireturn (by decide +kernel) rfl (by rcases q with q | q <;> rw [q] <;> rfl) ⟨rfl, rfl⟩
                · refine go_if_ne (off := 7) (tgt := 145) (by decide +kernel) (by decide) (fun _ => ?_) (fun z => absurd z q38)
                  refine go_blk rfl [(.aload_n 0, 1, 0, 0, 0, .inl 0), (.getfield 35, 3, 5, 0, 1, .inl 0), (.iconst 4, 1, 0, 0, 0, .inl 4)] 145 150 _ _ _ (by decide +kernel) ?_
                  refine And.intro (lc_t3 hT) (Exists.intro _ (And.intro (gRc (lc_r5_0 hT)) ?_))
                  show Go _ _ _ _ _ _ 150 [(2, vi y7), (0, rc 3), (1, vi (((if (((if ((wI S 3 4 (S.1 1 4)).1 3 4) = 5 then 1 else 0) : Int32)) = (((if ((wI S 3 4 (S.1 1 4)).1 3 5) = 0 then 1 else 0) : Int32)) then (if ((wI S 3 4 (S.1 1 4)).1 3 5) < 40 then 0 else 1) else 1) : Int32)))] [vi 4, rc 1] ((wI S 3 4 (S.1 1 4), T), Y) _
                  obtain ⟨r9, hr9, h⟩ := bind_el h
                  refine go_callV (idx := 69) (z := 1) (M' := M9_fail) (n := 1) (A := [vi 4]) (v' := some (vi r9.2)) (μ' := ((r9.1, T), Y)) (d' := 1) (mc' := 0) (ms' := 0) (kc' := 0) (ks' := 0) (ci := 9) (x := .inl 1) (by decide +kernel) ml_5_69 rfl wv9_fail rfl (by decide) rfl (lc_t1 hT) (ret9_fail hT hr9) (by decide) rfl rfl (Nat.le_of_ble_eq_true rfl) rfl (jag rfl rfl) ?_
                  show Go _ _ _ _ _ _ 153 [(2, vi y7), (0, rc 3), (1, vi (((if (((if ((wI S 3 4 (S.1 1 4)).1 3 4) = 5 then 1 else 0) : Int32)) = (((if ((wI S 3 4 (S.1 1 4)).1 3 5) = 0 then 1 else 0) : Int32)) then (if ((wI S 3 4 (S.1 1 4)).1 3 5) < 40 then 0 else 1) else 1) : Int32)))] [vi r9.2] ((r9.1, T), Y) _
                  refine gd_el h (fun q h => ?_)
                  obtain ⟨rfl, rfl⟩ := Prod.mk.inj (Option.some.inj h)
                  exact go_ireturn (by decide +kernel) rfl (by rcases q with q | q <;> rw [q] <;> rfl) ⟨rfl, rfl⟩
              replace h := hy7
              refine ite_el h (fun q32 h => ?_) (fun q32 h => ?_)
              · refine go_icmp_ne (off := 15) (tgt := 110) (by decide +kernel) (by decide) (fun z => absurd q32 z) (fun _ => ?_)
                refine go_blk rfl [(.aload_n 0, 1, 0, 0, 0, .inl 0), (.getfield 12, 3, 5, 1, 1, .inl 0), (.getfield 73, 3, 4, 1, 0, .inl 0), (.bipush 6, 2, 0, 0, 0, .inl 6)] 98 107 _ _ _ (by decide +kernel) ?_
                refine And.intro (lc_t3 hT) (Exists.intro _ (And.intro (gRc (lc_r5_1 hT)) ?_))
                refine And.intro (lc_h4 hT).1 ?_
                show Go _ _ _ _ _ _ 107 [(1, vi (((if (((if ((wI S 3 4 (S.1 1 4)).1 3 4) = 5 then 1 else 0) : Int32)) = (((if ((wI S 3 4 (S.1 1 4)).1 3 5) = 0 then 1 else 0) : Int32)) then (if ((wI S 3 4 (S.1 1 4)).1 3 5) < 40 then 0 else 1) else 1) : Int32))), (0, rc 3)] [vi 6, vi ((wI S 3 4 (S.1 1 4)).1 4 1)] ((wI S 3 4 (S.1 1 4), T), Y) _
                refine ite_el h (fun q33 h => ?_) (fun q33 h => ?_)
                · refine go_icmp_ge (off := 24) (tgt := 131) (by decide +kernel) (by decide) (fun _ => ?_) (fun z => absurd q33 z)
                  refine go_blk rfl [(.iconst 1, 1, 0, 0, 0, .inl 1)] 131 132 _ _ _ (by decide +kernel) ?_
                  show Go _ _ _ _ _ _ 132 [(1, vi (((if (((if ((wI S 3 4 (S.1 1 4)).1 3 4) = 5 then 1 else 0) : Int32)) = (((if ((wI S 3 4 (S.1 1 4)).1 3 5) = 0 then 1 else 0) : Int32)) then (if ((wI S 3 4 (S.1 1 4)).1 3 5) < 40 then 0 else 1) else 1) : Int32))), (0, rc 3)] [vi 1] ((wI S 3 4 (S.1 1 4), T), Y) _
                  refine go_goto (off := 4) (tgt := 136) (by decide +kernel) (by decide) ?_
                  obtain rfl := Option.some.inj h
                  refine go_pick [1, 0] rfl ?_
                  exact key
                · refine go_icmp_ge (off := 24) (tgt := 131) (by decide +kernel) (by decide) (fun z => absurd z q33) (fun _ => ?_)
                  refine go_blk rfl [(.aload_n 0, 1, 0, 0, 0, .inl 0), (.getfield 26, 3, 5, 4, 0, .inl 0), (.bipush 7, 2, 0, 0, 0, .inl 7)] 110 116 _ _ _ (by decide +kernel) ?_
                  refine And.intro (lc_t3 hT) ?_
                  show Go _ _ _ _ _ _ 116 [(1, vi (((if (((if ((wI S 3 4 (S.1 1 4)).1 3 4) = 5 then 1 else 0) : Int32)) = (((if ((wI S 3 4 (S.1 1 4)).1 3 5) = 0 then 1 else 0) : Int32)) then (if ((wI S 3 4 (S.1 1 4)).1 3 5) < 40 then 0 else 1) else 1) : Int32))), (0, rc 3)] [vi 7, vi ((wI S 3 4 (S.1 1 4)).1 3 4)] ((wI S 3 4 (S.1 1 4), T), Y) _
                  refine ite_el h (fun q34 h => ?_) (fun q34 h => ?_)
                  · refine go_icmp_ne (off := 19) (tgt := 135) (by decide +kernel) (by decide) (fun z => absurd q34 z) (fun _ => ?_)
                    refine go_blk rfl [(.aload_n 0, 1, 0, 0, 0, .inl 0), (.getfield 12, 3, 5, 1, 1, .inl 0), (.getfield 76, 3, 4, 2, 0, .inl 0), (.bipush 7, 2, 0, 0, 0, .inl 7)] 119 128 _ _ _ (by decide +kernel) ?_
                    refine And.intro (lc_t3 hT) (Exists.intro _ (And.intro (gRc (lc_r5_1 hT)) ?_))
                    refine And.intro (lc_h4 hT).1 ?_
                    show Go _ _ _ _ _ _ 128 [(1, vi (((if (((if ((wI S 3 4 (S.1 1 4)).1 3 4) = 5 then 1 else 0) : Int32)) = (((if ((wI S 3 4 (S.1 1 4)).1 3 5) = 0 then 1 else 0) : Int32)) then (if ((wI S 3 4 (S.1 1 4)).1 3 5) < 40 then 0 else 1) else 1) : Int32))), (0, rc 3)] [vi 7, vi ((wI S 3 4 (S.1 1 4)).1 4 2)] ((wI S 3 4 (S.1 1 4), T), Y) _
                    refine ite_el h (fun q35 h => ?_) (fun q35 h => ?_)
                    · refine go_icmp_lt (off := 7) (tgt := 135) (by decide +kernel) (by decide) (fun _ => ?_) (fun z => absurd q35 z)
                      refine go_blk rfl [(.iconst 0, 1, 0, 0, 0, .inl 0)] 135 136 _ _ _ (by decide +kernel) ?_
                      show Go _ _ _ _ _ _ 136 [(1, vi (((if (((if ((wI S 3 4 (S.1 1 4)).1 3 4) = 5 then 1 else 0) : Int32)) = (((if ((wI S 3 4 (S.1 1 4)).1 3 5) = 0 then 1 else 0) : Int32)) then (if ((wI S 3 4 (S.1 1 4)).1 3 5) < 40 then 0 else 1) else 1) : Int32))), (0, rc 3)] [vi 0] ((wI S 3 4 (S.1 1 4), T), Y) _
                      obtain rfl := Option.some.inj h
                      refine go_pick [1, 0] rfl ?_
                      exact key
                    · refine go_icmp_lt (off := 7) (tgt := 135) (by decide +kernel) (by decide) (fun z => absurd z q35) (fun _ => ?_)
                      refine go_blk rfl [(.iconst 1, 1, 0, 0, 0, .inl 1)] 131 132 _ _ _ (by decide +kernel) ?_
                      show Go _ _ _ _ _ _ 132 [(1, vi (((if (((if ((wI S 3 4 (S.1 1 4)).1 3 4) = 5 then 1 else 0) : Int32)) = (((if ((wI S 3 4 (S.1 1 4)).1 3 5) = 0 then 1 else 0) : Int32)) then (if ((wI S 3 4 (S.1 1 4)).1 3 5) < 40 then 0 else 1) else 1) : Int32))), (0, rc 3)] [vi 1] ((wI S 3 4 (S.1 1 4), T), Y) _
                      refine go_goto (off := 4) (tgt := 136) (by decide +kernel) (by decide) ?_
                      obtain rfl := Option.some.inj h
                      refine go_pick [1, 0] rfl ?_
                      exact key
                  · refine go_icmp_ne (off := 19) (tgt := 135) (by decide +kernel) (by decide) (fun _ => ?_) (fun z => absurd z q34)
                    refine go_blk rfl [(.iconst 0, 1, 0, 0, 0, .inl 0)] 135 136 _ _ _ (by decide +kernel) ?_
                    show Go _ _ _ _ _ _ 136 [(1, vi (((if (((if ((wI S 3 4 (S.1 1 4)).1 3 4) = 5 then 1 else 0) : Int32)) = (((if ((wI S 3 4 (S.1 1 4)).1 3 5) = 0 then 1 else 0) : Int32)) then (if ((wI S 3 4 (S.1 1 4)).1 3 5) < 40 then 0 else 1) else 1) : Int32))), (0, rc 3)] [vi 0] ((wI S 3 4 (S.1 1 4), T), Y) _
                    obtain rfl := Option.some.inj h
                    refine go_pick [1, 0] rfl ?_
                    exact key
              · refine go_icmp_ne (off := 15) (tgt := 110) (by decide +kernel) (by decide) (fun _ => ?_) (fun z => absurd z q32)
                refine go_blk rfl [(.aload_n 0, 1, 0, 0, 0, .inl 0), (.getfield 26, 3, 5, 4, 0, .inl 0), (.bipush 7, 2, 0, 0, 0, .inl 7)] 110 116 _ _ _ (by decide +kernel) ?_
                refine And.intro (lc_t3 hT) ?_
                show Go _ _ _ _ _ _ 116 [(1, vi (((if (((if ((wI S 3 4 (S.1 1 4)).1 3 4) = 5 then 1 else 0) : Int32)) = (((if ((wI S 3 4 (S.1 1 4)).1 3 5) = 0 then 1 else 0) : Int32)) then (if ((wI S 3 4 (S.1 1 4)).1 3 5) < 40 then 0 else 1) else 1) : Int32))), (0, rc 3)] [vi 7, vi ((wI S 3 4 (S.1 1 4)).1 3 4)] ((wI S 3 4 (S.1 1 4), T), Y) _
                refine ite_el h (fun q36 h => ?_) (fun q36 h => ?_)
                · refine go_icmp_ne (off := 19) (tgt := 135) (by decide +kernel) (by decide) (fun z => absurd q36 z) (fun _ => ?_)
                  refine go_blk rfl [(.aload_n 0, 1, 0, 0, 0, .inl 0), (.getfield 12, 3, 5, 1, 1, .inl 0), (.getfield 76, 3, 4, 2, 0, .inl 0), (.bipush 7, 2, 0, 0, 0, .inl 7)] 119 128 _ _ _ (by decide +kernel) ?_
                  refine And.intro (lc_t3 hT) (Exists.intro _ (And.intro (gRc (lc_r5_1 hT)) ?_))
                  refine And.intro (lc_h4 hT).1 ?_
                  show Go _ _ _ _ _ _ 128 [(1, vi (((if (((if ((wI S 3 4 (S.1 1 4)).1 3 4) = 5 then 1 else 0) : Int32)) = (((if ((wI S 3 4 (S.1 1 4)).1 3 5) = 0 then 1 else 0) : Int32)) then (if ((wI S 3 4 (S.1 1 4)).1 3 5) < 40 then 0 else 1) else 1) : Int32))), (0, rc 3)] [vi 7, vi ((wI S 3 4 (S.1 1 4)).1 4 2)] ((wI S 3 4 (S.1 1 4), T), Y) _
                  refine ite_el h (fun q37 h => ?_) (fun q37 h => ?_)
                  · refine go_icmp_lt (off := 7) (tgt := 135) (by decide +kernel) (by decide) (fun _ => ?_) (fun z => absurd q37 z)
                    refine go_blk rfl [(.iconst 0, 1, 0, 0, 0, .inl 0)] 135 136 _ _ _ (by decide +kernel) ?_
                    show Go _ _ _ _ _ _ 136 [(1, vi (((if (((if ((wI S 3 4 (S.1 1 4)).1 3 4) = 5 then 1 else 0) : Int32)) = (((if ((wI S 3 4 (S.1 1 4)).1 3 5) = 0 then 1 else 0) : Int32)) then (if ((wI S 3 4 (S.1 1 4)).1 3 5) < 40 then 0 else 1) else 1) : Int32))), (0, rc 3)] [vi 0] ((wI S 3 4 (S.1 1 4), T), Y) _
                    obtain rfl := Option.some.inj h
                    refine go_pick [1, 0] rfl ?_
                    exact key
                  · refine go_icmp_lt (off := 7) (tgt := 135) (by decide +kernel) (by decide) (fun z => absurd z q37) (fun _ => ?_)
                    refine go_blk rfl [(.iconst 1, 1, 0, 0, 0, .inl 1)] 131 132 _ _ _ (by decide +kernel) ?_
                    show Go _ _ _ _ _ _ 132 [(1, vi (((if (((if ((wI S 3 4 (S.1 1 4)).1 3 4) = 5 then 1 else 0) : Int32)) = (((if ((wI S 3 4 (S.1 1 4)).1 3 5) = 0 then 1 else 0) : Int32)) then (if ((wI S 3 4 (S.1 1 4)).1 3 5) < 40 then 0 else 1) else 1) : Int32))), (0, rc 3)] [vi 1] ((wI S 3 4 (S.1 1 4), T), Y) _
                    refine go_goto (off := 4) (tgt := 136) (by decide +kernel) (by decide) ?_
                    obtain rfl := Option.some.inj h
                    refine go_pick [1, 0] rfl ?_
                    exact key
                · refine go_icmp_ne (off := 19) (tgt := 135) (by decide +kernel) (by decide) (fun _ => ?_) (fun z => absurd z q36)
                  refine go_blk rfl [(.iconst 0, 1, 0, 0, 0, .inl 0)] 135 136 _ _ _ (by decide +kernel) ?_
                  show Go _ _ _ _ _ _ 136 [(1, vi (((if (((if ((wI S 3 4 (S.1 1 4)).1 3 4) = 5 then 1 else 0) : Int32)) = (((if ((wI S 3 4 (S.1 1 4)).1 3 5) = 0 then 1 else 0) : Int32)) then (if ((wI S 3 4 (S.1 1 4)).1 3 5) < 40 then 0 else 1) else 1) : Int32))), (0, rc 3)] [vi 0] ((wI S 3 4 (S.1 1 4), T), Y) _
                  obtain rfl := Option.some.inj h
                  refine go_pick [1, 0] rfl ?_
                  exact key
            clear h
            by_cases q30 : (((if ((wI S 3 4 (S.1 1 4)).1 3 4) = 5 then 1 else 0) : Int32)) = (((if ((wI S 3 4 (S.1 1 4)).1 3 5) = 0 then 1 else 0) : Int32))
            · refine go_icmp_ne (off := 12) (tgt := 83) (by decide +kernel) (by decide) (fun z => absurd q30 z) (fun _ => ?_)
              refine go_blk rfl [(.aload_n 0, 1, 0, 0, 0, .inl 0), (.getfield 29, 3, 5, 5, 0, .inl 0), (.bipush 40, 2, 0, 0, 0, .inl 40)] 74 80 _ _ _ (by decide +kernel) ?_
              refine And.intro (lc_t3 hT) ?_
              show Go _ _ _ _ _ _ 80 [(0, rc 3)] [vi 40, vi ((wI S 3 4 (S.1 1 4)).1 3 5)] ((wI S 3 4 (S.1 1 4), T), Y) _
              by_cases q31 : ((wI S 3 4 (S.1 1 4)).1 3 5) < 40
              · refine go_icmp_lt (off := 7) (tgt := 87) (by decide +kernel) (by decide) (fun _ => ?_) (fun z => absurd q31 z)
                refine go_blk rfl [(.iconst 0, 1, 0, 0, 0, .inl 0)] 87 88 _ _ _ (by decide +kernel) ?_
                show Go _ _ _ _ _ _ 88 [(0, rc 3)] [vi 0] ((wI S 3 4 (S.1 1 4), T), Y) _
                refine go_pick [0] rfl ?_; exact key _ (by rw [if_pos q30, if_pos q31])
              · refine go_icmp_lt (off := 7) (tgt := 87) (by decide +kernel) (by decide) (fun z => absurd z q31) (fun _ => ?_)
                refine go_blk rfl [(.iconst 1, 1, 0, 0, 0, .inl 1)] 83 84 _ _ _ (by decide +kernel) ?_
                show Go _ _ _ _ _ _ 84 [(0, rc 3)] [vi 1] ((wI S 3 4 (S.1 1 4), T), Y) _
                refine go_goto (off := 4) (tgt := 88) (by decide +kernel) (by decide) ?_
                refine go_pick [0] rfl ?_; exact key _ (by rw [if_pos q30, if_neg q31])
            · refine go_icmp_ne (off := 12) (tgt := 83) (by decide +kernel) (by decide) (fun _ => ?_) (fun z => absurd z q30)
              refine go_blk rfl [(.iconst 1, 1, 0, 0, 0, .inl 1)] 83 84 _ _ _ (by decide +kernel) ?_
              show Go _ _ _ _ _ _ 84 [(0, rc 3)] [vi 1] ((wI S 3 4 (S.1 1 4), T), Y) _
              refine go_goto (off := 4) (tgt := 88) (by decide +kernel) (by decide) ?_
              refine go_pick [0] rfl ?_; exact key _ (by rw [if_neg q30])
          clear h
          by_cases q29 : ((wI S 3 4 (S.1 1 4)).1 3 5) = 0
          · refine go_if_ne (off := 7) (tgt := 70) (by decide +kernel) (by decide) (fun z => absurd q29 z) (fun _ => ?_)
            refine go_blk rfl [(.iconst 1, 1, 0, 0, 0, .inl 1)] 66 67 _ _ _ (by decide +kernel) ?_
            show Go _ _ _ _ _ _ 67 [(0, rc 3)] [vi 1, vi (((if ((wI S 3 4 (S.1 1 4)).1 3 4) = 5 then 1 else 0) : Int32))] ((wI S 3 4 (S.1 1 4), T), Y) _
            refine go_goto (off := 4) (tgt := 71) (by decide +kernel) (by decide) ?_
            refine go_pick [0] rfl ?_; exact key _ (by rw [if_pos q29])
          · refine go_if_ne (off := 7) (tgt := 70) (by decide +kernel) (by decide) (fun _ => ?_) (fun z => absurd z q29)
            refine go_blk rfl [(.iconst 0, 1, 0, 0, 0, .inl 0)] 70 71 _ _ _ (by decide +kernel) ?_
            show Go _ _ _ _ _ _ 71 [(0, rc 3)] [vi 0, vi (((if ((wI S 3 4 (S.1 1 4)).1 3 4) = 5 then 1 else 0) : Int32))] ((wI S 3 4 (S.1 1 4), T), Y) _
            refine go_pick [0] rfl ?_; exact key _ (by rw [if_neg q29])
        clear h
        by_cases q28 : ((wI S 3 4 (S.1 1 4)).1 3 4) = 5
        · refine go_icmp_ne (off := 7) (tgt := 58) (by decide +kernel) (by decide) (fun z => absurd q28 z) (fun _ => ?_)
          refine go_blk rfl [(.iconst 1, 1, 0, 0, 0, .inl 1)] 54 55 _ _ _ (by decide +kernel) ?_
          show Go _ _ _ _ _ _ 55 [(0, rc 3)] [vi 1] ((wI S 3 4 (S.1 1 4), T), Y) _
          refine go_goto (off := 4) (tgt := 59) (by decide +kernel) (by decide) ?_
          refine go_pick [0] rfl ?_; exact key _ (by rw [if_pos q28])
        · refine go_icmp_ne (off := 7) (tgt := 58) (by decide +kernel) (by decide) (fun _ => ?_) (fun z => absurd z q28)
          refine go_blk rfl [(.iconst 0, 1, 0, 0, 0, .inl 0)] 58 59 _ _ _ (by decide +kernel) ?_
          show Go _ _ _ _ _ _ 59 [(0, rc 3)] [vi 0] ((wI S 3 4 (S.1 1 4), T), Y) _
          refine go_pick [0] rfl ?_; exact key _ (by rw [if_neg q28])
      · refine go_icmp_eq (off := 12) (tgt := 46) (by decide +kernel) (by decide) (fun z => absurd z q27) (fun _ => ?_)
        refine go_blk rfl [(.aload_n 0, 1, 0, 0, 0, .inl 0), (.getfield 35, 3, 5, 0, 1, .inl 0), (.iconst 0, 1, 0, 0, 0, .inl 0)] 37 42 _ _ _ (by decide +kernel) ?_
        refine And.intro (lc_t3 hT) (Exists.intro _ (And.intro (gRc (lc_r5_0 hT)) ?_))
        show Go _ _ _ _ _ _ 42 [(0, rc 3)] [vi 0, rc 1] ((wI S 3 4 (S.1 1 4), T), Y) _
        obtain ⟨r10, hr10, h⟩ := bind_el h
        refine go_callV (idx := 69) (z := 1) (M' := M9_fail) (n := 1) (A := [vi 0]) (v' := some (vi r10.2)) (μ' := ((r10.1, T), Y)) (d' := 1) (mc' := 0) (ms' := 0) (kc' := 0) (ks' := 0) (ci := 9) (x := .inl 1) (by decide +kernel) ml_5_69 rfl wv9_fail rfl (by decide) rfl (lc_t1 hT) (ret9_fail hT hr10) (by decide) rfl rfl (Nat.le_of_ble_eq_true rfl) rfl (jag rfl rfl) ?_
        show Go _ _ _ _ _ _ 45 [(0, rc 3)] [vi r10.2] ((r10.1, T), Y) _
        refine gd_el h (fun q h => ?_)
        obtain ⟨rfl, rfl⟩ := Prod.mk.inj (Option.some.inj h)
        exact go_ireturn (by decide +kernel) rfl (by rcases q with q | q <;> rw [q] <;> rfl) ⟨rfl, rfl⟩
def f5_lowest (S : jS) : Option Int32 := (if (S.1 3 4) = 5 then some 4 else (if (S.1 3 3) = 2 then some 1 else some 0))
theorem ret5_lowest {S : jS} {T : jT} {Y : jS × jT} {x : Int32} (hT : LayC T) (h : f5_lowest S = some x) : Ret M5_lowest 1 0 0 [rc 3] ((S, T), Y) (some (vi x)) ((S, T), Y) := by
  refine Ret.of (by decide +kernel) (Nat.le_of_ble_eq_true rfl) ?_
  unfold f5_lowest at h
  show Go _ _ _ _ _ _ 0 [(0, rc 3)] [] ((S, T), Y) _
  refine go_blk rfl [(.aload_n 0, 1, 0, 0, 0, .inl 0), (.getfield 26, 3, 5, 4, 0, .inl 0), (.iconst 5, 1, 0, 0, 0, .inl 5)] 0 5 _ _ _ (by decide +kernel) ?_
  refine And.intro (lc_t3 hT) ?_
  show Go _ _ _ _ _ _ 5 [(0, rc 3)] [vi 5, vi (S.1 3 4)] ((S, T), Y) _
  refine ite_el h (fun q1 h => ?_) (fun q1 h => ?_)
  · refine go_icmp_ne (off := 5) (tgt := 10) (by decide +kernel) (by decide) (fun z => absurd q1 z) (fun _ => ?_)
    refine go_blk rfl [(.iconst 4, 1, 0, 0, 0, .inl 4)] 8 9 _ _ _ (by decide +kernel) ?_
    show Go _ _ _ _ _ _ 9 [(0, rc 3)] [vi 4] ((S, T), Y) _
    obtain rfl := Option.some.inj h
    exact go_ireturn (by decide +kernel) rfl rfl ⟨rfl, rfl⟩
  · refine go_icmp_ne (off := 5) (tgt := 10) (by decide +kernel) (by decide) (fun _ => ?_) (fun z => absurd z q1)
    refine go_blk rfl [(.aload_n 0, 1, 0, 0, 0, .inl 0), (.getfield 22, 3, 5, 3, 0, .inl 0), (.iconst 2, 1, 0, 0, 0, .inl 2)] 10 15 _ _ _ (by decide +kernel) ?_
    refine And.intro (lc_t3 hT) ?_
    show Go _ _ _ _ _ _ 15 [(0, rc 3)] [vi 2, vi (S.1 3 3)] ((S, T), Y) _
    refine ite_el h (fun q2 h => ?_) (fun q2 h => ?_)
    · refine go_icmp_ne (off := 7) (tgt := 22) (by decide +kernel) (by decide) (fun z => absurd q2 z) (fun _ => ?_)
      refine go_blk rfl [(.iconst 1, 1, 0, 0, 0, .inl 1)] 18 19 _ _ _ (by decide +kernel) ?_
      show Go _ _ _ _ _ _ 19 [(0, rc 3)] [vi 1] ((S, T), Y) _
      refine go_goto (off := 4) (tgt := 23) (by decide +kernel) (by decide) ?_
      obtain rfl := Option.some.inj h
      exact go_ireturn (by decide +kernel) rfl rfl ⟨rfl, rfl⟩
    · refine go_icmp_ne (off := 7) (tgt := 22) (by decide +kernel) (by decide) (fun _ => ?_) (fun z => absurd z q2)
      refine go_blk rfl [(.iconst 0, 1, 0, 0, 0, .inl 0)] 22 23 _ _ _ (by decide +kernel) ?_
      show Go _ _ _ _ _ _ 23 [(0, rc 3)] [vi 0] ((S, T), Y) _
      obtain rfl := Option.some.inj h
      exact go_ireturn (by decide +kernel) rfl rfl ⟨rfl, rfl⟩
def f5_highest (S : jS) : Option Int32 := (if (S.1 3 4) = 5 then some 24 else (if (S.1 3 3) = 0 then some ((S.1 4 0) - 1) else (if (S.1 3 3) = 1 then some 5 else some 9)))
theorem ret5_highest {S : jS} {T : jT} {Y : jS × jT} {x : Int32} (hT : LayC T) (h : f5_highest S = some x) : Ret M5_highest 1 0 0 [rc 3] ((S, T), Y) (some (vi x)) ((S, T), Y) := by
  refine Ret.of (by decide +kernel) (Nat.le_of_ble_eq_true rfl) ?_
  unfold f5_highest at h
  show Go _ _ _ _ _ _ 0 [(0, rc 3)] [] ((S, T), Y) _
  refine go_blk rfl [(.aload_n 0, 1, 0, 0, 0, .inl 0), (.getfield 26, 3, 5, 4, 0, .inl 0), (.iconst 5, 1, 0, 0, 0, .inl 5)] 0 5 _ _ _ (by decide +kernel) ?_
  refine And.intro (lc_t3 hT) ?_
  show Go _ _ _ _ _ _ 5 [(0, rc 3)] [vi 5, vi (S.1 3 4)] ((S, T), Y) _
  refine ite_el h (fun q1 h => ?_) (fun q1 h => ?_)
  · refine go_icmp_ne (off := 6) (tgt := 11) (by decide +kernel) (by decide) (fun z => absurd q1 z) (fun _ => ?_)
    refine go_blk rfl [(.bipush 24, 2, 0, 0, 0, .inl 24)] 8 10 _ _ _ (by decide +kernel) ?_
    show Go _ _ _ _ _ _ 10 [(0, rc 3)] [vi 24] ((S, T), Y) _
    obtain rfl := Option.some.inj h
    exact go_ireturn (by decide +kernel) rfl rfl ⟨rfl, rfl⟩
  · refine go_icmp_ne (off := 6) (tgt := 11) (by decide +kernel) (by decide) (fun _ => ?_) (fun z => absurd z q1)
    refine go_blk rfl [(.aload_n 0, 1, 0, 0, 0, .inl 0), (.getfield 22, 3, 5, 3, 0, .inl 0)] 11 15 _ _ _ (by decide +kernel) ?_
    refine And.intro (lc_t3 hT) ?_
    show Go _ _ _ _ _ _ 15 [(0, rc 3)] [vi (S.1 3 3)] ((S, T), Y) _
    refine ite_el h (fun q2 h => ?_) (fun q2 h => ?_)
    · refine go_lookup (dflt := 37) (ps := #[(0, 25), (1, 35)]) (len := 25) (off := 25) (tgt := 40) (by decide +kernel) (by decide) (by rw [q2]; decide) (by decide) ?_
      refine go_blk rfl [(.aload_n 0, 1, 0, 0, 0, .inl 0), (.getfield 12, 3, 5, 1, 1, .inl 0), (.getfield 95, 3, 4, 0, 0, .inl 0), (.iconst 1, 1, 0, 0, 0, .inl 1), (.isub, 1, 0, 0, 0, .inl 0)] 40 49 _ _ _ (by decide +kernel) ?_
      refine And.intro (lc_t3 hT) (Exists.intro _ (And.intro (gRc (lc_r5_1 hT)) ?_))
      refine And.intro (lc_h4 hT).1 ?_
      show Go _ _ _ _ _ _ 49 [(0, rc 3)] [vi ((S.1 4 0) - 1)] ((S, T), Y) _
      obtain rfl := Option.some.inj h
      exact go_ireturn (by decide +kernel) rfl rfl ⟨rfl, rfl⟩
    refine ite_el h (fun q3 h => ?_) (fun q3 h => ?_)
    · refine go_lookup (dflt := 37) (ps := #[(0, 25), (1, 35)]) (len := 25) (off := 35) (tgt := 50) (by decide +kernel) (by decide) (by rw [q3]; decide) (by decide) ?_
      refine go_blk rfl [(.iconst 5, 1, 0, 0, 0, .inl 5)] 50 51 _ _ _ (by decide +kernel) ?_
      show Go _ _ _ _ _ _ 51 [(0, rc 3)] [vi 5] ((S, T), Y) _
      obtain rfl := Option.some.inj h
      exact go_ireturn (by decide +kernel) rfl rfl ⟨rfl, rfl⟩
    refine go_lookup (dflt := 37) (ps := #[(0, 25), (1, 35)]) (len := 25) (off := 37) (tgt := 52) (by decide +kernel) (by decide) (by have z0 : (S.1 3 3).toInt ≠ 0 := tb_ne q2 (by decide); have z1 : (S.1 3 3).toInt ≠ 1 := tb_ne q3 (by decide); exact lk_out _ _ _ (by simp only [List.forall_mem_cons, List.not_mem_nil]; refine ⟨by intro z; omega, by intro z; omega, fun _ z => nomatch z⟩)) (by decide) ?_
    refine go_blk rfl [(.bipush 9, 2, 0, 0, 0, .inl 9)] 52 54 _ _ _ (by decide +kernel) ?_
    show Go _ _ _ _ _ _ 54 [(0, rc 3)] [vi 9] ((S, T), Y) _
    obtain rfl := Option.some.inj h
    exact go_ireturn (by decide +kernel) rfl rfl ⟨rfl, rfl⟩
def f5_endClause (S : jS) : Option (jS × Unit) := Option.bind (if (S.1 3 4) = 5 then some (wI S 4 0 (S.1 11 0)) else (if (S.1 3 4) = 6 then Option.bind (f4_addChair S 4 (S.1 11 0)) (fun r1 => some r1.1) else Option.bind (f4_addGuest S 4 (S.1 11 0) (S.1 11 1) (S.1 11 2)) (fun r2 => some r2.1))) (fun (y3 : jS) => some (wI y3 3 6 2, ()))
theorem ret5_endClause {S : jS} {T : jT} {Y : jS × jT} {S1 : jS} {x : Unit} (hT : LayC T) (h : f5_endClause S = some (S1, x)) : Ret M5_endClause 2 0 0 [rc 3] ((S, T), Y) (none) ((S1, T), Y) := by
  refine Ret.of (by decide +kernel) (Nat.le_of_ble_eq_true rfl) ?_
  unfold f5_endClause at h
  show Go _ _ _ _ _ _ 0 [(0, rc 3)] [] ((S, T), Y) _
  refine go_blk rfl [(.aload_n 0, 1, 0, 0, 0, .inl 0), (.getfield 26, 3, 5, 4, 0, .inl 0)] 0 4 _ _ _ (by decide +kernel) ?_
  refine And.intro (lc_t3 hT) ?_
  show Go _ _ _ _ _ _ 4 [(0, rc 3)] [vi (S.1 3 4)] ((S, T), Y) _
  obtain ⟨y3, hy3, h⟩ := bind_el h
  have key : Go M5_endClause 2 0 0 0 0 89 [(0, rc 3)] [] ((y3, T), Y) (eqQ none ((S1, T), Y)) := by
    refine go_blk rfl [(.aload_n 0, 1, 0, 0, 0, .inl 0), (.iconst 2, 1, 0, 0, 0, .inl 2), (.putfield 32, 3, 5, 6, 0, .inl 0)] 89 94 _ _ _ (by decide +kernel) ?_
    refine And.intro (lc_t3 hT) (And.intro trivial ?_)
    show Go _ _ _ _ _ _ 94 [(0, rc 3)] [] ((wI y3 3 6 2, T), Y) _
    obtain ⟨rfl, rfl⟩ := Prod.mk.inj (Option.some.inj h)
    exact go_return (by decide +kernel) rfl ⟨rfl, rfl⟩
  replace h := hy3
  refine ite_el h (fun q1 h => ?_) (fun q1 h => ?_)
  · refine go_lookup (dflt := 60) (ps := #[(5, 28), (6, 44)]) (len := 28) (off := 28) (tgt := 32) (by decide +kernel) (by decide) (by rw [q1]; decide) (by decide) ?_
    refine go_blk rfl [(.aload_n 0, 1, 0, 0, 0, .inl 0), (.getfield 12, 3, 5, 1, 1, .inl 0), (.aload_n 0, 1, 0, 0, 0, .inl 0), (.getfield 18, 3, 5, 2, 1, .inl 0), (.iconst 0, 1, 0, 0, 0, .inl 0), (.iaload, 1, 20, 0, 0, .inl 0), (.putfield 95, 3, 4, 0, 0, .inl 0)] 32 45 _ _ _ (by decide +kernel) ?_
    refine And.intro (lc_t3 hT) (Exists.intro _ (And.intro (gRc (lc_r5_1 hT)) ?_))
    refine And.intro (lc_t3 hT) (Exists.intro _ (And.intro (gRc (lc_r5_2 hT)) ?_))
    refine And.intro (lc_t11 hT) (Exists.intro _ (And.intro (lc_n11 hT) (And.intro (inb_in (by decide)) ?_)))
    refine And.intro (lc_h4 hT).1 (And.intro trivial ?_)
    show Go _ _ _ _ _ _ 45 [(0, rc 3)] [] ((wI S 4 0 (S.1 11 0), T), Y) _
    refine go_goto (off := 44) (tgt := 89) (by decide +kernel) (by decide) ?_
    obtain rfl := Option.some.inj h
    refine go_pick [0] rfl ?_
    exact key
  refine ite_el h (fun q2 h => ?_) (fun q2 h => ?_)
  · refine go_lookup (dflt := 60) (ps := #[(5, 28), (6, 44)]) (len := 28) (off := 44) (tgt := 48) (by decide +kernel) (by decide) (by rw [q2]; decide) (by decide) ?_
    refine go_blk rfl [(.aload_n 0, 1, 0, 0, 0, .inl 0), (.getfield 12, 3, 5, 1, 1, .inl 0), (.aload_n 0, 1, 0, 0, 0, .inl 0), (.getfield 18, 3, 5, 2, 1, .inl 0), (.iconst 0, 1, 0, 0, 0, .inl 0), (.iaload, 1, 20, 0, 0, .inl 0)] 48 58 _ _ _ (by decide +kernel) ?_
    refine And.intro (lc_t3 hT) (Exists.intro _ (And.intro (gRc (lc_r5_1 hT)) ?_))
    refine And.intro (lc_t3 hT) (Exists.intro _ (And.intro (gRc (lc_r5_2 hT)) ?_))
    refine And.intro (lc_t11 hT) (Exists.intro _ (And.intro (lc_n11 hT) (And.intro (inb_in (by decide)) ?_)))
    show Go _ _ _ _ _ _ 58 [(0, rc 3)] [vi (S.1 11 0), rc 4] ((S, T), Y) _
    obtain ⟨r1, hr1, h⟩ := bind_el h
    refine go_callV (idx := 98) (z := 1) (M' := M4_addChair) (n := 1) (A := [vi (S.1 11 0)]) (v' := none) (μ' := ((r1.1, T), Y)) (d' := 1) (mc' := 0) (ms' := 0) (kc' := 0) (ks' := 0) (ci := 4) (x := .inl 4) (by decide +kernel) ml_5_98 rfl wv4_addChair rfl (by decide) rfl (lc_h4 hT).1 (ret4_addChair (lc_h4 hT) hr1) (by decide) rfl rfl (Nat.le_of_ble_eq_true rfl) rfl (jag rfl rfl) ?_
    show Go _ _ _ _ _ _ 61 [(0, rc 3)] [] ((r1.1, T), Y) _
    refine go_goto (off := 28) (tgt := 89) (by decide +kernel) (by decide) ?_
    obtain rfl := Option.some.inj h
    refine go_pick [0] rfl ?_
    exact key
  refine go_lookup (dflt := 60) (ps := #[(5, 28), (6, 44)]) (len := 28) (off := 60) (tgt := 64) (by decide +kernel) (by decide) (by have z0 : (S.1 3 4).toInt ≠ 5 := tb_ne q1 (by decide); have z1 : (S.1 3 4).toInt ≠ 6 := tb_ne q2 (by decide); exact lk_out _ _ _ (by simp only [List.forall_mem_cons, List.not_mem_nil]; refine ⟨by intro z; omega, by intro z; omega, fun _ z => nomatch z⟩)) (by decide) ?_
  refine go_blk rfl [(.aload_n 0, 1, 0, 0, 0, .inl 0), (.getfield 12, 3, 5, 1, 1, .inl 0), (.aload_n 0, 1, 0, 0, 0, .inl 0), (.getfield 18, 3, 5, 2, 1, .inl 0), (.iconst 0, 1, 0, 0, 0, .inl 0), (.iaload, 1, 20, 0, 0, .inl 0), (.aload_n 0, 1, 0, 0, 0, .inl 0), (.getfield 18, 3, 5, 2, 1, .inl 0), (.iconst 1, 1, 0, 0, 0, .inl 1), (.iaload, 1, 20, 0, 0, .inl 0), (.aload_n 0, 1, 0, 0, 0, .inl 0), (.getfield 18, 3, 5, 2, 1, .inl 0), (.iconst 2, 1, 0, 0, 0, .inl 2), (.iaload, 1, 20, 0, 0, .inl 0)] 64 86 _ _ _ (by decide +kernel) ?_
  refine And.intro (lc_t3 hT) (Exists.intro _ (And.intro (gRc (lc_r5_1 hT)) ?_))
  refine And.intro (lc_t3 hT) (Exists.intro _ (And.intro (gRc (lc_r5_2 hT)) ?_))
  refine And.intro (lc_t11 hT) (Exists.intro _ (And.intro (lc_n11 hT) (And.intro (inb_in (by decide)) ?_)))
  refine And.intro (lc_t3 hT) (Exists.intro _ (And.intro (gRc (lc_r5_2 hT)) ?_))
  refine And.intro (lc_t11 hT) (Exists.intro _ (And.intro (lc_n11 hT) (And.intro (inb_in (by decide)) ?_)))
  refine And.intro (lc_t3 hT) (Exists.intro _ (And.intro (gRc (lc_r5_2 hT)) ?_))
  refine And.intro (lc_t11 hT) (Exists.intro _ (And.intro (lc_n11 hT) (And.intro (inb_in (by decide)) ?_)))
  show Go _ _ _ _ _ _ 86 [(0, rc 3)] [vi (S.1 11 2), vi (S.1 11 1), vi (S.1 11 0), rc 4] ((S, T), Y) _
  obtain ⟨r2, hr2, h⟩ := bind_el h
  refine go_callV (idx := 102) (z := 1) (M' := M4_addGuest) (n := 3) (A := [vi (S.1 11 0), vi (S.1 11 1), vi (S.1 11 2)]) (v' := none) (μ' := ((r2.1, T), Y)) (d' := 1) (mc' := 0) (ms' := 0) (kc' := 0) (ks' := 0) (ci := 4) (x := .inl 4) (by decide +kernel) ml_5_102 rfl wv4_addGuest rfl (by decide) rfl (lc_h4 hT).1 (ret4_addGuest (lc_h4 hT) hr2) (by decide) rfl rfl (Nat.le_of_ble_eq_true rfl) rfl (jag rfl rfl) ?_
  show Go _ _ _ _ _ _ 89 [(0, rc 3)] [] ((r2.1, T), Y) _
  obtain rfl := Option.some.inj h
  refine go_pick [0] rfl ?_
  exact key
