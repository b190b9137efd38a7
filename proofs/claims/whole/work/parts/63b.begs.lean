theorem shl_m2 {g : Nat} {x : Int32} (h : x = nI g) (hg : g < 8) : ((1 : Int32) <<< (x &&& 31)) - 1 = nI (2 ^ g - 1) := by rw [h]; exact shl_m1 g hg
theorem r_begins1 {X A B C D : jS} {P Q : Int32} (a1 : f11_copies X 11 7 2 7 = some (A, ())) (b1 : f11_copies A 12 7 3 7 = some (B, ())) (c1 : f11_copies B 13 7 4 7 = some (C, ())) (d1 : f11_begins_L1 jF C 0 = some D) (q1 : ((1 : Int32) <<< ((D.1 1 2) &&& 31)) - 1 = P) (q2 : ((1 : Int32) <<< ((D.1 1 1) &&& 31)) - 1 = Q) : f11_begins X = some (wI (wI (wI (wI (wI D 1 3 0) 1 4 0) 1 5 (-1)) 1 6 P) 1 7 Q, ()) := by
  unfold f11_begins
  rw [a1, Option.bind_some]
  show Option.bind (f11_copies A 12 7 3 7) _ = _
  rw [b1, Option.bind_some]
  show Option.bind (f11_copies B 13 7 4 7) _ = _
  rw [c1, Option.bind_some]
  show Option.bind (f11_begins_L1 jF C 0) _ = _
  rw [d1, Option.bind_some]
  have e2 : (wI (wI (wI D 1 3 0) 1 4 0) 1 5 (-1)).1 1 2 = D.1 1 2 := by rw [wI_nj (by omega), wI_nj (by omega), wI_nj (by omega)]
  rw [e2, q1]
  have e1 : (wI (wI (wI (wI D 1 3 0) 1 4 0) 1 5 (-1)) 1 6 P).1 1 1 = D.1 1 1 := by rw [wI_nj (by omega), wI_nj (by omega), wI_nj (by omega), wI_nj (by omega)]
  rw [e1, q2]
