/-! one field of a cell is written: the state with one number changed -/
theorem oB_I {σ : oS} {k i j : Nat} {v : Int32} (h : oB σ) : oB (oI σ k i j v) := h
theorem oB_L {σ : oS} {k i j : Nat} {v : Int64} (h : oB σ) : oB (oL σ k i j v) := h
theorem oV_I {σ : oS} {a b c : Nat} {v : Int32} (k i j : Nat) (h : oV (oI σ a b c v) k i j) : oV σ k i j := h
theorem oV_L {σ : oS} {a b c : Nat} {v : Int64} (k i j : Nat) (h : oV (oL σ a b c v) k i j) : oV σ k i j := h
section P22
variable {σ : oS} {ad : Nat → Nat → Nat → Nat} {G G1 : gh_H}
theorem p_I0 (h : oR σ ad G) {v : Int32} (hG : G1 = gh_up G (ad 0 0 0) (.inr (4, ([.ref (ad 1 0 0), .ref (ad 2 0 0), .ref (ad 3 0 0), .ref (ad 4 0 0), .int (nI (σ.2.2 0 0 0)), .int (nI (σ.2.2 1 0 0)), .int (nI (σ.2.2 2 0 0)), .int (nI (σ.2.2 3 0 0)), .int (σ.1 0 0 0), .int (σ.1 1 0 0), .int (σ.1 2 0 0)] : List Value).set 8 (.int v)))) : oR (oI σ 0 0 0 v) ad G1 := by
  refine h.put (k0 := 0) (i0 := 0) (j0 := 0) ⟨by decide, rfl, rfl⟩ hG (by simp [oCell, oI]) (oB_I h.1) oV_I ?_
  intro k i9 j9 hv hne
  match k, hv, hne with
  | 0, hv, hne => first | rfl | (simp [oCell, oI]; done) | exact absurd ⟨rfl, hv.2.1, hv.2.2⟩ hne
  | 1, hv, hne => first | rfl | (simp [oCell, oI]; done) | exact absurd ⟨rfl, hv.2.1, hv.2.2⟩ hne
  | 2, hv, hne => first | rfl | (simp [oCell, oI]; done) | exact absurd ⟨rfl, hv.2.1, hv.2.2⟩ hne
  | 3, hv, hne => first | rfl | (simp [oCell, oI]; done) | exact absurd ⟨rfl, hv.2.1, hv.2.2⟩ hne
  | 4, hv, hne => first | rfl | (simp [oCell, oI]; done) | exact absurd ⟨rfl, hv.2.1, hv.2.2⟩ hne
  | 5, hv, hne => first | rfl | (simp [oCell, oI]; done) | exact absurd ⟨rfl, hv.2.1, hv.2.2⟩ hne
  | 6, hv, hne => first | rfl | (simp [oCell, oI]; done) | exact absurd ⟨rfl, hv.2.1, hv.2.2⟩ hne
  | 7, hv, hne => first | rfl | (simp [oCell, oI]; done) | exact absurd ⟨rfl, hv.2.1, hv.2.2⟩ hne
  | 8, hv, hne => first | rfl | (simp [oCell, oI]; done) | exact absurd ⟨rfl, hv.2.1, hv.2.2⟩ hne
  | 9, hv, hne => first | rfl | (simp [oCell, oI]; done) | exact absurd ⟨rfl, hv.2.1, hv.2.2⟩ hne
  | n + 10, hv, hne => first | rfl | (simp [oCell, oI]; done) | exact absurd ⟨rfl, hv.2.1, hv.2.2⟩ hne
theorem p_I1 (h : oR σ ad G) {v : Int32} (hG : G1 = gh_up G (ad 0 0 0) (.inr (4, ([.ref (ad 1 0 0), .ref (ad 2 0 0), .ref (ad 3 0 0), .ref (ad 4 0 0), .int (nI (σ.2.2 0 0 0)), .int (nI (σ.2.2 1 0 0)), .int (nI (σ.2.2 2 0 0)), .int (nI (σ.2.2 3 0 0)), .int (σ.1 0 0 0), .int (σ.1 1 0 0), .int (σ.1 2 0 0)] : List Value).set 9 (.int v)))) : oR (oI σ 1 0 0 v) ad G1 := by
  refine h.put (k0 := 0) (i0 := 0) (j0 := 0) ⟨by decide, rfl, rfl⟩ hG (by simp [oCell, oI]) (oB_I h.1) oV_I ?_
  intro k i9 j9 hv hne
  match k, hv, hne with
  | 0, hv, hne => first | rfl | (simp [oCell, oI]; done) | exact absurd ⟨rfl, hv.2.1, hv.2.2⟩ hne
  | 1, hv, hne => first | rfl | (simp [oCell, oI]; done) | exact absurd ⟨rfl, hv.2.1, hv.2.2⟩ hne
  | 2, hv, hne => first | rfl | (simp [oCell, oI]; done) | exact absurd ⟨rfl, hv.2.1, hv.2.2⟩ hne
  | 3, hv, hne => first | rfl | (simp [oCell, oI]; done) | exact absurd ⟨rfl, hv.2.1, hv.2.2⟩ hne
  | 4, hv, hne => first | rfl | (simp [oCell, oI]; done) | exact absurd ⟨rfl, hv.2.1, hv.2.2⟩ hne
  | 5, hv, hne => first | rfl | (simp [oCell, oI]; done) | exact absurd ⟨rfl, hv.2.1, hv.2.2⟩ hne
  | 6, hv, hne => first | rfl | (simp [oCell, oI]; done) | exact absurd ⟨rfl, hv.2.1, hv.2.2⟩ hne
  | 7, hv, hne => first | rfl | (simp [oCell, oI]; done) | exact absurd ⟨rfl, hv.2.1, hv.2.2⟩ hne
  | 8, hv, hne => first | rfl | (simp [oCell, oI]; done) | exact absurd ⟨rfl, hv.2.1, hv.2.2⟩ hne
  | 9, hv, hne => first | rfl | (simp [oCell, oI]; done) | exact absurd ⟨rfl, hv.2.1, hv.2.2⟩ hne
  | n + 10, hv, hne => first | rfl | (simp [oCell, oI]; done) | exact absurd ⟨rfl, hv.2.1, hv.2.2⟩ hne
theorem p_I2 (h : oR σ ad G) {v : Int32} (hG : G1 = gh_up G (ad 0 0 0) (.inr (4, ([.ref (ad 1 0 0), .ref (ad 2 0 0), .ref (ad 3 0 0), .ref (ad 4 0 0), .int (nI (σ.2.2 0 0 0)), .int (nI (σ.2.2 1 0 0)), .int (nI (σ.2.2 2 0 0)), .int (nI (σ.2.2 3 0 0)), .int (σ.1 0 0 0), .int (σ.1 1 0 0), .int (σ.1 2 0 0)] : List Value).set 10 (.int v)))) : oR (oI σ 2 0 0 v) ad G1 := by
  refine h.put (k0 := 0) (i0 := 0) (j0 := 0) ⟨by decide, rfl, rfl⟩ hG (by simp [oCell, oI]) (oB_I h.1) oV_I ?_
  intro k i9 j9 hv hne
  match k, hv, hne with
  | 0, hv, hne => first | rfl | (simp [oCell, oI]; done) | exact absurd ⟨rfl, hv.2.1, hv.2.2⟩ hne
  | 1, hv, hne => first | rfl | (simp [oCell, oI]; done) | exact absurd ⟨rfl, hv.2.1, hv.2.2⟩ hne
  | 2, hv, hne => first | rfl | (simp [oCell, oI]; done) | exact absurd ⟨rfl, hv.2.1, hv.2.2⟩ hne
  | 3, hv, hne => first | rfl | (simp [oCell, oI]; done) | exact absurd ⟨rfl, hv.2.1, hv.2.2⟩ hne
  | 4, hv, hne => first | rfl | (simp [oCell, oI]; done) | exact absurd ⟨rfl, hv.2.1, hv.2.2⟩ hne
  | 5, hv, hne => first | rfl | (simp [oCell, oI]; done) | exact absurd ⟨rfl, hv.2.1, hv.2.2⟩ hne
  | 6, hv, hne => first | rfl | (simp [oCell, oI]; done) | exact absurd ⟨rfl, hv.2.1, hv.2.2⟩ hne
  | 7, hv, hne => first | rfl | (simp [oCell, oI]; done) | exact absurd ⟨rfl, hv.2.1, hv.2.2⟩ hne
  | 8, hv, hne => first | rfl | (simp [oCell, oI]; done) | exact absurd ⟨rfl, hv.2.1, hv.2.2⟩ hne
  | 9, hv, hne => first | rfl | (simp [oCell, oI]; done) | exact absurd ⟨rfl, hv.2.1, hv.2.2⟩ hne
  | n + 10, hv, hne => first | rfl | (simp [oCell, oI]; done) | exact absurd ⟨rfl, hv.2.1, hv.2.2⟩ hne
theorem p_I3 (h : oR σ ad G) {i : Nat} (hi : i < σ.2.2 0 0 0) {v : Int32} (hG : G1 = gh_up G (ad 5 i 0) (.inr (2, ([.long (σ.2.1 0 i 0), .int (σ.1 3 i 0)] : List Value).set 1 (.int v)))) : oR (oI σ 3 i 0 v) ad G1 := by
  refine h.put (k0 := 5) (i0 := i) (j0 := 0) ⟨hi, rfl⟩ hG (by simp [oCell, oI]) (oB_I h.1) oV_I ?_
  intro k i9 j9 hv hne
  match k, hv, hne with
  | 0, hv, hne => first | rfl | (simp [oCell, oI]; done) | (simp [oCell, oI]; intro e; exact absurd ⟨rfl, e, hv.2⟩ hne)
  | 1, hv, hne => first | rfl | (simp [oCell, oI]; done) | (simp [oCell, oI]; intro e; exact absurd ⟨rfl, e, hv.2⟩ hne)
  | 2, hv, hne => first | rfl | (simp [oCell, oI]; done) | (simp [oCell, oI]; intro e; exact absurd ⟨rfl, e, hv.2⟩ hne)
  | 3, hv, hne => first | rfl | (simp [oCell, oI]; done) | (simp [oCell, oI]; intro e; exact absurd ⟨rfl, e, hv.2⟩ hne)
  | 4, hv, hne => first | rfl | (simp [oCell, oI]; done) | (simp [oCell, oI]; intro e; exact absurd ⟨rfl, e, hv.2⟩ hne)
  | 5, hv, hne => first | rfl | (simp [oCell, oI]; done) | (simp [oCell, oI]; intro e; exact absurd ⟨rfl, e, hv.2⟩ hne)
  | 6, hv, hne => first | rfl | (simp [oCell, oI]; done) | (simp [oCell, oI]; intro e; exact absurd ⟨rfl, e, hv.2⟩ hne)
  | 7, hv, hne => first | rfl | (simp [oCell, oI]; done) | (simp [oCell, oI]; intro e; exact absurd ⟨rfl, e, hv.2⟩ hne)
  | 8, hv, hne => first | rfl | (simp [oCell, oI]; done) | (simp [oCell, oI]; intro e; exact absurd ⟨rfl, e, hv.2⟩ hne)
  | 9, hv, hne => first | rfl | (simp [oCell, oI]; done) | (simp [oCell, oI]; intro e; exact absurd ⟨rfl, e, hv.2⟩ hne)
  | n + 10, hv, hne => first | rfl | (simp [oCell, oI]; done) | (simp [oCell, oI]; intro e; exact absurd ⟨rfl, e, hv.2⟩ hne)
theorem p_I6 (h : oR σ ad G) {i : Nat} (hi : i < σ.2.2 2 0 0) {v : Int32} (hG : G1 = gh_up G (ad 6 i 0) (.inr (0, ([.int (σ.1 5 i 0), .ref (ad 7 i 0), .int (nI (σ.2.2 4 i 0)), .int (σ.1 6 i 0), .int (σ.1 7 i 0), .int (σ.1 8 i 0)] : List Value).set 3 (.int v)))) : oR (oI σ 6 i 0 v) ad G1 := by
  refine h.put (k0 := 6) (i0 := i) (j0 := 0) ⟨hi, rfl⟩ hG (by simp [oCell, oI]) (oB_I h.1) oV_I ?_
  intro k i9 j9 hv hne
  match k, hv, hne with
  | 0, hv, hne => first | rfl | (simp [oCell, oI]; done) | (simp [oCell, oI]; intro e; exact absurd ⟨rfl, e, hv.2⟩ hne)
  | 1, hv, hne => first | rfl | (simp [oCell, oI]; done) | (simp [oCell, oI]; intro e; exact absurd ⟨rfl, e, hv.2⟩ hne)
  | 2, hv, hne => first | rfl | (simp [oCell, oI]; done) | (simp [oCell, oI]; intro e; exact absurd ⟨rfl, e, hv.2⟩ hne)
  | 3, hv, hne => first | rfl | (simp [oCell, oI]; done) | (simp [oCell, oI]; intro e; exact absurd ⟨rfl, e, hv.2⟩ hne)
  | 4, hv, hne => first | rfl | (simp [oCell, oI]; done) | (simp [oCell, oI]; intro e; exact absurd ⟨rfl, e, hv.2⟩ hne)
  | 5, hv, hne => first | rfl | (simp [oCell, oI]; done) | (simp [oCell, oI]; intro e; exact absurd ⟨rfl, e, hv.2⟩ hne)
  | 6, hv, hne => first | rfl | (simp [oCell, oI]; done) | (simp [oCell, oI]; intro e; exact absurd ⟨rfl, e, hv.2⟩ hne)
  | 7, hv, hne => first | rfl | (simp [oCell, oI]; done) | (simp [oCell, oI]; intro e; exact absurd ⟨rfl, e, hv.2⟩ hne)
  | 8, hv, hne => first | rfl | (simp [oCell, oI]; done) | (simp [oCell, oI]; intro e; exact absurd ⟨rfl, e, hv.2⟩ hne)
  | 9, hv, hne => first | rfl | (simp [oCell, oI]; done) | (simp [oCell, oI]; intro e; exact absurd ⟨rfl, e, hv.2⟩ hne)
  | n + 10, hv, hne => first | rfl | (simp [oCell, oI]; done) | (simp [oCell, oI]; intro e; exact absurd ⟨rfl, e, hv.2⟩ hne)
theorem p_I7 (h : oR σ ad G) {i : Nat} (hi : i < σ.2.2 2 0 0) {v : Int32} (hG : G1 = gh_up G (ad 6 i 0) (.inr (0, ([.int (σ.1 5 i 0), .ref (ad 7 i 0), .int (nI (σ.2.2 4 i 0)), .int (σ.1 6 i 0), .int (σ.1 7 i 0), .int (σ.1 8 i 0)] : List Value).set 4 (.int v)))) : oR (oI σ 7 i 0 v) ad G1 := by
  refine h.put (k0 := 6) (i0 := i) (j0 := 0) ⟨hi, rfl⟩ hG (by simp [oCell, oI]) (oB_I h.1) oV_I ?_
  intro k i9 j9 hv hne
  match k, hv, hne with
  | 0, hv, hne => first | rfl | (simp [oCell, oI]; done) | (simp [oCell, oI]; intro e; exact absurd ⟨rfl, e, hv.2⟩ hne)
  | 1, hv, hne => first | rfl | (simp [oCell, oI]; done) | (simp [oCell, oI]; intro e; exact absurd ⟨rfl, e, hv.2⟩ hne)
  | 2, hv, hne => first | rfl | (simp [oCell, oI]; done) | (simp [oCell, oI]; intro e; exact absurd ⟨rfl, e, hv.2⟩ hne)
  | 3, hv, hne => first | rfl | (simp [oCell, oI]; done) | (simp [oCell, oI]; intro e; exact absurd ⟨rfl, e, hv.2⟩ hne)
  | 4, hv, hne => first | rfl | (simp [oCell, oI]; done) | (simp [oCell, oI]; intro e; exact absurd ⟨rfl, e, hv.2⟩ hne)
  | 5, hv, hne => first | rfl | (simp [oCell, oI]; done) | (simp [oCell, oI]; intro e; exact absurd ⟨rfl, e, hv.2⟩ hne)
  | 6, hv, hne => first | rfl | (simp [oCell, oI]; done) | (simp [oCell, oI]; intro e; exact absurd ⟨rfl, e, hv.2⟩ hne)
  | 7, hv, hne => first | rfl | (simp [oCell, oI]; done) | (simp [oCell, oI]; intro e; exact absurd ⟨rfl, e, hv.2⟩ hne)
  | 8, hv, hne => first | rfl | (simp [oCell, oI]; done) | (simp [oCell, oI]; intro e; exact absurd ⟨rfl, e, hv.2⟩ hne)
  | 9, hv, hne => first | rfl | (simp [oCell, oI]; done) | (simp [oCell, oI]; intro e; exact absurd ⟨rfl, e, hv.2⟩ hne)
  | n + 10, hv, hne => first | rfl | (simp [oCell, oI]; done) | (simp [oCell, oI]; intro e; exact absurd ⟨rfl, e, hv.2⟩ hne)
theorem p_I11 (h : oR σ ad G) {i j : Nat} (hi : i < σ.2.2 2 0 0) (hj : j < σ.2.2 4 i 0) {v : Int32} (hG : G1 = gh_up G (ad 8 i j) (.inr (3, ([.int (σ.1 9 i j), .int (σ.1 10 i j), .long (σ.2.1 1 i j), .int (σ.1 11 i j)] : List Value).set 3 (.int v)))) : oR (oI σ 11 i j v) ad G1 := by
  refine h.put (k0 := 8) (i0 := i) (j0 := j) ⟨hi, hj⟩ hG (by simp [oCell, oI]) (oB_I h.1) oV_I ?_
  intro k i9 j9 hv hne
  match k, hv, hne with
  | 0, hv, hne => first | rfl | (simp [oCell, oI]; done) | (simp [oCell, oI]; intro e1 e2; exact absurd ⟨rfl, e1, e2⟩ hne)
  | 1, hv, hne => first | rfl | (simp [oCell, oI]; done) | (simp [oCell, oI]; intro e1 e2; exact absurd ⟨rfl, e1, e2⟩ hne)
  | 2, hv, hne => first | rfl | (simp [oCell, oI]; done) | (simp [oCell, oI]; intro e1 e2; exact absurd ⟨rfl, e1, e2⟩ hne)
  | 3, hv, hne => first | rfl | (simp [oCell, oI]; done) | (simp [oCell, oI]; intro e1 e2; exact absurd ⟨rfl, e1, e2⟩ hne)
  | 4, hv, hne => first | rfl | (simp [oCell, oI]; done) | (simp [oCell, oI]; intro e1 e2; exact absurd ⟨rfl, e1, e2⟩ hne)
  | 5, hv, hne => first | rfl | (simp [oCell, oI]; done) | (simp [oCell, oI]; intro e1 e2; exact absurd ⟨rfl, e1, e2⟩ hne)
  | 6, hv, hne => first | rfl | (simp [oCell, oI]; done) | (simp [oCell, oI]; intro e1 e2; exact absurd ⟨rfl, e1, e2⟩ hne)
  | 7, hv, hne => first | rfl | (simp [oCell, oI]; done) | (simp [oCell, oI]; intro e1 e2; exact absurd ⟨rfl, e1, e2⟩ hne)
  | 8, hv, hne => first | rfl | (simp [oCell, oI]; done) | (simp [oCell, oI]; intro e1 e2; exact absurd ⟨rfl, e1, e2⟩ hne)
  | 9, hv, hne => first | rfl | (simp [oCell, oI]; done) | (simp [oCell, oI]; intro e1 e2; exact absurd ⟨rfl, e1, e2⟩ hne)
  | n + 10, hv, hne => first | rfl | (simp [oCell, oI]; done) | (simp [oCell, oI]; intro e1 e2; exact absurd ⟨rfl, e1, e2⟩ hne)
theorem p_I14 (h : oR σ ad G) {i : Nat} (hi : i < σ.2.2 3 0 0) {v : Int32} (hG : G1 = gh_up G (ad 9 i 0) (.inr (1, ([.int (σ.1 12 i 0), .int (σ.1 13 i 0), .long (σ.2.1 2 i 0), .int (σ.1 14 i 0), .int (σ.1 15 i 0)] : List Value).set 3 (.int v)))) : oR (oI σ 14 i 0 v) ad G1 := by
  refine h.put (k0 := 9) (i0 := i) (j0 := 0) ⟨hi, rfl⟩ hG (by simp [oCell, oI]) (oB_I h.1) oV_I ?_
  intro k i9 j9 hv hne
  match k, hv, hne with
  | 0, hv, hne => first | rfl | (simp [oCell, oI]; done) | (simp [oCell, oI]; intro e; exact absurd ⟨rfl, e, hv.2⟩ hne)
  | 1, hv, hne => first | rfl | (simp [oCell, oI]; done) | (simp [oCell, oI]; intro e; exact absurd ⟨rfl, e, hv.2⟩ hne)
  | 2, hv, hne => first | rfl | (simp [oCell, oI]; done) | (simp [oCell, oI]; intro e; exact absurd ⟨rfl, e, hv.2⟩ hne)
  | 3, hv, hne => first | rfl | (simp [oCell, oI]; done) | (simp [oCell, oI]; intro e; exact absurd ⟨rfl, e, hv.2⟩ hne)
  | 4, hv, hne => first | rfl | (simp [oCell, oI]; done) | (simp [oCell, oI]; intro e; exact absurd ⟨rfl, e, hv.2⟩ hne)
  | 5, hv, hne => first | rfl | (simp [oCell, oI]; done) | (simp [oCell, oI]; intro e; exact absurd ⟨rfl, e, hv.2⟩ hne)
  | 6, hv, hne => first | rfl | (simp [oCell, oI]; done) | (simp [oCell, oI]; intro e; exact absurd ⟨rfl, e, hv.2⟩ hne)
  | 7, hv, hne => first | rfl | (simp [oCell, oI]; done) | (simp [oCell, oI]; intro e; exact absurd ⟨rfl, e, hv.2⟩ hne)
  | 8, hv, hne => first | rfl | (simp [oCell, oI]; done) | (simp [oCell, oI]; intro e; exact absurd ⟨rfl, e, hv.2⟩ hne)
  | 9, hv, hne => first | rfl | (simp [oCell, oI]; done) | (simp [oCell, oI]; intro e; exact absurd ⟨rfl, e, hv.2⟩ hne)
  | n + 10, hv, hne => first | rfl | (simp [oCell, oI]; done) | (simp [oCell, oI]; intro e; exact absurd ⟨rfl, e, hv.2⟩ hne)
theorem p_I15 (h : oR σ ad G) {i : Nat} (hi : i < σ.2.2 3 0 0) {v : Int32} (hG : G1 = gh_up G (ad 9 i 0) (.inr (1, ([.int (σ.1 12 i 0), .int (σ.1 13 i 0), .long (σ.2.1 2 i 0), .int (σ.1 14 i 0), .int (σ.1 15 i 0)] : List Value).set 4 (.int v)))) : oR (oI σ 15 i 0 v) ad G1 := by
  refine h.put (k0 := 9) (i0 := i) (j0 := 0) ⟨hi, rfl⟩ hG (by simp [oCell, oI]) (oB_I h.1) oV_I ?_
  intro k i9 j9 hv hne
  match k, hv, hne with
  | 0, hv, hne => first | rfl | (simp [oCell, oI]; done) | (simp [oCell, oI]; intro e; exact absurd ⟨rfl, e, hv.2⟩ hne)
  | 1, hv, hne => first | rfl | (simp [oCell, oI]; done) | (simp [oCell, oI]; intro e; exact absurd ⟨rfl, e, hv.2⟩ hne)
  | 2, hv, hne => first | rfl | (simp [oCell, oI]; done) | (simp [oCell, oI]; intro e; exact absurd ⟨rfl, e, hv.2⟩ hne)
  | 3, hv, hne => first | rfl | (simp [oCell, oI]; done) | (simp [oCell, oI]; intro e; exact absurd ⟨rfl, e, hv.2⟩ hne)
  | 4, hv, hne => first | rfl | (simp [oCell, oI]; done) | (simp [oCell, oI]; intro e; exact absurd ⟨rfl, e, hv.2⟩ hne)
  | 5, hv, hne => first | rfl | (simp [oCell, oI]; done) | (simp [oCell, oI]; intro e; exact absurd ⟨rfl, e, hv.2⟩ hne)
  | 6, hv, hne => first | rfl | (simp [oCell, oI]; done) | (simp [oCell, oI]; intro e; exact absurd ⟨rfl, e, hv.2⟩ hne)
  | 7, hv, hne => first | rfl | (simp [oCell, oI]; done) | (simp [oCell, oI]; intro e; exact absurd ⟨rfl, e, hv.2⟩ hne)
  | 8, hv, hne => first | rfl | (simp [oCell, oI]; done) | (simp [oCell, oI]; intro e; exact absurd ⟨rfl, e, hv.2⟩ hne)
  | 9, hv, hne => first | rfl | (simp [oCell, oI]; done) | (simp [oCell, oI]; intro e; exact absurd ⟨rfl, e, hv.2⟩ hne)
  | n + 10, hv, hne => first | rfl | (simp [oCell, oI]; done) | (simp [oCell, oI]; intro e; exact absurd ⟨rfl, e, hv.2⟩ hne)
theorem p_L0 (h : oR σ ad G) {i : Nat} (hi : i < σ.2.2 0 0 0) {v : Int64} (hG : G1 = gh_up G (ad 5 i 0) (.inr (2, ([.long (σ.2.1 0 i 0), .int (σ.1 3 i 0)] : List Value).set 0 (.long v)))) : oR (oL σ 0 i 0 v) ad G1 := by
  refine h.put (k0 := 5) (i0 := i) (j0 := 0) ⟨hi, rfl⟩ hG (by simp [oCell, oL]) (oB_L h.1) oV_L ?_
  intro k i9 j9 hv hne
  match k, hv, hne with
  | 0, hv, hne => first | rfl | (simp [oCell, oL]; done) | (simp [oCell, oL]; intro e; exact absurd ⟨rfl, e, hv.2⟩ hne)
  | 1, hv, hne => first | rfl | (simp [oCell, oL]; done) | (simp [oCell, oL]; intro e; exact absurd ⟨rfl, e, hv.2⟩ hne)
  | 2, hv, hne => first | rfl | (simp [oCell, oL]; done) | (simp [oCell, oL]; intro e; exact absurd ⟨rfl, e, hv.2⟩ hne)
  | 3, hv, hne => first | rfl | (simp [oCell, oL]; done) | (simp [oCell, oL]; intro e; exact absurd ⟨rfl, e, hv.2⟩ hne)
  | 4, hv, hne => first | rfl | (simp [oCell, oL]; done) | (simp [oCell, oL]; intro e; exact absurd ⟨rfl, e, hv.2⟩ hne)
  | 5, hv, hne => first | rfl | (simp [oCell, oL]; done) | (simp [oCell, oL]; intro e; exact absurd ⟨rfl, e, hv.2⟩ hne)
  | 6, hv, hne => first | rfl | (simp [oCell, oL]; done) | (simp [oCell, oL]; intro e; exact absurd ⟨rfl, e, hv.2⟩ hne)
  | 7, hv, hne => first | rfl | (simp [oCell, oL]; done) | (simp [oCell, oL]; intro e; exact absurd ⟨rfl, e, hv.2⟩ hne)
  | 8, hv, hne => first | rfl | (simp [oCell, oL]; done) | (simp [oCell, oL]; intro e; exact absurd ⟨rfl, e, hv.2⟩ hne)
  | 9, hv, hne => first | rfl | (simp [oCell, oL]; done) | (simp [oCell, oL]; intro e; exact absurd ⟨rfl, e, hv.2⟩ hne)
  | n + 10, hv, hne => first | rfl | (simp [oCell, oL]; done) | (simp [oCell, oL]; intro e; exact absurd ⟨rfl, e, hv.2⟩ hne)
theorem p_L2 (h : oR σ ad G) {i : Nat} (hi : i < σ.2.2 3 0 0) {v : Int64} (hG : G1 = gh_up G (ad 9 i 0) (.inr (1, ([.int (σ.1 12 i 0), .int (σ.1 13 i 0), .long (σ.2.1 2 i 0), .int (σ.1 14 i 0), .int (σ.1 15 i 0)] : List Value).set 2 (.long v)))) : oR (oL σ 2 i 0 v) ad G1 := by
  refine h.put (k0 := 9) (i0 := i) (j0 := 0) ⟨hi, rfl⟩ hG (by simp [oCell, oL]) (oB_L h.1) oV_L ?_
  intro k i9 j9 hv hne
  match k, hv, hne with
  | 0, hv, hne => first | rfl | (simp [oCell, oL]; done) | (simp [oCell, oL]; intro e; exact absurd ⟨rfl, e, hv.2⟩ hne)
  | 1, hv, hne => first | rfl | (simp [oCell, oL]; done) | (simp [oCell, oL]; intro e; exact absurd ⟨rfl, e, hv.2⟩ hne)
  | 2, hv, hne => first | rfl | (simp [oCell, oL]; done) | (simp [oCell, oL]; intro e; exact absurd ⟨rfl, e, hv.2⟩ hne)
  | 3, hv, hne => first | rfl | (simp [oCell, oL]; done) | (simp [oCell, oL]; intro e; exact absurd ⟨rfl, e, hv.2⟩ hne)
  | 4, hv, hne => first | rfl | (simp [oCell, oL]; done) | (simp [oCell, oL]; intro e; exact absurd ⟨rfl, e, hv.2⟩ hne)
  | 5, hv, hne => first | rfl | (simp [oCell, oL]; done) | (simp [oCell, oL]; intro e; exact absurd ⟨rfl, e, hv.2⟩ hne)
  | 6, hv, hne => first | rfl | (simp [oCell, oL]; done) | (simp [oCell, oL]; intro e; exact absurd ⟨rfl, e, hv.2⟩ hne)
  | 7, hv, hne => first | rfl | (simp [oCell, oL]; done) | (simp [oCell, oL]; intro e; exact absurd ⟨rfl, e, hv.2⟩ hne)
  | 8, hv, hne => first | rfl | (simp [oCell, oL]; done) | (simp [oCell, oL]; intro e; exact absurd ⟨rfl, e, hv.2⟩ hne)
  | 9, hv, hne => first | rfl | (simp [oCell, oL]; done) | (simp [oCell, oL]; intro e; exact absurd ⟨rfl, e, hv.2⟩ hne)
  | n + 10, hv, hne => first | rfl | (simp [oCell, oL]; done) | (simp [oCell, oL]; intro e; exact absurd ⟨rfl, e, hv.2⟩ hne)
theorem p_L9 (h : oR σ ad G) {v : Int64} (hG : G1 = gh_up G (ad 10 0 0) (.inl (1, 1, .inr (.inl (vp_updL (fun n => if n = 0 then σ.2.1 9 0 0 else 0) 0 v))))) : oR (oL σ 9 0 0 v) ad G1 := by
  refine h.put (k0 := 10) (i0 := 0) (j0 := 0) ⟨by decide, rfl, rfl⟩ hG ?_ (oB_L h.1) oV_L ?_
  · simp only [oCell, oL]
    congr 5
    funext n
    by_cases e : n = 0
    · subst e; simp [vp_updL]
    · simp [vp_updL, e]
  · intro k i9 j9 hv hne
    match k, hv, hne with
    | 0, hv, hne => first | rfl | (simp [oCell, oL]; done)
    | 1, hv, hne => first | rfl | (simp [oCell, oL]; done)
    | 2, hv, hne => first | rfl | (simp [oCell, oL]; done)
    | 3, hv, hne => first | rfl | (simp [oCell, oL]; done)
    | 4, hv, hne => first | rfl | (simp [oCell, oL]; done)
    | 5, hv, hne => first | rfl | (simp [oCell, oL]; done)
    | 6, hv, hne => first | rfl | (simp [oCell, oL]; done)
    | 7, hv, hne => first | rfl | (simp [oCell, oL]; done)
    | 8, hv, hne => first | rfl | (simp [oCell, oL]; done)
    | 9, hv, hne => first | rfl | (simp [oCell, oL]; done)
    | 10, hv, hne => exact absurd ⟨rfl, hv.2.1, hv.2.2⟩ hne
    | n + 11, hv, hne => exact absurd hv.1 (by omega)
end P22
