/-! What holds of every state is kept by every call. -/
theorem oT_of {v : Int64} (h : 0 ≤ v.toInt) : ∃ a : Nat, a < 2 ^ 63 ∧ v = lN a ∧ v.toInt = a := by
  have z0 : (0 : Int64).toInt = 0 := by decide
  obtain ⟨a, ha, e⟩ := pk_lOf (x := v) (fun z => by rw [Int64.lt_iff_toInt_lt] at z; omega)
  exact ⟨a, ha, e, by rw [e, pk_lT ha]⟩
theorem oTk_b {c v : Int64} (hc : 0 ≤ c.toInt) (hv : 0 ≤ v.toInt) : (0 ≤ (v - oTk c v).toInt ∧ (v - oTk c v).toInt ≤ v.toInt) ∧ 0 ≤ (c - oTk c v).toInt ∧ (c - oTk c v).toInt ≤ c.toInt := by
  obtain ⟨a, ha, rfl, ea⟩ := oT_of hc
  obtain ⟨b, hb, rfl, eb⟩ := oT_of hv
  have z0 : (0 : Int64).toInt = 0 := by decide
  unfold oTk
  by_cases c1 : lN a < lN b
  · have := (pk_lLT ha hb).mp c1
    rw [if_pos c1, Int64.sub_self, lN_sub (by omega), show (lN (b - a)).toInt = ((b - a : Nat) : Int) from pk_lT (by omega), z0]
    omega
  · have := mt (pk_lLT ha hb).mpr c1
    rw [if_neg c1, Int64.sub_self, lN_sub (by omega), show (lN (a - b)).toInt = ((a - b : Nat) : Int) from pk_lT (by omega), z0]
    omega
theorem oT_add {a b : Int64} (ha : 0 ≤ a.toInt) (hb : 0 ≤ b.toInt) (h : a.toInt + b.toInt < 2 ^ 63) : (a + b).toInt = a.toInt + b.toInt := by
  obtain ⟨x, hx, rfl, ex⟩ := oT_of ha
  obtain ⟨y, hy, rfl, ey⟩ := oT_of hb
  rw [ex, ey] at h ⊢
  rw [lN_add, pk_lT (by omega)]
  omega
theorem oT_rng {w : Int64} (c : ¬ (w < 1 ∨ 1000000000 < w)) : 0 ≤ w.toInt ∧ w.toInt ≤ 1000000000 := by
  have h1 := Int64.not_lt.mp (fun z => c (Or.inl z))
  have h2 := Int64.not_lt.mp (fun z => c (Or.inr z))
  rw [Int64.le_iff_toInt_le] at h1 h2
  have e1 : (1 : Int64).toInt = 1 := by decide
  have e2 : (1000000000 : Int64).toInt = 1000000000 := by decide
  omega
theorem oT_le {v : Int64} : (0 ≤ v ∧ v ≤ 1000000000) ↔ (0 ≤ v.toInt ∧ v.toInt ≤ 1000000000) := by
  rw [Int64.le_iff_toInt_le, Int64.le_iff_toInt_le]
  have e1 : (0 : Int64).toInt = 0 := by decide
  have e2 : (1000000000 : Int64).toInt = 1000000000 := by decide
  rw [e1, e2]
section I36
variable {n : Nat} {σ : oS}
theorem i_owner (h : oInv n σ) : oInv (n + 1) (opOwner σ).2.2 := by
  unfold opOwner
  split
  · exact h.up
  · refine ⟨fun i hi => h.no i ?_, h.up.nv, h.up.ra, fun i hi => ?_, h.up.op, h.up.st, h.up.rv, h.up.hd, h.up.br, h.up.nw, h.up.cr⟩
    · have : σ.2.2 0 0 0 + 1 ≤ i := by simpa [oN] using hi
      omega
    · obtain ⟨k, hk, e⟩ := h.ow i hi
      exact ⟨k, by simp [oN]; omega, e⟩
theorem i_account {p cu : Int32} (h : oInv n σ) : oInv (n + 1) (opAccount σ p cu).2.2 := by
  unfold opAccount
  split
  · exact h.up
  split
  · exact h.up
  split
  · exact h.up
  · refine ⟨h.up.no, h.up.nv, fun b hb j hj => ?_, h.up.ow, h.up.op, h.up.st, h.up.rv, h.up.hd, h.up.br, h.up.nw, h.up.cr⟩
    obtain ⟨a, ha, e1, e2⟩ := h.ra b hb j hj
    refine ⟨a, by simp [oN, oI]; omega, by simpa [oN, oI] using e1, ?_⟩
    have : ¬ a = σ.2.2 1 0 0 := by omega
    simpa [oN, oI, this] using e2
theorem i_month {m : Int32} (h : oInv n σ) : oInv (n + 1) (opMonth σ m).2.2 := by
  unfold opMonth
  split
  · exact h.up
  · rename_i c
    refine ⟨h.up.no, h.up.nv, h.up.ra, h.up.ow, h.up.op, h.up.st, h.up.rv, h.up.hd, h.up.br, ⟨?_, h.nw.2⟩, h.up.cr⟩
    have h1 := Int32.not_lt.mp (fun z => c (Or.inl z))
    have h2 := Int32.not_lt.mp (fun z => c (Or.inr z))
    exact ⟨Int32.le_trans h.nw.1.1 h1, h2⟩
theorem i_close {m : Int32} (h : oInv n σ) : oInv (n + 1) (opClose σ m).2.2 := by
  unfold opClose
  split
  · exact h.up
  split
  · exact h.up
  · exact ⟨h.up.no, h.up.nv, h.up.ra, h.up.ow, h.up.op, h.up.st, h.up.rv, h.up.hd, h.up.br, h.up.nw, h.up.cr⟩
theorem i_batch {m : Int32} (h : oInv n σ) : oInv (n + 1) (opBatch σ m).2.2 := by
  unfold opBatch
  split
  · exact h.up
  split
  · exact h.up
  split
  · exact h.up
  · refine ⟨h.up.no, h.up.nv, fun b hb j hj => ?_, h.up.ow, h.up.op, h.up.st, fun b => ?_, h.up.hd, h.up.br, h.up.nw, h.up.cr⟩
    · have hb' : b < σ.2.2 2 0 0 + 1 := by simpa [oNewB, oN, oI] using hb
      by_cases e : b = σ.2.2 2 0 0
      · subst e
        simp [oNewB, oN, oI] at hj
      · have hj' : j < σ.2.2 4 b 0 := by simpa [oNewB, oN, oI, e] using hj
        obtain ⟨a, ha, e1, e2⟩ := h.ra b (by omega) j hj'
        exact ⟨a, by simpa [oNewB, oN, oI] using ha, by simpa [oNewB, oN, oI] using e1, by simpa [oNewB, oN, oI] using e2⟩
    · by_cases e : b = σ.2.2 2 0 0
      · subst e
        simp [oNewB, oN, oI]
      · simpa [oNewB, oN, oI, e] using h.rv b
theorem i_row {b a : Int32} {w : Int64} (h : oInv n σ) (hB : oB σ) : oInv (n + 1) (opRow σ b a w).2.2 := by
  unfold opRow
  have hb1 := hB.2.1
  split
  · exact h.up
  split
  · exact h.up
  rename_i c2
  split
  · exact h.up
  split
  · exact h.up
  split
  · exact h.up
  split
  · exact h.up
  · obtain ⟨x, hx, ex⟩ := m_idx (by omega) c2
    have ea := (oNo_f hx (by omega) ex).2
    refine ⟨h.up.no, h.up.nv, fun y hy j hj => ?_, h.up.ow, h.up.op, h.up.st, h.up.rv, h.up.hd, fun y j => ?_, h.up.nw, h.up.cr⟩
    · have hy' : y < σ.2.2 2 0 0 := by simpa [oAddRow, oN, oI, oL] using hy
      by_cases e : y = oAt1 b
      · subst e
        have hj' : j < σ.2.2 4 (oAt1 b) 0 + 1 := by simpa [oAddRow, oN, oI, oL] using hj
        by_cases ej : j = σ.2.2 4 (oAt1 b) 0
        · subst ej
          exact ⟨x, by simpa [oAddRow, oN, oI, oL] using hx, by simpa [oAddRow, oN, oI, oL] using ex, by simp [oAddRow, oN, oI, oL, ea]⟩
        · obtain ⟨a', ha, e1, e2⟩ := h.ra (oAt1 b) hy' j (by omega)
          exact ⟨a', by simpa [oAddRow, oN, oI, oL] using ha, by simpa [oAddRow, oN, oI, oL, ej] using e1, by simpa [oAddRow, oN, oI, oL, ej] using e2⟩
      · have hj' : j < σ.2.2 4 y 0 := by simpa [oAddRow, oN, oI, oL, e] using hj
        obtain ⟨a', ha, e1, e2⟩ := h.ra y hy' j hj'
        exact ⟨a', by simpa [oAddRow, oN, oI, oL] using ha, by simpa [oAddRow, oN, oI, oL, e] using e1, by simpa [oAddRow, oN, oI, oL, e] using e2⟩
    · by_cases e : y = oAt1 b ∧ j = σ.2.2 4 (oAt1 b) 0
      · simp [oAddRow, oN, oI, oL, e]
      · simpa [oAddRow, oN, oI, oL, e] using h.br y j
theorem i_breaks {b r on : Int32} (h : oInv n σ) (hb : on = 0 ∨ on = 1) : oInv (n + 1) (opBreaks σ b r on).2.2 := by
  unfold opBreaks
  split
  · exact h.up
  split
  · exact h.up
  split
  · exact h.up
  · refine ⟨h.up.no, h.up.nv, h.up.ra, h.up.ow, h.up.op, h.up.st, h.up.rv, h.up.hd, fun y j => ?_, h.up.nw, h.up.cr⟩
    by_cases e : y = oAt1 b ∧ j = oAt r
    · simpa [oI, e] using hb
    · simpa [oI, e] using h.br y j
theorem i_post {b : Int32} (h : oInv n σ) : oInv (n + 1) (opPost σ b).2.2 := by
  have key : ∀ i v, oInv (n + 1) (oI σ 6 i 0 v) := fun i v => ⟨h.up.no, h.up.nv, h.up.ra, h.up.ow, h.up.op, h.up.st, h.up.rv, h.up.hd, h.up.br, h.up.nw, h.up.cr⟩
  unfold opPost
  split
  · exact h.up
  split
  · exact h.up
  split
  · exact h.up
  split
  · exact h.up
  · unfold oPostA
    split
    · exact key _ _
    · split
      · exact key _ _
      · exact key _ _
theorem i_reverse {b : Int32} (h : oInv n σ) (hB : oB σ) : oInv (n + 1) (opReverse σ b).2.2 := by
  unfold opReverse
  have hb := hB.2.2.1
  split
  · exact h.up
  rename_i c1
  split
  · exact h.up
  split
  · exact h.up
  split
  · exact h.up
  split
  · exact h.up
  rename_i c5
  obtain ⟨i, hi, ei⟩ := m_idx1 (by omega) c1
  have e1 := (oNo1_f hi (by omega) ei).2
  rw [e1]
  have hB0 : ¬ 0 = σ.2.2 2 0 0 := by omega
  have hiB : ¬ i = σ.2.2 2 0 0 := by omega
  refine ⟨?_, ?_, ?_, ?_, ?_, ?_, ?_, ?_, ?_, ?_, ?_⟩
  · intro x hx
    have := h.no x (by simpa [oRev] using hx)
    simpa [oRev] using this
  · intro x hx
    have := h.nv x (by simpa [oRev] using hx)
    simpa [oRev] using this
  · intro y hy j hj
    have hy' : y < σ.2.2 2 0 0 + 1 := by simpa [oRev] using hy
    by_cases e : y = σ.2.2 2 0 0
    · subst e
      have hj' : j < σ.2.2 4 i 0 := by simpa [oRev] using hj
      obtain ⟨a, ha, e1, e2⟩ := h.ra i hi j hj'
      exact ⟨a, by simpa [oRev] using ha, by simpa [oRev, hj'] using e1, by simpa [oRev, hj'] using e2⟩
    · have hj' : j < σ.2.2 4 y 0 := by simpa [oRev, e] using hj
      obtain ⟨a, ha, e1, e2⟩ := h.ra y (by omega) j hj'
      exact ⟨a, by simpa [oRev] using ha, by simpa [oRev, e] using e1, by simpa [oRev, e] using e2⟩
  · intro x hx
    obtain ⟨k, hk, e⟩ := h.ow x (by simpa [oRev] using hx)
    exact ⟨k, by simpa [oRev] using hk, by simpa [oRev] using e⟩
  · intro x hx
    have := h.op x (by simpa [oRev] using hx)
    simpa [oRev] using this
  · intro x
    simpa [oRev] using h.st x
  · intro x
    by_cases e : x = σ.2.2 2 0 0
    · subst e
      have : (0 : Int32) ≤ b := by rw [ei]; exact nI_pos' (by omega)
      simpa [oRev] using this
    · by_cases e' : x = i
      · subst e'
        have : (0 : Int32) ≤ nI (σ.2.2 2 0 0 + 1) := nI_pos' (by omega)
        simpa [oRev, e, this] using (h.rv x).2
      · simpa [oRev, e, e'] using h.rv x
  · intro x
    simpa [oRev] using h.hd x
  · intro x j
    by_cases e : x = σ.2.2 2 0 0
    · subst e
      by_cases ej : j < σ.2.2 4 i 0
      · simp [oRev, ej]
      · simpa [oRev, ej] using h.br (σ.2.2 2 0 0) j
    · simpa [oRev, e] using h.br x j
  · simpa [oRev, hB0] using h.nw
  · intro x
    have := h.up.cr x
    simpa [oRev] using this
theorem i_invoice {o d : Int32} {w : Int64} (h : oInv n σ) (hB : oB σ) : oInv (n + 1) (opInvoice σ o w d).2.2 := by
  unfold opInvoice
  have hb := hB.1
  have hb3 := hB.2.2.2.1
  split
  · exact h.up
  rename_i c1
  split
  · exact h.up
  rename_i c2
  split
  · exact h.up
  rename_i c3
  split
  · exact h.up
  split
  · exact h.up
  obtain ⟨x, hx, ex⟩ := m_idx (by omega) c1
  have eo := (oNo_f hx (by omega) ex).2
  obtain ⟨w1, w2⟩ := oT_rng c2
  obtain ⟨k1, k2⟩ := h.cr x
  obtain ⟨⟨t1, t2⟩, t3, t4⟩ := oTk_b k1 w1
  refine ⟨fun i hi => ?_, fun i hi => ?_, h.up.ra, fun i hi => ?_, fun i hi => ?_, h.up.st, h.up.rv, h.up.hd, h.up.br, h.up.nw, fun i => ?_⟩
  · have hi' : σ.2.2 0 0 0 ≤ i := by simpa [oNewI, oN, oI, oL] using hi
    have : ¬ i = x := by omega
    simpa [oNewI, oN, oI, oL, eo, this] using h.no i hi'
  · have hi' : σ.2.2 3 0 0 + 1 ≤ i := by simpa [oNewI, oN, oI, oL] using hi
    exact h.nv i (by omega)
  · have hi' : i < σ.2.2 3 0 0 + 1 := by simpa [oNewI, oN, oI, oL] using hi
    by_cases e : i = σ.2.2 3 0 0
    · subst e
      exact ⟨x, by simpa [oNewI, oN, oI, oL] using hx, by simpa [oNewI, oN, oI, oL] using ex⟩
    · obtain ⟨k, hk, e2⟩ := h.ow i (by omega)
      exact ⟨k, by simpa [oNewI, oN, oI, oL] using hk, by simpa [oNewI, oN, oI, oL, e] using e2⟩
  · have hi' : i < σ.2.2 3 0 0 + 1 := by simpa [oNewI, oN, oI, oL] using hi
    by_cases e : i = σ.2.2 3 0 0
    · subst e
      have d1 := Int32.not_lt.mp (fun z => c3 (Or.inl z))
      have d2 := Int32.not_lt.mp (fun z => c3 (Or.inr z))
      have r := oT_le.mpr ⟨t1, Int.le_trans t2 w2⟩
      have e9 : (oNewI σ o w d).2.1 2 (σ.2.2 3 0 0) 0 = w - oTk (σ.2.1 0 x 0) w := by simp [oNewI, oN, oI, oL, eo]
      have e13 : (oNewI σ o w d).1 13 (σ.2.2 3 0 0) 0 = d := by simp [oNewI, oN, oI, oL]
      show 0 ≤ (oNewI σ o w d).2.1 2 (σ.2.2 3 0 0) 0 ∧ (oNewI σ o w d).2.1 2 (σ.2.2 3 0 0) 0 ≤ 1000000000 ∧ 0 ≤ (oNewI σ o w d).1 13 (σ.2.2 3 0 0) 0 ∧ (oNewI σ o w d).1 13 (σ.2.2 3 0 0) 0 ≤ 120
      rw [e9, e13]
      exact ⟨r.1, r.2, d1, d2⟩
    · simpa [oNewI, oN, oI, oL, e] using h.op i (by omega)
  · show 0 ≤ ((oNewI σ o w d).2.1 0 i 0).toInt ∧ ((oNewI σ o w d).2.1 0 i 0).toInt ≤ ((n + 1 : Nat) : Int) * 1000000000
    by_cases e : i = x
    · subst e
      have e9 : (oNewI σ o w d).2.1 0 i 0 = σ.2.1 0 i 0 - oTk (σ.2.1 0 i 0) w := by simp [oNewI, oN, oI, oL, eo]
      rw [e9]
      exact ⟨t3, by omega⟩
    · have e9 : (oNewI σ o w d).2.1 0 i 0 = σ.2.1 0 i 0 := by simp [oNewI, oN, oI, oL, eo, e]
      rw [e9]
      exact h.up.cr i
theorem i_take {q : Nat} {c : Int64} (h : oInv n σ) (hc : 0 ≤ c.toInt) (hq : q < σ.2.2 3 0 0) : oInv n (oL σ 2 q 0 (σ.2.1 2 q 0 - oTk c (σ.2.1 2 q 0))) := by
  refine ⟨h.no, h.nv, h.ra, h.ow, fun i hi => ?_, h.st, h.rv, h.hd, h.br, h.nw, h.cr⟩
  obtain ⟨o1, o2, o3, o4⟩ := h.op i hi
  by_cases e : i = q
  · subst e
    obtain ⟨v1, v2⟩ := oT_le.mp ⟨o1, o2⟩
    obtain ⟨⟨t1, t2⟩, _⟩ := oTk_b hc v1
    obtain ⟨r1, r2⟩ := oT_le.mpr ⟨t1, Int.le_trans t2 v2⟩
    have e9 : (oL σ 2 i 0 (σ.2.1 2 i 0 - oTk c (σ.2.1 2 i 0))).2.1 2 i 0 = σ.2.1 2 i 0 - oTk c (σ.2.1 2 i 0) := by simp [oL]
    rw [e9]
    exact ⟨r1, r2, o3, o4⟩
  · have e9 : (oL σ 2 q 0 (σ.2.1 2 q 0 - oTk c (σ.2.1 2 q 0))).2.1 2 i 0 = σ.2.1 2 i 0 := by simp [oL, e]
    rw [e9]
    exact ⟨o1, o2, o3, o4⟩
theorem i_cred {x : Nat} {c : Int64} (h : oInv n σ) (hn : n ≤ 1000) (hx : x < σ.2.2 0 0 0) (hc : 0 ≤ c.toInt) (hc2 : c.toInt ≤ 1000000000) : oInv (n + 1) (oL σ 0 x 0 (σ.2.1 0 x 0 + c)) := by
  obtain ⟨k1, k2⟩ := h.cr x
  have ea := oT_add k1 hc (by omega)
  refine ⟨fun i hi => ?_, h.up.nv, h.up.ra, h.up.ow, h.up.op, h.up.st, h.up.rv, h.up.hd, h.up.br, h.up.nw, fun i => ?_⟩
  · have hi' : σ.2.2 0 0 0 ≤ i := hi
    have : ¬ i = x := by omega
    have e9 : (oL σ 0 x 0 (σ.2.1 0 x 0 + c)).2.1 0 i 0 = σ.2.1 0 i 0 := by simp [oL, this]
    rw [e9]
    exact h.no i hi'
  · by_cases e : i = x
    · subst e
      have e9 : (oL σ 0 i 0 (σ.2.1 0 i 0 + c)).2.1 0 i 0 = σ.2.1 0 i 0 + c := by simp [oL]
      rw [e9, ea]
      omega
    · have e9 : (oL σ 0 x 0 (σ.2.1 0 x 0 + c)).2.1 0 i 0 = σ.2.1 0 i 0 := by simp [oL, e]
      rw [e9]
      exact h.up.cr i
theorem i_payL {o : Int32} : ∀ (K : Nat) (σ : oS) (w : Int64) (c : Int32), oInv n σ → 0 ≤ w.toInt → w.toInt ≤ 1000000000 → oInv n (oPayL o K σ w c).1 ∧ (oPayL o K σ w c).1.2.2 = σ.2.2 ∧ 0 ≤ (oPayL o K σ w c).2.1.toInt ∧ (oPayL o K σ w c).2.1.toInt ≤ 1000000000
  | 0, σ, w, c, h, h0, h1 => ⟨h, rfl, h0, h1⟩
  | K + 1, σ, w, c, h, h0, h1 => by
    simp only [oPayL]
    split
    · exact ⟨h, rfl, h0, h1⟩
    · split
      · exact ⟨h, rfl, h0, h1⟩
      · rename_i q hq
        have hP := oNext_P (σ := σ) (o := o) (σ.2.2 3 0 0) 0 none (σ.2.2 3 0 0) (by omega) (fun q z => (by cases z)) q hq
        obtain ⟨o1, o2, _, _⟩ := h.op q hP.1
        obtain ⟨v1, v2⟩ := oT_le.mp ⟨o1, o2⟩
        obtain ⟨_, t3, t4⟩ := oTk_b h0 v1
        exact i_payL K _ _ _ (i_take h h0 hP.1) t3 (by omega)
theorem i_pay {o : Int32} {w : Int64} (h : oInv n σ) (hB : oB σ) (hn : n ≤ 1000) : oInv (n + 1) (opPay σ o w).2.2 := by
  unfold opPay
  have hb := hB.1
  split
  · exact h.up
  rename_i c1
  split
  · exact h.up
  rename_i c2
  obtain ⟨x, hx, ex⟩ := m_idx (by omega) c1
  have eo := (oNo_f hx (by omega) ex).2
  obtain ⟨w1, w2⟩ := oT_rng c2
  obtain ⟨p1, p2, p3, p4⟩ := i_payL (n := n) (o := o) 20 σ w 0 h w1 w2
  rw [eo]
  exact i_cred p1 hn (by rw [p2]; exact hx) p3 p4
theorem i_settle {i : Int32} {w : Int64} (h : oInv n σ) (hB : oB σ) (hn : n ≤ 1000) : oInv (n + 1) (opSettle σ i w).2.2 := by
  unfold opSettle
  have hb := hB.2.2.2.1
  have hb0 := hB.1
  split
  · exact h.up
  rename_i c1
  split
  · exact h.up
  rename_i c2
  obtain ⟨x, hx, ex⟩ := m_idx1 (by omega) c1
  have eo := (oNo1_f hx (by omega) ex).2
  obtain ⟨w1, w2⟩ := oT_rng c2
  obtain ⟨k, hk, ek⟩ := h.ow x hx
  have ea : oAt (σ.1 12 x 0) = k := by rw [ek]; exact nI_clamp (by omega)
  obtain ⟨o1, o2, _, _⟩ := h.op x hx
  obtain ⟨v1, v2⟩ := oT_le.mp ⟨o1, o2⟩
  obtain ⟨_, t3, t4⟩ := oTk_b w1 v1
  rw [eo, ea]
  have := i_cred (x := k) (c := w - oTk w (σ.2.1 2 x 0)) (i_take (q := x) h w1 hx) hn hk t3 (by omega)
  have e9 : (oL σ 2 x 0 (σ.2.1 2 x 0 - oTk w (σ.2.1 2 x 0))).2.1 0 k 0 = σ.2.1 0 k 0 := by simp [oL]
  rw [e9] at this
  exact this
theorem i_dispute {i on : Int32} (h : oInv n σ) (hB : oB σ) (hb : on = 0 ∨ on = 1) : oInv (n + 1) (opDispute σ i on).2.2 := by
  unfold opDispute
  have hb3 := hB.2.2.2.1
  split
  · exact h.up
  rename_i c1
  split
  · exact h.up
  obtain ⟨x, hx, ex⟩ := m_idx1 (by omega) c1
  have eo := (oNo1_f hx (by omega) ex).2
  rw [eo]
  refine ⟨h.up.no, fun y hy => ?_, h.up.ra, h.up.ow, h.up.op, h.up.st, h.up.rv, fun y => ?_, h.up.br, h.up.nw, h.up.cr⟩
  · have hy' : σ.2.2 3 0 0 ≤ y := hy
    have : ¬ y = x := by omega
    simpa [oI, this] using h.nv y hy'
  · refine ⟨(h.hd y).1, ?_⟩
    by_cases e : y = x
    · simpa [oI, e] using hb
    · simpa [oI, e] using (h.hd y).2
theorem i_dun {i : Int32} (h : oInv n σ) (hB : oB σ) : oInv (n + 1) (opDun σ i).2.2 := by
  unfold opDun
  have hb3 := hB.2.2.2.1
  have hb0 := hB.1
  split
  · exact h.up
  rename_i c1
  split
  · exact h.up
  split
  · exact h.up
  rename_i c3
  obtain ⟨x, hx, ex⟩ := m_idx1 (by omega) c1
  have eo := (oNo1_f hx (by omega) ex).2
  rw [eo] at c3 ⊢
  have hst : 0 ≤ σ.1 14 x 0 + 1 ∧ σ.1 14 x 0 + 1 ≤ 3 := by
    have hlt : σ.1 14 x 0 < 3 := Decidable.not_not.mp c3
    obtain ⟨j, hj, ej⟩ := nI_of2 (x := σ.1 14 x 0) (M := 3) (n := 3) (by decide) (Int32.not_lt.mpr (h.st x).1) (h.st x).2
    rw [ej] at hlt ⊢
    have := (nI_ltI (b := 3) (by omega) (by decide)).mp hlt
    rw [nI_1]
    exact ⟨nI_pos' (by omega), nI_le (b := 3) (by omega) (by decide)⟩
  obtain ⟨k, hk, ek⟩ := h.ow x hx
  have ea : oAt (σ.1 12 x 0) = k := by rw [ek]; exact nI_clamp (by omega)
  have h1 : oInv (n + 1) (oI σ 14 x 0 (σ.1 14 x 0 + 1)) := by
    refine ⟨h.up.no, fun y hy => ?_, h.up.ra, h.up.ow, h.up.op, fun y => ?_, h.up.rv, h.up.hd, h.up.br, h.up.nw, h.up.cr⟩
    · have hy' : σ.2.2 3 0 0 ≤ y := hy
      have : ¬ y = x := by omega
      simpa [oI, this] using h.nv y hy'
    · by_cases e : y = x
      · simpa [oI, e] using hst
      · simpa [oI, e] using h.st y
  show oInv (n + 1) (if σ.1 14 x 0 + 1 = 3 then _ else _)
  split
  · rw [ea]
    refine ⟨fun y hy => ?_, h1.nv, h1.ra, h1.ow, h1.op, h1.st, h1.rv, fun y => ?_, h1.br, h1.nw, h1.cr⟩
    · have hy' : σ.2.2 0 0 0 ≤ y := hy
      have : ¬ y = k := by omega
      simpa [oI, this] using h1.no y hy'
    · refine ⟨?_, (h1.hd y).2⟩
      by_cases e : y = k
      · simp [oI, e]
      · simpa [oI, e] using (h1.hd y).1
  · exact h1
theorem i_rate {p : Int32} (h : oInv n σ) : oInv (n + 1) (opRate σ p).2.2 := by
  unfold opRate
  split
  · exact h.up
  rename_i c
  exact ⟨h.up.no, h.up.nv, h.up.ra, h.up.ow, h.up.op, h.up.st, h.up.rv, h.up.hd, h.up.br, ⟨h.nw.1, Int32.not_lt.mp (fun z => c (Or.inl z)), Int32.not_lt.mp (fun z => c (Or.inr z))⟩, h.up.cr⟩
theorem i_hold {o on : Int32} (h : oInv n σ) (hB : oB σ) (hb : on = 0 ∨ on = 1) : oInv (n + 1) (opHold σ o on).2.2 := by
  unfold opHold
  have hb0 := hB.1
  split
  · exact h.up
  rename_i c1
  split
  · exact h.up
  obtain ⟨x, hx, ex⟩ := m_idx (by omega) c1
  have eo := (oNo_f hx (by omega) ex).2
  rw [eo]
  refine ⟨fun y hy => ?_, h.up.nv, h.up.ra, h.up.ow, h.up.op, h.up.st, h.up.rv, fun y => ?_, h.up.br, h.up.nw, h.up.cr⟩
  · have hy' : σ.2.2 0 0 0 ≤ y := hy
    have : ¬ y = x := by omega
    simpa [oI, this] using h.no y hy'
  · refine ⟨?_, (h.hd y).2⟩
    by_cases e : y = x
    · simpa [oI, e] using hb
    · simpa [oI, e] using (h.hd y).1
theorem i_balance {a m : Int32} (h : oInv n σ) : oInv (n + 1) (opBalance σ a m).2.2 := by
  unfold opBalance
  repeat (split; · exact h.up)
  exact h.up
theorem i_all {c : Int32} (h : oInv n σ) : oInv (n + 1) (opAll σ c).2.2 := by
  unfold opAll
  repeat (split; · exact h.up)
  exact h.up
theorem i_interest {i s : Int32} (h : oInv n σ) : oInv (n + 1) (opInterest σ i s).2.2 := by
  unfold opInterest
  split
  · exact h.up
  split
  · exact h.up
  · exact h.up
theorem i_told {b w : Int32} (h : oInv n σ) : oInv (n + 1) (opTold σ b w).2.2 := by
  unfold opTold
  split
  · exact h.up
  split
  · exact h.up
  · exact h.up
theorem i_known {b w : Int32} (h : oInv n σ) : oInv (n + 1) (opKnown σ b w).2.2 := by
  unfold opKnown
  split
  · exact h.up
  split
  · exact h.up
  · exact h.up
theorem i_credit {o : Int32} (h : oInv n σ) : oInv (n + 1) (opCredit σ o).2.2 := by
  unfold opCredit
  split
  · exact h.up
  · exact h.up
end I36
