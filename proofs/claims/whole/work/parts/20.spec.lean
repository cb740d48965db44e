/-! The state of a ledger: ints, longs, counts, each by (what, which, which row).
ints: 0 month, 1 closed, 2 rate; 3 held (of owner i); 4 currency (of account i); 5 month, 6 state, 7 reversed by, 8 reversal of (of batch i); 9 account, 10 currency, 11 breaking (of row j of batch i); 12 owner, 13 due, 14 stage, 15 disputed (of invoice i)
longs: 0 credit (of owner i); 1 cents (of row j of batch i); 2 what is not paid (of invoice i); 9 the law's own cell
counts: 0 owners, 1 accounts, 2 batches, 3 invoices; 4 rows of batch i -/
abbrev oS : Type := (Nat → Nat → Nat → Int32) × (Nat → Nat → Nat → Int64) × (Nat → Nat → Nat → Nat)
def oI (σ : oS) (k i j : Nat) (v : Int32) : oS := (fun a b c => if a = k ∧ b = i ∧ c = j then v else σ.1 a b c, σ.2.1, σ.2.2)
def oL (σ : oS) (k i j : Nat) (v : Int64) : oS := (σ.1, fun a b c => if a = k ∧ b = i ∧ c = j then v else σ.2.1 a b c, σ.2.2)
def oN (σ : oS) (k i j : Nat) (v : Nat) : oS := (σ.1, σ.2.1, fun a b c => if a = k ∧ b = i ∧ c = j then v else σ.2.2 a b c)
/-- the cells of the class: 0 the ledger, 1 .. 4 its arrays, 5 owners, 6 batches, 7 their arrays of rows, 8 rows, 9 invoices, 10 the law's own cell -/
def oV (σ : oS) (k i j : Nat) : Prop := match k with
  | 5 => i < σ.2.2 0 0 0 ∧ j = 0
  | 6 => i < σ.2.2 2 0 0 ∧ j = 0
  | 7 => i < σ.2.2 2 0 0 ∧ j = 0
  | 8 => i < σ.2.2 2 0 0 ∧ j < σ.2.2 4 i 0
  | 9 => i < σ.2.2 3 0 0 ∧ j = 0
  | k => k ≤ 10 ∧ i = 0 ∧ j = 0
def oCell (σ : oS) (ad : Nat → Nat → Nat → Nat) (k i j : Nat) : gh_E := match k with
  | 0 => .inr (4, [.ref (ad 1 0 0), .ref (ad 2 0 0), .ref (ad 3 0 0), .ref (ad 4 0 0), .int (nI (σ.2.2 0 0 0)), .int (nI (σ.2.2 1 0 0)), .int (nI (σ.2.2 2 0 0)), .int (nI (σ.2.2 3 0 0)), .int (σ.1 0 0 0), .int (σ.1 1 0 0), .int (σ.1 2 0 0)])
  | 1 => .inl (3, 6, .inr (.inr (.inr (.inr (fun n => if n < σ.2.2 0 0 0 then some (ad 5 n 0) else none)))))
  | 2 => .inl (0, 20, .inl (fun n => if n < σ.2.2 1 0 0 then σ.1 4 n 0 else 0))
  | 3 => .inl (4, 30, .inr (.inr (.inr (.inr (fun n => if n < σ.2.2 2 0 0 then some (ad 6 n 0) else none)))))
  | 4 => .inl (5, 20, .inr (.inr (.inr (.inr (fun n => if n < σ.2.2 3 0 0 then some (ad 9 n 0) else none)))))
  | 5 => .inr (2, [.long (σ.2.1 0 i 0), .int (σ.1 3 i 0)])
  | 6 => .inr (0, [.int (σ.1 5 i 0), .ref (ad 7 i 0), .int (nI (σ.2.2 4 i 0)), .int (σ.1 6 i 0), .int (σ.1 7 i 0), .int (σ.1 8 i 0)])
  | 7 => .inl (6, 8, .inr (.inr (.inr (.inr (fun n => if n < σ.2.2 4 i 0 then some (ad 8 i n) else none)))))
  | 8 => .inr (3, [.int (σ.1 9 i j), .int (σ.1 10 i j), .long (σ.2.1 1 i j), .int (σ.1 11 i j)])
  | 9 => .inr (1, [.int (σ.1 12 i 0), .int (σ.1 13 i 0), .long (σ.2.1 2 i 0), .int (σ.1 14 i 0), .int (σ.1 15 i 0)])
  | _ => .inl (1, 1, .inr (.inl (fun n => if n = 0 then σ.2.1 9 0 0 else 0)))
/-- the bounds of the counts -/
def oB (σ : oS) : Prop := σ.2.2 0 0 0 ≤ 6 ∧ σ.2.2 1 0 0 ≤ 20 ∧ σ.2.2 2 0 0 ≤ 30 ∧ σ.2.2 3 0 0 ≤ 20 ∧ ∀ i, σ.2.2 4 i 0 ≤ 8
def oR (σ : oS) (ad : Nat → Nat → Nat → Nat) (G : gh_H) : Prop := oB σ ∧ (∀ k i j, oV σ k i j → G (ad k i j) = some (oCell σ ad k i j)) ∧ ∀ k i j k' i' j', oV σ k i j → oV σ k' i' j' → ad k i j = ad k' i' j' → k = k' ∧ i = i' ∧ j = j'
section OR
variable {σ σ' : oS} {ad : Nat → Nat → Nat → Nat} {G G1 : gh_H}
/-- one cell is written: the others say the same of the new state -/
theorem oR.put (h : oR σ ad G) {k0 i0 j0 : Nat} (hv : oV σ k0 i0 j0) {x : gh_E} (hG : G1 = gh_up G (ad k0 i0 j0) x) (hx : x = oCell σ' ad k0 i0 j0) (hB : oB σ')
    (hV : ∀ k i j, oV σ' k i j → oV σ k i j) (hC : ∀ k i j, oV σ k i j → ¬ (k = k0 ∧ i = i0 ∧ j = j0) → oCell σ' ad k i j = oCell σ ad k i j) : oR σ' ad G1 := by
  obtain ⟨-, hc, hi⟩ := h
  refine ⟨hB, fun k i j hk => ?_, fun k i j k' i' j' a b => hi k i j k' i' j' (hV _ _ _ a) (hV _ _ _ b)⟩
  rw [hG]
  by_cases e : k = k0 ∧ i = i0 ∧ j = j0
  · obtain ⟨rfl, rfl, rfl⟩ := e
    rw [gh_up_s, hx]
  · rw [gh_up_n (fun z => e (hi _ _ _ _ _ _ (hV _ _ _ hk) hv z)), hc _ _ _ (hV _ _ _ hk), hC _ _ _ (hV _ _ _ hk) e]
/-- a cell that is none of the ledger's is written -/
theorem oR.other (h : oR σ ad G) {q : Nat} (hq : ∀ k i j, oV σ k i j → ad k i j ≠ q) {x : gh_E} (hG : G1 = gh_up G q x) : oR σ ad G1 := by
  obtain ⟨hB, hc, hi⟩ := h
  refine ⟨hB, fun k i j hk => ?_, hi⟩
  rw [hG, gh_up_n (hq k i j hk)]
  exact hc k i j hk
theorem oR.fresh (h : oR σ ad G) {q : Nat} (hq : G q = none) : ∀ k i j, oV σ k i j → ad k i j ≠ q := by
  intro k i j hk e
  have := h.2.1 k i j hk
  rw [e, hq] at this
  cases this
theorem oR.led (h : oR σ ad G) : G (ad 0 0 0) = some (.inr (4, [.ref (ad 1 0 0), .ref (ad 2 0 0), .ref (ad 3 0 0), .ref (ad 4 0 0), .int (nI (σ.2.2 0 0 0)), .int (nI (σ.2.2 1 0 0)), .int (nI (σ.2.2 2 0 0)), .int (nI (σ.2.2 3 0 0)), .int (σ.1 0 0 0), .int (σ.1 1 0 0), .int (σ.1 2 0 0)])) := h.2.1 0 0 0 ⟨by decide, rfl, rfl⟩
theorem oR.arO (h : oR σ ad G) : G (ad 1 0 0) = some (.inl (3, 6, .inr (.inr (.inr (.inr (fun n => if n < σ.2.2 0 0 0 then some (ad 5 n 0) else none)))))) := h.2.1 1 0 0 ⟨by decide, rfl, rfl⟩
theorem oR.arC (h : oR σ ad G) : G (ad 2 0 0) = some (.inl (0, 20, .inl (fun n => if n < σ.2.2 1 0 0 then σ.1 4 n 0 else 0))) := h.2.1 2 0 0 ⟨by decide, rfl, rfl⟩
theorem oR.arB (h : oR σ ad G) : G (ad 3 0 0) = some (.inl (4, 30, .inr (.inr (.inr (.inr (fun n => if n < σ.2.2 2 0 0 then some (ad 6 n 0) else none)))))) := h.2.1 3 0 0 ⟨by decide, rfl, rfl⟩
theorem oR.arV (h : oR σ ad G) : G (ad 4 0 0) = some (.inl (5, 20, .inr (.inr (.inr (.inr (fun n => if n < σ.2.2 3 0 0 then some (ad 9 n 0) else none)))))) := h.2.1 4 0 0 ⟨by decide, rfl, rfl⟩
theorem oR.own (h : oR σ ad G) {i : Nat} (hi : i < σ.2.2 0 0 0) : G (ad 5 i 0) = some (.inr (2, [.long (σ.2.1 0 i 0), .int (σ.1 3 i 0)])) := h.2.1 5 i 0 ⟨hi, rfl⟩
theorem oR.bat (h : oR σ ad G) {i : Nat} (hi : i < σ.2.2 2 0 0) : G (ad 6 i 0) = some (.inr (0, [.int (σ.1 5 i 0), .ref (ad 7 i 0), .int (nI (σ.2.2 4 i 0)), .int (σ.1 6 i 0), .int (σ.1 7 i 0), .int (σ.1 8 i 0)])) := h.2.1 6 i 0 ⟨hi, rfl⟩
theorem oR.arR (h : oR σ ad G) {i : Nat} (hi : i < σ.2.2 2 0 0) : G (ad 7 i 0) = some (.inl (6, 8, .inr (.inr (.inr (.inr (fun n => if n < σ.2.2 4 i 0 then some (ad 8 i n) else none)))))) := h.2.1 7 i 0 ⟨hi, rfl⟩
theorem oR.row (h : oR σ ad G) {i j : Nat} (hi : i < σ.2.2 2 0 0) (hj : j < σ.2.2 4 i 0) : G (ad 8 i j) = some (.inr (3, [.int (σ.1 9 i j), .int (σ.1 10 i j), .long (σ.2.1 1 i j), .int (σ.1 11 i j)])) := h.2.1 8 i j ⟨hi, hj⟩
theorem oR.inv (h : oR σ ad G) {i : Nat} (hi : i < σ.2.2 3 0 0) : G (ad 9 i 0) = some (.inr (1, [.int (σ.1 12 i 0), .int (σ.1 13 i 0), .long (σ.2.1 2 i 0), .int (σ.1 14 i 0), .int (σ.1 15 i 0)])) := h.2.1 9 i 0 ⟨hi, rfl⟩
theorem oR.lcl (h : oR σ ad G) : G (ad 10 0 0) = some (.inl (1, 1, .inr (.inl (fun n => if n = 0 then σ.2.1 9 0 0 else 0)))) := h.2.1 10 0 0 ⟨by decide, rfl, rfl⟩
end OR
/-! small numbers -/
theorem oX_tri (a b : Int64) : (b < a ∧ lg_cmp a b = 1) ∨ (a = b ∧ lg_cmp a b = 0) ∨ (a < b ∧ lg_cmp a b = -1) := by
  unfold lg_cmp
  by_cases h : a > b
  · exact Or.inl ⟨h, by rw [if_pos h]⟩
  · by_cases e : a = b
    · exact Or.inr (Or.inl ⟨e, by rw [if_neg h, if_pos e]⟩)
    · refine Or.inr (Or.inr ⟨?_, by rw [if_neg h, if_neg e]⟩)
      have h2 : ¬ b < a := h
      rw [Int64.lt_iff_toInt_lt] at h2 ⊢
      have h3 : a.toInt ≠ b.toInt := fun z => e (Int64.toInt_inj.mp z)
      omega
theorem oX_lt {a b : Int64} : lg_cmp a b < 0 ↔ a < b := by
  rcases oX_tri a b with ⟨h, e⟩ | ⟨h, e⟩ | ⟨h, e⟩ <;> rw [e]
  · refine ⟨fun z => absurd z (by decide), fun z => ?_⟩
    rw [Int64.lt_iff_toInt_lt] at h z
    omega
  · subst h
    refine ⟨fun z => absurd z (by decide), fun z => ?_⟩
    rw [Int64.lt_iff_toInt_lt] at z
    omega
  · exact ⟨fun _ => h, fun _ => by decide⟩
theorem oX_le {a b : Int64} : lg_cmp a b ≤ 0 ↔ a ≤ b := by
  rcases oX_tri a b with ⟨h, e⟩ | ⟨h, e⟩ | ⟨h, e⟩ <;> rw [e]
  · refine ⟨fun z => absurd z (by decide), fun z => ?_⟩
    rw [Int64.lt_iff_toInt_lt] at h
    rw [Int64.le_iff_toInt_le] at z
    omega
  · subst h
    exact ⟨fun _ => by rw [Int64.le_iff_toInt_le]; omega, fun _ => by decide⟩
  · refine ⟨fun _ => ?_, fun _ => by decide⟩
    rw [Int64.lt_iff_toInt_lt] at h
    rw [Int64.le_iff_toInt_le]
    omega
theorem oX_eq {a b : Int64} : lg_cmp a b = 0 ↔ a = b := by
  rcases oX_tri a b with ⟨h, e⟩ | ⟨h, e⟩ | ⟨h, e⟩ <;> rw [e]
  · refine ⟨fun z => absurd z (by decide), fun z => ?_⟩
    subst z
    rw [Int64.lt_iff_toInt_lt] at h
    omega
  · exact ⟨fun _ => h, fun _ => rfl⟩
  · refine ⟨fun z => absurd z (by decide), fun z => ?_⟩
    subst z
    rw [Int64.lt_iff_toInt_lt] at h
    omega
theorem oX_i2l_lt {a b : Int32} : a.toInt64 < b.toInt64 ↔ a < b := by
  rw [Int64.lt_iff_toInt_lt, Int32.lt_iff_toInt_lt, Int32.toInt_toInt64, Int32.toInt_toInt64]
theorem oX_i2l_le {a b : Int32} : a.toInt64 ≤ b.toInt64 ↔ a ≤ b := by
  rw [Int64.le_iff_toInt_le, Int32.le_iff_toInt_le, Int32.toInt_toInt64, Int32.toInt_toInt64]
