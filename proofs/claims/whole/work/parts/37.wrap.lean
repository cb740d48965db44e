/-! The law's own methods: what they answer, and what they leave in the law's cell. -/
def o64 (r : oA) : oA64 := (r.1, r.2.1.toInt64, r.2.2)
def oW (r : oA64) : oS := if r.1 = 0 then oL r.2.2 9 0 0 r.2.1 else r.2.2
def lK (r : oA64) (ad : Nat → Nat → Nat → Nat) (post : Int32 → gh_H → Prop) : Prop := ∀ (ad' : Nat → Nat → Nat → Nat) (G' : gh_H), ad' 0 0 0 = ad 0 0 0 → ad' 10 0 0 = ad 10 0 0 → oR (oW r) ad' G' → post (nI r.1) G'
def lV (r : oA) (ad : Nat → Nat → Nat → Nat) (post : Int32 → gh_H → Prop) : Prop := ∀ (ad' : Nat → Nat → Nat → Nat) (G' : gh_H), ad' 0 0 0 = ad 0 0 0 → ad' 10 0 0 = ad 10 0 0 → oR r.2.2 ad' G' → post (nI r.1) G'
theorem lK.ok {r : oA64} {ad ad' : Nat → Nat → Nat → Nat} {post : Int32 → gh_H → Prop} {G' : gh_H} (hp : lK r ad post) (e : r.1 = 0) (h0 : ad' 0 0 0 = ad 0 0 0) (h10 : ad' 10 0 0 = ad 10 0 0) (h : oR r.2.2 ad' G') :
    ∃ (n8 : Nat) (f9 : Nat → Int64), G' (ad 10 0 0) = some (.inl (1, n8, .inr (.inl f9))) ∧ vp_in 0 n8 ∧ (∀ G13 : gh_H, G13 = gh_up G' (ad 10 0 0) (.inl (1, n8, .inr (.inl (vp_updL f9 (Int32.toNatClampNeg 0) r.2.1)))) → post 0 G13) := by
  rw [← h10]
  refine ⟨_, _, h.lcl, vp_in_nI (n := 0) (by decide) (by decide), fun G13 hG => ?_⟩
  have := hp ad' G13 h0 h10 (by unfold oW; rw [if_pos e]; exact p_L9 h hG)
  rw [e] at this
  exact this
theorem lK.no {r : oA64} {ad ad' : Nat → Nat → Nat → Nat} {post : Int32 → gh_H → Prop} {G' : gh_H} (hp : lK r ad post) (e : r.1 ≠ 0) (h0 : ad' 0 0 0 = ad 0 0 0) (h10 : ad' 10 0 0 = ad 10 0 0) (h : oR r.2.2 ad' G') : post (nI r.1) G' :=
  hp ad' G' h0 h10 (by unfold oW; rw [if_neg e]; exact h)
section L37
variable {n0 : Nat} {σ : oS} {ad : Nat → Nat → Nat → Nat} {G : gh_H} {px : String → gh_H → Prop}
theorem b_owner : (opOwner σ).1 ≤ 1 := by
  unfold opOwner
  repeat' split
  all_goals exact Nat.le_of_ble_eq_true rfl
theorem l_owner {post : Int32 → gh_H → Prop} (h : oR σ ad G) (hI : oInv n0 σ) (hp : lK (o64 (opOwner σ)) ad post) : wL_owner post px G (ad 0 0 0) (ad 10 0 0) := by
  unfold wL_owner
  have hb9 := b_owner (σ := σ)
  refine ⟨_, h.led, c_owner h hI (fun ad' G' h0 h10 h' => ⟨fun e => ?_, fun e => ?_⟩)⟩
  · exact lK.ok hp e h0 h10 h'
  · have k := lK.no hp e h0 h10 h'
    have k : post (nI (opOwner σ).1) G' := k
    have e9 : (opOwner σ).1 = 1 := by omega
    rw [e9] at k ⊢
    exact ⟨rfl, k⟩
theorem b_account {p : Int32} {cu : Int32} : (opAccount σ p cu).1 ≤ 3 := by
  unfold opAccount
  repeat' split
  all_goals exact Nat.le_of_ble_eq_true rfl
theorem l_account {post : Int32 → gh_H → Prop} {p : Int32} {cu : Int32} (h : oR σ ad G) (hp : lK (o64 (opAccount σ p cu)) ad post) : wL_account post px G (ad 0 0 0) p cu (ad 10 0 0) := by
  unfold wL_account
  have hb9 := b_account (σ := σ) (p := p) (cu := cu)
  refine ⟨_, h.led, c_account h (fun ad' G' h0 h10 h' => ⟨fun e => ?_, fun e => ?_⟩)⟩
  · exact lK.ok hp e h0 h10 h'
  · have k := lK.no hp e h0 h10 h'
    have k : post (nI (opAccount σ p cu).1) G' := k
    have e9 : (opAccount σ p cu).1 = 1 ∨ (opAccount σ p cu).1 = 2 ∨ (opAccount σ p cu).1 = 3 := by omega
    rcases e9 with e9 | e9 | e9 <;> rw [e9] at k ⊢
    · exact Or.inl ⟨rfl, k⟩
    · exact Or.inr (Or.inl ⟨rfl, k⟩)
    · exact Or.inr (Or.inr (⟨rfl, k⟩))
theorem b_month {m : Int32} : (opMonth σ m).1 ≤ 1 := by
  unfold opMonth
  repeat' split
  all_goals exact Nat.le_of_ble_eq_true rfl
theorem l_month {post : Int32 → gh_H → Prop} {m : Int32} (h : oR σ ad G) (hp : lV (opMonth σ m) ad post) : wL_month post px G (ad 0 0 0) m := by
  unfold wL_month
  have hb9 := b_month (σ := σ) (m := m)
  refine ⟨_, h.led, c_month h (fun ad' G' h0 h10 h' => ⟨fun e => ?_, fun e => ?_⟩)⟩
  · have := hp ad' G' h0 h10 h'
    rw [e] at this
    exact this
  · have k := hp ad' G' h0 h10 h'
    have e9 : (opMonth σ m).1 = 1 := by omega
    rw [e9] at k ⊢
    exact ⟨rfl, k⟩
theorem b_close {m : Int32} : (opClose σ m).1 ≤ 2 := by
  unfold opClose
  repeat' split
  all_goals exact Nat.le_of_ble_eq_true rfl
theorem l_close {post : Int32 → gh_H → Prop} {m : Int32} (h : oR σ ad G) (hp : lK (o64 (opClose σ m)) ad post) : wL_close post px G (ad 0 0 0) m (ad 10 0 0) := by
  unfold wL_close
  have hb9 := b_close (σ := σ) (m := m)
  refine ⟨_, h.led, c_close h (fun ad' G' h0 h10 h' => ⟨fun e => ?_, fun e => ?_⟩)⟩
  · exact lK.ok hp e h0 h10 h'
  · have k := lK.no hp e h0 h10 h'
    have k : post (nI (opClose σ m).1) G' := k
    have e9 : (opClose σ m).1 = 1 ∨ (opClose σ m).1 = 2 := by omega
    rcases e9 with e9 | e9 <;> rw [e9] at k ⊢
    · exact Or.inl ⟨rfl, k⟩
    · exact Or.inr (⟨rfl, k⟩)
theorem b_batch {m : Int32} : (opBatch σ m).1 ≤ 3 := by
  unfold opBatch
  repeat' split
  all_goals exact Nat.le_of_ble_eq_true rfl
theorem l_batch {post : Int32 → gh_H → Prop} {m : Int32} (h : oR σ ad G) (hp : lK (o64 (opBatch σ m)) ad post) : wL_batch post px G (ad 0 0 0) m (ad 10 0 0) := by
  unfold wL_batch
  have hb9 := b_batch (σ := σ) (m := m)
  refine ⟨_, h.led, c_batch h (fun ad' G' h0 h10 h' => ⟨fun e => ?_, fun e => ?_⟩)⟩
  · exact lK.ok hp e h0 h10 h'
  · have k := lK.no hp e h0 h10 h'
    have k : post (nI (opBatch σ m).1) G' := k
    have e9 : (opBatch σ m).1 = 1 ∨ (opBatch σ m).1 = 2 ∨ (opBatch σ m).1 = 3 := by omega
    rcases e9 with e9 | e9 | e9 <;> rw [e9] at k ⊢
    · exact Or.inl ⟨rfl, k⟩
    · exact Or.inr (Or.inl ⟨rfl, k⟩)
    · exact Or.inr (Or.inr (⟨rfl, k⟩))
theorem b_row {b : Int32} {a : Int32} {w : Int64} : (opRow σ b a w).1 ≤ 4 := by
  unfold opRow
  repeat' split
  all_goals exact Nat.le_of_ble_eq_true rfl
theorem l_row {post : Int32 → gh_H → Prop} {b : Int32} {a : Int32} {w : Int64} (h : oR σ ad G) (hp : lK (o64 (opRow σ b a w)) ad post) : wL_row post px G (ad 0 0 0) b a w (ad 10 0 0) := by
  unfold wL_row
  have hb9 := b_row (σ := σ) (b := b) (a := a) (w := w)
  refine ⟨_, h.led, c_row h (fun ad' G' h0 h10 h' => ⟨fun e => ?_, fun e => ?_⟩)⟩
  · exact lK.ok hp e h0 h10 h'
  · have k := lK.no hp e h0 h10 h'
    have k : post (nI (opRow σ b a w).1) G' := k
    have e9 : (opRow σ b a w).1 = 1 ∨ (opRow σ b a w).1 = 2 ∨ (opRow σ b a w).1 = 3 ∨ (opRow σ b a w).1 = 4 := by omega
    rcases e9 with e9 | e9 | e9 | e9 <;> rw [e9] at k ⊢
    · exact Or.inl ⟨rfl, k⟩
    · exact Or.inr (Or.inl ⟨rfl, k⟩)
    · exact Or.inr (Or.inr (Or.inl ⟨rfl, k⟩))
    · exact Or.inr (Or.inr (Or.inr (⟨rfl, k⟩)))
theorem b_breaks {b : Int32} {r : Int32} {on : Int32} : (opBreaks σ b r on).1 ≤ 2 := by
  unfold opBreaks
  repeat' split
  all_goals exact Nat.le_of_ble_eq_true rfl
theorem l_breaks {post : Int32 → gh_H → Prop} {b : Int32} {r : Int32} {on : Int32} (h : oR σ ad G) (hb : on = 0 ∨ on = 1) (hp : lV (opBreaks σ b r on) ad post) : wL_breaks post px G (ad 0 0 0) b r on := by
  unfold wL_breaks
  have hb9 := b_breaks (σ := σ) (b := b) (r := r) (on := on)
  refine ⟨_, h.led, c_breaks h hb (fun ad' G' h0 h10 h' => ⟨fun e => ?_, fun e => ?_⟩)⟩
  · have := hp ad' G' h0 h10 h'
    rw [e] at this
    exact this
  · have k := hp ad' G' h0 h10 h'
    have e9 : (opBreaks σ b r on).1 = 1 ∨ (opBreaks σ b r on).1 = 2 := by omega
    rcases e9 with e9 | e9 <;> rw [e9] at k ⊢
    · exact Or.inl ⟨rfl, k⟩
    · exact Or.inr (⟨rfl, k⟩)
theorem b_post {b : Int32} : (opPost σ b).1 ≤ 2 := by
  unfold opPost oPostA
  repeat' split
  all_goals exact Nat.le_of_ble_eq_true rfl
theorem l_post {post : Int32 → gh_H → Prop} {b : Int32} (h : oR σ ad G) (hp : lK (o64 (opPost σ b)) ad post) : wL_post post px G (ad 0 0 0) b (ad 10 0 0) := by
  unfold wL_post
  have hb9 := b_post (σ := σ) (b := b)
  refine ⟨_, h.led, c_post h (fun ad' G' h0 h10 h' => ⟨fun e => ?_, fun e => ?_⟩)⟩
  · exact lK.ok hp e h0 h10 h'
  · have k := lK.no hp e h0 h10 h'
    have k : post (nI (opPost σ b).1) G' := k
    have e9 : (opPost σ b).1 = 1 ∨ (opPost σ b).1 = 2 := by omega
    rcases e9 with e9 | e9 <;> rw [e9] at k ⊢
    · exact Or.inl ⟨rfl, k⟩
    · exact Or.inr (⟨rfl, k⟩)
theorem b_reverse {b : Int32} : (opReverse σ b).1 ≤ 3 := by
  unfold opReverse
  repeat' split
  all_goals exact Nat.le_of_ble_eq_true rfl
theorem l_reverse {post : Int32 → gh_H → Prop} {b : Int32} (h : oR σ ad G) (hp : lK (o64 (opReverse σ b)) ad post) : wL_reverse post px G (ad 0 0 0) b (ad 10 0 0) := by
  unfold wL_reverse
  have hb9 := b_reverse (σ := σ) (b := b)
  refine ⟨_, h.led, c_reverse h (fun ad' G' h0 h10 h' => ⟨fun e => ?_, fun e => ?_⟩)⟩
  · exact lK.ok hp e h0 h10 h'
  · have k := lK.no hp e h0 h10 h'
    have k : post (nI (opReverse σ b).1) G' := k
    have e9 : (opReverse σ b).1 = 1 ∨ (opReverse σ b).1 = 2 ∨ (opReverse σ b).1 = 3 := by omega
    rcases e9 with e9 | e9 | e9 <;> rw [e9] at k ⊢
    · exact Or.inl ⟨rfl, k⟩
    · exact Or.inr (Or.inl ⟨rfl, k⟩)
    · exact Or.inr (Or.inr (⟨rfl, k⟩))
theorem b_balance {a : Int32} {m : Int32} : (opBalance σ a m).1 ≤ 2 := by
  unfold opBalance
  repeat' split
  all_goals exact Nat.le_of_ble_eq_true rfl
theorem l_balance {post : Int32 → gh_H → Prop} {a : Int32} {m : Int32} (h : oR σ ad G) (hp : lK (opBalance σ a m) ad post) : wL_balance post px G (ad 0 0 0) a m (ad 10 0 0) := by
  unfold wL_balance
  have hb9 := b_balance (σ := σ) (a := a) (m := m)
  refine ⟨_, h.led, c_balance h (fun ad' G' h0 h10 h' => ⟨fun e => ?_, fun e => ?_⟩)⟩
  · exact lK.ok hp e h0 h10 h'
  · have k := lK.no hp e h0 h10 h'
    have e9 : (opBalance σ a m).1 = 1 ∨ (opBalance σ a m).1 = 2 := by omega
    rcases e9 with e9 | e9 <;> rw [e9] at k ⊢
    · exact Or.inl ⟨rfl, k⟩
    · exact Or.inr (⟨rfl, k⟩)
theorem b_all {c : Int32} : (opAll σ c).1 ≤ 1 := by
  unfold opAll
  repeat' split
  all_goals exact Nat.le_of_ble_eq_true rfl
theorem l_all {post : Int32 → gh_H → Prop} {c : Int32} (h : oR σ ad G) (hp : lK (opAll σ c) ad post) : wL_all post px G (ad 0 0 0) c (ad 10 0 0) := by
  unfold wL_all
  have hb9 := b_all (σ := σ) (c := c)
  refine ⟨_, h.led, c_all h (fun ad' G' h0 h10 h' => ⟨fun e => ?_, fun e => ?_⟩)⟩
  · exact lK.ok hp e h0 h10 h'
  · have k := lK.no hp e h0 h10 h'
    have e9 : (opAll σ c).1 = 1 := by omega
    rw [e9] at k ⊢
    exact ⟨rfl, k⟩
theorem b_invoice {o : Int32} {w : Int64} {d : Int32} : (opInvoice σ o w d).1 ≤ 4 := by
  unfold opInvoice
  repeat' split
  all_goals exact Nat.le_of_ble_eq_true rfl
theorem l_invoice {post : Int32 → gh_H → Prop} {o : Int32} {w : Int64} {d : Int32} (h : oR σ ad G) (hI : oInv n0 σ) (hp : lK (o64 (opInvoice σ o w d)) ad post) : wL_invoice post px G (ad 0 0 0) o w d (ad 10 0 0) := by
  unfold wL_invoice
  have hb9 := b_invoice (σ := σ) (o := o) (w := w) (d := d)
  refine ⟨_, h.led, c_invoice h hI (fun ad' G' h0 h10 h' => ⟨fun e => ?_, fun e => ?_⟩)⟩
  · exact lK.ok hp e h0 h10 h'
  · have k := lK.no hp e h0 h10 h'
    have k : post (nI (opInvoice σ o w d).1) G' := k
    have e9 : (opInvoice σ o w d).1 = 1 ∨ (opInvoice σ o w d).1 = 2 ∨ (opInvoice σ o w d).1 = 3 ∨ (opInvoice σ o w d).1 = 4 := by omega
    rcases e9 with e9 | e9 | e9 | e9 <;> rw [e9] at k ⊢
    · exact Or.inl ⟨rfl, k⟩
    · exact Or.inr (Or.inl ⟨rfl, k⟩)
    · exact Or.inr (Or.inr (Or.inl ⟨rfl, k⟩))
    · exact Or.inr (Or.inr (Or.inr (⟨rfl, k⟩)))
theorem b_pay {o : Int32} {w : Int64} : (opPay σ o w).1 ≤ 2 := by
  unfold opPay
  repeat' split
  all_goals exact Nat.le_of_ble_eq_true rfl
theorem l_pay {post : Int32 → gh_H → Prop} {o : Int32} {w : Int64} (h : oR σ ad G) (hp : lK (o64 (opPay σ o w)) ad post) : wL_pay post px G (ad 0 0 0) o w (ad 10 0 0) := by
  unfold wL_pay
  have hb9 := b_pay (σ := σ) (o := o) (w := w)
  refine ⟨_, h.led, c_pay h (fun ad' G' h0 h10 h' => ⟨fun e => ?_, fun e => ?_⟩)⟩
  · exact lK.ok hp e h0 h10 h'
  · have k := lK.no hp e h0 h10 h'
    have k : post (nI (opPay σ o w).1) G' := k
    have e9 : (opPay σ o w).1 = 1 ∨ (opPay σ o w).1 = 2 := by omega
    rcases e9 with e9 | e9 <;> rw [e9] at k ⊢
    · exact Or.inl ⟨rfl, k⟩
    · exact Or.inr (⟨rfl, k⟩)
theorem b_settle {i : Int32} {w : Int64} : (opSettle σ i w).1 ≤ 2 := by
  unfold opSettle
  repeat' split
  all_goals exact Nat.le_of_ble_eq_true rfl
theorem l_settle {post : Int32 → gh_H → Prop} {i : Int32} {w : Int64} (h : oR σ ad G) (hI : oInv n0 σ) (hp : lK (opSettle σ i w) ad post) : wL_settle post px G (ad 0 0 0) i w (ad 10 0 0) := by
  unfold wL_settle
  have hb9 := b_settle (σ := σ) (i := i) (w := w)
  refine ⟨_, h.led, c_settle h hI (fun ad' G' h0 h10 h' => ⟨fun e => ?_, fun e => ?_⟩)⟩
  · exact lK.ok hp e h0 h10 h'
  · have k := lK.no hp e h0 h10 h'
    have e9 : (opSettle σ i w).1 = 1 ∨ (opSettle σ i w).1 = 2 := by omega
    rcases e9 with e9 | e9 <;> rw [e9] at k ⊢
    · exact Or.inl ⟨rfl, k⟩
    · exact Or.inr (⟨rfl, k⟩)
theorem b_dispute {i : Int32} {on : Int32} : (opDispute σ i on).1 ≤ 2 := by
  unfold opDispute
  repeat' split
  all_goals exact Nat.le_of_ble_eq_true rfl
theorem l_dispute {post : Int32 → gh_H → Prop} {i : Int32} {on : Int32} (h : oR σ ad G) (hb : on = 0 ∨ on = 1) (hp : lK (opDispute σ i on) ad post) : wL_dispute post px G (ad 0 0 0) i on (ad 10 0 0) := by
  unfold wL_dispute
  have hb9 := b_dispute (σ := σ) (i := i) (on := on)
  refine ⟨_, h.led, c_dispute h hb (fun ad' G' h0 h10 h' => ⟨fun e => ?_, fun e => ?_⟩)⟩
  · exact lK.ok hp e h0 h10 h'
  · have k := lK.no hp e h0 h10 h'
    have e9 : (opDispute σ i on).1 = 1 ∨ (opDispute σ i on).1 = 2 := by omega
    rcases e9 with e9 | e9 <;> rw [e9] at k ⊢
    · exact Or.inl ⟨rfl, k⟩
    · exact Or.inr (⟨rfl, k⟩)
theorem b_dun {i : Int32} : (opDun σ i).1 ≤ 2 := by
  unfold opDun
  repeat' split
  all_goals exact Nat.le_of_ble_eq_true rfl
theorem l_dun {post : Int32 → gh_H → Prop} {i : Int32} (h : oR σ ad G) (hI : oInv n0 σ) (hp : lK (o64 (opDun σ i)) ad post) : wL_dun post px G (ad 0 0 0) i (ad 10 0 0) := by
  unfold wL_dun
  have hb9 := b_dun (σ := σ) (i := i)
  refine ⟨_, h.led, c_dun h hI (fun ad' G' h0 h10 h' => ⟨fun e => ?_, fun e => ?_⟩)⟩
  · exact lK.ok hp e h0 h10 h'
  · have k := lK.no hp e h0 h10 h'
    have k : post (nI (opDun σ i).1) G' := k
    have e9 : (opDun σ i).1 = 1 ∨ (opDun σ i).1 = 2 := by omega
    rcases e9 with e9 | e9 <;> rw [e9] at k ⊢
    · exact Or.inl ⟨rfl, k⟩
    · exact Or.inr (⟨rfl, k⟩)
theorem b_rate {m : Int32} : (opRate σ m).1 ≤ 1 := by
  unfold opRate
  repeat' split
  all_goals exact Nat.le_of_ble_eq_true rfl
theorem l_rate {post : Int32 → gh_H → Prop} {m : Int32} (h : oR σ ad G) (hp : lV (opRate σ m) ad post) : wL_rate post px G (ad 0 0 0) m := by
  unfold wL_rate
  have hb9 := b_rate (σ := σ) (m := m)
  refine ⟨_, h.led, c_rate h (fun ad' G' h0 h10 h' => ⟨fun e => ?_, fun e => ?_⟩)⟩
  · have := hp ad' G' h0 h10 h'
    rw [e] at this
    exact this
  · have k := hp ad' G' h0 h10 h'
    have e9 : (opRate σ m).1 = 1 := by omega
    rw [e9] at k ⊢
    exact ⟨rfl, k⟩
theorem b_interest {i : Int32} {side : Int32} : (opInterest σ i side).1 ≤ 2 := by
  unfold opInterest
  repeat' split
  all_goals exact Nat.le_of_ble_eq_true rfl
theorem l_interest {post : Int32 → gh_H → Prop} {i : Int32} {side : Int32} (h : oR σ ad G) (hI : oInv n0 σ) (hp : lK (opInterest σ i side) ad post) : wL_interest post px G (ad 0 0 0) i side (ad 10 0 0) := by
  unfold wL_interest
  have hb9 := b_interest (σ := σ) (i := i) (side := side)
  refine ⟨_, h.led, c_interest h hI (fun ad' G' h0 h10 h' => ⟨fun e => ?_, fun e => ?_⟩)⟩
  · exact lK.ok hp e h0 h10 h'
  · have k := lK.no hp e h0 h10 h'
    have e9 : (opInterest σ i side).1 = 1 ∨ (opInterest σ i side).1 = 2 := by omega
    rcases e9 with e9 | e9 <;> rw [e9] at k ⊢
    · exact Or.inl ⟨rfl, k⟩
    · exact Or.inr (⟨rfl, k⟩)
theorem b_hold {o : Int32} {on : Int32} : (opHold σ o on).1 ≤ 2 := by
  unfold opHold
  repeat' split
  all_goals exact Nat.le_of_ble_eq_true rfl
theorem l_hold {post : Int32 → gh_H → Prop} {o : Int32} {on : Int32} (h : oR σ ad G) (hb : on = 0 ∨ on = 1) (hp : lK (o64 (opHold σ o on)) ad post) : wL_hold post px G (ad 0 0 0) o on (ad 10 0 0) := by
  unfold wL_hold
  have hb9 := b_hold (σ := σ) (o := o) (on := on)
  refine ⟨_, h.led, c_hold h hb (fun ad' G' h0 h10 h' => ⟨fun e => ?_, fun e => ?_⟩)⟩
  · exact lK.ok hp e h0 h10 h'
  · have k := lK.no hp e h0 h10 h'
    have k : post (nI (opHold σ o on).1) G' := k
    have e9 : (opHold σ o on).1 = 1 ∨ (opHold σ o on).1 = 2 := by omega
    rcases e9 with e9 | e9 <;> rw [e9] at k ⊢
    · exact Or.inl ⟨rfl, k⟩
    · exact Or.inr (⟨rfl, k⟩)
theorem b_told {b : Int32} {w : Int32} : (opTold σ b w).1 ≤ 2 := by
  unfold opTold
  repeat' split
  all_goals exact Nat.le_of_ble_eq_true rfl
theorem l_told {post : Int32 → gh_H → Prop} {b : Int32} {w : Int32} (h : oR σ ad G) (hp : lK (o64 (opTold σ b w)) ad post) : wL_told post px G (ad 0 0 0) b w (ad 10 0 0) := by
  unfold wL_told
  have hb9 := b_told (σ := σ) (b := b) (w := w)
  refine ⟨_, h.led, c_told h (fun ad' G' h0 h10 h' => ⟨fun e => ?_, fun e => ?_⟩)⟩
  · exact lK.ok hp e h0 h10 h'
  · have k := lK.no hp e h0 h10 h'
    have k : post (nI (opTold σ b w).1) G' := k
    have e9 : (opTold σ b w).1 = 1 ∨ (opTold σ b w).1 = 2 := by omega
    rcases e9 with e9 | e9 <;> rw [e9] at k ⊢
    · exact Or.inl ⟨rfl, k⟩
    · exact Or.inr (⟨rfl, k⟩)
theorem b_known {b : Int32} {w : Int32} : (opKnown σ b w).1 ≤ 2 := by
  unfold opKnown
  repeat' split
  all_goals exact Nat.le_of_ble_eq_true rfl
theorem l_known {post : Int32 → gh_H → Prop} {b : Int32} {w : Int32} (h : oR σ ad G) (hp : lK (opKnown σ b w) ad post) : wL_known post px G (ad 0 0 0) b w (ad 10 0 0) := by
  unfold wL_known
  have hb9 := b_known (σ := σ) (b := b) (w := w)
  refine ⟨_, h.led, c_known h (fun ad' G' h0 h10 h' => ⟨fun e => ?_, fun e => ?_⟩)⟩
  · exact lK.ok hp e h0 h10 h'
  · have k := lK.no hp e h0 h10 h'
    have e9 : (opKnown σ b w).1 = 1 ∨ (opKnown σ b w).1 = 2 := by omega
    rcases e9 with e9 | e9 <;> rw [e9] at k ⊢
    · exact Or.inl ⟨rfl, k⟩
    · exact Or.inr (⟨rfl, k⟩)
theorem b_credit {p : Int32} : (opCredit σ p).1 ≤ 1 := by
  unfold opCredit
  repeat' split
  all_goals exact Nat.le_of_ble_eq_true rfl
theorem l_credit {post : Int32 → gh_H → Prop} {p : Int32} (h : oR σ ad G) (hp : lK (opCredit σ p) ad post) : wL_credit post px G (ad 0 0 0) p (ad 10 0 0) := by
  unfold wL_credit
  have hb9 := b_credit (σ := σ) (p := p)
  refine ⟨_, h.led, c_credit h (fun ad' G' h0 h10 h' => ⟨fun e => ?_, fun e => ?_⟩)⟩
  · exact lK.ok hp e h0 h10 h'
  · have k := lK.no hp e h0 h10 h'
    have e9 : (opCredit σ p).1 = 1 := by omega
    rw [e9] at k ⊢
    exact ⟨rfl, k⟩
end L37
