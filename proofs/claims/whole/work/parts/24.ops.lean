/-! What each call answers and does, by the document: (which refusal, 0 none; the answer; the state then). -/
abbrev oA : Type := Nat × Int32 × oS
abbrev oA64 : Type := Nat × Int64 × oS
abbrev oNo (n : Nat) (p : Int32) : Prop := p < 0 ∨ nI n ≤ p
abbrev oNo1 (n : Nat) (p : Int32) : Prop := p < 1 ∨ nI n < p
abbrev oAt (p : Int32) : Nat := p.toNatClampNeg
abbrev oAt1 (p : Int32) : Nat := (p - 1).toNatClampNeg
theorem oLt {a b : Nat} (h : Nat.ble (a + 1) b = true) : a < b := Nat.le_of_ble_eq_true h
def opOwner (σ : oS) : oA := if σ.2.2 0 0 0 = 6 then (1, 0, σ) else (0, nI (σ.2.2 0 0 0), oN σ 0 0 0 (σ.2.2 0 0 0 + 1))
def opAccount (σ : oS) (p c : Int32) : oA := if oNo (σ.2.2 0 0 0) p then (1, 0, σ) else if c < 0 ∨ 2 < c then (2, 0, σ) else if σ.2.2 1 0 0 = 20 then (3, 0, σ) else (0, nI (σ.2.2 1 0 0), oN (oI σ 4 (σ.2.2 1 0 0) 0 c) 1 0 0 (σ.2.2 1 0 0 + 1))
def opMonth (σ : oS) (m : Int32) : oA := if m < σ.1 0 0 0 ∨ 120 < m then (1, 0, σ) else (0, 0, oI σ 0 0 0 m)
def opClose (σ : oS) (m : Int32) : oA := if m < 0 ∨ σ.1 0 0 0 < m then (1, 0, σ) else if m < σ.1 1 0 0 then (2, 0, σ) else (0, m - σ.1 1 0 0, oI σ 1 0 0 m)
/-- a new batch for month m -/
def oNewB (σ : oS) (m : Int32) : oS := oN (oN (oI (oI (oI (oI σ 5 (σ.2.2 2 0 0) 0 m) 6 (σ.2.2 2 0 0) 0 0) 7 (σ.2.2 2 0 0) 0 0) 8 (σ.2.2 2 0 0) 0 0) 4 (σ.2.2 2 0 0) 0 0) 2 0 0 (σ.2.2 2 0 0 + 1)
def opBatch (σ : oS) (m : Int32) : oA := if m < 0 ∨ σ.1 0 0 0 < m then (1, 0, σ) else if m < σ.1 1 0 0 then (2, 0, σ) else if σ.2.2 2 0 0 = 30 then (3, 0, σ) else (0, nI (σ.2.2 2 0 0 + 1), oNewB σ m)
def oAddRow (σ : oS) (i : Nat) (a c : Int32) (w : Int64) : oS := oN (oI (oL (oI (oI σ 9 i (σ.2.2 4 i 0) a) 10 i (σ.2.2 4 i 0) c) 1 i (σ.2.2 4 i 0) w) 11 i (σ.2.2 4 i 0) 0) 4 i 0 (σ.2.2 4 i 0 + 1)
def opRow (σ : oS) (b a : Int32) (w : Int64) : oA := if oNo1 (σ.2.2 2 0 0) b then (1, 0, σ) else if oNo (σ.2.2 1 0 0) a then (1, 0, σ) else if w < -1000000000 ∨ 1000000000 < w then (2, 0, σ) else if w = 0 then (2, 0, σ) else if ¬ σ.1 6 (oAt1 b) 0 = 0 then (3, 0, σ) else if σ.2.2 4 (oAt1 b) 0 = 8 then (4, 0, σ) else (0, nI (σ.2.2 4 (oAt1 b) 0 + 1), oAddRow σ (oAt1 b) a (σ.1 4 (oAt a) 0) w)
def opBreaks (σ : oS) (b r on : Int32) : oA := if oNo1 (σ.2.2 2 0 0) b then (1, 0, σ) else if oNo (σ.2.2 4 (oAt1 b) 0) r then (1, 0, σ) else if ¬ σ.1 6 (oAt1 b) 0 = 0 then (2, 0, σ) else (0, 0, oI σ 11 (oAt1 b) (oAt r) on)
def oPostA (σ : oS) (i : Nat) : oA := match oFst (fun j => σ.1 11 i j) (σ.2.2 4 i 0) 0 with
  | some j => (0, -1 - nI j, oI σ 6 i 0 2)
  | none => if oZero σ i then (0, 1, oI σ 6 i 0 1) else (0, -9, oI σ 6 i 0 2)
def opPost (σ : oS) (b : Int32) : oA := if oNo1 (σ.2.2 2 0 0) b then (1, 0, σ) else if ¬ σ.1 6 (oAt1 b) 0 = 0 then (2, 0, σ) else if σ.1 5 (oAt1 b) 0 < σ.1 1 0 0 then (2, 0, σ) else if σ.2.2 4 (oAt1 b) 0 = 0 then (2, 0, σ) else oPostA σ (oAt1 b)
/-- batch number b, the i-th, is reversed -/
def oRev (σ : oS) (i : Nat) (b : Int32) : oS :=
  (fun k x y => if x = σ.2.2 2 0 0 then (if k = 5 ∧ y = 0 then σ.1 0 0 0 else if k = 6 ∧ y = 0 then 1 else if k = 7 ∧ y = 0 then 0 else if k = 8 ∧ y = 0 then b else if k = 9 ∧ y < σ.2.2 4 i 0 then σ.1 9 i y else if k = 10 ∧ y < σ.2.2 4 i 0 then σ.1 10 i y else if k = 11 ∧ y < σ.2.2 4 i 0 then 0 else σ.1 k x y) else if k = 7 ∧ x = i ∧ y = 0 then nI (σ.2.2 2 0 0 + 1) else σ.1 k x y,
   fun k x y => if k = 1 ∧ x = σ.2.2 2 0 0 ∧ y < σ.2.2 4 i 0 then -σ.2.1 1 i y else σ.2.1 k x y,
   fun k x y => if k = 2 ∧ x = 0 ∧ y = 0 then σ.2.2 2 0 0 + 1 else if k = 4 ∧ x = σ.2.2 2 0 0 ∧ y = 0 then σ.2.2 4 i 0 else σ.2.2 k x y)
def opReverse (σ : oS) (b : Int32) : oA := if oNo1 (σ.2.2 2 0 0) b then (1, 0, σ) else if ¬ σ.1 6 (oAt1 b) 0 = 1 then (2, 0, σ) else if ¬ σ.1 7 (oAt1 b) 0 = 0 then (2, 0, σ) else if ¬ σ.1 8 (oAt1 b) 0 = 0 then (2, 0, σ) else if σ.2.2 2 0 0 = 30 then (3, 0, σ) else (0, nI (σ.2.2 2 0 0 + 1), oRev σ (oAt1 b) b)
def opBalance (σ : oS) (a m : Int32) : oA64 := if oNo (σ.2.2 1 0 0) a then (1, 0, σ) else if m < 0 ∨ 120 < m then (2, 0, σ) else (0, oBal σ a m, σ)
def opAll (σ : oS) (c : Int32) : oA64 := if c < 0 ∨ 2 < c then (1, 0, σ) else (0, oAll σ c, σ)
/-- of c cents w are paid: what is taken -/
def oTk (c w : Int64) : Int64 := if c < w then c else w
def oNewI (σ : oS) (o : Int32) (w : Int64) (d : Int32) : oS := oN (oL (oL (oI (oI σ 12 (σ.2.2 3 0 0) 0 o) 13 (σ.2.2 3 0 0) 0 d) 2 (σ.2.2 3 0 0) 0 (w - oTk (σ.2.1 0 (oAt o) 0) w)) 0 (oAt o) 0 (σ.2.1 0 (oAt o) 0 - oTk (σ.2.1 0 (oAt o) 0) w)) 3 0 0 (σ.2.2 3 0 0 + 1)
def opInvoice (σ : oS) (o : Int32) (w : Int64) (d : Int32) : oA := if oNo (σ.2.2 0 0 0) o then (1, 0, σ) else if w < 1 ∨ 1000000000 < w then (2, 0, σ) else if d < 0 ∨ 120 < d then (2, 0, σ) else if ¬ σ.1 3 (oAt o) 0 = 0 then (3, 0, σ) else if σ.2.2 3 0 0 = 20 then (4, 0, σ) else (0, nI (σ.2.2 3 0 0 + 1), oNewI σ o w d)
def oNext (σ : oS) (o : Int32) : Option Nat := oFold (fun i v => if σ.1 12 i 0 = o ∧ 0 < σ.2.1 2 i 0 ∧ σ.1 15 i 0 = 0 ∧ (∀ k, v = some k → σ.1 13 i 0 < σ.1 13 k 0) then some i else v) (σ.2.2 3 0 0) 0 none
def oPayL (o : Int32) : Nat → oS → Int64 → Int32 → oS × Int64 × Int32
  | 0, σ, w, n => (σ, w, n)
  | k + 1, σ, w, n => if w ≤ 0 then (σ, w, n) else match oNext σ o with
    | none => (σ, w, n)
    | some i => oPayL o k (oL σ 2 i 0 (σ.2.1 2 i 0 - oTk w (σ.2.1 2 i 0))) (w - oTk w (σ.2.1 2 i 0)) (if σ.2.1 2 i 0 - oTk w (σ.2.1 2 i 0) = 0 then n + 1 else n)
def opPay (σ : oS) (o : Int32) (w : Int64) : oA := if oNo (σ.2.2 0 0 0) o then (1, 0, σ) else if w < 1 ∨ 1000000000 < w then (2, 0, σ) else
  (0, (oPayL o 20 σ w 0).2.2, oL (oPayL o 20 σ w 0).1 0 (oAt o) 0 ((oPayL o 20 σ w 0).1.2.1 0 (oAt o) 0 + (oPayL o 20 σ w 0).2.1))
def opSettle (σ : oS) (i : Int32) (w : Int64) : oA64 := if oNo1 (σ.2.2 3 0 0) i then (1, 0, σ) else if w < 1 ∨ 1000000000 < w then (2, 0, σ) else
  (0, σ.2.1 2 (oAt1 i) 0 - oTk w (σ.2.1 2 (oAt1 i) 0), oL (oL σ 2 (oAt1 i) 0 (σ.2.1 2 (oAt1 i) 0 - oTk w (σ.2.1 2 (oAt1 i) 0))) 0 (oAt (σ.1 12 (oAt1 i) 0)) 0 (σ.2.1 0 (oAt (σ.1 12 (oAt1 i) 0)) 0 + (w - oTk w (σ.2.1 2 (oAt1 i) 0))))
def opDispute (σ : oS) (i on : Int32) : oA64 := if oNo1 (σ.2.2 3 0 0) i then (1, 0, σ) else if σ.1 15 (oAt1 i) 0 = on then (2, 0, σ) else (0, σ.2.1 2 (oAt1 i) 0, oI σ 15 (oAt1 i) 0 on)
def opDun (σ : oS) (i : Int32) : oA := if oNo1 (σ.2.2 3 0 0) i then (1, 0, σ) else if ¬ oOv σ (oAt1 i) (σ.1 0 0 0) then (2, 0, σ) else if ¬ σ.1 14 (oAt1 i) 0 < 3 then (2, 0, σ) else
  (0, σ.1 14 (oAt1 i) 0 + 1, if σ.1 14 (oAt1 i) 0 + 1 = 3 then oI (oI σ 14 (oAt1 i) 0 (σ.1 14 (oAt1 i) 0 + 1)) 3 (oAt (σ.1 12 (oAt1 i) 0)) 0 1 else oI σ 14 (oAt1 i) 0 (σ.1 14 (oAt1 i) 0 + 1))
def opRate (σ : oS) (p : Int32) : oA := if p < 0 ∨ 100 < p then (1, 0, σ) else (0, 0, oI σ 2 0 0 p)
/-- the upper number of the interest, not yet in lowest terms -/
def oUp (σ : oS) (i : Nat) : Int64 := if oOv σ i (σ.1 0 0 0) then σ.2.1 2 i 0 * (σ.1 0 0 0 - σ.1 13 i 0).toInt64 * (σ.1 2 0 0).toInt64 else 0
def oGcd (w : Int64) : Int64 := lN (Nat.gcd w.toInt.toNat 1200)
def opInterest (σ : oS) (i side : Int32) : oA64 := if oNo1 (σ.2.2 3 0 0) i then (1, 0, σ) else if side < 0 ∨ 1 < side then (2, 0, σ) else (0, if side = 0 then oUp σ (oAt1 i) / oGcd (oUp σ (oAt1 i)) else 1200 / oGcd (oUp σ (oAt1 i)), σ)
def opHold (σ : oS) (o on : Int32) : oA := if oNo (σ.2.2 0 0 0) o then (1, 0, σ) else if σ.1 3 (oAt o) 0 = on then (2, 0, σ) else (0, oOvs σ o, oI σ 3 (oAt o) 0 on)
def oTold (σ : oS) (i : Nat) (w : Int32) : Int32 := if w = 0 then σ.1 6 i 0 else if w = 1 then σ.1 5 i 0 else if w = 2 then nI (σ.2.2 4 i 0) else if w = 3 then σ.1 7 i 0 else σ.1 8 i 0
def opTold (σ : oS) (b w : Int32) : oA := if oNo1 (σ.2.2 2 0 0) b then (1, 0, σ) else if w < 0 ∨ 4 < w then (2, 0, σ) else (0, oTold σ (oAt1 b) w, σ)
def oKnown (σ : oS) (i : Nat) (w : Int32) : Int64 := if w = 0 then σ.2.1 2 i 0 else if w = 1 then (σ.1 14 i 0).toInt64 else if w = 2 then (if σ.1 15 i 0 = 0 then 0 else 1) else if w = 3 then (if oOv σ i (σ.1 0 0 0) then 1 else 0) else if w = 4 then (σ.1 12 i 0).toInt64 else (σ.1 13 i 0).toInt64
def opKnown (σ : oS) (i w : Int32) : oA64 := if oNo1 (σ.2.2 3 0 0) i then (1, 0, σ) else if w < 0 ∨ 5 < w then (2, 0, σ) else (0, oKnown σ (oAt1 i) w, σ)
def opCredit (σ : oS) (o : Int32) : oA64 := if oNo (σ.2.2 0 0 0) o then (1, 0, σ) else (0, σ.2.1 0 (oAt o) 0, σ)
def opCount (σ : oS) (w : Int32) : Int32 := if w = 0 then nI (σ.2.2 0 0 0) else if w = 1 then nI (σ.2.2 1 0 0) else if w = 2 then nI (σ.2.2 2 0 0) else if w = 3 then oPosted σ else if w = 4 then nI (σ.2.2 3 0 0) else if w = 5 then oUnpaid σ else if w = 6 then σ.1 0 0 0 else if w = 7 then σ.1 1 0 0 else if w = 8 then oHolds σ else -1
/-- what the class owes of an answer: 'post' of it, or 'px' of the exception of its refusal -/
def oK {V : Type} (r : Nat × V × oS) (E : Nat → String) (ad : Nat → Nat → Nat → Nat) (post : V → gh_H → Prop) (px : String → gh_H → Prop) : Prop :=
  ∀ (ad' : Nat → Nat → Nat → Nat) (G' : gh_H), ad' 0 0 0 = ad 0 0 0 → ad' 10 0 0 = ad 10 0 0 → oR r.2.2 ad' G' → (r.1 = 0 → post r.2.1 G') ∧ (r.1 ≠ 0 → px (E r.1) G')
def e_U (_ : Nat) : String := eU
def e_A (_ : Nat) : String := eA
def e_N (_ : Nat) : String := eN
def e_NA : Nat → String | 1 => eN | _ => eA
def e_NS : Nat → String | 1 => eN | _ => eS
def e_AS : Nat → String | 1 => eA | _ => eS
def e_NAU : Nat → String | 1 => eN | 2 => eA | _ => eU
def e_ASU : Nat → String | 1 => eA | 2 => eS | _ => eU
def e_NSU : Nat → String | 1 => eN | 2 => eS | _ => eU
def e_NASU : Nat → String | 1 => eN | 2 => eA | 3 => eS | _ => eU
theorem oK.no {V : Type} {r : Nat × V × oS} {E : Nat → String} {ad : Nat → Nat → Nat → Nat} {post : V → gh_H → Prop} {px : String → gh_H → Prop} {σ : oS} {G : gh_H} {k : Nat} {v : V} {e : String} (hk : oK r E ad post px) (hr : r = (k, v, σ)) (h : oR σ ad G) (h0 : k ≠ 0) (he : E k = e) : px e G := by
  subst hr
  rw [← he]
  exact (hk ad G rfl rfl h).2 h0
theorem oK.yes {V : Type} {r : Nat × V × oS} {E : Nat → String} {ad : Nat → Nat → Nat → Nat} {post : V → gh_H → Prop} {px : String → gh_H → Prop} {σ : oS} {G : gh_H} {v : V} (hk : oK r E ad post px) (hr : r = (0, v, σ)) (h : oR σ ad G) : post v G := by
  subst hr
  exact (hk ad G rfl rfl h).1 rfl
/-- what holds of every state that n calls come to -/
def oInv (n : Nat) (σ : oS) : Prop :=
  (∀ i, σ.2.2 0 0 0 ≤ i → σ.2.1 0 i 0 = 0 ∧ σ.1 3 i 0 = 0) ∧
  (∀ i, σ.2.2 3 0 0 ≤ i → σ.1 14 i 0 = 0 ∧ σ.1 15 i 0 = 0) ∧
  (∀ b, b < σ.2.2 2 0 0 → ∀ j, j < σ.2.2 4 b 0 → ∃ a, a < σ.2.2 1 0 0 ∧ σ.1 9 b j = nI a ∧ σ.1 10 b j = σ.1 4 a 0) ∧
  (∀ i, i < σ.2.2 3 0 0 → ∃ k, k < σ.2.2 0 0 0 ∧ σ.1 12 i 0 = nI k) ∧
  (∀ i, i < σ.2.2 3 0 0 → 0 ≤ σ.2.1 2 i 0 ∧ σ.2.1 2 i 0 ≤ 1000000000 ∧ 0 ≤ σ.1 13 i 0 ∧ σ.1 13 i 0 ≤ 120) ∧
  (∀ i, 0 ≤ σ.1 14 i 0 ∧ σ.1 14 i 0 ≤ 3) ∧
  (∀ b, 0 ≤ σ.1 7 b 0 ∧ 0 ≤ σ.1 8 b 0) ∧
  (∀ i, (σ.1 3 i 0 = 0 ∨ σ.1 3 i 0 = 1) ∧ (σ.1 15 i 0 = 0 ∨ σ.1 15 i 0 = 1)) ∧
  (∀ b j, σ.1 11 b j = 0 ∨ σ.1 11 b j = 1) ∧
  ((0 ≤ σ.1 0 0 0 ∧ σ.1 0 0 0 ≤ 120) ∧ (0 ≤ σ.1 2 0 0 ∧ σ.1 2 0 0 ≤ 100)) ∧
  (∀ i, 0 ≤ (σ.2.1 0 i 0).toInt ∧ (σ.2.1 0 i 0).toInt ≤ n * 1000000000)
section I24
variable {n : Nat} {σ : oS}
theorem oInv.no (h : oInv n σ) : ∀ i, σ.2.2 0 0 0 ≤ i → σ.2.1 0 i 0 = 0 ∧ σ.1 3 i 0 = 0 := h.1
theorem oInv.nv (h : oInv n σ) : ∀ i, σ.2.2 3 0 0 ≤ i → σ.1 14 i 0 = 0 ∧ σ.1 15 i 0 = 0 := h.2.1
theorem oInv.ra (h : oInv n σ) : ∀ b, b < σ.2.2 2 0 0 → ∀ j, j < σ.2.2 4 b 0 → ∃ a, a < σ.2.2 1 0 0 ∧ σ.1 9 b j = nI a ∧ σ.1 10 b j = σ.1 4 a 0 := h.2.2.1
theorem oInv.ow (h : oInv n σ) : ∀ i, i < σ.2.2 3 0 0 → ∃ k, k < σ.2.2 0 0 0 ∧ σ.1 12 i 0 = nI k := h.2.2.2.1
theorem oInv.op (h : oInv n σ) : ∀ i, i < σ.2.2 3 0 0 → 0 ≤ σ.2.1 2 i 0 ∧ σ.2.1 2 i 0 ≤ 1000000000 ∧ 0 ≤ σ.1 13 i 0 ∧ σ.1 13 i 0 ≤ 120 := h.2.2.2.2.1
theorem oInv.st (h : oInv n σ) : ∀ i, 0 ≤ σ.1 14 i 0 ∧ σ.1 14 i 0 ≤ 3 := h.2.2.2.2.2.1
theorem oInv.rv (h : oInv n σ) : ∀ b, 0 ≤ σ.1 7 b 0 ∧ 0 ≤ σ.1 8 b 0 := h.2.2.2.2.2.2.1
theorem oInv.hd (h : oInv n σ) : ∀ i, (σ.1 3 i 0 = 0 ∨ σ.1 3 i 0 = 1) ∧ (σ.1 15 i 0 = 0 ∨ σ.1 15 i 0 = 1) := h.2.2.2.2.2.2.2.1
theorem oInv.br (h : oInv n σ) : ∀ b j, σ.1 11 b j = 0 ∨ σ.1 11 b j = 1 := h.2.2.2.2.2.2.2.2.1
theorem oInv.nw (h : oInv n σ) : (0 ≤ σ.1 0 0 0 ∧ σ.1 0 0 0 ≤ 120) ∧ (0 ≤ σ.1 2 0 0 ∧ σ.1 2 0 0 ≤ 100) := h.2.2.2.2.2.2.2.2.2.1
theorem oInv.cr (h : oInv n σ) : ∀ i, 0 ≤ (σ.2.1 0 i 0).toInt ∧ (σ.2.1 0 i 0).toInt ≤ n * 1000000000 := h.2.2.2.2.2.2.2.2.2.2
theorem oInv.up (h : oInv n σ) : oInv (n + 1) σ := ⟨h.no, h.nv, h.ra, h.ow, h.op, h.st, h.rv, h.hd, h.br, h.nw, fun i => ⟨(h.cr i).1, by have := (h.cr i).2; omega⟩⟩
end I24
theorem oNo1_f {n i : Nat} {p : Int32} (hi : i < n) (hn : n < 2 ^ 30) (e : p = nI (i + 1)) : ¬ oNo1 n p ∧ oAt1 p = i := by
  subst e
  refine ⟨fun z => ?_, ?_⟩
  · rcases z with z | z
    · have := (nI_ltI (a := i + 1) (b := 1) (by omega) (by decide)).mp z
      omega
    · have := (nI_ltI (a := n) (b := i + 1) (by omega) (by omega)).mp z
      omega
  · show (nI (i + 1) - 1).toNatClampNeg = i
    rw [nI_pred, nI_clamp (by omega)]
theorem oNo_f {n i : Nat} {p : Int32} (hi : i < n) (hn : n < 2 ^ 30) (e : p = nI i) : ¬ oNo n p ∧ oAt p = i := by
  subst e
  refine ⟨fun z => ?_, nI_clamp (by omega)⟩
  rcases z with z | z
  · exact absurd z (nI_pos (by omega))
  · have := (nI_leI (a := n) (b := i) (by omega) (by omega)).mp z
    omega
