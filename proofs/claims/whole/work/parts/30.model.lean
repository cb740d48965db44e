/-! The reference's cells: 0 the object; the others by the number of the field that holds them. -/
abbrev mRole (f : Nat) : Prop := f = 0 ∨ f = 4 ∨ f = 5 ∨ f = 7 ∨ f = 9 ∨ f = 10 ∨ f = 11 ∨ f = 12 ∨ f = 13 ∨ f = 14 ∨ f = 15 ∨ f = 16 ∨ f = 18 ∨ f = 19 ∨ f = 20 ∨ f = 21 ∨ f = 22
def mCell (σ : oS) (k : Int32) (am : Nat → Nat) (f : Nat) : gh_E := match f with
  | 0 => .inr (5, [.int k, .int (σ.1 0 0 0), .int (σ.1 1 0 0), .int (nI (σ.2.2 0 0 0)), .ref (am 4), .ref (am 5), .int (nI (σ.2.2 1 0 0)), .ref (am 7), .int (nI (σ.2.2 2 0 0)), .ref (am 9), .ref (am 10), .ref (am 11), .ref (am 12), .ref (am 13), .ref (am 14), .ref (am 15), .ref (am 16), .int (nI (σ.2.2 3 0 0)), .ref (am 18), .ref (am 19), .ref (am 20), .ref (am 21), .ref (am 22), .int (σ.1 2 0 0)])
  | 4 => .inl (2, 6, .inl (fun n => σ.1 3 n 0))
  | 5 => .inl (1, 6, .inr (.inl (fun n => σ.2.1 0 n 0)))
  | 7 => .inl (0, 20, .inl (fun n => σ.1 4 n 0))
  | 9 => .inl (0, 30, .inl (fun n => σ.1 6 n 0))
  | 10 => .inl (0, 30, .inl (fun n => σ.1 5 n 0))
  | 11 => .inl (0, 30, .inl (fun n => nI (σ.2.2 4 n 0)))
  | 12 => .inl (0, 30, .inl (fun n => σ.1 7 n 0))
  | 13 => .inl (0, 30, .inl (fun n => σ.1 8 n 0))
  | 14 => .inl (0, 240, .inl (fun n => σ.1 9 (n / 8) (n % 8)))
  | 15 => .inl (1, 240, .inr (.inl (fun n => σ.2.1 1 (n / 8) (n % 8))))
  | 16 => .inl (2, 240, .inl (fun n => σ.1 11 (n / 8) (n % 8)))
  | 18 => .inl (0, 20, .inl (fun n => σ.1 12 n 0))
  | 19 => .inl (1, 20, .inr (.inl (fun n => σ.2.1 2 n 0)))
  | 20 => .inl (0, 20, .inl (fun n => σ.1 13 n 0))
  | 21 => .inl (0, 20, .inl (fun n => σ.1 14 n 0))
  | _ => .inl (2, 20, .inl (fun n => σ.1 15 n 0))
def oM (σ : oS) (k : Int32) (am : Nat → Nat) (G : gh_H) : Prop := (∀ f, mRole f → G (am f) = some (mCell σ k am f)) ∧ ∀ f f', mRole f → mRole f' → am f = am f' → f = f'
section M30
variable {σ σ' : oS} {k k' : Int32} {am : Nat → Nat} {G G1 : gh_H}
theorem oM.put (h : oM σ k am G) {f0 : Nat} (hf : mRole f0) {x : gh_E} (hG : G1 = gh_up G (am f0) x) (hx : x = mCell σ' k' am f0)
    (hC : ∀ f, mRole f → f ≠ f0 → mCell σ' k' am f = mCell σ k am f) : oM σ' k' am G1 := by
  refine ⟨fun f hr => ?_, h.2⟩
  rw [hG]
  by_cases e : f = f0
  · subst e
    rw [gh_up_s, hx]
  · rw [gh_up_n (fun z => e (h.2 _ _ hr hf z)), h.1 f hr, hC f hr e]
theorem oM.congr (h : oM σ k am G) (h1 : ∀ a b c, a ≠ 10 → σ.1 a b c = σ'.1 a b c) (h2 : ∀ a b c, a ≤ 2 → σ.2.1 a b c = σ'.2.1 a b c) (h3 : ∀ a b c, σ.2.2 a b c = σ'.2.2 a b c) : oM σ' k am G := by
  refine ⟨fun f hr => ?_, h.2⟩
  rw [h.1 f hr]
  rcases hr with rfl | rfl | rfl | rfl | rfl | rfl | rfl | rfl | rfl | rfl | rfl | rfl | rfl | rfl | rfl | rfl | rfl <;> simp [mCell, h1, h2, h3]
theorem oM.ext (h : oM σ k am G) (hx : ∀ x, G x ≠ none → G1 x = G x) : oM σ k am G1 :=
  ⟨fun f hr => by rw [hx _ (by rw [h.1 f hr]; exact fun z => (by cases z)), h.1 f hr], h.2⟩
theorem oM.a0 (h : oM σ k am G) : G (am 0) = some (.inr (5, [.int k, .int (σ.1 0 0 0), .int (σ.1 1 0 0), .int (nI (σ.2.2 0 0 0)), .ref (am 4), .ref (am 5), .int (nI (σ.2.2 1 0 0)), .ref (am 7), .int (nI (σ.2.2 2 0 0)), .ref (am 9), .ref (am 10), .ref (am 11), .ref (am 12), .ref (am 13), .ref (am 14), .ref (am 15), .ref (am 16), .int (nI (σ.2.2 3 0 0)), .ref (am 18), .ref (am 19), .ref (am 20), .ref (am 21), .ref (am 22), .int (σ.1 2 0 0)])) := h.1 0 (by decide)
theorem oM.a4 (h : oM σ k am G) : G (am 4) = some (.inl (2, 6, .inl (fun n => σ.1 3 n 0))) := h.1 4 (by decide)
theorem oM.a5 (h : oM σ k am G) : G (am 5) = some (.inl (1, 6, .inr (.inl (fun n => σ.2.1 0 n 0)))) := h.1 5 (by decide)
theorem oM.a7 (h : oM σ k am G) : G (am 7) = some (.inl (0, 20, .inl (fun n => σ.1 4 n 0))) := h.1 7 (by decide)
theorem oM.a9 (h : oM σ k am G) : G (am 9) = some (.inl (0, 30, .inl (fun n => σ.1 6 n 0))) := h.1 9 (by decide)
theorem oM.a10 (h : oM σ k am G) : G (am 10) = some (.inl (0, 30, .inl (fun n => σ.1 5 n 0))) := h.1 10 (by decide)
theorem oM.a11 (h : oM σ k am G) : G (am 11) = some (.inl (0, 30, .inl (fun n => nI (σ.2.2 4 n 0)))) := h.1 11 (by decide)
theorem oM.a12 (h : oM σ k am G) : G (am 12) = some (.inl (0, 30, .inl (fun n => σ.1 7 n 0))) := h.1 12 (by decide)
theorem oM.a13 (h : oM σ k am G) : G (am 13) = some (.inl (0, 30, .inl (fun n => σ.1 8 n 0))) := h.1 13 (by decide)
theorem oM.a14 (h : oM σ k am G) : G (am 14) = some (.inl (0, 240, .inl (fun n => σ.1 9 (n / 8) (n % 8)))) := h.1 14 (by decide)
theorem oM.a15 (h : oM σ k am G) : G (am 15) = some (.inl (1, 240, .inr (.inl (fun n => σ.2.1 1 (n / 8) (n % 8))))) := h.1 15 (by decide)
theorem oM.a16 (h : oM σ k am G) : G (am 16) = some (.inl (2, 240, .inl (fun n => σ.1 11 (n / 8) (n % 8)))) := h.1 16 (by decide)
theorem oM.a18 (h : oM σ k am G) : G (am 18) = some (.inl (0, 20, .inl (fun n => σ.1 12 n 0))) := h.1 18 (by decide)
theorem oM.a19 (h : oM σ k am G) : G (am 19) = some (.inl (1, 20, .inr (.inl (fun n => σ.2.1 2 n 0)))) := h.1 19 (by decide)
theorem oM.a20 (h : oM σ k am G) : G (am 20) = some (.inl (0, 20, .inl (fun n => σ.1 13 n 0))) := h.1 20 (by decide)
theorem oM.a21 (h : oM σ k am G) : G (am 21) = some (.inl (0, 20, .inl (fun n => σ.1 14 n 0))) := h.1 21 (by decide)
theorem oM.a22 (h : oM σ k am G) : G (am 22) = some (.inl (2, 20, .inl (fun n => σ.1 15 n 0))) := h.1 22 (by decide)
theorem q_k (h : oM σ k am G) {v : Int32} (hG : G1 = gh_up G (am 0) (.inr (5, ([.int k, .int (σ.1 0 0 0), .int (σ.1 1 0 0), .int (nI (σ.2.2 0 0 0)), .ref (am 4), .ref (am 5), .int (nI (σ.2.2 1 0 0)), .ref (am 7), .int (nI (σ.2.2 2 0 0)), .ref (am 9), .ref (am 10), .ref (am 11), .ref (am 12), .ref (am 13), .ref (am 14), .ref (am 15), .ref (am 16), .int (nI (σ.2.2 3 0 0)), .ref (am 18), .ref (am 19), .ref (am 20), .ref (am 21), .ref (am 22), .int (σ.1 2 0 0)] : List Value).set 0 (.int v)))) : oM σ v am G1 :=
  h.put (f0 := 0) (by decide) hG (by simp [mCell, oI]) (fun f hr hne => by rcases hr with rfl | rfl | rfl | rfl | rfl | rfl | rfl | rfl | rfl | rfl | rfl | rfl | rfl | rfl | rfl | rfl | rfl <;> first | exact absurd rfl hne | rfl | (simp [mCell, oI]; done))
theorem q_I0 (h : oM σ k am G) {v : Int32} (hG : G1 = gh_up G (am 0) (.inr (5, ([.int k, .int (σ.1 0 0 0), .int (σ.1 1 0 0), .int (nI (σ.2.2 0 0 0)), .ref (am 4), .ref (am 5), .int (nI (σ.2.2 1 0 0)), .ref (am 7), .int (nI (σ.2.2 2 0 0)), .ref (am 9), .ref (am 10), .ref (am 11), .ref (am 12), .ref (am 13), .ref (am 14), .ref (am 15), .ref (am 16), .int (nI (σ.2.2 3 0 0)), .ref (am 18), .ref (am 19), .ref (am 20), .ref (am 21), .ref (am 22), .int (σ.1 2 0 0)] : List Value).set 1 (.int v)))) : oM (oI σ 0 0 0 v) k am G1 :=
  h.put (f0 := 0) (by decide) hG (by simp [mCell, oI]) (fun f hr hne => by rcases hr with rfl | rfl | rfl | rfl | rfl | rfl | rfl | rfl | rfl | rfl | rfl | rfl | rfl | rfl | rfl | rfl | rfl <;> first | exact absurd rfl hne | rfl | (simp [mCell, oI]; done))
theorem q_I1 (h : oM σ k am G) {v : Int32} (hG : G1 = gh_up G (am 0) (.inr (5, ([.int k, .int (σ.1 0 0 0), .int (σ.1 1 0 0), .int (nI (σ.2.2 0 0 0)), .ref (am 4), .ref (am 5), .int (nI (σ.2.2 1 0 0)), .ref (am 7), .int (nI (σ.2.2 2 0 0)), .ref (am 9), .ref (am 10), .ref (am 11), .ref (am 12), .ref (am 13), .ref (am 14), .ref (am 15), .ref (am 16), .int (nI (σ.2.2 3 0 0)), .ref (am 18), .ref (am 19), .ref (am 20), .ref (am 21), .ref (am 22), .int (σ.1 2 0 0)] : List Value).set 2 (.int v)))) : oM (oI σ 1 0 0 v) k am G1 :=
  h.put (f0 := 0) (by decide) hG (by simp [mCell, oI]) (fun f hr hne => by rcases hr with rfl | rfl | rfl | rfl | rfl | rfl | rfl | rfl | rfl | rfl | rfl | rfl | rfl | rfl | rfl | rfl | rfl <;> first | exact absurd rfl hne | rfl | (simp [mCell, oI]; done))
theorem q_I2 (h : oM σ k am G) {v : Int32} (hG : G1 = gh_up G (am 0) (.inr (5, ([.int k, .int (σ.1 0 0 0), .int (σ.1 1 0 0), .int (nI (σ.2.2 0 0 0)), .ref (am 4), .ref (am 5), .int (nI (σ.2.2 1 0 0)), .ref (am 7), .int (nI (σ.2.2 2 0 0)), .ref (am 9), .ref (am 10), .ref (am 11), .ref (am 12), .ref (am 13), .ref (am 14), .ref (am 15), .ref (am 16), .int (nI (σ.2.2 3 0 0)), .ref (am 18), .ref (am 19), .ref (am 20), .ref (am 21), .ref (am 22), .int (σ.1 2 0 0)] : List Value).set 23 (.int v)))) : oM (oI σ 2 0 0 v) k am G1 :=
  h.put (f0 := 0) (by decide) hG (by simp [mCell, oI]) (fun f hr hne => by rcases hr with rfl | rfl | rfl | rfl | rfl | rfl | rfl | rfl | rfl | rfl | rfl | rfl | rfl | rfl | rfl | rfl | rfl <;> first | exact absurd rfl hne | rfl | (simp [mCell, oI]; done))
theorem q_N0 (h : oM σ k am G) {v : Nat} (hG : G1 = gh_up G (am 0) (.inr (5, ([.int k, .int (σ.1 0 0 0), .int (σ.1 1 0 0), .int (nI (σ.2.2 0 0 0)), .ref (am 4), .ref (am 5), .int (nI (σ.2.2 1 0 0)), .ref (am 7), .int (nI (σ.2.2 2 0 0)), .ref (am 9), .ref (am 10), .ref (am 11), .ref (am 12), .ref (am 13), .ref (am 14), .ref (am 15), .ref (am 16), .int (nI (σ.2.2 3 0 0)), .ref (am 18), .ref (am 19), .ref (am 20), .ref (am 21), .ref (am 22), .int (σ.1 2 0 0)] : List Value).set 3 (.int (nI v))))) : oM (oN σ 0 0 0 v) k am G1 :=
  h.put (f0 := 0) (by decide) hG (by simp [mCell, oN]) (fun f hr hne => by rcases hr with rfl | rfl | rfl | rfl | rfl | rfl | rfl | rfl | rfl | rfl | rfl | rfl | rfl | rfl | rfl | rfl | rfl <;> first | exact absurd rfl hne | rfl | (simp [mCell, oN]; done))
theorem q_N1 (h : oM σ k am G) {v : Nat} (hG : G1 = gh_up G (am 0) (.inr (5, ([.int k, .int (σ.1 0 0 0), .int (σ.1 1 0 0), .int (nI (σ.2.2 0 0 0)), .ref (am 4), .ref (am 5), .int (nI (σ.2.2 1 0 0)), .ref (am 7), .int (nI (σ.2.2 2 0 0)), .ref (am 9), .ref (am 10), .ref (am 11), .ref (am 12), .ref (am 13), .ref (am 14), .ref (am 15), .ref (am 16), .int (nI (σ.2.2 3 0 0)), .ref (am 18), .ref (am 19), .ref (am 20), .ref (am 21), .ref (am 22), .int (σ.1 2 0 0)] : List Value).set 6 (.int (nI v))))) : oM (oN σ 1 0 0 v) k am G1 :=
  h.put (f0 := 0) (by decide) hG (by simp [mCell, oN]) (fun f hr hne => by rcases hr with rfl | rfl | rfl | rfl | rfl | rfl | rfl | rfl | rfl | rfl | rfl | rfl | rfl | rfl | rfl | rfl | rfl <;> first | exact absurd rfl hne | rfl | (simp [mCell, oN]; done))
theorem q_N2 (h : oM σ k am G) {v : Nat} (hG : G1 = gh_up G (am 0) (.inr (5, ([.int k, .int (σ.1 0 0 0), .int (σ.1 1 0 0), .int (nI (σ.2.2 0 0 0)), .ref (am 4), .ref (am 5), .int (nI (σ.2.2 1 0 0)), .ref (am 7), .int (nI (σ.2.2 2 0 0)), .ref (am 9), .ref (am 10), .ref (am 11), .ref (am 12), .ref (am 13), .ref (am 14), .ref (am 15), .ref (am 16), .int (nI (σ.2.2 3 0 0)), .ref (am 18), .ref (am 19), .ref (am 20), .ref (am 21), .ref (am 22), .int (σ.1 2 0 0)] : List Value).set 8 (.int (nI v))))) : oM (oN σ 2 0 0 v) k am G1 :=
  h.put (f0 := 0) (by decide) hG (by simp [mCell, oN]) (fun f hr hne => by rcases hr with rfl | rfl | rfl | rfl | rfl | rfl | rfl | rfl | rfl | rfl | rfl | rfl | rfl | rfl | rfl | rfl | rfl <;> first | exact absurd rfl hne | rfl | (simp [mCell, oN]; done))
theorem q_N3 (h : oM σ k am G) {v : Nat} (hG : G1 = gh_up G (am 0) (.inr (5, ([.int k, .int (σ.1 0 0 0), .int (σ.1 1 0 0), .int (nI (σ.2.2 0 0 0)), .ref (am 4), .ref (am 5), .int (nI (σ.2.2 1 0 0)), .ref (am 7), .int (nI (σ.2.2 2 0 0)), .ref (am 9), .ref (am 10), .ref (am 11), .ref (am 12), .ref (am 13), .ref (am 14), .ref (am 15), .ref (am 16), .int (nI (σ.2.2 3 0 0)), .ref (am 18), .ref (am 19), .ref (am 20), .ref (am 21), .ref (am 22), .int (σ.1 2 0 0)] : List Value).set 17 (.int (nI v))))) : oM (oN σ 3 0 0 v) k am G1 :=
  h.put (f0 := 0) (by decide) hG (by simp [mCell, oN]) (fun f hr hne => by rcases hr with rfl | rfl | rfl | rfl | rfl | rfl | rfl | rfl | rfl | rfl | rfl | rfl | rfl | rfl | rfl | rfl | rfl <;> first | exact absurd rfl hne | rfl | (simp [mCell, oN]; done))
theorem q_I3 (h : oM σ k am G) {i : Nat} {v : Int32} (hG : G1 = gh_up G (am 4) (.inl (2, 6, .inl (upd (fun n => σ.1 3 n 0) i v)))) : oM (oI σ 3 i 0 v) k am G1 :=
  h.put (f0 := 4) (by decide) hG (by simp [mCell, oI, upd]; first | done | rfl) (fun f hr hne => by rcases hr with rfl | rfl | rfl | rfl | rfl | rfl | rfl | rfl | rfl | rfl | rfl | rfl | rfl | rfl | rfl | rfl | rfl <;> first | exact absurd rfl hne | rfl | (simp [mCell, oI]; done))
theorem q_I4 (h : oM σ k am G) {i : Nat} {v : Int32} (hG : G1 = gh_up G (am 7) (.inl (0, 20, .inl (upd (fun n => σ.1 4 n 0) i v)))) : oM (oI σ 4 i 0 v) k am G1 :=
  h.put (f0 := 7) (by decide) hG (by simp [mCell, oI, upd]; first | done | rfl) (fun f hr hne => by rcases hr with rfl | rfl | rfl | rfl | rfl | rfl | rfl | rfl | rfl | rfl | rfl | rfl | rfl | rfl | rfl | rfl | rfl <;> first | exact absurd rfl hne | rfl | (simp [mCell, oI]; done))
theorem q_I6 (h : oM σ k am G) {i : Nat} {v : Int32} (hG : G1 = gh_up G (am 9) (.inl (0, 30, .inl (upd (fun n => σ.1 6 n 0) i v)))) : oM (oI σ 6 i 0 v) k am G1 :=
  h.put (f0 := 9) (by decide) hG (by simp [mCell, oI, upd]; first | done | rfl) (fun f hr hne => by rcases hr with rfl | rfl | rfl | rfl | rfl | rfl | rfl | rfl | rfl | rfl | rfl | rfl | rfl | rfl | rfl | rfl | rfl <;> first | exact absurd rfl hne | rfl | (simp [mCell, oI]; done))
theorem q_I5 (h : oM σ k am G) {i : Nat} {v : Int32} (hG : G1 = gh_up G (am 10) (.inl (0, 30, .inl (upd (fun n => σ.1 5 n 0) i v)))) : oM (oI σ 5 i 0 v) k am G1 :=
  h.put (f0 := 10) (by decide) hG (by simp [mCell, oI, upd]; first | done | rfl) (fun f hr hne => by rcases hr with rfl | rfl | rfl | rfl | rfl | rfl | rfl | rfl | rfl | rfl | rfl | rfl | rfl | rfl | rfl | rfl | rfl <;> first | exact absurd rfl hne | rfl | (simp [mCell, oI]; done))
theorem q_I7 (h : oM σ k am G) {i : Nat} {v : Int32} (hG : G1 = gh_up G (am 12) (.inl (0, 30, .inl (upd (fun n => σ.1 7 n 0) i v)))) : oM (oI σ 7 i 0 v) k am G1 :=
  h.put (f0 := 12) (by decide) hG (by simp [mCell, oI, upd]; first | done | rfl) (fun f hr hne => by rcases hr with rfl | rfl | rfl | rfl | rfl | rfl | rfl | rfl | rfl | rfl | rfl | rfl | rfl | rfl | rfl | rfl | rfl <;> first | exact absurd rfl hne | rfl | (simp [mCell, oI]; done))
theorem q_I8 (h : oM σ k am G) {i : Nat} {v : Int32} (hG : G1 = gh_up G (am 13) (.inl (0, 30, .inl (upd (fun n => σ.1 8 n 0) i v)))) : oM (oI σ 8 i 0 v) k am G1 :=
  h.put (f0 := 13) (by decide) hG (by simp [mCell, oI, upd]; first | done | rfl) (fun f hr hne => by rcases hr with rfl | rfl | rfl | rfl | rfl | rfl | rfl | rfl | rfl | rfl | rfl | rfl | rfl | rfl | rfl | rfl | rfl <;> first | exact absurd rfl hne | rfl | (simp [mCell, oI]; done))
theorem q_I12 (h : oM σ k am G) {i : Nat} {v : Int32} (hG : G1 = gh_up G (am 18) (.inl (0, 20, .inl (upd (fun n => σ.1 12 n 0) i v)))) : oM (oI σ 12 i 0 v) k am G1 :=
  h.put (f0 := 18) (by decide) hG (by simp [mCell, oI, upd]; first | done | rfl) (fun f hr hne => by rcases hr with rfl | rfl | rfl | rfl | rfl | rfl | rfl | rfl | rfl | rfl | rfl | rfl | rfl | rfl | rfl | rfl | rfl <;> first | exact absurd rfl hne | rfl | (simp [mCell, oI]; done))
theorem q_I13 (h : oM σ k am G) {i : Nat} {v : Int32} (hG : G1 = gh_up G (am 20) (.inl (0, 20, .inl (upd (fun n => σ.1 13 n 0) i v)))) : oM (oI σ 13 i 0 v) k am G1 :=
  h.put (f0 := 20) (by decide) hG (by simp [mCell, oI, upd]; first | done | rfl) (fun f hr hne => by rcases hr with rfl | rfl | rfl | rfl | rfl | rfl | rfl | rfl | rfl | rfl | rfl | rfl | rfl | rfl | rfl | rfl | rfl <;> first | exact absurd rfl hne | rfl | (simp [mCell, oI]; done))
theorem q_I14 (h : oM σ k am G) {i : Nat} {v : Int32} (hG : G1 = gh_up G (am 21) (.inl (0, 20, .inl (upd (fun n => σ.1 14 n 0) i v)))) : oM (oI σ 14 i 0 v) k am G1 :=
  h.put (f0 := 21) (by decide) hG (by simp [mCell, oI, upd]; first | done | rfl) (fun f hr hne => by rcases hr with rfl | rfl | rfl | rfl | rfl | rfl | rfl | rfl | rfl | rfl | rfl | rfl | rfl | rfl | rfl | rfl | rfl <;> first | exact absurd rfl hne | rfl | (simp [mCell, oI]; done))
theorem q_I15 (h : oM σ k am G) {i : Nat} {v : Int32} (hG : G1 = gh_up G (am 22) (.inl (2, 20, .inl (upd (fun n => σ.1 15 n 0) i v)))) : oM (oI σ 15 i 0 v) k am G1 :=
  h.put (f0 := 22) (by decide) hG (by simp [mCell, oI, upd]; first | done | rfl) (fun f hr hne => by rcases hr with rfl | rfl | rfl | rfl | rfl | rfl | rfl | rfl | rfl | rfl | rfl | rfl | rfl | rfl | rfl | rfl | rfl <;> first | exact absurd rfl hne | rfl | (simp [mCell, oI]; done))
theorem q_L0 (h : oM σ k am G) {i : Nat} {v : Int64} (hG : G1 = gh_up G (am 5) (.inl (1, 6, .inr (.inl (vp_updL (fun n => σ.2.1 0 n 0) i v))))) : oM (oL σ 0 i 0 v) k am G1 :=
  h.put (f0 := 5) (by decide) hG (by simp [mCell, oL, vp_updL]; first | done | rfl) (fun f hr hne => by rcases hr with rfl | rfl | rfl | rfl | rfl | rfl | rfl | rfl | rfl | rfl | rfl | rfl | rfl | rfl | rfl | rfl | rfl <;> first | exact absurd rfl hne | rfl | (simp [mCell, oL]; done))
theorem q_L2 (h : oM σ k am G) {i : Nat} {v : Int64} (hG : G1 = gh_up G (am 19) (.inl (1, 20, .inr (.inl (vp_updL (fun n => σ.2.1 2 n 0) i v))))) : oM (oL σ 2 i 0 v) k am G1 :=
  h.put (f0 := 19) (by decide) hG (by simp [mCell, oL, vp_updL]; first | done | rfl) (fun f hr hne => by rcases hr with rfl | rfl | rfl | rfl | rfl | rfl | rfl | rfl | rfl | rfl | rfl | rfl | rfl | rfl | rfl | rfl | rfl <;> first | exact absurd rfl hne | rfl | (simp [mCell, oL]; done))
theorem q_N4 (h : oM σ k am G) {i v : Nat} (hG : G1 = gh_up G (am 11) (.inl (0, 30, .inl (upd (fun n => nI (σ.2.2 4 n 0)) i (nI v))))) : oM (oN σ 4 i 0 v) k am G1 :=
  h.put (f0 := 11) (by decide) hG (by refine congrArg (fun f : Nat → Int32 => (.inl (0, 30, .inl f) : gh_E)) (?_ : _ = fun n => nI ((oN σ 4 i 0 v).2.2 4 n 0)); funext n; by_cases e : n = i <;> simp [oN, upd, e]) (fun f hr hne => by rcases hr with rfl | rfl | rfl | rfl | rfl | rfl | rfl | rfl | rfl | rfl | rfl | rfl | rfl | rfl | rfl | rfl | rfl <;> first | exact absurd rfl hne | rfl | (simp [mCell, oN]; done))
theorem q_I9 (h : oM σ k am G) {x i j : Nat} {v : Int32} (hx : x = 8 * i + j) (hj : j < 8) (hG : G1 = gh_up G (am 14) (.inl (0, 240, .inl (upd (fun n => σ.1 9 (n / 8) (n % 8)) x v)))) : oM (oI σ 9 i j v) k am G1 :=
  h.put (f0 := 14) (by decide) hG (by refine congrArg (fun f : Nat → Int32 => (.inl (0, 240, .inl f) : gh_E)) (?_ : _ = fun n => (oI σ 9 i j v).1 9 (n / 8) (n % 8)); funext n; have e : (n / 8 = i ∧ n % 8 = j) ↔ n = x := (by omega); simp [oI, upd, e]) (fun f hr hne => by rcases hr with rfl | rfl | rfl | rfl | rfl | rfl | rfl | rfl | rfl | rfl | rfl | rfl | rfl | rfl | rfl | rfl | rfl <;> first | exact absurd rfl hne | rfl | (simp [mCell, oI]; done))
theorem q_I11 (h : oM σ k am G) {x i j : Nat} {v : Int32} (hx : x = 8 * i + j) (hj : j < 8) (hG : G1 = gh_up G (am 16) (.inl (2, 240, .inl (upd (fun n => σ.1 11 (n / 8) (n % 8)) x v)))) : oM (oI σ 11 i j v) k am G1 :=
  h.put (f0 := 16) (by decide) hG (by refine congrArg (fun f : Nat → Int32 => (.inl (2, 240, .inl f) : gh_E)) (?_ : _ = fun n => (oI σ 11 i j v).1 11 (n / 8) (n % 8)); funext n; have e : (n / 8 = i ∧ n % 8 = j) ↔ n = x := (by omega); simp [oI, upd, e]) (fun f hr hne => by rcases hr with rfl | rfl | rfl | rfl | rfl | rfl | rfl | rfl | rfl | rfl | rfl | rfl | rfl | rfl | rfl | rfl | rfl <;> first | exact absurd rfl hne | rfl | (simp [mCell, oI]; done))
theorem q_L1 (h : oM σ k am G) {x i j : Nat} {v : Int64} (hx : x = 8 * i + j) (hj : j < 8) (hG : G1 = gh_up G (am 15) (.inl (1, 240, .inr (.inl (vp_updL (fun n => σ.2.1 1 (n / 8) (n % 8)) x v))))) : oM (oL σ 1 i j v) k am G1 :=
  h.put (f0 := 15) (by decide) hG (by refine congrArg (fun f : Nat → Int64 => (.inl (1, 240, .inr (.inl f)) : gh_E)) (?_ : _ = fun n => (oL σ 1 i j v).2.1 1 (n / 8) (n % 8)); funext n; have e : (n / 8 = i ∧ n % 8 = j) ↔ n = x := (by omega); simp [oL, vp_updL, e]) (fun f hr hne => by rcases hr with rfl | rfl | rfl | rfl | rfl | rfl | rfl | rfl | rfl | rfl | rfl | rfl | rfl | rfl | rfl | rfl | rfl <;> first | exact absurd rfl hne | rfl | (simp [mCell, oL]; done))
end M30
