/-! The class's small methods, over a ledger that stands for a state. -/
abbrev eN : String := "java/util/NoSuchElementException"
abbrev eA : String := "java/lang/IllegalArgumentException"
abbrev eS : String := "java/lang/IllegalStateException"
abbrev eU : String := "java/lang/UnsupportedOperationException"
theorem oX_idx {p : Int32} {N : Nat} (hN : N < 2 ^ 31) (c : ¬ p < 0) (c2 : p < nI N) : ∃ j, j < N ∧ p = nI j := by
  rcases pk_ix p hN with z | z | z
  · exact absurd z c
  · exact absurd c2 (Int32.not_lt.mpr z)
  · exact z
theorem oX_up {p : Int32} {n N : Nat} (hn : n ≤ N) (hN : N < 2 ^ 31) (c : ¬ p < nI N) : nI n ≤ p := Int32.le_trans (nI_le hn hN) (Int32.not_lt.mp c)
theorem oX_idx1 {p : Int32} {N : Nat} (hN : N < 2 ^ 30) (c : ¬ p < 1) (c2 : p ≤ nI N) : ∃ j, j < N ∧ p = nI (j + 1) ∧ p - 1 = nI j := by
  have h0 : ¬ p < 0 := fun z => c (Int32.lt_of_lt_of_le z (by decide))
  obtain ⟨j, hj, rfl⟩ := oX_idx (N := N + 1) (by omega) h0 (Int32.lt_of_le_of_lt c2 (nI_lt (by omega) (by omega)))
  have h1 : 1 ≤ j := by
    rcases Nat.eq_zero_or_pos j with z | z
    · subst z; exact absurd (show nI 0 < 1 by decide) c
    · exact z
  obtain ⟨k, rfl⟩ : ∃ k, j = k + 1 := ⟨j - 1, by omega⟩
  exact ⟨k, by omega, rfl, nI_pred k⟩
section S1
variable {σ : oS} {ad : Nat → Nat → Nat → Nat} {G : gh_H} {px : String → gh_H → Prop}
theorem s_requireRange {post : gh_H → Prop} {a b c : Int64} (h1 : a < b ∨ c < a → px eA G) (h2 : ¬ a < b → ¬ c < a → post G) : wX4_requireRange post px G a b c := by
  unfold wX4_requireRange
  exact ⟨fun c1 => h1 (Or.inl (oX_lt.mp c1)), fun c1 => ⟨fun c2 => h2 (fun z => c1 (oX_lt.mpr z)) (Int64.not_lt.mpr (oX_le.mp c2)), fun c2 => h1 (Or.inr (Int64.not_le.mp (fun z => c2 (oX_le.mpr z))))⟩⟩
theorem s_requireRoom {post : gh_H → Prop} {n N : Nat} (hn : n ≤ N) (hN : N < 2 ^ 31) (h1 : n = N → px eU G) (h2 : n < N → post G) : wX4_requireRoom post px G (nI n) (nI N) := by
  unfold wX4_requireRoom
  refine ⟨fun c => absurd c (nI_pos (by omega)), fun _ => ⟨fun c => h2 ((nI_ltI (by omega) hN).mp c), fun c => h1 ?_⟩⟩
  have := mt (nI_ltI (a := n) (b := N) (by omega) hN).mpr c
  omega
theorem s_findOwner {post : Option Nat → gh_H → Prop} {p : Int32} (h : oR σ ad G) (hn : p < 0 ∨ nI (σ.2.2 0 0 0) ≤ p → px eN G) (hy : ∀ i, i < σ.2.2 0 0 0 → p = nI i → post (some (ad 5 i 0)) G) : wX4_findOwner post px G (ad 0 0 0) p := by
  have hB := h.1
  unfold wX4_findOwner
  refine ⟨fun c => ⟨fun _ => hn (Or.inl c), fun _ e => by cases e⟩, fun c => ⟨_, _, h.led, rfl, _, _, h.arO, by decide, fun c2 => ?_, fun c2 => ⟨fun _ => hn (Or.inr (oX_up hB.1 (by decide) c2)), fun _ e => by cases e⟩⟩⟩
  obtain ⟨j, hj, rfl⟩ := oX_idx (N := 6) (by decide) c c2
  refine ⟨_, _, h.led, rfl, _, _, _, h.arO, rfl, vp_in_nI hj (by decide), fun o eo => ?_⟩
  rw [nI_clamp (show j < 2 ^ 31 by omega)] at eo
  by_cases hi : j < σ.2.2 0 0 0
  · simp only [if_pos hi] at eo
    subst eo
    exact ⟨fun e => (by cases e), fun a e => by cases e; exact hy j hi rfl⟩
  · simp only [if_neg hi] at eo
    subst eo
    exact ⟨fun _ => hn (Or.inr (nI_le (by omega) (by omega))), fun a e => by cases e⟩
theorem s_currencyOf {post : Int32 → gh_H → Prop} {p : Int32} (h : oR σ ad G) (hn : p < 0 ∨ nI (σ.2.2 1 0 0) ≤ p → px eN G) (hy : ∀ i, i < σ.2.2 1 0 0 → p = nI i → post (σ.1 4 i 0) G) : wX4_currencyOf post px G (ad 0 0 0) p := by
  have hB := h.1.2.1
  unfold wX4_currencyOf
  refine ⟨fun c => hn (Or.inl c), fun c => ⟨_, _, h.led, rfl, fun c2 => hn (Or.inr c2), fun c2 => ⟨_, _, h.led, rfl, _, _, h.arC, by decide, fun c3 => ?_, fun c3 => hn (Or.inr (oX_up hB (by decide) c3))⟩⟩⟩
  obtain ⟨j, hj, rfl⟩ := oX_idx (N := 20) (by decide) c c3
  refine ⟨_, _, h.led, rfl, _, _, h.arC, vp_in_nI hj (by decide), ?_⟩
  have hi : j < σ.2.2 1 0 0 := (nI_ltI (by omega) (by omega)).mp (Int32.not_le.mp c2)
  rw [nI_clamp (show j < 2 ^ 31 by omega)]
  simp only [if_pos hi]
  exact hy j hi rfl
theorem s_findBatch {post : Option Nat → gh_H → Prop} {p : Int32} (h : oR σ ad G) (hn : p < 1 ∨ nI (σ.2.2 2 0 0) < p → px eN G) (hy : ∀ i, i < σ.2.2 2 0 0 → p = nI (i + 1) → post (some (ad 6 i 0)) G) : wX4_findBatch post px G (ad 0 0 0) p := by
  have hB := h.1.2.2.1
  unfold wX4_findBatch
  refine ⟨fun c => ⟨fun _ => hn (Or.inl c), fun _ e => by cases e⟩, fun c => ⟨_, _, h.led, rfl, _, _, h.arB, by decide, fun c2 => ?_, fun c2 => ⟨fun _ => hn (Or.inr (Int32.lt_of_le_of_lt (nI_le hB (by decide)) (Int32.not_le.mp c2))), fun _ e => by cases e⟩⟩⟩
  obtain ⟨j, hj, e1, e2⟩ := oX_idx1 (N := 30) (by decide) c c2
  refine ⟨_, _, h.led, rfl, _, _, _, h.arB, rfl, by rw [e2]; exact vp_in_nI hj (by decide), fun o eo => ?_⟩
  rw [e2, nI_clamp (show j < 2 ^ 31 by omega)] at eo
  by_cases hi : j < σ.2.2 2 0 0
  · simp only [if_pos hi] at eo
    subst eo
    exact ⟨fun e => (by cases e), fun a e => by cases e; exact hy j hi e1⟩
  · simp only [if_neg hi] at eo
    subst eo
    exact ⟨fun _ => hn (Or.inr (by rw [e1]; exact nI_lt (by omega) (by omega))), fun a e => by cases e⟩
theorem s_findInvoice {post : Option Nat → gh_H → Prop} {p : Int32} (h : oR σ ad G) (hn : p < 1 ∨ nI (σ.2.2 3 0 0) < p → px eN G) (hy : ∀ i, i < σ.2.2 3 0 0 → p = nI (i + 1) → post (some (ad 9 i 0)) G) : wX4_findInvoice post px G (ad 0 0 0) p := by
  have hB := h.1.2.2.2.1
  unfold wX4_findInvoice
  refine ⟨fun c => ⟨fun _ => hn (Or.inl c), fun _ e => by cases e⟩, fun c => ⟨_, _, h.led, rfl, _, _, h.arV, by decide, fun c2 => ?_, fun c2 => ⟨fun _ => hn (Or.inr (Int32.lt_of_le_of_lt (nI_le hB (by decide)) (Int32.not_le.mp c2))), fun _ e => by cases e⟩⟩⟩
  obtain ⟨j, hj, e1, e2⟩ := oX_idx1 (N := 20) (by decide) c c2
  refine ⟨_, _, h.led, rfl, _, _, _, h.arV, rfl, by rw [e2]; exact vp_in_nI hj (by decide), fun o eo => ?_⟩
  rw [e2, nI_clamp (show j < 2 ^ 31 by omega)] at eo
  by_cases hi : j < σ.2.2 3 0 0
  · simp only [if_pos hi] at eo
    subst eo
    exact ⟨fun e => (by cases e), fun a e => by cases e; exact hy j hi e1⟩
  · simp only [if_neg hi] at eo
    subst eo
    exact ⟨fun _ => hn (Or.inr (by rw [e1]; exact nI_lt (by omega) (by omega))), fun a e => by cases e⟩
theorem s_findRow {post : Option Nat → gh_H → Prop} {p : Int32} {i : Nat} (h : oR σ ad G) (hb : i < σ.2.2 2 0 0) (hn : p < 0 ∨ nI (σ.2.2 4 i 0) ≤ p → px eN G) (hy : ∀ j, j < σ.2.2 4 i 0 → p = nI j → post (some (ad 8 i j)) G) : wX4_findRow post px G (ad 6 i 0) p := by
  have hB := h.1.2.2.2.2 i
  unfold wX4_findRow
  refine ⟨fun c => ⟨fun _ => hn (Or.inl c), fun _ e => by cases e⟩, fun c => ⟨_, _, h.bat hb, rfl, _, _, h.arR hb, by decide, fun c2 => ?_, fun c2 => ⟨fun _ => hn (Or.inr (oX_up hB (by decide) c2)), fun _ e => by cases e⟩⟩⟩
  obtain ⟨j, hj, rfl⟩ := oX_idx (N := 8) (by decide) c c2
  refine ⟨_, _, h.bat hb, rfl, _, _, _, h.arR hb, rfl, vp_in_nI hj (by decide), fun o eo => ?_⟩
  rw [nI_clamp (show j < 2 ^ 31 by omega)] at eo
  by_cases hi : j < σ.2.2 4 i 0
  · simp only [if_pos hi] at eo
    subst eo
    exact ⟨fun e => (by cases e), fun a e => by cases e; exact hy j hi rfl⟩
  · simp only [if_neg hi] at eo
    subst eo
    exact ⟨fun _ => hn (Or.inr (nI_le (by omega) (by omega))), fun a e => by cases e⟩
theorem s_requireOpen {post : gh_H → Prop} {i : Nat} (h : oR σ ad G) (hb : i < σ.2.2 2 0 0) (h1 : ¬ σ.1 6 i 0 = 0 → px eS G) (h2 : σ.1 6 i 0 = 0 → post G) : wX4_requireOpen post px G (ad 6 i 0) := by
  unfold wX4_requireOpen
  exact ⟨_, _, h.bat hb, rfl, h2, h1⟩
theorem s_isOverdue {post : Int32 → gh_H → Prop} {i : Nat} {m : Int32} (h : oR σ ad G) (hi : i < σ.2.2 3 0 0) (h1 : (0 < σ.2.1 2 i 0 ∧ σ.1 15 i 0 = 0 ∧ σ.1 13 i 0 < m) → post 1 G) (h0 : ¬ (0 < σ.2.1 2 i 0 ∧ σ.1 15 i 0 = 0 ∧ σ.1 13 i 0 < m) → post 0 G) : wX1_isOverdue post px G (ad 9 i 0) m := by
  unfold wX1_isOverdue
  refine ⟨_, _, h.inv hi, rfl, fun c => h0 (fun z => Int64.not_lt.mpr (oX_le.mp c) z.1), fun c => ⟨_, _, h.inv hi, rfl, fun c2 => h0 (fun z => c2 z.2.1), fun c2 => ⟨_, _, h.inv hi, rfl, fun c3 => h0 (fun z => Int32.not_lt.mpr c3 z.2.2), fun c3 => h1 ⟨Int64.not_le.mp (fun z => c (oX_le.mpr z)), c2, Int32.not_le.mp c3⟩⟩⟩⟩
theorem s_monthsOverdue {post : Int32 → gh_H → Prop} {i : Nat} {m : Int32} (h : oR σ ad G) (hi : i < σ.2.2 3 0 0) (h1 : (0 < σ.2.1 2 i 0 ∧ σ.1 15 i 0 = 0 ∧ σ.1 13 i 0 < m) → post (m - σ.1 13 i 0) G) (h0 : ¬ (0 < σ.2.1 2 i 0 ∧ σ.1 15 i 0 = 0 ∧ σ.1 13 i 0 < m) → post 0 G) : wX1_monthsOverdue post px G (ad 9 i 0) m := by
  unfold wX1_monthsOverdue
  refine ⟨_, h.inv hi, s_isOverdue h hi (fun c => ⟨fun z => absurd z (by decide), fun _ => ⟨_, _, h.inv hi, rfl, h1 c⟩⟩) (fun c => ⟨fun _ => h0 c, fun z => absurd rfl z⟩)⟩
def oFst (f : Nat → Int32) : Nat → Nat → Option Nat
  | 0, _ => none
  | k + 1, i => if f i = 0 then oFst f k (i + 1) else some i
theorem s_range32 {post : gh_H → Prop} {p l u : Int32} {L M : Int64} (hL : l.toInt64 = L) (hM : u.toInt64 = M) (h1 : p < l ∨ u < p → px eA G) (h2 : ¬ (p < l ∨ u < p) → post G) : wX4_requireRange post px G p.toInt64 L M := by
  subst hL; subst hM
  refine s_requireRange (fun z => h1 ?_) (fun z1 z2 => h2 (fun z => ?_))
  · rcases z with z | z
    · exact Or.inl (oX_i2l_lt.mp z)
    · exact Or.inr (oX_i2l_lt.mp z)
  · rcases z with z | z
    · exact z1 (oX_i2l_lt.mpr z)
    · exact z2 (oX_i2l_lt.mpr z)
theorem s_range64 {post : gh_H → Prop} {p L M : Int64} (h1 : p < L ∨ M < p → px eA G) (h2 : ¬ (p < L ∨ M < p) → post G) : wX4_requireRange post px G p L M :=
  s_requireRange h1 (fun z1 z2 => h2 (fun z => z.elim z1 z2))
theorem s_takeFrom {post : Int64 → gh_H → Prop} {q : Nat} {c : Int64} {f0 f1 f3 f4 : Value} {w : Int64} (he : G q = some (.inr (1, [f0, f1, .long w, f3, f4]))) (hp : ∀ G1, G1 = gh_up G q (.inr (1, [f0, f1, .long (w - (if c < w then c else w)), f3, f4])) → post (c - (if c < w then c else w)) G1) : wX1_takeFrom post px G q c := by
  unfold wX1_takeFrom
  exact ⟨_, _, he, rfl, _, _, he, rfl, _, he, Nat.succ_lt_succ (Nat.succ_lt_succ (Nat.succ_pos _)), hp⟩
end S1
