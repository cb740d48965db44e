/-! The class's calls that make cells. -/
abbrev gx_e (G0 G : gh_H) : Prop := ∀ x, G0 x ≠ none → G x = G0 x
theorem gx_fr {G : gh_H} {q : Nat} {c : gh_E} (hq : G q = none) : gx_e G (gh_up G q c) := fun x hx => gh_up_n (fun e => hx (by rw [e]; exact hq))
theorem gx_wr {G0 G : gh_H} {q : Nat} {c : gh_E} (h : gx_e G0 G) (hq : G0 q = none) : gx_e G0 (gh_up G q c) := fun x hx => by
  rw [gh_up_n (fun e => hx (by rw [e]; exact hq))]
  exact h x hx
theorem gx_no {G0 G : gh_H} {q : Nat} (h : gx_e G0 G) (hq : G q = none) : G0 q = none := by
  cases e : G0 q with
  | none => rfl
  | some v =>
    have := h q (by rw [e]; exact fun z => (by cases z))
    rw [hq, e] at this
    cases this
theorem gx_rd {G1 G2 : gh_H} {a b : Nat} {x : gh_E} {y : Option gh_E} (hG : G2 = gh_up G1 a x) (n : b ≠ a) (h : G1 b = y) : G2 b = y := by
  rw [hG, gh_up_n n]
  exact h
theorem gx_at {G1 G2 : gh_H} {a : Nat} {x : gh_E} (hG : G2 = gh_up G1 a x) : G2 a = some x := by
  rw [hG, gh_up_s]
section S27
variable {n0 : Nat} {σ σ' : oS} {ad ad' : Nat → Nat → Nat → Nat} {G G' : gh_H} {px : String → gh_H → Prop}
theorem oR.ext (h : oR σ ad G) (hx : gx_e G G') : oR σ ad G' :=
  ⟨h.1, fun k i j hk => by rw [hx _ (by rw [h.2.1 k i j hk]; exact fun z => (by cases z)), h.2.1 k i j hk], h.2.2⟩
theorem oR.ne (h : oR σ ad G) {k i j k' i' j' : Nat} (a : oV σ k i j) (b : oV σ k' i' j') (n : ¬ (k = k' ∧ i = i' ∧ j = j')) : ad k i j ≠ ad k' i' j' := fun e => n (h.2.2 _ _ _ _ _ _ a b e)
theorem oR.nq (h : oR σ ad G) {k i j q : Nat} (a : oV σ k i j) (hq : G q = none) : ad k i j ≠ q := h.fresh hq k i j a
theorem oR.qn (h : oR σ ad G) {k i j q : Nat} (a : oV σ k i j) (hq : G q = none) : q ≠ ad k i j := fun e => h.fresh hq k i j a e.symm
theorem oR.sm (h : oR σ ad G) {k i j : Nat} (a : oV σ k i j) : G (ad k i j) ≠ none := by
  rw [h.2.1 k i j a]
  exact fun z => (by cases z)
theorem oV0 {k : Nat} (hk : k ≤ 4) : oV σ k 0 0 := by
  rcases (show k = 0 ∨ k = 1 ∨ k = 2 ∨ k = 3 ∨ k = 4 by omega) with rfl | rfl | rfl | rfl | rfl <;> exact ⟨by decide, rfl, rfl⟩
theorem oR.grow (h : oR σ ad G) {N W : Nat → Nat → Nat → Prop} (hB : oB σ')
    (hV : ∀ k i j, oV σ' k i j → ¬ N k i j → oV σ k i j)
    (hA : ∀ k i j, ¬ N k i j → ad' k i j = ad k i j)
    (hN : ∀ k i j, oV σ' k i j → N k i j → G (ad' k i j) = none)
    (hI : ∀ k i j k' i' j', oV σ' k i j → oV σ' k' i' j' → N k i j → N k' i' j' → ad' k i j = ad' k' i' j' → k = k' ∧ i = i' ∧ j = j')
    (hG : ∀ k i j, oV σ k i j → ¬ W k i j → G' (ad k i j) = G (ad k i j))
    (hW : ∀ k i j, oV σ' k i j → N k i j ∨ W k i j → G' (ad' k i j) = some (oCell σ' ad' k i j))
    (hC : ∀ k i j, oV σ k i j → ¬ N k i j → ¬ W k i j → oCell σ' ad' k i j = oCell σ ad k i j) : oR σ' ad' G' := by
  refine ⟨hB, fun k i j hk => ?_, fun k i j k' i' j' a b e => ?_⟩
  · by_cases n : N k i j
    · exact hW k i j hk (Or.inl n)
    · by_cases w : W k i j
      · exact hW k i j hk (Or.inr w)
      · have v := hV k i j hk n
        rw [hA k i j n, hG k i j v w, h.2.1 k i j v, hC k i j v n w]
  · by_cases n : N k i j <;> by_cases n' : N k' i' j'
    · exact hI k i j k' i' j' a b n n' e
    · exfalso
      have v := h.sm (hV k' i' j' b n')
      rw [← hA k' i' j' n', ← e] at v
      exact v (hN k i j a n)
    · exfalso
      have v := h.sm (hV k i j a n)
      rw [← hA k i j n, e] at v
      exact v (hN k' i' j' b n')
    · rw [hA k i j n, hA k' i' j' n'] at e
      exact h.2.2 _ _ _ _ _ _ (hV _ _ _ a n) (hV _ _ _ b n') e
theorem oK.at {V : Type} {r : Nat × V × oS} {E : Nat → String} {post : V → gh_H → Prop} {v : V} (hk : oK r E ad post px) (hr : r = (0, v, σ')) (h0 : ad' 0 0 0 = ad 0 0 0) (h10 : ad' 10 0 0 = ad 10 0 0) (h : oR σ' ad' G') : post v G' := by
  subst hr
  exact (hk ad' G' h0 h10 h).1 rfl
theorem c_owner {post : Int32 → gh_H → Prop} (h : oR σ ad G) (hI : oInv n0 σ) (hk : oK (opOwner σ) e_U ad post px) : wX4_owner post px G (ad 0 0 0) := by
  unfold wX4_owner
  have hB := h.1.1
  refine ⟨_, _, h.led, rfl, _, _, h.led, rfl, _, _, h.arO, by decide, s_requireRoom (N := 6) hB (by decide) (fun c => ?_) (fun c => ⟨_, _, h.led, rfl, _, _, h.led, rfl, fun q hq G1 hG1 => ?_⟩)⟩
  · exact hk.no (by unfold opOwner; rw [if_pos c]) h (by decide) rfl
  · have h1 : oR σ ad G1 := h.ext (by rw [hG1]; exact gx_fr hq)
    have e1 : G1 q = some (.inr (2, [.long 0, .int 0])) := by rw [hG1]; exact gh_up_s ..
    have n01 : ad 0 0 0 ≠ ad 1 0 0 := h.ne (oV0 (by decide)) (oV0 (by decide)) (by decide)
    refine ⟨_, _, _, _, _, h1.arO, e1, rfl, vp_in_nI c (by decide), fun G2 hG2 => ?_⟩
    rw [nI_clamp (by omega)] at hG2
    have e2 := gx_rd hG2 n01 h1.led
    refine ⟨_, _, e2, rfl, _, e2, oLt rfl, fun G3 hG3 => ?_⟩
    refine hk.at (ad' := fun k i j => if k = 5 ∧ i = σ.2.2 0 0 0 ∧ j = 0 then q else ad k i j) (by unfold opOwner; rw [if_neg (by omega)]) (by simp) (by simp) ?_
    have nq0 : q ≠ ad 0 0 0 := h.qn (oV0 (by decide)) hq
    have nq1 : q ≠ ad 1 0 0 := h.qn (oV0 (by decide)) hq
    refine h.grow (N := fun k i j => k = 5 ∧ i = σ.2.2 0 0 0 ∧ j = 0) (W := fun k _ _ => k = 0 ∨ k = 1) ?_ ?_ ?_ ?_ ?_ ?_ ?_ ?_
    · exact ⟨by simp [oN]; omega, by simp [oN]; exact h.1.2.1, by simp [oN]; exact h.1.2.2.1, by simp [oN]; exact h.1.2.2.2.1, by simp [oN]; exact h.1.2.2.2.2⟩
    · intro k i j hv hn
      match k, hv, hn with
      | 0, hv, _ => exact hv
      | 1, hv, _ => exact hv
      | 2, hv, _ => exact hv
      | 3, hv, _ => exact hv
      | 4, hv, _ => exact hv
      | 5, hv, hn =>
        have h1 : i < σ.2.2 0 0 0 + 1 := by simpa [oN] using hv.1
        have h2 := hv.2
        exact ⟨Nat.lt_of_le_of_ne (Nat.le_of_lt_succ h1) (fun z => hn ⟨rfl, z, h2⟩), h2⟩
      | 6, hv, _ => simpa [oV, oN] using hv
      | 7, hv, _ => simpa [oV, oN] using hv
      | 8, hv, _ => simpa [oV, oN] using hv
      | 9, hv, _ => simpa [oV, oN] using hv
      | n + 10, hv, _ => exact hv
    · intro k i j hn
      exact if_neg hn
    · intro k i j _ hn
      exact (congrArg G (if_pos hn)).trans hq
    · intro k i j k' i' j' _ _ a b _
      exact ⟨a.1.trans b.1.symm, a.2.1.trans b.2.1.symm, a.2.2.trans b.2.2.symm⟩
    · intro k i j hv hw
      have a0 : ad k i j ≠ ad 0 0 0 := h.ne hv (oV0 (by decide)) (fun z => hw (Or.inl z.1))
      have a1 : ad k i j ≠ ad 1 0 0 := h.ne hv (oV0 (by decide)) (fun z => hw (Or.inr z.1))
      rw [hG3, gh_up_n a0, hG2, gh_up_n a1, hG1, gh_up_n (h.nq hv hq)]
    · intro k i j hv hw
      rcases hw with ⟨rfl, rfl, rfl⟩ | rfl | rfl
      · show G3 (if 5 = 5 ∧ σ.2.2 0 0 0 = σ.2.2 0 0 0 ∧ 0 = 0 then q else _) = _
        rw [if_pos ⟨rfl, rfl, rfl⟩, hG3, gh_up_n nq0, hG2, gh_up_n nq1, e1]
        simp [oCell, oN, (hI.no _ (Nat.le_refl _)).1, (hI.no _ (Nat.le_refl _)).2]
      · obtain ⟨_, rfl, rfl⟩ := hv
        show G3 (ad 0 0 0) = _
        rw [hG3, gh_up_s]
        simp [oCell, oN, nI_1]
      · obtain ⟨_, rfl, rfl⟩ := hv
        show G3 (ad 1 0 0) = _
        rw [hG3, gh_up_n n01.symm, hG2, gh_up_s]
        refine congrArg (fun f : Nat → Option Nat => (some (.inl (3, 6, .inr (.inr (.inr (.inr f))))) : Option gh_E)) (?_ : _ = fun n => if n < (oN σ 0 0 0 (σ.2.2 0 0 0 + 1)).2.2 0 0 0 then some (if 5 = 5 ∧ n = σ.2.2 0 0 0 ∧ 0 = 0 then q else ad 5 n 0) else none)
        funext n
        by_cases e : n = σ.2.2 0 0 0
        · subst e; simp [va_up, oN]
        · have : (n < σ.2.2 0 0 0 + 1) ↔ n < σ.2.2 0 0 0 := by omega
          simp [va_up, e, this, oN]
    · intro k i j hv hn hw
      match k, hv, hn, hw with
      | 0, _, _, hw => exact absurd (Or.inl rfl) hw
      | 1, _, _, hw => exact absurd (Or.inr rfl) hw
      | 2, _, _, _ => simp [oCell, oN]
      | 3, _, _, _ => simp [oCell, oN]
      | 4, _, _, _ => simp [oCell, oN]
      | 5, _, _, _ => simp [oCell, oN]
      | 6, _, _, _ => simp [oCell, oN]
      | 7, _, _, _ => simp [oCell, oN]
      | 8, _, _, _ => simp [oCell, oN]
      | 9, _, _, _ => simp [oCell, oN]
      | n + 10, _, _, _ => rfl
end S27
