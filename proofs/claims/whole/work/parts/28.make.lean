section S28
variable {n0 : Nat} {σ σ' : oS} {ad ad' : Nat → Nat → Nat → Nat} {G G' : gh_H} {px : String → gh_H → Prop}
theorem c_account {post : Int32 → gh_H → Prop} {p cu : Int32} (h : oR σ ad G) (hk : oK (opAccount σ p cu) e_NAU ad post px) : wX4_account post px G (ad 0 0 0) p cu := by
  unfold wX4_account
  have hB := h.1.1
  have hB1 := h.1.2.1
  refine ⟨_, h.led, s_findOwner h (fun c => ?_) (fun k hi e => s_range32 (l := 0) (u := 2) (by decide) (by decide) (fun c => ?_) (fun c => ⟨_, _, h.led, rfl, _, _, h.led, rfl, _, _, h.arC, by decide, s_requireRoom (N := 20) hB1 (by decide) (fun c2 => ?_) (fun c2 => ⟨_, _, h.led, rfl, _, _, h.led, rfl, _, _, h.arC, vp_in_nI c2 (by decide), fun G2 hG2 => ?_⟩)⟩))⟩
  · exact hk.no (by unfold opAccount; rw [if_pos c]) h (by decide) rfl
  · exact hk.no (by unfold opAccount; rw [if_neg (oNo_f hi (by omega) e).1, if_pos c]) h (by decide) rfl
  · exact hk.no (by unfold opAccount; rw [if_neg (oNo_f hi (by omega) e).1, if_neg c, if_pos c2]) h (by decide) rfl
  · have n02 : ad 0 0 0 ≠ ad 2 0 0 := h.ne (oV0 (by decide)) (oV0 (by decide)) (by decide)
    rw [nI_clamp (by omega)] at hG2
    have e2 := gx_rd hG2 n02 h.led
    refine ⟨_, _, e2, rfl, _, e2, oLt rfl, fun G3 hG3 => ?_⟩
    refine hk.at (ad' := ad) (by unfold opAccount; rw [if_neg (oNo_f hi (by omega) e).1, if_neg c, if_neg (by omega)]) rfl rfl ?_
    refine h.grow (N := fun _ _ _ => False) (W := fun k _ _ => k = 0 ∨ k = 2) ?_ ?_ ?_ ?_ ?_ ?_ ?_ ?_
    · exact ⟨by simp [oN, oI]; exact h.1.1, by simp [oN, oI]; omega, by simp [oN, oI]; exact h.1.2.2.1, by simp [oN, oI]; exact h.1.2.2.2.1, by simp [oN, oI]; exact h.1.2.2.2.2⟩
    · intro k i j hv hn
      match k, hv, hn with
      | 0, hv, _ => exact hv
      | 1, hv, _ => exact hv
      | 2, hv, _ => exact hv
      | 3, hv, _ => exact hv
      | 4, hv, _ => exact hv
      | 5, hv, _ => simpa [oV, oN, oI] using hv
      | 6, hv, _ => simpa [oV, oN, oI] using hv
      | 7, hv, _ => simpa [oV, oN, oI] using hv
      | 8, hv, _ => simpa [oV, oN, oI] using hv
      | 9, hv, _ => simpa [oV, oN, oI] using hv
      | n + 10, hv, _ => exact hv
    · intro k i j hn
      rfl
    · intro k i j _ hn
      exact hn.elim
    · intro k i j k' i' j' _ _ a b _
      exact a.elim
    · intro k i j hv hw
      have a0 : ad k i j ≠ ad 0 0 0 := h.ne hv (oV0 (by decide)) (fun z => hw (Or.inl z.1))
      have a1 : ad k i j ≠ ad 2 0 0 := h.ne hv (oV0 (by decide)) (fun z => hw (Or.inr z.1))
      rw [hG3, gh_up_n a0, hG2, gh_up_n a1]
    · intro k i j hv hw
      rcases hw with hw | rfl | rfl
      · exact hw.elim
      · obtain ⟨_, rfl, rfl⟩ := hv
        show G3 (ad 0 0 0) = _
        rw [hG3, gh_up_s]
        simp [oCell, oN, oI, nI_1]
      · obtain ⟨_, rfl, rfl⟩ := hv
        show G3 (ad 2 0 0) = _
        rw [hG3, gh_up_n n02.symm, hG2, gh_up_s]
        refine congrArg (fun f : Nat → Int32 => (some (.inl (0, 20, .inl f)) : Option gh_E)) (?_ : _ = fun n => if n < (oN (oI σ 4 (σ.2.2 1 0 0) 0 cu) 1 0 0 (σ.2.2 1 0 0 + 1)).2.2 1 0 0 then (oN (oI σ 4 (σ.2.2 1 0 0) 0 cu) 1 0 0 (σ.2.2 1 0 0 + 1)).1 4 n 0 else 0)
        funext n
        by_cases e : n = σ.2.2 1 0 0
        · subst e; simp [upd, oN, oI]
        · have : (n < σ.2.2 1 0 0 + 1) ↔ n < σ.2.2 1 0 0 := by omega
          simp [upd, e, this, oN, oI]
    · intro k i j hv hn hw
      match k, hv, hn, hw with
      | 0, _, _, hw => exact absurd (Or.inl rfl) hw
      | 1, _, _, _ => simp [oCell, oN, oI]
      | 2, _, _, hw => exact absurd (Or.inr rfl) hw
      | 3, _, _, _ => simp [oCell, oN, oI]
      | 4, _, _, _ => simp [oCell, oN, oI]
      | 5, _, _, _ => simp [oCell, oN, oI]
      | 6, _, _, _ => simp [oCell, oN, oI]
      | 7, _, _, _ => simp [oCell, oN, oI]
      | 8, _, _, _ => simp [oCell, oN, oI]
      | 9, _, _, _ => simp [oCell, oN, oI]
      | n + 10, _, _, _ => rfl
/-- a batch is kept, if there is room -/
theorem s_keepBatch {post : Int32 → gh_H → Prop} {q : Nat} {fs : List Value} (h : oR σ ad G) (hq : G q = some (.inr (0, fs))) (hf : σ.2.2 2 0 0 = 30 → px eU G)
    (hy : σ.2.2 2 0 0 < 30 → ∀ G', (∀ x, x ≠ ad 0 0 0 → x ≠ ad 3 0 0 → G' x = G x) → G' (ad 3 0 0) = some (.inl (4, 30, .inr (.inr (.inr (.inr (va_up (fun n => if n < σ.2.2 2 0 0 then some (ad 6 n 0) else none) (σ.2.2 2 0 0) (some q))))))) →
      G' (ad 0 0 0) = some (.inr (4, [.ref (ad 1 0 0), .ref (ad 2 0 0), .ref (ad 3 0 0), .ref (ad 4 0 0), .int (nI (σ.2.2 0 0 0)), .int (nI (σ.2.2 1 0 0)), .int (nI (σ.2.2 2 0 0 + 1)), .int (nI (σ.2.2 3 0 0)), .int (σ.1 0 0 0), .int (σ.1 1 0 0), .int (σ.1 2 0 0)])) → post (nI (σ.2.2 2 0 0 + 1)) G') : wX4_keepBatch post px G (ad 0 0 0) q := by
  unfold wX4_keepBatch
  have hB := h.1.2.2.1
  refine ⟨_, _, h.led, rfl, _, _, h.led, rfl, _, _, h.arB, by decide, s_requireRoom (N := 30) hB (by decide) hf (fun c => ⟨_, _, h.led, rfl, _, _, h.led, rfl, _, _, _, _, _, h.arB, hq, rfl, vp_in_nI c (by decide), fun G2 hG2 => ?_⟩)⟩
  have n03 : ad 0 0 0 ≠ ad 3 0 0 := h.ne (oV0 (by decide)) (oV0 (by decide)) (by decide)
  rw [nI_clamp (by omega)] at hG2
  have e2 := gx_rd hG2 n03 h.led
  refine ⟨_, _, e2, rfl, _, e2, oLt rfl, fun G3 hG3 => ?_⟩
  have e3 := gx_at hG3
  refine ⟨_, _, e3, rfl, ?_⟩
  rw [nI_1]
  rw [nI_1] at e3
  refine hy c G3 (fun x a b => ?_) ?_ e3
  · rw [hG3, gh_up_n a, hG2, gh_up_n b]
  · rw [hG3, gh_up_n n03.symm, hG2, gh_up_s]
theorem s_initB {post : gh_H → Prop} {q : Nat} {m : Int32} (hq : G q = some (.inr (0, [.int 0, .null, .int 0, .int 0, .int 0, .int 0])))
    (hy : ∀ qa G', G qa = none → qa ≠ q → G' q = some (.inr (0, [.int m, .ref qa, .int 0, .int 0, .int 0, .int 0])) → G' qa = some (.inl (6, 8, .inr (.inr (.inr (.inr (fun _ => none)))))) → (∀ x, x ≠ q → x ≠ qa → G' x = G x) → post G') : wX0_init post px G q m := by
  unfold wX0_init
  refine ⟨_, hq, oLt rfl, fun G1 hG1 qa hqa G2 hG2 => ?_⟩
  have n1 : q ≠ qa := fun e => by
    rw [← e, gx_at hG1] at hqa
    cases hqa
  have e2 := gx_rd hG2 n1 (gx_at hG1)
  refine ⟨_, e2, oLt rfl, fun G3 hG3 => ⟨_, gx_at hG3, oLt rfl, fun G4 hG4 => hy qa G4 ?_ n1.symm (gx_at hG4) ?_ ?_⟩⟩
  · rw [hG1, gh_up_n n1.symm] at hqa
    exact hqa
  · rw [hG4, gh_up_n n1.symm, hG3, gh_up_n n1.symm, hG2, gh_up_s]
  · intro x a b
    rw [hG4, gh_up_n a, hG3, gh_up_n a, hG2, gh_up_n b, hG1, gh_up_n a]
theorem c_batch {post : Int32 → gh_H → Prop} {m : Int32} (h : oR σ ad G) (hk : oK (opBatch σ m) e_ASU ad post px) : wX4_batch post px G (ad 0 0 0) m := by
  unfold wX4_batch
  have hB := h.1.2.2.1
  refine ⟨_, _, h.led, rfl, s_range32 (l := 0) (u := σ.1 0 0 0) (by decide) rfl (fun c => ?_) (fun c => ⟨_, _, h.led, rfl, fun c2 q hq G1 hG1 => ?_, fun c2 => ?_⟩)⟩
  · exact hk.no (by unfold opBatch; rw [if_pos c]) h (by decide) rfl
  · refine s_initB (gx_at hG1) (fun qa G2 hqa nqa e2 ea ex => ?_)
    have x1 : gx_e G G1 := by rw [hG1]; exact gx_fr hq
    have hqa0 : G qa = none := gx_no x1 hqa
    have x2 : gx_e G G2 := fun x hx => by
      rw [ex x (fun e => hx (by rw [e]; exact hq)) (fun e => hx (by rw [e]; exact hqa0))]
      exact x1 x hx
    have h2 := h.ext x2
    refine ⟨_, h2.led, s_keepBatch h2 e2 (fun c3 => ?_) (fun c3 G3 ex3 e3 e0 => ?_)⟩
    · exact hk.no (by unfold opBatch; rw [if_neg c, if_neg (Int32.not_lt.mpr c2), if_pos c3]) h2 (by decide) rfl
    · refine hk.at (ad' := fun k i j => if k = 6 ∧ i = σ.2.2 2 0 0 ∧ j = 0 then q else if k = 7 ∧ i = σ.2.2 2 0 0 ∧ j = 0 then qa else ad k i j) (by unfold opBatch; rw [if_neg c, if_neg (Int32.not_lt.mpr c2), if_neg (by omega)]) (by simp) (by simp) ?_
      have q0 : q ≠ ad 0 0 0 := h.qn (oV0 (by decide)) hq
      have q3 : q ≠ ad 3 0 0 := h.qn (oV0 (by decide)) hq
      have qa0 : qa ≠ ad 0 0 0 := h.qn (oV0 (by decide)) hqa0
      have qa3 : qa ≠ ad 3 0 0 := h.qn (oV0 (by decide)) hqa0
      refine h.grow (N := fun k i j => (k = 6 ∨ k = 7) ∧ i = σ.2.2 2 0 0 ∧ j = 0) (W := fun k _ _ => k = 0 ∨ k = 3) ?_ ?_ ?_ ?_ ?_ ?_ ?_ ?_
      · refine ⟨by simp [oNewB, oN, oI]; exact h.1.1, by simp [oNewB, oN, oI]; exact h.1.2.1, by simp [oNewB, oN, oI]; omega, by simp [oNewB, oN, oI]; exact h.1.2.2.2.1, fun i => ?_⟩
        by_cases e : i = σ.2.2 2 0 0
        · subst e; simp [oNewB, oN, oI]
        · simp [oNewB, oN, oI, e]; exact h.1.2.2.2.2 i
      · intro k i j hv hn
        match k, hv, hn with
        | 0, hv, _ => exact hv
        | 1, hv, _ => exact hv
        | 2, hv, _ => exact hv
        | 3, hv, _ => exact hv
        | 4, hv, _ => exact hv
        | 5, hv, _ => simpa [oV, oNewB, oN, oI] using hv
        | 6, hv, hn =>
          have h1 : i < σ.2.2 2 0 0 + 1 := by simpa [oNewB, oN, oI] using hv.1
          exact ⟨Nat.lt_of_le_of_ne (Nat.le_of_lt_succ h1) (fun z => hn ⟨Or.inl rfl, z, hv.2⟩), hv.2⟩
        | 7, hv, hn =>
          have h1 : i < σ.2.2 2 0 0 + 1 := by simpa [oNewB, oN, oI] using hv.1
          exact ⟨Nat.lt_of_le_of_ne (Nat.le_of_lt_succ h1) (fun z => hn ⟨Or.inr rfl, z, hv.2⟩), hv.2⟩
        | 8, hv, _ =>
          have h1 : i < σ.2.2 2 0 0 + 1 := by simpa [oNewB, oN, oI] using hv.1
          by_cases e : i = σ.2.2 2 0 0
          · subst e
            have h2 := hv.2
            simp [oNewB, oN, oI] at h2
          · have h2 := hv.2
            simp [oNewB, oN, oI, e] at h2
            exact ⟨by omega, h2⟩
        | 9, hv, _ => simpa [oV, oNewB, oN, oI] using hv
        | n + 10, hv, _ => exact hv
      · intro k i j hn
        exact (if_neg (fun z => hn ⟨Or.inl z.1, z.2⟩)).trans (if_neg (fun z => hn ⟨Or.inr z.1, z.2⟩))
      · intro k i j _ hn
        obtain ⟨rfl | rfl, rfl, rfl⟩ := hn
        · simpa using hq
        · simpa using hqa0
      · intro k i j k' i' j' _ _ a b e
        obtain ⟨rfl | rfl, rfl, rfl⟩ := a <;> obtain ⟨rfl | rfl, rfl, rfl⟩ := b
        · exact ⟨rfl, rfl, rfl⟩
        · exact absurd (by simpa using e.symm) nqa
        · exact absurd (by simpa using e) nqa
        · exact ⟨rfl, rfl, rfl⟩
      · intro k i j hv hw
        have a0 : ad k i j ≠ ad 0 0 0 := h.ne hv (oV0 (by decide)) (fun z => hw (Or.inl z.1))
        have a1 : ad k i j ≠ ad 3 0 0 := h.ne hv (oV0 (by decide)) (fun z => hw (Or.inr z.1))
        rw [ex3 _ a0 a1, x2 _ (h.sm hv)]
      · intro k i j hv hw
        rcases hw with ⟨rfl | rfl, rfl, rfl⟩ | rfl | rfl
        · show G3 (if 6 = 6 ∧ σ.2.2 2 0 0 = σ.2.2 2 0 0 ∧ 0 = 0 then q else _) = _
          rw [if_pos ⟨rfl, rfl, rfl⟩, ex3 _ q0 q3, e2]
          simp [oCell, oNewB, oN, oI, nI_0]
        · show G3 (if 7 = 6 ∧ σ.2.2 2 0 0 = σ.2.2 2 0 0 ∧ 0 = 0 then q else if 7 = 7 ∧ σ.2.2 2 0 0 = σ.2.2 2 0 0 ∧ 0 = 0 then qa else _) = _
          rw [if_neg (fun z => absurd z.1 (by decide)), if_pos ⟨rfl, rfl, rfl⟩, ex3 _ qa0 qa3, ea]
          simp [oCell, oNewB, oN, oI]
        · obtain ⟨_, rfl, rfl⟩ := hv
          show G3 (ad 0 0 0) = _
          rw [e0]
          simp [oCell, oNewB, oN, oI]
        · obtain ⟨_, rfl, rfl⟩ := hv
          show G3 (ad 3 0 0) = _
          rw [e3]
          refine congrArg (fun f : Nat → Option Nat => (some (.inl (4, 30, .inr (.inr (.inr (.inr f))))) : Option gh_E)) (?_ : _ = fun n => if n < (oNewB σ m).2.2 2 0 0 then some (if 6 = 6 ∧ n = σ.2.2 2 0 0 ∧ 0 = 0 then q else if 6 = 7 ∧ n = σ.2.2 2 0 0 ∧ 0 = 0 then qa else ad 6 n 0) else none)
          funext n
          by_cases e : n = σ.2.2 2 0 0
          · subst e; simp [va_up, oNewB, oN, oI]
          · have : (n < σ.2.2 2 0 0 + 1) ↔ n < σ.2.2 2 0 0 := by omega
            simp [va_up, e, this, oNewB, oN, oI]
      · intro k i j hv hn hw
        match k, hv, hn, hw with
        | 0, _, _, hw => exact absurd (Or.inl rfl) hw
        | 1, _, _, _ => simp [oCell, oNewB, oN, oI]
        | 2, _, _, _ => simp [oCell, oNewB, oN, oI]
        | 3, _, _, hw => exact absurd (Or.inr rfl) hw
        | 4, _, _, _ => simp [oCell, oNewB, oN, oI]
        | 5, _, _, _ => simp [oCell, oNewB, oN, oI]
        | 6, hv, _, _ =>
          have e : i ≠ σ.2.2 2 0 0 := Nat.ne_of_lt hv.1
          simp [oCell, oNewB, oN, oI, e]
        | 7, hv, _, _ =>
          have e : i ≠ σ.2.2 2 0 0 := Nat.ne_of_lt hv.1
          simp [oCell, oNewB, oN, oI, e]
        | 8, hv, _, _ => simp [oCell, oNewB, oN, oI]
        | 9, _, _, _ => simp [oCell, oNewB, oN, oI]
        | n + 10, _, _, _ => rfl
  · exact hk.no (by unfold opBatch; rw [if_neg c, if_pos (Int32.not_le.mp c2)]) h (by decide) rfl
theorem s_initR {post : gh_H → Prop} {q : Nat} {a c : Int32} {w : Int64} (hq : G q = some (.inr (3, [.int 0, .int 0, .long 0, .int 0])))
    (hy : ∀ G', G' q = some (.inr (3, [.int a, .int c, .long w, .int 0])) → (∀ x, x ≠ q → G' x = G x) → post G') : wX3_init post px G q a c w := by
  unfold wX3_init
  refine ⟨_, hq, oLt rfl, fun G1 hG1 => ⟨_, gx_at hG1, oLt rfl, fun G2 hG2 => ⟨_, gx_at hG2, oLt rfl, fun G3 hG3 => hy G3 (gx_at hG3) (fun x hx => ?_)⟩⟩⟩
  rw [hG3, gh_up_n hx, hG2, gh_up_n hx, hG1, gh_up_n hx]
theorem c_row {post : Int32 → gh_H → Prop} {b a : Int32} {w : Int64} (h : oR σ ad G) (hk : oK (opRow σ b a w) e_NASU ad post px) : wX4_row post px G (ad 0 0 0) b a w := by
  unfold wX4_row
  have hB := h.1.2.2.1
  have hB1 := h.1.2.1
  refine ⟨_, h.led, s_findBatch h (fun c => ?_) (fun i hi e => ⟨_, h.led, s_currencyOf h (fun c => ?_) (fun k hki ek => s_range64 (fun c => ?_) (fun c => ⟨fun c2 => ⟨_, rfl, s_requireOpen h hi (fun c3 => ?_) (fun c3 q hq G1 hG1 => ?_)⟩, fun c2 => ?_⟩))⟩)⟩
  · exact hk.no (by unfold opRow; rw [if_pos c]) h (by decide) rfl
  · exact hk.no (by unfold opRow; rw [if_neg (oNo1_f hi (by omega) e).1, if_pos c]) h (by decide) rfl
  · exact hk.no (by unfold opRow; rw [if_neg (oNo1_f hi (by omega) e).1, if_neg (oNo_f hki (by omega) ek).1, if_pos c]) h (by decide) rfl
  · exact hk.no (by unfold opRow; rw [if_neg (oNo1_f hi (by omega) e).1, if_neg (oNo_f hki (by omega) ek).1, if_neg c, if_neg (fun z => c2 (oX_eq.mpr z)), (oNo1_f hi (by omega) e).2, if_pos c3]) h (by decide) rfl
  · refine s_initR (gx_at hG1) (fun G2 e2 ex2 => ?_)
    have x1 : gx_e G G1 := by rw [hG1]; exact gx_fr hq
    have x2 : gx_e G G2 := fun x hx => by
      rw [ex2 x (fun e => hx (by rw [e]; exact hq))]
      exact x1 x hx
    have h2 := h.ext x2
    have hB8 := h.1.2.2.2.2 i
    refine ⟨_, h2.bat hi, ?_⟩
    unfold wX0_addRow
    refine ⟨_, _, h2.bat hi, rfl, _, _, h2.bat hi, rfl, _, _, h2.arR hi, by decide, s_requireRoom (N := 8) hB8 (by decide) (fun c4 => ?_) (fun c4 => ⟨_, _, h2.bat hi, rfl, _, _, h2.bat hi, rfl, _, _, _, _, _, h2.arR hi, e2, rfl, vp_in_nI c4 (by decide), fun G3 hG3 => ?_⟩)⟩
    · exact hk.no (by unfold opRow; rw [if_neg (oNo1_f hi (by omega) e).1, if_neg (oNo_f hki (by omega) ek).1, if_neg c, if_neg (fun z => c2 (oX_eq.mpr z)), (oNo1_f hi (by omega) e).2, if_neg (fun z => z c3), if_pos c4]) h2 (by decide) rfl
    · have n67 : ad 6 i 0 ≠ ad 7 i 0 := h.ne ⟨hi, rfl⟩ ⟨hi, rfl⟩ (by omega)
      rw [nI_clamp (by omega)] at hG3
      have e3 := gx_rd hG3 n67 (h2.bat hi)
      refine ⟨_, _, e3, rfl, _, e3, oLt rfl, fun G4 hG4 => ?_⟩
      have e4 := gx_at hG4
      refine ⟨_, _, e4, rfl, ?_⟩
      rw [nI_1]
      rw [nI_1] at e4
      have q6 : q ≠ ad 6 i 0 := h.qn (k := 6) ⟨hi, rfl⟩ hq
      have q7 : q ≠ ad 7 i 0 := h.qn (k := 7) ⟨hi, rfl⟩ hq
      refine hk.at (ad' := fun k x j => if k = 8 ∧ x = i ∧ j = σ.2.2 4 i 0 then q else ad k x j) (by unfold opRow; rw [if_neg (oNo1_f hi (by omega) e).1, if_neg (oNo_f hki (by omega) ek).1, if_neg c, if_neg (fun z => c2 (oX_eq.mpr z)), (oNo1_f hi (by omega) e).2, if_neg (fun z => z c3), if_neg (by omega), (oNo_f hki (by omega) ek).2]) (by simp) (by simp) ?_
      refine h.grow (N := fun k x j => k = 8 ∧ x = i ∧ j = σ.2.2 4 i 0) (W := fun k x _ => (k = 6 ∨ k = 7) ∧ x = i) ?_ ?_ ?_ ?_ ?_ ?_ ?_ ?_
      · refine ⟨by simp [oAddRow, oN, oI, oL]; exact h.1.1, by simp [oAddRow, oN, oI, oL]; exact h.1.2.1, by simp [oAddRow, oN, oI, oL]; exact h.1.2.2.1, by simp [oAddRow, oN, oI, oL]; exact h.1.2.2.2.1, fun x => ?_⟩
        by_cases e : x = i
        · subst e; simp [oAddRow, oN, oI, oL]; omega
        · simp [oAddRow, oN, oI, oL, e]; exact h.1.2.2.2.2 x
      · intro k x j hv hn
        match k, hv, hn with
        | 0, hv, _ => exact hv
        | 1, hv, _ => exact hv
        | 2, hv, _ => exact hv
        | 3, hv, _ => exact hv
        | 4, hv, _ => exact hv
        | 5, hv, _ => simpa [oV, oAddRow, oN, oI, oL] using hv
        | 6, hv, hn => simpa [oV, oAddRow, oN, oI, oL] using hv
        | 7, hv, hn => simpa [oV, oAddRow, oN, oI, oL] using hv
        | 8, hv, hn =>
          have h1 : x < σ.2.2 2 0 0 := by simpa [oAddRow, oN, oI, oL] using hv.1
          by_cases e : x = i
          · subst e
            have h2 : j < σ.2.2 4 x 0 + 1 := by simpa [oAddRow, oN, oI, oL] using hv.2
            exact ⟨h1, Nat.lt_of_le_of_ne (Nat.le_of_lt_succ h2) (fun z => hn ⟨rfl, rfl, z⟩)⟩
          · have h2 := hv.2
            simp [oAddRow, oN, oI, oL, e] at h2
            exact ⟨h1, h2⟩
        | 9, hv, _ => simpa [oV, oAddRow, oN, oI, oL] using hv
        | n + 10, hv, _ => exact hv
      · intro k x j hn
        exact if_neg hn
      · intro k x j _ hn
        exact (congrArg G (if_pos hn)).trans hq
      · intro k x j k' x' j' _ _ a b _
        exact ⟨a.1.trans b.1.symm, a.2.1.trans b.2.1.symm, a.2.2.trans b.2.2.symm⟩
      · intro k x j hv hw
        have a6 : ad k x j ≠ ad 6 i 0 := h.ne hv ⟨hi, rfl⟩ (fun z => hw ⟨Or.inl z.1, z.2.1⟩)
        have a7 : ad k x j ≠ ad 7 i 0 := h.ne hv ⟨hi, rfl⟩ (fun z => hw ⟨Or.inr z.1, z.2.1⟩)
        rw [hG4, gh_up_n a6, hG3, gh_up_n a7, x2 _ (h.sm hv)]
      · intro k x j hv hw
        rcases hw with ⟨rfl, rfl, rfl⟩ | ⟨rfl | rfl, rfl⟩
        · show G4 (if 8 = 8 ∧ x = x ∧ σ.2.2 4 x 0 = σ.2.2 4 x 0 then q else _) = _
          rw [if_pos ⟨rfl, rfl, rfl⟩, hG4, gh_up_n q6, hG3, gh_up_n q7, e2]
          simp [oCell, oAddRow, oN, oI, oL]
        · obtain ⟨_, rfl⟩ := hv
          show G4 (ad 6 x 0) = _
          rw [e4]
          simp [oCell, oAddRow, oN, oI, oL]
        · obtain ⟨_, rfl⟩ := hv
          show G4 (ad 7 x 0) = _
          rw [hG4, gh_up_n n67.symm, hG3, gh_up_s]
          refine congrArg (fun f : Nat → Option Nat => (some (.inl (6, 8, .inr (.inr (.inr (.inr f))))) : Option gh_E)) (?_ : _ = fun n => if n < (oAddRow σ x a (σ.1 4 k 0) w).2.2 4 x 0 then some (if 8 = 8 ∧ x = x ∧ n = σ.2.2 4 x 0 then q else ad 8 x n) else none)
          funext n
          by_cases e : n = σ.2.2 4 x 0
          · subst e; simp [va_up, oAddRow, oN, oI, oL]
          · have : (n < σ.2.2 4 x 0 + 1) ↔ n < σ.2.2 4 x 0 := by omega
            simp [va_up, e, this, oAddRow, oN, oI, oL]
      · intro k x j hv hn hw
        match k, hv, hn, hw with
        | 0, _, _, _ => simp [oCell, oAddRow, oN, oI, oL]
        | 1, _, _, _ => simp [oCell, oAddRow, oN, oI, oL]
        | 2, _, _, _ => simp [oCell, oAddRow, oN, oI, oL]
        | 3, _, _, _ => simp [oCell, oAddRow, oN, oI, oL]
        | 4, _, _, _ => simp [oCell, oAddRow, oN, oI, oL]
        | 5, _, _, _ => simp [oCell, oAddRow, oN, oI, oL]
        | 6, hv, _, hw =>
          have e : x ≠ i := fun z => hw ⟨Or.inl rfl, z⟩
          simp [oCell, oAddRow, oN, oI, oL, e]
        | 7, hv, _, hw =>
          have e : x ≠ i := fun z => hw ⟨Or.inr rfl, z⟩
          simp [oCell, oAddRow, oN, oI, oL, e]
        | 8, hv, hn, _ =>
          have e : ¬ (x = i ∧ j = σ.2.2 4 i 0) := fun z => hn ⟨rfl, z⟩
          simp [oCell, oAddRow, oN, oI, oL, e]
        | 9, _, _, _ => simp [oCell, oAddRow, oN, oI, oL]
        | n + 10, _, _, _ => rfl
  · exact hk.no (by unfold opRow; rw [if_neg (oNo1_f hi (by omega) e).1, if_neg (oNo_f hki (by omega) ek).1, if_neg c, if_pos (oX_eq.mp c2)]) h (by decide) rfl
end S28
