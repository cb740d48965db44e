/-! the rows of a reversal, in the reference -/
def oCp (τ : oS) (i B j : Nat) : oS := (fun k x y => if x = B ∧ y < j ∧ k = 9 then τ.1 9 i y else if x = B ∧ y < j ∧ k = 11 then 0 else τ.1 k x y, fun k x y => if x = B ∧ y < j ∧ k = 1 then -τ.2.1 1 i y else τ.2.1 k x y, τ.2.2)
section M35
variable {n0 : Nat} {σ σ' τ : oS} {k : Int32} {am : Nat → Nat} {G : gh_H} {px : String → gh_H → Prop}
theorem m_copy_l {post : Int32 → gh_H → Prop} {b : Int32} {i B : Nat} (hi : i < 30) (hB : B < 30) (hne : i ≠ B) (hR : τ.2.2 4 i 0 ≤ 8) (e1 : b - 1 = nI i) (eB : τ.2.2 2 0 0 = B + 1)
    (hp : ∀ G', oM (oI (oI (oI (oN (oCp τ i B (τ.2.2 4 i 0)) 4 B 0 (τ.2.2 4 i 0)) 6 B 0 1) 8 B 0 b) 7 i 0 (nI (B + 1))) k am G' → post (nI (B + 1)) G') :
    ∀ (n j : Nat) (G : gh_H), j ≤ τ.2.2 4 i 0 → τ.2.2 4 i 0 - j < n → oM (oCp τ i B j) k am G → wX5_reverse_105 post px n G (am 0) b (nI (8 * i)) (nI (8 * B)) (nI j) := by
  have ecl : (nI i).toNatClampNeg = i := nI_clamp (by omega)
  have ecB : (nI B).toNatClampNeg = B := nI_clamp (by omega)
  have vi : vp_in (nI i) 30 := vp_in_nI hi (by decide)
  have vB : vp_in (nI B) 30 := vp_in_nI hB (by decide)
  intro n
  induction n with
  | zero => intro j G h1 h2; omega
  | succ n ih =>
    intro j G hj hn h
    unfold wX5_reverse_105
    rw [e1, ecl]
    refine ⟨_, _, h.a0, rfl, _, _, h.a11, vi, fun c => ?_, fun c => ?_⟩
    · have ej : j = τ.2.2 4 i 0 := by
        have := m_end (V := τ.2.2 4 i 0) (i := j) (by omega) hj c
        omega
      subst ej
      obtain ⟨ω, eω⟩ : ∃ ω, ω = oCp τ i B (τ.2.2 4 i 0) := ⟨_, rfl⟩
      rw [← eω] at h hp
      have w2 : ω.2.2 = τ.2.2 := by rw [eω]; rfl
      have o0 := h.a0
      rw [w2, eB] at o0
      have o11 := h.a11
      rw [w2] at o11
      refine ⟨_, _, o0, rfl, _, _, o0, rfl, _, _, o0, rfl, _, _, o11, vi, _, _, o11, by rw [nI_pred]; exact vB, fun G1 hG1 => ?_⟩
      rw [nI_pred, ecB] at hG1
      have hG1' : G1 = gh_up G (am 11) (.inl (0, 30, .inl (upd (fun n => nI (ω.2.2 4 n 0)) B (nI (τ.2.2 4 i 0))))) := by rw [w2]; exact hG1
      have h1 := q_N4 h hG1'
      have o1 := h1.a0
      rw [show (oN ω 4 B 0 (τ.2.2 4 i 0)).2.2 2 0 0 = B + 1 by rw [← eB, ← w2]; simp [oN]] at o1
      refine ⟨_, _, o1, rfl, _, _, o1, rfl, _, _, h1.a9, by rw [nI_pred]; exact vB, fun G2 hG2 => ?_⟩
      rw [nI_pred, ecB] at hG2
      have h2 := q_I6 h1 hG2
      have o2 := h2.a0
      rw [show (oI (oN ω 4 B 0 (τ.2.2 4 i 0)) 6 B 0 1).2.2 2 0 0 = B + 1 by rw [← eB, ← w2]; simp [oN, oI]] at o2
      refine ⟨_, _, o2, rfl, _, _, o2, rfl, _, _, h2.a13, by rw [nI_pred]; exact vB, fun G3 hG3 => ?_⟩
      rw [nI_pred, ecB] at hG3
      have h3 := q_I8 h2 hG3
      have o3 := h3.a0
      rw [show (oI (oI (oN ω 4 B 0 (τ.2.2 4 i 0)) 6 B 0 1) 8 B 0 b).2.2 2 0 0 = B + 1 by rw [← eB, ← w2]; simp [oN, oI]] at o3
      refine ⟨_, _, o3, rfl, _, _, o3, rfl, _, _, h3.a12, vi, fun G4 hG4 => ?_⟩
      have h4 := q_I7 h3 hG4
      have o4 := h4.a0
      rw [show (oI (oI (oI (oN ω 4 B 0 (τ.2.2 4 i 0)) 6 B 0 1) 8 B 0 b) 7 i 0 (nI (B + 1))).2.2 2 0 0 = B + 1 by rw [← eB, ← w2]; simp [oN, oI]] at o4
      exact ⟨_, _, o4, rfl, hp G4 h4⟩
    · have hr : j < τ.2.2 4 i 0 := m_go (V := τ.2.2 4 i 0) (i := j) hj (by omega) c
      have ef : nI (8 * i) + nI j = nI (8 * i + j) := nI_add _ _
      have et : nI (8 * B) + nI j = nI (8 * B + j) := nI_add _ _
      have ecf : (nI (8 * i + j)).toNatClampNeg = 8 * i + j := nI_clamp (by omega)
      have ect : (nI (8 * B + j)).toNatClampNeg = 8 * B + j := nI_clamp (by omega)
      have vf : vp_in (nI (8 * i + j)) 240 := vp_in_nI (by omega) (by decide)
      have vt : vp_in (nI (8 * B + j)) 240 := vp_in_nI (by omega) (by decide)
      obtain ⟨m1, m2⟩ := m_row (b := i) (j := j) (by omega)
      rw [ef, et, ecf, ect, nI_1]
      refine ⟨_, _, h.a0, rfl, _, _, h.a0, rfl, _, _, h.a14, vf, _, _, h.a14, vt, fun G1 hG1 => ?_⟩
      simp only [m1, m2] at hG1
      have h1 := q_I9 (i := B) (j := j) h rfl (by omega) hG1
      refine ⟨_, _, h1.a0, rfl, _, _, h1.a0, rfl, _, _, h1.a15, vf, _, _, h1.a15, vt, fun G2 hG2 => ?_⟩
      simp only [m1, m2] at hG2
      have h2 := q_L1 (i := B) (j := j) h1 rfl (by omega) hG2
      refine ⟨_, _, h2.a0, rfl, _, _, h2.a16, vt, fun G3 hG3 => ?_⟩
      rw [m_nar (Or.inl rfl)] at hG3
      have h3 := q_I11 (i := B) (j := j) h2 rfl (by omega) hG3
      refine ih (j + 1) G3 (by omega) (by omega) (h3.congr (fun a x y _ => ?_) (fun a x y _ => ?_) (fun a x y => rfl))
      · have ne' : ¬ (i = B ∧ j < j) := by omega
        have lt : y < j + 1 ↔ (y < j ∨ y = j) := by omega
        by_cases a1 : x = B ∧ y = j
        · obtain ⟨rfl, rfl⟩ := a1
          by_cases a9 : a = 9
          · subst a9
            simp [oCp, oI, oL]
          · by_cases a11 : a = 11
            · subst a11
              simp [oCp, oI, oL]
            · simp [oCp, oI, oL, a9, a11]
        · have a2 : ¬ (a = 9 ∧ x = B ∧ y = j) := fun z => a1 z.2
          have a3 : ¬ (a = 11 ∧ x = B ∧ y = j) := fun z => a1 z.2
          have lt' : (x = B ∧ y < j + 1) ↔ (x = B ∧ y < j) := by omega
          have l9 : (x = B ∧ y < j + 1 ∧ a = 9) ↔ (x = B ∧ y < j ∧ a = 9) := by omega
          have l11 : (x = B ∧ y < j + 1 ∧ a = 11) ↔ (x = B ∧ y < j ∧ a = 11) := by omega
          simp only [oCp, oI, oL, if_neg a2, if_neg a3, l9, l11]
      · by_cases a1 : a = 1 ∧ x = B ∧ y = j
        · obtain ⟨rfl, rfl, rfl⟩ := a1
          simp [oCp, oI, oL, hne]
        · have l1 : (x = B ∧ y < j + 1 ∧ a = 1) ↔ (x = B ∧ y < j ∧ a = 1) := by omega
          simp only [oCp, oI, oL, if_neg a1, l1]
theorem r_reverse {post : Int32 → gh_H → Prop} {b : Int32} (h : oM σ k am G) (hB : oB σ) (hI : oInv n0 σ) (hk : mK (opReverse σ b) am post) : wX5_reverse post px G (am 0) b := by
  have hb := hB.2.2.1
  unfold wX5_reverse
  refine ⟨_, h.a0, m_noBatch h hB (fun c => ⟨fun z => absurd z m_one, fun _ => ?_⟩) (fun i hi e => ⟨fun _ => ?_, fun z => absurd rfl z⟩)⟩
  · refine m_code h (fun z => absurd z (by decide)) (fun _ G4 h4 => ?_)
    exact hk.of (by unfold opReverse; rw [if_pos c]) h4
  · obtain ⟨n1, n2⟩ := oNo1_f hi (by omega) e
    have e1 : b - 1 = nI i := by rw [e, nI_pred]
    have ecl : (nI i).toNatClampNeg = i := nI_clamp (by omega)
    have v : vp_in (nI i) 30 := vp_in_nI (by omega) (by decide)
    have hR := hB.2.2.2.2 i
    have z7 : σ.1 7 i 0 = 0 ↔ ¬ 0 < σ.1 7 i 0 := by
      have := (hI.rv i).1
      rw [Int32.le_iff_toInt_le] at this
      rw [Int32.lt_iff_toInt_lt, ← Int32.toInt_inj]
      omega
    have z8 : σ.1 8 i 0 = 0 ↔ σ.1 8 i 0 ≤ 0 := by
      have := (hI.rv i).2
      rw [Int32.le_iff_toInt_le] at this
      rw [Int32.le_iff_toInt_le, ← Int32.toInt_inj]
      omega
    have no : opReverse σ b = (2, 0, σ) → wX5_reverse_65 post px G (am 0) b (am 0) 2 := fun c => by
      refine m_code h (fun z => absurd z (by decide)) (fun _ G4 h4 => ?_)
      exact hk.of c h4
    rw [e1, ecl]
    refine ⟨_, _, h.a0, rfl, _, _, h.a9, v, fun c => no ?_, fun c => ⟨_, _, h.a0, rfl, _, _, h.a12, v, fun c2 => no ?_, fun c2 => ⟨_, _, h.a0, rfl, _, _, h.a13, v, fun c3 => ⟨_, _, h.a0, rfl, fun c4 => ?_, fun c4 => ?_⟩, fun c3 => no ?_⟩⟩⟩
    · unfold opReverse; rw [if_neg n1, n2, if_pos c]
    · unfold opReverse; rw [if_neg n1, n2, if_neg (fun z => z c), if_pos (fun z => (z7.mp z) c2)]
    · have c4' : ¬ σ.2.2 2 0 0 = 30 := fun z => c4 (by rw [z]; rfl)
      have c2' := z7.mpr c2
      have c3' := z8.mpr c3
      unfold wX5_reverse_65
      refine m_code h (fun _ G4 h4 => ⟨_, _, h4.a0, rfl, _, h4.a0, m_newBatch h4 (by omega) (fun G5 h5 => ?_)⟩) (fun z => absurd rfl z)
      obtain ⟨τ, eτ⟩ : ∃ τ, τ = oNewB σ (σ.1 0 0 0) := ⟨_, rfl⟩
      rw [← eτ] at h5
      have tB : τ.2.2 2 0 0 = σ.2.2 2 0 0 + 1 := by rw [eτ]; exact oNewB_b
      have tR : τ.2.2 4 i 0 = σ.2.2 4 i 0 := by
        rw [eτ]
        have : ¬ i = σ.2.2 2 0 0 := by omega
        simp [oNewB, oN, oI, this]
      have o5 := h5.a0
      rw [tB] at o5
      refine ⟨_, _, o5, rfl, ?_⟩
      rw [nI_pred, e1, show (8 : Int32) = nI 8 from rfl, pk_mul, pk_mul]
      have hne : ¬ i = σ.2.2 2 0 0 := by omega
      refine m_copy_l (τ := τ) (B := σ.2.2 2 0 0) (by omega) (by omega) hne (by omega) e1 tB (fun G' h' => ?_) 300 0 G5 (by omega) (by omega) (h5.congr (fun a x y _ => ?_) (fun a x y _ => ?_) (fun a x y => rfl))
      · refine hk.of (by unfold opReverse; rw [if_neg n1, n2, if_neg (fun z => z c), if_neg (fun z => z c2'), if_neg (fun z => z c3'), if_neg c4']) (h'.congr (fun a x y ha => ?_) (fun a x y _ => ?_) (fun a x y => ?_))
        · rw [eτ] at tR ⊢
          rw [tR]
          by_cases ex : x = σ.2.2 2 0 0
          · subst ex
            have hne' : ¬ σ.2.2 2 0 0 = i := fun z => hne z.symm
            by_cases a5 : a = 5
            · subst a5; simp [oCp, oRev, oI, oN, oNewB]
            by_cases a6 : a = 6
            · subst a6; by_cases y0 : y = 0 <;> simp [oCp, oRev, oI, oN, oNewB, y0]
            by_cases a7 : a = 7
            · subst a7; simp [oCp, oRev, oI, oN, oNewB, hne']
            by_cases a8 : a = 8
            · subst a8; by_cases y0 : y = 0 <;> simp [oCp, oRev, oI, oN, oNewB, y0]
            by_cases a9 : a = 9
            · subst a9; simp [oCp, oRev, oI, oN, oNewB]
            by_cases a11 : a = 11
            · subst a11; simp [oCp, oRev, oI, oN, oNewB]
            simp [oCp, oRev, oI, oN, oNewB, a5, a6, a7, a8, a9, a11, ha]
          · simp [oCp, oRev, oI, oN, oNewB, ex]
        · rw [eτ] at tR ⊢
          rw [tR]
          by_cases a1 : a = 1 ∧ x = σ.2.2 2 0 0 ∧ y < σ.2.2 4 i 0
          · simp [oCp, oRev, oI, oN, oNewB, a1]
          · have a2 : ¬ (x = σ.2.2 2 0 0 ∧ y < σ.2.2 4 i 0 ∧ a = 1) := fun z => a1 ⟨z.2.2, z.1, z.2.1⟩
            simp only [oCp, oRev, oI, oN, oNewB, if_neg a1, if_neg a2]
        · rw [eτ] at tR ⊢
          rw [tR]
          by_cases a4 : a = 4 ∧ x = σ.2.2 2 0 0 ∧ y = 0
          · simp [oCp, oRev, oI, oN, oNewB, a4]
          · simp [oCp, oRev, oI, oN, oNewB, a4]
      · simp [oCp]
      · simp [oCp]
    · have c4' : σ.2.2 2 0 0 = 30 := (nI_eq (b := 30) (by omega) (by decide)).mp c4
      have c2' := z7.mpr c2
      have c3' := z8.mpr c3
      refine m_code h (fun z => absurd z (by decide)) (fun _ G4 h4 => ?_)
      exact hk.of (by unfold opReverse; rw [if_neg n1, n2, if_neg (fun z => z c), if_neg (fun z => z c2'), if_neg (fun z => z c3'), if_pos c4']) h4
    · have c2' := z7.mpr c2
      unfold opReverse; rw [if_neg n1, n2, if_neg (fun z => z c), if_neg (fun z => z c2'), if_pos (fun z => c3 (z8.mp z))]
end M35
