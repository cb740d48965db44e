section M33
variable {n0 : Nat} {σ σ' : oS} {k : Int32} {am : Nat → Nat} {G : gh_H} {px : String → gh_H → Prop}
theorem q_cI {c x i j : Nat} {v : Int32} (h : oM (oI σ c x j v) k am G) (hx : x = i) : oM (oI σ c i j v) k am G := hx ▸ h
theorem q_cL {c x i j : Nat} {v : Int64} (h : oM (oL σ c x j v) k am G) (hx : x = i) : oM (oL σ c i j v) k am G := hx ▸ h
theorem q_cN {c x i j v : Nat} (h : oM (oN σ c x j v) k am G) (hx : x = i) : oM (oN σ c i j v) k am G := hx ▸ h
theorem m_newBatch {post : gh_H → Prop} {m : Int32} (h : oM σ k am G) (hb : σ.2.2 2 0 0 < 30) (hp : ∀ G', oM (oNewB σ m) k am G' → post G') : wX5_newBatch post px G (am 0) m := by
  unfold wX5_newBatch
  have v : vp_in (nI (σ.2.2 2 0 0)) 30 := vp_in_nI hb (by decide)
  have ecl : (nI (σ.2.2 2 0 0)).toNatClampNeg = σ.2.2 2 0 0 := nI_clamp (by omega)
  refine ⟨_, _, h.a0, rfl, _, _, h.a0, rfl, _, _, h.a10, v, fun G1 hG1 => ?_⟩
  rw [ecl] at hG1
  have h1 := q_I5 h hG1
  refine ⟨_, _, h1.a0, rfl, _, _, h1.a0, rfl, _, _, h1.a9, v, fun G2 hG2 => ?_⟩
  have h2 : oM (oI (oI σ 5 (σ.2.2 2 0 0) 0 m) 6 (σ.2.2 2 0 0) 0 0) k am G2 := q_cI (q_I6 h1 hG2) ecl
  refine ⟨_, _, h2.a0, rfl, _, _, h2.a0, rfl, _, _, h2.a11, v, fun G3 hG3 => ?_⟩
  have h3 : oM (oN (oI (oI σ 5 (σ.2.2 2 0 0) 0 m) 6 (σ.2.2 2 0 0) 0 0) 4 (σ.2.2 2 0 0) 0 0) k am G3 := q_cN (q_N4 (v := 0) h2 hG3) ecl
  have b3 : (oN (oI (oI σ 5 (σ.2.2 2 0 0) 0 m) 6 (σ.2.2 2 0 0) 0 0) 4 (σ.2.2 2 0 0) 0 0).2.2 2 0 0 = σ.2.2 2 0 0 := by simp [oN, oI]
  have o3 := h3.a0
  rw [b3] at o3
  refine ⟨_, _, o3, rfl, _, _, o3, rfl, _, _, h3.a12, v, fun G4 hG4 => ?_⟩
  have h4 := q_cI (q_I7 h3 hG4) ecl
  have o4 := h4.a0
  rw [show (oI (oN (oI (oI σ 5 (σ.2.2 2 0 0) 0 m) 6 (σ.2.2 2 0 0) 0 0) 4 (σ.2.2 2 0 0) 0 0) 7 (σ.2.2 2 0 0) 0 0).2.2 2 0 0 = σ.2.2 2 0 0 from b3] at o4
  refine ⟨_, _, o4, rfl, _, _, o4, rfl, _, _, h4.a13, v, fun G5 hG5 => ?_⟩
  have h5 := q_cI (q_I8 h4 hG5) ecl
  have o5 := h5.a0
  rw [show (oI (oI (oN (oI (oI σ 5 (σ.2.2 2 0 0) 0 m) 6 (σ.2.2 2 0 0) 0 0) 4 (σ.2.2 2 0 0) 0 0) 7 (σ.2.2 2 0 0) 0 0) 8 (σ.2.2 2 0 0) 0 0).2.2 2 0 0 = σ.2.2 2 0 0 from b3] at o5
  refine ⟨_, _, o5, rfl, _, h5.a0, oLt rfl, fun G6 hG6 => ?_⟩
  rw [nI_1] at hG6
  exact hp G6 (q_N2 (v := σ.2.2 2 0 0 + 1) h5 hG6)
theorem oNewB_b {m : Int32} : (oNewB σ m).2.2 2 0 0 = σ.2.2 2 0 0 + 1 := by simp [oNewB, oN, oI]
theorem r_batch {post : Int32 → gh_H → Prop} {m : Int32} (h : oM σ k am G) (hB : oB σ) (hk : mK (opBatch σ m) am post) : wX5_batch post px G (am 0) m := by
  have hb := hB.2.2.1
  unfold wX5_batch
  refine ⟨_, _, h.a0, rfl, m_not32 (l := 0) (u := σ.1 0 0 0) (by decide) rfl (fun c => ⟨fun z => absurd z m_one, fun _ => ?_⟩) (fun c => ⟨fun _ => ⟨_, _, h.a0, rfl, fun c2 => ⟨_, _, h.a0, rfl, fun c3 => ?_, fun c3 => ?_⟩, fun c2 => ?_⟩, fun z => absurd rfl z⟩)⟩
  · refine m_code h (fun z => absurd z (by decide)) (fun _ G4 h4 => ?_)
    exact hk.of (by unfold opBatch; rw [if_pos c]) h4
  · have c' : ¬ σ.2.2 2 0 0 = 30 := fun z => c3 (by rw [z]; rfl)
    refine m_code h (fun _ G4 h4 => ⟨_, h4.a0, m_newBatch h4 (by omega) (fun G5 h5 => ?_)⟩) (fun z => absurd rfl z)
    have o5 := h5.a0
    rw [oNewB_b] at o5
    refine ⟨_, _, o5, rfl, ?_⟩
    exact hk.of (by unfold opBatch; rw [if_neg c, if_neg (Int32.not_lt.mpr c2), if_neg c']) h5
  · have c' : σ.2.2 2 0 0 = 30 := (nI_eq (b := 30) (by omega) (by decide)).mp c3
    refine m_code h (fun z => absurd z (by decide)) (fun _ G4 h4 => ?_)
    exact hk.of (by unfold opBatch; rw [if_neg c, if_neg (Int32.not_lt.mpr c2), if_pos c']) h4
  · refine m_code h (fun z => absurd z (by decide)) (fun _ G4 h4 => ?_)
    exact hk.of (by unfold opBatch; rw [if_neg c, if_pos (Int32.not_le.mp c2)]) h4
theorem r_row {post : Int32 → gh_H → Prop} {b a : Int32} {w : Int64} (h : oM σ k am G) (hB : oB σ) (hk : mK (opRow σ b a w) am post) : wX5_row post px G (am 0) b a w := by
  have hb := hB.2.2.1
  have hb1 := hB.2.1
  unfold wX5_row
  refine ⟨_, h.a0, m_noBatch h hB (fun c => ⟨fun _ => ?_, fun z => absurd z m_one⟩) (fun i hi e => ⟨fun z => absurd rfl z, fun _ => ?_⟩)⟩
  · refine m_code h (fun z => absurd z (by decide)) (fun _ G4 h4 => ?_)
    exact hk.of (by unfold opRow; rw [if_pos c]) h4
  · obtain ⟨n1, n2⟩ := oNo1_f hi (by omega) e
    have e1 : b - 1 = nI i := by rw [e, nI_pred]
    have ecl : (b - 1).toNatClampNeg = i := n2
    have v : vp_in (b - 1) 30 := by rw [e1]; exact vp_in_nI (by omega) (by decide)
    have hb8 := hB.2.2.2.2 i
    have no : oNo (σ.2.2 1 0 0) a → wX5_row_81 post px G (am 0) b a w (am 0) 1 := fun c => by
      refine m_code h (fun z => absurd z (by decide)) (fun _ G4 h4 => ?_)
      exact hk.of (by unfold opRow; rw [if_neg n1, if_pos c]) h4
    refine ⟨fun c => no (Or.inl c), fun c => ⟨_, _, h.a0, rfl, fun c2 => ?_, fun c2 => no (Or.inr (Int32.not_lt.mp c2))⟩⟩
    obtain ⟨x, hx, ex⟩ := oX_idx (N := σ.2.2 1 0 0) (by omega) c c2
    obtain ⟨n3, n4⟩ := oNo_f hx (by omega) ex
    refine ⟨fun c3 => ?_, fun c3 => m_not (fun c4 => ⟨fun z => absurd z m_one, fun _ => ?_⟩) (fun c4 => ⟨fun _ => ⟨_, _, h.a0, rfl, _, _, h.a9, v, ?_⟩, fun z => absurd rfl z⟩)⟩
    · have c3' := oX_eq.mp c3
      refine m_code h (fun z => absurd z (by decide)) (fun _ G4 h4 => ?_)
      exact hk.of (by unfold opRow; rw [if_neg n1, if_neg n3, if_neg (by rw [c3']; decide), if_pos c3']) h4
    · refine m_code h (fun z => absurd z (by decide)) (fun _ G4 h4 => ?_)
      exact hk.of (by unfold opRow; rw [if_neg n1, if_neg n3, if_pos c4]) h4
    · have c3' : ¬ w = 0 := fun z => c3 (oX_eq.mpr z)
      rw [ecl]
      refine ⟨fun c5 => ⟨_, _, h.a0, rfl, _, _, h.a11, v, fun c6 => ?_, fun c6 => ?_⟩, fun c5 => ?_⟩
      · have c6' : ¬ σ.2.2 4 i 0 = 8 := fun z => c6 (by rw [z]; rfl)
        have e8 : 8 * nI i + nI (σ.2.2 4 i 0) = nI (8 * i + σ.2.2 4 i 0) := by
          rw [show (8 : Int32) = nI 8 from rfl, pk_mul, nI_add]
        have v240 : vp_in (nI (8 * i + σ.2.2 4 i 0)) 240 := vp_in_nI (by omega) (by decide)
        have ecx : (nI (8 * i + σ.2.2 4 i 0)).toNatClampNeg = 8 * i + σ.2.2 4 i 0 := nI_clamp (by omega)
        unfold wX5_row_81
        refine m_code h (fun _ G4 h4 => ⟨_, _, h4.a0, rfl, _, _, h4.a11, v, ?_⟩) (fun z => absurd rfl z)
        rw [ecl, e1, e8, ecx]
        refine ⟨_, _, h4.a0, rfl, _, _, h4.a14, v240, fun G5 hG5 => ?_⟩
        have h5 := q_I9 (j := σ.2.2 4 i 0) h4 rfl (by omega) hG5
        refine ⟨_, _, h5.a0, rfl, _, _, h5.a15, v240, fun G6 hG6 => ?_⟩
        have h6 := q_L1 (j := σ.2.2 4 i 0) h5 rfl (by omega) hG6
        refine ⟨_, _, h6.a0, rfl, _, _, h6.a16, v240, fun G7 hG7 => ?_⟩
        rw [m_nar (Or.inl rfl)] at hG7
        have h7 := q_I11 (j := σ.2.2 4 i 0) h6 rfl (by omega) hG7
        rw [e1] at v
        refine ⟨_, _, h7.a0, rfl, _, _, h7.a0, rfl, _, _, h7.a11, v, _, _, h7.a11, v, fun G8 hG8 => ?_⟩
        have ei : (nI i).toNatClampNeg = i := nI_clamp (by omega)
        rw [nI_1] at hG8
        have h8 : oM (oN (oI (oL (oI σ 9 i (σ.2.2 4 i 0) a) 1 i (σ.2.2 4 i 0) w) 11 i (σ.2.2 4 i 0) 0) 4 i 0 (σ.2.2 4 i 0 + 1)) 0 am G8 := q_N4 h7 hG8
        refine ⟨_, _, h8.a0, rfl, _, _, h8.a11, v, ?_⟩
        have e9 : nI ((oN (oI (oL (oI σ 9 i (σ.2.2 4 i 0) a) 1 i (σ.2.2 4 i 0) w) 11 i (σ.2.2 4 i 0) 0) 4 i 0 (σ.2.2 4 i 0 + 1)).2.2 4 i 0) = nI (σ.2.2 4 i 0 + 1) := by simp [oN]
        simp only [e9]
        refine hk.of (by unfold opRow; rw [if_neg n1, if_neg n3, if_neg c4, if_neg c3', n2, if_neg (fun z => z c5), if_neg c6']) (h8.congr (fun x y z hne => ?_) (fun x y z _ => ?_) (fun x y z => ?_))
        · simp [oAddRow, oN, oI, oL, hne]
        · simp [oAddRow, oN, oI, oL]
        · simp [oAddRow, oN, oI, oL]
      · have c6' : σ.2.2 4 i 0 = 8 := by
          have c7 : nI (σ.2.2 4 i 0) = nI 8 := c6
          exact (nI_eq (by omega) (by decide)).mp c7
        refine m_code h (fun z => absurd z (by decide)) (fun _ G4 h4 => ?_)
        exact hk.of (by unfold opRow; rw [if_neg n1, if_neg n3, if_neg c4, if_neg c3', n2, if_neg (fun z => z c5), if_pos c6']) h4
      · refine m_code h (fun z => absurd z (by decide)) (fun _ G4 h4 => ?_)
        exact hk.of (by unfold opRow; rw [if_neg n1, if_neg n3, if_neg c4, if_neg c3', n2, if_pos c5]) h4
theorem m_tk1 {w c : Int64} (h : 0 ≤ lg_cmp w c) : c = oTk c w := by
  unfold oTk
  rcases oX_tri w c with ⟨a, e⟩ | ⟨a, e⟩ | ⟨a, e⟩
  · rw [if_pos a]
  · subst a
    rw [ite_self]
  · rw [e] at h
    exact absurd h (by decide)
theorem m_tk2 {w c : Int64} (h : ¬ 0 ≤ lg_cmp w c) : w = oTk c w := by
  unfold oTk
  rcases oX_tri w c with ⟨a, e⟩ | ⟨a, e⟩ | ⟨a, e⟩
  · rw [e] at h
    exact absurd (by decide) h
  · subst a
    rw [ite_self]
  · rw [if_neg (fun z => by rw [Int64.lt_iff_toInt_lt] at a z; omega)]
theorem m_meet {post : Int64 → gh_H → Prop} {i : Nat} {c : Int64} (h : oM σ k am G) (hi : i < 20) (hp : ∀ G', oM (oL σ 2 i 0 (σ.2.1 2 i 0 - oTk c (σ.2.1 2 i 0))) k am G' → post (c - oTk c (σ.2.1 2 i 0)) G') : wX5_meet post px G (am 0) (nI i) c := by
  have ecl : (nI i).toNatClampNeg = i := nI_clamp (by omega)
  have v : vp_in (nI i) 20 := vp_in_nI hi (by decide)
  have fin : ∀ s : Int64, s = oTk c (σ.2.1 2 i 0) → wX5_meet_21 post px G (am 0) (nI i) c s := by
    intro s es
    unfold wX5_meet_21
    rw [ecl, es]
    exact ⟨_, _, h.a0, rfl, _, _, h.a0, rfl, _, _, h.a19, v, _, _, h.a19, v, fun G1 hG1 => hp G1 (q_L2 h hG1)⟩
  unfold wX5_meet
  rw [ecl]
  exact ⟨_, _, h.a0, rfl, _, _, h.a19, v, fun c1 => fin _ (m_tk1 c1), fun c1 => ⟨_, _, h.a0, rfl, _, _, h.a19, v, fin _ (m_tk2 c1)⟩⟩
theorem r_settle {post : Int64 → gh_H → Prop} {i : Int32} {w : Int64} (h : oM σ k am G) (hB : oB σ) (hI : oInv n0 σ) (hk : mK (opSettle σ i w) am post) : wX5_settle post px G (am 0) i w := by
  have hb := hB.2.2.2.1
  have hb0 := hB.1
  unfold wX5_settle
  refine ⟨_, h.a0, m_noInvoice h hB (fun c => ⟨fun z => absurd z m_one, fun _ => ?_⟩) (fun x hi e => ⟨fun _ => m_not (fun c => ⟨fun z => absurd z m_one, fun _ => ?_⟩) (fun c => ⟨fun _ => ?_, fun z => absurd rfl z⟩), fun z => absurd rfl z⟩)⟩
  · refine m_code h (fun z => absurd z (by decide)) (fun _ G4 h4 => ?_)
    exact hk.of (by unfold opSettle; rw [if_pos c]) h4
  · refine m_code h (fun z => absurd z (by decide)) (fun _ G4 h4 => ?_)
    exact hk.of (by unfold opSettle; rw [if_neg (oNo1_f hi (by omega) e).1, if_pos c]) h4
  · obtain ⟨n1, n2⟩ := oNo1_f hi (by omega) e
    have e1 : i - 1 = nI x := by rw [e, nI_pred]
    have ecl : (nI x).toNatClampNeg = x := nI_clamp (by omega)
    have v : vp_in (nI x) 20 := vp_in_nI (by omega) (by decide)
    obtain ⟨o, ho, eo⟩ := hI.ow x hi
    have eco : (nI o).toNatClampNeg = o := nI_clamp (by omega)
    have vo : vp_in (nI o) 6 := vp_in_nI (by omega) (by decide)
    unfold wX5_settle_29
    rw [e1, ecl]
    refine m_code h (fun _ G4 h4 => ⟨_, _, h4.a0, rfl, _, _, h4.a18, v, ?_⟩) (fun z => absurd rfl z)
    simp only [eo, eco]
    refine ⟨_, _, h4.a0, rfl, _, _, h4.a0, rfl, _, _, h4.a5, vo, _, h4.a0, m_meet h4 (by omega) (fun G5 h5 => ⟨_, _, h5.a5, vo, fun G6 hG6 => ?_⟩)⟩
    have h6 := q_L0 h5 hG6
    refine ⟨_, _, h6.a0, rfl, _, _, h6.a19, v, ?_⟩
    exact hk.of (by unfold opSettle; rw [if_neg n1, if_neg c, n2, eo, show oAt (nI o) = o from eco]; simp [oL]) h6
theorem r_dun {post : Int32 → gh_H → Prop} {i : Int32} (h : oM σ k am G) (hB : oB σ) (hI : oInv n0 σ) (hk : mK (opDun σ i) am post) : wX5_dun post px G (am 0) i := by
  have hb := hB.2.2.2.1
  have hb0 := hB.1
  unfold wX5_dun
  refine ⟨_, h.a0, m_noInvoice h hB (fun c => ⟨fun z => absurd z m_one, fun _ => ?_⟩) (fun x hi e => ⟨fun _ => ⟨_, h.a0, ?_⟩, fun z => absurd rfl z⟩)⟩
  · refine m_code h (fun z => absurd z (by decide)) (fun _ G4 h4 => ?_)
    exact hk.of (by unfold opDun; rw [if_pos c]) h4
  · obtain ⟨n1, n2⟩ := oNo1_f hi (by omega) e
    have e1 : i - 1 = nI x := by rw [e, nI_pred]
    have ecl : (nI x).toNatClampNeg = x := nI_clamp (by omega)
    have v : vp_in (nI x) 20 := vp_in_nI (by omega) (by decide)
    have v' : vp_in (i - 1) 20 := by rw [e1]; exact v
    obtain ⟨o, ho, eo⟩ := hI.ow x hi
    have eco : (nI o).toNatClampNeg = o := nI_clamp (by omega)
    have vo : vp_in (nI o) 6 := vp_in_nI (by omega) (by decide)
    have h3 : σ.1 14 x 0 < 3 ↔ ¬ σ.1 14 x 0 = 3 := by
      have := (hI.st x).2
      rw [Int32.le_iff_toInt_le] at this
      rw [Int32.lt_iff_toInt_lt, ← Int32.toInt_inj]
      omega
    rw [e1]
    refine m_overdue h (by omega) (fun c => ⟨fun z => absurd z m_one, fun _ => ⟨_, _, h.a0, rfl, _, _, h.a21, v, ?_⟩⟩) (fun c => ⟨fun _ => ?_, fun z => absurd rfl z⟩)
    · rw [ecl]
      refine ⟨fun c2 => ?_, fun c2 => ?_⟩
      · have c2' := h3.mpr c2
        unfold wX5_dun_40 wX5_dun_96
        rw [e1, ecl]
        refine m_code h (fun _ G4 h4 => ⟨_, _, h4.a0, rfl, _, _, h4.a0, rfl, _, _, h4.a21, v, _, _, h4.a21, v, fun G5 hG5 => ?_⟩) (fun z => absurd rfl z)
        have h5 := q_I14 h4 hG5
        have e14 : (oI σ 14 x 0 (σ.1 14 x 0 + 1)).1 14 x 0 = σ.1 14 x 0 + 1 := by simp [oI]
        refine ⟨_, _, h5.a0, rfl, _, _, h5.a21, v, ?_⟩
        rw [e14]
        refine ⟨fun c3 => ⟨_, _, h5.a0, rfl, _, _, h5.a21, v, ?_⟩, fun c3 => ⟨_, _, h5.a0, rfl, _, _, h5.a0, rfl, _, _, h5.a18, v, ?_⟩⟩
        · rw [e14]
          exact hk.of (by unfold opDun; rw [if_neg n1, n2, if_neg (fun z => z c), if_neg (fun z => z c2'), if_neg c3]) h5
        · have eo5 : (oI σ 14 x 0 (σ.1 14 x 0 + 1)).1 12 x 0 = nI o := by rw [← eo]; simp [oI]
          simp only [eo5, eco]
          refine ⟨_, _, h5.a4, vo, fun G6 hG6 => ?_⟩
          rw [m_nar (Or.inr rfl)] at hG6
          have h6 := q_I3 h5 hG6
          refine ⟨_, _, h6.a0, rfl, _, _, h6.a21, v, ?_⟩
          have e16 : (oI (oI σ 14 x 0 (σ.1 14 x 0 + 1)) 3 o 0 1).1 14 x 0 = σ.1 14 x 0 + 1 := by simp [oI]
          rw [e16]
          exact hk.of (by unfold opDun; rw [if_neg n1, n2, if_neg (fun z => z c), if_neg (fun z => z c2'), if_pos c3, eo, show oAt (nI o) = o from eco]) h6
      · have c2' : ¬ σ.1 14 x 0 < 3 := fun z => (h3.mp z) c2
        refine m_code h (fun z => absurd z (by decide)) (fun _ G4 h4 => ?_)
        exact hk.of (by unfold opDun; rw [if_neg n1, n2, if_neg (fun z => z c), if_pos c2']) h4
    · refine m_code h (fun z => absurd z (by decide)) (fun _ G4 h4 => ?_)
      exact hk.of (by unfold opDun; rw [if_neg n1, n2, if_pos c]) h4
theorem m_in {post : Int64 → gh_H → Prop} {s : Int32} {u : Int64} : ∀ (k n d r : Nat), k < n → r < oF k → r < d → d < 2 ^ 63 → (¬ s = 0 → post (1200 / lN (Nat.gcd d r)) G) → (s = 0 → post (u / lN (Nat.gcd d r)) G) → wX5_interest_92 post px n G s u (lN r) (lN d) := by
  have ne : ∀ d : Nat, 0 < d → d < 2 ^ 63 → ¬ lN d = 0 := fun d h0 h1 z => by
    have := (pk_lEQ (a := d) (b := 0) h1 (by decide)).mp z
    omega
  intro k
  induction k using Nat.strongRecOn with
  | _ k ih =>
    intro n d r hn hr hd hb hp hq
    match n, hn with
    | n + 1, hn =>
      rcases Nat.eq_zero_or_pos r with e | h0
      · subst e
        rw [Nat.gcd_zero_right] at hp hq
        exact ⟨fun _ => ⟨fun z => ⟨ne d hd hb, hp z⟩, fun z => ⟨ne d hd hb, hq z⟩⟩, fun z => absurd (oX_eq.mpr rfl) z⟩
      · refine ⟨fun z => absurd (oX_eq.mp z) (ne r h0 (by omega)), fun _ => ⟨ne r h0 (by omega), ?_⟩⟩
        rw [pk_lRem hb h0 (by omega)]
        match k, ih, hn, hr with
        | 0, _, _, hr => simp [oF] at hr; omega
        | 1, _, _, hr => simp [oF] at hr; omega
        | k + 2, ih, hn, hr =>
          have hr : r < oF (k + 1) + oF k := hr
          have hlt := Nat.mod_lt d h0
          rw [Nat.gcd_comm, Nat.gcd_rec, Nat.gcd_comm] at hp hq
          by_cases c : d % r < oF (k + 1)
          · exact ih (k + 1) (by omega) n r (d % r) (by omega) c hlt (by omega) hp hq
          · have hp1 : 0 < d % r := by have := oF_pos (k + 1); omega
            match n, hn with
            | n + 1, hn =>
              have hlt2 := Nat.mod_lt r hp1
              rw [Nat.gcd_comm, Nat.gcd_rec, Nat.gcd_comm] at hp hq
              refine ⟨fun z => absurd (oX_eq.mp z) (ne _ hp1 (by omega)), fun _ => ⟨ne _ hp1 (by omega), ?_⟩⟩
              rw [pk_lRem (by omega) hp1 (by omega)]
              refine ih k (by omega) n (d % r) (r % (d % r)) (by omega) ?_ hlt2 (by omega) hp hq
              have h3 := Nat.mod_add_div r (d % r)
              have h4 : 1 ≤ r / (d % r) := (Nat.one_le_div_iff hp1).mpr (by omega)
              have h5 : d % r * 1 ≤ d % r * (r / (d % r)) := Nat.mul_le_mul_left _ h4
              omega
theorem m_inter {post : Int64 → gh_H → Prop} {s : Int32} {u : Nat} (hu : u < 2 ^ 63) (hp : ¬ s = 0 → post (1200 / lN (Nat.gcd u 1200)) G) (hq : s = 0 → post (lN u / lN (Nat.gcd u 1200)) G) : wX5_interest_83 post px G s (lN u) := by
  have h17 : 1200 < oF 17 := by decide +kernel
  rw [Nat.gcd_comm] at hp hq
  unfold wX5_interest_83
  rw [show (1200 : Int64) = lN 1200 from rfl]
  rcases Nat.lt_or_ge u 1200 with c | c
  · exact m_in 17 300 1200 u (by omega) (by omega) c (by omega) hp hq
  · have hu0 : ¬ lN u = 0 := fun z => by
      have := (pk_lEQ (a := u) (b := 0) hu (by decide)).mp z
      omega
    refine ⟨fun z => absurd (oX_eq.mp z) hu0, fun _ => ⟨hu0, ?_⟩⟩
    rw [pk_lRem (by decide) (by omega) hu]
    rw [Nat.gcd_comm, Nat.gcd_rec, Nat.gcd_comm] at hp hq
    exact m_in 17 299 u (1200 % u) (by omega) (by have := Nat.mod_le 1200 u; omega) (Nat.mod_lt _ (by omega)) hu hp hq
theorem r_interest {post : Int64 → gh_H → Prop} {i side : Int32} (h : oM σ k am G) (hB : oB σ) (hI : oInv n0 σ) (hk : mK (opInterest σ i side) am post) : wX5_interest post px G (am 0) i side := by
  have hb := hB.2.2.2.1
  unfold wX5_interest
  refine ⟨_, h.a0, m_noInvoice h hB (fun c => ⟨fun z => absurd z m_one, fun _ => ?_⟩) (fun x hi e => ⟨fun _ => m_not32 (l := 0) (u := 1) (by decide) (by decide) (fun c => ⟨fun z => absurd z m_one, fun _ => ?_⟩) (fun c => ⟨fun _ => ?_, fun z => absurd rfl z⟩), fun z => absurd rfl z⟩)⟩
  · refine m_code h (fun z => absurd z (by decide)) (fun _ G4 h4 => ?_)
    exact hk.of (by unfold opInterest; rw [if_pos c]) h4
  · refine m_code h (fun z => absurd z (by decide)) (fun _ G4 h4 => ?_)
    exact hk.of (by unfold opInterest; rw [if_neg (oNo1_f hi (by omega) e).1, if_pos c]) h4
  · obtain ⟨n1, n2⟩ := oNo1_f hi (by omega) e
    have e1 : i - 1 = nI x := by rw [e, nI_pred]
    have ecl : (nI x).toNatClampNeg = x := nI_clamp (by omega)
    have v : vp_in (nI x) 20 := vp_in_nI (by omega) (by decide)
    obtain ⟨u, hu, eu⟩ := oUp_nat hI hi
    refine m_code h (fun _ G4 h4 => ⟨_, h4.a0, ?_⟩) (fun z => absurd rfl z)
    have hy := hk.of (by unfold opInterest; rw [if_neg n1, if_neg c, n2]) h4
    rw [eu, oGcd_lN (by omega)] at hy
    have fin : ∀ s, s = oUp σ x → wX5_interest_83 post px G4 side s := by
      intro s es
      rw [es, eu]
      refine m_inter (by omega) (fun z => ?_) (fun z => ?_)
      · rw [if_neg z] at hy; exact hy
      · rw [if_pos z] at hy; exact hy
    rw [e1, ecl]
    refine m_overdue h4 (by omega) (fun c2 => ⟨fun z => absurd z m_one, fun _ => ⟨_, _, h4.a0, rfl, _, _, h4.a19, v, _, _, h4.a0, rfl, _, _, h4.a0, rfl, _, _, h4.a20, v, _, _, h4.a0, rfl, fin _ ?_⟩⟩) (fun c2 => ⟨fun _ => fin _ ?_, fun z => absurd rfl z⟩)
    · unfold oUp; rw [if_pos c2]
    · unfold oUp; rw [if_neg c2]
theorem r_invoice {post : Int32 → gh_H → Prop} {o d : Int32} {w : Int64} (h : oM σ k am G) (hB : oB σ) (hk : mK (opInvoice σ o w d) am post) : wX5_invoice post px G (am 0) o w d := by
  have hb := hB.2.2.2.1
  have hb0 := hB.1
  unfold wX5_invoice
  refine ⟨_, h.a0, m_noOwner h hB (fun c => ⟨fun z => absurd z m_one, fun _ => ?_⟩) (fun x hi e => ⟨fun _ => m_not (fun c => ⟨fun _ => ?_, fun z => absurd z m_one⟩) (fun c => ⟨fun z => absurd rfl z, fun _ => m_not32 (l := 0) (u := 120) (by decide) (by decide) (fun c2 => ⟨fun z => absurd z m_one, fun _ => ?_⟩) (fun c2 => ⟨fun _ => ?_, fun z => absurd rfl z⟩)⟩), fun z => absurd rfl z⟩)⟩
  · refine m_code h (fun z => absurd z (by decide)) (fun _ G4 h4 => ?_)
    exact hk.of (by unfold opInvoice; rw [if_pos c]) h4
  · refine m_code h (fun z => absurd z (by decide)) (fun _ G4 h4 => ?_)
    exact hk.of (by unfold opInvoice; rw [if_neg (oNo_f hi (by omega) e).1, if_pos c]) h4
  · refine m_code h (fun z => absurd z (by decide)) (fun _ G4 h4 => ?_)
    exact hk.of (by unfold opInvoice; rw [if_neg (oNo_f hi (by omega) e).1, if_neg c, if_pos c2]) h4
  · obtain ⟨n1, n2⟩ := oNo_f hi (by omega) e
    have ecl : o.toNatClampNeg = x := n2
    have vo : vp_in o 6 := by rw [e]; exact vp_in_nI (by omega) (by decide)
    refine ⟨_, _, h.a0, rfl, _, _, h.a4, vo, ?_⟩
    rw [ecl]
    refine ⟨fun c3 => ⟨_, _, h.a0, rfl, fun c4 => ?_, fun c4 => ?_⟩, fun c3 => ?_⟩
    · have c4' : ¬ σ.2.2 3 0 0 = 20 := fun z => c4 (by rw [z]; rfl)
      have v : vp_in (nI (σ.2.2 3 0 0)) 20 := vp_in_nI (by omega) (by decide)
      have ecv : (nI (σ.2.2 3 0 0)).toNatClampNeg = σ.2.2 3 0 0 := nI_clamp (by omega)
      unfold wX5_invoice_68
      refine m_code h (fun _ G4 h4 => ⟨_, _, h4.a0, rfl, _, _, h4.a0, rfl, _, _, h4.a18, v, fun G5 hG5 => ?_⟩) (fun z => absurd rfl z)
      rw [ecv] at hG5
      have h5 := q_I12 h4 hG5
      refine ⟨_, _, h5.a0, rfl, _, _, h5.a0, rfl, _, _, h5.a19, v, fun G6 hG6 => ?_⟩
      have h6 := q_cL (q_L2 h5 hG6) ecv
      refine ⟨_, _, h6.a0, rfl, _, _, h6.a0, rfl, _, _, h6.a20, v, fun G7 hG7 => ?_⟩
      have h7 := q_cI (q_I13 h6 hG7) ecv
      obtain ⟨τ, eτ⟩ : ∃ τ, τ = oI (oL (oI σ 12 (σ.2.2 3 0 0) 0 o) 2 (σ.2.2 3 0 0) 0 w) 13 (σ.2.2 3 0 0) 0 d := ⟨_, rfl⟩
      have h7' : oM τ 0 am G7 := by rw [eτ]; exact h7
      have t3 : τ.2.2 = σ.2.2 := by rw [eτ]; rfl
      have t2 : τ.2.1 2 (σ.2.2 3 0 0) 0 = w := by rw [eτ]; simp [oI, oL]
      have t0 : τ.2.1 0 x 0 = σ.2.1 0 x 0 := by rw [eτ]; simp [oI, oL]
      have o7 := h7'.a0
      rw [t3] at o7
      refine ⟨_, _, o7, rfl, _, _, o7, rfl, _, _, o7, rfl, _, _, h7'.a5, vo, _, o7, ?_⟩
      rw [ecl, t0]
      refine m_meet (i := σ.2.2 3 0 0) h7' (by omega) (fun G8 h8 => ?_)
      rw [t2] at h8 ⊢
      refine ⟨_, _, h8.a5, vo, fun G9 hG9 => ?_⟩
      have h9 := q_L0 h8 hG9
      obtain ⟨τ9, e9⟩ : ∃ τ9, τ9 = oL (oL τ 2 (σ.2.2 3 0 0) 0 (w - oTk (σ.2.1 0 x 0) w)) 0 x 0 (σ.2.1 0 x 0 - oTk (σ.2.1 0 x 0) w) := ⟨_, rfl⟩
      have h9' : oM τ9 0 am G9 := by rw [e9]; exact h9
      have t9 : τ9.2.2 = σ.2.2 := by rw [e9, ← t3]; rfl
      have o9 := h9'.a0
      rw [t9] at o9
      refine ⟨_, _, o9, rfl, _, h9'.a0, oLt rfl, fun G10 hG10 => ?_⟩
      rw [nI_1] at hG10
      have h10 := q_N3 h9' hG10
      have o10 := h10.a0
      rw [show (oN τ9 3 0 0 (σ.2.2 3 0 0 + 1)).2.2 3 0 0 = σ.2.2 3 0 0 + 1 by simp [oN]] at o10
      refine ⟨_, _, o10, rfl, ?_⟩
      refine hk.of (by unfold opInvoice; rw [if_neg n1, if_neg c, if_neg c2, n2, if_neg (fun z => z c3), if_neg c4']) (h10.congr (fun a y z hne => ?_) (fun a y z _ => ?_) (fun a y z => ?_))
      · rw [e9, eτ]
        simp only [oNewI, oN, oI, oL]
      · rw [e9, eτ]
        simp only [oNewI, oN, oI, oL, n2]
        by_cases a1 : a = 2 ∧ y = σ.2.2 3 0 0 ∧ z = 0
        · simp [a1]
        · simp [a1]
      · show (oN τ9 3 0 0 (σ.2.2 3 0 0 + 1)).2.2 a y z = _
        simp only [oN, t9, oNewI, oI, oL]
    · have c4' : σ.2.2 3 0 0 = 20 := (nI_eq (b := 20) (by omega) (by decide)).mp c4
      refine m_code h (fun z => absurd z (by decide)) (fun _ G4 h4 => ?_)
      exact hk.of (by unfold opInvoice; rw [if_neg n1, if_neg c, if_neg c2, n2, if_neg (fun z => z c3), if_pos c4']) h4
    · refine m_code h (fun z => absurd z (by decide)) (fun _ G4 h4 => ?_)
      exact hk.of (by unfold opInvoice; rw [if_neg n1, if_neg c, if_neg c2, n2, if_pos c3]) h4
end M33
