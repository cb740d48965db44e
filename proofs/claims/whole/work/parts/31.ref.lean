/-! The reference's small methods and its calls that write at most one number. -/
def mK {V : Type} (r : Nat × V × oS) (am : Nat → Nat) (post : V → gh_H → Prop) : Prop := ∀ G' : gh_H, oM r.2.2 (nI r.1) am G' → post r.2.1 G'
section M31
variable {n0 : Nat} {σ σ' : oS} {k : Int32} {am : Nat → Nat} {G : gh_H} {px : String → gh_H → Prop}
theorem mK.of {V : Type} {r : Nat × V × oS} {post : V → gh_H → Prop} {n : Nat} {v : V} (hk : mK r am post) (hr : r = (n, v, σ')) (h : oM σ' (nI n) am G) : post v G := by
  subst hr
  exact hk G h
theorem m_code {A B : gh_H → Prop} {c : Int32} (h : oM σ k am G) (hA : c = 0 → ∀ G4, oM σ 0 am G4 → A G4) (hB : c ≠ 0 → ∀ G4, oM σ c am G4 → B G4) :
    ∃ fs1 : List Value, G (am 0) = some (.inr (5, fs1)) ∧ 0 < fs1.length ∧ (∀ G4 : gh_H, G4 = gh_up G (am 0) (.inr (5, fs1.set 0 (.int c))) → ∃ (fs6 : List Value) (x9 : Int32), G4 (am 0) = some (.inr (5, fs6)) ∧ fs6[0]? = some (.int x9) ∧ ((x9 = 0 → A G4) ∧ (¬ x9 = 0 → B G4))) := by
  refine ⟨_, h.a0, oLt rfl, fun G4 hG => ⟨_, _, (q_k h hG).a0, rfl, fun e => ?_, fun e => hB e G4 (q_k h hG)⟩⟩
  refine hA e G4 ?_
  have := q_k h hG
  rw [e] at this
  exact this
theorem m_code' {A B : gh_H → Prop} {c : Int32} (h : oM σ k am G) (hA : c = 0 → ∀ G4, oM σ 0 am G4 → A G4) (hB : c ≠ 0 → ∀ G4, oM σ c am G4 → B G4) :
    ∃ fs1 : List Value, G (am 0) = some (.inr (5, fs1)) ∧ 0 < fs1.length ∧ (∀ G4 : gh_H, G4 = gh_up G (am 0) (.inr (5, fs1.set 0 (.int c))) → ∃ (fs6 : List Value) (x9 : Int32), G4 (am 0) = some (.inr (5, fs6)) ∧ fs6[0]? = some (.int x9) ∧ ((¬ x9 = 0 → B G4) ∧ (x9 = 0 → A G4))) := by
  refine ⟨_, h.a0, oLt rfl, fun G4 hG => ⟨_, _, (q_k h hG).a0, rfl, fun e => hB e G4 (q_k h hG), fun e => ?_⟩⟩
  refine hA e G4 ?_
  have := q_k h hG
  rw [e] at this
  exact this
theorem m_not {post : Int32 → gh_H → Prop} {a b c : Int64} (h1 : a < b ∨ c < a → post 1 G) (h0 : ¬ (a < b ∨ c < a) → post 0 G) : wX5_not post px G a b c := by
  unfold wX5_not
  refine ⟨fun c1 => h1 (Or.inl (oX_lt.mp c1)), fun c1 => ⟨fun c2 => h0 (fun z => ?_), fun c2 => h1 (Or.inr (Int64.not_le.mp (fun z => c2 (oX_le.mpr z))))⟩⟩
  rcases z with z | z
  · exact c1 (oX_lt.mpr z)
  · exact Int64.not_lt.mpr (oX_le.mp c2) z
theorem m_not32 {post : Int32 → gh_H → Prop} {p l u : Int32} {L M : Int64} (hL : l.toInt64 = L) (hM : u.toInt64 = M) (h1 : p < l ∨ u < p → post 1 G) (h0 : ¬ (p < l ∨ u < p) → post 0 G) : wX5_not post px G p.toInt64 L M := by
  subst hL; subst hM
  refine m_not (fun z => h1 ?_) (fun z => h0 (fun y => z ?_))
  · rcases z with z | z
    · exact Or.inl (oX_i2l_lt.mp z)
    · exact Or.inr (oX_i2l_lt.mp z)
  · rcases y with y | y
    · exact Or.inl (oX_i2l_lt.mpr y)
    · exact Or.inr (oX_i2l_lt.mpr y)
theorem m_idx {p : Int32} {n : Nat} (hn : n < 2 ^ 30) (h : ¬ oNo n p) : ∃ i, i < n ∧ p = nI i := oX_idx (by omega) (fun z => h (Or.inl z)) (Int32.not_le.mp (fun z => h (Or.inr z)))
theorem m_idx1 {p : Int32} {n : Nat} (hn : n < 2 ^ 30) (h : ¬ oNo1 n p) : ∃ i, i < n ∧ p = nI (i + 1) := by
  obtain ⟨j, a, b, _⟩ := oX_idx1 hn (fun z => h (Or.inl z)) (Int32.not_lt.mp (fun z => h (Or.inr z)))
  exact ⟨j, a, b⟩
theorem m_noOwner {post : Int32 → gh_H → Prop} {p : Int32} (h : oM σ k am G) (hB : oB σ) (h1 : oNo (σ.2.2 0 0 0) p → post 1 G) (h0 : ∀ i, i < σ.2.2 0 0 0 → p = nI i → post 0 G) : wX5_noOwner post px G (am 0) p := by
  have hb := hB.1
  unfold wX5_noOwner
  refine ⟨fun c => h1 (Or.inl c), fun c => ⟨_, _, h.a0, rfl, fun c2 => ?_, fun c2 => h1 (Or.inr (Int32.not_lt.mp c2))⟩⟩
  obtain ⟨i, a, b⟩ := oX_idx (N := σ.2.2 0 0 0) (by omega) c c2
  exact h0 i a b
theorem m_noBatch {post : Int32 → gh_H → Prop} {p : Int32} (h : oM σ k am G) (hB : oB σ) (h1 : oNo1 (σ.2.2 2 0 0) p → post 1 G) (h0 : ∀ i, i < σ.2.2 2 0 0 → p = nI (i + 1) → post 0 G) : wX5_noBatch post px G (am 0) p := by
  have hb := hB.2.2.1
  unfold wX5_noBatch
  refine ⟨fun c => h1 (Or.inl c), fun c => ⟨_, _, h.a0, rfl, fun c2 => ?_, fun c2 => h1 (Or.inr (Int32.not_le.mp c2))⟩⟩
  obtain ⟨i, a, b, _⟩ := oX_idx1 (N := σ.2.2 2 0 0) (by omega) c c2
  exact h0 i a b
theorem m_noInvoice {post : Int32 → gh_H → Prop} {p : Int32} (h : oM σ k am G) (hB : oB σ) (h1 : oNo1 (σ.2.2 3 0 0) p → post 1 G) (h0 : ∀ i, i < σ.2.2 3 0 0 → p = nI (i + 1) → post 0 G) : wX5_noInvoice post px G (am 0) p := by
  have hb := hB.2.2.2.1
  unfold wX5_noInvoice
  refine ⟨fun c => h1 (Or.inl c), fun c => ⟨_, _, h.a0, rfl, fun c2 => ?_, fun c2 => h1 (Or.inr (Int32.not_le.mp c2))⟩⟩
  obtain ⟨i, a, b, _⟩ := oX_idx1 (N := σ.2.2 3 0 0) (by omega) c c2
  exact h0 i a b
theorem m_overdue {post : Int32 → gh_H → Prop} {i : Nat} (h : oM σ k am G) (hi : i < 20) (h1 : oOv σ i (σ.1 0 0 0) → post 1 G) (h0 : ¬ oOv σ i (σ.1 0 0 0) → post 0 G) : wX5_overdue post px G (am 0) (nI i) := by
  have e : (nI i).toNatClampNeg = i := nI_clamp (by omega)
  have v := vp_in_nI hi (by decide)
  unfold wX5_overdue
  rw [e]
  refine ⟨_, _, h.a0, rfl, _, _, h.a19, v, fun c => h0 (fun z => Int64.not_lt.mpr (oX_le.mp c) z.1), fun c => ⟨_, _, h.a0, rfl, _, _, h.a22, v, fun c2 => h0 (fun z => c2 z.2.1), fun c2 => ⟨_, _, h.a0, rfl, _, _, h.a0, rfl, _, _, h.a20, v, fun c3 => h0 (fun z => Int32.not_lt.mpr c3 z.2.2), fun c3 => h1 ⟨Int64.not_le.mp (fun z => c (oX_le.mpr z)), c2, Int32.not_le.mp c3⟩⟩⟩⟩
theorem m_one : ¬ (1 : Int32) = 0 := by decide
theorem r_owner {post : Int32 → gh_H → Prop} (h : oM σ k am G) (hB : oB σ) (hk : mK (opOwner σ) am post) : wX5_owner post px G (am 0) := by
  have hb := hB.1
  unfold wX5_owner
  refine ⟨_, _, h.a0, rfl, fun c => ?_, fun c => ?_⟩
  · have c' : ¬ σ.2.2 0 0 0 = 6 := fun z => c (by rw [z]; rfl)
    refine m_code h (fun _ G4 h4 => ⟨_, _, h4.a0, rfl, _, h4.a0, oLt rfl, fun G5 hG5 => ?_⟩) (fun z => absurd rfl z)
    rw [nI_1] at hG5
    have h5 := q_N0 h4 hG5
    refine ⟨_, _, h5.a0, rfl, ?_⟩
    have e : nI ((oN σ 0 0 0 (σ.2.2 0 0 0 + 1)).2.2 0 0 0) - 1 = nI (σ.2.2 0 0 0) := by
      simp only [oN]
      exact nI_pred _
    rw [e]
    exact hk.of (by unfold opOwner; rw [if_neg c']) h5
  · have c' : σ.2.2 0 0 0 = 6 := (nI_eq (b := 6) (by omega) (by decide)).mp c
    refine m_code h (fun z => absurd z (by decide)) (fun _ G4 h4 => ?_)
    exact hk.of (by unfold opOwner; rw [if_pos c']) h4
theorem r_account {post : Int32 → gh_H → Prop} {p cu : Int32} (h : oM σ k am G) (hB : oB σ) (hk : mK (opAccount σ p cu) am post) : wX5_account post px G (am 0) p cu := by
  have hb := hB.1
  have hb1 := hB.2.1
  unfold wX5_account
  refine ⟨_, h.a0, m_noOwner h hB (fun c => ⟨fun z => absurd z m_one, fun _ => ?_⟩) (fun i hi e => ⟨fun _ => m_not32 (l := 0) (u := 2) (by decide) (by decide) (fun c => ⟨fun z => absurd z m_one, fun _ => ?_⟩) (fun c => ⟨fun _ => ⟨_, _, h.a0, rfl, fun c2 => ?_, fun c2 => ?_⟩, fun z => absurd rfl z⟩), fun z => absurd rfl z⟩)⟩
  · refine m_code h (fun z => absurd z (by decide)) (fun _ G4 h4 => ?_)
    exact hk.of (by unfold opAccount; rw [if_pos c]) h4
  · refine m_code h (fun z => absurd z (by decide)) (fun _ G4 h4 => ?_)
    exact hk.of (by unfold opAccount; rw [if_neg (oNo_f hi (by omega) e).1, if_pos c]) h4
  · have c' : ¬ σ.2.2 1 0 0 = 20 := fun z => c2 (by rw [z]; rfl)
    refine m_code h (fun _ G4 h4 => ⟨_, _, h4.a0, rfl, _, _, h4.a0, rfl, _, _, h4.a7, vp_in_nI (N := 20) (n := σ.2.2 1 0 0) (by omega) (by decide), fun G5 hG5 => ?_⟩) (fun z => absurd rfl z)
    rw [nI_clamp (by omega)] at hG5
    have h5 := q_I4 h4 hG5
    refine ⟨_, _, h5.a0, rfl, _, h5.a0, oLt rfl, fun G6 hG6 => ?_⟩
    rw [nI_1] at hG6
    have h6 := q_N1 h5 hG6
    refine ⟨_, _, h6.a0, rfl, ?_⟩
    have e9 : nI ((oN (oI σ 4 (σ.2.2 1 0 0) 0 cu) 1 0 0 (σ.2.2 1 0 0 + 1)).2.2 1 0 0) - 1 = nI (σ.2.2 1 0 0) := by
      simp only [oN, oI]
      exact nI_pred _
    exact e9 ▸ hk.of (by unfold opAccount; rw [if_neg (oNo_f hi (by omega) e).1, if_neg c, if_neg c']; rfl) h6
  · have c' : σ.2.2 1 0 0 = 20 := (nI_eq (b := 20) (by omega) (by decide)).mp c2
    refine m_code h (fun z => absurd z (by decide)) (fun _ G4 h4 => ?_)
    exact hk.of (by unfold opAccount; rw [if_neg (oNo_f hi (by omega) e).1, if_neg c, if_pos c']) h4
theorem r_month {post : gh_H → Prop} {m : Int32} (h : oM σ k am G) (hk : mK (opMonth σ m) am (fun _ G' => post G')) : wX5_month post px G (am 0) m := by
  unfold wX5_month
  have no : (m < σ.1 0 0 0 ∨ 120 < m) → wX5_month_20 post px G (am 0) m (am 0) 1 := fun c => by
    refine m_code' h (fun z => absurd z (by decide)) (fun _ G4 h4 => ?_)
    exact hk.of (by unfold opMonth; rw [if_pos c]) h4
  refine ⟨_, _, h.a0, rfl, fun c => no (Or.inl c), fun c => ⟨fun c2 => ?_, fun c2 => no (Or.inr (Int32.not_le.mp c2))⟩⟩
  refine m_code' h (fun _ G4 h4 => ⟨_, h4.a0, oLt rfl, fun G5 hG5 => ?_⟩) (fun z => absurd rfl z)
  exact hk.of (by unfold opMonth; rw [if_neg (fun z => z.elim c (fun y => Int32.not_lt.mpr c2 y))]) (q_I0 h4 hG5)
theorem r_rate {post : gh_H → Prop} {m : Int32} (h : oM σ k am G) (hk : mK (opRate σ m) am (fun _ G' => post G')) : wX5_rate post px G (am 0) m := by
  unfold wX5_rate
  refine m_not32 (l := 0) (u := 100) (by decide) (by decide) (fun c => ⟨fun z => absurd z m_one, fun _ => ?_⟩) (fun c => ⟨fun _ => ?_, fun z => absurd rfl z⟩)
  · refine m_code' h (fun z => absurd z (by decide)) (fun _ G4 h4 => ?_)
    exact hk.of (by unfold opRate; rw [if_pos c]) h4
  · refine m_code' h (fun _ G4 h4 => ⟨_, h4.a0, oLt rfl, fun G5 hG5 => ?_⟩) (fun z => absurd rfl z)
    exact hk.of (by unfold opRate; rw [if_neg c]) (q_I2 h4 hG5)
theorem r_close {post : Int32 → gh_H → Prop} {m : Int32} (h : oM σ k am G) (hk : mK (opClose σ m) am post) : wX5_close post px G (am 0) m := by
  unfold wX5_close
  refine ⟨_, _, h.a0, rfl, m_not32 (l := 0) (u := σ.1 0 0 0) (by decide) rfl (fun c => ⟨fun z => absurd z m_one, fun _ => ?_⟩) (fun c => ⟨fun _ => ⟨_, _, h.a0, rfl, fun c2 => ?_, fun c2 => ?_⟩, fun z => absurd rfl z⟩)⟩
  · refine m_code h (fun z => absurd z (by decide)) (fun _ G4 h4 => ?_)
    exact hk.of (by unfold opClose; rw [if_pos c]) h4
  · refine m_code h (fun _ G4 h4 => ⟨_, _, h4.a0, rfl, _, h4.a0, oLt rfl, fun G5 hG5 => ?_⟩) (fun z => absurd rfl z)
    exact hk.of (by unfold opClose; rw [if_neg c, if_neg (Int32.not_lt.mpr c2)]) (q_I1 h4 hG5)
  · refine m_code h (fun z => absurd z (by decide)) (fun _ G4 h4 => ?_)
    exact hk.of (by unfold opClose; rw [if_neg c, if_pos (Int32.not_le.mp c2)]) h4
theorem r_credit {post : Int64 → gh_H → Prop} {p : Int32} (h : oM σ k am G) (hB : oB σ) (hk : mK (opCredit σ p) am post) : wX5_credit post px G (am 0) p := by
  have hb := hB.1
  unfold wX5_credit
  refine ⟨_, h.a0, m_noOwner h hB (fun c => ⟨fun z => absurd z m_one, fun _ => ?_⟩) (fun i hi e => ⟨fun _ => ?_, fun z => absurd rfl z⟩)⟩
  · refine m_code h (fun z => absurd z (by decide)) (fun _ G4 h4 => ?_)
    exact hk.of (by unfold opCredit; rw [if_pos c]) h4
  · obtain ⟨n1, n2⟩ := oNo_f hi (by omega) e
    refine m_code h (fun _ G4 h4 => ⟨_, _, h4.a0, rfl, _, _, h4.a5, by rw [e]; exact vp_in_nI (by omega) (by decide), ?_⟩) (fun z => absurd rfl z)
    exact hk.of (by unfold opCredit; rw [if_neg n1]) h4
theorem r_told {post : Int32 → gh_H → Prop} {b w : Int32} (h : oM σ k am G) (hB : oB σ) (hk : mK (opTold σ b w) am post) : wX5_told post px G (am 0) b w := by
  have hb := hB.2.2.1
  unfold wX5_told
  refine ⟨_, h.a0, m_noBatch h hB (fun c => ⟨fun z => absurd z m_one, fun _ => ?_⟩) (fun i hi e => ⟨fun _ => m_not32 (l := 0) (u := 4) (by decide) (by decide) (fun c => ⟨fun z => absurd z m_one, fun _ => ?_⟩) (fun c => ⟨fun _ => ?_, fun z => absurd rfl z⟩), fun z => absurd rfl z⟩)⟩
  · refine m_code h (fun z => absurd z (by decide)) (fun _ G4 h4 => ?_)
    exact hk.of (by unfold opTold; rw [if_pos c]) h4
  · refine m_code h (fun z => absurd z (by decide)) (fun _ G4 h4 => ?_)
    exact hk.of (by unfold opTold; rw [if_neg (oNo1_f hi (by omega) e).1, if_pos c]) h4
  · obtain ⟨n1, n2⟩ := oNo1_f hi (by omega) e
    have v : vp_in (b - 1) 30 := by rw [e, nI_pred]; exact vp_in_nI (by omega) (by decide)
    refine m_code h (fun _ G4 h4 => ?_) (fun z => absurd rfl z)
    have hy := hk.of (by unfold opTold; rw [if_neg n1, if_neg c]) h4
    refine ⟨fun w0 => ⟨fun w1 => ⟨fun w2 => ⟨fun w3 => ⟨_, _, h4.a0, rfl, _, _, h4.a13, v, ?_⟩, fun w3 => ⟨_, _, h4.a0, rfl, _, _, h4.a12, v, ?_⟩⟩, fun w2 => ⟨_, _, h4.a0, rfl, _, _, h4.a11, v, ?_⟩⟩, fun w1 => ⟨_, _, h4.a0, rfl, _, _, h4.a10, v, ?_⟩⟩, fun w0 => ⟨_, _, h4.a0, rfl, _, _, h4.a9, v, ?_⟩⟩
    · simpa [oTold, w0, w1, w2, w3] using hy
    · subst w3; simpa [oTold] using hy
    · subst w2; simpa [oTold] using hy
    · subst w1; simpa [oTold] using hy
    · subst w0; simpa [oTold] using hy
theorem r_known {post : Int64 → gh_H → Prop} {b w : Int32} (h : oM σ k am G) (hB : oB σ) (hk : mK (opKnown σ b w) am post) : wX5_known post px G (am 0) b w := by
  have hb := hB.2.2.2.1
  unfold wX5_known
  refine ⟨_, h.a0, m_noInvoice h hB (fun c => ⟨fun z => absurd z m_one, fun _ => ?_⟩) (fun i hi e => ⟨fun _ => m_not32 (l := 0) (u := 5) (by decide) (by decide) (fun c => ⟨fun z => absurd z m_one, fun _ => ?_⟩) (fun c => ⟨fun _ => ?_, fun z => absurd rfl z⟩), fun z => absurd rfl z⟩)⟩
  · refine m_code h (fun z => absurd z (by decide)) (fun _ G4 h4 => ?_)
    exact hk.of (by unfold opKnown; rw [if_pos c]) h4
  · refine m_code h (fun z => absurd z (by decide)) (fun _ G4 h4 => ?_)
    exact hk.of (by unfold opKnown; rw [if_neg (oNo1_f hi (by omega) e).1, if_pos c]) h4
  · obtain ⟨n1, n2⟩ := oNo1_f hi (by omega) e
    have e1 : b - 1 = nI i := by rw [e, nI_pred]
    have v : vp_in (b - 1) 20 := by rw [e1]; exact vp_in_nI (by omega) (by decide)
    refine m_code h (fun _ G4 h4 => ?_) (fun z => absurd rfl z)
    have hy := hk.of (by unfold opKnown; rw [if_neg n1, if_neg c]) h4
    refine ⟨fun w0 => ⟨_, _, h4.a0, rfl, _, _, h4.a19, v, ?_⟩, fun w1 => ⟨_, _, h4.a0, rfl, _, _, h4.a21, v, ?_⟩, fun w2 => ⟨_, _, h4.a0, rfl, _, _, h4.a22, v, fun d => ?_, fun d => ?_⟩, fun w3 => ⟨_, h4.a0, ?_⟩, fun w4 => ⟨_, _, h4.a0, rfl, _, _, h4.a18, v, ?_⟩, fun w0 w1 w2 w3 w4 => ⟨_, _, h4.a0, rfl, _, _, h4.a20, v, ?_⟩⟩
    · subst w0; simpa [oKnown] using hy
    · subst w1; simpa [oKnown] using hy
    · subst w2
      have d' : σ.1 15 (oAt1 b) 0 = 0 := d
      simpa [oKnown, d'] using hy
    · subst w2
      have d' : ¬ σ.1 15 (oAt1 b) 0 = 0 := d
      simpa [oKnown, d'] using hy
    · subst w3
      rw [e1]
      rw [n2] at hy
      refine m_overdue h4 (by omega) (fun c9 => ⟨fun z => absurd z m_one, fun _ => ?_⟩) (fun c9 => ⟨fun _ => ?_, fun z => absurd rfl z⟩)
      · unfold oKnown at hy
        rw [if_neg (by decide), if_neg (by decide), if_neg (by decide), if_pos rfl, if_pos c9] at hy
        exact hy
      · unfold oKnown at hy
        rw [if_neg (by decide), if_neg (by decide), if_neg (by decide), if_pos rfl, if_neg c9] at hy
        exact hy
    · subst w4; simpa [oKnown] using hy
    · simpa [oKnown, w0, w1, w2, w3, w4] using hy
theorem m_nar {on : Int32} (hb : on = 0 ∨ on = 1) : vp_nar .boolean on = on := by
  rcases hb with rfl | rfl <;> decide
theorem r_dispute {post : Int64 → gh_H → Prop} {i on : Int32} (h : oM σ k am G) (hB : oB σ) (hb : on = 0 ∨ on = 1) (hk : mK (opDispute σ i on) am post) : wX5_dispute post px G (am 0) i on := by
  have hb3 := hB.2.2.2.1
  unfold wX5_dispute
  refine ⟨_, h.a0, m_noInvoice h hB (fun c => ⟨fun z => absurd z m_one, fun _ => ?_⟩) (fun x hi e => ⟨fun _ => ?_, fun z => absurd rfl z⟩)⟩
  · refine m_code h (fun z => absurd z (by decide)) (fun _ G4 h4 => ?_)
    exact hk.of (by unfold opDispute; rw [if_pos c]) h4
  · obtain ⟨n1, n2⟩ := oNo1_f hi (by omega) e
    have v : vp_in (i - 1) 20 := by rw [e, nI_pred]; exact vp_in_nI (by omega) (by decide)
    refine ⟨_, _, h.a0, rfl, _, _, h.a22, v, fun c => ?_, fun c => ?_⟩
    · refine m_code h (fun _ G4 h4 => ⟨_, _, h4.a0, rfl, _, _, h4.a22, v, fun G5 hG5 => ?_⟩) (fun z => absurd rfl z)
      rw [m_nar hb] at hG5
      have h5 := q_I15 h4 hG5
      refine ⟨_, _, h5.a0, rfl, _, _, h5.a19, v, ?_⟩
      exact hk.of (by unfold opDispute; rw [if_neg n1, if_neg c]; rfl) h5
    · refine m_code h (fun z => absurd z (by decide)) (fun _ G4 h4 => ?_)
      exact hk.of (by unfold opDispute; rw [if_neg n1, if_pos c]) h4
theorem r_breaks {post : gh_H → Prop} {b r on : Int32} (h : oM σ k am G) (hB : oB σ) (hb : on = 0 ∨ on = 1) (hk : mK (opBreaks σ b r on) am (fun _ G' => post G')) : wX5_breaks post px G (am 0) b r on := by
  have hb2 := hB.2.2.1
  unfold wX5_breaks
  refine ⟨_, h.a0, m_noBatch h hB (fun c => ⟨fun z => absurd z m_one, fun _ => ?_⟩) (fun i hi e => ⟨fun _ => ?_, fun z => absurd rfl z⟩)⟩
  · refine m_code' h (fun z => absurd z (by decide)) (fun _ G4 h4 => ?_)
    exact hk.of (by unfold opBreaks; rw [if_pos c]) h4
  · obtain ⟨n1, n2⟩ := oNo1_f hi (by omega) e
    have e1 : b - 1 = nI i := by rw [e, nI_pred]
    have v : vp_in (b - 1) 30 := by rw [e1]; exact vp_in_nI (by omega) (by decide)
    have hb8 := hB.2.2.2.2 i
    have no : oNo (σ.2.2 4 i 0) r → wX5_breaks_49 post px G (am 0) b r on (am 0) 1 := fun c => by
      refine m_code' h (fun z => absurd z (by decide)) (fun _ G4 h4 => ?_)
      exact hk.of (by unfold opBreaks; rw [if_neg n1, n2, if_pos c]) h4
    refine ⟨fun c => no (Or.inl c), fun c => ⟨_, _, h.a0, rfl, _, _, h.a11, v, fun c2 => ⟨_, _, h.a0, rfl, _, _, h.a9, v, fun c3 => ?_, fun c3 => ?_⟩, fun c2 => ?_⟩⟩
    · have c2' : r < nI (σ.2.2 4 i 0) := by simpa only [n2] using c2
      have c3' : σ.1 6 i 0 = 0 := by simpa only [n2] using c3
      obtain ⟨j, hj, ej⟩ := oX_idx (N := σ.2.2 4 i 0) (by omega) c c2'
      obtain ⟨n3, n4⟩ := oNo_f hj (by omega) ej
      have ex : 8 * (b - 1) + r = nI (8 * i + j) := by
        rw [e1, ej, show (8 : Int32) = nI 8 from rfl, pk_mul, nI_add]
      refine m_code' h (fun _ G4 h4 => ⟨_, _, h4.a0, rfl, _, _, h4.a16, by rw [ex]; exact vp_in_nI (by omega) (by decide), fun G5 hG5 => ?_⟩) (fun z => absurd rfl z)
      rw [m_nar hb, ex, nI_clamp (by omega)] at hG5
      exact hk.of (by unfold opBreaks; rw [if_neg n1, n2, if_neg n3, if_neg (fun z => z c3'), n4]) (q_I11 h4 rfl (by omega) hG5)
    · have c2' : r < nI (σ.2.2 4 i 0) := by simpa only [n2] using c2
      have c3' : ¬ σ.1 6 i 0 = 0 := by simpa only [n2] using c3
      obtain ⟨j, hj, ej⟩ := oX_idx (N := σ.2.2 4 i 0) (by omega) c c2'
      obtain ⟨n3, n4⟩ := oNo_f hj (by omega) ej
      refine m_code' h (fun z => absurd z (by decide)) (fun _ G4 h4 => ?_)
      exact hk.of (by unfold opBreaks; rw [if_neg n1, n2, if_neg n3, if_pos c3']) h4
    · have c2' : ¬ r < nI (σ.2.2 4 i 0) := by simpa only [n2] using c2
      exact no (Or.inr (Int32.not_lt.mp c2'))
end M31
