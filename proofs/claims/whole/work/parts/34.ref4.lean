section M34
variable {n0 : Nat} {σ σ' : oS} {k : Int32} {am : Nat → Nat} {G : gh_H} {px : String → gh_H → Prop}
theorem m_post78 {post : Int32 → gh_H → Prop} {b : Int32} {i : Nat} (h : oM σ k am G) (hi : i < 30) (hR : σ.2.2 4 i 0 ≤ 8) (e1 : b - 1 = nI i) :
    ∀ (n j : Nat), j ≤ σ.2.2 4 i 0 → σ.2.2 4 i 0 - j < n → (∀ q, oFst (fun j => σ.1 11 i j) (σ.2.2 4 i 0 - j) j = some q → post (-1 - nI q) G) → (oFst (fun j => σ.1 11 i j) (σ.2.2 4 i 0 - j) j = none → wX5_post_118 post px 300 G (am 0) b 0) → wX5_post_78 post px n G (am 0) b (nI j) := by
  have ecl : (nI i).toNatClampNeg = i := nI_clamp (by omega)
  intro n
  induction n with
  | zero => intro j h1 h2; omega
  | succ n ih =>
    intro j hj hn hs hno
    unfold wX5_post_78
    rw [e1, ecl]
    refine ⟨_, _, h.a0, rfl, _, _, h.a11, vp_in_nI hi (by decide), fun c => ?_, fun c => ⟨_, _, h.a0, rfl, _, _, h.a16, ?_, ?_⟩⟩
    · exact hno (by rw [m_end (by omega) hj c]; rfl)
    all_goals have hr := m_go hj (by omega) c
    all_goals have ex : 8 * nI i + nI j = nI (8 * i + j) := by rw [show (8 : Int32) = nI 8 from rfl, pk_mul, nI_add]
    · rw [ex]
      exact vp_in_nI (by omega) (by decide)
    · obtain ⟨m1, m2⟩ := m_row (b := i) (j := j) (by omega)
      rw [ex, nI_clamp (by omega), nI_1]
      simp only [m1, m2]
      rw [show σ.2.2 4 i 0 - j = (σ.2.2 4 i 0 - (j + 1)) + 1 by omega] at hs hno
      simp only [oFst] at hs hno
      refine ⟨fun c2 => ?_, fun c2 => ?_⟩
      · rw [if_pos c2] at hs hno
        exact ih (j + 1) (by omega) (by omega) hs hno
      · rw [if_neg c2] at hs
        exact hs j rfl
theorem r_post {post : Int32 → gh_H → Prop} {b : Int32} (h : oM σ k am G) (hB : oB σ) (hI : oInv n0 σ) (hk : mK (opPost σ b) am post) : wX5_post post px G (am 0) b := by
  have hb := hB.2.2.1
  unfold wX5_post
  refine ⟨_, h.a0, m_noBatch h hB (fun c => ⟨fun z => absurd z m_one, fun _ => ?_⟩) (fun i hi e => ⟨fun _ => ?_, fun z => absurd rfl z⟩)⟩
  · refine m_code h (fun z => absurd z (by decide)) (fun _ G4 h4 => ?_)
    exact hk.of (by unfold opPost; rw [if_pos c]) h4
  · obtain ⟨n1, n2⟩ := oNo1_f hi (by omega) e
    have e1 : b - 1 = nI i := by rw [e, nI_pred]
    have ecl : (nI i).toNatClampNeg = i := nI_clamp (by omega)
    have v : vp_in (nI i) 30 := vp_in_nI (by omega) (by decide)
    have hR := hB.2.2.2.2 i
    have no : opPost σ b = (2, 0, σ) → wX5_post_55 post px G (am 0) b (am 0) 2 := fun c => by
      refine m_code h (fun z => absurd z (by decide)) (fun _ G4 h4 => ?_)
      exact hk.of c h4
    rw [e1, ecl]
    refine ⟨_, _, h.a0, rfl, _, _, h.a9, v, fun c => no ?_, fun c => ⟨_, _, h.a0, rfl, _, _, h.a10, v, _, _, h.a0, rfl, fun c2 => no ?_, fun c2 => ⟨_, _, h.a0, rfl, _, _, h.a11, v, fun c3 => ?_, fun c3 => no ?_⟩⟩⟩
    · unfold opPost; rw [if_neg n1, n2, if_pos c]
    · unfold opPost; rw [if_neg n1, n2, if_neg (fun z => z c), if_pos c2]
    · have c3' : ¬ σ.2.2 4 i 0 = 0 := fun z => c3 (by rw [z]; rfl)
      have ek : opPost σ b = oPostA σ i := by
        unfold opPost; rw [if_neg n1, n2, if_neg (fun z => z c), if_neg c2, if_neg c3']
      rw [ek] at hk
      unfold wX5_post_55
      rw [e1, ecl]
      refine m_code h (fun _ G4 h4 => ⟨_, _, h4.a0, rfl, _, _, h4.a9, v, fun G5 hG5 => ?_⟩) (fun z => absurd rfl z)
      have h5 := q_I6 h4 hG5
      have hra : ∀ j, j < (oI σ 6 i 0 2).2.2 4 i 0 → ∃ a, a < 20 ∧ (oI σ 6 i 0 2).1 9 i j = nI a ∧ (oI σ 6 i 0 2).1 10 i j = (oI σ 6 i 0 2).1 4 a 0 := by
        intro j hj
        obtain ⟨a, ha, r1, r2⟩ := m_ra hI hB hi j hj
        exact ⟨a, ha, by rw [← r1]; simp [oI], by simp [oI, r2]⟩
      have ecur : ∀ c, oCur (oI σ 6 i 0 2) i c = oCur σ i c := fun c => by simp [oCur, oI]
      have efst : (fun j => (oI σ 6 i 0 2).1 11 i j) = fun j => σ.1 11 i j := by funext j; simp [oI]
      refine m_post78 (n := 300) (j := 0) h5 (by omega) hR e1 (by omega) (by show σ.2.2 4 i 0 - 0 < 300; omega) (fun q hq => ?_) (fun hq => ?_)
      · rw [efst] at hq
        exact hk.of (by unfold oPostA; rw [show oFst (fun j => σ.1 11 i j) (σ.2.2 4 i 0) 0 = some q from hq]) h5
      · rw [efst] at hq
        have hq' : oFst (fun j => σ.1 11 i j) (σ.2.2 4 i 0) 0 = none := hq
        have bad : ¬ oZero σ i → post (-9) G5 := fun z => hk.of (by unfold oPostA; rw [hq']; exact if_neg z) h5
        have st : ∀ (n : Nat) (c : Nat), c < 3 → (oCur σ i (nI c) = 0 → wX5_post_118 post px n G5 (am 0) b (nI (c + 1))) → (¬ oCur σ i (nI c) = 0 → post (-9) G5) → wX5_post_118 post px (n + 1) G5 (am 0) b (nI c) := by
          intro n c hc hy hn
          refine ⟨fun z => absurd ((nI_leI (a := 3) (b := c) (by decide) (by omega)).mp z) (by omega), fun _ => ⟨_, h5.a0, ?_⟩⟩
          rw [e1]
          refine m_sumOf h5 (by omega) hR hra ?_
          rw [ecur, nI_1]
          exact ⟨fun z => hy (oX_eq.mp z), fun z => hn (fun y => z (oX_eq.mpr y))⟩
        refine st 299 0 (by omega) (fun z0 => st 298 1 (by omega) (fun z1 => st 297 2 (by omega) (fun z2 => ?_) (fun z => bad (fun y => z y.2.2))) (fun z => bad (fun y => z y.2.1))) (fun z => bad (fun y => z y.1))
        refine ⟨fun _ => ?_, fun z => absurd (by decide) z⟩
        rw [e1, ecl]
        refine ⟨_, _, h5.a0, rfl, _, _, h5.a9, v, fun G6 hG6 => ?_⟩
        refine hk.of (by unfold oPostA; rw [hq']; exact if_pos ⟨z0, z1, z2⟩) ((q_I6 h5 hG6).congr (fun x y z _ => ?_) (fun x y z _ => ?_) (fun x y z => ?_))
        · simp only [oI]
          by_cases a1 : x = 6 ∧ y = i ∧ z = 0 <;> simp [a1]
        · rfl
        · rfl
    · have c3' : σ.2.2 4 i 0 = 0 := (nI_eq (b := 0) (by omega) (by decide)).mp c3
      unfold opPost; rw [if_neg n1, n2, if_neg (fun z => z c), if_neg c2, if_pos c3']
/-! paying -/
abbrev oP (σ : oS) (o : Int32) (i : Nat) : Prop := σ.1 12 i 0 = o ∧ 0 < σ.2.1 2 i 0 ∧ σ.1 15 i 0 = 0
def oMu (σ : oS) (o : Int32) : Nat → Nat
  | 0 => 0
  | n + 1 => (if oP σ o n then 1 else 0) + oMu σ o n
theorem oMu_le {o : Int32} : ∀ n, oMu σ o n ≤ n
  | 0 => Nat.le_refl _
  | n + 1 => by
    have := oMu_le (o := o) n
    unfold oMu
    by_cases c : oP σ o n
    · rw [if_pos c]; omega
    · rw [if_neg c]; omega
theorem oMu_pos {o : Int32} {q : Nat} (hq : oP σ o q) : ∀ n, q < n → 0 < oMu σ o n
  | 0, h => by omega
  | n + 1, h => by
    unfold oMu
    by_cases e : q = n
    · subst e; rw [if_pos hq]; omega
    · have := oMu_pos hq n (by omega)
      omega
theorem oMu_same {o : Int32} {q : Nat} (hne : ∀ j, j ≠ q → (oP σ' o j ↔ oP σ o j)) : ∀ n, n ≤ q → oMu σ' o n = oMu σ o n
  | 0, _ => rfl
  | n + 1, h => by
    unfold oMu
    rw [oMu_same hne n (by omega)]
    have := hne n (by omega)
    by_cases c : oP σ o n
    · rw [if_pos c, if_pos (this.mpr c)]
    · rw [if_neg c, if_neg (fun z => c (this.mp z))]
theorem oMu_drop {o : Int32} {q : Nat} (hq : oP σ o q) (hq' : ¬ oP σ' o q) (hne : ∀ j, j ≠ q → (oP σ' o j ↔ oP σ o j)) : ∀ n, q < n → oMu σ' o n + 1 = oMu σ o n
  | 0, h => by omega
  | n + 1, h => by
    unfold oMu
    by_cases e : q = n
    · subst e
      rw [if_pos hq, if_neg hq', oMu_same hne q (Nat.le_refl _)]
      omega
    · have := oMu_drop hq hq' hne n (by omega)
      have t := hne n (fun z => e z.symm)
      by_cases c : oP σ o n
      · rw [if_pos c, if_pos (t.mpr c)]; omega
      · rw [if_neg c, if_neg (fun z => c (t.mp z))]; omega
theorem oNext_P {o : Int32} : ∀ (k i : Nat) (v : Option Nat) (N : Nat), i + k = N → (∀ q, v = some q → q < N ∧ oP σ o q) → ∀ q, oFold (fun i v => if σ.1 12 i 0 = o ∧ 0 < σ.2.1 2 i 0 ∧ σ.1 15 i 0 = 0 ∧ (∀ k, v = some k → σ.1 13 i 0 < σ.1 13 k 0) then some i else v) k i v = some q → q < N ∧ oP σ o q := by
  intro k
  induction k with
  | zero => intro i v N _ hv q hq; exact hv q hq
  | succ k ih =>
    intro i v N hN hv q hq
    simp only [oFold] at hq
    refine ih (i + 1) _ N (by omega) ?_ q hq
    intro q2 h2
    by_cases c : σ.1 12 i 0 = o ∧ 0 < σ.2.1 2 i 0 ∧ σ.1 15 i 0 = 0 ∧ (∀ k, v = some k → σ.1 13 i 0 < σ.1 13 k 0)
    · rw [if_pos c] at h2
      cases h2
      exact ⟨by omega, c.1, c.2.1, c.2.2.1⟩
    · rw [if_neg c] at h2
      exact hv q2 h2
def oOpt : Option Nat → Int32
  | none => -1
  | some q => nI q
theorem m_next_l {post : Int32 → gh_H → Prop} {J : gh_H → Nat → Int32 → Int64 → Int32 → Prop} {o : Int32} {x : Nat} {w : Int64} {c : Int32} (h : oM σ k am G) (hV : σ.2.2 3 0 0 ≤ 20) (hx : x < 6) (eo : o = nI x)
    (hN : oNext σ o = none → ∀ G', oM (oL σ 0 x 0 (σ.2.1 0 x 0 + w)) k am G' → post c G')
    (hS : ∀ q, oNext σ o = some q → q < σ.2.2 3 0 0 → ∀ G', oM (oL σ 2 q 0 (σ.2.1 2 q 0 - oTk w (σ.2.1 2 q 0))) k am G' → J G' (am 0) o (w - oTk w (σ.2.1 2 q 0)) (if σ.2.1 2 q 0 - oTk w (σ.2.1 2 q 0) = 0 then c + 1 else c)) :
    ∀ (n i : Nat) (v : Option Nat), i ≤ σ.2.2 3 0 0 → σ.2.2 3 0 0 - i < n → (∀ q, v = some q → q < σ.2.2 3 0 0) → oFold (fun i v => if σ.1 12 i 0 = o ∧ 0 < σ.2.1 2 i 0 ∧ σ.1 15 i 0 = 0 ∧ (∀ k, v = some k → σ.1 13 i 0 < σ.1 13 k 0) then some i else v) (σ.2.2 3 0 0 - i) i v = oNext σ o → wX5_pay_60 post px J n G (am 0) o w c (oOpt v) (nI i) := by
  intro n
  induction n with
  | zero => intro i v h1 h2; omega
  | succ n ih =>
    intro i v hi hn hv he
    refine ⟨_, _, h.a0, rfl, fun c1 => ?_, fun c1 => ?_⟩
    · rw [m_end (by omega) hi c1] at he
      have he : v = oNext σ o := he
      refine ⟨fun c2 => ?_, fun c2 => ?_⟩
      · obtain ⟨q, eq⟩ : ∃ q, v = some q := by cases v with
          | none => exact absurd c2 (by decide)
          | some q => exact ⟨q, rfl⟩
        subst eq
        have hq := hv q rfl
        have ecq : (nI q).toNatClampNeg = q := nI_clamp (by omega)
        refine ⟨_, h.a0, m_meet h (by omega) (fun G1 h1 => ⟨_, _, h1.a0, rfl, _, _, h1.a19, vp_in_nI (by omega) (by decide), ?_⟩)⟩
        have := hS q he.symm hq G1 h1
        have e2 : (oL σ 2 q 0 (σ.2.1 2 q 0 - oTk w (σ.2.1 2 q 0))).2.1 2 q 0 = σ.2.1 2 q 0 - oTk w (σ.2.1 2 q 0) := by simp [oL]
        show (¬ lg_cmp ((oL σ 2 q 0 (σ.2.1 2 q 0 - oTk w (σ.2.1 2 q 0))).2.1 2 (nI q).toNatClampNeg 0) 0 = 0 → _) ∧ (lg_cmp ((oL σ 2 q 0 (σ.2.1 2 q 0 - oTk w (σ.2.1 2 q 0))).2.1 2 (nI q).toNatClampNeg 0) 0 = 0 → _)
        rw [ecq, e2]
        refine ⟨fun z => ?_, fun z => ?_⟩
        · rw [if_neg (fun y => z (oX_eq.mpr y))] at this; exact this
        · rw [if_pos (oX_eq.mp z)] at this; exact this
      · have ev : v = none := by cases v with
          | none => rfl
          | some q => exact absurd (nI_pos' (by have := hv q rfl; omega)) c2
        subst ev
        have ecx : o.toNatClampNeg = x := by rw [eo]; exact nI_clamp (by omega)
        have vx : vp_in o 6 := by rw [eo]; exact vp_in_nI hx (by decide)
        rw [ecx]
        exact ⟨_, _, h.a0, rfl, _, _, h.a0, rfl, _, _, h.a5, vx, _, _, h.a5, vx, fun G1 hG1 => hN he.symm G1 (q_L0 h hG1)⟩
    · have hr := m_go hi (by omega) c1
      have ecl : (nI i).toNatClampNeg = i := nI_clamp (by omega)
      have vi : vp_in (nI i) 20 := vp_in_nI (by omega) (by decide)
      rw [show σ.2.2 3 0 0 - i = (σ.2.2 3 0 0 - (i + 1)) + 1 by omega] at he
      simp only [oFold] at he
      unfold wX5_pay_124
      rw [ecl, nI_1]
      refine ⟨_, _, h.a0, rfl, _, _, h.a18, vi, fun c2 => ?_, fun c2 => ⟨_, _, h.a0, rfl, _, _, h.a19, vi, fun c3 => ?_, fun c3 => ⟨_, _, h.a0, rfl, _, _, h.a22, vi, fun c4 => ?_, fun c4 => ⟨fun c5 => ?_, fun c5 => ?_⟩⟩⟩⟩
      · rw [if_neg (fun z => c2 z.1)] at he
        exact ih (i + 1) v (by omega) (by omega) hv he
      · rw [if_neg (fun z => Int64.not_lt.mpr (oX_le.mp c3) z.2.1)] at he
        exact ih (i + 1) v (by omega) (by omega) hv he
      · rw [if_neg (fun z => c4 z.2.2.1)] at he
        exact ih (i + 1) v (by omega) (by omega) hv he
      · have ev : v = none := by cases v with
          | none => rfl
          | some q => exact absurd c5 (nI_pos (by have := hv q rfl; omega))
        subst ev
        rw [if_pos ⟨c2, Int64.not_le.mp (fun z => c3 (oX_le.mpr z)), c4, fun k z => (by cases z)⟩] at he
        exact ih (i + 1) (some i) (by omega) (by omega) (fun k z => (by cases z; exact hr)) he
      · obtain ⟨q, eq⟩ : ∃ q, v = some q := by cases v with
          | none => exact absurd (by decide) c5
          | some q => exact ⟨q, rfl⟩
        subst eq
        have hq := hv q rfl
        have ecq : (nI q).toNatClampNeg = q := nI_clamp (by omega)
        refine ⟨_, _, h.a0, rfl, _, _, h.a20, vi, _, _, h.a0, rfl, _, _, h.a20, vp_in_nI (by omega) (by decide), ?_⟩
        show ((fun n => σ.1 13 n 0) (nI q).toNatClampNeg ≤ _ → _) ∧ (¬ (fun n => σ.1 13 n 0) (nI q).toNatClampNeg ≤ _ → _)
        rw [ecq]
        refine ⟨fun c6 => ?_, fun c6 => ?_⟩
        · rw [if_neg (fun z => Int32.not_lt.mpr c6 (z.2.2.2 q rfl))] at he
          exact ih (i + 1) (some q) (by omega) (by omega) hv he
        · rw [if_pos ⟨c2, Int64.not_le.mp (fun z => c3 (oX_le.mpr z)), c4, fun k2 z => (by cases z; exact Int32.not_le.mp c6)⟩] at he
          exact ih (i + 1) (some i) (by omega) (by omega) (fun k z => (by cases z; exact hr)) he
theorem oPayL_0 {o : Int32} {w : Int64} {c : Int32} (hw : w ≤ 0) : ∀ K, oPayL o K σ w c = (σ, w, c)
  | 0 => rfl
  | K + 1 => by simp only [oPayL]; rw [if_pos hw]
theorem oTk_c {w v : Int64} (hw : 0 < w) (hv : 0 < v) : (w - oTk w v = 0 ∨ (v - oTk w v = 0 ∧ 0 ≤ w - oTk w v)) := by
  unfold oTk
  by_cases c : w < v
  · rw [if_pos c]
    exact Or.inl (Int64.sub_self w)
  · rw [if_neg c]
    refine Or.inr ⟨Int64.sub_self v, ?_⟩
    obtain ⟨a, ha, ea⟩ := pk_lOf (x := w) (fun z => by rw [Int64.lt_iff_toInt_lt] at z hw; omega)
    obtain ⟨b, hb, eb⟩ := pk_lOf (x := v) (fun z => by rw [Int64.lt_iff_toInt_lt] at z hv; omega)
    subst ea; subst eb
    have hab : b ≤ a := by
      have := mt (pk_lLT ha hb).mpr c
      omega
    rw [lN_sub hab]
    exact (pk_lLE (a := 0) (by decide) (by omega)).mpr (by omega)
theorem m_pay_l {post : Int32 → gh_H → Prop} {o : Int32} {x : Nat} (hx : x < 6) (eo : o = nI x) : ∀ (K n : Nat) (σ : oS) (G : gh_H) (w : Int64) (c : Int32), σ.2.2 3 0 0 ≤ 20 → K < n → oM σ 0 am G → 0 ≤ w → (0 < w → oMu σ o (σ.2.2 3 0 0) ≤ K) →
    (∀ G', oM (oL (oPayL o K σ w c).1 0 x 0 ((oPayL o K σ w c).1.2.1 0 x 0 + (oPayL o K σ w c).2.1)) 0 am G' → post (oPayL o K σ w c).2.2 G') → wX5_pay_47 post px n G (am 0) o w c := by
  have nil : ∀ (n : Nat) (σ : oS) (G : gh_H) (w : Int64) (c : Int32), 0 < n → oM σ 0 am G → 0 ≤ w → w ≤ 0 → (∀ G', oM (oL σ 0 x 0 (σ.2.1 0 x 0 + w)) 0 am G' → post c G') → wX5_pay_47 post px n G (am 0) o w c := by
    intro n σ G w c hn h h0 h1 hp
    match n, hn with
    | n + 1, _ =>
      refine ⟨fun _ => hp G (h.congr (fun _ _ _ _ => rfl) (fun a b e _ => ?_) (fun _ _ _ => rfl)), fun z => absurd (oX_le.mpr h1) z⟩
      have hw : w = 0 := by
        rw [Int64.le_iff_toInt_le] at h0 h1
        exact Int64.toInt_inj.mp (by omega)
      subst hw
      simp only [oL]
      by_cases a1 : a = 0 ∧ b = x ∧ e = 0
      · rw [if_pos a1]
        obtain ⟨rfl, rfl, rfl⟩ := a1
        exact (Int64.add_zero _).symm
      · rw [if_neg a1]
  intro K
  induction K with
  | zero =>
    intro n σ G w c hV hn h h0 hm hp
    match n, hn with
    | n + 1, _ =>
      by_cases c1 : w ≤ 0
      · exact nil (n + 1) σ G w c (by omega) h h0 c1 hp
      · refine ⟨fun z => absurd (oX_le.mp z) c1, fun _ => ?_⟩
        refine m_next_l h hV hx eo (fun _ => hp) (fun q hq hqV => ?_) 300 0 none (by omega) (by omega) (fun q z => (by cases z)) rfl
        exfalso
        have := oNext_P (σ := σ) (o := o) (σ.2.2 3 0 0) 0 none (σ.2.2 3 0 0) (by omega) (fun q z => (by cases z)) q hq
        have := oMu_pos this.2 (σ.2.2 3 0 0) this.1
        have := hm (Int64.not_le.mp c1)
        omega
  | succ K ih =>
    intro n σ G w c hV hn h h0 hm hp
    match n, hn with
    | n + 1, hn =>
      by_cases c1 : w ≤ 0
      · rw [oPayL_0 c1] at hp
        exact nil (n + 1) σ G w c (by omega) h h0 c1 hp
      · have c1' := Int64.not_le.mp c1
        refine ⟨fun z => absurd (oX_le.mp z) c1, fun _ => ?_⟩
        simp only [oPayL, if_neg c1] at hp
        refine m_next_l h hV hx eo (fun e => ?_) (fun q hq hqV G1 h1 => ?_) 300 0 none (by omega) (by omega) (fun q z => (by cases z)) rfl
        · rw [e] at hp
          exact hp
        · rw [hq] at hp
          have hP := (oNext_P (σ := σ) (o := o) (σ.2.2 3 0 0) 0 none (σ.2.2 3 0 0) (by omega) (fun q z => (by cases z)) q hq).2
          have hd := oTk_c c1' hP.2.1
          refine ih n (oL σ 2 q 0 (σ.2.1 2 q 0 - oTk w (σ.2.1 2 q 0))) G1 _ _ hV (by omega) h1 ?_ ?_ hp
          · rcases hd with z | z
            · rw [z]; exact Int64.le_refl _
            · exact z.2
          · intro hw
            rcases hd with z | z
            · rw [z] at hw
              exact absurd hw (by decide)
            · have := oMu_drop (σ := σ) (σ' := oL σ 2 q 0 (σ.2.1 2 q 0 - oTk w (σ.2.1 2 q 0))) (o := o) hP ?_ ?_ (σ.2.2 3 0 0) hqV
              · have := hm c1'
                show oMu _ o (σ.2.2 3 0 0) ≤ K
                omega
              · intro y
                have y1 := y.2.1
                rw [z.1] at y1
                simp [oL] at y1
              · intro j hj
                simp [oP, oL, hj]
theorem r_pay {post : Int32 → gh_H → Prop} {o : Int32} {w : Int64} (h : oM σ k am G) (hB : oB σ) (hk : mK (opPay σ o w) am post) : wX5_pay post px G (am 0) o w := by
  have hb := hB.1
  have hb3 := hB.2.2.2.1
  unfold wX5_pay
  refine ⟨_, h.a0, m_noOwner h hB (fun c => ⟨fun z => absurd z m_one, fun _ => ?_⟩) (fun x hi e => ⟨fun _ => m_not (fun c => ⟨fun z => absurd z m_one, fun _ => ?_⟩) (fun c => ⟨fun _ => ?_, fun z => absurd rfl z⟩), fun z => absurd rfl z⟩)⟩
  · refine m_code h (fun z => absurd z (by decide)) (fun _ G4 h4 => ?_)
    exact hk.of (by unfold opPay; rw [if_pos c]) h4
  · refine m_code h (fun z => absurd z (by decide)) (fun _ G4 h4 => ?_)
    exact hk.of (by unfold opPay; rw [if_neg (oNo_f hi (by omega) e).1, if_pos c]) h4
  · obtain ⟨n1, n2⟩ := oNo_f hi (by omega) e
    refine m_code h (fun _ G4 h4 => ?_) (fun z => absurd rfl z)
    have hw : 0 ≤ w := by
      have := Int64.not_lt.mp (fun z => c (Or.inl z))
      rw [Int64.le_iff_toInt_le] at this ⊢
      have e1 : (1 : Int64).toInt = 1 := by decide
      have e0 : (0 : Int64).toInt = 0 := by decide
      omega
    refine m_pay_l (x := x) (by omega) e 20 300 σ G4 w 0 (by omega) (by omega) h4 hw (fun _ => Nat.le_trans (oMu_le _) hb3) (fun G' h' => ?_)
    exact hk.of (by unfold opPay; rw [if_neg n1, if_neg c, n2]) h'
end M34
