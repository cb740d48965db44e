/-! The reference's loops, and its calls that have one. -/
section M32
variable {n0 : Nat} {σ σ' : oS} {k : Int32} {am : Nat → Nat} {G : gh_H} {px : String → gh_H → Prop}
theorem m_end {V i : Nat} (hV : V < 2 ^ 31) (hi : i ≤ V) (c : nI V ≤ nI i) : V - i = 0 := by
  have := (nI_leI hV (by omega)).mp c
  omega
theorem m_go {V i : Nat} (hi : i ≤ V) (hV : V < 2 ^ 31) (c : ¬ nI V ≤ nI i) : i < V := by
  rcases Nat.lt_or_ge i V with z | z
  · exact z
  · exact absurd (nI_le z (by omega)) c
theorem m_overdues_l {post : Int32 → gh_H → Prop} {o : Int32} (h : oM σ k am G) (hB : oB σ) : ∀ (n i : Nat) (v : Int32), i ≤ σ.2.2 3 0 0 → σ.2.2 3 0 0 - i < n → post (oFold (fun i v => if σ.1 12 i 0 = o ∧ oOv σ i (σ.1 0 0 0) then v + 1 else v) (σ.2.2 3 0 0 - i) i v) G → wX5_overdues_4 post px n G (am 0) o v (nI i) := by
  have hb := hB.2.2.2.1
  intro n
  induction n with
  | zero => intro i v h1 h2; omega
  | succ n ih =>
    intro i v hi hn hp
    refine ⟨_, _, h.a0, rfl, fun c => ?_, fun c => ?_⟩
    · rw [m_end (by omega) hi c] at hp
      exact hp
    · have hr := m_go hi (by omega) c
      have v20 : vp_in (nI i) 20 := vp_in_nI (by omega) (by decide)
      have ecl : (nI i).toNatClampNeg = i := nI_clamp (by omega)
      rw [show σ.2.2 3 0 0 - i = (σ.2.2 3 0 0 - (i + 1)) + 1 by omega] at hp
      simp only [oFold] at hp
      have ih := fun v' hv' => ih (i + 1) v' (by omega) (by omega) hv'
      unfold wX5_overdues_36
      rw [ecl, nI_1, Int32.add_zero]
      refine ⟨_, _, h.a0, rfl, _, _, h.a18, v20, fun c2 => ih _ ?_, fun c2 => ⟨_, h.a0, m_overdue h (by omega) (fun c3 => ⟨fun z => absurd z m_one, fun _ => ih _ ?_⟩) (fun c3 => ⟨fun _ => ih _ ?_, fun z => absurd rfl z⟩)⟩⟩
      · rw [if_neg (fun z => c2 z.1)] at hp; exact hp
      · rw [if_pos ⟨c2, c3⟩] at hp; exact hp
      · rw [if_neg (fun z => c3 z.2)] at hp; exact hp
theorem r_hold {post : Int32 → gh_H → Prop} {o on : Int32} (h : oM σ k am G) (hB : oB σ) (hb : on = 0 ∨ on = 1) (hk : mK (opHold σ o on) am post) : wX5_hold post px G (am 0) o on := by
  have hb0 := hB.1
  unfold wX5_hold
  refine ⟨_, h.a0, m_noOwner h hB (fun c => ⟨fun z => absurd z m_one, fun _ => ?_⟩) (fun x hi e => ⟨fun _ => ?_, fun z => absurd rfl z⟩)⟩
  · refine m_code h (fun z => absurd z (by decide)) (fun _ G4 h4 => ?_)
    exact hk.of (by unfold opHold; rw [if_pos c]) h4
  · obtain ⟨n1, n2⟩ := oNo_f hi (by omega) e
    have v : vp_in o 6 := by rw [e]; exact vp_in_nI (by omega) (by decide)
    refine ⟨_, _, h.a0, rfl, _, _, h.a4, v, fun c => ?_, fun c => ?_⟩
    · refine m_code h (fun _ G4 h4 => ⟨_, _, h4.a0, rfl, _, _, h4.a4, v, fun G5 hG5 => ?_⟩) (fun z => absurd rfl z)
      rw [m_nar hb] at hG5
      have h5 := q_I3 h4 hG5
      refine ⟨_, h5.a0, m_overdues_l h5 hB 300 0 0 (by omega) (by have := hB.2.2.2.1; show σ.2.2 3 0 0 - 0 < 300; omega) ?_⟩
      exact hk.of (by unfold opHold; rw [if_neg n1, if_neg c]; rw [← oOvs_3 (σ := σ) (o := o) (i := oAt o) (v := on)]; rfl) h5
    · refine m_code h (fun z => absurd z (by decide)) (fun _ G4 h4 => ?_)
      exact hk.of (by unfold opHold; rw [if_neg n1, if_pos c]) h4
theorem m_row {b j : Nat} (hj : j < 8) : (8 * b + j) / 8 = b ∧ (8 * b + j) % 8 = j := by omega
theorem m_sumOf_l {post : Int64 → gh_H → Prop} {c : Int32} {b : Nat} (h : oM σ k am G) (hb : b < 30) (hR : σ.2.2 4 b 0 ≤ 8) (hra : ∀ j, j < σ.2.2 4 b 0 → ∃ a, a < 20 ∧ σ.1 9 b j = nI a ∧ σ.1 10 b j = σ.1 4 a 0) :
    ∀ (n j : Nat) (v : Int64), j ≤ σ.2.2 4 b 0 → σ.2.2 4 b 0 - j < n → post (oFold (fun j v => if σ.1 10 b j = c then v + σ.2.1 1 b j else v) (σ.2.2 4 b 0 - j) j v) G → wX5_sumOf_8 post px n G (am 0) (nI b) c v (nI (8 * b + j)) := by
  have ecb : (nI b).toNatClampNeg = b := nI_clamp (by omega)
  intro n
  induction n with
  | zero => intro i v h1 h2; omega
  | succ n ih =>
    intro j v hj hn hp
    have e8 : 8 * nI b + nI (σ.2.2 4 b 0) = nI (8 * b + σ.2.2 4 b 0) := by
      rw [show (8 : Int32) = nI 8 from rfl, pk_mul, nI_add]
    refine ⟨_, _, h.a0, rfl, _, _, h.a11, vp_in_nI hb (by decide), ?_⟩
    rw [ecb, e8]
    refine ⟨fun c1 => ?_, fun c1 => ?_⟩
    · have := m_end (V := 8 * b + σ.2.2 4 b 0) (i := 8 * b + j) (by omega) (by omega) c1
      rw [show σ.2.2 4 b 0 - j = 0 by omega] at hp
      exact hp
    · have hr : j < σ.2.2 4 b 0 := by
        have := m_go (V := 8 * b + σ.2.2 4 b 0) (i := 8 * b + j) (by omega) (by omega) c1
        omega
      obtain ⟨m1, m2⟩ := m_row (b := b) (j := j) (by omega)
      obtain ⟨a, ha, e9, e10⟩ := hra j hr
      have ecl : (nI (8 * b + j)).toNatClampNeg = 8 * b + j := nI_clamp (by omega)
      rw [show σ.2.2 4 b 0 - j = (σ.2.2 4 b 0 - (j + 1)) + 1 by omega] at hp
      simp only [oFold] at hp
      have ih := fun v' hv' => ih (j + 1) v' (by omega) (by omega) hv'
      unfold wX5_sumOf_52
      rw [ecl, nI_1, Int64.add_zero, show 8 * b + j + 1 = 8 * b + (j + 1) by omega]
      refine ⟨_, _, h.a0, rfl, _, _, h.a0, rfl, _, _, h.a14, vp_in_nI (by omega) (by decide), _, _, h.a7, ?_, ?_⟩
      · simp only [m1, m2, e9]; exact vp_in_nI ha (by decide)
      · simp only [m1, m2, e9, nI_clamp (show a < 2 ^ 31 by omega)]
        refine ⟨fun c2 => ih _ ?_, fun c2 => ⟨_, _, h.a0, rfl, _, _, h.a15, vp_in_nI (by omega) (by decide), ?_⟩⟩
        · rw [if_neg (by rw [e10]; exact c2)] at hp; exact hp
        · simp only [m1, m2]
          refine ih _ ?_
          rw [if_pos (by rw [e10]; exact c2)] at hp; exact hp
theorem m_sumOf {post : Int64 → gh_H → Prop} {c : Int32} {b : Nat} (h : oM σ k am G) (hb : b < 30) (hR : σ.2.2 4 b 0 ≤ 8) (hra : ∀ j, j < σ.2.2 4 b 0 → ∃ a, a < 20 ∧ σ.1 9 b j = nI a ∧ σ.1 10 b j = σ.1 4 a 0) (hp : post (oCur σ b c) G) : wX5_sumOf post px G (am 0) (nI b) c := by
  unfold wX5_sumOf
  rw [show (8 : Int32) = nI 8 from rfl, pk_mul]
  exact m_sumOf_l h hb hR hra 300 0 0 (by omega) (by omega) hp
theorem m_ra (hI : oInv n0 σ) (hB : oB σ) {b : Nat} (hb : b < σ.2.2 2 0 0) : ∀ j, j < σ.2.2 4 b 0 → ∃ a, a < 20 ∧ σ.1 9 b j = nI a ∧ σ.1 10 b j = σ.1 4 a 0 := by
  intro j hj
  obtain ⟨a, ha, r⟩ := hI.ra b hb j hj
  have := hB.2.1
  exact ⟨a, by omega, r⟩
theorem m_all_l {post : Int64 → gh_H → Prop} {c : Int32} (h : oM σ k am G) (hB : oB σ) (hI : oInv n0 σ) : ∀ (n b : Nat) (v : Int64), b ≤ σ.2.2 2 0 0 → σ.2.2 2 0 0 - b < n → post (oFold (fun b v => if σ.1 6 b 0 = 1 then v + oCur σ b c else v) (σ.2.2 2 0 0 - b) b v) G → wX5_all_35 post px n G (am 0) c v (nI b) := by
  have hb := hB.2.2.1
  intro n
  induction n with
  | zero => intro i v h1 h2; omega
  | succ n ih =>
    intro i v hi hn hp
    refine ⟨_, _, h.a0, rfl, fun c => ?_, fun c => ?_⟩
    · rw [m_end (by omega) hi c] at hp
      exact hp
    · have hr := m_go hi (by omega) c
      have ecl : (nI i).toNatClampNeg = i := nI_clamp (by omega)
      rw [show σ.2.2 2 0 0 - i = (σ.2.2 2 0 0 - (i + 1)) + 1 by omega] at hp
      simp only [oFold] at hp
      have ih := fun v' hv' => ih (i + 1) v' (by omega) (by omega) hv'
      unfold wX5_all_67
      rw [ecl, nI_1, Int64.add_zero]
      refine ⟨_, _, h.a0, rfl, _, _, h.a9, vp_in_nI (by omega) (by decide), fun c2 => ih _ ?_, fun c2 => ⟨_, h.a0, m_sumOf h (by omega) (hB.2.2.2.2 i) (m_ra hI hB hr) (ih _ ?_)⟩⟩
      · rw [if_neg c2] at hp; exact hp
      · rw [if_pos c2] at hp; exact hp
theorem r_all {post : Int64 → gh_H → Prop} {c : Int32} (h : oM σ k am G) (hB : oB σ) (hI : oInv n0 σ) (hk : mK (opAll σ c) am post) : wX5_all post px G (am 0) c := by
  have hb := hB.2.2.1
  unfold wX5_all
  refine m_not32 (l := 0) (u := 2) (by decide) (by decide) (fun c => ⟨fun z => absurd z m_one, fun _ => ?_⟩) (fun c => ⟨fun _ => ?_, fun z => absurd rfl z⟩)
  · refine m_code h (fun z => absurd z (by decide)) (fun _ G4 h4 => ?_)
    exact hk.of (by unfold opAll; rw [if_pos c]) h4
  · refine m_code h (fun _ G4 h4 => m_all_l h4 hB hI 300 0 0 (by omega) (by omega) ?_) (fun z => absurd rfl z)
    exact hk.of (by unfold opAll; rw [if_neg c]; rfl) h4
theorem oFold_add {P : Nat → Prop} [∀ j, Decidable (P j)] {x : Nat → Int64} : ∀ (k i : Nat) (v : Int64), oFold (fun j v => if P j then v + x j else v) k i v = v + oFold (fun j v => if P j then v + x j else v) k i 0 := by
  intro k
  induction k with
  | zero => intro i v; exact (Int64.add_zero v).symm
  | succ k ih =>
    intro i v
    simp only [oFold]
    by_cases c : P i
    · rw [if_pos c, if_pos c, ih, ih (i + 1) (0 + x i), Int64.zero_add, Int64.add_assoc]
    · rw [if_neg c, if_neg c, ih]
theorem m_bal_l {post : Int64 → gh_H → Prop} {J : gh_H → Nat → Int32 → Int32 → Int64 → Int32 → Prop} {a m : Int32} {b : Nat} (h : oM σ k am G) (hb : b < 30) (hR : σ.2.2 4 b 0 ≤ 8) :
    ∀ (n j : Nat) (v : Int64), j ≤ σ.2.2 4 b 0 → σ.2.2 4 b 0 - j < n → J G (am 0) a m (if σ.1 6 b 0 = 1 ∧ σ.1 5 b 0 ≤ m then oFold (fun j v => if σ.1 9 b j = a then v + σ.2.1 1 b j else v) (σ.2.2 4 b 0 - j) j v else v) (nI (b + 1)) → wX5_balance_67 post px J n G (am 0) a m v (nI b) (nI (8 * b + j)) := by
  have ecb : (nI b).toNatClampNeg = b := nI_clamp (by omega)
  intro n
  induction n with
  | zero => intro i v h1 h2; omega
  | succ n ih =>
    intro j v hj hn hp
    have e8 : 8 * nI b + nI (σ.2.2 4 b 0) = nI (8 * b + σ.2.2 4 b 0) := by
      rw [show (8 : Int32) = nI 8 from rfl, pk_mul, nI_add]
    refine ⟨_, _, h.a0, rfl, _, _, h.a11, vp_in_nI hb (by decide), ?_⟩
    rw [ecb, e8, nI_1]
    refine ⟨fun c1 => ?_, fun c1 => ?_⟩
    · have := m_end (V := 8 * b + σ.2.2 4 b 0) (i := 8 * b + j) (by omega) (by omega) c1
      rw [show σ.2.2 4 b 0 - j = 0 by omega] at hp
      simp only [oFold, ite_self] at hp
      exact hp
    · have hr : j < σ.2.2 4 b 0 := by
        have := m_go (V := 8 * b + σ.2.2 4 b 0) (i := 8 * b + j) (by omega) (by omega) c1
        omega
      obtain ⟨m1, m2⟩ := m_row (b := b) (j := j) (by omega)
      have ecl : (nI (8 * b + j)).toNatClampNeg = 8 * b + j := nI_clamp (by omega)
      rw [show σ.2.2 4 b 0 - j = (σ.2.2 4 b 0 - (j + 1)) + 1 by omega] at hp
      simp only [oFold] at hp
      have ih := fun v' hv' => ih (j + 1) v' (by omega) (by omega) hv'
      rw [ecl, nI_1, show 8 * b + j + 1 = 8 * b + (j + 1) by omega]
      refine ⟨_, _, h.a0, rfl, _, _, h.a9, vp_in_nI hb (by decide), fun c2 => ih _ ?_, fun c2 => ⟨_, _, h.a0, rfl, _, _, h.a10, vp_in_nI hb (by decide), fun c3 => ih _ ?_, fun c3 => ⟨_, _, h.a0, rfl, _, _, h.a14, vp_in_nI (by omega) (by decide), ?_⟩⟩⟩
      · rw [if_neg (fun z => c2 z.1)] at hp ⊢; exact hp
      · rw [if_neg (fun z => Int32.not_lt.mpr z.2 c3)] at hp ⊢; exact hp
      · rw [if_pos ⟨c2, Int32.not_lt.mp c3⟩] at hp
        simp only [m1, m2]
        refine ⟨fun c4 => ih _ ?_, fun c4 => ⟨_, _, h.a0, rfl, _, _, h.a15, vp_in_nI (by omega) (by decide), ?_⟩⟩
        · rw [if_pos ⟨c2, Int32.not_lt.mp c3⟩]
          rw [if_neg c4] at hp; exact hp
        · simp only [m1, m2]
          refine ih _ ?_
          rw [if_pos ⟨c2, Int32.not_lt.mp c3⟩]
          rw [if_pos c4] at hp; exact hp
theorem m_balance_l {post : Int64 → gh_H → Prop} {a m : Int32} (h : oM σ k am G) (hB : oB σ) : ∀ (n b : Nat) (v : Int64), b ≤ σ.2.2 2 0 0 → σ.2.2 2 0 0 - b < n → post (oFold (fun b v => if σ.1 6 b 0 = 1 ∧ σ.1 5 b 0 ≤ m then v + oAcc σ b a else v) (σ.2.2 2 0 0 - b) b v) G → wX5_balance_51 post px n G (am 0) a m v (nI b) := by
  have hb := hB.2.2.1
  intro n
  induction n with
  | zero => intro i v h1 h2; omega
  | succ n ih =>
    intro i v hi hn hp
    refine ⟨_, _, h.a0, rfl, fun c => ?_, fun c => ?_⟩
    · rw [m_end (by omega) hi c] at hp
      exact hp
    · have hr := m_go hi (by omega) c
      rw [show σ.2.2 2 0 0 - i = (σ.2.2 2 0 0 - (i + 1)) + 1 by omega] at hp
      simp only [oFold] at hp
      rw [show (8 : Int32) = nI 8 from rfl, pk_mul]
      refine m_bal_l h (by omega) (hB.2.2.2.2 i) 300 0 v (by omega) (by have := hB.2.2.2.2 i; omega) (ih (i + 1) _ (by omega) (by omega) ?_)
      rw [Nat.sub_zero, oFold_add (P := fun j => σ.1 9 i j = a) (x := fun j => σ.2.1 1 i j) (σ.2.2 4 i 0) 0 v]
      exact hp
theorem r_balance {post : Int64 → gh_H → Prop} {a m : Int32} (h : oM σ k am G) (hB : oB σ) (hk : mK (opBalance σ a m) am post) : wX5_balance post px G (am 0) a m := by
  have hb := hB.2.2.1
  unfold wX5_balance
  have no : oNo (σ.2.2 1 0 0) a → wX5_balance_34 post px G (am 0) a m (am 0) 1 := fun c => by
    refine m_code h (fun z => absurd z (by decide)) (fun _ G4 h4 => ?_)
    exact hk.of (by unfold opBalance; rw [if_pos c]) h4
  refine ⟨fun c => no (Or.inl c), fun c => ⟨_, _, h.a0, rfl, fun c2 => m_not32 (l := 0) (u := 120) (by decide) (by decide) (fun c3 => ⟨fun z => absurd z m_one, fun _ => ?_⟩) (fun c3 => ⟨fun _ => ?_, fun z => absurd rfl z⟩), fun c2 => no (Or.inr (Int32.not_lt.mp c2))⟩⟩
  · have n1 : ¬ oNo (σ.2.2 1 0 0) a := fun z => z.elim c (fun y => Int32.not_lt.mpr y c2)
    refine m_code h (fun z => absurd z (by decide)) (fun _ G4 h4 => ?_)
    exact hk.of (by unfold opBalance; rw [if_neg n1, if_pos c3]) h4
  · have n1 : ¬ oNo (σ.2.2 1 0 0) a := fun z => z.elim c (fun y => Int32.not_lt.mpr y c2)
    refine m_code h (fun _ G4 h4 => m_balance_l h4 hB 300 0 0 (by omega) (by omega) ?_) (fun z => absurd rfl z)
    exact hk.of (by unfold opBalance; rw [if_neg n1, if_neg c3]; rfl) h4
theorem r_count {post : Int32 → gh_H → Prop} {w : Int32} (h : oM σ k am G) (hB : oB σ) (hp : ∀ G', oM σ 0 am G' → post (opCount σ w) G') : wX5_count post px G (am 0) w := by
  have hb := hB.1
  have hb2 := hB.2.2.1
  have hb3 := hB.2.2.2.1
  have l3 : ∀ (G : gh_H), oM σ 0 am G → ∀ (n i : Nat) (v : Int32), i ≤ σ.2.2 0 0 0 → σ.2.2 0 0 0 - i < n → oFold (fun i v => if σ.1 3 i 0 = 0 then v else v + 1) (σ.2.2 0 0 0 - i) i v = oHolds σ → wX5_count_87 post px n G (am 0) w (oPosted σ) (oUnpaid σ) v (nI i) := by
    intro G h n
    have hp := hp G h
    induction n with
    | zero => intro i v h1 h2; omega
    | succ n ih =>
      intro i v hi hn he
      refine ⟨_, _, h.a0, rfl, fun c => ?_, fun c => ?_⟩
      · rw [m_end (by omega) hi c] at he
        have he : v = oHolds σ := he
        subst he
        refine ⟨fun e => ⟨_, _, h.a0, rfl, ?_⟩, fun e => ⟨_, _, h.a0, rfl, ?_⟩, fun e => ⟨_, _, h.a0, rfl, ?_⟩, fun e => ?_, fun e => ⟨_, _, h.a0, rfl, ?_⟩, fun e => ?_, fun e => ⟨_, _, h.a0, rfl, ?_⟩, fun e => ⟨_, _, h.a0, rfl, ?_⟩, fun e => ?_, fun e0 e1 e2 e3 e4 e5 e6 e7 e8 => ?_⟩
        all_goals first | (subst e; simpa [opCount] using hp) | (simpa [opCount, e0, e1, e2, e3, e4, e5, e6, e7, e8] using hp)
      · have hr := m_go hi (by omega) c
        have ecl : (nI i).toNatClampNeg = i := nI_clamp (by omega)
        rw [show σ.2.2 0 0 0 - i = (σ.2.2 0 0 0 - (i + 1)) + 1 by omega] at he
        simp only [oFold] at he
        have ih := fun v' hv' => ih (i + 1) v' (by omega) (by omega) hv'
        unfold wX5_count_113
        rw [ecl, nI_1, Int32.add_zero]
        refine ⟨_, _, h.a0, rfl, _, _, h.a4, vp_in_nI (by omega) (by decide), fun c2 => ih _ ?_, fun c2 => ih _ ?_⟩
        · rw [if_pos c2] at he; exact he
        · rw [if_neg c2] at he; exact he
  have l2 : ∀ (G : gh_H), oM σ 0 am G → ∀ (n i : Nat) (v : Int32), i ≤ σ.2.2 3 0 0 → σ.2.2 3 0 0 - i < n → oFold (fun i v => if 0 < σ.2.1 2 i 0 then v + 1 else v) (σ.2.2 3 0 0 - i) i v = oUnpaid σ → wX5_count_46 post px n G (am 0) w (oPosted σ) v (nI i) := by
    intro G h n
    induction n with
    | zero => intro i v h1 h2; omega
    | succ n ih =>
      intro i v hi hn he
      refine ⟨_, _, h.a0, rfl, fun c => ?_, fun c => ?_⟩
      · rw [m_end (by omega) hi c] at he
        have he : v = oUnpaid σ := he
        subst he
        exact l3 G h 300 0 0 (by omega) (by omega) rfl
      · have hr := m_go hi (by omega) c
        have ecl : (nI i).toNatClampNeg = i := nI_clamp (by omega)
        rw [show σ.2.2 3 0 0 - i = (σ.2.2 3 0 0 - (i + 1)) + 1 by omega] at he
        simp only [oFold] at he
        have ih := fun v' hv' => ih (i + 1) v' (by omega) (by omega) hv'
        unfold wX5_count_73
        rw [ecl, nI_1, Int32.add_zero]
        refine ⟨_, _, h.a0, rfl, _, _, h.a19, vp_in_nI (by omega) (by decide), fun c2 => ih _ ?_, fun c2 => ih _ ?_⟩
        · rw [if_neg (Int64.not_lt.mpr (oX_le.mp c2))] at he; exact he
        · rw [if_pos (Int64.not_le.mp (fun z => c2 (oX_le.mpr z)))] at he; exact he
  have l1 : ∀ (G : gh_H), oM σ 0 am G → ∀ (n i : Nat) (v : Int32), i ≤ σ.2.2 2 0 0 → σ.2.2 2 0 0 - i < n → oFold (fun b v => if σ.1 6 b 0 = 1 then v + 1 else v) (σ.2.2 2 0 0 - i) i v = oPosted σ → wX5_count_9 post px n G (am 0) w v (nI i) := by
    intro G h n
    induction n with
    | zero => intro i v h1 h2; omega
    | succ n ih =>
      intro i v hi hn he
      refine ⟨_, _, h.a0, rfl, fun c => ?_, fun c => ?_⟩
      · rw [m_end (by omega) hi c] at he
        have he : v = oPosted σ := he
        subst he
        exact l2 G h 300 0 0 (by omega) (by omega) rfl
      · have hr := m_go hi (by omega) c
        have ecl : (nI i).toNatClampNeg = i := nI_clamp (by omega)
        rw [show σ.2.2 2 0 0 - i = (σ.2.2 2 0 0 - (i + 1)) + 1 by omega] at he
        simp only [oFold] at he
        have ih := fun v' hv' => ih (i + 1) v' (by omega) (by omega) hv'
        unfold wX5_count_33
        rw [ecl, nI_1, Int32.add_zero]
        refine ⟨_, _, h.a0, rfl, _, _, h.a9, vp_in_nI (by omega) (by decide), fun c2 => ih _ ?_, fun c2 => ih _ ?_⟩
        · rw [if_neg c2] at he; exact he
        · rw [if_pos c2] at he; exact he
  unfold wX5_count
  exact ⟨_, h.a0, oLt rfl, fun G4 hG4 => l1 G4 (q_k h hG4) 300 0 0 (by omega) (by omega) rfl⟩
end M32
