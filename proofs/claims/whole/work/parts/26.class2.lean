/-! The class's calls that write more than one cell, but make none. -/
section S26
variable {n0 : Nat} {σ : oS} {ad : Nat → Nat → Nat → Nat} {G : gh_H} {px : String → gh_H → Prop}
theorem c_dun {post : Int32 → gh_H → Prop} {i : Int32} (h : oR σ ad G) (hI : oInv n0 σ) (hk : oK (opDun σ i) e_NS ad post px) : wX4_dun post px G (ad 0 0 0) i := by
  unfold wX4_dun
  have hB := h.1.2.2.2.1
  have hB0 := h.1.1
  refine ⟨_, h.led, s_findInvoice h (fun c => ?_) (fun k hi e => ⟨_, _, h.led, rfl, _, rfl, _, h.inv hi, s_isOverdue h hi (fun c => ⟨fun _ => ⟨_, _, h.inv hi, rfl, fun c2 => ⟨_, _, h.inv hi, rfl, _, h.inv hi, oLt rfl, fun G1 hG => ?_⟩, fun c2 => ?_⟩, fun z => absurd z (by decide)⟩) (fun c => ⟨fun z => absurd rfl z, fun _ => ?_⟩)⟩)⟩
  · exact hk.no (by unfold opDun; rw [if_pos c]) h (by decide) rfl
  · have h1 := p_I14 h hi hG
    obtain ⟨n1, n2⟩ := oNo1_f hi (by omega) e
    have e14 : (oI σ 14 k 0 (σ.1 14 k 0 + 1)).1 14 k 0 = σ.1 14 k 0 + 1 := by simp [oI]
    refine ⟨_, _, h1.inv hi, rfl, fun c3 => ⟨_, _, h1.inv hi, rfl, ?_⟩, fun c3 => ⟨_, _, h1.inv hi, rfl, _, h1.led, s_findOwner h1 (fun c4 => ?_) (fun o ho e4 => ⟨_, rfl, _, h1.own ho, oLt rfl, fun G2 hG2 => ⟨_, _, (p_I3 h1 ho hG2).inv hi, rfl, ?_⟩⟩)⟩⟩
    · rw [e14] at c3 ⊢
      exact hk.yes (by unfold opDun; rw [if_neg n1, n2, if_neg (fun z => z c), if_neg (fun z => z c2), if_neg c3]) h1
    · exfalso
      obtain ⟨o, ho, e5⟩ := hI.ow k hi
      exact (oNo_f (n := σ.2.2 0 0 0) ho (by omega) e5).1 c4
    · rw [e14] at c3
      have e6 : (oI (oI σ 14 k 0 (σ.1 14 k 0 + 1)) 3 o 0 1).1 14 k 0 = σ.1 14 k 0 + 1 := by simp [oI]
      have e7 : oAt (σ.1 12 k 0) = o := (oNo_f (n := σ.2.2 0 0 0) ho (by omega) e4).2
      rw [e6]
      exact hk.yes (by unfold opDun; rw [if_neg n1, n2, if_neg (fun z => z c), if_neg (fun z => z c2), if_pos c3, e7]) (p_I3 h1 ho hG2)
  · obtain ⟨n1, n2⟩ := oNo1_f hi (by omega) e
    exact hk.no (by unfold opDun; rw [if_neg n1, n2, if_neg (fun z => z c), if_pos c2]) h (by decide) rfl
  · obtain ⟨n1, n2⟩ := oNo1_f hi (by omega) e
    exact hk.no (by unfold opDun; rw [if_neg n1, n2, if_pos c]) h (by decide) rfl
theorem c_settle {post : Int64 → gh_H → Prop} {i : Int32} {w : Int64} (h : oR σ ad G) (hI : oInv n0 σ) (hk : oK (opSettle σ i w) e_NA ad post px) : wX4_settle post px G (ad 0 0 0) i w := by
  unfold wX4_settle
  have hB := h.1.2.2.2.1
  have hB0 := h.1.1
  refine ⟨_, h.led, s_findInvoice h (fun c => ?_) (fun k hi e => s_range64 (fun c => ?_) (fun c => ⟨_, rfl, _, _, h.inv hi, rfl, _, h.led, s_findOwner h (fun c4 => ?_) (fun o ho e4 => ⟨_, rfl, _, _, h.own ho, rfl, _, h.inv hi, s_takeFrom (h.inv hi) (fun G1 hG => ⟨_, (p_L2 h hi hG).own ho, oLt rfl, fun G2 hG2 => ⟨_, _, (p_L0 (p_L2 h hi hG) ho hG2).inv hi, rfl, ?_⟩⟩)⟩)⟩))⟩
  · exact hk.no (by unfold opSettle; rw [if_pos c]) h (by decide) rfl
  · obtain ⟨n1, n2⟩ := oNo1_f hi (by omega) e
    exact hk.no (by unfold opSettle; rw [if_neg n1, if_pos c]) h (by decide) rfl
  · exfalso
    obtain ⟨o, ho, e5⟩ := hI.ow k hi
    exact (oNo_f (n := σ.2.2 0 0 0) ho (by omega) e5).1 c4
  · obtain ⟨n1, n2⟩ := oNo1_f hi (by omega) e
    have e7 : oAt (σ.1 12 k 0) = o := (oNo_f (n := σ.2.2 0 0 0) ho (by omega) e4).2
    exact hk.yes (by unfold opSettle; rw [if_neg n1, if_neg c, n2, e7]; simp [oL, oTk]) (p_L0 (p_L2 h hi hG) ho hG2)
theorem c_post {post : Int32 → gh_H → Prop} {b : Int32} (h : oR σ ad G) (hk : oK (opPost σ b) e_NS ad post px) : wX4_post post px G (ad 0 0 0) b := by
  unfold wX4_post
  have hB := h.1.2.2.1
  have key : ∀ i, i < σ.2.2 2 0 0 → b = nI (i + 1) → σ.1 6 i 0 = 0 → σ.1 1 0 0 ≤ σ.1 5 i 0 → ¬ nI (σ.2.2 4 i 0) = 0 → opPost σ b = oPostA σ i := by
    intro i hi e c1 c2 c3
    obtain ⟨n1, n2⟩ := oNo1_f hi (by omega) e
    unfold opPost
    rw [if_neg n1, n2, if_neg (fun z => z c1), if_neg (Int32.not_lt.mpr c2), if_neg (fun z => c3 (by rw [z]; rfl))]
  have no1 : ∀ j, j < 8 → ¬ nI j = -1 := by decide +kernel
  refine ⟨_, h.led, s_findBatch h (fun c => ?_) (fun i hi e => ⟨_, rfl, s_requireOpen h hi (fun c => ?_) (fun c => ⟨_, _, h.bat hi, rfl, _, _, h.led, rfl, fun c2 => ⟨_, _, h.bat hi, rfl, fun c3 => ⟨_, h.bat hi, s_firstBreaking h hi (fun j hj => ?_) (fun hj => ?_)⟩, fun c3 => ?_⟩, fun c2 => ?_⟩)⟩)⟩
  · exact hk.no (by unfold opPost; rw [if_pos c]) h (by decide) rfl
  · obtain ⟨n1, n2⟩ := oNo1_f hi (by omega) e
    exact hk.no (by unfold opPost; rw [if_neg n1, n2, if_pos c]) h (by decide) rfl
  · rw [key i hi e c c2 c3] at hk
    have hj8 : j < 8 := by
      have := oFst_lt hj
      have := h.1.2.2.2.2 i
      omega
    refine ⟨fun _ => ⟨fun _ => ⟨_, h.bat hi, oLt rfl, fun G1 hG => ⟨fun _ => ⟨fun _ => ?_, fun z => absurd z (no1 j hj8)⟩, fun z => absurd rfl z⟩⟩, fun z => absurd rfl z⟩, fun z => absurd z (no1 j hj8)⟩
    exact hk.yes (by unfold oPostA; rw [hj]) (p_I6 h hi hG)
  · rw [key i hi e c c2 c3] at hk
    refine ⟨fun z => absurd rfl z, fun _ => ⟨_, h.bat hi, s_sumsToZero h hi (fun z => ⟨fun z => absurd z (by decide), fun _ => ⟨fun z => absurd z (by decide), fun _ => ⟨_, h.bat hi, oLt rfl, fun G1 hG => ⟨fun z => absurd z (by decide), fun _ => ?_⟩⟩⟩⟩) (fun z => ⟨fun _ => ⟨fun _ => ⟨_, h.bat hi, oLt rfl, fun G1 hG => ⟨fun _ => ⟨fun z => absurd rfl z, fun _ => ?_⟩, fun z => absurd rfl z⟩⟩, fun z => absurd rfl z⟩, fun z => absurd rfl z⟩)⟩⟩
    · exact hk.yes (by unfold oPostA; rw [hj]; exact if_pos z) (p_I6 h hi hG)
    · exact hk.yes (by unfold oPostA; rw [hj]; exact if_neg z) (p_I6 h hi hG)
  · obtain ⟨n1, n2⟩ := oNo1_f hi (by omega) e
    have hB8 := h.1.2.2.2.2 i
    have e0 : σ.2.2 4 i 0 = 0 := (nI_eq (by omega) (by decide)).mp c3
    exact hk.no (by unfold opPost; rw [if_neg n1, n2, if_neg (fun z => z c), if_neg (Int32.not_lt.mpr c2), if_pos e0]) h (by decide) rfl
  · obtain ⟨n1, n2⟩ := oNo1_f hi (by omega) e
    exact hk.no (by unfold opPost; rw [if_neg n1, n2, if_neg (fun z => z c), if_pos (Int32.not_le.mp c2)]) h (by decide) rfl
/-! Euclid -/
def oF : Nat → Nat
  | 0 => 1
  | 1 => 1
  | k + 2 => oF (k + 1) + oF k
theorem oF_pos : ∀ k, 0 < oF k
  | 0 => by decide
  | 1 => by decide
  | k + 2 => by have := oF_pos k; show 0 < oF (k + 1) + oF k; omega
theorem s_cd {post : Int64 → gh_H → Prop} : ∀ (k n t d r : Nat), t + k ≤ 21 → k < n → r < oF k → r < d → d < 2 ^ 63 → post (lN (Nat.gcd d r)) G → wX4_commonDivisor_9 post px n G (lN d) (lN r) (nI t) := by
  have fin : ∀ (d : Nat), 0 < d → d < 2 ^ 63 → post (lN (Nat.gcd d 0)) G → wX4_commonDivisor_44 post px G (lN d) := by
    intro d h0 h1 hp
    rw [Nat.gcd_zero_right] at hp
    unfold wX4_commonDivisor_44
    by_cases e : d = 1
    · subst e; exact hp
    · rw [if_pos (show (1 : Int64) < lN d from (pk_lLT (a := 1) (by decide) h1).mpr (by omega))]
      exact hp
  have stop : ∀ (n t d : Nat), 0 < n → 0 < d → d < 2 ^ 63 → post (lN (Nat.gcd d 0)) G → wX4_commonDivisor_9 post px n G (lN d) (lN 0) (nI t) := by
    intro n t d hn h0 h1 hp
    match n, hn with
    | n + 1, _ =>
      exact ⟨fun _ => fin d h0 h1 hp, fun _ => ⟨fun _ => fin d h0 h1 hp, fun c => absurd (oX_eq.mpr rfl) c⟩⟩
  have step : ∀ (n t d r : Nat), 0 < r → t < 21 → r < 2 ^ 63 → d < 2 ^ 63 → wX4_commonDivisor_9 post px n G (lN r) (lN (d % r)) (nI (t + 1)) → wX4_commonDivisor_9 post px (n + 1) G (lN d) (lN r) (nI t) := by
    intro n t d r h0 ht hr hd hw
    have hr0 : ¬ lN r = 0 := fun z => by
      have := (pk_lEQ (a := r) (b := 0) hr (by decide)).mp z
      omega
    refine ⟨fun c => absurd ((nI_leI (a := 21) (b := t) (by decide) (by omega)).mp c) (by omega), fun _ => ⟨fun c => absurd (oX_eq.mp c) hr0, fun _ => ⟨hr0, ?_⟩⟩⟩
    rw [pk_lRem hd h0 hr, nI_1]
    exact hw
  intro k
  induction k using Nat.strongRecOn with
  | _ k ih =>
    intro n t d r ht hn hr hd hb hp
    rcases Nat.eq_zero_or_pos r with e | h0
    · subst e
      exact stop n t d (by omega) (by omega) hb hp
    · match k, ih, ht, hn, hr with
      | 0, _, _, _, hr => simp [oF] at hr; omega
      | 1, _, _, _, hr => simp [oF] at hr; omega
      | k + 2, ih, ht, hn, hr =>
        have hr : r < oF (k + 1) + oF k := hr
        match n, hn with
        | n + 1, hn =>
          have hlt := Nat.mod_lt d h0
          rw [Nat.gcd_comm, Nat.gcd_rec, Nat.gcd_comm] at hp
          refine step n t d r h0 (by omega) (by omega) hb ?_
          by_cases c : d % r < oF (k + 1)
          · exact ih (k + 1) (by omega) n (t + 1) r (d % r) (by omega) (by omega) c hlt (by omega) hp
          · have hp1 : 0 < d % r := by have := oF_pos (k + 1); omega
            match n, hn with
            | n + 1, hn =>
              have hlt2 := Nat.mod_lt r hp1
              rw [Nat.gcd_comm, Nat.gcd_rec, Nat.gcd_comm] at hp
              refine step n (t + 1) r (d % r) hp1 (by omega) (by omega) (by omega) ?_
              refine ih k (by omega) n (t + 1 + 1) (d % r) (r % (d % r)) (by omega) (by omega) ?_ hlt2 (by omega) hp
              have h3 := Nat.mod_add_div r (d % r)
              have h4 : 1 ≤ r / (d % r) := (Nat.one_le_div_iff hp1).mpr (by omega)
              have h5 : d % r * 1 ≤ d % r * (r / (d % r)) := Nat.mul_le_mul_left _ h4
              omega
theorem s_commonDivisor {post : Int64 → gh_H → Prop} {w : Nat} (hw : w < 2 ^ 63) (hp : post (lN (Nat.gcd w 1200)) G) : wX4_commonDivisor post px G (lN w) 1200 := by
  have h17 : 1200 < oF 17 := by decide +kernel
  have hlt : w % 1200 < 1200 := Nat.mod_lt _ (by decide)
  show wX4_commonDivisor_9 post px 300 G (lN w) (lN 1200) (nI 0)
  refine ⟨fun c => absurd c (by decide), fun _ => ⟨fun c => absurd (oX_eq.mp c) (by decide), fun _ => ⟨by decide, ?_⟩⟩⟩
  rw [pk_lRem hw (by decide) (by decide), nI_1]
  refine s_cd 17 299 1 1200 (w % 1200) (by omega) (by omega) (by omega) hlt (by omega) ?_
  rw [Nat.gcd_comm, Nat.gcd_rec, Nat.gcd_comm] at hp
  exact hp
theorem oUp_nat (h : oInv n0 σ) {i : Nat} (hi : i < σ.2.2 3 0 0) : ∃ u : Nat, u ≤ 1000000000 * 120 * 100 ∧ oUp σ i = lN u := by
  unfold oUp
  by_cases c : oOv σ i (σ.1 0 0 0)
  · rw [if_pos c]
    obtain ⟨h1, h2, h3, h4⟩ := h.op i hi
    obtain ⟨⟨h5, h6⟩, h7, h8⟩ := h.nw
    obtain ⟨a, ha, ea⟩ := pk_lOf (x := σ.2.1 2 i 0) (Int64.not_lt.mpr h1)
    rw [ea] at h2
    have ha2 : a ≤ 1000000000 := (pk_lLE (b := 1000000000) ha (by decide)).mp h2
    obtain ⟨m, hm, em⟩ := nI_of2 (x := σ.1 0 0 0) (M := 120) (n := 120) (by decide) (Int32.not_lt.mpr h5) h6
    obtain ⟨d, hd, ed⟩ := nI_of2 (x := σ.1 13 i 0) (M := 120) (n := 120) (by decide) (Int32.not_lt.mpr h3) h4
    obtain ⟨p, hp, ep⟩ := nI_of2 (x := σ.1 2 0 0) (M := 100) (n := 100) (by decide) (Int32.not_lt.mpr h7) h8
    have hmd : d ≤ m := by
      have := c.2.2
      rw [em, ed] at this
      have := (nI_ltI (by omega) (by omega)).mp this
      omega
    refine ⟨a * (m - d) * p, ?_, ?_⟩
    · exact Nat.mul_le_mul (Nat.mul_le_mul ha2 (by omega)) hp
    · rw [ea, em, ed, ep, pk_sub hmd, nI_l (by omega), nI_l (by omega), lN_mul, lN_mul]
  · rw [if_neg c]
    exact ⟨0, by omega, rfl⟩
theorem oGcd_lN {u : Nat} (hu : u < 2 ^ 63) : oGcd (lN u) = lN (Nat.gcd u 1200) := by
  unfold oGcd
  rw [pk_lT hu]
  rfl
theorem oGcd_ne {u : Nat} : ¬ lN (Nat.gcd u 1200) = 0 := by
  intro z
  have h1 : Nat.gcd u 1200 ≤ 1200 := Nat.le_of_dvd (by decide) (Nat.gcd_dvd_right u 1200)
  have h2 : 0 < Nat.gcd u 1200 := Nat.gcd_pos_of_pos_right u (by decide)
  have := (pk_lEQ (b := 0) (by omega) (by decide)).mp z
  omega
theorem c_interest {post : Int64 → gh_H → Prop} {i side : Int32} (h : oR σ ad G) (hI : oInv n0 σ) (hk : oK (opInterest σ i side) e_NA ad post px) : wX4_interest post px G (ad 0 0 0) i side := by
  unfold wX4_interest
  have hB := h.1.2.2.2.1
  have key : ∀ (k : Nat) (w : Int64), k < σ.2.2 3 0 0 → i = nI (k + 1) → ¬ (side < 0 ∨ 1 < side) → w = oUp σ k → wX4_commonDivisor (fun r24 G25 => (¬ side = 0 → (¬ r24 = 0 ∧ (post (1200 / r24) G25))) ∧ (side = 0 → (¬ r24 = 0 ∧ (post (w / r24) G25)))) px G w 1200 := by
    intro k w hi e c ew
    obtain ⟨n1, n2⟩ := oNo1_f hi (by omega) e
    obtain ⟨u, hu, eu⟩ := oUp_nat hI hi
    have hy := hk.yes (by unfold opInterest; rw [if_neg n1, if_neg c, n2]) h
    rw [ew, eu]
    rw [eu, oGcd_lN (by omega)] at hy
    refine s_commonDivisor (by omega) ⟨fun z => ⟨oGcd_ne, ?_⟩, fun z => ⟨oGcd_ne, ?_⟩⟩
    · rw [if_neg z] at hy; exact hy
    · rw [if_pos z] at hy; exact hy
  refine ⟨_, h.led, s_findInvoice h (fun c => ?_) (fun k hi e => s_range32 (l := 0) (u := 1) (by decide) (by decide) (fun c => ?_) (fun c => ⟨_, rfl, _, _, h.inv hi, rfl, _, _, h.led, rfl, _, h.inv hi, s_monthsOverdue h hi (fun c2 => ⟨_, _, h.led, rfl, ?_⟩) (fun c2 => ⟨_, _, h.led, rfl, ?_⟩)⟩))⟩
  · exact hk.no (by unfold opInterest; rw [if_pos c]) h (by decide) rfl
  · obtain ⟨n1, n2⟩ := oNo1_f hi (by omega) e
    exact hk.no (by unfold opInterest; rw [if_neg n1, if_pos c]) h (by decide) rfl
  · exact key k _ hi e c (by unfold oUp; rw [if_pos c2])
  · refine key k _ hi e c ?_
    unfold oUp
    rw [if_neg c2, show Int32.toInt64 0 = 0 by decide, Int64.mul_zero, Int64.zero_mul]
/-! paying -/
theorem s_firstToPay_l {post : Option Nat → gh_H → Prop} {o : Int32} (h : oR σ ad G) : ∀ (n i : Nat) (v : Option Nat), i ≤ 20 → 20 - i < n → (∀ k, v = some k → k < σ.2.2 3 0 0) →
    (∀ r, r = oFold (fun i v => if σ.1 12 i 0 = o ∧ 0 < σ.2.1 2 i 0 ∧ σ.1 15 i 0 = 0 ∧ (∀ k, v = some k → σ.1 13 i 0 < σ.1 13 k 0) then some i else v) (σ.2.2 3 0 0 - i) i v → (∀ k, r = some k → k < σ.2.2 3 0 0) → post (r.map (fun k => ad 9 k 0)) G) → wX4_firstToPay_14 post px n G o (v.map (fun k => ad 9 k 0)) (ad 4 0 0) (nI 20) (nI i) := by
  have hB : σ.2.2 3 0 0 ≤ 20 := h.1.2.2.2.1
  intro n
  induction n with
  | zero => intro i v h1 h2; omega
  | succ n ih =>
    intro i v hi hn hv hp
    refine ⟨fun c1 => ?_, fun c1 => ?_⟩
    · have e : σ.2.2 3 0 0 - i = 0 := by
        have := (nI_leI (a := 20) (b := i) (by decide) (by omega)).mp c1
        omega
      rw [e] at hp
      exact hp v rfl hv
    · have hlt : i < 20 := by
        rcases Nat.lt_or_ge i 20 with z | z
        · exact z
        · exact absurd (nI_le z (by omega)) c1
      refine ⟨_, _, _, h.arV, rfl, vp_in_nI hlt (by decide), fun o eo => ?_⟩
      rw [nI_clamp (show i < 2 ^ 31 by omega)] at eo
      rw [nI_1]
      by_cases hr : i < σ.2.2 3 0 0
      · simp only [if_pos hr] at eo
        subst eo
        rw [show σ.2.2 3 0 0 - i = (σ.2.2 3 0 0 - (i + 1)) + 1 by omega] at hp
        simp only [oFold] at hp
        refine ⟨fun z => (by cases z), fun a ea => ?_⟩
        cases ea
        refine ⟨_, _, h.inv hr, rfl, fun c2 => ?_, fun c2 => ⟨_, _, h.inv hr, rfl, fun c3 => ?_, fun c3 => ⟨_, _, h.inv hr, rfl, fun c4 => ?_, fun c4 => ⟨fun c5 => ?_, fun a c5 => ?_⟩⟩⟩⟩
        · rw [if_neg (fun z => c2 z.1)] at hp
          exact ih (i + 1) v (by omega) (by omega) hv hp
        · rw [if_neg (fun z => Int64.not_lt.mpr (oX_le.mp c3) z.2.1)] at hp
          exact ih (i + 1) v (by omega) (by omega) hv hp
        · rw [if_neg (fun z => c4 z.2.2.1)] at hp
          exact ih (i + 1) v (by omega) (by omega) hv hp
        · have ev : v = none := by cases v with
            | none => rfl
            | some _ => cases c5
          subst ev
          rw [if_pos ⟨c2, Int64.not_le.mp (fun z => c3 (oX_le.mpr z)), c4, fun k z => (by cases z)⟩] at hp
          unfold wX4_firstToPay_75
          rw [nI_1]
          exact ih (i + 1) (some i) (by omega) (by omega) (fun k z => (by cases z; exact hr)) hp
        · obtain ⟨k, ek⟩ : ∃ k, v = some k := by cases v with
            | none => cases c5
            | some k => exact ⟨k, rfl⟩
          subst ek
          cases c5
          have hk := hv k rfl
          refine ⟨_, _, h.inv hr, rfl, _, _, h.inv hk, rfl, fun c6 => ?_, fun c6 => ?_⟩
          · rw [if_neg (fun z => Int32.not_lt.mpr c6 (z.2.2.2 k rfl))] at hp
            exact ih (i + 1) (some k) (by omega) (by omega) hv hp
          · rw [if_pos ⟨c2, Int64.not_le.mp (fun z => c3 (oX_le.mpr z)), c4, fun k2 z => (by cases z; exact Int32.not_le.mp c6)⟩] at hp
            unfold wX4_firstToPay_75
            rw [nI_1]
            exact ih (i + 1) (some i) (by omega) (by omega) (fun k z => (by cases z; exact hr)) hp
      · simp only [if_neg hr] at eo
        subst eo
        refine ⟨fun _ => ih (i + 1) v (by omega) (by omega) hv ?_, fun a ea => (by cases ea)⟩
        rw [show σ.2.2 3 0 0 - (i + 1) = 0 by omega]
        rw [show σ.2.2 3 0 0 - i = 0 by omega] at hp
        exact hp
theorem s_firstToPay {post : Option Nat → gh_H → Prop} {o : Int32} (h : oR σ ad G) (hn : oNext σ o = none → post none G) (hs : ∀ k, oNext σ o = some k → k < σ.2.2 3 0 0 → post (some (ad 9 k 0)) G) : wX4_firstToPay post px G (ad 0 0 0) o := by
  unfold wX4_firstToPay
  refine ⟨_, _, h.led, rfl, _, _, h.arV, by decide, s_firstToPay_l h 300 0 none (by omega) (by omega) (fun k z => (by cases z)) (fun r er hr => ?_)⟩
  have er : oNext σ o = r := er.symm
  cases r with
  | none => exact hn er
  | some k => exact hs k er (hr k rfl)
theorem s_pay_l {post : Int32 → gh_H → Prop} {o : Int32} {i0 : Nat} : ∀ (k n t : Nat) (σ : oS) (G : gh_H) (w : Int64) (c : Int32), t + k = 20 → k < n → oR σ ad G → i0 < σ.2.2 0 0 0 →
    (∀ G', oR (oL (oPayL o k σ w c).1 0 i0 0 ((oPayL o k σ w c).1.2.1 0 i0 0 + (oPayL o k σ w c).2.1)) ad G' → post (oPayL o k σ w c).2.2 G') → wX4_pay_24 post px n G (ad 0 0 0) o (some (ad 5 i0 0)) w c (nI t) := by
  have fin : ∀ (σ : oS) (G : gh_H) (w : Int64) (c : Int32), oR σ ad G → i0 < σ.2.2 0 0 0 → (∀ G', oR (oL σ 0 i0 0 (σ.2.1 0 i0 0 + w)) ad G' → post c G') → wX4_pay_81 post px G (some (ad 5 i0 0)) w c := by
    intro σ G w c h hi hp
    exact ⟨_, rfl, _, _, h.own hi, rfl, _, h.own hi, oLt rfl, fun G1 hG => hp G1 (p_L0 h hi hG)⟩
  intro k
  induction k with
  | zero =>
    intro n t σ G w c ht hn h hi hp
    match n, hn with
    | n + 1, _ =>
      obtain rfl : t = 20 := by omega
      exact ⟨fun _ => fin σ G w c h hi hp, fun z => absurd (by decide) z⟩
  | succ k ih =>
    intro n t σ G w c ht hn h hi hp
    match n, hn with
    | n + 1, hn =>
      refine ⟨fun z => absurd ((nI_leI (a := 20) (b := t) (by decide) (by omega)).mp z) (by omega), fun _ => ⟨fun c1 => ?_, fun c1 => ⟨_, h.led, s_firstToPay h (fun e => ⟨fun _ => ?_, fun a z => (by cases z)⟩) (fun q e hq => ⟨fun z => (by cases z), fun a z => ?_⟩)⟩⟩⟩
      · simp only [oPayL, if_pos (oX_le.mp c1)] at hp
        exact fin σ G w c h hi hp
      · simp only [oPayL, if_neg (fun z => c1 (oX_le.mpr z)), e] at hp
        exact fin σ G w c h hi hp
      · cases z
        simp only [oPayL, if_neg (fun z => c1 (oX_le.mpr z)), e] at hp
        refine ⟨_, h.inv hq, s_takeFrom (h.inv hq) (fun G1 hG => ⟨_, _, (p_L2 h hq hG).inv hq, rfl, fun c2 => ?_, fun c2 => ?_⟩)⟩
        · rw [nI_1]
          refine ih n (t + 1) _ _ _ _ (by omega) (by omega) (p_L2 h hq hG) hi ?_
          have c3 : ¬ σ.2.1 2 q 0 - oTk w (σ.2.1 2 q 0) = 0 := fun z => c2 (oX_eq.mpr (by simpa [oL, oTk] using z))
          rw [if_neg c3] at hp
          exact hp
        · rw [nI_1]
          refine ih n (t + 1) _ _ _ _ (by omega) (by omega) (p_L2 h hq hG) hi ?_
          have c3 : σ.2.1 2 q 0 - oTk w (σ.2.1 2 q 0) = 0 := (by simpa [oL, oTk] using oX_eq.mp c2)
          rw [if_pos c3] at hp
          exact hp
theorem c_pay {post : Int32 → gh_H → Prop} {o : Int32} {w : Int64} (h : oR σ ad G) (hk : oK (opPay σ o w) e_NA ad post px) : wX4_pay post px G (ad 0 0 0) o w := by
  unfold wX4_pay
  have hB := h.1.1
  refine ⟨_, h.led, s_findOwner h (fun c => ?_) (fun i hi e => s_range64 (fun c => ?_) (fun c => ?_))⟩
  · exact hk.no (by unfold opPay; rw [if_pos c]) h (by decide) rfl
  · exact hk.no (by unfold opPay; rw [if_neg (oNo_f hi (by omega) e).1, if_pos c]) h (by decide) rfl
  · obtain ⟨n1, n2⟩ := oNo_f hi (by omega) e
    refine s_pay_l 20 300 0 σ G w 0 (by omega) (by omega) h hi (fun G' h' => ?_)
    exact hk.yes (by unfold opPay; rw [if_neg n1, if_neg c, n2]) h'
end S26
