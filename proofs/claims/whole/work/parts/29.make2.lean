section S29
variable {n0 : Nat} {σ σ' : oS} {ad ad' : Nat → Nat → Nat → Nat} {G G' : gh_H} {px : String → gh_H → Prop}
theorem s_initV {post : gh_H → Prop} {q : Nat} {o d : Int32} {w : Int64} (hq : G q = some (.inr (1, [.int 0, .int 0, .long 0, .int 0, .int 0])))
    (hy : ∀ G', G' q = some (.inr (1, [.int o, .int d, .long w, .int 0, .int 0])) → (∀ x, x ≠ q → G' x = G x) → post G') : wX1_init post px G q o w d := by
  unfold wX1_init
  refine ⟨_, hq, oLt rfl, fun G1 hG1 => ⟨_, gx_at hG1, oLt rfl, fun G2 hG2 => ⟨_, gx_at hG2, oLt rfl, fun G3 hG3 => hy G3 (gx_at hG3) (fun x hx => ?_)⟩⟩⟩
  rw [hG3, gh_up_n hx, hG2, gh_up_n hx, hG1, gh_up_n hx]
theorem c_invoice {post : Int32 → gh_H → Prop} {o d : Int32} {w : Int64} (h : oR σ ad G) (hI : oInv n0 σ) (hk : oK (opInvoice σ o w d) e_NASU ad post px) : wX4_invoice post px G (ad 0 0 0) o w d := by
  unfold wX4_invoice
  have hB := h.1.1
  have hB3 := h.1.2.2.2.1
  refine ⟨_, h.led, s_findOwner h (fun c => ?_) (fun i hi e => s_range64 (fun c => ?_) (fun c => s_range32 (l := 0) (u := 120) (by decide) (by decide) (fun c2 => ?_) (fun c2 => ⟨_, rfl, _, _, h.own hi, rfl, fun c3 => ⟨_, _, h.led, rfl, _, _, h.led, rfl, _, _, h.arV, by decide, s_requireRoom (N := 20) hB3 (by decide) (fun c4 => ?_) (fun c4 q hq G1 hG1 => ?_)⟩, fun c3 => ?_⟩)))⟩
  · exact hk.no (by unfold opInvoice; rw [if_pos c]) h (by decide) rfl
  · exact hk.no (by unfold opInvoice; rw [if_neg (oNo_f hi (by omega) e).1, if_pos c]) h (by decide) rfl
  · exact hk.no (by unfold opInvoice; rw [if_neg (oNo_f hi (by omega) e).1, if_neg c, if_pos c2]) h (by decide) rfl
  · exact hk.no (by unfold opInvoice; rw [if_neg (oNo_f hi (by omega) e).1, if_neg c, if_neg c2, (oNo_f hi (by omega) e).2, if_neg (fun z => z c3), if_pos c4]) h (by decide) rfl
  · refine s_initV (gx_at hG1) (fun G2 e2 ex2 => ?_)
    have x1 : gx_e G G1 := by rw [hG1]; exact gx_fr hq
    have x2 : gx_e G G2 := fun x hx => by
      rw [ex2 x (fun e => hx (by rw [e]; exact hq))]
      exact x1 x hx
    have h2 := h.ext x2
    have q0 : q ≠ ad 0 0 0 := h.qn (oV0 (by decide)) hq
    have q4 : q ≠ ad 4 0 0 := h.qn (oV0 (by decide)) hq
    have q5 : q ≠ ad 5 i 0 := h.qn (k := 5) ⟨hi, rfl⟩ hq
    have n05 : ad 0 0 0 ≠ ad 5 i 0 := h.ne (k := 0) (k' := 5) (oV0 (by decide)) ⟨hi, rfl⟩ (by omega)
    have n45 : ad 4 0 0 ≠ ad 5 i 0 := h.ne (k := 4) (k' := 5) (oV0 (by decide)) ⟨hi, rfl⟩ (by omega)
    have n04 : ad 0 0 0 ≠ ad 4 0 0 := h.ne (oV0 (by decide)) (oV0 (by decide)) (by decide)
    refine ⟨_, _, h2.own hi, rfl, _, e2, s_takeFrom e2 (fun G3 hG3 => ?_)⟩
    have x3 : gx_e G G3 := by rw [hG3]; exact gx_wr x2 hq
    have h3 := h.ext x3
    have e3 := gx_at hG3
    refine ⟨_, h3.own hi, oLt rfl, fun G4 hG4 => ?_⟩
    have l4 := gx_rd hG4 n05 h3.led
    have v4 := gx_rd hG4 n45 h3.arV
    have i4 := gx_rd hG4 q5 e3
    refine ⟨_, _, l4, rfl, _, _, l4, rfl, _, _, _, _, _, v4, i4, rfl, vp_in_nI c4 (by decide), fun G5 hG5 => ?_⟩
    rw [nI_clamp (by omega)] at hG5
    have l5 := gx_rd hG5 n04 l4
    refine ⟨_, _, l5, rfl, _, l5, oLt rfl, fun G6 hG6 => ?_⟩
    have l6 := gx_at hG6
    refine ⟨_, _, l6, rfl, ?_⟩
    rw [nI_1]
    rw [nI_1] at l6
    refine hk.at (ad' := fun k i j => if k = 9 ∧ i = σ.2.2 3 0 0 ∧ j = 0 then q else ad k i j) (by unfold opInvoice; rw [if_neg (oNo_f hi (by omega) e).1, if_neg c, if_neg c2, (oNo_f hi (by omega) e).2, if_neg (fun z => z c3), if_neg (by omega)]) (by simp) (by simp) ?_
    have eo : oAt o = i := (oNo_f hi (by omega) e).2
    refine h.grow (N := fun k i j => k = 9 ∧ i = σ.2.2 3 0 0 ∧ j = 0) (W := fun k x _ => k = 0 ∨ k = 4 ∨ (k = 5 ∧ x = i)) ?_ ?_ ?_ ?_ ?_ ?_ ?_ ?_
    · exact ⟨by simp [oNewI, oN, oI, oL]; exact h.1.1, by simp [oNewI, oN, oI, oL]; exact h.1.2.1, by simp [oNewI, oN, oI, oL]; exact h.1.2.2.1, by simp [oNewI, oN, oI, oL]; omega, by simp [oNewI, oN, oI, oL]; exact h.1.2.2.2.2⟩
    · intro k i j hv hn
      match k, hv, hn with
      | 0, hv, _ => exact hv
      | 1, hv, _ => exact hv
      | 2, hv, _ => exact hv
      | 3, hv, _ => exact hv
      | 4, hv, _ => exact hv
      | 5, hv, _ => simpa [oV, oNewI, oN, oI, oL] using hv
      | 6, hv, _ => simpa [oV, oNewI, oN, oI, oL] using hv
      | 7, hv, _ => simpa [oV, oNewI, oN, oI, oL] using hv
      | 8, hv, _ => simpa [oV, oNewI, oN, oI, oL] using hv
      | 9, hv, hn =>
        have h1 : i < σ.2.2 3 0 0 + 1 := by simpa [oNewI, oN, oI, oL] using hv.1
        exact ⟨Nat.lt_of_le_of_ne (Nat.le_of_lt_succ h1) (fun z => hn ⟨rfl, z, hv.2⟩), hv.2⟩
      | n + 10, hv, _ => exact hv
    · intro k i j hn
      exact if_neg hn
    · intro k i j _ hn
      exact (congrArg G (if_pos hn)).trans hq
    · intro k i j k' i' j' _ _ a b _
      exact ⟨a.1.trans b.1.symm, a.2.1.trans b.2.1.symm, a.2.2.trans b.2.2.symm⟩
    · intro k x j hv hw
      have a0 : ad k x j ≠ ad 0 0 0 := h.ne hv (oV0 (by decide)) (fun z => hw (Or.inl z.1))
      have a4 : ad k x j ≠ ad 4 0 0 := h.ne hv (oV0 (by decide)) (fun z => hw (Or.inr (Or.inl z.1)))
      have a5 : ad k x j ≠ ad 5 i 0 := h.ne hv (k' := 5) ⟨hi, rfl⟩ (fun z => hw (Or.inr (Or.inr ⟨z.1, z.2.1⟩)))
      rw [hG6, gh_up_n a0, hG5, gh_up_n a4, hG4, gh_up_n a5, x3 _ (h.sm hv)]
    · intro k x j hv hw
      rcases hw with ⟨rfl, rfl, rfl⟩ | rfl | rfl | ⟨rfl, rfl⟩
      · show G6 (if 9 = 9 ∧ σ.2.2 3 0 0 = σ.2.2 3 0 0 ∧ 0 = 0 then q else _) = _
        rw [if_pos ⟨rfl, rfl, rfl⟩, hG6, gh_up_n q0, hG5, gh_up_n q4, i4]
        simp [oCell, oNewI, oN, oI, oL, oTk, eo, (hI.nv _ (Nat.le_refl _)).1, (hI.nv _ (Nat.le_refl _)).2]
      · obtain ⟨_, rfl, rfl⟩ := hv
        show G6 (ad 0 0 0) = _
        rw [l6]
        simp [oCell, oNewI, oN, oI, oL]
      · obtain ⟨_, rfl, rfl⟩ := hv
        show G6 (ad 4 0 0) = _
        rw [hG6, gh_up_n n04.symm, hG5, gh_up_s]
        refine congrArg (fun f : Nat → Option Nat => (some (.inl (5, 20, .inr (.inr (.inr (.inr f))))) : Option gh_E)) (?_ : _ = fun n => if n < (oNewI σ o w d).2.2 3 0 0 then some (if 9 = 9 ∧ n = σ.2.2 3 0 0 ∧ 0 = 0 then q else ad 9 n 0) else none)
        funext n
        by_cases e : n = σ.2.2 3 0 0
        · subst e; simp [va_up, oNewI, oN, oI, oL]
        · have : (n < σ.2.2 3 0 0 + 1) ↔ n < σ.2.2 3 0 0 := by omega
          simp [va_up, e, this, oNewI, oN, oI, oL]
      · obtain ⟨_, rfl⟩ := hv
        show G6 (ad 5 x 0) = _
        rw [hG6, gh_up_n n05.symm, hG5, gh_up_n n45.symm, hG4, gh_up_s]
        simp [oCell, oNewI, oN, oI, oL, eo, oTk]
    · intro k x j hv hn hw
      match k, hv, hn, hw with
      | 0, _, _, hw => exact absurd (Or.inl rfl) hw
      | 1, _, _, _ => simp [oCell, oNewI, oN, oI, oL]
      | 2, _, _, _ => simp [oCell, oNewI, oN, oI, oL]
      | 3, _, _, _ => simp [oCell, oNewI, oN, oI, oL]
      | 4, _, _, hw => exact absurd (Or.inr (Or.inl rfl)) hw
      | 5, _, _, hw =>
        have e : x ≠ i := fun z => hw (Or.inr (Or.inr ⟨rfl, z⟩))
        simp [oCell, oNewI, oN, oI, oL, eo, e]
      | 6, _, _, _ => simp [oCell, oNewI, oN, oI, oL]
      | 7, _, _, _ => simp [oCell, oNewI, oN, oI, oL]
      | 8, _, _, _ => simp [oCell, oNewI, oN, oI, oL]
      | 9, hv, _, _ =>
        have e : x ≠ σ.2.2 3 0 0 := Nat.ne_of_lt hv.1
        simp [oCell, oNewI, oN, oI, oL, e]
      | n + 10, _, _, _ => simp [oCell, oNewI, oN, oI, oL]
  · exact hk.no (by unfold opInvoice; rw [if_neg (oNo_f hi (by omega) e).1, if_neg c, if_neg c2, (oNo_f hi (by omega) e).2, if_pos c3]) h (by decide) rfl
/-! the rows of a reversal -/
theorem s_copy_l {post : gh_H → Prop} {b q qa : Nat} {m : Int32} {G0 : gh_H} (h : oR σ ad G0) (hb : b < σ.2.2 2 0 0) (hq : G0 q = none) (hqa : G0 qa = none) (nq : qa ≠ q)
    (hy : ∀ (G' : gh_H) (rw_ : Nat → Nat), gx_e G0 G' → G' q = some (.inr (0, [.int m, .ref qa, .int (nI (σ.2.2 4 b 0)), .int 0, .int 0, .int 0])) → G' qa = some (.inl (6, 8, .inr (.inr (.inr (.inr (fun n => if n < σ.2.2 4 b 0 then some (rw_ n) else none)))))) →
      (∀ n, n < σ.2.2 4 b 0 → G0 (rw_ n) = none ∧ rw_ n ≠ q ∧ rw_ n ≠ qa ∧ G' (rw_ n) = some (.inr (3, [.int (σ.1 9 b n), .int (σ.1 10 b n), .long (-σ.2.1 1 b n), .int 0]))) → (∀ n n', n < σ.2.2 4 b 0 → n' < σ.2.2 4 b 0 → rw_ n = rw_ n' → n = n') → post G') :
    ∀ (f i : Nat) (G : gh_H) (rw_ : Nat → Nat) (kc ks : Nat), i ≤ 8 → 8 - i < f → kc ≤ i → ks ≤ 4 * i → gx_e G0 G → G q = some (.inr (0, [.int m, .ref qa, .int 0, .int 0, .int 0, .int 0])) →
      G qa = some (.inl (6, 8, .inr (.inr (.inr (.inr (fun n => if n < i ∧ n < σ.2.2 4 b 0 then some (rw_ n) else none)))))) →
      (∀ n, n < i → n < σ.2.2 4 b 0 → G0 (rw_ n) = none ∧ rw_ n ≠ q ∧ rw_ n ≠ qa ∧ G (rw_ n) = some (.inr (3, [.int (σ.1 9 b n), .int (σ.1 10 b n), .long (-σ.2.1 1 b n), .int 0]))) → (∀ n n', n < i → n' < i → n < σ.2.2 4 b 0 → n' < σ.2.2 4 b 0 → rw_ n = rw_ n' → n = n') →
      wX0_copyOpposites_2 post px f G q (ad 6 b 0) (nI i) kc ks := by
  have hB8 := h.1.2.2.2.2 b
  intro f
  induction f with
  | zero => intro i G rw_ kc ks h1 h2; omega
  | succ f ih =>
    intro i G rw_ kc ks hi hf hkc hks hx eq ea er ei
    have h1 := h.ext hx
    refine ⟨_, _, eq, rfl, _, _, ea, by decide, fun c => ?_, fun c => ⟨_, _, h1.bat hb, rfl, _, _, h1.arR hb, by decide, fun c2 => absurd c2 c, fun _ => ?_⟩⟩
    · obtain rfl : i = 8 := by
        have := (nI_leI (a := 8) (b := i) (by decide) (by omega)).mp c
        omega
      refine ⟨_, _, h1.bat hb, rfl, _, eq, oLt rfl, fun G1 hG1 => ⟨by omega, by omega, ?_⟩⟩
      refine hy G1 rw_ (by rw [hG1]; exact gx_wr hx hq) (gx_at hG1) ?_ (fun n hn => ?_) (fun n n' a b => ei n n' (by omega) (by omega) a b)
      · rw [hG1, gh_up_n nq, ea]
        have : (fun n => if n < 8 ∧ n < σ.2.2 4 b 0 then some (rw_ n) else none) = fun n => if n < σ.2.2 4 b 0 then some (rw_ n) else none := by
          funext n
          by_cases z : n < σ.2.2 4 b 0
          · rw [if_pos z, if_pos ⟨by omega, z⟩]
          · rw [if_neg z, if_neg (fun y => z y.2)]
        rw [this]
      · obtain ⟨r1, r2, r3, r4⟩ := er n (by omega) hn
        exact ⟨r1, r2, r3, by rw [hG1, gh_up_n r2]; exact r4⟩
    · have hlt : i < 8 := by
        rcases Nat.lt_or_ge i 8 with z | z
        · exact z
        · exact absurd (nI_le z (by omega)) c
      refine ⟨_, _, h1.bat hb, rfl, _, _, _, h1.arR hb, rfl, vp_in_nI hlt (by decide), fun o eo => ⟨_, _, eq, rfl, ?_⟩⟩
      rw [nI_clamp (show i < 2 ^ 31 by omega)] at eo
      by_cases hr : i < σ.2.2 4 b 0
      · simp only [if_pos hr] at eo
        subst eo
        refine ⟨fun z => (by cases z), fun a ea' => ⟨by omega, by omega, fun q1 hq1 G1 hG1 => ?_⟩⟩
        cases ea'
        have hq10 : G0 q1 = none := gx_no hx hq1
        have x1 : gx_e G0 G1 := by rw [hG1]; exact gx_wr hx hq10
        have h2 := h.ext x1
        have m1 : q1 ≠ q := fun z => by rw [z, eq] at hq1; cases hq1
        have m2 : q1 ≠ qa := fun z => by rw [z, ea] at hq1; cases hq1
        refine ⟨_, _, h2.row hb hr, rfl, _, _, h2.row hb hr, rfl, _, _, h2.row hb hr, rfl, by omega, by omega, s_initR (gx_at hG1) (fun G2 e2 ex2 => ?_)⟩
        have f2 : ∀ x, x ≠ q1 → G2 x = G x := fun x z => by rw [ex2 x z, hG1, gh_up_n z]
        refine ⟨fun z => (by cases z), fun a' ea2 => ?_⟩
        cases ea2
        have aa : G2 qa = _ := (f2 qa m2.symm).trans ea
        refine ⟨_, _, _, _, _, aa, e2, rfl, vp_in_nI hlt (by decide), fun G3 hG3 => ?_⟩
        rw [nI_clamp (show i < 2 ^ 31 by omega)] at hG3
        rw [nI_1]
        have f3 : ∀ x, x ≠ qa → x ≠ q1 → G3 x = G x := fun x y z => by rw [hG3, gh_up_n y, f2 x z]
        refine ih (i + 1) G3 (fun n => if n = i then q1 else rw_ n) _ _ (by omega) (by omega) (by omega) (by omega) ?_ ?_ ?_ ?_ ?_
        · intro x hxx
          rw [f3 x (fun z => hxx (by rw [z]; exact hqa)) (fun z => hxx (by rw [z]; exact hq10))]
          exact hx x hxx
        · rw [f3 q nq.symm m1.symm]; exact eq
        · rw [hG3, gh_up_s]
          refine congrArg (fun f : Nat → Option Nat => (some (.inl (6, 8, .inr (.inr (.inr (.inr f))))) : Option gh_E)) ?_
          funext n
          by_cases e : n = i
          · subst e
            simp [va_up, hr]
          · have : (n < i + 1) ↔ n < i := by omega
            simp [va_up, e, this]
        · intro n hn hnb
          by_cases e : n = i
          · subst e
            simp only [ite_true]
            refine ⟨hq10, m1, m2, ?_⟩
            rw [hG3, gh_up_n m2]
            exact e2
          · simp only [if_neg e]
            obtain ⟨r1, r2, r3, r4⟩ := er n (by omega) hnb
            refine ⟨r1, r2, r3, ?_⟩
            rw [f3 _ r3 (fun z => by rw [z, hq1] at r4; cases r4)]
            exact r4
        · intro n n' hn hn' hnb hnb' e
          have old : ∀ k, k < i → k < σ.2.2 4 b 0 → rw_ k ≠ q1 := fun k hk hkb z => by
            have := (er k hk hkb).2.2.2
            rw [z, hq1] at this
            cases this
          by_cases e1 : n = i <;> by_cases e2 : n' = i
          · omega
          · simp only [if_pos e1, if_neg e2] at e
            exact absurd e.symm (old n' (by omega) hnb')
          · simp only [if_neg e1, if_pos e2] at e
            exact absurd e (old n (by omega) hnb)
          · simp only [if_neg e1, if_neg e2] at e
            exact ei n n' (by omega) (by omega) hnb hnb' e
      · simp only [if_neg hr] at eo
        subst eo
        refine ⟨fun _ => ⟨fun _ => ⟨_, _, _, ea, rfl, vp_in_nI hlt (by decide), fun G3 hG3 => ?_⟩, fun a z => (by cases z)⟩, fun a z => (by cases z)⟩
        rw [nI_clamp (show i < 2 ^ 31 by omega)] at hG3
        rw [nI_1]
        refine ih (i + 1) G3 rw_ kc ks (by omega) (by omega) (by omega) (by omega) ?_ ?_ ?_ ?_ ?_
        · rw [hG3]; exact gx_wr hx hqa
        · rw [hG3, gh_up_n nq.symm]; exact eq
        · rw [hG3, gh_up_s]
          refine congrArg (fun f : Nat → Option Nat => (some (.inl (6, 8, .inr (.inr (.inr (.inr f))))) : Option gh_E)) ?_
          funext n
          by_cases e : n = i
          · subst e
            simp [va_up, hr]
          · have : (n < i + 1) ↔ n < i := by omega
            simp [va_up, e, this]
        · intro n hn hnb
          obtain ⟨r1, r2, r3, r4⟩ := er n (by omega) hnb
          exact ⟨r1, r2, r3, by rw [hG3, gh_up_n r3]; exact r4⟩
        · intro n n' hn hn' hnb hnb' e
          exact ei n n' (by omega) (by omega) hnb hnb' e
theorem c_reverse {post : Int32 → gh_H → Prop} {b : Int32} (h : oR σ ad G) (hk : oK (opReverse σ b) e_NSU ad post px) : wX4_reverse post px G (ad 0 0 0) b := by
  unfold wX4_reverse
  have hB := h.1.2.2.1
  refine ⟨_, h.led, s_findBatch h (fun c => ?_) (fun i hi e => ⟨_, rfl, _, _, h.bat hi, rfl, fun c => ⟨_, _, h.bat hi, rfl, fun c2 => ⟨_, _, h.bat hi, rfl, fun c3 q hq G1 hG1 => ?_, fun c3 => ?_⟩, fun c2 => ?_⟩, fun c => ?_⟩)⟩
  · exact hk.no (by unfold opReverse; rw [if_pos c]) h (by decide) rfl
  · obtain ⟨n1, n2⟩ := oNo1_f hi (by omega) e
    have x1 : gx_e G G1 := by rw [hG1]; exact gx_fr hq
    have h1 := h.ext x1
    refine ⟨_, _, h1.led, rfl, s_initB (gx_at hG1) (fun qa G2 hqa nqa e2 ea ex => ?_)⟩
    have hqa0 : G qa = none := gx_no x1 hqa
    have x2 : gx_e G G2 := fun x hx => by
      rw [ex x (fun e => hx (by rw [e]; exact hq)) (fun e => hx (by rw [e]; exact hqa0))]
      exact x1 x hx
    refine ⟨_, e2, s_copy_l (m := σ.1 0 0 0) (qa := qa) h hi hq hqa0 nqa (fun G3 rw_ x3 e3 a3 r3 i3 => ?_) 300 0 G2 (fun _ => 0) 0 0 (by omega) (by omega) (by omega) (by omega) x2 e2 ?_ (fun n z => absurd z (by omega)) (fun n n' z => absurd z (by omega))⟩
    · refine ⟨_, e3, oLt rfl, fun G4 hG4 => ⟨_, gx_at hG4, oLt rfl, fun G5 hG5 => ?_⟩⟩
      have x5 : gx_e G G5 := by rw [hG5]; exact gx_wr (by rw [hG4]; exact gx_wr x3 hq) hq
      have h5 := h.ext x5
      have e5 := gx_at hG5
      refine ⟨_, h5.led, s_keepBatch h5 e5 (fun c4 => ?_) (fun c4 G6 ex6 e6 l6 => ?_)⟩
      · exact hk.no (by unfold opReverse; rw [if_neg n1, n2, if_neg (fun z => z c), if_neg (fun z => z c2), if_neg (fun z => z c3), if_pos c4]) h5 (by decide) rfl
      · have n60 : ad 6 i 0 ≠ ad 0 0 0 := h.ne (k := 6) (k' := 0) ⟨hi, rfl⟩ (oV0 (by decide)) (by omega)
        have n63 : ad 6 i 0 ≠ ad 3 0 0 := h.ne (k := 6) (k' := 3) ⟨hi, rfl⟩ (oV0 (by decide)) (by omega)
        have b6 := (ex6 _ n60 n63).trans (h5.bat hi)
        refine ⟨_, b6, oLt rfl, fun G7 hG7 => ?_⟩
        have b7 := gx_at hG7
        refine ⟨_, _, b7, rfl, ?_⟩
        have q0 : q ≠ ad 0 0 0 := h.qn (oV0 (by decide)) hq
        have q3 : q ≠ ad 3 0 0 := h.qn (oV0 (by decide)) hq
        have q6 : q ≠ ad 6 i 0 := h.qn (k := 6) ⟨hi, rfl⟩ hq
        have qa0 : qa ≠ ad 0 0 0 := h.qn (oV0 (by decide)) hqa0
        have qa3 : qa ≠ ad 3 0 0 := h.qn (oV0 (by decide)) hqa0
        have qa6 : qa ≠ ad 6 i 0 := h.qn (k := 6) ⟨hi, rfl⟩ hqa0
        have hB0 : ¬ 0 = σ.2.2 2 0 0 := by omega
        have hiB : ¬ i = σ.2.2 2 0 0 := by omega
        refine hk.at (ad' := fun k x j => if x = σ.2.2 2 0 0 ∧ k = 6 then q else if x = σ.2.2 2 0 0 ∧ k = 7 then qa else if x = σ.2.2 2 0 0 ∧ k = 8 then rw_ j else ad k x j) (by unfold opReverse; rw [if_neg n1, n2, if_neg (fun z => z c), if_neg (fun z => z c2), if_neg (fun z => z c3), if_neg (by omega)]) (by simp) (by simp) ?_
        refine h.grow (N := fun k x _ => x = σ.2.2 2 0 0 ∧ (k = 6 ∨ k = 7 ∨ k = 8)) (W := fun k x _ => k = 0 ∨ k = 3 ∨ (k = 6 ∧ x = i)) ?_ ?_ ?_ ?_ ?_ ?_ ?_ ?_
        · refine ⟨by simp [oRev]; exact h.1.1, by simp [oRev]; exact h.1.2.1, by simp [oRev]; omega, by simp [oRev]; exact h.1.2.2.2.1, fun x => ?_⟩
          by_cases e : x = σ.2.2 2 0 0
          · subst e; simp [oRev]; exact h.1.2.2.2.2 i
          · simp [oRev, e]; exact h.1.2.2.2.2 x
        · intro k x j hv hn
          match k, hv, hn with
          | 0, hv, _ => exact hv
          | 1, hv, _ => exact hv
          | 2, hv, _ => exact hv
          | 3, hv, _ => exact hv
          | 4, hv, _ => exact hv
          | 5, hv, _ => simpa [oV, oRev] using hv
          | 6, hv, hn =>
            have h1 : x < σ.2.2 2 0 0 + 1 := by simpa [oRev] using hv.1
            exact ⟨Nat.lt_of_le_of_ne (Nat.le_of_lt_succ h1) (fun z => hn ⟨z, by simp⟩), hv.2⟩
          | 7, hv, hn =>
            have h1 : x < σ.2.2 2 0 0 + 1 := by simpa [oRev] using hv.1
            exact ⟨Nat.lt_of_le_of_ne (Nat.le_of_lt_succ h1) (fun z => hn ⟨z, by simp⟩), hv.2⟩
          | 8, hv, hn =>
            have h1 : x < σ.2.2 2 0 0 + 1 := by simpa [oRev] using hv.1
            have e : ¬ x = σ.2.2 2 0 0 := fun z => hn ⟨z, by simp⟩
            have h2 := hv.2
            simp [oRev, e] at h2
            exact ⟨by omega, h2⟩
          | 9, hv, _ => simpa [oV, oRev] using hv
          | n + 10, hv, _ => exact hv
        · intro k x j hn
          exact (if_neg (fun z => hn ⟨z.1, Or.inl z.2⟩)).trans ((if_neg (fun z => hn ⟨z.1, Or.inr (Or.inl z.2)⟩)).trans (if_neg (fun z => hn ⟨z.1, Or.inr (Or.inr z.2)⟩)))
        · intro k x j hv hn
          obtain ⟨rfl, rfl | rfl | rfl⟩ := hn
          · simpa using hq
          · simpa using hqa0
          · have h2 : j < σ.2.2 4 i 0 := by simpa [oRev] using hv.2
            simpa using (r3 j h2).1
        · intro k x j k' x' j' hv hv' a b e
          obtain ⟨rfl, rfl | rfl | rfl⟩ := a <;> obtain ⟨rfl, rfl | rfl | rfl⟩ := b
          · exact ⟨rfl, rfl, hv.2.trans hv'.2.symm⟩
          · exact absurd (by simpa using e.symm) nqa
          · have h2 : j' < σ.2.2 4 i 0 := by simpa [oRev] using hv'.2
            exact absurd (by simpa using e.symm) (r3 j' h2).2.1
          · exact absurd (by simpa using e) nqa
          · exact ⟨rfl, rfl, hv.2.trans hv'.2.symm⟩
          · have h2 : j' < σ.2.2 4 i 0 := by simpa [oRev] using hv'.2
            exact absurd (by simpa using e.symm) (r3 j' h2).2.2.1
          · have h2 : j < σ.2.2 4 i 0 := by simpa [oRev] using hv.2
            exact absurd (by simpa using e) (r3 j h2).2.1
          · have h2 : j < σ.2.2 4 i 0 := by simpa [oRev] using hv.2
            exact absurd (by simpa using e) (r3 j h2).2.2.1
          · have h2 : j < σ.2.2 4 i 0 := by simpa [oRev] using hv.2
            have h2' : j' < σ.2.2 4 i 0 := by simpa [oRev] using hv'.2
            exact ⟨rfl, rfl, i3 j j' h2 h2' (by simpa using e)⟩
        · intro k x j hv hw
          have a0 : ad k x j ≠ ad 0 0 0 := h.ne hv (oV0 (by decide)) (fun z => hw (Or.inl z.1))
          have a3 : ad k x j ≠ ad 3 0 0 := h.ne hv (oV0 (by decide)) (fun z => hw (Or.inr (Or.inl z.1)))
          have a6 : ad k x j ≠ ad 6 i 0 := h.ne hv (k' := 6) ⟨hi, rfl⟩ (fun z => hw (Or.inr (Or.inr ⟨z.1, z.2.1⟩)))
          rw [hG7, gh_up_n a6, ex6 _ a0 a3, x5 _ (h.sm hv)]
        · intro k x j hv hw
          rcases hw with ⟨rfl, rfl | rfl | rfl⟩ | rfl | rfl | ⟨rfl, rfl⟩
          · obtain ⟨_, rfl⟩ := hv
            show G7 (if σ.2.2 2 0 0 = σ.2.2 2 0 0 ∧ 6 = 6 then q else _) = _
            rw [if_pos ⟨rfl, rfl⟩, hG7, gh_up_n q6, ex6 _ q0 q3, e5]
            simp [oCell, oRev]
          · obtain ⟨_, rfl⟩ := hv
            show G7 (if σ.2.2 2 0 0 = σ.2.2 2 0 0 ∧ 7 = 6 then q else if σ.2.2 2 0 0 = σ.2.2 2 0 0 ∧ 7 = 7 then qa else _) = _
            rw [if_neg (fun z => absurd z.2 (by decide)), if_pos ⟨rfl, rfl⟩, hG7, gh_up_n qa6, ex6 _ qa0 qa3, hG5, gh_up_n nqa, hG4, gh_up_n nqa, a3]
            simp [oCell, oRev]
          · have h2 : j < σ.2.2 4 i 0 := by simpa [oRev] using hv.2
            obtain ⟨r1, r2, r4, r5⟩ := r3 j h2
            show G7 (if σ.2.2 2 0 0 = σ.2.2 2 0 0 ∧ 8 = 6 then q else if σ.2.2 2 0 0 = σ.2.2 2 0 0 ∧ 8 = 7 then qa else if σ.2.2 2 0 0 = σ.2.2 2 0 0 ∧ 8 = 8 then rw_ j else _) = _
            rw [if_neg (fun z => absurd z.2 (by decide)), if_neg (fun z => absurd z.2 (by decide)), if_pos ⟨rfl, rfl⟩, hG7, gh_up_n (h.qn (k := 6) ⟨hi, rfl⟩ r1), ex6 _ (h.qn (oV0 (by decide)) r1) (h.qn (oV0 (by decide)) r1), hG5, gh_up_n r2, hG4, gh_up_n r2, r5]
            simp [oCell, oRev, h2]
          · obtain ⟨_, rfl, rfl⟩ := hv
            show G7 (if 0 = σ.2.2 2 0 0 ∧ 0 = 6 then q else if 0 = σ.2.2 2 0 0 ∧ 0 = 7 then qa else if 0 = σ.2.2 2 0 0 ∧ 0 = 8 then rw_ 0 else ad 0 0 0) = _
            rw [if_neg (fun z => hB0 z.1), if_neg (fun z => hB0 z.1), if_neg (fun z => hB0 z.1), hG7, gh_up_n n60.symm, l6]
            simp [oCell, oRev, hB0]
          · obtain ⟨_, rfl, rfl⟩ := hv
            show G7 (if 0 = σ.2.2 2 0 0 ∧ 3 = 6 then q else if 0 = σ.2.2 2 0 0 ∧ 3 = 7 then qa else if 0 = σ.2.2 2 0 0 ∧ 3 = 8 then rw_ 0 else ad 3 0 0) = _
            rw [if_neg (fun z => hB0 z.1), if_neg (fun z => hB0 z.1), if_neg (fun z => hB0 z.1), hG7, gh_up_n n63.symm, e6]
            refine congrArg (fun f : Nat → Option Nat => (some (.inl (4, 30, .inr (.inr (.inr (.inr f))))) : Option gh_E)) (?_ : _ = fun n => if n < (oRev σ i b).2.2 2 0 0 then some (if n = σ.2.2 2 0 0 ∧ 6 = 6 then q else if n = σ.2.2 2 0 0 ∧ 6 = 7 then qa else if n = σ.2.2 2 0 0 ∧ 6 = 8 then rw_ 0 else ad 6 n 0) else none)
            funext n
            by_cases e : n = σ.2.2 2 0 0
            · subst e; simp [va_up, oRev]
            · have : (n < σ.2.2 2 0 0 + 1) ↔ n < σ.2.2 2 0 0 := by omega
              simp [va_up, e, this, oRev]
          · obtain ⟨_, rfl⟩ := hv
            show G7 (if x = σ.2.2 2 0 0 ∧ 6 = 6 then q else if x = σ.2.2 2 0 0 ∧ 6 = 7 then qa else if x = σ.2.2 2 0 0 ∧ 6 = 8 then rw_ 0 else ad 6 x 0) = _
            rw [if_neg (fun z => hiB z.1), if_neg (fun z => hiB z.1), if_neg (fun z => hiB z.1), b7]
            simp [oCell, oRev, hiB]
        · intro k x j hv hn hw
          match k, hv, hn, hw with
          | 0, _, _, hw => exact absurd (Or.inl rfl) hw
          | 1, _, _, _ => simp [oCell, oRev]
          | 2, _, _, _ => simp [oCell, oRev]
          | 3, _, _, hw => exact absurd (Or.inr (Or.inl rfl)) hw
          | 4, _, _, _ => simp [oCell, oRev]
          | 5, _, _, _ => simp [oCell, oRev]
          | 6, hv, _, hw =>
            have e : ¬ x = σ.2.2 2 0 0 := Nat.ne_of_lt hv.1
            have e' : ¬ x = i := fun z => hw (Or.inr (Or.inr ⟨rfl, z⟩))
            simp [oCell, oRev, e, e']
          | 7, hv, _, hw =>
            have e : ¬ x = σ.2.2 2 0 0 := Nat.ne_of_lt hv.1
            simp [oCell, oRev, e]
          | 8, hv, hn, _ =>
            have e : ¬ x = σ.2.2 2 0 0 := Nat.ne_of_lt hv.1
            simp [oCell, oRev, e]
          | 9, _, _, _ => simp [oCell, oRev]
          | n + 10, _, _, _ => simp [oCell, oRev]
    · rw [ea]
      simp
  · obtain ⟨n1, n2⟩ := oNo1_f hi (by omega) e
    exact hk.no (by unfold opReverse; rw [if_neg n1, n2, if_neg (fun z => z c), if_neg (fun z => z c2), if_pos c3]) h (by decide) rfl
  · obtain ⟨n1, n2⟩ := oNo1_f hi (by omega) e
    exact hk.no (by unfold opReverse; rw [if_neg n1, n2, if_neg (fun z => z c), if_pos c2]) h (by decide) rfl
  · obtain ⟨n1, n2⟩ := oNo1_f hi (by omega) e
    exact hk.no (by unfold opReverse; rw [if_neg n1, n2, if_pos c]) h (by decide) rfl
end S29
