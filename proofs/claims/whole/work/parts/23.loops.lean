/-! loops over the class's arrays: what they come to is a fold over the counts -/
def oFold {V : Type} (g : Nat → V → V) : Nat → Nat → V → V
  | 0, _, v => v
  | k + 1, i, v => oFold g k (i + 1) (g i v)
abbrev oOv (σ : oS) (i : Nat) (m : Int32) : Prop := 0 < σ.2.1 2 i 0 ∧ σ.1 15 i 0 = 0 ∧ σ.1 13 i 0 < m
def oCur (σ : oS) (b : Nat) (c : Int32) : Int64 := oFold (fun j v => if σ.1 10 b j = c then v + σ.2.1 1 b j else v) (σ.2.2 4 b 0) 0 0
def oAcc (σ : oS) (b : Nat) (a : Int32) : Int64 := oFold (fun j v => if σ.1 9 b j = a then v + σ.2.1 1 b j else v) (σ.2.2 4 b 0) 0 0
def oBal (σ : oS) (a m : Int32) : Int64 := oFold (fun b v => if σ.1 6 b 0 = 1 ∧ σ.1 5 b 0 ≤ m then v + oAcc σ b a else v) (σ.2.2 2 0 0) 0 0
def oAll (σ : oS) (c : Int32) : Int64 := oFold (fun b v => if σ.1 6 b 0 = 1 then v + oCur σ b c else v) (σ.2.2 2 0 0) 0 0
def oOvs (σ : oS) (o : Int32) : Int32 := oFold (fun i v => if σ.1 12 i 0 = o ∧ oOv σ i (σ.1 0 0 0) then v + 1 else v) (σ.2.2 3 0 0) 0 0
def oPosted (σ : oS) : Int32 := oFold (fun b v => if σ.1 6 b 0 = 1 then v + 1 else v) (σ.2.2 2 0 0) 0 0
def oUnpaid (σ : oS) : Int32 := oFold (fun i v => if 0 < σ.2.1 2 i 0 then v + 1 else v) (σ.2.2 3 0 0) 0 0
def oHolds (σ : oS) : Int32 := oFold (fun i v => if σ.1 3 i 0 = 0 then v else v + 1) (σ.2.2 0 0 0) 0 0
theorem oFst_lt {f : Nat → Int32} : ∀ {k i j : Nat}, oFst f k i = some j → j < i + k := by
  intro k
  induction k with
  | zero => intro i j h; cases h
  | succ k ih =>
    intro i j h
    unfold oFst at h
    by_cases c : f i = 0
    · rw [if_pos c] at h
      have := ih h
      omega
    · rw [if_neg c] at h
      cases h
      omega
section S23
variable {σ : oS} {ad : Nat → Nat → Nat → Nat} {G : gh_H} {px : String → gh_H → Prop}
theorem s_sumOfCurrency_l {post : Int64 → gh_H → Prop} {b : Nat} {c : Int32} (h : oR σ ad G) (hb : b < σ.2.2 2 0 0) : ∀ (n i : Nat) (v : Int64), i ≤ 8 → 8 - i < n → post (oFold (fun j v => if σ.1 10 b j = c then v + σ.2.1 1 b j else v) (σ.2.2 4 b 0 - i) i v) G → wX0_sumOfCurrency_16 post px n G c v (ad 7 b 0) (nI 8) (nI i) := by
  have hB : σ.2.2 4 b 0 ≤ 8 := h.1.2.2.2.2 b
  intro n
  induction n with
  | zero => intro i v h1 h2; omega
  | succ n ih =>
    intro i v hi hn hp
    refine ⟨fun c1 => ?_, fun c1 => ?_⟩
    · have e : σ.2.2 4 b 0 - i = 0 := by
        have := (nI_leI (a := 8) (b := i) (by decide) (by omega)).mp c1
        omega
      rw [e] at hp
      exact hp
    · have hlt : i < 8 := by
        rcases Nat.lt_or_ge i 8 with z | z
        · exact z
        · exact absurd (nI_le z (by omega)) c1
      refine ⟨_, _, _, h.arR hb, rfl, vp_in_nI hlt (by decide), fun o eo => ?_⟩
      rw [nI_clamp (show i < 2 ^ 31 by omega)] at eo
      rw [nI_1]
      by_cases hr : i < σ.2.2 4 b 0
      · simp only [if_pos hr] at eo
        subst eo
        rw [show σ.2.2 4 b 0 - i = (σ.2.2 4 b 0 - (i + 1)) + 1 by omega] at hp
        simp only [oFold] at hp
        have ih := fun v' hv' => ih (i + 1) v' (by omega) (by omega) hv'
        refine ⟨fun z => (by cases z), fun a ea => ?_⟩
        cases ea
        refine ⟨_, _, h.row hb hr, rfl, fun c2 => ih _ ?_, fun c2 => ⟨_, _, h.row hb hr, rfl, ih _ ?_⟩⟩
        · rw [if_neg c2] at hp; exact hp
        · rw [if_pos c2] at hp; exact hp
      · simp only [if_neg hr] at eo
        subst eo
        refine ⟨fun _ => ih (i + 1) v (by omega) (by omega) ?_, fun a ea => (by cases ea)⟩
        rw [show σ.2.2 4 b 0 - (i + 1) = 0 by omega]
        rw [show σ.2.2 4 b 0 - i = 0 by omega] at hp
        exact hp

theorem s_sumOfCurrency {post : Int64 → gh_H → Prop} {b : Nat} {c : Int32} (h : oR σ ad G) (hb : b < σ.2.2 2 0 0) (hp : post (oCur σ b c) G) : wX0_sumOfCurrency post px G (ad 6 b 0) c := by
  unfold wX0_sumOfCurrency
  refine ⟨_, _, h.bat hb, rfl, _, _, h.arR hb, by decide, ?_⟩
  exact s_sumOfCurrency_l h hb 300 0 0 (by omega) (by omega) hp

theorem s_sumOfAccount_l {post : Int64 → gh_H → Prop} {b : Nat} {c : Int32} (h : oR σ ad G) (hb : b < σ.2.2 2 0 0) : ∀ (n i : Nat) (v : Int64), i ≤ 8 → 8 - i < n → post (oFold (fun j v => if σ.1 9 b j = c then v + σ.2.1 1 b j else v) (σ.2.2 4 b 0 - i) i v) G → wX0_sumOfAccount_16 post px n G c v (ad 7 b 0) (nI 8) (nI i) := by
  have hB : σ.2.2 4 b 0 ≤ 8 := h.1.2.2.2.2 b
  intro n
  induction n with
  | zero => intro i v h1 h2; omega
  | succ n ih =>
    intro i v hi hn hp
    refine ⟨fun c1 => ?_, fun c1 => ?_⟩
    · have e : σ.2.2 4 b 0 - i = 0 := by
        have := (nI_leI (a := 8) (b := i) (by decide) (by omega)).mp c1
        omega
      rw [e] at hp
      exact hp
    · have hlt : i < 8 := by
        rcases Nat.lt_or_ge i 8 with z | z
        · exact z
        · exact absurd (nI_le z (by omega)) c1
      refine ⟨_, _, _, h.arR hb, rfl, vp_in_nI hlt (by decide), fun o eo => ?_⟩
      rw [nI_clamp (show i < 2 ^ 31 by omega)] at eo
      rw [nI_1]
      by_cases hr : i < σ.2.2 4 b 0
      · simp only [if_pos hr] at eo
        subst eo
        rw [show σ.2.2 4 b 0 - i = (σ.2.2 4 b 0 - (i + 1)) + 1 by omega] at hp
        simp only [oFold] at hp
        have ih := fun v' hv' => ih (i + 1) v' (by omega) (by omega) hv'
        refine ⟨fun z => (by cases z), fun a ea => ?_⟩
        cases ea
        refine ⟨_, _, h.row hb hr, rfl, fun c2 => ih _ ?_, fun c2 => ⟨_, _, h.row hb hr, rfl, ih _ ?_⟩⟩
        · rw [if_neg c2] at hp; exact hp
        · rw [if_pos c2] at hp; exact hp
      · simp only [if_neg hr] at eo
        subst eo
        refine ⟨fun _ => ih (i + 1) v (by omega) (by omega) ?_, fun a ea => (by cases ea)⟩
        rw [show σ.2.2 4 b 0 - (i + 1) = 0 by omega]
        rw [show σ.2.2 4 b 0 - i = 0 by omega] at hp
        exact hp

theorem s_sumOfAccount {post : Int64 → gh_H → Prop} {b : Nat} {c : Int32} (h : oR σ ad G) (hb : b < σ.2.2 2 0 0) (hp : post (oAcc σ b c) G) : wX0_sumOfAccount post px G (ad 6 b 0) c := by
  unfold wX0_sumOfAccount
  refine ⟨_, _, h.bat hb, rfl, _, _, h.arR hb, by decide, ?_⟩
  exact s_sumOfAccount_l h hb 300 0 0 (by omega) (by omega) hp

theorem s_all_l {post : Int64 → gh_H → Prop} {c : Int32} (h : oR σ ad G) : ∀ (n i : Nat) (v : Int64), i ≤ 30 → 30 - i < n → post (oFold (fun b v => if σ.1 6 b 0 = 1 then v + oCur σ b c else v) (σ.2.2 2 0 0 - i) i v) G → wX4_all_25 post px n G c v (ad 3 0 0) (nI 30) (nI i) := by
  have hB : σ.2.2 2 0 0 ≤ 30 := h.1.2.2.1
  intro n
  induction n with
  | zero => intro i v h1 h2; omega
  | succ n ih =>
    intro i v hi hn hp
    refine ⟨fun c1 => ?_, fun c1 => ?_⟩
    · have e : σ.2.2 2 0 0 - i = 0 := by
        have := (nI_leI (a := 30) (b := i) (by decide) (by omega)).mp c1
        omega
      rw [e] at hp
      exact hp
    · have hlt : i < 30 := by
        rcases Nat.lt_or_ge i 30 with z | z
        · exact z
        · exact absurd (nI_le z (by omega)) c1
      refine ⟨_, _, _, h.arB, rfl, vp_in_nI hlt (by decide), fun o eo => ?_⟩
      rw [nI_clamp (show i < 2 ^ 31 by omega)] at eo
      rw [nI_1]
      by_cases hr : i < σ.2.2 2 0 0
      · simp only [if_pos hr] at eo
        subst eo
        rw [show σ.2.2 2 0 0 - i = (σ.2.2 2 0 0 - (i + 1)) + 1 by omega] at hp
        simp only [oFold] at hp
        have ih := fun v' hv' => ih (i + 1) v' (by omega) (by omega) hv'
        refine ⟨fun z => (by cases z), fun a ea => ?_⟩
        cases ea
        refine ⟨_, _, h.bat hr, rfl, fun c2 => ih _ ?_, fun c2 => ⟨_, h.bat hr, s_sumOfCurrency h hr (ih _ ?_)⟩⟩
        · rw [if_neg c2] at hp; exact hp
        · rw [if_pos c2] at hp; exact hp
      · simp only [if_neg hr] at eo
        subst eo
        refine ⟨fun _ => ih (i + 1) v (by omega) (by omega) ?_, fun a ea => (by cases ea)⟩
        rw [show σ.2.2 2 0 0 - (i + 1) = 0 by omega]
        rw [show σ.2.2 2 0 0 - i = 0 by omega] at hp
        exact hp

theorem s_balance_l {post : Int64 → gh_H → Prop} {a m : Int32} (h : oR σ ad G) : ∀ (n i : Nat) (v : Int64), i ≤ 30 → 30 - i < n → post (oFold (fun b v => if σ.1 6 b 0 = 1 ∧ σ.1 5 b 0 ≤ m then v + oAcc σ b a else v) (σ.2.2 2 0 0 - i) i v) G → wX4_balance_31 post px n G a m v (ad 3 0 0) (nI 30) (nI i) := by
  have hB : σ.2.2 2 0 0 ≤ 30 := h.1.2.2.1
  intro n
  induction n with
  | zero => intro i v h1 h2; omega
  | succ n ih =>
    intro i v hi hn hp
    refine ⟨fun c1 => ?_, fun c1 => ?_⟩
    · have e : σ.2.2 2 0 0 - i = 0 := by
        have := (nI_leI (a := 30) (b := i) (by decide) (by omega)).mp c1
        omega
      rw [e] at hp
      exact hp
    · have hlt : i < 30 := by
        rcases Nat.lt_or_ge i 30 with z | z
        · exact z
        · exact absurd (nI_le z (by omega)) c1
      refine ⟨_, _, _, h.arB, rfl, vp_in_nI hlt (by decide), fun o eo => ?_⟩
      rw [nI_clamp (show i < 2 ^ 31 by omega)] at eo
      rw [nI_1]
      by_cases hr : i < σ.2.2 2 0 0
      · simp only [if_pos hr] at eo
        subst eo
        rw [show σ.2.2 2 0 0 - i = (σ.2.2 2 0 0 - (i + 1)) + 1 by omega] at hp
        simp only [oFold] at hp
        have ih := fun v' hv' => ih (i + 1) v' (by omega) (by omega) hv'
        refine ⟨fun z => (by cases z), fun a ea => ?_⟩
        cases ea
        refine ⟨_, _, h.bat hr, rfl, fun c2 => ih _ ?_, fun c2 => ⟨_, _, h.bat hr, rfl, fun c3 => ih _ ?_, fun c3 => ⟨_, h.bat hr, s_sumOfAccount h hr (ih _ ?_)⟩⟩⟩
        · rw [if_neg (fun z => c2 z.1)] at hp; exact hp
        · rw [if_neg (fun z => Int32.not_lt.mpr z.2 c3)] at hp; exact hp
        · rw [if_pos ⟨c2, Int32.not_lt.mp c3⟩] at hp; exact hp
      · simp only [if_neg hr] at eo
        subst eo
        refine ⟨fun _ => ih (i + 1) v (by omega) (by omega) ?_, fun a ea => (by cases ea)⟩
        rw [show σ.2.2 2 0 0 - (i + 1) = 0 by omega]
        rw [show σ.2.2 2 0 0 - i = 0 by omega] at hp
        exact hp

theorem s_posted_l {post : Int32 → gh_H → Prop}  (h : oR σ ad G) : ∀ (n i : Nat) (v : Int32), i ≤ 30 → 30 - i < n → post (oFold (fun b v => if σ.1 6 b 0 = 1 then v + 1 else v) (σ.2.2 2 0 0 - i) i v) G → wX4_postedBatches_13 post px n G v (ad 3 0 0) (nI 30) (nI i) := by
  have hB : σ.2.2 2 0 0 ≤ 30 := h.1.2.2.1
  intro n
  induction n with
  | zero => intro i v h1 h2; omega
  | succ n ih =>
    intro i v hi hn hp
    refine ⟨fun c1 => ?_, fun c1 => ?_⟩
    · have e : σ.2.2 2 0 0 - i = 0 := by
        have := (nI_leI (a := 30) (b := i) (by decide) (by omega)).mp c1
        omega
      rw [e] at hp
      exact hp
    · have hlt : i < 30 := by
        rcases Nat.lt_or_ge i 30 with z | z
        · exact z
        · exact absurd (nI_le z (by omega)) c1
      refine ⟨_, _, _, h.arB, rfl, vp_in_nI hlt (by decide), fun o eo => ?_⟩
      rw [nI_clamp (show i < 2 ^ 31 by omega)] at eo
      rw [nI_1]
      by_cases hr : i < σ.2.2 2 0 0
      · simp only [if_pos hr] at eo
        subst eo
        rw [show σ.2.2 2 0 0 - i = (σ.2.2 2 0 0 - (i + 1)) + 1 by omega] at hp
        simp only [oFold] at hp
        have ih := fun v' hv' => ih (i + 1) v' (by omega) (by omega) hv'
        refine ⟨fun z => (by cases z), fun a ea => ?_⟩
        cases ea
        refine ⟨_, _, h.bat hr, rfl, fun c2 => ih _ ?_, fun c2 => ih _ ?_⟩
        · rw [if_neg c2] at hp; exact hp
        · rw [if_pos c2] at hp; exact hp
      · simp only [if_neg hr] at eo
        subst eo
        refine ⟨fun _ => ih (i + 1) v (by omega) (by omega) ?_, fun a ea => (by cases ea)⟩
        rw [show σ.2.2 2 0 0 - (i + 1) = 0 by omega]
        rw [show σ.2.2 2 0 0 - i = 0 by omega] at hp
        exact hp

theorem s_unpaid_l {post : Int32 → gh_H → Prop}  (h : oR σ ad G) : ∀ (n i : Nat) (v : Int32), i ≤ 20 → 20 - i < n → post (oFold (fun i v => if 0 < σ.2.1 2 i 0 then v + 1 else v) (σ.2.2 3 0 0 - i) i v) G → wX4_unpaidInvoices_13 post px n G v (ad 4 0 0) (nI 20) (nI i) := by
  have hB : σ.2.2 3 0 0 ≤ 20 := h.1.2.2.2.1
  intro n
  induction n with
  | zero => intro i v h1 h2; omega
  | succ n ih =>
    intro i v hi hn hp
    refine ⟨fun c1 => ?_, fun c1 => ?_⟩
    · have e : σ.2.2 3 0 0 - i = 0 := by
        have := (nI_leI (a := 20) (b := i) (by decide) (by omega)).mp c1
        omega
      rw [e] at hp
      exact hp
    · have hlt : i < 20 := by
        rcases Nat.lt_or_ge i 20 with z | z
        · exact z
        · exact absurd (nI_le z (by omega)) c1
      refine ⟨_, _, _, h.arV, rfl, vp_in_nI hlt (by decide), fun o eo => ?_⟩
      rw [nI_clamp (show i < 2 ^ 31 by omega)] at eo
      rw [nI_1]
      by_cases hr : i < σ.2.2 3 0 0
      · simp only [if_pos hr] at eo
        subst eo
        rw [show σ.2.2 3 0 0 - i = (σ.2.2 3 0 0 - (i + 1)) + 1 by omega] at hp
        simp only [oFold] at hp
        have ih := fun v' hv' => ih (i + 1) v' (by omega) (by omega) hv'
        refine ⟨fun z => (by cases z), fun a ea => ?_⟩
        cases ea
        refine ⟨_, _, h.inv hr, rfl, fun c2 => ih _ ?_, fun c2 => ih _ ?_⟩
        · rw [if_neg (Int64.not_lt.mpr (oX_le.mp c2))] at hp; exact hp
        · rw [if_pos (Int64.not_le.mp (fun z => c2 (oX_le.mpr z)))] at hp; exact hp
      · simp only [if_neg hr] at eo
        subst eo
        refine ⟨fun _ => ih (i + 1) v (by omega) (by omega) ?_, fun a ea => (by cases ea)⟩
        rw [show σ.2.2 3 0 0 - (i + 1) = 0 by omega]
        rw [show σ.2.2 3 0 0 - i = 0 by omega] at hp
        exact hp

theorem s_holds_l {post : Int32 → gh_H → Prop}  (h : oR σ ad G) : ∀ (n i : Nat) (v : Int32), i ≤ 6 → 6 - i < n → post (oFold (fun i v => if σ.1 3 i 0 = 0 then v else v + 1) (σ.2.2 0 0 0 - i) i v) G → wX4_heldOwners_13 post px n G v (ad 1 0 0) (nI 6) (nI i) := by
  have hB : σ.2.2 0 0 0 ≤ 6 := h.1.1
  intro n
  induction n with
  | zero => intro i v h1 h2; omega
  | succ n ih =>
    intro i v hi hn hp
    refine ⟨fun c1 => ?_, fun c1 => ?_⟩
    · have e : σ.2.2 0 0 0 - i = 0 := by
        have := (nI_leI (a := 6) (b := i) (by decide) (by omega)).mp c1
        omega
      rw [e] at hp
      exact hp
    · have hlt : i < 6 := by
        rcases Nat.lt_or_ge i 6 with z | z
        · exact z
        · exact absurd (nI_le z (by omega)) c1
      refine ⟨_, _, _, h.arO, rfl, vp_in_nI hlt (by decide), fun o eo => ?_⟩
      rw [nI_clamp (show i < 2 ^ 31 by omega)] at eo
      rw [nI_1]
      by_cases hr : i < σ.2.2 0 0 0
      · simp only [if_pos hr] at eo
        subst eo
        rw [show σ.2.2 0 0 0 - i = (σ.2.2 0 0 0 - (i + 1)) + 1 by omega] at hp
        simp only [oFold] at hp
        have ih := fun v' hv' => ih (i + 1) v' (by omega) (by omega) hv'
        refine ⟨fun z => (by cases z), fun a ea => ?_⟩
        cases ea
        refine ⟨_, _, h.own hr, rfl, fun c2 => ih _ ?_, fun c2 => ih _ ?_⟩
        · rw [if_pos c2] at hp; exact hp
        · rw [if_neg c2] at hp; exact hp
      · simp only [if_neg hr] at eo
        subst eo
        refine ⟨fun _ => ih (i + 1) v (by omega) (by omega) ?_, fun a ea => (by cases ea)⟩
        rw [show σ.2.2 0 0 0 - (i + 1) = 0 by omega]
        rw [show σ.2.2 0 0 0 - i = 0 by omega] at hp
        exact hp

theorem s_ovs_l {post : Int32 → gh_H → Prop} {ow : Int32} (h : oR σ ad G) : ∀ (n i : Nat) (v : Int32), i ≤ 20 → 20 - i < n → post (oFold (fun i v => if σ.1 12 i 0 = ow ∧ oOv σ i (σ.1 0 0 0) then v + 1 else v) (σ.2.2 3 0 0 - i) i v) G → wX4_overdueInvoicesOf_14 post px n G (ad 0 0 0) ow v (ad 4 0 0) (nI 20) (nI i) := by
  have hB : σ.2.2 3 0 0 ≤ 20 := h.1.2.2.2.1
  intro n
  induction n with
  | zero => intro i v h1 h2; omega
  | succ n ih =>
    intro i v hi hn hp
    refine ⟨fun c1 => ?_, fun c1 => ?_⟩
    · have e : σ.2.2 3 0 0 - i = 0 := by
        have := (nI_leI (a := 20) (b := i) (by decide) (by omega)).mp c1
        omega
      rw [e] at hp
      exact hp
    · have hlt : i < 20 := by
        rcases Nat.lt_or_ge i 20 with z | z
        · exact z
        · exact absurd (nI_le z (by omega)) c1
      refine ⟨_, _, _, h.arV, rfl, vp_in_nI hlt (by decide), fun o eo => ?_⟩
      rw [nI_clamp (show i < 2 ^ 31 by omega)] at eo
      rw [nI_1]
      by_cases hr : i < σ.2.2 3 0 0
      · simp only [if_pos hr] at eo
        subst eo
        rw [show σ.2.2 3 0 0 - i = (σ.2.2 3 0 0 - (i + 1)) + 1 by omega] at hp
        simp only [oFold] at hp
        have ih := fun v' hv' => ih (i + 1) v' (by omega) (by omega) hv'
        refine ⟨fun z => (by cases z), fun a ea => ?_⟩
        cases ea
        refine ⟨_, _, h.inv hr, rfl, fun c2 => ih _ ?_, fun c2 => ⟨_, _, h.led, rfl, _, h.inv hr, s_isOverdue h hr (fun c3 => ⟨fun z => absurd z (by decide), fun _ => ih _ ?_⟩) (fun c3 => ⟨fun _ => ih _ ?_, fun z => absurd rfl z⟩)⟩⟩
        · rw [if_neg (fun z => c2 z.1)] at hp; exact hp
        · rw [if_pos ⟨c2, c3⟩] at hp; exact hp
        · rw [if_neg (fun z => c3 z.2)] at hp; exact hp
      · simp only [if_neg hr] at eo
        subst eo
        refine ⟨fun _ => ih (i + 1) v (by omega) (by omega) ?_, fun a ea => (by cases ea)⟩
        rw [show σ.2.2 3 0 0 - (i + 1) = 0 by omega]
        rw [show σ.2.2 3 0 0 - i = 0 by omega] at hp
        exact hp

theorem s_postedBatches {post : Int32 → gh_H → Prop} (h : oR σ ad G) (hp : post (oPosted σ) G) : wX4_postedBatches post px G (ad 0 0 0) := by
  unfold wX4_postedBatches
  exact ⟨_, _, h.led, rfl, _, _, h.arB, by decide, s_posted_l h 300 0 0 (by omega) (by omega) hp⟩

theorem s_unpaidInvoices {post : Int32 → gh_H → Prop} (h : oR σ ad G) (hp : post (oUnpaid σ) G) : wX4_unpaidInvoices post px G (ad 0 0 0) := by
  unfold wX4_unpaidInvoices
  exact ⟨_, _, h.led, rfl, _, _, h.arV, by decide, s_unpaid_l h 300 0 0 (by omega) (by omega) hp⟩

theorem s_heldOwners {post : Int32 → gh_H → Prop} (h : oR σ ad G) (hp : post (oHolds σ) G) : wX4_heldOwners post px G (ad 0 0 0) := by
  unfold wX4_heldOwners
  exact ⟨_, _, h.led, rfl, _, _, h.arO, by decide, s_holds_l h 300 0 0 (by omega) (by omega) hp⟩

theorem s_overdueInvoicesOf {post : Int32 → gh_H → Prop} {ow : Int32} (h : oR σ ad G) (hp : post (oOvs σ ow) G) : wX4_overdueInvoicesOf post px G (ad 0 0 0) ow := by
  unfold wX4_overdueInvoicesOf
  exact ⟨_, _, h.led, rfl, _, _, h.arV, by decide, s_ovs_l h 300 0 0 (by omega) (by omega) hp⟩
theorem s_firstBreaking_l {post : Int32 → gh_H → Prop} {b : Nat} (h : oR σ ad G) (hb : b < σ.2.2 2 0 0) : ∀ (n i : Nat), i ≤ 8 → 8 - i < n → (∀ j, oFst (fun j => σ.1 11 b j) (σ.2.2 4 b 0 - i) i = some j → post (nI j) G) → (oFst (fun j => σ.1 11 b j) (σ.2.2 4 b 0 - i) i = none → post (-1) G) → wX0_firstBreaking_2 post px n G (ad 6 b 0) (nI i) := by
  have hB := h.1.2.2.2.2 b
  intro n
  induction n with
  | zero => intro i h1 h2; omega
  | succ n ih =>
    intro i hi hn hs hno
    refine ⟨_, _, h.bat hb, rfl, _, _, h.arR hb, by decide, fun c1 => ?_, fun c1 => ?_⟩
    · have e : σ.2.2 4 b 0 - i = 0 := by
        have := (nI_leI (a := 8) (b := i) (by decide) (by omega)).mp c1
        omega
      exact hno (by rw [e]; rfl)
    · have hlt : i < 8 := by
        rcases Nat.lt_or_ge i 8 with z | z
        · exact z
        · exact absurd (nI_le z (by omega)) c1
      refine ⟨_, _, h.bat hb, rfl, _, _, _, h.arR hb, rfl, vp_in_nI hlt (by decide), fun o eo => ?_⟩
      rw [nI_clamp (show i < 2 ^ 31 by omega)] at eo
      rw [nI_1]
      by_cases hr : i < σ.2.2 4 b 0
      · simp only [if_pos hr] at eo
        subst eo
        rw [show σ.2.2 4 b 0 - i = (σ.2.2 4 b 0 - (i + 1)) + 1 by omega] at hs hno
        simp only [oFst] at hs hno
        refine ⟨fun z => (by cases z), fun a ea => ?_⟩
        cases ea
        refine ⟨_, _, h.row hb hr, rfl, fun c2 => ?_, fun c2 => ?_⟩
        · rw [if_pos c2] at hs hno
          exact ih (i + 1) (by omega) (by omega) hs hno
        · rw [if_neg c2] at hs
          exact hs i rfl
      · simp only [if_neg hr] at eo
        subst eo
        refine ⟨fun _ => ih (i + 1) (by omega) (by omega) ?_ ?_, fun a ea => (by cases ea)⟩
        · rw [show σ.2.2 4 b 0 - (i + 1) = 0 by omega]; exact fun _ z => (by cases z)
        · exact fun _ => hno (by rw [show σ.2.2 4 b 0 - i = 0 by omega]; rfl)
theorem s_firstBreaking {post : Int32 → gh_H → Prop} {b : Nat} (h : oR σ ad G) (hb : b < σ.2.2 2 0 0) (hs : ∀ j, oFst (fun j => σ.1 11 b j) (σ.2.2 4 b 0) 0 = some j → post (nI j) G) (hno : oFst (fun j => σ.1 11 b j) (σ.2.2 4 b 0) 0 = none → post (-1) G) : wX0_firstBreaking post px G (ad 6 b 0) :=
  s_firstBreaking_l h hb 300 0 (by omega) (by omega) hs hno
abbrev oZero (σ : oS) (b : Nat) : Prop := oCur σ b 0 = 0 ∧ oCur σ b 1 = 0 ∧ oCur σ b 2 = 0
theorem s_sumsToZero {post : Int32 → gh_H → Prop} {b : Nat} (h : oR σ ad G) (hb : b < σ.2.2 2 0 0) (h1 : oZero σ b → post 1 G) (h0 : ¬ oZero σ b → post 0 G) : wX0_sumsToZero post px G (ad 6 b 0) := by
  unfold wX0_sumsToZero
  refine ⟨fun c => absurd c (by decide), fun _ => ⟨_, h.bat hb, s_sumOfCurrency h hb ⟨fun e0 => ?_, fun e0 => h0 (fun z => e0 (oX_eq.mpr z.1))⟩⟩⟩
  refine ⟨fun c => absurd c (by decide), fun _ => ⟨_, h.bat hb, s_sumOfCurrency h hb ⟨fun e1 => ?_, fun e1 => h0 (fun z => e1 (oX_eq.mpr z.2.1))⟩⟩⟩
  refine ⟨fun c => absurd c (by decide), fun _ => ⟨_, h.bat hb, s_sumOfCurrency h hb ⟨fun e2 => ?_, fun e2 => h0 (fun z => e2 (oX_eq.mpr z.2.2))⟩⟩⟩
  exact ⟨fun _ => h1 ⟨oX_eq.mp e0, oX_eq.mp e1, oX_eq.mp e2⟩, fun c => absurd (by decide) c⟩
end S23
