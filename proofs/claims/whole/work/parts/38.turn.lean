/-! One turn of the law's loop. -/
theorem two_id {G A F : gh_H} (hd : ∀ a, A a ≠ none → F a = none) (e : G = gh_j A F) : gh_two G A F := ⟨fun a => by rw [e], hd⟩
theorem two_sw {G A F : gh_H} (hd : ∀ a, A a ≠ none → F a = none) (e : G = gh_j A F) : gh_two G F A := by
  have hd' : ∀ a, F a ≠ none → A a = none := fun a hF => by
    cases h : A a with
    | none => rfl
    | some x => exact absurd (hd a (by rw [h]; exact fun z => (by cases z))) hF
  refine ⟨fun a => ?_, hd'⟩
  rw [e]
  unfold gh_j
  cases h : A a with
  | none =>
    cases h2 : F a with
    | none => rfl
    | some y => rfl
  | some x =>
    rw [hd a (by rw [h]; exact fun z => (by cases z))]
theorem oM_W {r : oA64} {k : Int32} {am : Nat → Nat} {G : gh_H} (h : oM r.2.2 k am G) : oM (oW r) k am G := by
  unfold oW
  split
  · refine h.congr (fun _ _ _ _ => rfl) (fun a b c ha => ?_) (fun _ _ _ => rfl)
    have : ¬ a = 9 := by omega
    simp [oL, this]
  · exact h
theorem oInv_W {r : oA64} {n : Nat} (h : oInv n r.2.2) : oInv n (oW r) := by
  unfold oW
  split
  · exact ⟨h.no, h.nv, h.ra, h.ow, h.op, h.st, h.rv, h.hd, h.br, h.nw, h.cr⟩
  · exact h
/-- between two turns: the class and the reference stand for one state -/
def lJ (G : gh_H) (v1 v2 v3 t : Nat) : Prop := ∃ (Gc Gm : gh_H) (σ : oS) (ad : Nat → Nat → Nat → Nat) (am : Nat → Nat) (k : Int32), gh_two G Gc Gm ∧ oR σ ad Gc ∧ oM σ k am Gm ∧ oInv t σ ∧ ad 0 0 0 = v1 ∧ am 0 = v2 ∧ ad 10 0 0 = v3
section L38
variable {ad ad' : Nat → Nat → Nat → Nat} {am : Nat → Nat} {v1 v2 v3 t : Nat} {G4 G13 G19 : gh_H}
theorem t_fin {r : oA64} {JJ : gh_H → Prop} {BAD : Prop} {B : Int64} (hB : r.2.1 = B) (hR : oR (oW r) ad' G4) (h10 : ad' 10 0 0 = v3) (hM : oM r.2.2 (nI r.1) am G13) (b8 : r.1 < 2 ^ 31) (hd : ∀ a, G13 a ≠ none → G4 a = none) (e : G19 = gh_j G13 G4) (hJ : ∀ G30, gh_two G30 G4 G13 → JJ G30) :
    ∃ G27 F28 : gh_H, gh_two G19 G27 F28 ∧ ∃ fs25 : List Value, G27 (am 0) = some (.inr (5, fs25)) ∧ wX5_thrown (fun r23 G24 => (∀ a9, G24 a9 ≠ none → F28 a9 = none) → ∀ G30 : gh_H, G30 = gh_j G24 F28 → (r23 = nI r.1 → ((¬ nI r.1 = 0 → JJ G30) ∧ (nI r.1 = 0 → (∃ (n34 : Nat) (f35 : Nat → Int64), G30 v3 = some (.inl (1, n34, .inr (.inl f35))) ∧ vp_in 0 n34 ∧ ((lg_cmp (f35 (Int32.toNatClampNeg 0)) B = 0 → JJ G30) ∧ (¬ lg_cmp (f35 (Int32.toNatClampNeg 0)) B = 0 → BAD)))))) ∧ (¬ r23 = nI r.1 → BAD)) (fun _ _ => False) G27 (am 0) := by
  refine ⟨G13, G4, two_id hd e, _, hM.a0, _, _, hM.a0, rfl, fun hd2 G30 e30 => ⟨fun _ => ⟨fun _ => hJ G30 (two_sw hd2 e30), fun e0 => ?_⟩, fun z => absurd rfl z⟩⟩
  have e0' : r.1 = 0 := (nI_eq (b := 0) b8 (by decide)).mp e0
  have hl := gh_twoL (two_sw hd2 e30) _ _ hR.lcl
  rw [h10] at hl
  refine ⟨_, _, hl, vp_in_nI (n := 0) (by decide) (by decide), fun _ => hJ G30 (two_sw hd2 e30), fun z => absurd (oX_eq.mpr ?_) z⟩
  unfold oW
  rw [if_pos e0', ← hB]
  simp [oL]
theorem t_finv {r : oA} {JJ : gh_H → Prop} {BAD : Prop} (hM : oM r.2.2 (nI r.1) am G13) (hd : ∀ a, G13 a ≠ none → G4 a = none) (e : G19 = gh_j G13 G4) (hJ : ∀ G30, gh_two G30 G4 G13 → JJ G30) :
    ∃ G27 F28 : gh_H, gh_two G19 G27 F28 ∧ ∃ fs25 : List Value, G27 (am 0) = some (.inr (5, fs25)) ∧ wX5_thrown (fun r23 G24 => (∀ a9, G24 a9 ≠ none → F28 a9 = none) → ∀ G30 : gh_H, G30 = gh_j G24 F28 → (r23 = nI r.1 → JJ G30) ∧ (¬ r23 = nI r.1 → BAD)) (fun _ _ => False) G27 (am 0) :=
  ⟨G13, G4, two_id hd e, _, hM.a0, _, _, hM.a0, rfl, fun hd2 G30 e30 => ⟨fun _ => hJ G30 (two_sw hd2 e30), fun z => absurd rfl z⟩⟩
variable {post : Int32 → gh_H → Prop} {px : String → gh_H → Prop} {L : Nat} {xs : Nat → Int32} {J : gh_H → Nat → Nat → Nat → Int32 → Nat → Nat → Prop} {G : gh_H} {v4 : Int32} {kc ks : Nat}
theorem g_0 (hJ : ∀ G' kc' ks', lJ G' v1 v2 v3 (t + 1) → kc' ≤ kc + 12 → ks' ≤ ks + 58 → J G' v1 v2 v3 (v4 + 5) kc' ks') (h : lJ G v1 v2 v3 t) (ht : t ≤ 1000) (hkc : kc + 12 ≤ 601024) (hks : ks + 58 ≤ 7293034) (i1 : vp_in (v4 + 1) L) (i2 : vp_in (v4 + 2) L) (i3 : vp_in (v4 + 3) L) (i4 : vp_in (v4 + 4) L) : wL_law_144 post px L xs J G v1 v2 v3 v4 kc ks := by
  obtain ⟨Gc, Gm, σ, ad, am, k, h2, hR, hM, hI, rfl, rfl, rfl⟩ := h
  have hB := hR.1
  exact ⟨by omega, by omega, Gc, Gm, h2, l_owner hR hI (fun ad' G4 h0 h10 h' hd G8 e8 => ⟨by omega, by omega, Gm, G4, two_sw hd e8, _, hM.a0, r_owner hM hB (fun G13 hM' hd2 G19 e19 => ⟨by omega, by omega, t_fin (r := o64 (opOwner σ )) rfl h' h10 hM' (Nat.lt_of_le_of_lt b_owner (by decide)) hd2 e19 (fun G30 h30 => hJ G30 _ _ ⟨G4, G13, _, ad', am, _, h30, h', oM_W (r := o64 (opOwner σ )) hM', oInv_W (r := o64 (opOwner σ )) (i_owner hI), h0, rfl, h10⟩ (by omega) (by omega))⟩)⟩)⟩
theorem g_1 (hJ : ∀ G' kc' ks', lJ G' v1 v2 v3 (t + 1) → kc' ≤ kc + 12 → ks' ≤ ks + 58 → J G' v1 v2 v3 (v4 + 5) kc' ks') (h : lJ G v1 v2 v3 t) (ht : t ≤ 1000) (hkc : kc + 12 ≤ 601024) (hks : ks + 58 ≤ 7293034) (i1 : vp_in (v4 + 1) L) (i2 : vp_in (v4 + 2) L) (i3 : vp_in (v4 + 3) L) (i4 : vp_in (v4 + 4) L) : wL_law_188 post px L xs J G v1 v2 v3 v4 kc ks := by
  obtain ⟨Gc, Gm, σ, ad, am, k, h2, hR, hM, hI, rfl, rfl, rfl⟩ := h
  have hB := hR.1
  exact ⟨i1, i2, by omega, by omega, Gc, Gm, h2, l_account hR (fun ad' G4 h0 h10 h' hd G8 e8 => ⟨i1, i2, by omega, by omega, Gm, G4, two_sw hd e8, _, hM.a0, r_account hM hB (fun G13 hM' hd2 G19 e19 => ⟨by omega, by omega, t_fin (r := o64 (opAccount σ _ _)) rfl h' h10 hM' (Nat.lt_of_le_of_lt b_account (by decide)) hd2 e19 (fun G30 h30 => hJ G30 _ _ ⟨G4, G13, _, ad', am, _, h30, h', oM_W (r := o64 (opAccount σ _ _)) hM', oInv_W (r := o64 (opAccount σ _ _)) (i_account hI), h0, rfl, h10⟩ (by omega) (by omega))⟩)⟩)⟩
theorem g_2 (hJ : ∀ G' kc' ks', lJ G' v1 v2 v3 (t + 1) → kc' ≤ kc + 12 → ks' ≤ ks + 58 → J G' v1 v2 v3 (v4 + 5) kc' ks') (h : lJ G v1 v2 v3 t) (ht : t ≤ 1000) (hkc : kc + 12 ≤ 601024) (hks : ks + 58 ≤ 7293034) (i1 : vp_in (v4 + 1) L) (i2 : vp_in (v4 + 2) L) (i3 : vp_in (v4 + 3) L) (i4 : vp_in (v4 + 4) L) : wL_law_256 post px L xs J G v1 v2 v3 v4 kc ks := by
  obtain ⟨Gc, Gm, σ, ad, am, k, h2, hR, hM, hI, rfl, rfl, rfl⟩ := h
  have hB := hR.1
  exact ⟨i1, by omega, by omega, Gc, Gm, h2, l_month hR (fun ad' G4 h0 h10 h' hd G8 e8 => ⟨i1, by omega, by omega, Gm, G4, two_sw hd e8, _, hM.a0, r_month hM (fun G13 hM' hd2 G19 e19 => ⟨by omega, by omega, t_finv hM' hd2 e19 (fun G30 h30 => hJ G30 _ _ ⟨G4, G13, _, ad', am, _, h30, h', hM', i_month hI, h0, rfl, h10⟩ (by omega) (by omega))⟩)⟩)⟩
theorem g_3 (hJ : ∀ G' kc' ks', lJ G' v1 v2 v3 (t + 1) → kc' ≤ kc + 12 → ks' ≤ ks + 58 → J G' v1 v2 v3 (v4 + 5) kc' ks') (h : lJ G v1 v2 v3 t) (ht : t ≤ 1000) (hkc : kc + 12 ≤ 601024) (hks : ks + 58 ≤ 7293034) (i1 : vp_in (v4 + 1) L) (i2 : vp_in (v4 + 2) L) (i3 : vp_in (v4 + 3) L) (i4 : vp_in (v4 + 4) L) : wL_law_292 post px L xs J G v1 v2 v3 v4 kc ks := by
  obtain ⟨Gc, Gm, σ, ad, am, k, h2, hR, hM, hI, rfl, rfl, rfl⟩ := h
  have hB := hR.1
  exact ⟨i1, by omega, by omega, Gc, Gm, h2, l_close hR (fun ad' G4 h0 h10 h' hd G8 e8 => ⟨i1, by omega, by omega, Gm, G4, two_sw hd e8, _, hM.a0, r_close hM (fun G13 hM' hd2 G19 e19 => ⟨by omega, by omega, t_fin (r := o64 (opClose σ _)) rfl h' h10 hM' (Nat.lt_of_le_of_lt b_close (by decide)) hd2 e19 (fun G30 h30 => hJ G30 _ _ ⟨G4, G13, _, ad', am, _, h30, h', oM_W (r := o64 (opClose σ _)) hM', oInv_W (r := o64 (opClose σ _)) (i_close hI), h0, rfl, h10⟩ (by omega) (by omega))⟩)⟩)⟩
theorem g_4 (hJ : ∀ G' kc' ks', lJ G' v1 v2 v3 (t + 1) → kc' ≤ kc + 12 → ks' ≤ ks + 58 → J G' v1 v2 v3 (v4 + 5) kc' ks') (h : lJ G v1 v2 v3 t) (ht : t ≤ 1000) (hkc : kc + 12 ≤ 601024) (hks : ks + 58 ≤ 7293034) (i1 : vp_in (v4 + 1) L) (i2 : vp_in (v4 + 2) L) (i3 : vp_in (v4 + 3) L) (i4 : vp_in (v4 + 4) L) : wL_law_348 post px L xs J G v1 v2 v3 v4 kc ks := by
  obtain ⟨Gc, Gm, σ, ad, am, k, h2, hR, hM, hI, rfl, rfl, rfl⟩ := h
  have hB := hR.1
  exact ⟨i1, by omega, by omega, Gc, Gm, h2, l_batch hR (fun ad' G4 h0 h10 h' hd G8 e8 => ⟨i1, by omega, by omega, Gm, G4, two_sw hd e8, _, hM.a0, r_batch hM hB (fun G13 hM' hd2 G19 e19 => ⟨by omega, by omega, t_fin (r := o64 (opBatch σ _)) rfl h' h10 hM' (Nat.lt_of_le_of_lt b_batch (by decide)) hd2 e19 (fun G30 h30 => hJ G30 _ _ ⟨G4, G13, _, ad', am, _, h30, h', oM_W (r := o64 (opBatch σ _)) hM', oInv_W (r := o64 (opBatch σ _)) (i_batch hI), h0, rfl, h10⟩ (by omega) (by omega))⟩)⟩)⟩
theorem g_5 (hJ : ∀ G' kc' ks', lJ G' v1 v2 v3 (t + 1) → kc' ≤ kc + 12 → ks' ≤ ks + 58 → J G' v1 v2 v3 (v4 + 5) kc' ks') (h : lJ G v1 v2 v3 t) (ht : t ≤ 1000) (hkc : kc + 12 ≤ 601024) (hks : ks + 58 ≤ 7293034) (i1 : vp_in (v4 + 1) L) (i2 : vp_in (v4 + 2) L) (i3 : vp_in (v4 + 3) L) (i4 : vp_in (v4 + 4) L) : wL_law_404 post px L xs J G v1 v2 v3 v4 kc ks := by
  obtain ⟨Gc, Gm, σ, ad, am, k, h2, hR, hM, hI, rfl, rfl, rfl⟩ := h
  have hB := hR.1
  exact ⟨i1, i2, i3, i4, by omega, by omega, Gc, Gm, h2, l_row hR (fun ad' G4 h0 h10 h' hd G8 e8 => ⟨i1, i2, i3, i4, by omega, by omega, Gm, G4, two_sw hd e8, _, hM.a0, r_row hM hB (fun G13 hM' hd2 G19 e19 => ⟨by omega, by omega, t_fin (r := o64 (opRow σ _ _ _)) rfl h' h10 hM' (Nat.lt_of_le_of_lt b_row (by decide)) hd2 e19 (fun G30 h30 => hJ G30 _ _ ⟨G4, G13, _, ad', am, _, h30, h', oM_W (r := o64 (opRow σ _ _ _)) hM', oInv_W (r := o64 (opRow σ _ _ _)) (i_row hI hB), h0, rfl, h10⟩ (by omega) (by omega))⟩)⟩)⟩
theorem g_6 (hJ : ∀ G' kc' ks', lJ G' v1 v2 v3 (t + 1) → kc' ≤ kc + 12 → ks' ≤ ks + 58 → J G' v1 v2 v3 (v4 + 5) kc' ks') (h : lJ G v1 v2 v3 t) (ht : t ≤ 1000) (hkc : kc + 12 ≤ 601024) (hks : ks + 58 ≤ 7293034) (i1 : vp_in (v4 + 1) L) (i2 : vp_in (v4 + 2) L) (i3 : vp_in (v4 + 3) L) (i4 : vp_in (v4 + 4) L) : wL_law_516 post px L xs J G v1 v2 v3 v4 kc ks := by
  obtain ⟨Gc, Gm, σ, ad, am, k, h2, hR, hM, hI, rfl, rfl, rfl⟩ := h
  have hB := hR.1
  have key : ∀ on : Int32, (on = 0 ∨ on = 1) → ((xs (Int32.toNatClampNeg (v4 + 3))) = 0 → on = 0) → (¬ (xs (Int32.toNatClampNeg (v4 + 3))) = 0 → on = 1) → wL_law_543 post px L xs J G (ad 0 0 0) (am 0) (ad 10 0 0) v4 (ad 0 0 0) (xs (Int32.toNatClampNeg (v4 + 1))) (xs (Int32.toNatClampNeg (v4 + 2))) on kc ks := by
    intro on hb o0 o1
    refine ⟨by omega, by omega, Gc, Gm, h2, l_breaks hR hb (fun ad' G4 h0 h10 h' hd G8 e8 => ?_)⟩
    have last : wL_law_575 post px L xs J G8 (ad 0 0 0) (am 0) (ad 10 0 0) v4 (nI (opBreaks σ (xs (Int32.toNatClampNeg (v4 + 1))) (xs (Int32.toNatClampNeg (v4 + 2))) on).1) (am 0) (xs (Int32.toNatClampNeg (v4 + 1))) (xs (Int32.toNatClampNeg (v4 + 2))) on (kc + 3) (ks + 18) :=
      ⟨by omega, by omega, Gm, G4, two_sw hd e8, _, hM.a0, r_breaks hM hB hb (fun G13 hM' hd2 G19 e19 => ⟨by omega, by omega, t_finv hM' hd2 e19 (fun G30 h30 => hJ G30 _ _ ⟨G4, G13, _, ad', am, _, h30, h', hM', i_breaks hI hb, h0, rfl, h10⟩ (by omega) (by omega))⟩)⟩
    refine ⟨i1, i2, i3, fun z => ?_, fun z => ?_⟩
    · have e := o0 z
      subst e
      exact last
    · have e := o1 z
      subst e
      exact last
  exact ⟨i1, i2, i3, fun z => key 0 (Or.inl rfl) (fun _ => rfl) (fun y => absurd z y), fun z => key 1 (Or.inr rfl) (fun y => absurd y z) (fun _ => rfl)⟩
theorem g_7 (hJ : ∀ G' kc' ks', lJ G' v1 v2 v3 (t + 1) → kc' ≤ kc + 12 → ks' ≤ ks + 58 → J G' v1 v2 v3 (v4 + 5) kc' ks') (h : lJ G v1 v2 v3 t) (ht : t ≤ 1000) (hkc : kc + 12 ≤ 601024) (hks : ks + 58 ≤ 7293034) (i1 : vp_in (v4 + 1) L) (i2 : vp_in (v4 + 2) L) (i3 : vp_in (v4 + 3) L) (i4 : vp_in (v4 + 4) L) : wL_law_592 post px L xs J G v1 v2 v3 v4 kc ks := by
  obtain ⟨Gc, Gm, σ, ad, am, k, h2, hR, hM, hI, rfl, rfl, rfl⟩ := h
  have hB := hR.1
  exact ⟨i1, by omega, by omega, Gc, Gm, h2, l_post hR (fun ad' G4 h0 h10 h' hd G8 e8 => ⟨i1, by omega, by omega, Gm, G4, two_sw hd e8, _, hM.a0, r_post hM hB hI (fun G13 hM' hd2 G19 e19 => ⟨by omega, by omega, t_fin (r := o64 (opPost σ _)) rfl h' h10 hM' (Nat.lt_of_le_of_lt b_post (by decide)) hd2 e19 (fun G30 h30 => hJ G30 _ _ ⟨G4, G13, _, ad', am, _, h30, h', oM_W (r := o64 (opPost σ _)) hM', oInv_W (r := o64 (opPost σ _)) (i_post hI), h0, rfl, h10⟩ (by omega) (by omega))⟩)⟩)⟩
theorem g_8 (hJ : ∀ G' kc' ks', lJ G' v1 v2 v3 (t + 1) → kc' ≤ kc + 12 → ks' ≤ ks + 58 → J G' v1 v2 v3 (v4 + 5) kc' ks') (h : lJ G v1 v2 v3 t) (ht : t ≤ 1000) (hkc : kc + 12 ≤ 601024) (hks : ks + 58 ≤ 7293034) (i1 : vp_in (v4 + 1) L) (i2 : vp_in (v4 + 2) L) (i3 : vp_in (v4 + 3) L) (i4 : vp_in (v4 + 4) L) : wL_law_648 post px L xs J G v1 v2 v3 v4 kc ks := by
  obtain ⟨Gc, Gm, σ, ad, am, k, h2, hR, hM, hI, rfl, rfl, rfl⟩ := h
  have hB := hR.1
  exact ⟨i1, by omega, by omega, Gc, Gm, h2, l_reverse hR (fun ad' G4 h0 h10 h' hd G8 e8 => ⟨i1, by omega, by omega, Gm, G4, two_sw hd e8, _, hM.a0, r_reverse hM hB hI (fun G13 hM' hd2 G19 e19 => ⟨by omega, by omega, t_fin (r := o64 (opReverse σ _)) rfl h' h10 hM' (Nat.lt_of_le_of_lt b_reverse (by decide)) hd2 e19 (fun G30 h30 => hJ G30 _ _ ⟨G4, G13, _, ad', am, _, h30, h', oM_W (r := o64 (opReverse σ _)) hM', oInv_W (r := o64 (opReverse σ _)) (i_reverse hI hB), h0, rfl, h10⟩ (by omega) (by omega))⟩)⟩)⟩
theorem g_9 (hJ : ∀ G' kc' ks', lJ G' v1 v2 v3 (t + 1) → kc' ≤ kc + 12 → ks' ≤ ks + 58 → J G' v1 v2 v3 (v4 + 5) kc' ks') (h : lJ G v1 v2 v3 t) (ht : t ≤ 1000) (hkc : kc + 12 ≤ 601024) (hks : ks + 58 ≤ 7293034) (i1 : vp_in (v4 + 1) L) (i2 : vp_in (v4 + 2) L) (i3 : vp_in (v4 + 3) L) (i4 : vp_in (v4 + 4) L) : wL_law_704 post px L xs J G v1 v2 v3 v4 kc ks := by
  obtain ⟨Gc, Gm, σ, ad, am, k, h2, hR, hM, hI, rfl, rfl, rfl⟩ := h
  have hB := hR.1
  exact ⟨i1, i2, by omega, by omega, Gc, Gm, h2, l_balance hR (fun ad' G4 h0 h10 h' hd G8 e8 => ⟨i1, i2, by omega, by omega, Gm, G4, two_sw hd e8, _, hM.a0, r_balance hM hB (fun G13 hM' hd2 G19 e19 => ⟨by omega, by omega, t_fin (r := opBalance σ _ _) rfl h' h10 hM' (Nat.lt_of_le_of_lt b_balance (by decide)) hd2 e19 (fun G30 h30 => hJ G30 _ _ ⟨G4, G13, _, ad', am, _, h30, h', oM_W (r := opBalance σ _ _) hM', oInv_W (r := opBalance σ _ _) (i_balance hI), h0, rfl, h10⟩ (by omega) (by omega))⟩)⟩)⟩
theorem g_10 (hJ : ∀ G' kc' ks', lJ G' v1 v2 v3 (t + 1) → kc' ≤ kc + 12 → ks' ≤ ks + 58 → J G' v1 v2 v3 (v4 + 5) kc' ks') (h : lJ G v1 v2 v3 t) (ht : t ≤ 1000) (hkc : kc + 12 ≤ 601024) (hks : ks + 58 ≤ 7293034) (i1 : vp_in (v4 + 1) L) (i2 : vp_in (v4 + 2) L) (i3 : vp_in (v4 + 3) L) (i4 : vp_in (v4 + 4) L) : wL_law_771 post px L xs J G v1 v2 v3 v4 kc ks := by
  obtain ⟨Gc, Gm, σ, ad, am, k, h2, hR, hM, hI, rfl, rfl, rfl⟩ := h
  have hB := hR.1
  exact ⟨i1, by omega, by omega, Gc, Gm, h2, l_all hR (fun ad' G4 h0 h10 h' hd G8 e8 => ⟨i1, by omega, by omega, Gm, G4, two_sw hd e8, _, hM.a0, r_all hM hB hI (fun G13 hM' hd2 G19 e19 => ⟨by omega, by omega, t_fin (r := opAll σ _) rfl h' h10 hM' (Nat.lt_of_le_of_lt b_all (by decide)) hd2 e19 (fun G30 h30 => hJ G30 _ _ ⟨G4, G13, _, ad', am, _, h30, h', oM_W (r := opAll σ _) hM', oInv_W (r := opAll σ _) (i_all hI), h0, rfl, h10⟩ (by omega) (by omega))⟩)⟩)⟩
theorem g_11 (hJ : ∀ G' kc' ks', lJ G' v1 v2 v3 (t + 1) → kc' ≤ kc + 12 → ks' ≤ ks + 58 → J G' v1 v2 v3 (v4 + 5) kc' ks') (h : lJ G v1 v2 v3 t) (ht : t ≤ 1000) (hkc : kc + 12 ≤ 601024) (hks : ks + 58 ≤ 7293034) (i1 : vp_in (v4 + 1) L) (i2 : vp_in (v4 + 2) L) (i3 : vp_in (v4 + 3) L) (i4 : vp_in (v4 + 4) L) : wL_law_826 post px L xs J G v1 v2 v3 v4 kc ks := by
  obtain ⟨Gc, Gm, σ, ad, am, k, h2, hR, hM, hI, rfl, rfl, rfl⟩ := h
  have hB := hR.1
  exact ⟨i1, i2, i3, i4, by omega, by omega, Gc, Gm, h2, l_invoice hR hI (fun ad' G4 h0 h10 h' hd G8 e8 => ⟨i1, i2, i3, i4, by omega, by omega, Gm, G4, two_sw hd e8, _, hM.a0, r_invoice hM hB (fun G13 hM' hd2 G19 e19 => ⟨by omega, by omega, t_fin (r := o64 (opInvoice σ _ _ _)) rfl h' h10 hM' (Nat.lt_of_le_of_lt b_invoice (by decide)) hd2 e19 (fun G30 h30 => hJ G30 _ _ ⟨G4, G13, _, ad', am, _, h30, h', oM_W (r := o64 (opInvoice σ _ _ _)) hM', oInv_W (r := o64 (opInvoice σ _ _ _)) (i_invoice hI hB), h0, rfl, h10⟩ (by omega) (by omega))⟩)⟩)⟩
theorem g_12 (hJ : ∀ G' kc' ks', lJ G' v1 v2 v3 (t + 1) → kc' ≤ kc + 12 → ks' ≤ ks + 58 → J G' v1 v2 v3 (v4 + 5) kc' ks') (h : lJ G v1 v2 v3 t) (ht : t ≤ 1000) (hkc : kc + 12 ≤ 601024) (hks : ks + 58 ≤ 7293034) (i1 : vp_in (v4 + 1) L) (i2 : vp_in (v4 + 2) L) (i3 : vp_in (v4 + 3) L) (i4 : vp_in (v4 + 4) L) : wL_law_938 post px L xs J G v1 v2 v3 v4 kc ks := by
  obtain ⟨Gc, Gm, σ, ad, am, k, h2, hR, hM, hI, rfl, rfl, rfl⟩ := h
  have hB := hR.1
  exact ⟨i1, i2, i3, by omega, by omega, Gc, Gm, h2, l_pay hR (fun ad' G4 h0 h10 h' hd G8 e8 => ⟨i1, i2, i3, by omega, by omega, Gm, G4, two_sw hd e8, _, hM.a0, r_pay hM hB (fun G13 hM' hd2 G19 e19 => ⟨by omega, by omega, t_fin (r := o64 (opPay σ _ _)) rfl h' h10 hM' (Nat.lt_of_le_of_lt b_pay (by decide)) hd2 e19 (fun G30 h30 => hJ G30 _ _ ⟨G4, G13, _, ad', am, _, h30, h', oM_W (r := o64 (opPay σ _ _)) hM', oInv_W (r := o64 (opPay σ _ _)) (i_pay hI hB ht), h0, rfl, h10⟩ (by omega) (by omega))⟩)⟩)⟩
theorem g_13 (hJ : ∀ G' kc' ks', lJ G' v1 v2 v3 (t + 1) → kc' ≤ kc + 12 → ks' ≤ ks + 58 → J G' v1 v2 v3 (v4 + 5) kc' ks') (h : lJ G v1 v2 v3 t) (ht : t ≤ 1000) (hkc : kc + 12 ≤ 601024) (hks : ks + 58 ≤ 7293034) (i1 : vp_in (v4 + 1) L) (i2 : vp_in (v4 + 2) L) (i3 : vp_in (v4 + 3) L) (i4 : vp_in (v4 + 4) L) : wL_law_1038 post px L xs J G v1 v2 v3 v4 kc ks := by
  obtain ⟨Gc, Gm, σ, ad, am, k, h2, hR, hM, hI, rfl, rfl, rfl⟩ := h
  have hB := hR.1
  exact ⟨i1, i2, i3, by omega, by omega, Gc, Gm, h2, l_settle hR hI (fun ad' G4 h0 h10 h' hd G8 e8 => ⟨i1, i2, i3, by omega, by omega, Gm, G4, two_sw hd e8, _, hM.a0, r_settle hM hB hI (fun G13 hM' hd2 G19 e19 => ⟨by omega, by omega, t_fin (r := opSettle σ _ _) rfl h' h10 hM' (Nat.lt_of_le_of_lt b_settle (by decide)) hd2 e19 (fun G30 h30 => hJ G30 _ _ ⟨G4, G13, _, ad', am, _, h30, h', oM_W (r := opSettle σ _ _) hM', oInv_W (r := opSettle σ _ _) (i_settle hI hB ht), h0, rfl, h10⟩ (by omega) (by omega))⟩)⟩)⟩
theorem g_14 (hJ : ∀ G' kc' ks', lJ G' v1 v2 v3 (t + 1) → kc' ≤ kc + 12 → ks' ≤ ks + 58 → J G' v1 v2 v3 (v4 + 5) kc' ks') (h : lJ G v1 v2 v3 t) (ht : t ≤ 1000) (hkc : kc + 12 ≤ 601024) (hks : ks + 58 ≤ 7293034) (i1 : vp_in (v4 + 1) L) (i2 : vp_in (v4 + 2) L) (i3 : vp_in (v4 + 3) L) (i4 : vp_in (v4 + 4) L) : wL_law_1137 post px L xs J G v1 v2 v3 v4 kc ks := by
  obtain ⟨Gc, Gm, σ, ad, am, k, h2, hR, hM, hI, rfl, rfl, rfl⟩ := h
  have hB := hR.1
  have key : ∀ on : Int32, (on = 0 ∨ on = 1) → ((xs (Int32.toNatClampNeg (v4 + 2))) = 0 → on = 0) → (¬ (xs (Int32.toNatClampNeg (v4 + 2))) = 0 → on = 1) → wL_law_1158 post px L xs J G (ad 0 0 0) (am 0) (ad 10 0 0) v4 (ad 0 0 0) (xs (Int32.toNatClampNeg (v4 + 1))) on kc ks := by
    intro on hb o0 o1
    refine ⟨by omega, by omega, Gc, Gm, h2, l_dispute hR hb (fun ad' G4 h0 h10 h' hd G8 e8 => ?_)⟩
    have last : wL_law_1185 post px L xs J G8 (ad 0 0 0) (am 0) (ad 10 0 0) v4 (nI (opDispute σ (xs (Int32.toNatClampNeg (v4 + 1))) on).1) (am 0) (xs (Int32.toNatClampNeg (v4 + 1))) on (kc + 2) (ks + 12) :=
      ⟨by omega, by omega, Gm, G4, two_sw hd e8, _, hM.a0, r_dispute hM hB hb (fun G13 hM' hd2 G19 e19 => ⟨by omega, by omega, t_fin (r := opDispute σ (xs (Int32.toNatClampNeg (v4 + 1))) on) rfl h' h10 hM' (Nat.lt_of_le_of_lt b_dispute (by decide)) hd2 e19 (fun G30 h30 => hJ G30 _ _ ⟨G4, G13, _, ad', am, _, h30, h', oM_W (r := opDispute σ (xs (Int32.toNatClampNeg (v4 + 1))) on) hM', oInv_W (r := opDispute σ (xs (Int32.toNatClampNeg (v4 + 1))) on) (i_dispute hI hB hb), h0, rfl, h10⟩ (by omega) (by omega))⟩)⟩
    refine ⟨i1, i2, fun z => ?_, fun z => ?_⟩
    · have e := o0 z
      subst e
      exact last
    · have e := o1 z
      subst e
      exact last
  exact ⟨i1, i2, fun z => key 0 (Or.inl rfl) (fun _ => rfl) (fun y => absurd z y), fun z => key 1 (Or.inr rfl) (fun y => absurd y z) (fun _ => rfl)⟩
theorem g_15 (hJ : ∀ G' kc' ks', lJ G' v1 v2 v3 (t + 1) → kc' ≤ kc + 12 → ks' ≤ ks + 58 → J G' v1 v2 v3 (v4 + 5) kc' ks') (h : lJ G v1 v2 v3 t) (ht : t ≤ 1000) (hkc : kc + 12 ≤ 601024) (hks : ks + 58 ≤ 7293034) (i1 : vp_in (v4 + 1) L) (i2 : vp_in (v4 + 2) L) (i3 : vp_in (v4 + 3) L) (i4 : vp_in (v4 + 4) L) : wL_law_1220 post px L xs J G v1 v2 v3 v4 kc ks := by
  obtain ⟨Gc, Gm, σ, ad, am, k, h2, hR, hM, hI, rfl, rfl, rfl⟩ := h
  have hB := hR.1
  exact ⟨i1, by omega, by omega, Gc, Gm, h2, l_dun hR hI (fun ad' G4 h0 h10 h' hd G8 e8 => ⟨i1, by omega, by omega, Gm, G4, two_sw hd e8, _, hM.a0, r_dun hM hB hI (fun G13 hM' hd2 G19 e19 => ⟨by omega, by omega, t_fin (r := o64 (opDun σ _)) rfl h' h10 hM' (Nat.lt_of_le_of_lt b_dun (by decide)) hd2 e19 (fun G30 h30 => hJ G30 _ _ ⟨G4, G13, _, ad', am, _, h30, h', oM_W (r := o64 (opDun σ _)) hM', oInv_W (r := o64 (opDun σ _)) (i_dun hI hB), h0, rfl, h10⟩ (by omega) (by omega))⟩)⟩)⟩
theorem g_16 (hJ : ∀ G' kc' ks', lJ G' v1 v2 v3 (t + 1) → kc' ≤ kc + 12 → ks' ≤ ks + 58 → J G' v1 v2 v3 (v4 + 5) kc' ks') (h : lJ G v1 v2 v3 t) (ht : t ≤ 1000) (hkc : kc + 12 ≤ 601024) (hks : ks + 58 ≤ 7293034) (i1 : vp_in (v4 + 1) L) (i2 : vp_in (v4 + 2) L) (i3 : vp_in (v4 + 3) L) (i4 : vp_in (v4 + 4) L) : wL_law_1276 post px L xs J G v1 v2 v3 v4 kc ks := by
  obtain ⟨Gc, Gm, σ, ad, am, k, h2, hR, hM, hI, rfl, rfl, rfl⟩ := h
  have hB := hR.1
  exact ⟨i1, by omega, by omega, Gc, Gm, h2, l_rate hR (fun ad' G4 h0 h10 h' hd G8 e8 => ⟨i1, by omega, by omega, Gm, G4, two_sw hd e8, _, hM.a0, r_rate hM (fun G13 hM' hd2 G19 e19 => ⟨by omega, by omega, t_finv hM' hd2 e19 (fun G30 h30 => hJ G30 _ _ ⟨G4, G13, _, ad', am, _, h30, h', hM', i_rate hI, h0, rfl, h10⟩ (by omega) (by omega))⟩)⟩)⟩
theorem g_17 (hJ : ∀ G' kc' ks', lJ G' v1 v2 v3 (t + 1) → kc' ≤ kc + 12 → ks' ≤ ks + 58 → J G' v1 v2 v3 (v4 + 5) kc' ks') (h : lJ G v1 v2 v3 t) (ht : t ≤ 1000) (hkc : kc + 12 ≤ 601024) (hks : ks + 58 ≤ 7293034) (i1 : vp_in (v4 + 1) L) (i2 : vp_in (v4 + 2) L) (i3 : vp_in (v4 + 3) L) (i4 : vp_in (v4 + 4) L) : wL_law_1312 post px L xs J G v1 v2 v3 v4 kc ks := by
  obtain ⟨Gc, Gm, σ, ad, am, k, h2, hR, hM, hI, rfl, rfl, rfl⟩ := h
  have hB := hR.1
  exact ⟨i1, i2, by omega, by omega, Gc, Gm, h2, l_interest hR hI (fun ad' G4 h0 h10 h' hd G8 e8 => ⟨i1, i2, by omega, by omega, Gm, G4, two_sw hd e8, _, hM.a0, r_interest hM hB hI (fun G13 hM' hd2 G19 e19 => ⟨by omega, by omega, t_fin (r := opInterest σ _ _) rfl h' h10 hM' (Nat.lt_of_le_of_lt b_interest (by decide)) hd2 e19 (fun G30 h30 => hJ G30 _ _ ⟨G4, G13, _, ad', am, _, h30, h', oM_W (r := opInterest σ _ _) hM', oInv_W (r := opInterest σ _ _) (i_interest hI), h0, rfl, h10⟩ (by omega) (by omega))⟩)⟩)⟩
theorem g_18 (hJ : ∀ G' kc' ks', lJ G' v1 v2 v3 (t + 1) → kc' ≤ kc + 12 → ks' ≤ ks + 58 → J G' v1 v2 v3 (v4 + 5) kc' ks') (h : lJ G v1 v2 v3 t) (ht : t ≤ 1000) (hkc : kc + 12 ≤ 601024) (hks : ks + 58 ≤ 7293034) (i1 : vp_in (v4 + 1) L) (i2 : vp_in (v4 + 2) L) (i3 : vp_in (v4 + 3) L) (i4 : vp_in (v4 + 4) L) : wL_law_1379 post px L xs J G v1 v2 v3 v4 kc ks := by
  obtain ⟨Gc, Gm, σ, ad, am, k, h2, hR, hM, hI, rfl, rfl, rfl⟩ := h
  have hB := hR.1
  have key : ∀ on : Int32, (on = 0 ∨ on = 1) → ((xs (Int32.toNatClampNeg (v4 + 2))) = 0 → on = 0) → (¬ (xs (Int32.toNatClampNeg (v4 + 2))) = 0 → on = 1) → wL_law_1400 post px L xs J G (ad 0 0 0) (am 0) (ad 10 0 0) v4 (ad 0 0 0) (xs (Int32.toNatClampNeg (v4 + 1))) on kc ks := by
    intro on hb o0 o1
    refine ⟨by omega, by omega, Gc, Gm, h2, l_hold hR hb (fun ad' G4 h0 h10 h' hd G8 e8 => ?_)⟩
    have last : wL_law_1427 post px L xs J G8 (ad 0 0 0) (am 0) (ad 10 0 0) v4 (nI (opHold σ (xs (Int32.toNatClampNeg (v4 + 1))) on).1) (am 0) (xs (Int32.toNatClampNeg (v4 + 1))) on (kc + 2) (ks + 12) :=
      ⟨by omega, by omega, Gm, G4, two_sw hd e8, _, hM.a0, r_hold hM hB hb (fun G13 hM' hd2 G19 e19 => ⟨by omega, by omega, t_fin (r := o64 (opHold σ (xs (Int32.toNatClampNeg (v4 + 1))) on)) rfl h' h10 hM' (Nat.lt_of_le_of_lt b_hold (by decide)) hd2 e19 (fun G30 h30 => hJ G30 _ _ ⟨G4, G13, _, ad', am, _, h30, h', oM_W (r := o64 (opHold σ (xs (Int32.toNatClampNeg (v4 + 1))) on)) hM', oInv_W (r := o64 (opHold σ (xs (Int32.toNatClampNeg (v4 + 1))) on)) (i_hold hI hB hb), h0, rfl, h10⟩ (by omega) (by omega))⟩)⟩
    refine ⟨i1, i2, fun z => ?_, fun z => ?_⟩
    · have e := o0 z
      subst e
      exact last
    · have e := o1 z
      subst e
      exact last
  exact ⟨i1, i2, fun z => key 0 (Or.inl rfl) (fun _ => rfl) (fun y => absurd z y), fun z => key 1 (Or.inr rfl) (fun y => absurd y z) (fun _ => rfl)⟩
theorem g_19 (hJ : ∀ G' kc' ks', lJ G' v1 v2 v3 (t + 1) → kc' ≤ kc + 12 → ks' ≤ ks + 58 → J G' v1 v2 v3 (v4 + 5) kc' ks') (h : lJ G v1 v2 v3 t) (ht : t ≤ 1000) (hkc : kc + 12 ≤ 601024) (hks : ks + 58 ≤ 7293034) (i1 : vp_in (v4 + 1) L) (i2 : vp_in (v4 + 2) L) (i3 : vp_in (v4 + 3) L) (i4 : vp_in (v4 + 4) L) : wL_law_1463 post px L xs J G v1 v2 v3 v4 kc ks := by
  obtain ⟨Gc, Gm, σ, ad, am, k, h2, hR, hM, hI, rfl, rfl, rfl⟩ := h
  have hB := hR.1
  exact ⟨i1, i2, by omega, by omega, Gc, Gm, h2, l_told hR (fun ad' G4 h0 h10 h' hd G8 e8 => ⟨i1, i2, by omega, by omega, Gm, G4, two_sw hd e8, _, hM.a0, r_told hM hB (fun G13 hM' hd2 G19 e19 => ⟨by omega, by omega, t_fin (r := o64 (opTold σ _ _)) rfl h' h10 hM' (Nat.lt_of_le_of_lt b_told (by decide)) hd2 e19 (fun G30 h30 => hJ G30 _ _ ⟨G4, G13, _, ad', am, _, h30, h', oM_W (r := o64 (opTold σ _ _)) hM', oInv_W (r := o64 (opTold σ _ _)) (i_told hI), h0, rfl, h10⟩ (by omega) (by omega))⟩)⟩)⟩
theorem g_20 (hJ : ∀ G' kc' ks', lJ G' v1 v2 v3 (t + 1) → kc' ≤ kc + 12 → ks' ≤ ks + 58 → J G' v1 v2 v3 (v4 + 5) kc' ks') (h : lJ G v1 v2 v3 t) (ht : t ≤ 1000) (hkc : kc + 12 ≤ 601024) (hks : ks + 58 ≤ 7293034) (i1 : vp_in (v4 + 1) L) (i2 : vp_in (v4 + 2) L) (i3 : vp_in (v4 + 3) L) (i4 : vp_in (v4 + 4) L) : wL_law_1531 post px L xs J G v1 v2 v3 v4 kc ks := by
  obtain ⟨Gc, Gm, σ, ad, am, k, h2, hR, hM, hI, rfl, rfl, rfl⟩ := h
  have hB := hR.1
  exact ⟨i1, i2, by omega, by omega, Gc, Gm, h2, l_known hR (fun ad' G4 h0 h10 h' hd G8 e8 => ⟨i1, i2, by omega, by omega, Gm, G4, two_sw hd e8, _, hM.a0, r_known hM hB (fun G13 hM' hd2 G19 e19 => ⟨by omega, by omega, t_fin (r := opKnown σ _ _) rfl h' h10 hM' (Nat.lt_of_le_of_lt b_known (by decide)) hd2 e19 (fun G30 h30 => hJ G30 _ _ ⟨G4, G13, _, ad', am, _, h30, h', oM_W (r := opKnown σ _ _) hM', oInv_W (r := opKnown σ _ _) (i_known hI), h0, rfl, h10⟩ (by omega) (by omega))⟩)⟩)⟩
theorem g_21 (hJ : ∀ G' kc' ks', lJ G' v1 v2 v3 (t + 1) → kc' ≤ kc + 12 → ks' ≤ ks + 58 → J G' v1 v2 v3 (v4 + 5) kc' ks') (h : lJ G v1 v2 v3 t) (ht : t ≤ 1000) (hkc : kc + 12 ≤ 601024) (hks : ks + 58 ≤ 7293034) (i1 : vp_in (v4 + 1) L) (i2 : vp_in (v4 + 2) L) (i3 : vp_in (v4 + 3) L) (i4 : vp_in (v4 + 4) L) : wL_law_1598 post px L xs J G v1 v2 v3 v4 kc ks := by
  obtain ⟨Gc, Gm, σ, ad, am, k, h2, hR, hM, hI, rfl, rfl, rfl⟩ := h
  have hB := hR.1
  exact ⟨i1, by omega, by omega, Gc, Gm, h2, l_credit hR (fun ad' G4 h0 h10 h' hd G8 e8 => ⟨i1, by omega, by omega, Gm, G4, two_sw hd e8, _, hM.a0, r_credit hM hB (fun G13 hM' hd2 G19 e19 => ⟨by omega, by omega, t_fin (r := opCredit σ _) rfl h' h10 hM' (Nat.lt_of_le_of_lt b_credit (by decide)) hd2 e19 (fun G30 h30 => hJ G30 _ _ ⟨G4, G13, _, ad', am, _, h30, h', oM_W (r := opCredit σ _) hM', oInv_W (r := opCredit σ _) (i_credit hI), h0, rfl, h10⟩ (by omega) (by omega))⟩)⟩)⟩
theorem g_22 (hJ : ∀ G' kc' ks', lJ G' v1 v2 v3 (t + 1) → kc' ≤ kc + 12 → ks' ≤ ks + 58 → J G' v1 v2 v3 (v4 + 5) kc' ks') (h : lJ G v1 v2 v3 t) (ht : t ≤ 1000) (hkc : kc + 12 ≤ 601024) (hks : ks + 58 ≤ 7293034) (i1 : vp_in (v4 + 1) L) (i2 : vp_in (v4 + 2) L) (i3 : vp_in (v4 + 3) L) (i4 : vp_in (v4 + 4) L) : wL_law_1653 post px L xs J G v1 v2 v3 v4 kc ks := by
  obtain ⟨Gc, Gm, σ, ad, am, k, h2, hR, hM, hI, rfl, rfl, rfl⟩ := h
  have hB := hR.1
  exact ⟨i1, by omega, by omega, Gc, Gm, h2, _, hR.led, c_count hR (fun hd G8 e8 => ⟨i1, by omega, by omega, Gm, Gc, two_sw hd e8, _, hM.a0, r_count hM hB (fun G13 hM' hd2 G19 e19 => ⟨fun _ => hJ G19 _ _ ⟨Gc, G13, σ, ad, am, 0, two_sw hd2 e19, hR, hM', hI.up, rfl, rfl, rfl⟩ (by omega) (by omega), fun z => absurd rfl z⟩)⟩)⟩
end L38
