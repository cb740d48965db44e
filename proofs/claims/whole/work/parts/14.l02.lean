def wL_law_575 (post : Int32 → gh_H → Prop) (px : String → gh_H → Prop) (L : Nat) (xs : Nat → Int32) (J23 : gh_H → Nat → Nat → Nat → Int32 → Nat → Nat → Prop) (G : gh_H) (v1 : Nat) (v2 : Nat) (v3 : Nat) (v4 : Int32) (v5 : Int32) (s0 : Nat) (s1 : Int32) (s2 : Int32) (s3 : Int32) (kc : Nat) (ks : Nat) : Prop := kc + 0 ≤ 601024 ∧ ks + 0 ≤ 7293034 ∧ (∃ G7 F8 : gh_H, gh_two G G7 F8 ∧ ∃ fs5 : List Value, G7 s0 = some (.inr (5, fs5)) ∧ wX5_breaks (fun G4 => (∀ a9, G4 a9 ≠ none → F8 a9 = none) → ∀ G10 : gh_H, G10 = gh_j G4 F8 → (kc + 0) + 0 ≤ 601024 ∧ (ks + 0) + 0 ≤ 7293034 ∧ (∃ G18 F19 : gh_H, gh_two G10 G18 F19 ∧ ∃ fs16 : List Value, G18 v2 = some (.inr (5, fs16)) ∧ wX5_thrown (fun r14 G15 => (∀ a9, G15 a9 ≠ none → F19 a9 = none) → ∀ G21 : gh_H, G21 = gh_j G15 F19 → (r14 = v5 → (J23 G21 v1 v2 v3 (v4 + 5) ((kc + 0) + 0) ((ks + 0) + 0))) ∧ (¬ r14 = v5 → (((kc + 0) + 0) ≤ 601024 ∧ ((ks + 0) + 0) ≤ 7293034 ∧ (0 = (1 : Int32))))) (fun _ _ => False) G18 v2)) (fun _ _ => False) G7 s0 s1 s2 s3)
set_option maxRecDepth 100000 in
set_option maxHeartbeats 4000000 in
theorem lL_law_575 {p : Program} {l : Launch} {e : Env} {s : State} {m : MethodId} {below : List Frame} {meth : Method} {c : Code} {D : va_G} {AC : Nat → ClassId} {sa : gh_SA} {b L : Nat} {xs : Nat → Int32} {A : Nat → Prop} (hl0 : l.stackTraces = false) (CX : cxL p s m meth c D AC sa b L xs A) (post : Int32 → gh_H → Prop) (px : String → gh_H → Prop) (J23 : gh_H → Nat → Nat → Nat → Int32 → Nat → Nat → Prop) (hJ23 : ∀ (G : gh_H) (v1 : Nat) (v2 : Nat) (v3 : Nat) (v4 : Int32) (kc : Nat) (ks : Nat) (H : Heap) (locs : List Loc), J23 G v1 v2 v3 v4 kc ks → gh_h D vwCl AC A G H → va_S A s.heap H locs → ∀ ls : Array Slot, lv_has ls 8 [(0, .ref b), (1, .ref v1), (2, .ref v2), (3, .ref v3), (4, .int v4)] → W p l e room_1 s m #[Value.ref b] below meth c H locs kc ks (lw_Z below #[Value.ref b] s) (F0 m 23 ls [])) : ∀ (G : gh_H) (v1 : Nat) (v2 : Nat) (v3 : Nat) (v4 : Int32) (v5 : Int32) (s0 : Nat) (s1 : Int32) (s2 : Int32) (s3 : Int32) (kc : Nat) (ks : Nat) (H : Heap) (locs : List Loc), wL_law_575 post px L xs J23 G v1 v2 v3 v4 v5 s0 s1 s2 s3 kc ks → gh_h D vwCl AC A G H → va_S A s.heap H locs → ∀ ls : Array Slot, lv_has ls 8 [(0, .ref b), (1, .ref v1), (2, .ref v2), (3, .ref v3), (4, .int v4), (5, .int v5)] → W p l e room_1 s m #[Value.ref b] below meth c H locs kc ks (lw_Z below #[Value.ref b] s) (F0 m 575 ls [.int s3, .int s2, .int s1, .ref s0]) := by
  obtain ⟨⟨hx, hb, hml, hown, hts⟩, hr, hlocks, hK, hE, hA, hX, hbl, hbA, hAl⟩ := id CX
  intro G v1 v2 v3 v4 v5 s0 s1 s2 s3 kc ks H locs hw hP hS ls hl
  dsimp only [wL_law_575] at hw
  obtain ⟨hc1, hs2, hw⟩ := hw
  obtain ⟨G7, F8, ht9, hw⟩ := hw
  obtain ⟨fs5, he6, hw⟩ := hw
  refine gh_fxv ht9 hP hS hA (vx_runV (C := "OwnerLedgerModel") (As := [.int s1, .int s2, .int s3]) (rest := []) ⟨hx, hb, hml, hown, hts⟩ (mX5_breaks l hl0 D AC sa _ _ _ _ _ _ _ _ hw) (cwV 3 hts (gV kw_441 kw_442 kw_443 kw_2 kw_444) rfl rfl rfl (by decide +kernel) ⟨Nat.le_of_ble_eq_true rfl, Nat.le_of_ble_eq_true rfl⟩) (gh_preV gh_En_ok hK hE (hP.sub (gh_twoL ht9)) hS hA he6 rfl _) rfl rfl hl.1 rfl (lv_room (Nat.le_of_ble_eq_true rfl)) dL_law_575 ⟨hc1, hs2⟩) (fun G4 H locs hw2 hP hd11 hS => ?_)
  replace hw := hw2
  clear hw2
  obtain ⟨G10, eG10⟩ : ∃ z : gh_H, z = gh_j G4 F8 := ⟨_, rfl⟩
  rw [← eG10] at hP
  replace hw := hw hd11 G10 eG10
  refine lv_aload_n hx hb dL_law_578 rfl (lv_at hl 2 rfl) ?_
  obtain ⟨hc12, hs13, hw⟩ := hw
  obtain ⟨G18, F19, ht20, hw⟩ := hw
  obtain ⟨fs16, he17, hw⟩ := hw
  refine gh_fxi ht20 hP hS hA (vx_runV (C := "OwnerLedgerModel") (As := []) (rest := []) ⟨hx, hb, hml, hown, hts⟩ (mX5_thrown l hl0 D AC sa _ _ _ _ _ hw) (cwV 0 hts (gV kw_398 kw_399 kw_400 kw_2 kw_401) rfl rfl rfl (by decide +kernel) ⟨Nat.le_of_ble_eq_true rfl, Nat.le_of_ble_eq_true rfl⟩) (gh_preV gh_En_ok hK hE (hP.sub (gh_twoL ht20)) hS hA he17 rfl _) rfl rfl hl.1 rfl (lv_room (Nat.le_of_ble_eq_true rfl)) dL_law_579 ⟨hc12, hs13⟩) (fun r14 G15 H locs hw2 hP hd22 hS => ?_)
  replace hw := hw2
  clear hw2
  obtain ⟨G21, eG21⟩ : ∃ z : gh_H, z = gh_j G15 F19 := ⟨_, rfl⟩
  rw [← eG21] at hP
  replace hw := hw hd22 G21 eG21
  refine lv_iload hx hb dL_law_582 (lv_at hl 5 rfl) ?_
  refine lv_icmp_eq (tgt := 589) hx hb dL_law_584 (by decide) (fun c23 => ?_) (fun c23 => ?_)
  · replace hw := hw.1 c23
    refine lv_goto (tgt := 1678) hx hb dL_law_589 (by decide) ?_
    refine lv_iinc (v := (v4 + 5)) (lv' := [(4, .int (v4 + 5)), (0, .ref b), (1, .ref v1), (2, .ref v2), (3, .ref v3), (5, .int v5)]) hx hb dL_law_1678 hl (k := 4) rfl rfl (by decide) rfl (fun ls hl => ?_)
    refine lv_goto (tgt := 23) hx hb dL_law_1681 (by decide) ?_
    have hl := lv_sub (l' := [(0, .ref b), (1, .ref v1), (2, .ref v2), (3, .ref v3), (4, .int (v4 + 5))]) hl [1, 2, 3, 4, 0] rfl
    exact hJ23 _ v1 v2 v3 (v4 + 5) ((kc + 0) + 0) ((ks + 0) + 0) _ _ hw hP hS ls hl
  · replace hw := hw.2 c23
    refine lv_iconst (v := 0) hx hb dL_law_587 (by decide) ?_
    obtain ⟨hc24, hs25, hw⟩ := hw
    exact gh_lawret hx hb hr hlocks hw hS hAl hc24 hs25 dL_law_588
def wL_law_543 (post : Int32 → gh_H → Prop) (px : String → gh_H → Prop) (L : Nat) (xs : Nat → Int32) (J23 : gh_H → Nat → Nat → Nat → Int32 → Nat → Nat → Prop) (G : gh_H) (v1 : Nat) (v2 : Nat) (v3 : Nat) (v4 : Int32) (s0 : Nat) (s1 : Int32) (s2 : Int32) (s3 : Int32) (kc : Nat) (ks : Nat) : Prop := kc + 3 ≤ 601024 ∧ ks + 18 ≤ 7293034 ∧ (∃ G5 F6 : gh_H, gh_two G G5 F6 ∧ wL_breaks (fun r3 G4 => (∀ a9, G4 a9 ≠ none → F6 a9 = none) → ∀ G8 : gh_H, G8 = gh_j G4 F6 → vp_in (v4 + 1) L ∧ (vp_in (v4 + 2) L ∧ (vp_in (v4 + 3) L ∧ (((xs (Int32.toNatClampNeg (v4 + 3))) = 0 → (wL_law_575 post px L xs J23 G8 v1 v2 v3 v4 r3 v2 (xs (Int32.toNatClampNeg (v4 + 1))) (xs (Int32.toNatClampNeg (v4 + 2))) 0 (kc + 3) (ks + 18))) ∧ (¬ (xs (Int32.toNatClampNeg (v4 + 3))) = 0 → (wL_law_575 post px L xs J23 G8 v1 v2 v3 v4 r3 v2 (xs (Int32.toNatClampNeg (v4 + 1))) (xs (Int32.toNatClampNeg (v4 + 2))) 1 (kc + 3) (ks + 18))))))) (fun _ _ => False) G5 s0 s1 s2 s3)
set_option maxRecDepth 100000 in
set_option maxHeartbeats 4000000 in
theorem lL_law_543 {p : Program} {l : Launch} {e : Env} {s : State} {m : MethodId} {below : List Frame} {meth : Method} {c : Code} {D : va_G} {AC : Nat → ClassId} {sa : gh_SA} {b L : Nat} {xs : Nat → Int32} {A : Nat → Prop} (hl0 : l.stackTraces = false) (CX : cxL p s m meth c D AC sa b L xs A) (post : Int32 → gh_H → Prop) (px : String → gh_H → Prop) (J23 : gh_H → Nat → Nat → Nat → Int32 → Nat → Nat → Prop) (hJ23 : ∀ (G : gh_H) (v1 : Nat) (v2 : Nat) (v3 : Nat) (v4 : Int32) (kc : Nat) (ks : Nat) (H : Heap) (locs : List Loc), J23 G v1 v2 v3 v4 kc ks → gh_h D vwCl AC A G H → va_S A s.heap H locs → ∀ ls : Array Slot, lv_has ls 8 [(0, .ref b), (1, .ref v1), (2, .ref v2), (3, .ref v3), (4, .int v4)] → W p l e room_1 s m #[Value.ref b] below meth c H locs kc ks (lw_Z below #[Value.ref b] s) (F0 m 23 ls [])) : ∀ (G : gh_H) (v1 : Nat) (v2 : Nat) (v3 : Nat) (v4 : Int32) (s0 : Nat) (s1 : Int32) (s2 : Int32) (s3 : Int32) (kc : Nat) (ks : Nat) (H : Heap) (locs : List Loc), wL_law_543 post px L xs J23 G v1 v2 v3 v4 s0 s1 s2 s3 kc ks → gh_h D vwCl AC A G H → va_S A s.heap H locs → ∀ ls : Array Slot, lv_has ls 8 [(0, .ref b), (1, .ref v1), (2, .ref v2), (3, .ref v3), (4, .int v4)] → W p l e room_1 s m #[Value.ref b] below meth c H locs kc ks (lw_Z below #[Value.ref b] s) (F0 m 543 ls [.int s3, .int s2, .int s1, .ref s0]) := by
  obtain ⟨⟨hx, hb, hml, hown, hts⟩, hr, hlocks, hK, hE, hA, hX, hbl, hbA, hAl⟩ := id CX
  intro G v1 v2 v3 v4 s0 s1 s2 s3 kc ks H locs hw hP hS ls hl
  dsimp only [wL_law_543] at hw
  obtain ⟨hc1, hs2, hw⟩ := hw
  obtain ⟨G5, F6, ht7, hw⟩ := hw
  refine gh_fxi ht7 hP hS hA (vx_runSX (As := [.ref s0, .int s1, .int s2, .int s3]) (rest := []) ⟨hx, hb, hml, hown, hts⟩ (mL_breaks l hl0 D AC sa _ _ _ _ _ _ _ _ hw) (vx_cwSW 4 hts (gS kw_180 kw_181 kw_0 kw_182) rfl rfl rfl (by decide +kernel) ⟨Nat.le_of_ble_eq_true rfl, Nat.le_of_ble_eq_true rfl⟩) (gh_pre gh_En_ok hK hE (hP.sub (gh_twoL ht7)) hS hA _) rfl rfl hl.1 rfl (lv_room (Nat.le_of_ble_eq_true rfl)) dL_law_543 ⟨hc1, hs2⟩) (fun r3 G4 H locs hw2 hP hd9 hS => ?_)
  replace hw := hw2
  clear hw2
  obtain ⟨G8, eG8⟩ : ∃ z : gh_H, z = gh_j G4 F6 := ⟨_, rfl⟩
  rw [← eG8] at hP
  replace hw := hw hd9 G8 eG8
  refine lv_istore (lv' := [(5, .int r3), (0, .ref b), (1, .ref v1), (2, .ref v2), (3, .ref v3), (4, .int v4)]) hx hb dL_law_546 hl (by decide) rfl (fun ls hl => ?_)
  refine lv_aload_n hx hb dL_law_548 rfl (lv_at hl 3 rfl) ?_
  refine lv_aload_n hx hb dL_law_549 rfl (lv_at hl 1 rfl) ?_
  refine lv_iload hx hb dL_law_550 (lv_at hl 5 rfl) ?_
  refine lv_iconst (v := 1) hx hb dL_law_552 (by decide) ?_
  refine lv_iadd hx hb dL_law_553 ?_
  obtain ⟨hi10, hw⟩ := hw
  refine va_sld hx hb hX hbl hbA hS hi10 dL_law_554 ?_
  refine lv_aload_n hx hb dL_law_555 rfl (lv_at hl 1 rfl) ?_
  refine lv_iload hx hb dL_law_556 (lv_at hl 5 rfl) ?_
  refine lv_iconst (v := 2) hx hb dL_law_558 (by decide) ?_
  refine lv_iadd hx hb dL_law_559 ?_
  obtain ⟨hi11, hw⟩ := hw
  refine va_sld hx hb hX hbl hbA hS hi11 dL_law_560 ?_
  refine lv_aload_n hx hb dL_law_561 rfl (lv_at hl 1 rfl) ?_
  refine lv_iload hx hb dL_law_562 (lv_at hl 5 rfl) ?_
  refine lv_iconst (v := 3) hx hb dL_law_564 (by decide) ?_
  refine lv_iadd hx hb dL_law_565 ?_
  obtain ⟨hi12, hw⟩ := hw
  refine va_sld hx hb hX hbl hbA hS hi12 dL_law_566 ?_
  refine lv_if_eq (tgt := 574) hx hb dL_law_567 (by decide) (fun c13 => ?_) (fun c13 => ?_)
  · replace hw := hw.1 c13
    refine lv_iconst (v := 0) hx hb dL_law_574 (by decide) ?_
    have hl := lv_sub (l' := [(0, .ref b), (1, .ref v1), (2, .ref v2), (3, .ref v3), (4, .int v4), (5, .int r3)]) hl [1, 2, 3, 4, 5, 0] rfl
    exact lL_law_575 hl0 CX post px J23 hJ23 _ v1 v2 v3 v4 r3 v2 (xs (Int32.toNatClampNeg (v4 + 1))) (xs (Int32.toNatClampNeg (v4 + 2))) 0 (kc + 3) (ks + 18) _ _ hw hP hS ls hl
  · replace hw := hw.2 c13
    refine lv_iconst (v := 1) hx hb dL_law_570 (by decide) ?_
    refine lv_goto (tgt := 575) hx hb dL_law_571 (by decide) ?_
    have hl := lv_sub (l' := [(0, .ref b), (1, .ref v1), (2, .ref v2), (3, .ref v3), (4, .int v4), (5, .int r3)]) hl [1, 2, 3, 4, 5, 0] rfl
    exact lL_law_575 hl0 CX post px J23 hJ23 _ v1 v2 v3 v4 r3 v2 (xs (Int32.toNatClampNeg (v4 + 1))) (xs (Int32.toNatClampNeg (v4 + 2))) 1 (kc + 3) (ks + 18) _ _ hw hP hS ls hl
def wL_law_516 (post : Int32 → gh_H → Prop) (px : String → gh_H → Prop) (L : Nat) (xs : Nat → Int32) (J23 : gh_H → Nat → Nat → Nat → Int32 → Nat → Nat → Prop) (G : gh_H) (v1 : Nat) (v2 : Nat) (v3 : Nat) (v4 : Int32) (kc : Nat) (ks : Nat) : Prop := vp_in (v4 + 1) L ∧ (vp_in (v4 + 2) L ∧ (vp_in (v4 + 3) L ∧ (((xs (Int32.toNatClampNeg (v4 + 3))) = 0 → (wL_law_543 post px L xs J23 G v1 v2 v3 v4 v1 (xs (Int32.toNatClampNeg (v4 + 1))) (xs (Int32.toNatClampNeg (v4 + 2))) 0 kc ks)) ∧ (¬ (xs (Int32.toNatClampNeg (v4 + 3))) = 0 → (wL_law_543 post px L xs J23 G v1 v2 v3 v4 v1 (xs (Int32.toNatClampNeg (v4 + 1))) (xs (Int32.toNatClampNeg (v4 + 2))) 1 kc ks)))))
set_option maxRecDepth 100000 in
set_option maxHeartbeats 4000000 in
theorem lL_law_516 {p : Program} {l : Launch} {e : Env} {s : State} {m : MethodId} {below : List Frame} {meth : Method} {c : Code} {D : va_G} {AC : Nat → ClassId} {sa : gh_SA} {b L : Nat} {xs : Nat → Int32} {A : Nat → Prop} (hl0 : l.stackTraces = false) (CX : cxL p s m meth c D AC sa b L xs A) (post : Int32 → gh_H → Prop) (px : String → gh_H → Prop) (J23 : gh_H → Nat → Nat → Nat → Int32 → Nat → Nat → Prop) (hJ23 : ∀ (G : gh_H) (v1 : Nat) (v2 : Nat) (v3 : Nat) (v4 : Int32) (kc : Nat) (ks : Nat) (H : Heap) (locs : List Loc), J23 G v1 v2 v3 v4 kc ks → gh_h D vwCl AC A G H → va_S A s.heap H locs → ∀ ls : Array Slot, lv_has ls 8 [(0, .ref b), (1, .ref v1), (2, .ref v2), (3, .ref v3), (4, .int v4)] → W p l e room_1 s m #[Value.ref b] below meth c H locs kc ks (lw_Z below #[Value.ref b] s) (F0 m 23 ls [])) : ∀ (G : gh_H) (v1 : Nat) (v2 : Nat) (v3 : Nat) (v4 : Int32) (kc : Nat) (ks : Nat) (H : Heap) (locs : List Loc), wL_law_516 post px L xs J23 G v1 v2 v3 v4 kc ks → gh_h D vwCl AC A G H → va_S A s.heap H locs → ∀ ls : Array Slot, lv_has ls 8 [(0, .ref b), (1, .ref v1), (2, .ref v2), (3, .ref v3), (4, .int v4)] → W p l e room_1 s m #[Value.ref b] below meth c H locs kc ks (lw_Z below #[Value.ref b] s) (F0 m 516 ls []) := by
  obtain ⟨⟨hx, hb, hml, hown, hts⟩, hr, hlocks, hK, hE, hA, hX, hbl, hbA, hAl⟩ := id CX
  intro G v1 v2 v3 v4 kc ks H locs hw hP hS ls hl
  dsimp only [wL_law_516] at hw
  refine lv_aload_n hx hb dL_law_516 rfl (lv_at hl 1 rfl) ?_
  refine lv_aload_n hx hb dL_law_517 rfl (lv_at hl 0 rfl) ?_
  refine lv_iload hx hb dL_law_518 (lv_at hl 4 rfl) ?_
  refine lv_iconst (v := 1) hx hb dL_law_520 (by decide) ?_
  refine lv_iadd hx hb dL_law_521 ?_
  obtain ⟨hi1, hw⟩ := hw
  refine va_sld hx hb hX hbl hbA hS hi1 dL_law_522 ?_
  refine lv_aload_n hx hb dL_law_523 rfl (lv_at hl 0 rfl) ?_
  refine lv_iload hx hb dL_law_524 (lv_at hl 4 rfl) ?_
  refine lv_iconst (v := 2) hx hb dL_law_526 (by decide) ?_
  refine lv_iadd hx hb dL_law_527 ?_
  obtain ⟨hi2, hw⟩ := hw
  refine va_sld hx hb hX hbl hbA hS hi2 dL_law_528 ?_
  refine lv_aload_n hx hb dL_law_529 rfl (lv_at hl 0 rfl) ?_
  refine lv_iload hx hb dL_law_530 (lv_at hl 4 rfl) ?_
  refine lv_iconst (v := 3) hx hb dL_law_532 (by decide) ?_
  refine lv_iadd hx hb dL_law_533 ?_
  obtain ⟨hi3, hw⟩ := hw
  refine va_sld hx hb hX hbl hbA hS hi3 dL_law_534 ?_
  refine lv_if_eq (tgt := 542) hx hb dL_law_535 (by decide) (fun c4 => ?_) (fun c4 => ?_)
  · replace hw := hw.1 c4
    refine lv_iconst (v := 0) hx hb dL_law_542 (by decide) ?_
    have hl := lv_sub (l' := [(0, .ref b), (1, .ref v1), (2, .ref v2), (3, .ref v3), (4, .int v4)]) hl [0, 1, 2, 3, 4] rfl
    exact lL_law_543 hl0 CX post px J23 hJ23 _ v1 v2 v3 v4 v1 (xs (Int32.toNatClampNeg (v4 + 1))) (xs (Int32.toNatClampNeg (v4 + 2))) 0 kc ks _ _ hw hP hS ls hl
  · replace hw := hw.2 c4
    refine lv_iconst (v := 1) hx hb dL_law_538 (by decide) ?_
    refine lv_goto (tgt := 543) hx hb dL_law_539 (by decide) ?_
    have hl := lv_sub (l' := [(0, .ref b), (1, .ref v1), (2, .ref v2), (3, .ref v3), (4, .int v4)]) hl [0, 1, 2, 3, 4] rfl
    exact lL_law_543 hl0 CX post px J23 hJ23 _ v1 v2 v3 v4 v1 (xs (Int32.toNatClampNeg (v4 + 1))) (xs (Int32.toNatClampNeg (v4 + 2))) 1 kc ks _ _ hw hP hS ls hl
def wL_law_592 (post : Int32 → gh_H → Prop) (px : String → gh_H → Prop) (L : Nat) (xs : Nat → Int32) (J23 : gh_H → Nat → Nat → Nat → Int32 → Nat → Nat → Prop) (G : gh_H) (v1 : Nat) (v2 : Nat) (v3 : Nat) (v4 : Int32) (kc : Nat) (ks : Nat) : Prop := vp_in (v4 + 1) L ∧ (kc + 3 ≤ 601024 ∧ ks + 18 ≤ 7293034 ∧ (∃ G6 F7 : gh_H, gh_two G G6 F7 ∧ wL_post (fun r4 G5 => (∀ a9, G5 a9 ≠ none → F7 a9 = none) → ∀ G9 : gh_H, G9 = gh_j G5 F7 → vp_in (v4 + 1) L ∧ ((kc + 3) + 0 ≤ 601024 ∧ (ks + 18) + 0 ≤ 7293034 ∧ (∃ G18 F19 : gh_H, gh_two G9 G18 F19 ∧ ∃ fs16 : List Value, G18 v2 = some (.inr (5, fs16)) ∧ wX5_post (fun r14 G15 => (∀ a9, G15 a9 ≠ none → F19 a9 = none) → ∀ G21 : gh_H, G21 = gh_j G15 F19 → ((kc + 3) + 0) + 0 ≤ 601024 ∧ ((ks + 18) + 0) + 0 ≤ 7293034 ∧ (∃ G29 F30 : gh_H, gh_two G21 G29 F30 ∧ ∃ fs27 : List Value, G29 v2 = some (.inr (5, fs27)) ∧ wX5_thrown (fun r25 G26 => (∀ a9, G26 a9 ≠ none → F30 a9 = none) → ∀ G32 : gh_H, G32 = gh_j G26 F30 → (r25 = r4 → ((¬ r4 = 0 → (J23 G32 v1 v2 v3 (v4 + 5) (((kc + 3) + 0) + 0) (((ks + 18) + 0) + 0))) ∧ (r4 = 0 → (∃ (n36 : Nat) (f37 : Nat → Int64), G32 v3 = some (.inl (1, n36, .inr (.inl f37))) ∧ vp_in 0 n36 ∧ (((lg_cmp (f37 (Int32.toNatClampNeg 0)) (Int32.toInt64 r14)) = 0 → (J23 G32 v1 v2 v3 (v4 + 5) (((kc + 3) + 0) + 0) (((ks + 18) + 0) + 0))) ∧ (¬ (lg_cmp (f37 (Int32.toNatClampNeg 0)) (Int32.toInt64 r14)) = 0 → ((((kc + 3) + 0) + 0) ≤ 601024 ∧ (((ks + 18) + 0) + 0) ≤ 7293034 ∧ (0 = (1 : Int32))))))))) ∧ (¬ r25 = r4 → ((((kc + 3) + 0) + 0) ≤ 601024 ∧ (((ks + 18) + 0) + 0) ≤ 7293034 ∧ (0 = (1 : Int32))))) (fun _ _ => False) G29 v2)) (fun _ _ => False) G18 v2 (xs (Int32.toNatClampNeg (v4 + 1)))))) (fun _ _ => False) G6 v1 (xs (Int32.toNatClampNeg (v4 + 1))) v3))
set_option maxRecDepth 100000 in
set_option maxHeartbeats 4000000 in
theorem lL_law_592 {p : Program} {l : Launch} {e : Env} {s : State} {m : MethodId} {below : List Frame} {meth : Method} {c : Code} {D : va_G} {AC : Nat → ClassId} {sa : gh_SA} {b L : Nat} {xs : Nat → Int32} {A : Nat → Prop} (hl0 : l.stackTraces = false) (CX : cxL p s m meth c D AC sa b L xs A) (post : Int32 → gh_H → Prop) (px : String → gh_H → Prop) (J23 : gh_H → Nat → Nat → Nat → Int32 → Nat → Nat → Prop) (hJ23 : ∀ (G : gh_H) (v1 : Nat) (v2 : Nat) (v3 : Nat) (v4 : Int32) (kc : Nat) (ks : Nat) (H : Heap) (locs : List Loc), J23 G v1 v2 v3 v4 kc ks → gh_h D vwCl AC A G H → va_S A s.heap H locs → ∀ ls : Array Slot, lv_has ls 8 [(0, .ref b), (1, .ref v1), (2, .ref v2), (3, .ref v3), (4, .int v4)] → W p l e room_1 s m #[Value.ref b] below meth c H locs kc ks (lw_Z below #[Value.ref b] s) (F0 m 23 ls [])) : ∀ (G : gh_H) (v1 : Nat) (v2 : Nat) (v3 : Nat) (v4 : Int32) (kc : Nat) (ks : Nat) (H : Heap) (locs : List Loc), wL_law_592 post px L xs J23 G v1 v2 v3 v4 kc ks → gh_h D vwCl AC A G H → va_S A s.heap H locs → ∀ ls : Array Slot, lv_has ls 8 [(0, .ref b), (1, .ref v1), (2, .ref v2), (3, .ref v3), (4, .int v4)] → W p l e room_1 s m #[Value.ref b] below meth c H locs kc ks (lw_Z below #[Value.ref b] s) (F0 m 592 ls []) := by
  obtain ⟨⟨hx, hb, hml, hown, hts⟩, hr, hlocks, hK, hE, hA, hX, hbl, hbA, hAl⟩ := id CX
  intro G v1 v2 v3 v4 kc ks H locs hw hP hS ls hl
  dsimp only [wL_law_592] at hw
  refine lv_aload_n hx hb dL_law_592 rfl (lv_at hl 1 rfl) ?_
  refine lv_aload_n hx hb dL_law_593 rfl (lv_at hl 0 rfl) ?_
  refine lv_iload hx hb dL_law_594 (lv_at hl 4 rfl) ?_
  refine lv_iconst (v := 1) hx hb dL_law_596 (by decide) ?_
  refine lv_iadd hx hb dL_law_597 ?_
  obtain ⟨hi1, hw⟩ := hw
  refine va_sld hx hb hX hbl hbA hS hi1 dL_law_598 ?_
  refine lv_aload_n hx hb dL_law_599 rfl (lv_at hl 3 rfl) ?_
  obtain ⟨hc2, hs3, hw⟩ := hw
  obtain ⟨G6, F7, ht8, hw⟩ := hw
  refine gh_fxi ht8 hP hS hA (vx_runSX (As := [.ref v1, .int (xs (Int32.toNatClampNeg (v4 + 1))), .ref v3]) (rest := []) ⟨hx, hb, hml, hown, hts⟩ (mL_post l hl0 D AC sa _ _ _ _ _ _ _ hw) (vx_cwSW 3 hts (gS kw_190 kw_191 kw_0 kw_192) rfl rfl rfl (by decide +kernel) ⟨Nat.le_of_ble_eq_true rfl, Nat.le_of_ble_eq_true rfl⟩) (gh_pre gh_En_ok hK hE (hP.sub (gh_twoL ht8)) hS hA _) rfl rfl hl.1 rfl (lv_room (Nat.le_of_ble_eq_true rfl)) dL_law_600 ⟨hc2, hs3⟩) (fun r4 G5 H locs hw2 hP hd10 hS => ?_)
  replace hw := hw2
  clear hw2
  obtain ⟨G9, eG9⟩ : ∃ z : gh_H, z = gh_j G5 F7 := ⟨_, rfl⟩
  rw [← eG9] at hP
  replace hw := hw hd10 G9 eG9
  refine lv_istore (lv' := [(5, .int r4), (0, .ref b), (1, .ref v1), (2, .ref v2), (3, .ref v3), (4, .int v4)]) hx hb dL_law_603 hl (by decide) rfl (fun ls hl => ?_)
  refine lv_aload_n hx hb dL_law_605 rfl (lv_at hl 3 rfl) ?_
  refine lv_aload_n hx hb dL_law_606 rfl (lv_at hl 1 rfl) ?_
  refine lv_iload hx hb dL_law_607 (lv_at hl 5 rfl) ?_
  refine lv_iconst (v := 1) hx hb dL_law_609 (by decide) ?_
  refine lv_iadd hx hb dL_law_610 ?_
  obtain ⟨hi11, hw⟩ := hw
  refine va_sld hx hb hX hbl hbA hS hi11 dL_law_611 ?_
  obtain ⟨hc12, hs13, hw⟩ := hw
  obtain ⟨G18, F19, ht20, hw⟩ := hw
  obtain ⟨fs16, he17, hw⟩ := hw
  refine gh_fxi ht20 hP hS hA (vx_runV (C := "OwnerLedgerModel") (As := [.int (xs (Int32.toNatClampNeg (v4 + 1)))]) (rest := []) ⟨hx, hb, hml, hown, hts⟩ (mX5_post l hl0 D AC sa _ _ _ _ _ _ hw) (cwV 1 hts (gV kw_445 kw_446 kw_447 kw_2 kw_448) rfl rfl rfl (by decide +kernel) ⟨Nat.le_of_ble_eq_true rfl, Nat.le_of_ble_eq_true rfl⟩) (gh_preV gh_En_ok hK hE (hP.sub (gh_twoL ht20)) hS hA he17 rfl _) rfl rfl hl.1 rfl (lv_room (Nat.le_of_ble_eq_true rfl)) dL_law_612 ⟨hc12, hs13⟩) (fun r14 G15 H locs hw2 hP hd22 hS => ?_)
  replace hw := hw2
  clear hw2
  obtain ⟨G21, eG21⟩ : ∃ z : gh_H, z = gh_j G15 F19 := ⟨_, rfl⟩
  rw [← eG21] at hP
  replace hw := hw hd22 G21 eG21
  refine lv_istore (lv' := [(6, .int r14), (5, .int r4), (0, .ref b), (1, .ref v1), (2, .ref v2), (3, .ref v3), (4, .int v4)]) hx hb dL_law_615 hl (by decide) rfl (fun ls hl => ?_)
  refine lv_aload_n hx hb dL_law_617 rfl (lv_at hl 4 rfl) ?_
  obtain ⟨hc23, hs24, hw⟩ := hw
  obtain ⟨G29, F30, ht31, hw⟩ := hw
  obtain ⟨fs27, he28, hw⟩ := hw
  refine gh_fxi ht31 hP hS hA (vx_runV (C := "OwnerLedgerModel") (As := []) (rest := []) ⟨hx, hb, hml, hown, hts⟩ (mX5_thrown l hl0 D AC sa _ _ _ _ _ hw) (cwV 0 hts (gV kw_398 kw_399 kw_400 kw_2 kw_401) rfl rfl rfl (by decide +kernel) ⟨Nat.le_of_ble_eq_true rfl, Nat.le_of_ble_eq_true rfl⟩) (gh_preV gh_En_ok hK hE (hP.sub (gh_twoL ht31)) hS hA he28 rfl _) rfl rfl hl.1 rfl (lv_room (Nat.le_of_ble_eq_true rfl)) dL_law_618 ⟨hc23, hs24⟩) (fun r25 G26 H locs hw2 hP hd33 hS => ?_)
  replace hw := hw2
  clear hw2
  obtain ⟨G32, eG32⟩ : ∃ z : gh_H, z = gh_j G26 F30 := ⟨_, rfl⟩
  rw [← eG32] at hP
  replace hw := hw hd33 G32 eG32
  refine lv_iload hx hb dL_law_621 (lv_at hl 1 rfl) ?_
  refine lv_icmp_eq (tgt := 628) hx hb dL_law_623 (by decide) (fun c34 => ?_) (fun c34 => ?_)
  · replace hw := hw.1 c34
    refine lv_iload hx hb dL_law_628 (lv_at hl 1 rfl) ?_
    refine lv_if_ne (tgt := 645) hx hb dL_law_630 (by decide) (fun c35 => ?_) (fun c35 => ?_)
    · replace hw := hw.1 c35
      refine lv_goto (tgt := 1678) hx hb dL_law_645 (by decide) ?_
      refine lv_iinc (v := (v4 + 5)) (lv' := [(4, .int (v4 + 5)), (6, .int r14), (5, .int r4), (0, .ref b), (1, .ref v1), (2, .ref v2), (3, .ref v3)]) hx hb dL_law_1678 hl (k := 6) rfl rfl (by decide) rfl (fun ls hl => ?_)
      refine lv_goto (tgt := 23) hx hb dL_law_1681 (by decide) ?_
      have hl := lv_sub (l' := [(0, .ref b), (1, .ref v1), (2, .ref v2), (3, .ref v3), (4, .int (v4 + 5))]) hl [3, 4, 5, 6, 0] rfl
      exact hJ23 _ v1 v2 v3 (v4 + 5) (((kc + 3) + 0) + 0) (((ks + 18) + 0) + 0) _ _ hw hP hS ls hl
    · replace hw := hw.2 c35
      refine lv_aload_n hx hb dL_law_633 rfl (lv_at hl 5 rfl) ?_
      refine lv_iconst (v := 0) hx hb dL_law_634 (by decide) ?_
      obtain ⟨n36, f37, he38, hi39, hw⟩ := hw
      refine gh_lald hx hb hK hP he38 rfl hi39 dL_law_635 ?_
      refine lv_iload hx hb dL_law_636 (lv_at hl 0 rfl) ?_
      refine lv_i2l hx hb dL_law_638 rfl ?_
      refine W.lcmp hx hb dL_law_639 ?_
      refine lv_if_eq (tgt := 645) hx hb dL_law_640 (by decide) (fun c40 => ?_) (fun c40 => ?_)
      · replace hw := hw.1 c40
        refine lv_goto (tgt := 1678) hx hb dL_law_645 (by decide) ?_
        refine lv_iinc (v := (v4 + 5)) (lv' := [(4, .int (v4 + 5)), (6, .int r14), (5, .int r4), (0, .ref b), (1, .ref v1), (2, .ref v2), (3, .ref v3)]) hx hb dL_law_1678 hl (k := 6) rfl rfl (by decide) rfl (fun ls hl => ?_)
        refine lv_goto (tgt := 23) hx hb dL_law_1681 (by decide) ?_
        have hl := lv_sub (l' := [(0, .ref b), (1, .ref v1), (2, .ref v2), (3, .ref v3), (4, .int (v4 + 5))]) hl [3, 4, 5, 6, 0] rfl
        exact hJ23 _ v1 v2 v3 (v4 + 5) (((kc + 3) + 0) + 0) (((ks + 18) + 0) + 0) _ _ hw hP hS ls hl
      · replace hw := hw.2 c40
        refine lv_iconst (v := 0) hx hb dL_law_643 (by decide) ?_
        obtain ⟨hc41, hs42, hw⟩ := hw
        exact gh_lawret hx hb hr hlocks hw hS hAl hc41 hs42 dL_law_644
  · replace hw := hw.2 c34
    refine lv_iconst (v := 0) hx hb dL_law_626 (by decide) ?_
    obtain ⟨hc43, hs44, hw⟩ := hw
    exact gh_lawret hx hb hr hlocks hw hS hAl hc43 hs44 dL_law_627
def wL_law_648 (post : Int32 → gh_H → Prop) (px : String → gh_H → Prop) (L : Nat) (xs : Nat → Int32) (J23 : gh_H → Nat → Nat → Nat → Int32 → Nat → Nat → Prop) (G : gh_H) (v1 : Nat) (v2 : Nat) (v3 : Nat) (v4 : Int32) (kc : Nat) (ks : Nat) : Prop := vp_in (v4 + 1) L ∧ (kc + 12 ≤ 601024 ∧ ks + 58 ≤ 7293034 ∧ (∃ G6 F7 : gh_H, gh_two G G6 F7 ∧ wL_reverse (fun r4 G5 => (∀ a9, G5 a9 ≠ none → F7 a9 = none) → ∀ G9 : gh_H, G9 = gh_j G5 F7 → vp_in (v4 + 1) L ∧ ((kc + 12) + 0 ≤ 601024 ∧ (ks + 58) + 0 ≤ 7293034 ∧ (∃ G18 F19 : gh_H, gh_two G9 G18 F19 ∧ ∃ fs16 : List Value, G18 v2 = some (.inr (5, fs16)) ∧ wX5_reverse (fun r14 G15 => (∀ a9, G15 a9 ≠ none → F19 a9 = none) → ∀ G21 : gh_H, G21 = gh_j G15 F19 → ((kc + 12) + 0) + 0 ≤ 601024 ∧ ((ks + 58) + 0) + 0 ≤ 7293034 ∧ (∃ G29 F30 : gh_H, gh_two G21 G29 F30 ∧ ∃ fs27 : List Value, G29 v2 = some (.inr (5, fs27)) ∧ wX5_thrown (fun r25 G26 => (∀ a9, G26 a9 ≠ none → F30 a9 = none) → ∀ G32 : gh_H, G32 = gh_j G26 F30 → (r25 = r4 → ((¬ r4 = 0 → (J23 G32 v1 v2 v3 (v4 + 5) (((kc + 12) + 0) + 0) (((ks + 58) + 0) + 0))) ∧ (r4 = 0 → (∃ (n36 : Nat) (f37 : Nat → Int64), G32 v3 = some (.inl (1, n36, .inr (.inl f37))) ∧ vp_in 0 n36 ∧ (((lg_cmp (f37 (Int32.toNatClampNeg 0)) (Int32.toInt64 r14)) = 0 → (J23 G32 v1 v2 v3 (v4 + 5) (((kc + 12) + 0) + 0) (((ks + 58) + 0) + 0))) ∧ (¬ (lg_cmp (f37 (Int32.toNatClampNeg 0)) (Int32.toInt64 r14)) = 0 → ((((kc + 12) + 0) + 0) ≤ 601024 ∧ (((ks + 58) + 0) + 0) ≤ 7293034 ∧ (0 = (1 : Int32))))))))) ∧ (¬ r25 = r4 → ((((kc + 12) + 0) + 0) ≤ 601024 ∧ (((ks + 58) + 0) + 0) ≤ 7293034 ∧ (0 = (1 : Int32))))) (fun _ _ => False) G29 v2)) (fun _ _ => False) G18 v2 (xs (Int32.toNatClampNeg (v4 + 1)))))) (fun _ _ => False) G6 v1 (xs (Int32.toNatClampNeg (v4 + 1))) v3))
set_option maxRecDepth 100000 in
set_option maxHeartbeats 4000000 in
theorem lL_law_648 {p : Program} {l : Launch} {e : Env} {s : State} {m : MethodId} {below : List Frame} {meth : Method} {c : Code} {D : va_G} {AC : Nat → ClassId} {sa : gh_SA} {b L : Nat} {xs : Nat → Int32} {A : Nat → Prop} (hl0 : l.stackTraces = false) (CX : cxL p s m meth c D AC sa b L xs A) (post : Int32 → gh_H → Prop) (px : String → gh_H → Prop) (J23 : gh_H → Nat → Nat → Nat → Int32 → Nat → Nat → Prop) (hJ23 : ∀ (G : gh_H) (v1 : Nat) (v2 : Nat) (v3 : Nat) (v4 : Int32) (kc : Nat) (ks : Nat) (H : Heap) (locs : List Loc), J23 G v1 v2 v3 v4 kc ks → gh_h D vwCl AC A G H → va_S A s.heap H locs → ∀ ls : Array Slot, lv_has ls 8 [(0, .ref b), (1, .ref v1), (2, .ref v2), (3, .ref v3), (4, .int v4)] → W p l e room_1 s m #[Value.ref b] below meth c H locs kc ks (lw_Z below #[Value.ref b] s) (F0 m 23 ls [])) : ∀ (G : gh_H) (v1 : Nat) (v2 : Nat) (v3 : Nat) (v4 : Int32) (kc : Nat) (ks : Nat) (H : Heap) (locs : List Loc), wL_law_648 post px L xs J23 G v1 v2 v3 v4 kc ks → gh_h D vwCl AC A G H → va_S A s.heap H locs → ∀ ls : Array Slot, lv_has ls 8 [(0, .ref b), (1, .ref v1), (2, .ref v2), (3, .ref v3), (4, .int v4)] → W p l e room_1 s m #[Value.ref b] below meth c H locs kc ks (lw_Z below #[Value.ref b] s) (F0 m 648 ls []) := by
  obtain ⟨⟨hx, hb, hml, hown, hts⟩, hr, hlocks, hK, hE, hA, hX, hbl, hbA, hAl⟩ := id CX
  intro G v1 v2 v3 v4 kc ks H locs hw hP hS ls hl
  dsimp only [wL_law_648] at hw
  refine lv_aload_n hx hb dL_law_648 rfl (lv_at hl 1 rfl) ?_
  refine lv_aload_n hx hb dL_law_649 rfl (lv_at hl 0 rfl) ?_
  refine lv_iload hx hb dL_law_650 (lv_at hl 4 rfl) ?_
  refine lv_iconst (v := 1) hx hb dL_law_652 (by decide) ?_
  refine lv_iadd hx hb dL_law_653 ?_
  obtain ⟨hi1, hw⟩ := hw
  refine va_sld hx hb hX hbl hbA hS hi1 dL_law_654 ?_
  refine lv_aload_n hx hb dL_law_655 rfl (lv_at hl 3 rfl) ?_
  obtain ⟨hc2, hs3, hw⟩ := hw
  obtain ⟨G6, F7, ht8, hw⟩ := hw
  refine gh_fxi ht8 hP hS hA (vx_runSX (As := [.ref v1, .int (xs (Int32.toNatClampNeg (v4 + 1))), .ref v3]) (rest := []) ⟨hx, hb, hml, hown, hts⟩ (mL_reverse l hl0 D AC sa _ _ _ _ _ _ _ hw) (vx_cwSW 3 hts (gS kw_209 kw_210 kw_0 kw_211) rfl rfl rfl (by decide +kernel) ⟨Nat.le_of_ble_eq_true rfl, Nat.le_of_ble_eq_true rfl⟩) (gh_pre gh_En_ok hK hE (hP.sub (gh_twoL ht8)) hS hA _) rfl rfl hl.1 rfl (lv_room (Nat.le_of_ble_eq_true rfl)) dL_law_656 ⟨hc2, hs3⟩) (fun r4 G5 H locs hw2 hP hd10 hS => ?_)
  replace hw := hw2
  clear hw2
  obtain ⟨G9, eG9⟩ : ∃ z : gh_H, z = gh_j G5 F7 := ⟨_, rfl⟩
  rw [← eG9] at hP
  replace hw := hw hd10 G9 eG9
  refine lv_istore (lv' := [(5, .int r4), (0, .ref b), (1, .ref v1), (2, .ref v2), (3, .ref v3), (4, .int v4)]) hx hb dL_law_659 hl (by decide) rfl (fun ls hl => ?_)
  refine lv_aload_n hx hb dL_law_661 rfl (lv_at hl 3 rfl) ?_
  refine lv_aload_n hx hb dL_law_662 rfl (lv_at hl 1 rfl) ?_
  refine lv_iload hx hb dL_law_663 (lv_at hl 5 rfl) ?_
  refine lv_iconst (v := 1) hx hb dL_law_665 (by decide) ?_
  refine lv_iadd hx hb dL_law_666 ?_
  obtain ⟨hi11, hw⟩ := hw
  refine va_sld hx hb hX hbl hbA hS hi11 dL_law_667 ?_
  obtain ⟨hc12, hs13, hw⟩ := hw
  obtain ⟨G18, F19, ht20, hw⟩ := hw
  obtain ⟨fs16, he17, hw⟩ := hw
  refine gh_fxi ht20 hP hS hA (vx_runV (C := "OwnerLedgerModel") (As := [.int (xs (Int32.toNatClampNeg (v4 + 1)))]) (rest := []) ⟨hx, hb, hml, hown, hts⟩ (mX5_reverse l hl0 D AC sa _ _ _ _ _ _ hw) (cwV 1 hts (gV kw_452 kw_453 kw_454 kw_2 kw_455) rfl rfl rfl (by decide +kernel) ⟨Nat.le_of_ble_eq_true rfl, Nat.le_of_ble_eq_true rfl⟩) (gh_preV gh_En_ok hK hE (hP.sub (gh_twoL ht20)) hS hA he17 rfl _) rfl rfl hl.1 rfl (lv_room (Nat.le_of_ble_eq_true rfl)) dL_law_668 ⟨hc12, hs13⟩) (fun r14 G15 H locs hw2 hP hd22 hS => ?_)
  replace hw := hw2
  clear hw2
  obtain ⟨G21, eG21⟩ : ∃ z : gh_H, z = gh_j G15 F19 := ⟨_, rfl⟩
  rw [← eG21] at hP
  replace hw := hw hd22 G21 eG21
  refine lv_istore (lv' := [(6, .int r14), (5, .int r4), (0, .ref b), (1, .ref v1), (2, .ref v2), (3, .ref v3), (4, .int v4)]) hx hb dL_law_671 hl (by decide) rfl (fun ls hl => ?_)
  refine lv_aload_n hx hb dL_law_673 rfl (lv_at hl 4 rfl) ?_
  obtain ⟨hc23, hs24, hw⟩ := hw
  obtain ⟨G29, F30, ht31, hw⟩ := hw
  obtain ⟨fs27, he28, hw⟩ := hw
  refine gh_fxi ht31 hP hS hA (vx_runV (C := "OwnerLedgerModel") (As := []) (rest := []) ⟨hx, hb, hml, hown, hts⟩ (mX5_thrown l hl0 D AC sa _ _ _ _ _ hw) (cwV 0 hts (gV kw_398 kw_399 kw_400 kw_2 kw_401) rfl rfl rfl (by decide +kernel) ⟨Nat.le_of_ble_eq_true rfl, Nat.le_of_ble_eq_true rfl⟩) (gh_preV gh_En_ok hK hE (hP.sub (gh_twoL ht31)) hS hA he28 rfl _) rfl rfl hl.1 rfl (lv_room (Nat.le_of_ble_eq_true rfl)) dL_law_674 ⟨hc23, hs24⟩) (fun r25 G26 H locs hw2 hP hd33 hS => ?_)
  replace hw := hw2
  clear hw2
  obtain ⟨G32, eG32⟩ : ∃ z : gh_H, z = gh_j G26 F30 := ⟨_, rfl⟩
  rw [← eG32] at hP
  replace hw := hw hd33 G32 eG32
  refine lv_iload hx hb dL_law_677 (lv_at hl 1 rfl) ?_
  refine lv_icmp_eq (tgt := 684) hx hb dL_law_679 (by decide) (fun c34 => ?_) (fun c34 => ?_)
  · replace hw := hw.1 c34
    refine lv_iload hx hb dL_law_684 (lv_at hl 1 rfl) ?_
    refine lv_if_ne (tgt := 701) hx hb dL_law_686 (by decide) (fun c35 => ?_) (fun c35 => ?_)
    · replace hw := hw.1 c35
      refine lv_goto (tgt := 1678) hx hb dL_law_701 (by decide) ?_
      refine lv_iinc (v := (v4 + 5)) (lv' := [(4, .int (v4 + 5)), (6, .int r14), (5, .int r4), (0, .ref b), (1, .ref v1), (2, .ref v2), (3, .ref v3)]) hx hb dL_law_1678 hl (k := 6) rfl rfl (by decide) rfl (fun ls hl => ?_)
      refine lv_goto (tgt := 23) hx hb dL_law_1681 (by decide) ?_
      have hl := lv_sub (l' := [(0, .ref b), (1, .ref v1), (2, .ref v2), (3, .ref v3), (4, .int (v4 + 5))]) hl [3, 4, 5, 6, 0] rfl
      exact hJ23 _ v1 v2 v3 (v4 + 5) (((kc + 12) + 0) + 0) (((ks + 58) + 0) + 0) _ _ hw hP hS ls hl
    · replace hw := hw.2 c35
      refine lv_aload_n hx hb dL_law_689 rfl (lv_at hl 5 rfl) ?_
      refine lv_iconst (v := 0) hx hb dL_law_690 (by decide) ?_
      obtain ⟨n36, f37, he38, hi39, hw⟩ := hw
      refine gh_lald hx hb hK hP he38 rfl hi39 dL_law_691 ?_
      refine lv_iload hx hb dL_law_692 (lv_at hl 0 rfl) ?_
      refine lv_i2l hx hb dL_law_694 rfl ?_
      refine W.lcmp hx hb dL_law_695 ?_
      refine lv_if_eq (tgt := 701) hx hb dL_law_696 (by decide) (fun c40 => ?_) (fun c40 => ?_)
      · replace hw := hw.1 c40
        refine lv_goto (tgt := 1678) hx hb dL_law_701 (by decide) ?_
        refine lv_iinc (v := (v4 + 5)) (lv' := [(4, .int (v4 + 5)), (6, .int r14), (5, .int r4), (0, .ref b), (1, .ref v1), (2, .ref v2), (3, .ref v3)]) hx hb dL_law_1678 hl (k := 6) rfl rfl (by decide) rfl (fun ls hl => ?_)
        refine lv_goto (tgt := 23) hx hb dL_law_1681 (by decide) ?_
        have hl := lv_sub (l' := [(0, .ref b), (1, .ref v1), (2, .ref v2), (3, .ref v3), (4, .int (v4 + 5))]) hl [3, 4, 5, 6, 0] rfl
        exact hJ23 _ v1 v2 v3 (v4 + 5) (((kc + 12) + 0) + 0) (((ks + 58) + 0) + 0) _ _ hw hP hS ls hl
      · replace hw := hw.2 c40
        refine lv_iconst (v := 0) hx hb dL_law_699 (by decide) ?_
        obtain ⟨hc41, hs42, hw⟩ := hw
        exact gh_lawret hx hb hr hlocks hw hS hAl hc41 hs42 dL_law_700
  · replace hw := hw.2 c34
    refine lv_iconst (v := 0) hx hb dL_law_682 (by decide) ?_
    obtain ⟨hc43, hs44, hw⟩ := hw
    exact gh_lawret hx hb hr hlocks hw hS hAl hc43 hs44 dL_law_683
def wL_law_704 (post : Int32 → gh_H → Prop) (px : String → gh_H → Prop) (L : Nat) (xs : Nat → Int32) (J23 : gh_H → Nat → Nat → Nat → Int32 → Nat → Nat → Prop) (G : gh_H) (v1 : Nat) (v2 : Nat) (v3 : Nat) (v4 : Int32) (kc : Nat) (ks : Nat) : Prop := vp_in (v4 + 1) L ∧ (vp_in (v4 + 2) L ∧ (kc + 2 ≤ 601024 ∧ ks + 12 ≤ 7293034 ∧ (∃ G7 F8 : gh_H, gh_two G G7 F8 ∧ wL_balance (fun r5 G6 => (∀ a9, G6 a9 ≠ none → F8 a9 = none) → ∀ G10 : gh_H, G10 = gh_j G6 F8 → vp_in (v4 + 1) L ∧ (vp_in (v4 + 2) L ∧ ((kc + 2) + 0 ≤ 601024 ∧ (ks + 12) + 0 ≤ 7293034 ∧ (∃ G20 F21 : gh_H, gh_two G10 G20 F21 ∧ ∃ fs18 : List Value, G20 v2 = some (.inr (5, fs18)) ∧ wX5_balance (fun r16 G17 => (∀ a9, G17 a9 ≠ none → F21 a9 = none) → ∀ G23 : gh_H, G23 = gh_j G17 F21 → ((kc + 2) + 0) + 0 ≤ 601024 ∧ ((ks + 12) + 0) + 0 ≤ 7293034 ∧ (∃ G31 F32 : gh_H, gh_two G23 G31 F32 ∧ ∃ fs29 : List Value, G31 v2 = some (.inr (5, fs29)) ∧ wX5_thrown (fun r27 G28 => (∀ a9, G28 a9 ≠ none → F32 a9 = none) → ∀ G34 : gh_H, G34 = gh_j G28 F32 → (r27 = r5 → ((¬ r5 = 0 → (J23 G34 v1 v2 v3 (v4 + 5) (((kc + 2) + 0) + 0) (((ks + 12) + 0) + 0))) ∧ (r5 = 0 → (∃ (n38 : Nat) (f39 : Nat → Int64), G34 v3 = some (.inl (1, n38, .inr (.inl f39))) ∧ vp_in 0 n38 ∧ (((lg_cmp (f39 (Int32.toNatClampNeg 0)) r16) = 0 → (J23 G34 v1 v2 v3 (v4 + 5) (((kc + 2) + 0) + 0) (((ks + 12) + 0) + 0))) ∧ (¬ (lg_cmp (f39 (Int32.toNatClampNeg 0)) r16) = 0 → ((((kc + 2) + 0) + 0) ≤ 601024 ∧ (((ks + 12) + 0) + 0) ≤ 7293034 ∧ (0 = (1 : Int32))))))))) ∧ (¬ r27 = r5 → ((((kc + 2) + 0) + 0) ≤ 601024 ∧ (((ks + 12) + 0) + 0) ≤ 7293034 ∧ (0 = (1 : Int32))))) (fun _ _ => False) G31 v2)) (fun _ _ => False) G20 v2 (xs (Int32.toNatClampNeg (v4 + 1))) (xs (Int32.toNatClampNeg (v4 + 2))))))) (fun _ _ => False) G7 v1 (xs (Int32.toNatClampNeg (v4 + 1))) (xs (Int32.toNatClampNeg (v4 + 2))) v3)))
set_option maxRecDepth 100000 in
set_option maxHeartbeats 4000000 in
theorem lL_law_704 {p : Program} {l : Launch} {e : Env} {s : State} {m : MethodId} {below : List Frame} {meth : Method} {c : Code} {D : va_G} {AC : Nat → ClassId} {sa : gh_SA} {b L : Nat} {xs : Nat → Int32} {A : Nat → Prop} (hl0 : l.stackTraces = false) (CX : cxL p s m meth c D AC sa b L xs A) (post : Int32 → gh_H → Prop) (px : String → gh_H → Prop) (J23 : gh_H → Nat → Nat → Nat → Int32 → Nat → Nat → Prop) (hJ23 : ∀ (G : gh_H) (v1 : Nat) (v2 : Nat) (v3 : Nat) (v4 : Int32) (kc : Nat) (ks : Nat) (H : Heap) (locs : List Loc), J23 G v1 v2 v3 v4 kc ks → gh_h D vwCl AC A G H → va_S A s.heap H locs → ∀ ls : Array Slot, lv_has ls 8 [(0, .ref b), (1, .ref v1), (2, .ref v2), (3, .ref v3), (4, .int v4)] → W p l e room_1 s m #[Value.ref b] below meth c H locs kc ks (lw_Z below #[Value.ref b] s) (F0 m 23 ls [])) : ∀ (G : gh_H) (v1 : Nat) (v2 : Nat) (v3 : Nat) (v4 : Int32) (kc : Nat) (ks : Nat) (H : Heap) (locs : List Loc), wL_law_704 post px L xs J23 G v1 v2 v3 v4 kc ks → gh_h D vwCl AC A G H → va_S A s.heap H locs → ∀ ls : Array Slot, lv_has ls 8 [(0, .ref b), (1, .ref v1), (2, .ref v2), (3, .ref v3), (4, .int v4)] → W p l e room_1 s m #[Value.ref b] below meth c H locs kc ks (lw_Z below #[Value.ref b] s) (F0 m 704 ls []) := by
  obtain ⟨⟨hx, hb, hml, hown, hts⟩, hr, hlocks, hK, hE, hA, hX, hbl, hbA, hAl⟩ := id CX
  intro G v1 v2 v3 v4 kc ks H locs hw hP hS ls hl
  dsimp only [wL_law_704] at hw
  refine lv_aload_n hx hb dL_law_704 rfl (lv_at hl 1 rfl) ?_
  refine lv_aload_n hx hb dL_law_705 rfl (lv_at hl 0 rfl) ?_
  refine lv_iload hx hb dL_law_706 (lv_at hl 4 rfl) ?_
  refine lv_iconst (v := 1) hx hb dL_law_708 (by decide) ?_
  refine lv_iadd hx hb dL_law_709 ?_
  obtain ⟨hi1, hw⟩ := hw
  refine va_sld hx hb hX hbl hbA hS hi1 dL_law_710 ?_
  refine lv_aload_n hx hb dL_law_711 rfl (lv_at hl 0 rfl) ?_
  refine lv_iload hx hb dL_law_712 (lv_at hl 4 rfl) ?_
  refine lv_iconst (v := 2) hx hb dL_law_714 (by decide) ?_
  refine lv_iadd hx hb dL_law_715 ?_
  obtain ⟨hi2, hw⟩ := hw
  refine va_sld hx hb hX hbl hbA hS hi2 dL_law_716 ?_
  refine lv_aload_n hx hb dL_law_717 rfl (lv_at hl 3 rfl) ?_
  obtain ⟨hc3, hs4, hw⟩ := hw
  obtain ⟨G7, F8, ht9, hw⟩ := hw
  refine gh_fxi ht9 hP hS hA (vx_runSX (As := [.ref v1, .int (xs (Int32.toNatClampNeg (v4 + 1))), .int (xs (Int32.toNatClampNeg (v4 + 2))), .ref v3]) (rest := []) ⟨hx, hb, hml, hown, hts⟩ (mL_balance l hl0 D AC sa _ _ _ _ _ _ _ _ hw) (vx_cwSW 4 hts (gS kw_221 kw_222 kw_0 kw_223) rfl rfl rfl (by decide +kernel) ⟨Nat.le_of_ble_eq_true rfl, Nat.le_of_ble_eq_true rfl⟩) (gh_pre gh_En_ok hK hE (hP.sub (gh_twoL ht9)) hS hA _) rfl rfl hl.1 rfl (lv_room (Nat.le_of_ble_eq_true rfl)) dL_law_718 ⟨hc3, hs4⟩) (fun r5 G6 H locs hw2 hP hd11 hS => ?_)
  replace hw := hw2
  clear hw2
  obtain ⟨G10, eG10⟩ : ∃ z : gh_H, z = gh_j G6 F8 := ⟨_, rfl⟩
  rw [← eG10] at hP
  replace hw := hw hd11 G10 eG10
  refine lv_istore (lv' := [(5, .int r5), (0, .ref b), (1, .ref v1), (2, .ref v2), (3, .ref v3), (4, .int v4)]) hx hb dL_law_721 hl (by decide) rfl (fun ls hl => ?_)
  refine lv_aload_n hx hb dL_law_723 rfl (lv_at hl 3 rfl) ?_
  refine lv_aload_n hx hb dL_law_724 rfl (lv_at hl 1 rfl) ?_
  refine lv_iload hx hb dL_law_725 (lv_at hl 5 rfl) ?_
  refine lv_iconst (v := 1) hx hb dL_law_727 (by decide) ?_
  refine lv_iadd hx hb dL_law_728 ?_
  obtain ⟨hi12, hw⟩ := hw
  refine va_sld hx hb hX hbl hbA hS hi12 dL_law_729 ?_
  refine lv_aload_n hx hb dL_law_730 rfl (lv_at hl 1 rfl) ?_
  refine lv_iload hx hb dL_law_731 (lv_at hl 5 rfl) ?_
  refine lv_iconst (v := 2) hx hb dL_law_733 (by decide) ?_
  refine lv_iadd hx hb dL_law_734 ?_
  obtain ⟨hi13, hw⟩ := hw
  refine va_sld hx hb hX hbl hbA hS hi13 dL_law_735 ?_
  obtain ⟨hc14, hs15, hw⟩ := hw
  obtain ⟨G20, F21, ht22, hw⟩ := hw
  obtain ⟨fs18, he19, hw⟩ := hw
  refine gh_fxl ht22 hP hS hA (vx_runV (C := "OwnerLedgerModel") (As := [.int (xs (Int32.toNatClampNeg (v4 + 1))), .int (xs (Int32.toNatClampNeg (v4 + 2)))]) (rest := []) ⟨hx, hb, hml, hown, hts⟩ (mX5_balance l hl0 D AC sa _ _ _ _ _ _ _ hw) (cwV 2 hts (gV kw_456 kw_457 kw_458 kw_2 kw_459) rfl rfl rfl (by decide +kernel) ⟨Nat.le_of_ble_eq_true rfl, Nat.le_of_ble_eq_true rfl⟩) (gh_preV gh_En_ok hK hE (hP.sub (gh_twoL ht22)) hS hA he19 rfl _) rfl rfl hl.1 rfl (lv_room (Nat.le_of_ble_eq_true rfl)) dL_law_736 ⟨hc14, hs15⟩) (fun r16 G17 H locs hw2 hP hd24 hS => ?_)
  replace hw := hw2
  clear hw2
  obtain ⟨G23, eG23⟩ : ∃ z : gh_H, z = gh_j G17 F21 := ⟨_, rfl⟩
  rw [← eG23] at hP
  replace hw := hw hd24 G23 eG23
  refine lv_lstore (lv' := [(6, .long r16), (5, .int r5), (0, .ref b), (1, .ref v1), (2, .ref v2), (3, .ref v3), (4, .int v4)]) hx hb dL_law_739 hl (by decide) rfl (fun ls hl => ?_)
  refine lv_aload_n hx hb dL_law_741 rfl (lv_at hl 4 rfl) ?_
  obtain ⟨hc25, hs26, hw⟩ := hw
  obtain ⟨G31, F32, ht33, hw⟩ := hw
  obtain ⟨fs29, he30, hw⟩ := hw
  refine gh_fxi ht33 hP hS hA (vx_runV (C := "OwnerLedgerModel") (As := []) (rest := []) ⟨hx, hb, hml, hown, hts⟩ (mX5_thrown l hl0 D AC sa _ _ _ _ _ hw) (cwV 0 hts (gV kw_398 kw_399 kw_400 kw_2 kw_401) rfl rfl rfl (by decide +kernel) ⟨Nat.le_of_ble_eq_true rfl, Nat.le_of_ble_eq_true rfl⟩) (gh_preV gh_En_ok hK hE (hP.sub (gh_twoL ht33)) hS hA he30 rfl _) rfl rfl hl.1 rfl (lv_room (Nat.le_of_ble_eq_true rfl)) dL_law_742 ⟨hc25, hs26⟩) (fun r27 G28 H locs hw2 hP hd35 hS => ?_)
  replace hw := hw2
  clear hw2
  obtain ⟨G34, eG34⟩ : ∃ z : gh_H, z = gh_j G28 F32 := ⟨_, rfl⟩
  rw [← eG34] at hP
  replace hw := hw hd35 G34 eG34
  refine lv_iload hx hb dL_law_745 (lv_at hl 1 rfl) ?_
  refine lv_icmp_eq (tgt := 752) hx hb dL_law_747 (by decide) (fun c36 => ?_) (fun c36 => ?_)
  · replace hw := hw.1 c36
    refine lv_iload hx hb dL_law_752 (lv_at hl 1 rfl) ?_
    refine lv_if_ne (tgt := 768) hx hb dL_law_754 (by decide) (fun c37 => ?_) (fun c37 => ?_)
    · replace hw := hw.1 c37
      refine lv_goto (tgt := 1678) hx hb dL_law_768 (by decide) ?_
      refine lv_iinc (v := (v4 + 5)) (lv' := [(4, .int (v4 + 5)), (6, .long r16), (5, .int r5), (0, .ref b), (1, .ref v1), (2, .ref v2), (3, .ref v3)]) hx hb dL_law_1678 hl (k := 6) rfl rfl (by decide) rfl (fun ls hl => ?_)
      refine lv_goto (tgt := 23) hx hb dL_law_1681 (by decide) ?_
      have hl := lv_sub (l' := [(0, .ref b), (1, .ref v1), (2, .ref v2), (3, .ref v3), (4, .int (v4 + 5))]) hl [3, 4, 5, 6, 0] rfl
      exact hJ23 _ v1 v2 v3 (v4 + 5) (((kc + 2) + 0) + 0) (((ks + 12) + 0) + 0) _ _ hw hP hS ls hl
    · replace hw := hw.2 c37
      refine lv_aload_n hx hb dL_law_757 rfl (lv_at hl 5 rfl) ?_
      refine lv_iconst (v := 0) hx hb dL_law_758 (by decide) ?_
      obtain ⟨n38, f39, he40, hi41, hw⟩ := hw
      refine gh_lald hx hb hK hP he40 rfl hi41 dL_law_759 ?_
      refine lv_lload hx hb dL_law_760 (lv_at hl 0 rfl) ?_
      refine W.lcmp hx hb dL_law_762 ?_
      refine lv_if_eq (tgt := 768) hx hb dL_law_763 (by decide) (fun c42 => ?_) (fun c42 => ?_)
      · replace hw := hw.1 c42
        refine lv_goto (tgt := 1678) hx hb dL_law_768 (by decide) ?_
        refine lv_iinc (v := (v4 + 5)) (lv' := [(4, .int (v4 + 5)), (6, .long r16), (5, .int r5), (0, .ref b), (1, .ref v1), (2, .ref v2), (3, .ref v3)]) hx hb dL_law_1678 hl (k := 6) rfl rfl (by decide) rfl (fun ls hl => ?_)
        refine lv_goto (tgt := 23) hx hb dL_law_1681 (by decide) ?_
        have hl := lv_sub (l' := [(0, .ref b), (1, .ref v1), (2, .ref v2), (3, .ref v3), (4, .int (v4 + 5))]) hl [3, 4, 5, 6, 0] rfl
        exact hJ23 _ v1 v2 v3 (v4 + 5) (((kc + 2) + 0) + 0) (((ks + 12) + 0) + 0) _ _ hw hP hS ls hl
      · replace hw := hw.2 c42
        refine lv_iconst (v := 0) hx hb dL_law_766 (by decide) ?_
        obtain ⟨hc43, hs44, hw⟩ := hw
        exact gh_lawret hx hb hr hlocks hw hS hAl hc43 hs44 dL_law_767
  · replace hw := hw.2 c36
    refine lv_iconst (v := 0) hx hb dL_law_750 (by decide) ?_
    obtain ⟨hc45, hs46, hw⟩ := hw
    exact gh_lawret hx hb hr hlocks hw hS hAl hc45 hs46 dL_law_751
def wL_law_771 (post : Int32 → gh_H → Prop) (px : String → gh_H → Prop) (L : Nat) (xs : Nat → Int32) (J23 : gh_H → Nat → Nat → Nat → Int32 → Nat → Nat → Prop) (G : gh_H) (v1 : Nat) (v2 : Nat) (v3 : Nat) (v4 : Int32) (kc : Nat) (ks : Nat) : Prop := vp_in (v4 + 1) L ∧ (kc + 1 ≤ 601024 ∧ ks + 6 ≤ 7293034 ∧ (∃ G6 F7 : gh_H, gh_two G G6 F7 ∧ wL_all (fun r4 G5 => (∀ a9, G5 a9 ≠ none → F7 a9 = none) → ∀ G9 : gh_H, G9 = gh_j G5 F7 → vp_in (v4 + 1) L ∧ ((kc + 1) + 0 ≤ 601024 ∧ (ks + 6) + 0 ≤ 7293034 ∧ (∃ G18 F19 : gh_H, gh_two G9 G18 F19 ∧ ∃ fs16 : List Value, G18 v2 = some (.inr (5, fs16)) ∧ wX5_all (fun r14 G15 => (∀ a9, G15 a9 ≠ none → F19 a9 = none) → ∀ G21 : gh_H, G21 = gh_j G15 F19 → ((kc + 1) + 0) + 0 ≤ 601024 ∧ ((ks + 6) + 0) + 0 ≤ 7293034 ∧ (∃ G29 F30 : gh_H, gh_two G21 G29 F30 ∧ ∃ fs27 : List Value, G29 v2 = some (.inr (5, fs27)) ∧ wX5_thrown (fun r25 G26 => (∀ a9, G26 a9 ≠ none → F30 a9 = none) → ∀ G32 : gh_H, G32 = gh_j G26 F30 → (r25 = r4 → ((¬ r4 = 0 → (J23 G32 v1 v2 v3 (v4 + 5) (((kc + 1) + 0) + 0) (((ks + 6) + 0) + 0))) ∧ (r4 = 0 → (∃ (n36 : Nat) (f37 : Nat → Int64), G32 v3 = some (.inl (1, n36, .inr (.inl f37))) ∧ vp_in 0 n36 ∧ (((lg_cmp (f37 (Int32.toNatClampNeg 0)) r14) = 0 → (J23 G32 v1 v2 v3 (v4 + 5) (((kc + 1) + 0) + 0) (((ks + 6) + 0) + 0))) ∧ (¬ (lg_cmp (f37 (Int32.toNatClampNeg 0)) r14) = 0 → ((((kc + 1) + 0) + 0) ≤ 601024 ∧ (((ks + 6) + 0) + 0) ≤ 7293034 ∧ (0 = (1 : Int32))))))))) ∧ (¬ r25 = r4 → ((((kc + 1) + 0) + 0) ≤ 601024 ∧ (((ks + 6) + 0) + 0) ≤ 7293034 ∧ (0 = (1 : Int32))))) (fun _ _ => False) G29 v2)) (fun _ _ => False) G18 v2 (xs (Int32.toNatClampNeg (v4 + 1)))))) (fun _ _ => False) G6 v1 (xs (Int32.toNatClampNeg (v4 + 1))) v3))
set_option maxRecDepth 100000 in
set_option maxHeartbeats 4000000 in
theorem lL_law_771 {p : Program} {l : Launch} {e : Env} {s : State} {m : MethodId} {below : List Frame} {meth : Method} {c : Code} {D : va_G} {AC : Nat → ClassId} {sa : gh_SA} {b L : Nat} {xs : Nat → Int32} {A : Nat → Prop} (hl0 : l.stackTraces = false) (CX : cxL p s m meth c D AC sa b L xs A) (post : Int32 → gh_H → Prop) (px : String → gh_H → Prop) (J23 : gh_H → Nat → Nat → Nat → Int32 → Nat → Nat → Prop) (hJ23 : ∀ (G : gh_H) (v1 : Nat) (v2 : Nat) (v3 : Nat) (v4 : Int32) (kc : Nat) (ks : Nat) (H : Heap) (locs : List Loc), J23 G v1 v2 v3 v4 kc ks → gh_h D vwCl AC A G H → va_S A s.heap H locs → ∀ ls : Array Slot, lv_has ls 8 [(0, .ref b), (1, .ref v1), (2, .ref v2), (3, .ref v3), (4, .int v4)] → W p l e room_1 s m #[Value.ref b] below meth c H locs kc ks (lw_Z below #[Value.ref b] s) (F0 m 23 ls [])) : ∀ (G : gh_H) (v1 : Nat) (v2 : Nat) (v3 : Nat) (v4 : Int32) (kc : Nat) (ks : Nat) (H : Heap) (locs : List Loc), wL_law_771 post px L xs J23 G v1 v2 v3 v4 kc ks → gh_h D vwCl AC A G H → va_S A s.heap H locs → ∀ ls : Array Slot, lv_has ls 8 [(0, .ref b), (1, .ref v1), (2, .ref v2), (3, .ref v3), (4, .int v4)] → W p l e room_1 s m #[Value.ref b] below meth c H locs kc ks (lw_Z below #[Value.ref b] s) (F0 m 771 ls []) := by
  obtain ⟨⟨hx, hb, hml, hown, hts⟩, hr, hlocks, hK, hE, hA, hX, hbl, hbA, hAl⟩ := id CX
  intro G v1 v2 v3 v4 kc ks H locs hw hP hS ls hl
  dsimp only [wL_law_771] at hw
  refine lv_aload_n hx hb dL_law_771 rfl (lv_at hl 1 rfl) ?_
  refine lv_aload_n hx hb dL_law_772 rfl (lv_at hl 0 rfl) ?_
  refine lv_iload hx hb dL_law_773 (lv_at hl 4 rfl) ?_
  refine lv_iconst (v := 1) hx hb dL_law_775 (by decide) ?_
  refine lv_iadd hx hb dL_law_776 ?_
  obtain ⟨hi1, hw⟩ := hw
  refine va_sld hx hb hX hbl hbA hS hi1 dL_law_777 ?_
  refine lv_aload_n hx hb dL_law_778 rfl (lv_at hl 3 rfl) ?_
  obtain ⟨hc2, hs3, hw⟩ := hw
  obtain ⟨G6, F7, ht8, hw⟩ := hw
  refine gh_fxi ht8 hP hS hA (vx_runSX (As := [.ref v1, .int (xs (Int32.toNatClampNeg (v4 + 1))), .ref v3]) (rest := []) ⟨hx, hb, hml, hown, hts⟩ (mL_all l hl0 D AC sa _ _ _ _ _ _ _ hw) (vx_cwSW 3 hts (gS kw_232 kw_233 kw_0 kw_234) rfl rfl rfl (by decide +kernel) ⟨Nat.le_of_ble_eq_true rfl, Nat.le_of_ble_eq_true rfl⟩) (gh_pre gh_En_ok hK hE (hP.sub (gh_twoL ht8)) hS hA _) rfl rfl hl.1 rfl (lv_room (Nat.le_of_ble_eq_true rfl)) dL_law_779 ⟨hc2, hs3⟩) (fun r4 G5 H locs hw2 hP hd10 hS => ?_)
  replace hw := hw2
  clear hw2
  obtain ⟨G9, eG9⟩ : ∃ z : gh_H, z = gh_j G5 F7 := ⟨_, rfl⟩
  rw [← eG9] at hP
  replace hw := hw hd10 G9 eG9
  refine lv_istore (lv' := [(5, .int r4), (0, .ref b), (1, .ref v1), (2, .ref v2), (3, .ref v3), (4, .int v4)]) hx hb dL_law_782 hl (by decide) rfl (fun ls hl => ?_)
  refine lv_aload_n hx hb dL_law_784 rfl (lv_at hl 3 rfl) ?_
  refine lv_aload_n hx hb dL_law_785 rfl (lv_at hl 1 rfl) ?_
  refine lv_iload hx hb dL_law_786 (lv_at hl 5 rfl) ?_
  refine lv_iconst (v := 1) hx hb dL_law_788 (by decide) ?_
  refine lv_iadd hx hb dL_law_789 ?_
  obtain ⟨hi11, hw⟩ := hw
  refine va_sld hx hb hX hbl hbA hS hi11 dL_law_790 ?_
  obtain ⟨hc12, hs13, hw⟩ := hw
  obtain ⟨G18, F19, ht20, hw⟩ := hw
  obtain ⟨fs16, he17, hw⟩ := hw
  refine gh_fxl ht20 hP hS hA (vx_runV (C := "OwnerLedgerModel") (As := [.int (xs (Int32.toNatClampNeg (v4 + 1)))]) (rest := []) ⟨hx, hb, hml, hown, hts⟩ (mX5_all l hl0 D AC sa _ _ _ _ _ _ hw) (cwV 1 hts (gV kw_461 kw_462 kw_463 kw_2 kw_464) rfl rfl rfl (by decide +kernel) ⟨Nat.le_of_ble_eq_true rfl, Nat.le_of_ble_eq_true rfl⟩) (gh_preV gh_En_ok hK hE (hP.sub (gh_twoL ht20)) hS hA he17 rfl _) rfl rfl hl.1 rfl (lv_room (Nat.le_of_ble_eq_true rfl)) dL_law_791 ⟨hc12, hs13⟩) (fun r14 G15 H locs hw2 hP hd22 hS => ?_)
  replace hw := hw2
  clear hw2
  obtain ⟨G21, eG21⟩ : ∃ z : gh_H, z = gh_j G15 F19 := ⟨_, rfl⟩
  rw [← eG21] at hP
  replace hw := hw hd22 G21 eG21
  refine lv_lstore (lv' := [(6, .long r14), (5, .int r4), (0, .ref b), (1, .ref v1), (2, .ref v2), (3, .ref v3), (4, .int v4)]) hx hb dL_law_794 hl (by decide) rfl (fun ls hl => ?_)
  refine lv_aload_n hx hb dL_law_796 rfl (lv_at hl 4 rfl) ?_
  obtain ⟨hc23, hs24, hw⟩ := hw
  obtain ⟨G29, F30, ht31, hw⟩ := hw
  obtain ⟨fs27, he28, hw⟩ := hw
  refine gh_fxi ht31 hP hS hA (vx_runV (C := "OwnerLedgerModel") (As := []) (rest := []) ⟨hx, hb, hml, hown, hts⟩ (mX5_thrown l hl0 D AC sa _ _ _ _ _ hw) (cwV 0 hts (gV kw_398 kw_399 kw_400 kw_2 kw_401) rfl rfl rfl (by decide +kernel) ⟨Nat.le_of_ble_eq_true rfl, Nat.le_of_ble_eq_true rfl⟩) (gh_preV gh_En_ok hK hE (hP.sub (gh_twoL ht31)) hS hA he28 rfl _) rfl rfl hl.1 rfl (lv_room (Nat.le_of_ble_eq_true rfl)) dL_law_797 ⟨hc23, hs24⟩) (fun r25 G26 H locs hw2 hP hd33 hS => ?_)
  replace hw := hw2
  clear hw2
  obtain ⟨G32, eG32⟩ : ∃ z : gh_H, z = gh_j G26 F30 := ⟨_, rfl⟩
  rw [← eG32] at hP
  replace hw := hw hd33 G32 eG32
  refine lv_iload hx hb dL_law_800 (lv_at hl 1 rfl) ?_
  refine lv_icmp_eq (tgt := 807) hx hb dL_law_802 (by decide) (fun c34 => ?_) (fun c34 => ?_)
  · replace hw := hw.1 c34
    refine lv_iload hx hb dL_law_807 (lv_at hl 1 rfl) ?_
    refine lv_if_ne (tgt := 823) hx hb dL_law_809 (by decide) (fun c35 => ?_) (fun c35 => ?_)
    · replace hw := hw.1 c35
      refine lv_goto (tgt := 1678) hx hb dL_law_823 (by decide) ?_
      refine lv_iinc (v := (v4 + 5)) (lv' := [(4, .int (v4 + 5)), (6, .long r14), (5, .int r4), (0, .ref b), (1, .ref v1), (2, .ref v2), (3, .ref v3)]) hx hb dL_law_1678 hl (k := 6) rfl rfl (by decide) rfl (fun ls hl => ?_)
      refine lv_goto (tgt := 23) hx hb dL_law_1681 (by decide) ?_
      have hl := lv_sub (l' := [(0, .ref b), (1, .ref v1), (2, .ref v2), (3, .ref v3), (4, .int (v4 + 5))]) hl [3, 4, 5, 6, 0] rfl
      exact hJ23 _ v1 v2 v3 (v4 + 5) (((kc + 1) + 0) + 0) (((ks + 6) + 0) + 0) _ _ hw hP hS ls hl
    · replace hw := hw.2 c35
      refine lv_aload_n hx hb dL_law_812 rfl (lv_at hl 5 rfl) ?_
      refine lv_iconst (v := 0) hx hb dL_law_813 (by decide) ?_
      obtain ⟨n36, f37, he38, hi39, hw⟩ := hw
      refine gh_lald hx hb hK hP he38 rfl hi39 dL_law_814 ?_
      refine lv_lload hx hb dL_law_815 (lv_at hl 0 rfl) ?_
      refine W.lcmp hx hb dL_law_817 ?_
      refine lv_if_eq (tgt := 823) hx hb dL_law_818 (by decide) (fun c40 => ?_) (fun c40 => ?_)
      · replace hw := hw.1 c40
        refine lv_goto (tgt := 1678) hx hb dL_law_823 (by decide) ?_
        refine lv_iinc (v := (v4 + 5)) (lv' := [(4, .int (v4 + 5)), (6, .long r14), (5, .int r4), (0, .ref b), (1, .ref v1), (2, .ref v2), (3, .ref v3)]) hx hb dL_law_1678 hl (k := 6) rfl rfl (by decide) rfl (fun ls hl => ?_)
        refine lv_goto (tgt := 23) hx hb dL_law_1681 (by decide) ?_
        have hl := lv_sub (l' := [(0, .ref b), (1, .ref v1), (2, .ref v2), (3, .ref v3), (4, .int (v4 + 5))]) hl [3, 4, 5, 6, 0] rfl
        exact hJ23 _ v1 v2 v3 (v4 + 5) (((kc + 1) + 0) + 0) (((ks + 6) + 0) + 0) _ _ hw hP hS ls hl
      · replace hw := hw.2 c40
        refine lv_iconst (v := 0) hx hb dL_law_821 (by decide) ?_
        obtain ⟨hc41, hs42, hw⟩ := hw
        exact gh_lawret hx hb hr hlocks hw hS hAl hc41 hs42 dL_law_822
  · replace hw := hw.2 c34
    refine lv_iconst (v := 0) hx hb dL_law_805 (by decide) ?_
    obtain ⟨hc43, hs44, hw⟩ := hw
    exact gh_lawret hx hb hr hlocks hw hS hAl hc43 hs44 dL_law_806
