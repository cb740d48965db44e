def wL_law_1531 (post : Int32 → gh_H → Prop) (px : String → gh_H → Prop) (L : Nat) (xs : Nat → Int32) (J23 : gh_H → Nat → Nat → Nat → Int32 → Nat → Nat → Prop) (G : gh_H) (v1 : Nat) (v2 : Nat) (v3 : Nat) (v4 : Int32) (kc : Nat) (ks : Nat) : Prop := vp_in (v4 + 1) L ∧ (vp_in (v4 + 2) L ∧ (kc + 2 ≤ 601024 ∧ ks + 12 ≤ 7293034 ∧ (∃ G7 F8 : gh_H, gh_two G G7 F8 ∧ wL_known (fun r5 G6 => (∀ a9, G6 a9 ≠ none → F8 a9 = none) → ∀ G10 : gh_H, G10 = gh_j G6 F8 → vp_in (v4 + 1) L ∧ (vp_in (v4 + 2) L ∧ ((kc + 2) + 0 ≤ 601024 ∧ (ks + 12) + 0 ≤ 7293034 ∧ (∃ G20 F21 : gh_H, gh_two G10 G20 F21 ∧ ∃ fs18 : List Value, G20 v2 = some (.inr (5, fs18)) ∧ wX5_known (fun r16 G17 => (∀ a9, G17 a9 ≠ none → F21 a9 = none) → ∀ G23 : gh_H, G23 = gh_j G17 F21 → ((kc + 2) + 0) + 0 ≤ 601024 ∧ ((ks + 12) + 0) + 0 ≤ 7293034 ∧ (∃ G31 F32 : gh_H, gh_two G23 G31 F32 ∧ ∃ fs29 : List Value, G31 v2 = some (.inr (5, fs29)) ∧ wX5_thrown (fun r27 G28 => (∀ a9, G28 a9 ≠ none → F32 a9 = none) → ∀ G34 : gh_H, G34 = gh_j G28 F32 → (r27 = r5 → ((¬ r5 = 0 → (J23 G34 v1 v2 v3 (v4 + 5) (((kc + 2) + 0) + 0) (((ks + 12) + 0) + 0))) ∧ (r5 = 0 → (∃ (n38 : Nat) (f39 : Nat → Int64), G34 v3 = some (.inl (1, n38, .inr (.inl f39))) ∧ vp_in 0 n38 ∧ (((lg_cmp (f39 (Int32.toNatClampNeg 0)) r16) = 0 → (J23 G34 v1 v2 v3 (v4 + 5) (((kc + 2) + 0) + 0) (((ks + 12) + 0) + 0))) ∧ (¬ (lg_cmp (f39 (Int32.toNatClampNeg 0)) r16) = 0 → ((((kc + 2) + 0) + 0) ≤ 601024 ∧ (((ks + 12) + 0) + 0) ≤ 7293034 ∧ (0 = (1 : Int32))))))))) ∧ (¬ r27 = r5 → ((((kc + 2) + 0) + 0) ≤ 601024 ∧ (((ks + 12) + 0) + 0) ≤ 7293034 ∧ (0 = (1 : Int32))))) (fun _ _ => False) G31 v2)) (fun _ _ => False) G20 v2 (xs (Int32.toNatClampNeg (v4 + 1))) (xs (Int32.toNatClampNeg (v4 + 2))))))) (fun _ _ => False) G7 v1 (xs (Int32.toNatClampNeg (v4 + 1))) (xs (Int32.toNatClampNeg (v4 + 2))) v3)))
set_option maxRecDepth 100000 in
set_option maxHeartbeats 4000000 in
theorem lL_law_1531 {p : Program} {l : Launch} {e : Env} {s : State} {m : MethodId} {below : List Frame} {meth : Method} {c : Code} {D : va_G} {AC : Nat → ClassId} {sa : gh_SA} {b L : Nat} {xs : Nat → Int32} {A : Nat → Prop} (hl0 : l.stackTraces = false) (CX : cxL p s m meth c D AC sa b L xs A) (post : Int32 → gh_H → Prop) (px : String → gh_H → Prop) (J23 : gh_H → Nat → Nat → Nat → Int32 → Nat → Nat → Prop) (hJ23 : ∀ (G : gh_H) (v1 : Nat) (v2 : Nat) (v3 : Nat) (v4 : Int32) (kc : Nat) (ks : Nat) (H : Heap) (locs : List Loc), J23 G v1 v2 v3 v4 kc ks → gh_h D vwCl AC A G H → va_S A s.heap H locs → ∀ ls : Array Slot, lv_has ls 8 [(0, .ref b), (1, .ref v1), (2, .ref v2), (3, .ref v3), (4, .int v4)] → W p l e room_1 s m #[Value.ref b] below meth c H locs kc ks (lw_Z below #[Value.ref b] s) (F0 m 23 ls [])) : ∀ (G : gh_H) (v1 : Nat) (v2 : Nat) (v3 : Nat) (v4 : Int32) (kc : Nat) (ks : Nat) (H : Heap) (locs : List Loc), wL_law_1531 post px L xs J23 G v1 v2 v3 v4 kc ks → gh_h D vwCl AC A G H → va_S A s.heap H locs → ∀ ls : Array Slot, lv_has ls 8 [(0, .ref b), (1, .ref v1), (2, .ref v2), (3, .ref v3), (4, .int v4)] → W p l e room_1 s m #[Value.ref b] below meth c H locs kc ks (lw_Z below #[Value.ref b] s) (F0 m 1531 ls []) := by
  obtain ⟨⟨hx, hb, hml, hown, hts⟩, hr, hlocks, hK, hE, hA, hX, hbl, hbA, hAl⟩ := id CX
  intro G v1 v2 v3 v4 kc ks H locs hw hP hS ls hl
  dsimp only [wL_law_1531] at hw
  refine lv_aload_n hx hb dL_law_1531 rfl (lv_at hl 1 rfl) ?_
  refine lv_aload_n hx hb dL_law_1532 rfl (lv_at hl 0 rfl) ?_
  refine lv_iload hx hb dL_law_1533 (lv_at hl 4 rfl) ?_
  refine lv_iconst (v := 1) hx hb dL_law_1535 (by decide) ?_
  refine lv_iadd hx hb dL_law_1536 ?_
  obtain ⟨hi1, hw⟩ := hw
  refine va_sld hx hb hX hbl hbA hS hi1 dL_law_1537 ?_
  refine lv_aload_n hx hb dL_law_1538 rfl (lv_at hl 0 rfl) ?_
  refine lv_iload hx hb dL_law_1539 (lv_at hl 4 rfl) ?_
  refine lv_iconst (v := 2) hx hb dL_law_1541 (by decide) ?_
  refine lv_iadd hx hb dL_law_1542 ?_
  obtain ⟨hi2, hw⟩ := hw
  refine va_sld hx hb hX hbl hbA hS hi2 dL_law_1543 ?_
  refine lv_aload_n hx hb dL_law_1544 rfl (lv_at hl 3 rfl) ?_
  obtain ⟨hc3, hs4, hw⟩ := hw
  obtain ⟨G7, F8, ht9, hw⟩ := hw
  refine gh_fxi ht9 hP hS hA (vx_runSX (As := [.ref v1, .int (xs (Int32.toNatClampNeg (v4 + 1))), .int (xs (Int32.toNatClampNeg (v4 + 2))), .ref v3]) (rest := []) ⟨hx, hb, hml, hown, hts⟩ (mL_known l hl0 D AC sa _ _ _ _ _ _ _ _ hw) (vx_cwSW 4 hts (gS kw_351 kw_352 kw_0 kw_353) rfl rfl rfl (by decide +kernel) ⟨Nat.le_of_ble_eq_true rfl, Nat.le_of_ble_eq_true rfl⟩) (gh_pre gh_En_ok hK hE (hP.sub (gh_twoL ht9)) hS hA _) rfl rfl hl.1 rfl (lv_room (Nat.le_of_ble_eq_true rfl)) dL_law_1545 ⟨hc3, hs4⟩) (fun r5 G6 H locs hw2 hP hd11 hS => ?_)
  replace hw := hw2
  clear hw2
  obtain ⟨G10, eG10⟩ : ∃ z : gh_H, z = gh_j G6 F8 := ⟨_, rfl⟩
  rw [← eG10] at hP
  replace hw := hw hd11 G10 eG10
  refine lv_istore (lv' := [(5, .int r5), (0, .ref b), (1, .ref v1), (2, .ref v2), (3, .ref v3), (4, .int v4)]) hx hb dL_law_1548 hl (by decide) rfl (fun ls hl => ?_)
  refine lv_aload_n hx hb dL_law_1550 rfl (lv_at hl 3 rfl) ?_
  refine lv_aload_n hx hb dL_law_1551 rfl (lv_at hl 1 rfl) ?_
  refine lv_iload hx hb dL_law_1552 (lv_at hl 5 rfl) ?_
  refine lv_iconst (v := 1) hx hb dL_law_1554 (by decide) ?_
  refine lv_iadd hx hb dL_law_1555 ?_
  obtain ⟨hi12, hw⟩ := hw
  refine va_sld hx hb hX hbl hbA hS hi12 dL_law_1556 ?_
  refine lv_aload_n hx hb dL_law_1557 rfl (lv_at hl 1 rfl) ?_
  refine lv_iload hx hb dL_law_1558 (lv_at hl 5 rfl) ?_
  refine lv_iconst (v := 2) hx hb dL_law_1560 (by decide) ?_
  refine lv_iadd hx hb dL_law_1561 ?_
  obtain ⟨hi13, hw⟩ := hw
  refine va_sld hx hb hX hbl hbA hS hi13 dL_law_1562 ?_
  obtain ⟨hc14, hs15, hw⟩ := hw
  obtain ⟨G20, F21, ht22, hw⟩ := hw
  obtain ⟨fs18, he19, hw⟩ := hw
  refine gh_fxl ht22 hP hS hA (vx_runV (C := "OwnerLedgerModel") (As := [.int (xs (Int32.toNatClampNeg (v4 + 1))), .int (xs (Int32.toNatClampNeg (v4 + 2)))]) (rest := []) ⟨hx, hb, hml, hown, hts⟩ (mX5_known l hl0 D AC sa _ _ _ _ _ _ _ hw) (cwV 2 hts (gV kw_516 kw_517 kw_518 kw_2 kw_519) rfl rfl rfl (by decide +kernel) ⟨Nat.le_of_ble_eq_true rfl, Nat.le_of_ble_eq_true rfl⟩) (gh_preV gh_En_ok hK hE (hP.sub (gh_twoL ht22)) hS hA he19 rfl _) rfl rfl hl.1 rfl (lv_room (Nat.le_of_ble_eq_true rfl)) dL_law_1563 ⟨hc14, hs15⟩) (fun r16 G17 H locs hw2 hP hd24 hS => ?_)
  replace hw := hw2
  clear hw2
  obtain ⟨G23, eG23⟩ : ∃ z : gh_H, z = gh_j G17 F21 := ⟨_, rfl⟩
  rw [← eG23] at hP
  replace hw := hw hd24 G23 eG23
  refine lv_lstore (lv' := [(6, .long r16), (5, .int r5), (0, .ref b), (1, .ref v1), (2, .ref v2), (3, .ref v3), (4, .int v4)]) hx hb dL_law_1566 hl (by decide) rfl (fun ls hl => ?_)
  refine lv_aload_n hx hb dL_law_1568 rfl (lv_at hl 4 rfl) ?_
  obtain ⟨hc25, hs26, hw⟩ := hw
  obtain ⟨G31, F32, ht33, hw⟩ := hw
  obtain ⟨fs29, he30, hw⟩ := hw
  refine gh_fxi ht33 hP hS hA (vx_runV (C := "OwnerLedgerModel") (As := []) (rest := []) ⟨hx, hb, hml, hown, hts⟩ (mX5_thrown l hl0 D AC sa _ _ _ _ _ hw) (cwV 0 hts (gV kw_398 kw_399 kw_400 kw_2 kw_401) rfl rfl rfl (by decide +kernel) ⟨Nat.le_of_ble_eq_true rfl, Nat.le_of_ble_eq_true rfl⟩) (gh_preV gh_En_ok hK hE (hP.sub (gh_twoL ht33)) hS hA he30 rfl _) rfl rfl hl.1 rfl (lv_room (Nat.le_of_ble_eq_true rfl)) dL_law_1569 ⟨hc25, hs26⟩) (fun r27 G28 H locs hw2 hP hd35 hS => ?_)
  replace hw := hw2
  clear hw2
  obtain ⟨G34, eG34⟩ : ∃ z : gh_H, z = gh_j G28 F32 := ⟨_, rfl⟩
  rw [← eG34] at hP
  replace hw := hw hd35 G34 eG34
  refine lv_iload hx hb dL_law_1572 (lv_at hl 1 rfl) ?_
  refine lv_icmp_eq (tgt := 1579) hx hb dL_law_1574 (by decide) (fun c36 => ?_) (fun c36 => ?_)
  · replace hw := hw.1 c36
    refine lv_iload hx hb dL_law_1579 (lv_at hl 1 rfl) ?_
    refine lv_if_ne (tgt := 1595) hx hb dL_law_1581 (by decide) (fun c37 => ?_) (fun c37 => ?_)
    · replace hw := hw.1 c37
      refine lv_goto (tgt := 1678) hx hb dL_law_1595 (by decide) ?_
      refine lv_iinc (v := (v4 + 5)) (lv' := [(4, .int (v4 + 5)), (6, .long r16), (5, .int r5), (0, .ref b), (1, .ref v1), (2, .ref v2), (3, .ref v3)]) hx hb dL_law_1678 hl (k := 6) rfl rfl (by decide) rfl (fun ls hl => ?_)
      refine lv_goto (tgt := 23) hx hb dL_law_1681 (by decide) ?_
      have hl := lv_sub (l' := [(0, .ref b), (1, .ref v1), (2, .ref v2), (3, .ref v3), (4, .int (v4 + 5))]) hl [3, 4, 5, 6, 0] rfl
      exact hJ23 _ v1 v2 v3 (v4 + 5) (((kc + 2) + 0) + 0) (((ks + 12) + 0) + 0) _ _ hw hP hS ls hl
    · replace hw := hw.2 c37
      refine lv_aload_n hx hb dL_law_1584 rfl (lv_at hl 5 rfl) ?_
      refine lv_iconst (v := 0) hx hb dL_law_1585 (by decide) ?_
      obtain ⟨n38, f39, he40, hi41, hw⟩ := hw
      refine gh_lald hx hb hK hP he40 rfl hi41 dL_law_1586 ?_
      refine lv_lload hx hb dL_law_1587 (lv_at hl 0 rfl) ?_
      refine W.lcmp hx hb dL_law_1589 ?_
      refine lv_if_eq (tgt := 1595) hx hb dL_law_1590 (by decide) (fun c42 => ?_) (fun c42 => ?_)
      · replace hw := hw.1 c42
        refine lv_goto (tgt := 1678) hx hb dL_law_1595 (by decide) ?_
        refine lv_iinc (v := (v4 + 5)) (lv' := [(4, .int (v4 + 5)), (6, .long r16), (5, .int r5), (0, .ref b), (1, .ref v1), (2, .ref v2), (3, .ref v3)]) hx hb dL_law_1678 hl (k := 6) rfl rfl (by decide) rfl (fun ls hl => ?_)
        refine lv_goto (tgt := 23) hx hb dL_law_1681 (by decide) ?_
        have hl := lv_sub (l' := [(0, .ref b), (1, .ref v1), (2, .ref v2), (3, .ref v3), (4, .int (v4 + 5))]) hl [3, 4, 5, 6, 0] rfl
        exact hJ23 _ v1 v2 v3 (v4 + 5) (((kc + 2) + 0) + 0) (((ks + 12) + 0) + 0) _ _ hw hP hS ls hl
      · replace hw := hw.2 c42
        refine lv_iconst (v := 0) hx hb dL_law_1593 (by decide) ?_
        obtain ⟨hc43, hs44, hw⟩ := hw
        exact gh_lawret hx hb hr hlocks hw hS hAl hc43 hs44 dL_law_1594
  · replace hw := hw.2 c36
    refine lv_iconst (v := 0) hx hb dL_law_1577 (by decide) ?_
    obtain ⟨hc45, hs46, hw⟩ := hw
    exact gh_lawret hx hb hr hlocks hw hS hAl hc45 hs46 dL_law_1578
def wL_law_1598 (post : Int32 → gh_H → Prop) (px : String → gh_H → Prop) (L : Nat) (xs : Nat → Int32) (J23 : gh_H → Nat → Nat → Nat → Int32 → Nat → Nat → Prop) (G : gh_H) (v1 : Nat) (v2 : Nat) (v3 : Nat) (v4 : Int32) (kc : Nat) (ks : Nat) : Prop := vp_in (v4 + 1) L ∧ (kc + 1 ≤ 601024 ∧ ks + 6 ≤ 7293034 ∧ (∃ G6 F7 : gh_H, gh_two G G6 F7 ∧ wL_credit (fun r4 G5 => (∀ a9, G5 a9 ≠ none → F7 a9 = none) → ∀ G9 : gh_H, G9 = gh_j G5 F7 → vp_in (v4 + 1) L ∧ ((kc + 1) + 0 ≤ 601024 ∧ (ks + 6) + 0 ≤ 7293034 ∧ (∃ G18 F19 : gh_H, gh_two G9 G18 F19 ∧ ∃ fs16 : List Value, G18 v2 = some (.inr (5, fs16)) ∧ wX5_credit (fun r14 G15 => (∀ a9, G15 a9 ≠ none → F19 a9 = none) → ∀ G21 : gh_H, G21 = gh_j G15 F19 → ((kc + 1) + 0) + 0 ≤ 601024 ∧ ((ks + 6) + 0) + 0 ≤ 7293034 ∧ (∃ G29 F30 : gh_H, gh_two G21 G29 F30 ∧ ∃ fs27 : List Value, G29 v2 = some (.inr (5, fs27)) ∧ wX5_thrown (fun r25 G26 => (∀ a9, G26 a9 ≠ none → F30 a9 = none) → ∀ G32 : gh_H, G32 = gh_j G26 F30 → (r25 = r4 → ((¬ r4 = 0 → (J23 G32 v1 v2 v3 (v4 + 5) (((kc + 1) + 0) + 0) (((ks + 6) + 0) + 0))) ∧ (r4 = 0 → (∃ (n36 : Nat) (f37 : Nat → Int64), G32 v3 = some (.inl (1, n36, .inr (.inl f37))) ∧ vp_in 0 n36 ∧ (((lg_cmp (f37 (Int32.toNatClampNeg 0)) r14) = 0 → (J23 G32 v1 v2 v3 (v4 + 5) (((kc + 1) + 0) + 0) (((ks + 6) + 0) + 0))) ∧ (¬ (lg_cmp (f37 (Int32.toNatClampNeg 0)) r14) = 0 → ((((kc + 1) + 0) + 0) ≤ 601024 ∧ (((ks + 6) + 0) + 0) ≤ 7293034 ∧ (0 = (1 : Int32))))))))) ∧ (¬ r25 = r4 → ((((kc + 1) + 0) + 0) ≤ 601024 ∧ (((ks + 6) + 0) + 0) ≤ 7293034 ∧ (0 = (1 : Int32))))) (fun _ _ => False) G29 v2)) (fun _ _ => False) G18 v2 (xs (Int32.toNatClampNeg (v4 + 1)))))) (fun _ _ => False) G6 v1 (xs (Int32.toNatClampNeg (v4 + 1))) v3))
set_option maxRecDepth 100000 in
set_option maxHeartbeats 4000000 in
theorem lL_law_1598 {p : Program} {l : Launch} {e : Env} {s : State} {m : MethodId} {below : List Frame} {meth : Method} {c : Code} {D : va_G} {AC : Nat → ClassId} {sa : gh_SA} {b L : Nat} {xs : Nat → Int32} {A : Nat → Prop} (hl0 : l.stackTraces = false) (CX : cxL p s m meth c D AC sa b L xs A) (post : Int32 → gh_H → Prop) (px : String → gh_H → Prop) (J23 : gh_H → Nat → Nat → Nat → Int32 → Nat → Nat → Prop) (hJ23 : ∀ (G : gh_H) (v1 : Nat) (v2 : Nat) (v3 : Nat) (v4 : Int32) (kc : Nat) (ks : Nat) (H : Heap) (locs : List Loc), J23 G v1 v2 v3 v4 kc ks → gh_h D vwCl AC A G H → va_S A s.heap H locs → ∀ ls : Array Slot, lv_has ls 8 [(0, .ref b), (1, .ref v1), (2, .ref v2), (3, .ref v3), (4, .int v4)] → W p l e room_1 s m #[Value.ref b] below meth c H locs kc ks (lw_Z below #[Value.ref b] s) (F0 m 23 ls [])) : ∀ (G : gh_H) (v1 : Nat) (v2 : Nat) (v3 : Nat) (v4 : Int32) (kc : Nat) (ks : Nat) (H : Heap) (locs : List Loc), wL_law_1598 post px L xs J23 G v1 v2 v3 v4 kc ks → gh_h D vwCl AC A G H → va_S A s.heap H locs → ∀ ls : Array Slot, lv_has ls 8 [(0, .ref b), (1, .ref v1), (2, .ref v2), (3, .ref v3), (4, .int v4)] → W p l e room_1 s m #[Value.ref b] below meth c H locs kc ks (lw_Z below #[Value.ref b] s) (F0 m 1598 ls []) := by
  obtain ⟨⟨hx, hb, hml, hown, hts⟩, hr, hlocks, hK, hE, hA, hX, hbl, hbA, hAl⟩ := id CX
  intro G v1 v2 v3 v4 kc ks H locs hw hP hS ls hl
  dsimp only [wL_law_1598] at hw
  refine lv_aload_n hx hb dL_law_1598 rfl (lv_at hl 1 rfl) ?_
  refine lv_aload_n hx hb dL_law_1599 rfl (lv_at hl 0 rfl) ?_
  refine lv_iload hx hb dL_law_1600 (lv_at hl 4 rfl) ?_
  refine lv_iconst (v := 1) hx hb dL_law_1602 (by decide) ?_
  refine lv_iadd hx hb dL_law_1603 ?_
  obtain ⟨hi1, hw⟩ := hw
  refine va_sld hx hb hX hbl hbA hS hi1 dL_law_1604 ?_
  refine lv_aload_n hx hb dL_law_1605 rfl (lv_at hl 3 rfl) ?_
  obtain ⟨hc2, hs3, hw⟩ := hw
  obtain ⟨G6, F7, ht8, hw⟩ := hw
  refine gh_fxi ht8 hP hS hA (vx_runSX (As := [.ref v1, .int (xs (Int32.toNatClampNeg (v4 + 1))), .ref v3]) (rest := []) ⟨hx, hb, hml, hown, hts⟩ (mL_credit l hl0 D AC sa _ _ _ _ _ _ _ hw) (vx_cwSW 3 hts (gS kw_359 kw_360 kw_0 kw_361) rfl rfl rfl (by decide +kernel) ⟨Nat.le_of_ble_eq_true rfl, Nat.le_of_ble_eq_true rfl⟩) (gh_pre gh_En_ok hK hE (hP.sub (gh_twoL ht8)) hS hA _) rfl rfl hl.1 rfl (lv_room (Nat.le_of_ble_eq_true rfl)) dL_law_1606 ⟨hc2, hs3⟩) (fun r4 G5 H locs hw2 hP hd10 hS => ?_)
  replace hw := hw2
  clear hw2
  obtain ⟨G9, eG9⟩ : ∃ z : gh_H, z = gh_j G5 F7 := ⟨_, rfl⟩
  rw [← eG9] at hP
  replace hw := hw hd10 G9 eG9
  refine lv_istore (lv' := [(5, .int r4), (0, .ref b), (1, .ref v1), (2, .ref v2), (3, .ref v3), (4, .int v4)]) hx hb dL_law_1609 hl (by decide) rfl (fun ls hl => ?_)
  refine lv_aload_n hx hb dL_law_1611 rfl (lv_at hl 3 rfl) ?_
  refine lv_aload_n hx hb dL_law_1612 rfl (lv_at hl 1 rfl) ?_
  refine lv_iload hx hb dL_law_1613 (lv_at hl 5 rfl) ?_
  refine lv_iconst (v := 1) hx hb dL_law_1615 (by decide) ?_
  refine lv_iadd hx hb dL_law_1616 ?_
  obtain ⟨hi11, hw⟩ := hw
  refine va_sld hx hb hX hbl hbA hS hi11 dL_law_1617 ?_
  obtain ⟨hc12, hs13, hw⟩ := hw
  obtain ⟨G18, F19, ht20, hw⟩ := hw
  obtain ⟨fs16, he17, hw⟩ := hw
  refine gh_fxl ht20 hP hS hA (vx_runV (C := "OwnerLedgerModel") (As := [.int (xs (Int32.toNatClampNeg (v4 + 1)))]) (rest := []) ⟨hx, hb, hml, hown, hts⟩ (mX5_credit l hl0 D AC sa _ _ _ _ _ _ hw) (cwV 1 hts (gV kw_521 kw_522 kw_523 kw_2 kw_524) rfl rfl rfl (by decide +kernel) ⟨Nat.le_of_ble_eq_true rfl, Nat.le_of_ble_eq_true rfl⟩) (gh_preV gh_En_ok hK hE (hP.sub (gh_twoL ht20)) hS hA he17 rfl _) rfl rfl hl.1 rfl (lv_room (Nat.le_of_ble_eq_true rfl)) dL_law_1618 ⟨hc12, hs13⟩) (fun r14 G15 H locs hw2 hP hd22 hS => ?_)
  replace hw := hw2
  clear hw2
  obtain ⟨G21, eG21⟩ : ∃ z : gh_H, z = gh_j G15 F19 := ⟨_, rfl⟩
  rw [← eG21] at hP
  replace hw := hw hd22 G21 eG21
  refine lv_lstore (lv' := [(6, .long r14), (5, .int r4), (0, .ref b), (1, .ref v1), (2, .ref v2), (3, .ref v3), (4, .int v4)]) hx hb dL_law_1621 hl (by decide) rfl (fun ls hl => ?_)
  refine lv_aload_n hx hb dL_law_1623 rfl (lv_at hl 4 rfl) ?_
  obtain ⟨hc23, hs24, hw⟩ := hw
  obtain ⟨G29, F30, ht31, hw⟩ := hw
  obtain ⟨fs27, he28, hw⟩ := hw
  refine gh_fxi ht31 hP hS hA (vx_runV (C := "OwnerLedgerModel") (As := []) (rest := []) ⟨hx, hb, hml, hown, hts⟩ (mX5_thrown l hl0 D AC sa _ _ _ _ _ hw) (cwV 0 hts (gV kw_398 kw_399 kw_400 kw_2 kw_401) rfl rfl rfl (by decide +kernel) ⟨Nat.le_of_ble_eq_true rfl, Nat.le_of_ble_eq_true rfl⟩) (gh_preV gh_En_ok hK hE (hP.sub (gh_twoL ht31)) hS hA he28 rfl _) rfl rfl hl.1 rfl (lv_room (Nat.le_of_ble_eq_true rfl)) dL_law_1624 ⟨hc23, hs24⟩) (fun r25 G26 H locs hw2 hP hd33 hS => ?_)
  replace hw := hw2
  clear hw2
  obtain ⟨G32, eG32⟩ : ∃ z : gh_H, z = gh_j G26 F30 := ⟨_, rfl⟩
  rw [← eG32] at hP
  replace hw := hw hd33 G32 eG32
  refine lv_iload hx hb dL_law_1627 (lv_at hl 1 rfl) ?_
  refine lv_icmp_eq (tgt := 1634) hx hb dL_law_1629 (by decide) (fun c34 => ?_) (fun c34 => ?_)
  · replace hw := hw.1 c34
    refine lv_iload hx hb dL_law_1634 (lv_at hl 1 rfl) ?_
    refine lv_if_ne (tgt := 1650) hx hb dL_law_1636 (by decide) (fun c35 => ?_) (fun c35 => ?_)
    · replace hw := hw.1 c35
      refine lv_goto (tgt := 1678) hx hb dL_law_1650 (by decide) ?_
      refine lv_iinc (v := (v4 + 5)) (lv' := [(4, .int (v4 + 5)), (6, .long r14), (5, .int r4), (0, .ref b), (1, .ref v1), (2, .ref v2), (3, .ref v3)]) hx hb dL_law_1678 hl (k := 6) rfl rfl (by decide) rfl (fun ls hl => ?_)
      refine lv_goto (tgt := 23) hx hb dL_law_1681 (by decide) ?_
      have hl := lv_sub (l' := [(0, .ref b), (1, .ref v1), (2, .ref v2), (3, .ref v3), (4, .int (v4 + 5))]) hl [3, 4, 5, 6, 0] rfl
      exact hJ23 _ v1 v2 v3 (v4 + 5) (((kc + 1) + 0) + 0) (((ks + 6) + 0) + 0) _ _ hw hP hS ls hl
    · replace hw := hw.2 c35
      refine lv_aload_n hx hb dL_law_1639 rfl (lv_at hl 5 rfl) ?_
      refine lv_iconst (v := 0) hx hb dL_law_1640 (by decide) ?_
      obtain ⟨n36, f37, he38, hi39, hw⟩ := hw
      refine gh_lald hx hb hK hP he38 rfl hi39 dL_law_1641 ?_
      refine lv_lload hx hb dL_law_1642 (lv_at hl 0 rfl) ?_
      refine W.lcmp hx hb dL_law_1644 ?_
      refine lv_if_eq (tgt := 1650) hx hb dL_law_1645 (by decide) (fun c40 => ?_) (fun c40 => ?_)
      · replace hw := hw.1 c40
        refine lv_goto (tgt := 1678) hx hb dL_law_1650 (by decide) ?_
        refine lv_iinc (v := (v4 + 5)) (lv' := [(4, .int (v4 + 5)), (6, .long r14), (5, .int r4), (0, .ref b), (1, .ref v1), (2, .ref v2), (3, .ref v3)]) hx hb dL_law_1678 hl (k := 6) rfl rfl (by decide) rfl (fun ls hl => ?_)
        refine lv_goto (tgt := 23) hx hb dL_law_1681 (by decide) ?_
        have hl := lv_sub (l' := [(0, .ref b), (1, .ref v1), (2, .ref v2), (3, .ref v3), (4, .int (v4 + 5))]) hl [3, 4, 5, 6, 0] rfl
        exact hJ23 _ v1 v2 v3 (v4 + 5) (((kc + 1) + 0) + 0) (((ks + 6) + 0) + 0) _ _ hw hP hS ls hl
      · replace hw := hw.2 c40
        refine lv_iconst (v := 0) hx hb dL_law_1648 (by decide) ?_
        obtain ⟨hc41, hs42, hw⟩ := hw
        exact gh_lawret hx hb hr hlocks hw hS hAl hc41 hs42 dL_law_1649
  · replace hw := hw.2 c34
    refine lv_iconst (v := 0) hx hb dL_law_1632 (by decide) ?_
    obtain ⟨hc43, hs44, hw⟩ := hw
    exact gh_lawret hx hb hr hlocks hw hS hAl hc43 hs44 dL_law_1633
def wL_law_1653 (post : Int32 → gh_H → Prop) (px : String → gh_H → Prop) (L : Nat) (xs : Nat → Int32) (J23 : gh_H → Nat → Nat → Nat → Int32 → Nat → Nat → Prop) (G : gh_H) (v1 : Nat) (v2 : Nat) (v3 : Nat) (v4 : Int32) (kc : Nat) (ks : Nat) : Prop := vp_in (v4 + 1) L ∧ (kc + 0 ≤ 601024 ∧ ks + 0 ≤ 7293034 ∧ (∃ G8 F9 : gh_H, gh_two G G8 F9 ∧ ∃ fs6 : List Value, G8 v1 = some (.inr (4, fs6)) ∧ wX4_count (fun r4 G5 => (∀ a9, G5 a9 ≠ none → F9 a9 = none) → ∀ G11 : gh_H, G11 = gh_j G5 F9 → vp_in (v4 + 1) L ∧ ((kc + 0) + 0 ≤ 601024 ∧ (ks + 0) + 0 ≤ 7293034 ∧ (∃ G20 F21 : gh_H, gh_two G11 G20 F21 ∧ ∃ fs18 : List Value, G20 v2 = some (.inr (5, fs18)) ∧ wX5_count (fun r16 G17 => (∀ a9, G17 a9 ≠ none → F21 a9 = none) → ∀ G23 : gh_H, G23 = gh_j G17 F21 → (r4 = r16 → (J23 G23 v1 v2 v3 (v4 + 5) ((kc + 0) + 0) ((ks + 0) + 0))) ∧ (¬ r4 = r16 → (((kc + 0) + 0) ≤ 601024 ∧ ((ks + 0) + 0) ≤ 7293034 ∧ (0 = (1 : Int32))))) (fun _ _ => False) G20 v2 (xs (Int32.toNatClampNeg (v4 + 1)))))) (fun _ _ => False) G8 v1 (xs (Int32.toNatClampNeg (v4 + 1)))))
set_option maxRecDepth 100000 in
set_option maxHeartbeats 4000000 in
theorem lL_law_1653 {p : Program} {l : Launch} {e : Env} {s : State} {m : MethodId} {below : List Frame} {meth : Method} {c : Code} {D : va_G} {AC : Nat → ClassId} {sa : gh_SA} {b L : Nat} {xs : Nat → Int32} {A : Nat → Prop} (hl0 : l.stackTraces = false) (CX : cxL p s m meth c D AC sa b L xs A) (post : Int32 → gh_H → Prop) (px : String → gh_H → Prop) (J23 : gh_H → Nat → Nat → Nat → Int32 → Nat → Nat → Prop) (hJ23 : ∀ (G : gh_H) (v1 : Nat) (v2 : Nat) (v3 : Nat) (v4 : Int32) (kc : Nat) (ks : Nat) (H : Heap) (locs : List Loc), J23 G v1 v2 v3 v4 kc ks → gh_h D vwCl AC A G H → va_S A s.heap H locs → ∀ ls : Array Slot, lv_has ls 8 [(0, .ref b), (1, .ref v1), (2, .ref v2), (3, .ref v3), (4, .int v4)] → W p l e room_1 s m #[Value.ref b] below meth c H locs kc ks (lw_Z below #[Value.ref b] s) (F0 m 23 ls [])) : ∀ (G : gh_H) (v1 : Nat) (v2 : Nat) (v3 : Nat) (v4 : Int32) (kc : Nat) (ks : Nat) (H : Heap) (locs : List Loc), wL_law_1653 post px L xs J23 G v1 v2 v3 v4 kc ks → gh_h D vwCl AC A G H → va_S A s.heap H locs → ∀ ls : Array Slot, lv_has ls 8 [(0, .ref b), (1, .ref v1), (2, .ref v2), (3, .ref v3), (4, .int v4)] → W p l e room_1 s m #[Value.ref b] below meth c H locs kc ks (lw_Z below #[Value.ref b] s) (F0 m 1653 ls []) := by
  obtain ⟨⟨hx, hb, hml, hown, hts⟩, hr, hlocks, hK, hE, hA, hX, hbl, hbA, hAl⟩ := id CX
  intro G v1 v2 v3 v4 kc ks H locs hw hP hS ls hl
  dsimp only [wL_law_1653] at hw
  refine lv_aload_n hx hb dL_law_1653 rfl (lv_at hl 1 rfl) ?_
  refine lv_aload_n hx hb dL_law_1654 rfl (lv_at hl 0 rfl) ?_
  refine lv_iload hx hb dL_law_1655 (lv_at hl 4 rfl) ?_
  refine lv_iconst (v := 1) hx hb dL_law_1657 (by decide) ?_
  refine lv_iadd hx hb dL_law_1658 ?_
  obtain ⟨hi1, hw⟩ := hw
  refine va_sld hx hb hX hbl hbA hS hi1 dL_law_1659 ?_
  obtain ⟨hc2, hs3, hw⟩ := hw
  obtain ⟨G8, F9, ht10, hw⟩ := hw
  obtain ⟨fs6, he7, hw⟩ := hw
  refine gh_fxi ht10 hP hS hA (vx_runV (C := "OwnerLedger") (As := [.int (xs (Int32.toNatClampNeg (v4 + 1)))]) (rest := []) ⟨hx, hb, hml, hown, hts⟩ (mX4_count l hl0 D AC sa _ _ _ _ _ _ hw) (cwV 1 hts (gV kw_35 kw_36 kw_37 kw_1 kw_38) rfl rfl rfl (by decide +kernel) ⟨Nat.le_of_ble_eq_true rfl, Nat.le_of_ble_eq_true rfl⟩) (gh_preV gh_En_ok hK hE (hP.sub (gh_twoL ht10)) hS hA he7 rfl _) rfl rfl hl.1 rfl (lv_room (Nat.le_of_ble_eq_true rfl)) dL_law_1660 ⟨hc2, hs3⟩) (fun r4 G5 H locs hw2 hP hd12 hS => ?_)
  replace hw := hw2
  clear hw2
  obtain ⟨G11, eG11⟩ : ∃ z : gh_H, z = gh_j G5 F9 := ⟨_, rfl⟩
  rw [← eG11] at hP
  replace hw := hw hd12 G11 eG11
  refine lv_aload_n hx hb dL_law_1663 rfl (lv_at hl 2 rfl) ?_
  refine lv_aload_n hx hb dL_law_1664 rfl (lv_at hl 0 rfl) ?_
  refine lv_iload hx hb dL_law_1665 (lv_at hl 4 rfl) ?_
  refine lv_iconst (v := 1) hx hb dL_law_1667 (by decide) ?_
  refine lv_iadd hx hb dL_law_1668 ?_
  obtain ⟨hi13, hw⟩ := hw
  refine va_sld hx hb hX hbl hbA hS hi13 dL_law_1669 ?_
  obtain ⟨hc14, hs15, hw⟩ := hw
  obtain ⟨G20, F21, ht22, hw⟩ := hw
  obtain ⟨fs18, he19, hw⟩ := hw
  refine gh_fxi ht22 hP hS hA (vx_runV (C := "OwnerLedgerModel") (As := [.int (xs (Int32.toNatClampNeg (v4 + 1)))]) (rest := [.int r4]) ⟨hx, hb, hml, hown, hts⟩ (mX5_count l hl0 D AC sa _ _ _ _ _ _ hw) (cwV 1 hts (gV kw_525 kw_526 kw_527 kw_2 kw_528) rfl rfl rfl (by decide +kernel) ⟨Nat.le_of_ble_eq_true rfl, Nat.le_of_ble_eq_true rfl⟩) (gh_preV gh_En_ok hK hE (hP.sub (gh_twoL ht22)) hS hA he19 rfl _) rfl rfl hl.1 rfl (lv_room (Nat.le_of_ble_eq_true rfl)) dL_law_1670 ⟨hc14, hs15⟩) (fun r16 G17 H locs hw2 hP hd24 hS => ?_)
  replace hw := hw2
  clear hw2
  obtain ⟨G23, eG23⟩ : ∃ z : gh_H, z = gh_j G17 F21 := ⟨_, rfl⟩
  rw [← eG23] at hP
  replace hw := hw hd24 G23 eG23
  refine lv_icmp_eq (tgt := 1678) hx hb dL_law_1673 (by decide) (fun c25 => ?_) (fun c25 => ?_)
  · replace hw := hw.1 c25
    refine lv_iinc (v := (v4 + 5)) (lv' := [(4, .int (v4 + 5)), (0, .ref b), (1, .ref v1), (2, .ref v2), (3, .ref v3)]) hx hb dL_law_1678 hl (k := 4) rfl rfl (by decide) rfl (fun ls hl => ?_)
    refine lv_goto (tgt := 23) hx hb dL_law_1681 (by decide) ?_
    have hl := lv_sub (l' := [(0, .ref b), (1, .ref v1), (2, .ref v2), (3, .ref v3), (4, .int (v4 + 5))]) hl [1, 2, 3, 4, 0] rfl
    exact hJ23 _ v1 v2 v3 (v4 + 5) ((kc + 0) + 0) ((ks + 0) + 0) _ _ hw hP hS ls hl
  · replace hw := hw.2 c25
    refine lv_iconst (v := 0) hx hb dL_law_1676 (by decide) ?_
    obtain ⟨hc26, hs27, hw⟩ := hw
    exact gh_lawret hx hb hr hlocks hw hS hAl hc26 hs27 dL_law_1677
def wL_law_23 (post : Int32 → gh_H → Prop) (px : String → gh_H → Prop) (L : Nat) (xs : Nat → Int32) : Nat → gh_H → Nat → Nat → Nat → Int32 → Nat → Nat → Prop
  | 0 => fun _ _ _ _ _ _ _ => False
  | n + 1 => fun G v1 v2 v3 v4 kc ks => (((Int32.ofNat L) - 5) < v4 → (kc ≤ 601024 ∧ ks ≤ 7293034 ∧ (1 = (1 : Int32)))) ∧ (¬ ((Int32.ofNat L) - 5) < v4 → (vp_in v4 L ∧ ((((xs (Int32.toNatClampNeg v4)) &&& 31) = 0 → (wL_law_144 post px L xs (wL_law_23 post px L xs n) G v1 v2 v3 v4 kc ks)) ∧ (((xs (Int32.toNatClampNeg v4)) &&& 31) = 1 → (wL_law_188 post px L xs (wL_law_23 post px L xs n) G v1 v2 v3 v4 kc ks)) ∧ (((xs (Int32.toNatClampNeg v4)) &&& 31) = 2 → (wL_law_256 post px L xs (wL_law_23 post px L xs n) G v1 v2 v3 v4 kc ks)) ∧ (((xs (Int32.toNatClampNeg v4)) &&& 31) = 3 → (wL_law_292 post px L xs (wL_law_23 post px L xs n) G v1 v2 v3 v4 kc ks)) ∧ (((xs (Int32.toNatClampNeg v4)) &&& 31) = 4 → (wL_law_348 post px L xs (wL_law_23 post px L xs n) G v1 v2 v3 v4 kc ks)) ∧ (((xs (Int32.toNatClampNeg v4)) &&& 31) = 5 → (wL_law_404 post px L xs (wL_law_23 post px L xs n) G v1 v2 v3 v4 kc ks)) ∧ (((xs (Int32.toNatClampNeg v4)) &&& 31) = 6 → (wL_law_516 post px L xs (wL_law_23 post px L xs n) G v1 v2 v3 v4 kc ks)) ∧ (((xs (Int32.toNatClampNeg v4)) &&& 31) = 7 → (wL_law_592 post px L xs (wL_law_23 post px L xs n) G v1 v2 v3 v4 kc ks)) ∧ (((xs (Int32.toNatClampNeg v4)) &&& 31) = 8 → (wL_law_648 post px L xs (wL_law_23 post px L xs n) G v1 v2 v3 v4 kc ks)) ∧ (((xs (Int32.toNatClampNeg v4)) &&& 31) = 9 → (wL_law_704 post px L xs (wL_law_23 post px L xs n) G v1 v2 v3 v4 kc ks)) ∧ (((xs (Int32.toNatClampNeg v4)) &&& 31) = 10 → (wL_law_771 post px L xs (wL_law_23 post px L xs n) G v1 v2 v3 v4 kc ks)) ∧ (((xs (Int32.toNatClampNeg v4)) &&& 31) = 11 → (wL_law_826 post px L xs (wL_law_23 post px L xs n) G v1 v2 v3 v4 kc ks)) ∧ (((xs (Int32.toNatClampNeg v4)) &&& 31) = 12 → (wL_law_938 post px L xs (wL_law_23 post px L xs n) G v1 v2 v3 v4 kc ks)) ∧ (((xs (Int32.toNatClampNeg v4)) &&& 31) = 13 → (wL_law_1038 post px L xs (wL_law_23 post px L xs n) G v1 v2 v3 v4 kc ks)) ∧ (((xs (Int32.toNatClampNeg v4)) &&& 31) = 14 → (wL_law_1137 post px L xs (wL_law_23 post px L xs n) G v1 v2 v3 v4 kc ks)) ∧ (((xs (Int32.toNatClampNeg v4)) &&& 31) = 15 → (wL_law_1220 post px L xs (wL_law_23 post px L xs n) G v1 v2 v3 v4 kc ks)) ∧ (((xs (Int32.toNatClampNeg v4)) &&& 31) = 16 → (wL_law_1276 post px L xs (wL_law_23 post px L xs n) G v1 v2 v3 v4 kc ks)) ∧ (((xs (Int32.toNatClampNeg v4)) &&& 31) = 17 → (wL_law_1312 post px L xs (wL_law_23 post px L xs n) G v1 v2 v3 v4 kc ks)) ∧ (((xs (Int32.toNatClampNeg v4)) &&& 31) = 18 → (wL_law_1379 post px L xs (wL_law_23 post px L xs n) G v1 v2 v3 v4 kc ks)) ∧ (((xs (Int32.toNatClampNeg v4)) &&& 31) = 19 → (wL_law_1463 post px L xs (wL_law_23 post px L xs n) G v1 v2 v3 v4 kc ks)) ∧ (((xs (Int32.toNatClampNeg v4)) &&& 31) = 20 → (wL_law_1531 post px L xs (wL_law_23 post px L xs n) G v1 v2 v3 v4 kc ks)) ∧ (((xs (Int32.toNatClampNeg v4)) &&& 31) = 21 → (wL_law_1598 post px L xs (wL_law_23 post px L xs n) G v1 v2 v3 v4 kc ks)) ∧ (((xs (Int32.toNatClampNeg v4)) &&& 31) = 22 → (wL_law_1653 post px L xs (wL_law_23 post px L xs n) G v1 v2 v3 v4 kc ks)) ∧ (¬ ((xs (Int32.toNatClampNeg v4)) &&& 31) = 0 → ¬ ((xs (Int32.toNatClampNeg v4)) &&& 31) = 1 → ¬ ((xs (Int32.toNatClampNeg v4)) &&& 31) = 2 → ¬ ((xs (Int32.toNatClampNeg v4)) &&& 31) = 3 → ¬ ((xs (Int32.toNatClampNeg v4)) &&& 31) = 4 → ¬ ((xs (Int32.toNatClampNeg v4)) &&& 31) = 5 → ¬ ((xs (Int32.toNatClampNeg v4)) &&& 31) = 6 → ¬ ((xs (Int32.toNatClampNeg v4)) &&& 31) = 7 → ¬ ((xs (Int32.toNatClampNeg v4)) &&& 31) = 8 → ¬ ((xs (Int32.toNatClampNeg v4)) &&& 31) = 9 → ¬ ((xs (Int32.toNatClampNeg v4)) &&& 31) = 10 → ¬ ((xs (Int32.toNatClampNeg v4)) &&& 31) = 11 → ¬ ((xs (Int32.toNatClampNeg v4)) &&& 31) = 12 → ¬ ((xs (Int32.toNatClampNeg v4)) &&& 31) = 13 → ¬ ((xs (Int32.toNatClampNeg v4)) &&& 31) = 14 → ¬ ((xs (Int32.toNatClampNeg v4)) &&& 31) = 15 → ¬ ((xs (Int32.toNatClampNeg v4)) &&& 31) = 16 → ¬ ((xs (Int32.toNatClampNeg v4)) &&& 31) = 17 → ¬ ((xs (Int32.toNatClampNeg v4)) &&& 31) = 18 → ¬ ((xs (Int32.toNatClampNeg v4)) &&& 31) = 19 → ¬ ((xs (Int32.toNatClampNeg v4)) &&& 31) = 20 → ¬ ((xs (Int32.toNatClampNeg v4)) &&& 31) = 21 → ¬ ((xs (Int32.toNatClampNeg v4)) &&& 31) = 22 → (wL_law_23 post px L xs n G v1 v2 v3 (v4 + 5) kc ks)))))
set_option maxRecDepth 100000 in
set_option maxHeartbeats 4000000 in
theorem lL_law_23 {p : Program} {l : Launch} {e : Env} {s : State} {m : MethodId} {below : List Frame} {meth : Method} {c : Code} {D : va_G} {AC : Nat → ClassId} {sa : gh_SA} {b L : Nat} {xs : Nat → Int32} {A : Nat → Prop} (hl0 : l.stackTraces = false) (CX : cxL p s m meth c D AC sa b L xs A) (post : Int32 → gh_H → Prop) (px : String → gh_H → Prop) : ∀ n : Nat, ∀ (G : gh_H) (v1 : Nat) (v2 : Nat) (v3 : Nat) (v4 : Int32) (kc : Nat) (ks : Nat) (H : Heap) (locs : List Loc), wL_law_23 post px L xs n G v1 v2 v3 v4 kc ks → gh_h D vwCl AC A G H → va_S A s.heap H locs → ∀ ls : Array Slot, lv_has ls 8 [(0, .ref b), (1, .ref v1), (2, .ref v2), (3, .ref v3), (4, .int v4)] → W p l e room_1 s m #[Value.ref b] below meth c H locs kc ks (lw_Z below #[Value.ref b] s) (F0 m 23 ls []) := by
  obtain ⟨⟨hx, hb, hml, hown, hts⟩, hr, hlocks, hK, hE, hA, hX, hbl, hbA, hAl⟩ := id CX
  intro n
  induction n with
  | zero =>
    intro G v1 v2 v3 v4 kc ks H locs hw
    exact False.elim hw
  | succ n ih =>
    intro G v1 v2 v3 v4 kc ks H locs hw hP hS ls hl
    dsimp only [wL_law_23] at hw
    refine lv_iload hx hb dL_law_23 (lv_at hl 4 rfl) ?_
    refine lv_aload_n hx hb dL_law_25 rfl (lv_at hl 0 rfl) ?_
    refine va_slen hx hb hX hbl hbA hS dL_law_26 ?_
    refine lv_iconst (v := 5) hx hb dL_law_27 (by decide) ?_
    refine lv_isub hx hb dL_law_28 ?_
    refine lv_icmp_gt (tgt := 1684) hx hb dL_law_29 (by decide) (fun c1 => ?_) (fun c1 => ?_)
    · replace hw := hw.1 c1
      refine lv_iconst (v := 1) hx hb dL_law_1684 (by decide) ?_
      obtain ⟨hc2, hs3, hw⟩ := hw
      exact gh_lawret hx hb hr hlocks hw hS hAl hc2 hs3 dL_law_1685
    · replace hw := hw.2 c1
      refine lv_aload_n hx hb dL_law_32 rfl (lv_at hl 0 rfl) ?_
      refine lv_iload hx hb dL_law_33 (lv_at hl 4 rfl) ?_
      obtain ⟨hi4, hw⟩ := hw
      refine va_sld hx hb hX hbl hbA hS hi4 dL_law_35 ?_
      refine lv_bipush (v := 31) hx hb dL_law_36 (by decide) ?_
      refine lv_iand hx hb dL_law_38 ?_
      by_cases c5 : ((xs (Int32.toNatClampNeg v4)) &&& 31) = 0
      · replace hw := hw.1 c5
        refine lv_tableIn (tgt := 144) hx hb dL_law_39 (by rw [c5]; decide) (by rw [c5]; decide) (by rw [c5]; rfl) (by decide) ?_
        have hl := lv_sub (l' := [(0, .ref b), (1, .ref v1), (2, .ref v2), (3, .ref v3), (4, .int v4)]) hl [0, 1, 2, 3, 4] rfl
        exact lL_law_144 hl0 CX post px (wL_law_23 post px L xs n) (fun G9 v19 v29 v39 v49 kc9 ks9 H9 locs9 hw9 hP9 hS9 ls9 hl9 => ih G9 v19 v29 v39 v49 kc9 ks9 H9 locs9 hw9 hP9 hS9 ls9 hl9) _ v1 v2 v3 v4 kc ks _ _ hw hP hS ls hl
      by_cases c6 : ((xs (Int32.toNatClampNeg v4)) &&& 31) = 1
      · replace hw := hw.2.1 c6
        refine lv_tableIn (tgt := 188) hx hb dL_law_39 (by rw [c6]; decide) (by rw [c6]; decide) (by rw [c6]; rfl) (by decide) ?_
        have hl := lv_sub (l' := [(0, .ref b), (1, .ref v1), (2, .ref v2), (3, .ref v3), (4, .int v4)]) hl [0, 1, 2, 3, 4] rfl
        exact lL_law_188 hl0 CX post px (wL_law_23 post px L xs n) (fun G9 v19 v29 v39 v49 kc9 ks9 H9 locs9 hw9 hP9 hS9 ls9 hl9 => ih G9 v19 v29 v39 v49 kc9 ks9 H9 locs9 hw9 hP9 hS9 ls9 hl9) _ v1 v2 v3 v4 kc ks _ _ hw hP hS ls hl
      by_cases c7 : ((xs (Int32.toNatClampNeg v4)) &&& 31) = 2
      · replace hw := hw.2.2.1 c7
        refine lv_tableIn (tgt := 256) hx hb dL_law_39 (by rw [c7]; decide) (by rw [c7]; decide) (by rw [c7]; rfl) (by decide) ?_
        have hl := lv_sub (l' := [(0, .ref b), (1, .ref v1), (2, .ref v2), (3, .ref v3), (4, .int v4)]) hl [0, 1, 2, 3, 4] rfl
        exact lL_law_256 hl0 CX post px (wL_law_23 post px L xs n) (fun G9 v19 v29 v39 v49 kc9 ks9 H9 locs9 hw9 hP9 hS9 ls9 hl9 => ih G9 v19 v29 v39 v49 kc9 ks9 H9 locs9 hw9 hP9 hS9 ls9 hl9) _ v1 v2 v3 v4 kc ks _ _ hw hP hS ls hl
      by_cases c8 : ((xs (Int32.toNatClampNeg v4)) &&& 31) = 3
      · replace hw := hw.2.2.2.1 c8
        refine lv_tableIn (tgt := 292) hx hb dL_law_39 (by rw [c8]; decide) (by rw [c8]; decide) (by rw [c8]; rfl) (by decide) ?_
        have hl := lv_sub (l' := [(0, .ref b), (1, .ref v1), (2, .ref v2), (3, .ref v3), (4, .int v4)]) hl [0, 1, 2, 3, 4] rfl
        exact lL_law_292 hl0 CX post px (wL_law_23 post px L xs n) (fun G9 v19 v29 v39 v49 kc9 ks9 H9 locs9 hw9 hP9 hS9 ls9 hl9 => ih G9 v19 v29 v39 v49 kc9 ks9 H9 locs9 hw9 hP9 hS9 ls9 hl9) _ v1 v2 v3 v4 kc ks _ _ hw hP hS ls hl
      by_cases c9 : ((xs (Int32.toNatClampNeg v4)) &&& 31) = 4
      · replace hw := hw.2.2.2.2.1 c9
        refine lv_tableIn (tgt := 348) hx hb dL_law_39 (by rw [c9]; decide) (by rw [c9]; decide) (by rw [c9]; rfl) (by decide) ?_
        have hl := lv_sub (l' := [(0, .ref b), (1, .ref v1), (2, .ref v2), (3, .ref v3), (4, .int v4)]) hl [0, 1, 2, 3, 4] rfl
        exact lL_law_348 hl0 CX post px (wL_law_23 post px L xs n) (fun G9 v19 v29 v39 v49 kc9 ks9 H9 locs9 hw9 hP9 hS9 ls9 hl9 => ih G9 v19 v29 v39 v49 kc9 ks9 H9 locs9 hw9 hP9 hS9 ls9 hl9) _ v1 v2 v3 v4 kc ks _ _ hw hP hS ls hl
      by_cases c10 : ((xs (Int32.toNatClampNeg v4)) &&& 31) = 5
      · replace hw := hw.2.2.2.2.2.1 c10
        refine lv_tableIn (tgt := 404) hx hb dL_law_39 (by rw [c10]; decide) (by rw [c10]; decide) (by rw [c10]; rfl) (by decide) ?_
        have hl := lv_sub (l' := [(0, .ref b), (1, .ref v1), (2, .ref v2), (3, .ref v3), (4, .int v4)]) hl [0, 1, 2, 3, 4] rfl
        exact lL_law_404 hl0 CX post px (wL_law_23 post px L xs n) (fun G9 v19 v29 v39 v49 kc9 ks9 H9 locs9 hw9 hP9 hS9 ls9 hl9 => ih G9 v19 v29 v39 v49 kc9 ks9 H9 locs9 hw9 hP9 hS9 ls9 hl9) _ v1 v2 v3 v4 kc ks _ _ hw hP hS ls hl
      by_cases c11 : ((xs (Int32.toNatClampNeg v4)) &&& 31) = 6
      · replace hw := hw.2.2.2.2.2.2.1 c11
        refine lv_tableIn (tgt := 516) hx hb dL_law_39 (by rw [c11]; decide) (by rw [c11]; decide) (by rw [c11]; rfl) (by decide) ?_
        have hl := lv_sub (l' := [(0, .ref b), (1, .ref v1), (2, .ref v2), (3, .ref v3), (4, .int v4)]) hl [0, 1, 2, 3, 4] rfl
        exact lL_law_516 hl0 CX post px (wL_law_23 post px L xs n) (fun G9 v19 v29 v39 v49 kc9 ks9 H9 locs9 hw9 hP9 hS9 ls9 hl9 => ih G9 v19 v29 v39 v49 kc9 ks9 H9 locs9 hw9 hP9 hS9 ls9 hl9) _ v1 v2 v3 v4 kc ks _ _ hw hP hS ls hl
      by_cases c12 : ((xs (Int32.toNatClampNeg v4)) &&& 31) = 7
      · replace hw := hw.2.2.2.2.2.2.2.1 c12
        refine lv_tableIn (tgt := 592) hx hb dL_law_39 (by rw [c12]; decide) (by rw [c12]; decide) (by rw [c12]; rfl) (by decide) ?_
        have hl := lv_sub (l' := [(0, .ref b), (1, .ref v1), (2, .ref v2), (3, .ref v3), (4, .int v4)]) hl [0, 1, 2, 3, 4] rfl
        exact lL_law_592 hl0 CX post px (wL_law_23 post px L xs n) (fun G9 v19 v29 v39 v49 kc9 ks9 H9 locs9 hw9 hP9 hS9 ls9 hl9 => ih G9 v19 v29 v39 v49 kc9 ks9 H9 locs9 hw9 hP9 hS9 ls9 hl9) _ v1 v2 v3 v4 kc ks _ _ hw hP hS ls hl
      by_cases c13 : ((xs (Int32.toNatClampNeg v4)) &&& 31) = 8
      · replace hw := hw.2.2.2.2.2.2.2.2.1 c13
        refine lv_tableIn (tgt := 648) hx hb dL_law_39 (by rw [c13]; decide) (by rw [c13]; decide) (by rw [c13]; rfl) (by decide) ?_
        have hl := lv_sub (l' := [(0, .ref b), (1, .ref v1), (2, .ref v2), (3, .ref v3), (4, .int v4)]) hl [0, 1, 2, 3, 4] rfl
        exact lL_law_648 hl0 CX post px (wL_law_23 post px L xs n) (fun G9 v19 v29 v39 v49 kc9 ks9 H9 locs9 hw9 hP9 hS9 ls9 hl9 => ih G9 v19 v29 v39 v49 kc9 ks9 H9 locs9 hw9 hP9 hS9 ls9 hl9) _ v1 v2 v3 v4 kc ks _ _ hw hP hS ls hl
      by_cases c14 : ((xs (Int32.toNatClampNeg v4)) &&& 31) = 9
      · replace hw := hw.2.2.2.2.2.2.2.2.2.1 c14
        refine lv_tableIn (tgt := 704) hx hb dL_law_39 (by rw [c14]; decide) (by rw [c14]; decide) (by rw [c14]; rfl) (by decide) ?_
        have hl := lv_sub (l' := [(0, .ref b), (1, .ref v1), (2, .ref v2), (3, .ref v3), (4, .int v4)]) hl [0, 1, 2, 3, 4] rfl
        exact lL_law_704 hl0 CX post px (wL_law_23 post px L xs n) (fun G9 v19 v29 v39 v49 kc9 ks9 H9 locs9 hw9 hP9 hS9 ls9 hl9 => ih G9 v19 v29 v39 v49 kc9 ks9 H9 locs9 hw9 hP9 hS9 ls9 hl9) _ v1 v2 v3 v4 kc ks _ _ hw hP hS ls hl
      by_cases c15 : ((xs (Int32.toNatClampNeg v4)) &&& 31) = 10
      · replace hw := hw.2.2.2.2.2.2.2.2.2.2.1 c15
        refine lv_tableIn (tgt := 771) hx hb dL_law_39 (by rw [c15]; decide) (by rw [c15]; decide) (by rw [c15]; rfl) (by decide) ?_
        have hl := lv_sub (l' := [(0, .ref b), (1, .ref v1), (2, .ref v2), (3, .ref v3), (4, .int v4)]) hl [0, 1, 2, 3, 4] rfl
        exact lL_law_771 hl0 CX post px (wL_law_23 post px L xs n) (fun G9 v19 v29 v39 v49 kc9 ks9 H9 locs9 hw9 hP9 hS9 ls9 hl9 => ih G9 v19 v29 v39 v49 kc9 ks9 H9 locs9 hw9 hP9 hS9 ls9 hl9) _ v1 v2 v3 v4 kc ks _ _ hw hP hS ls hl
      by_cases c16 : ((xs (Int32.toNatClampNeg v4)) &&& 31) = 11
      · replace hw := hw.2.2.2.2.2.2.2.2.2.2.2.1 c16
        refine lv_tableIn (tgt := 826) hx hb dL_law_39 (by rw [c16]; decide) (by rw [c16]; decide) (by rw [c16]; rfl) (by decide) ?_
        have hl := lv_sub (l' := [(0, .ref b), (1, .ref v1), (2, .ref v2), (3, .ref v3), (4, .int v4)]) hl [0, 1, 2, 3, 4] rfl
        exact lL_law_826 hl0 CX post px (wL_law_23 post px L xs n) (fun G9 v19 v29 v39 v49 kc9 ks9 H9 locs9 hw9 hP9 hS9 ls9 hl9 => ih G9 v19 v29 v39 v49 kc9 ks9 H9 locs9 hw9 hP9 hS9 ls9 hl9) _ v1 v2 v3 v4 kc ks _ _ hw hP hS ls hl
      by_cases c17 : ((xs (Int32.toNatClampNeg v4)) &&& 31) = 12
      · replace hw := hw.2.2.2.2.2.2.2.2.2.2.2.2.1 c17
        refine lv_tableIn (tgt := 938) hx hb dL_law_39 (by rw [c17]; decide) (by rw [c17]; decide) (by rw [c17]; rfl) (by decide) ?_
        have hl := lv_sub (l' := [(0, .ref b), (1, .ref v1), (2, .ref v2), (3, .ref v3), (4, .int v4)]) hl [0, 1, 2, 3, 4] rfl
        exact lL_law_938 hl0 CX post px (wL_law_23 post px L xs n) (fun G9 v19 v29 v39 v49 kc9 ks9 H9 locs9 hw9 hP9 hS9 ls9 hl9 => ih G9 v19 v29 v39 v49 kc9 ks9 H9 locs9 hw9 hP9 hS9 ls9 hl9) _ v1 v2 v3 v4 kc ks _ _ hw hP hS ls hl
      by_cases c18 : ((xs (Int32.toNatClampNeg v4)) &&& 31) = 13
      · replace hw := hw.2.2.2.2.2.2.2.2.2.2.2.2.2.1 c18
        refine lv_tableIn (tgt := 1038) hx hb dL_law_39 (by rw [c18]; decide) (by rw [c18]; decide) (by rw [c18]; rfl) (by decide) ?_
        have hl := lv_sub (l' := [(0, .ref b), (1, .ref v1), (2, .ref v2), (3, .ref v3), (4, .int v4)]) hl [0, 1, 2, 3, 4] rfl
        exact lL_law_1038 hl0 CX post px (wL_law_23 post px L xs n) (fun G9 v19 v29 v39 v49 kc9 ks9 H9 locs9 hw9 hP9 hS9 ls9 hl9 => ih G9 v19 v29 v39 v49 kc9 ks9 H9 locs9 hw9 hP9 hS9 ls9 hl9) _ v1 v2 v3 v4 kc ks _ _ hw hP hS ls hl
      by_cases c19 : ((xs (Int32.toNatClampNeg v4)) &&& 31) = 14
      · replace hw := hw.2.2.2.2.2.2.2.2.2.2.2.2.2.2.1 c19
        refine lv_tableIn (tgt := 1137) hx hb dL_law_39 (by rw [c19]; decide) (by rw [c19]; decide) (by rw [c19]; rfl) (by decide) ?_
        have hl := lv_sub (l' := [(0, .ref b), (1, .ref v1), (2, .ref v2), (3, .ref v3), (4, .int v4)]) hl [0, 1, 2, 3, 4] rfl
        exact lL_law_1137 hl0 CX post px (wL_law_23 post px L xs n) (fun G9 v19 v29 v39 v49 kc9 ks9 H9 locs9 hw9 hP9 hS9 ls9 hl9 => ih G9 v19 v29 v39 v49 kc9 ks9 H9 locs9 hw9 hP9 hS9 ls9 hl9) _ v1 v2 v3 v4 kc ks _ _ hw hP hS ls hl
      by_cases c20 : ((xs (Int32.toNatClampNeg v4)) &&& 31) = 15
      · replace hw := hw.2.2.2.2.2.2.2.2.2.2.2.2.2.2.2.1 c20
        refine lv_tableIn (tgt := 1220) hx hb dL_law_39 (by rw [c20]; decide) (by rw [c20]; decide) (by rw [c20]; rfl) (by decide) ?_
        have hl := lv_sub (l' := [(0, .ref b), (1, .ref v1), (2, .ref v2), (3, .ref v3), (4, .int v4)]) hl [0, 1, 2, 3, 4] rfl
        exact lL_law_1220 hl0 CX post px (wL_law_23 post px L xs n) (fun G9 v19 v29 v39 v49 kc9 ks9 H9 locs9 hw9 hP9 hS9 ls9 hl9 => ih G9 v19 v29 v39 v49 kc9 ks9 H9 locs9 hw9 hP9 hS9 ls9 hl9) _ v1 v2 v3 v4 kc ks _ _ hw hP hS ls hl
      by_cases c21 : ((xs (Int32.toNatClampNeg v4)) &&& 31) = 16
      · replace hw := hw.2.2.2.2.2.2.2.2.2.2.2.2.2.2.2.2.1 c21
        refine lv_tableIn (tgt := 1276) hx hb dL_law_39 (by rw [c21]; decide) (by rw [c21]; decide) (by rw [c21]; rfl) (by decide) ?_
        have hl := lv_sub (l' := [(0, .ref b), (1, .ref v1), (2, .ref v2), (3, .ref v3), (4, .int v4)]) hl [0, 1, 2, 3, 4] rfl
        exact lL_law_1276 hl0 CX post px (wL_law_23 post px L xs n) (fun G9 v19 v29 v39 v49 kc9 ks9 H9 locs9 hw9 hP9 hS9 ls9 hl9 => ih G9 v19 v29 v39 v49 kc9 ks9 H9 locs9 hw9 hP9 hS9 ls9 hl9) _ v1 v2 v3 v4 kc ks _ _ hw hP hS ls hl
      by_cases c22 : ((xs (Int32.toNatClampNeg v4)) &&& 31) = 17
      · replace hw := hw.2.2.2.2.2.2.2.2.2.2.2.2.2.2.2.2.2.1 c22
        refine lv_tableIn (tgt := 1312) hx hb dL_law_39 (by rw [c22]; decide) (by rw [c22]; decide) (by rw [c22]; rfl) (by decide) ?_
        have hl := lv_sub (l' := [(0, .ref b), (1, .ref v1), (2, .ref v2), (3, .ref v3), (4, .int v4)]) hl [0, 1, 2, 3, 4] rfl
        exact lL_law_1312 hl0 CX post px (wL_law_23 post px L xs n) (fun G9 v19 v29 v39 v49 kc9 ks9 H9 locs9 hw9 hP9 hS9 ls9 hl9 => ih G9 v19 v29 v39 v49 kc9 ks9 H9 locs9 hw9 hP9 hS9 ls9 hl9) _ v1 v2 v3 v4 kc ks _ _ hw hP hS ls hl
      by_cases c23 : ((xs (Int32.toNatClampNeg v4)) &&& 31) = 18
      · replace hw := hw.2.2.2.2.2.2.2.2.2.2.2.2.2.2.2.2.2.2.1 c23
        refine lv_tableIn (tgt := 1379) hx hb dL_law_39 (by rw [c23]; decide) (by rw [c23]; decide) (by rw [c23]; rfl) (by decide) ?_
        have hl := lv_sub (l' := [(0, .ref b), (1, .ref v1), (2, .ref v2), (3, .ref v3), (4, .int v4)]) hl [0, 1, 2, 3, 4] rfl
        exact lL_law_1379 hl0 CX post px (wL_law_23 post px L xs n) (fun G9 v19 v29 v39 v49 kc9 ks9 H9 locs9 hw9 hP9 hS9 ls9 hl9 => ih G9 v19 v29 v39 v49 kc9 ks9 H9 locs9 hw9 hP9 hS9 ls9 hl9) _ v1 v2 v3 v4 kc ks _ _ hw hP hS ls hl
      by_cases c24 : ((xs (Int32.toNatClampNeg v4)) &&& 31) = 19
      · replace hw := hw.2.2.2.2.2.2.2.2.2.2.2.2.2.2.2.2.2.2.2.1 c24
        refine lv_tableIn (tgt := 1463) hx hb dL_law_39 (by rw [c24]; decide) (by rw [c24]; decide) (by rw [c24]; rfl) (by decide) ?_
        have hl := lv_sub (l' := [(0, .ref b), (1, .ref v1), (2, .ref v2), (3, .ref v3), (4, .int v4)]) hl [0, 1, 2, 3, 4] rfl
        exact lL_law_1463 hl0 CX post px (wL_law_23 post px L xs n) (fun G9 v19 v29 v39 v49 kc9 ks9 H9 locs9 hw9 hP9 hS9 ls9 hl9 => ih G9 v19 v29 v39 v49 kc9 ks9 H9 locs9 hw9 hP9 hS9 ls9 hl9) _ v1 v2 v3 v4 kc ks _ _ hw hP hS ls hl
      by_cases c25 : ((xs (Int32.toNatClampNeg v4)) &&& 31) = 20
      · replace hw := hw.2.2.2.2.2.2.2.2.2.2.2.2.2.2.2.2.2.2.2.2.1 c25
        refine lv_tableIn (tgt := 1531) hx hb dL_law_39 (by rw [c25]; decide) (by rw [c25]; decide) (by rw [c25]; rfl) (by decide) ?_
        have hl := lv_sub (l' := [(0, .ref b), (1, .ref v1), (2, .ref v2), (3, .ref v3), (4, .int v4)]) hl [0, 1, 2, 3, 4] rfl
        exact lL_law_1531 hl0 CX post px (wL_law_23 post px L xs n) (fun G9 v19 v29 v39 v49 kc9 ks9 H9 locs9 hw9 hP9 hS9 ls9 hl9 => ih G9 v19 v29 v39 v49 kc9 ks9 H9 locs9 hw9 hP9 hS9 ls9 hl9) _ v1 v2 v3 v4 kc ks _ _ hw hP hS ls hl
      by_cases c26 : ((xs (Int32.toNatClampNeg v4)) &&& 31) = 21
      · replace hw := hw.2.2.2.2.2.2.2.2.2.2.2.2.2.2.2.2.2.2.2.2.2.1 c26
        refine lv_tableIn (tgt := 1598) hx hb dL_law_39 (by rw [c26]; decide) (by rw [c26]; decide) (by rw [c26]; rfl) (by decide) ?_
        have hl := lv_sub (l' := [(0, .ref b), (1, .ref v1), (2, .ref v2), (3, .ref v3), (4, .int v4)]) hl [0, 1, 2, 3, 4] rfl
        exact lL_law_1598 hl0 CX post px (wL_law_23 post px L xs n) (fun G9 v19 v29 v39 v49 kc9 ks9 H9 locs9 hw9 hP9 hS9 ls9 hl9 => ih G9 v19 v29 v39 v49 kc9 ks9 H9 locs9 hw9 hP9 hS9 ls9 hl9) _ v1 v2 v3 v4 kc ks _ _ hw hP hS ls hl
      by_cases c27 : ((xs (Int32.toNatClampNeg v4)) &&& 31) = 22
      · replace hw := hw.2.2.2.2.2.2.2.2.2.2.2.2.2.2.2.2.2.2.2.2.2.2.1 c27
        refine lv_tableIn (tgt := 1653) hx hb dL_law_39 (by rw [c27]; decide) (by rw [c27]; decide) (by rw [c27]; rfl) (by decide) ?_
        have hl := lv_sub (l' := [(0, .ref b), (1, .ref v1), (2, .ref v2), (3, .ref v3), (4, .int v4)]) hl [0, 1, 2, 3, 4] rfl
        exact lL_law_1653 hl0 CX post px (wL_law_23 post px L xs n) (fun G9 v19 v29 v39 v49 kc9 ks9 H9 locs9 hw9 hP9 hS9 ls9 hl9 => ih G9 v19 v29 v39 v49 kc9 ks9 H9 locs9 hw9 hP9 hS9 ls9 hl9) _ v1 v2 v3 v4 kc ks _ _ hw hP hS ls hl
      replace hw := hw.2.2.2.2.2.2.2.2.2.2.2.2.2.2.2.2.2.2.2.2.2.2.2 c5 c6 c7 c8 c9 c10 c11 c12 c13 c14 c15 c16 c17 c18 c19 c20 c21 c22 c23 c24 c25 c26 c27
      refine lv_tableOut (tgt := 1678) hx hb dL_law_39 (by have h0 := lv_neT (a := 0) c5 (by decide); have h1 := lv_neT (a := 1) c6 (by decide); have h2 := lv_neT (a := 2) c7 (by decide); have h3 := lv_neT (a := 3) c8 (by decide); have h4 := lv_neT (a := 4) c9 (by decide); have h5 := lv_neT (a := 5) c10 (by decide); have h6 := lv_neT (a := 6) c11 (by decide); have h7 := lv_neT (a := 7) c12 (by decide); have h8 := lv_neT (a := 8) c13 (by decide); have h9 := lv_neT (a := 9) c14 (by decide); have h10 := lv_neT (a := 10) c15 (by decide); have h11 := lv_neT (a := 11) c16 (by decide); have h12 := lv_neT (a := 12) c17 (by decide); have h13 := lv_neT (a := 13) c18 (by decide); have h14 := lv_neT (a := 14) c19 (by decide); have h15 := lv_neT (a := 15) c20 (by decide); have h16 := lv_neT (a := 16) c21 (by decide); have h17 := lv_neT (a := 17) c22 (by decide); have h18 := lv_neT (a := 18) c23 (by decide); have h19 := lv_neT (a := 19) c24 (by decide); have h20 := lv_neT (a := 20) c25 (by decide); have h21 := lv_neT (a := 21) c26 (by decide); have h22 := lv_neT (a := 22) c27 (by decide); omega) (by decide) ?_
      refine lv_iinc (v := (v4 + 5)) (lv' := [(4, .int (v4 + 5)), (0, .ref b), (1, .ref v1), (2, .ref v2), (3, .ref v3)]) hx hb dL_law_1678 hl (k := 4) rfl rfl (by decide) rfl (fun ls hl => ?_)
      refine lv_goto (tgt := 23) hx hb dL_law_1681 (by decide) ?_
      have hl := lv_sub (l' := [(0, .ref b), (1, .ref v1), (2, .ref v2), (3, .ref v3), (4, .int (v4 + 5))]) hl [1, 2, 3, 4, 0] rfl
      exact ih _ v1 v2 v3 (v4 + 5) kc ks _ _ hw hP hS ls hl
def wL_law (post : Int32 → gh_H → Prop) (px : String → gh_H → Prop) (L : Nat) (xs : Nat → Int32) (G : gh_H) : Prop := 0 + 1 ≤ 601024 ∧ 0 + 11 ≤ 7293034 ∧ (∀ q3 : Nat, G q3 = none → ∀ G4 : gh_H, G4 = gh_up G q3 (.inr (4, [.null, .null, .null, .null, .int 0, .int 0, .int 0, .int 0, .int 0, .int 0, .int 0])) → (0 + 1) + 4 ≤ 601024 ∧ (0 + 11) + 76 ≤ 7293034 ∧ (∃ G11 F12 : gh_H, gh_two G4 G11 F12 ∧ wX4_init (fun G10 => (∀ a9, G10 a9 ≠ none → F12 a9 = none) → ∀ G14 : gh_H, G14 = gh_j G10 F12 → ((0 + 1) + 4) + 1 ≤ 601024 ∧ ((0 + 11) + 76) + 24 ≤ 7293034 ∧ (∀ q18 : Nat, G14 q18 = none → ∀ G19 : gh_H, G19 = gh_up G14 q18 (.inr (5, [.int 0, .int 0, .int 0, .int 0, .null, .null, .int 0, .null, .int 0, .null, .null, .null, .null, .null, .null, .null, .null, .int 0, .null, .null, .null, .null, .null, .int 0])) → (((0 + 1) + 4) + 1) + 16 ≤ 601024 ∧ (((0 + 11) + 76) + 24) + 1002 ≤ 7293034 ∧ (∃ G26 F27 : gh_H, gh_two G19 G26 F27 ∧ wX5_init (fun G25 => (∀ a9, G25 a9 ≠ none → F27 a9 = none) → ∀ G29 : gh_H, G29 = gh_j G25 F27 → ((((0 + 1) + 4) + 1) + 16) + 1 ≤ 601024 ∧ ((((0 + 11) + 76) + 24) + 1002) + 1 ≤ 7293034 ∧ (∀ q33 : Nat, G29 q33 = none → ∀ G34 : gh_H, G34 = gh_up G29 q33 (.inl (1, 1, .inr (.inl (fun _ => 0)))) → wL_law_23 post px L xs 513 G34 q3 q18 q33 0 (((((0 + 1) + 4) + 1) + 16) + 1) (((((0 + 11) + 76) + 24) + 1002) + 1))) (fun _ _ => False) G26 q18))) (fun _ _ => False) G11 q3))
set_option maxRecDepth 100000 in
set_option maxHeartbeats 4000000 in
theorem mL_law {p : Program} {l : Launch} {e : Env} {s : State} {m : MethodId} {below : List Frame} {meth : Method} {c : Code} {D : va_G} {AC : Nat → ClassId} {sa : gh_SA} {b L : Nat} {xs : Nat → Int32} {A : Nat → Prop} (hl0 : l.stackTraces = false) (CX : cxL p s m meth c D AC sa b L xs A) (post : Int32 → gh_H → Prop) (px : String → gh_H → Prop) (G : gh_H) (hw : wL_law post px L xs G) (hP : gh_h D vwCl AC A G s.heap) : W p l e room_1 s m #[Value.ref b] below meth c s.heap [] 0 0 (lw_Z below #[Value.ref b] s) (entryFrame m ([Value.ref b] : List Value).toArray 8) := by
  obtain ⟨⟨hx, hb, hml, hown, hts⟩, hr, hlocks, hK, hE, hA, hX, hbl, hbA, hAl⟩ := id CX
  have hS : va_S A s.heap s.heap [] := va_S.rf
  have hl := lv_entry ([.ref b]) (n := 8) (Nat.le_of_ble_eq_true rfl)
  rw [lg_entry_eq]
  generalize (lg_sl ([.ref b]) ++ List.replicate (8 - (lg_sl ([.ref b])).length) Slot.unset).toArray = ls at hl ⊢
  have hl : lv_has ls 8 [(0, .ref b)] := hl
  dsimp only [wL_law] at hw
  obtain ⟨hc1, hs2, hw⟩ := hw
  refine gh_new (ci := 4) (fs := [.null, .null, .null, .null, .int 0, .int 0, .int 0, .int 0, .int 0, .int 0, .int 0]) (C := "OwnerLedger") (T := TX4) (N := 11) hx hb hts (fun w h => gT_up (inX4 w h)) tyX4 tyX4_ok hown (hts _ (gT_up kw_12)) (hts _ (gT_up kw_13)) (hts _ (gT_up kw_1)) hK hP hS hA rfl (fun j hj => by rcases (show j = 0 ∨ j = 1 ∨ j = 2 ∨ j = 3 ∨ j = 4 ∨ j = 5 ∨ j = 6 ∨ j = 7 ∨ j = 8 ∨ j = 9 ∨ j = 10 by omega) with rfl | rfl | rfl | rfl | rfl | rfl | rfl | rfl | rfl | rfl | rfl <;> rfl) hc1 hs2 dL_law_0 (fun q3 G4 H hq6 eG5 hP hS => ?_)
  replace hw := hw q3 hq6 G4 eG5
  refine lv_dup hx hb dL_law_3 rfl ?_
  obtain ⟨hc7, hs8, hw⟩ := hw
  obtain ⟨G11, F12, ht13, hw⟩ := hw
  refine gh_fM ht13 hP hS hA (va_runI (As := []) (rest := [.ref q3]) ⟨hx, hb, hml, hown, hts⟩ (mX4_init l hl0 D AC sa _ _ _ _ _ hw) (cwI 0 hts (gG kw_16) rfl rfl rfl (hts _ (gT_up kw_1)) (hts _ (gT_up kw_14)) (hts _ (gT_up kw_15)) rfl (by decide +kernel) ⟨Nat.le_of_ble_eq_true rfl, Nat.le_of_ble_eq_true rfl⟩) (gh_pre gh_En_ok hK hE (hP.sub (gh_twoL ht13)) hS hA _) rfl rfl hl.1 rfl (lv_room (Nat.le_of_ble_eq_true rfl)) dL_law_4 ⟨hc7, hs8⟩) (fun G10 H locs hw2 hP hd15 hS => ?_)
  replace hw := hw2
  clear hw2
  obtain ⟨G14, eG14⟩ : ∃ z : gh_H, z = gh_j G10 F12 := ⟨_, rfl⟩
  rw [← eG14] at hP
  replace hw := hw hd15 G14 eG14
  refine lv_astore_n (lv' := [(1, .ref q3), (0, .ref b)]) hx hb dL_law_7 rfl hl (by decide) rfl (fun ls hl => ?_)
  obtain ⟨hc16, hs17, hw⟩ := hw
  refine gh_new (ci := 5) (fs := [.int 0, .int 0, .int 0, .int 0, .null, .null, .int 0, .null, .int 0, .null, .null, .null, .null, .null, .null, .null, .null, .int 0, .null, .null, .null, .null, .null, .int 0]) (C := "OwnerLedgerModel") (T := TX5) (N := 24) hx hb hts (fun w h => gT_up (inX5 w h)) tyX5 tyX5_ok hown (hts _ (gT_up kw_366)) (hts _ (gT_up kw_367)) (hts _ (gT_up kw_2)) hK hP hS hA rfl (fun j hj => by rcases (show j = 0 ∨ j = 1 ∨ j = 2 ∨ j = 3 ∨ j = 4 ∨ j = 5 ∨ j = 6 ∨ j = 7 ∨ j = 8 ∨ j = 9 ∨ j = 10 ∨ j = 11 ∨ j = 12 ∨ j = 13 ∨ j = 14 ∨ j = 15 ∨ j = 16 ∨ j = 17 ∨ j = 18 ∨ j = 19 ∨ j = 20 ∨ j = 21 ∨ j = 22 ∨ j = 23 by omega) with rfl | rfl | rfl | rfl | rfl | rfl | rfl | rfl | rfl | rfl | rfl | rfl | rfl | rfl | rfl | rfl | rfl | rfl | rfl | rfl | rfl | rfl | rfl | rfl <;> rfl) hc16 hs17 dL_law_8 (fun q18 G19 H hq21 eG20 hP hS => ?_)
  replace hw := hw q18 hq21 G19 eG20
  refine lv_dup hx hb dL_law_11 rfl ?_
  obtain ⟨hc22, hs23, hw⟩ := hw
  obtain ⟨G26, F27, ht28, hw⟩ := hw
  refine gh_fM ht28 hP hS hA (va_runI (As := []) (rest := [.ref q18]) ⟨hx, hb, hml, hown, hts⟩ (mX5_init l hl0 D AC sa _ _ _ _ _ hw) (cwI 0 hts (gG kw_370) rfl rfl rfl (hts _ (gT_up kw_2)) (hts _ (gT_up kw_368)) (hts _ (gT_up kw_369)) rfl (by decide +kernel) ⟨Nat.le_of_ble_eq_true rfl, Nat.le_of_ble_eq_true rfl⟩) (gh_pre gh_En_ok hK hE (hP.sub (gh_twoL ht28)) hS hA _) rfl rfl hl.1 rfl (lv_room (Nat.le_of_ble_eq_true rfl)) dL_law_12 ⟨hc22, hs23⟩) (fun G25 H locs hw2 hP hd30 hS => ?_)
  replace hw := hw2
  clear hw2
  obtain ⟨G29, eG29⟩ : ∃ z : gh_H, z = gh_j G25 F27 := ⟨_, rfl⟩
  rw [← eG29] at hP
  replace hw := hw hd30 G29 eG29
  refine lv_astore_n (lv' := [(2, .ref q18), (1, .ref q3), (0, .ref b)]) hx hb dL_law_15 rfl hl (by decide) rfl (fun ls hl => ?_)
  refine lv_iconst (v := 1) hx hb dL_law_16 (by decide) ?_
  obtain ⟨hc31, hs32, hw⟩ := hw
  refine gh_newl (k := 1) hx hb (hts _ (gT_up kw_397)) hK rfl hP hS hA (n := 1) (N' := 1) (by decide) (by decide) (by decide) hc31 hs32 dL_law_17 (fun q33 G34 H hq36 eG35 hP hS => ?_)
  replace hw := hw q33 hq36 G34 eG35
  refine lv_astore_n (lv' := [(3, .ref q33), (2, .ref q18), (1, .ref q3), (0, .ref b)]) hx hb dL_law_19 rfl hl (by decide) rfl (fun ls hl => ?_)
  refine lv_iconst (v := 0) hx hb dL_law_20 (by decide) ?_
  refine lv_istore (lv' := [(4, .int 0), (3, .ref q33), (2, .ref q18), (1, .ref q3), (0, .ref b)]) hx hb dL_law_21 hl (by decide) rfl (fun ls hl => ?_)
  have hl := lv_sub (l' := [(0, .ref b), (1, .ref q3), (2, .ref q18), (3, .ref q33), (4, .int 0)]) hl [4, 3, 2, 1, 0] rfl
  exact lL_law_23 hl0 CX post px _ _ q3 q18 q33 0 (((((0 + 1) + 4) + 1) + 16) + 1) (((((0 + 11) + 76) + 24) + 1002) + 1) _ _ hw hP hS ls hl
