def wL_law_826 (post : Int32 → gh_H → Prop) (px : String → gh_H → Prop) (L : Nat) (xs : Nat → Int32) (J23 : gh_H → Nat → Nat → Nat → Int32 → Nat → Nat → Prop) (G : gh_H) (v1 : Nat) (v2 : Nat) (v3 : Nat) (v4 : Int32) (kc : Nat) (ks : Nat) : Prop := vp_in (v4 + 1) L ∧ (vp_in (v4 + 2) L ∧ (vp_in (v4 + 3) L ∧ (vp_in (v4 + 4) L ∧ (kc + 5 ≤ 601024 ∧ ks + 29 ≤ 7293034 ∧ (∃ G9 F10 : gh_H, gh_two G G9 F10 ∧ wL_invoice (fun r7 G8 => (∀ a9, G8 a9 ≠ none → F10 a9 = none) → ∀ G12 : gh_H, G12 = gh_j G8 F10 → vp_in (v4 + 1) L ∧ (vp_in (v4 + 2) L ∧ (vp_in (v4 + 3) L ∧ (vp_in (v4 + 4) L ∧ ((kc + 5) + 0 ≤ 601024 ∧ (ks + 29) + 0 ≤ 7293034 ∧ (∃ G24 F25 : gh_H, gh_two G12 G24 F25 ∧ ∃ fs22 : List Value, G24 v2 = some (.inr (5, fs22)) ∧ wX5_invoice (fun r20 G21 => (∀ a9, G21 a9 ≠ none → F25 a9 = none) → ∀ G27 : gh_H, G27 = gh_j G21 F25 → ((kc + 5) + 0) + 0 ≤ 601024 ∧ ((ks + 29) + 0) + 0 ≤ 7293034 ∧ (∃ G35 F36 : gh_H, gh_two G27 G35 F36 ∧ ∃ fs33 : List Value, G35 v2 = some (.inr (5, fs33)) ∧ wX5_thrown (fun r31 G32 => (∀ a9, G32 a9 ≠ none → F36 a9 = none) → ∀ G38 : gh_H, G38 = gh_j G32 F36 → (r31 = r7 → ((¬ r7 = 0 → (J23 G38 v1 v2 v3 (v4 + 5) (((kc + 5) + 0) + 0) (((ks + 29) + 0) + 0))) ∧ (r7 = 0 → (∃ (n42 : Nat) (f43 : Nat → Int64), G38 v3 = some (.inl (1, n42, .inr (.inl f43))) ∧ vp_in 0 n42 ∧ (((lg_cmp (f43 (Int32.toNatClampNeg 0)) (Int32.toInt64 r20)) = 0 → (J23 G38 v1 v2 v3 (v4 + 5) (((kc + 5) + 0) + 0) (((ks + 29) + 0) + 0))) ∧ (¬ (lg_cmp (f43 (Int32.toNatClampNeg 0)) (Int32.toInt64 r20)) = 0 → ((((kc + 5) + 0) + 0) ≤ 601024 ∧ (((ks + 29) + 0) + 0) ≤ 7293034 ∧ (0 = (1 : Int32))))))))) ∧ (¬ r31 = r7 → ((((kc + 5) + 0) + 0) ≤ 601024 ∧ (((ks + 29) + 0) + 0) ≤ 7293034 ∧ (0 = (1 : Int32))))) (fun _ _ => False) G35 v2)) (fun _ _ => False) G24 v2 (xs (Int32.toNatClampNeg (v4 + 1))) (((Int32.toInt64 (xs (Int32.toNatClampNeg (v4 + 2)))) <<< (Int32.toInt64 32 &&& 63)) ||| ((Int32.toInt64 (xs (Int32.toNatClampNeg (v4 + 3)))) &&& 4294967295)) (xs (Int32.toNatClampNeg (v4 + 4))))))))) (fun _ _ => False) G9 v1 (xs (Int32.toNatClampNeg (v4 + 1))) (((Int32.toInt64 (xs (Int32.toNatClampNeg (v4 + 2)))) <<< (Int32.toInt64 32 &&& 63)) ||| ((Int32.toInt64 (xs (Int32.toNatClampNeg (v4 + 3)))) &&& 4294967295)) (xs (Int32.toNatClampNeg (v4 + 4))) v3)))))
set_option maxRecDepth 100000 in
set_option maxHeartbeats 4000000 in
theorem lL_law_826 {p : Program} {l : Launch} {e : Env} {s : State} {m : MethodId} {below : List Frame} {meth : Method} {c : Code} {D : va_G} {AC : Nat → ClassId} {sa : gh_SA} {b L : Nat} {xs : Nat → Int32} {A : Nat → Prop} (hl0 : l.stackTraces = false) (CX : cxL p s m meth c D AC sa b L xs A) (post : Int32 → gh_H → Prop) (px : String → gh_H → Prop) (J23 : gh_H → Nat → Nat → Nat → Int32 → Nat → Nat → Prop) (hJ23 : ∀ (G : gh_H) (v1 : Nat) (v2 : Nat) (v3 : Nat) (v4 : Int32) (kc : Nat) (ks : Nat) (H : Heap) (locs : List Loc), J23 G v1 v2 v3 v4 kc ks → gh_h D vwCl AC A G H → va_S A s.heap H locs → ∀ ls : Array Slot, lv_has ls 8 [(0, .ref b), (1, .ref v1), (2, .ref v2), (3, .ref v3), (4, .int v4)] → W p l e room_1 s m #[Value.ref b] below meth c H locs kc ks (lw_Z below #[Value.ref b] s) (F0 m 23 ls [])) : ∀ (G : gh_H) (v1 : Nat) (v2 : Nat) (v3 : Nat) (v4 : Int32) (kc : Nat) (ks : Nat) (H : Heap) (locs : List Loc), wL_law_826 post px L xs J23 G v1 v2 v3 v4 kc ks → gh_h D vwCl AC A G H → va_S A s.heap H locs → ∀ ls : Array Slot, lv_has ls 8 [(0, .ref b), (1, .ref v1), (2, .ref v2), (3, .ref v3), (4, .int v4)] → W p l e room_1 s m #[Value.ref b] below meth c H locs kc ks (lw_Z below #[Value.ref b] s) (F0 m 826 ls []) := by
  obtain ⟨⟨hx, hb, hml, hown, hts⟩, hr, hlocks, hK, hE, hA, hX, hbl, hbA, hAl⟩ := id CX
  intro G v1 v2 v3 v4 kc ks H locs hw hP hS ls hl
  dsimp only [wL_law_826] at hw
  refine lv_aload_n hx hb dL_law_826 rfl (lv_at hl 1 rfl) ?_
  refine lv_aload_n hx hb dL_law_827 rfl (lv_at hl 0 rfl) ?_
  refine lv_iload hx hb dL_law_828 (lv_at hl 4 rfl) ?_
  refine lv_iconst (v := 1) hx hb dL_law_830 (by decide) ?_
  refine lv_iadd hx hb dL_law_831 ?_
  obtain ⟨hi1, hw⟩ := hw
  refine va_sld hx hb hX hbl hbA hS hi1 dL_law_832 ?_
  refine lv_aload_n hx hb dL_law_833 rfl (lv_at hl 0 rfl) ?_
  refine lv_iload hx hb dL_law_834 (lv_at hl 4 rfl) ?_
  refine lv_iconst (v := 2) hx hb dL_law_836 (by decide) ?_
  refine lv_iadd hx hb dL_law_837 ?_
  obtain ⟨hi2, hw⟩ := hw
  refine va_sld hx hb hX hbl hbA hS hi2 dL_law_838 ?_
  refine lv_i2l hx hb dL_law_839 rfl ?_
  refine lv_bipush (v := 32) hx hb dL_law_840 (by decide) ?_
  refine lv_lshl hx hb dL_law_842 rfl ?_
  refine lv_aload_n hx hb dL_law_843 rfl (lv_at hl 0 rfl) ?_
  refine lv_iload hx hb dL_law_844 (lv_at hl 4 rfl) ?_
  refine lv_iconst (v := 3) hx hb dL_law_846 (by decide) ?_
  refine lv_iadd hx hb dL_law_847 ?_
  obtain ⟨hi3, hw⟩ := hw
  refine va_sld hx hb hX hbl hbA hS hi3 dL_law_848 ?_
  refine lv_i2l hx hb dL_law_849 rfl ?_
  refine lv_ldc2 (v := 4294967295) hx hb hown (hts _ (gT_up kw_529)) dL_law_850 ?_
  refine lv_land hx hb dL_law_853 ?_
  refine lv_lor hx hb dL_law_854 ?_
  refine lv_aload_n hx hb dL_law_855 rfl (lv_at hl 0 rfl) ?_
  refine lv_iload hx hb dL_law_856 (lv_at hl 4 rfl) ?_
  refine lv_iconst (v := 4) hx hb dL_law_858 (by decide) ?_
  refine lv_iadd hx hb dL_law_859 ?_
  obtain ⟨hi4, hw⟩ := hw
  refine va_sld hx hb hX hbl hbA hS hi4 dL_law_860 ?_
  refine lv_aload_n hx hb dL_law_861 rfl (lv_at hl 3 rfl) ?_
  obtain ⟨hc5, hs6, hw⟩ := hw
  obtain ⟨G9, F10, ht11, hw⟩ := hw
  refine gh_fxi ht11 hP hS hA (vx_runSX (As := [.ref v1, .int (xs (Int32.toNatClampNeg (v4 + 1))), .long (((Int32.toInt64 (xs (Int32.toNatClampNeg (v4 + 2)))) <<< (Int32.toInt64 32 &&& 63)) ||| ((Int32.toInt64 (xs (Int32.toNatClampNeg (v4 + 3)))) &&& 4294967295)), .int (xs (Int32.toNatClampNeg (v4 + 4))), .ref v3]) (rest := []) ⟨hx, hb, hml, hown, hts⟩ (mL_invoice l hl0 D AC sa _ _ _ _ _ _ _ _ _ hw) (vx_cwSW 5 hts (gS kw_240 kw_241 kw_0 kw_242) rfl rfl rfl (by decide +kernel) ⟨Nat.le_of_ble_eq_true rfl, Nat.le_of_ble_eq_true rfl⟩) (gh_pre gh_En_ok hK hE (hP.sub (gh_twoL ht11)) hS hA _) rfl rfl hl.1 rfl (lv_room (Nat.le_of_ble_eq_true rfl)) dL_law_862 ⟨hc5, hs6⟩) (fun r7 G8 H locs hw2 hP hd13 hS => ?_)
  replace hw := hw2
  clear hw2
  obtain ⟨G12, eG12⟩ : ∃ z : gh_H, z = gh_j G8 F10 := ⟨_, rfl⟩
  rw [← eG12] at hP
  replace hw := hw hd13 G12 eG12
  refine lv_istore (lv' := [(5, .int r7), (0, .ref b), (1, .ref v1), (2, .ref v2), (3, .ref v3), (4, .int v4)]) hx hb dL_law_865 hl (by decide) rfl (fun ls hl => ?_)
  refine lv_aload_n hx hb dL_law_867 rfl (lv_at hl 3 rfl) ?_
  refine lv_aload_n hx hb dL_law_868 rfl (lv_at hl 1 rfl) ?_
  refine lv_iload hx hb dL_law_869 (lv_at hl 5 rfl) ?_
  refine lv_iconst (v := 1) hx hb dL_law_871 (by decide) ?_
  refine lv_iadd hx hb dL_law_872 ?_
  obtain ⟨hi14, hw⟩ := hw
  refine va_sld hx hb hX hbl hbA hS hi14 dL_law_873 ?_
  refine lv_aload_n hx hb dL_law_874 rfl (lv_at hl 1 rfl) ?_
  refine lv_iload hx hb dL_law_875 (lv_at hl 5 rfl) ?_
  refine lv_iconst (v := 2) hx hb dL_law_877 (by decide) ?_
  refine lv_iadd hx hb dL_law_878 ?_
  obtain ⟨hi15, hw⟩ := hw
  refine va_sld hx hb hX hbl hbA hS hi15 dL_law_879 ?_
  refine lv_i2l hx hb dL_law_880 rfl ?_
  refine lv_bipush (v := 32) hx hb dL_law_881 (by decide) ?_
  refine lv_lshl hx hb dL_law_883 rfl ?_
  refine lv_aload_n hx hb dL_law_884 rfl (lv_at hl 1 rfl) ?_
  refine lv_iload hx hb dL_law_885 (lv_at hl 5 rfl) ?_
  refine lv_iconst (v := 3) hx hb dL_law_887 (by decide) ?_
  refine lv_iadd hx hb dL_law_888 ?_
  obtain ⟨hi16, hw⟩ := hw
  refine va_sld hx hb hX hbl hbA hS hi16 dL_law_889 ?_
  refine lv_i2l hx hb dL_law_890 rfl ?_
  refine lv_ldc2 (v := 4294967295) hx hb hown (hts _ (gT_up kw_529)) dL_law_891 ?_
  refine lv_land hx hb dL_law_894 ?_
  refine lv_lor hx hb dL_law_895 ?_
  refine lv_aload_n hx hb dL_law_896 rfl (lv_at hl 1 rfl) ?_
  refine lv_iload hx hb dL_law_897 (lv_at hl 5 rfl) ?_
  refine lv_iconst (v := 4) hx hb dL_law_899 (by decide) ?_
  refine lv_iadd hx hb dL_law_900 ?_
  obtain ⟨hi17, hw⟩ := hw
  refine va_sld hx hb hX hbl hbA hS hi17 dL_law_901 ?_
  obtain ⟨hc18, hs19, hw⟩ := hw
  obtain ⟨G24, F25, ht26, hw⟩ := hw
  obtain ⟨fs22, he23, hw⟩ := hw
  refine gh_fxi ht26 hP hS hA (vx_runV (C := "OwnerLedgerModel") (As := [.int (xs (Int32.toNatClampNeg (v4 + 1))), .long (((Int32.toInt64 (xs (Int32.toNatClampNeg (v4 + 2)))) <<< (Int32.toInt64 32 &&& 63)) ||| ((Int32.toInt64 (xs (Int32.toNatClampNeg (v4 + 3)))) &&& 4294967295)), .int (xs (Int32.toNatClampNeg (v4 + 4)))]) (rest := []) ⟨hx, hb, hml, hown, hts⟩ (mX5_invoice l hl0 D AC sa _ _ _ _ _ _ _ _ hw) (cwV 3 hts (gV kw_465 kw_466 kw_467 kw_2 kw_468) rfl rfl rfl (by decide +kernel) ⟨Nat.le_of_ble_eq_true rfl, Nat.le_of_ble_eq_true rfl⟩) (gh_preV gh_En_ok hK hE (hP.sub (gh_twoL ht26)) hS hA he23 rfl _) rfl rfl hl.1 rfl (lv_room (Nat.le_of_ble_eq_true rfl)) dL_law_902 ⟨hc18, hs19⟩) (fun r20 G21 H locs hw2 hP hd28 hS => ?_)
  replace hw := hw2
  clear hw2
  obtain ⟨G27, eG27⟩ : ∃ z : gh_H, z = gh_j G21 F25 := ⟨_, rfl⟩
  rw [← eG27] at hP
  replace hw := hw hd28 G27 eG27
  refine lv_istore (lv' := [(6, .int r20), (5, .int r7), (0, .ref b), (1, .ref v1), (2, .ref v2), (3, .ref v3), (4, .int v4)]) hx hb dL_law_905 hl (by decide) rfl (fun ls hl => ?_)
  refine lv_aload_n hx hb dL_law_907 rfl (lv_at hl 4 rfl) ?_
  obtain ⟨hc29, hs30, hw⟩ := hw
  obtain ⟨G35, F36, ht37, hw⟩ := hw
  obtain ⟨fs33, he34, hw⟩ := hw
  refine gh_fxi ht37 hP hS hA (vx_runV (C := "OwnerLedgerModel") (As := []) (rest := []) ⟨hx, hb, hml, hown, hts⟩ (mX5_thrown l hl0 D AC sa _ _ _ _ _ hw) (cwV 0 hts (gV kw_398 kw_399 kw_400 kw_2 kw_401) rfl rfl rfl (by decide +kernel) ⟨Nat.le_of_ble_eq_true rfl, Nat.le_of_ble_eq_true rfl⟩) (gh_preV gh_En_ok hK hE (hP.sub (gh_twoL ht37)) hS hA he34 rfl _) rfl rfl hl.1 rfl (lv_room (Nat.le_of_ble_eq_true rfl)) dL_law_908 ⟨hc29, hs30⟩) (fun r31 G32 H locs hw2 hP hd39 hS => ?_)
  replace hw := hw2
  clear hw2
  obtain ⟨G38, eG38⟩ : ∃ z : gh_H, z = gh_j G32 F36 := ⟨_, rfl⟩
  rw [← eG38] at hP
  replace hw := hw hd39 G38 eG38
  refine lv_iload hx hb dL_law_911 (lv_at hl 1 rfl) ?_
  refine lv_icmp_eq (tgt := 918) hx hb dL_law_913 (by decide) (fun c40 => ?_) (fun c40 => ?_)
  · replace hw := hw.1 c40
    refine lv_iload hx hb dL_law_918 (lv_at hl 1 rfl) ?_
    refine lv_if_ne (tgt := 935) hx hb dL_law_920 (by decide) (fun c41 => ?_) (fun c41 => ?_)
    · replace hw := hw.1 c41
      refine lv_goto (tgt := 1678) hx hb dL_law_935 (by decide) ?_
      refine lv_iinc (v := (v4 + 5)) (lv' := [(4, .int (v4 + 5)), (6, .int r20), (5, .int r7), (0, .ref b), (1, .ref v1), (2, .ref v2), (3, .ref v3)]) hx hb dL_law_1678 hl (k := 6) rfl rfl (by decide) rfl (fun ls hl => ?_)
      refine lv_goto (tgt := 23) hx hb dL_law_1681 (by decide) ?_
      have hl := lv_sub (l' := [(0, .ref b), (1, .ref v1), (2, .ref v2), (3, .ref v3), (4, .int (v4 + 5))]) hl [3, 4, 5, 6, 0] rfl
      exact hJ23 _ v1 v2 v3 (v4 + 5) (((kc + 5) + 0) + 0) (((ks + 29) + 0) + 0) _ _ hw hP hS ls hl
    · replace hw := hw.2 c41
      refine lv_aload_n hx hb dL_law_923 rfl (lv_at hl 5 rfl) ?_
      refine lv_iconst (v := 0) hx hb dL_law_924 (by decide) ?_
      obtain ⟨n42, f43, he44, hi45, hw⟩ := hw
      refine gh_lald hx hb hK hP he44 rfl hi45 dL_law_925 ?_
      refine lv_iload hx hb dL_law_926 (lv_at hl 0 rfl) ?_
      refine lv_i2l hx hb dL_law_928 rfl ?_
      refine W.lcmp hx hb dL_law_929 ?_
      refine lv_if_eq (tgt := 935) hx hb dL_law_930 (by decide) (fun c46 => ?_) (fun c46 => ?_)
      · replace hw := hw.1 c46
        refine lv_goto (tgt := 1678) hx hb dL_law_935 (by decide) ?_
        refine lv_iinc (v := (v4 + 5)) (lv' := [(4, .int (v4 + 5)), (6, .int r20), (5, .int r7), (0, .ref b), (1, .ref v1), (2, .ref v2), (3, .ref v3)]) hx hb dL_law_1678 hl (k := 6) rfl rfl (by decide) rfl (fun ls hl => ?_)
        refine lv_goto (tgt := 23) hx hb dL_law_1681 (by decide) ?_
        have hl := lv_sub (l' := [(0, .ref b), (1, .ref v1), (2, .ref v2), (3, .ref v3), (4, .int (v4 + 5))]) hl [3, 4, 5, 6, 0] rfl
        exact hJ23 _ v1 v2 v3 (v4 + 5) (((kc + 5) + 0) + 0) (((ks + 29) + 0) + 0) _ _ hw hP hS ls hl
      · replace hw := hw.2 c46
        refine lv_iconst (v := 0) hx hb dL_law_933 (by decide) ?_
        obtain ⟨hc47, hs48, hw⟩ := hw
        exact gh_lawret hx hb hr hlocks hw hS hAl hc47 hs48 dL_law_934
  · replace hw := hw.2 c40
    refine lv_iconst (v := 0) hx hb dL_law_916 (by decide) ?_
    obtain ⟨hc49, hs50, hw⟩ := hw
    exact gh_lawret hx hb hr hlocks hw hS hAl hc49 hs50 dL_law_917
def wL_law_938 (post : Int32 → gh_H → Prop) (px : String → gh_H → Prop) (L : Nat) (xs : Nat → Int32) (J23 : gh_H → Nat → Nat → Nat → Int32 → Nat → Nat → Prop) (G : gh_H) (v1 : Nat) (v2 : Nat) (v3 : Nat) (v4 : Int32) (kc : Nat) (ks : Nat) : Prop := vp_in (v4 + 1) L ∧ (vp_in (v4 + 2) L ∧ (vp_in (v4 + 3) L ∧ (kc + 2 ≤ 601024 ∧ ks + 12 ≤ 7293034 ∧ (∃ G8 F9 : gh_H, gh_two G G8 F9 ∧ wL_pay (fun r6 G7 => (∀ a9, G7 a9 ≠ none → F9 a9 = none) → ∀ G11 : gh_H, G11 = gh_j G7 F9 → vp_in (v4 + 1) L ∧ (vp_in (v4 + 2) L ∧ (vp_in (v4 + 3) L ∧ ((kc + 2) + 0 ≤ 601024 ∧ (ks + 12) + 0 ≤ 7293034 ∧ (∃ G22 F23 : gh_H, gh_two G11 G22 F23 ∧ ∃ fs20 : List Value, G22 v2 = some (.inr (5, fs20)) ∧ wX5_pay (fun r18 G19 => (∀ a9, G19 a9 ≠ none → F23 a9 = none) → ∀ G25 : gh_H, G25 = gh_j G19 F23 → ((kc + 2) + 0) + 0 ≤ 601024 ∧ ((ks + 12) + 0) + 0 ≤ 7293034 ∧ (∃ G33 F34 : gh_H, gh_two G25 G33 F34 ∧ ∃ fs31 : List Value, G33 v2 = some (.inr (5, fs31)) ∧ wX5_thrown (fun r29 G30 => (∀ a9, G30 a9 ≠ none → F34 a9 = none) → ∀ G36 : gh_H, G36 = gh_j G30 F34 → (r29 = r6 → ((¬ r6 = 0 → (J23 G36 v1 v2 v3 (v4 + 5) (((kc + 2) + 0) + 0) (((ks + 12) + 0) + 0))) ∧ (r6 = 0 → (∃ (n40 : Nat) (f41 : Nat → Int64), G36 v3 = some (.inl (1, n40, .inr (.inl f41))) ∧ vp_in 0 n40 ∧ (((lg_cmp (f41 (Int32.toNatClampNeg 0)) (Int32.toInt64 r18)) = 0 → (J23 G36 v1 v2 v3 (v4 + 5) (((kc + 2) + 0) + 0) (((ks + 12) + 0) + 0))) ∧ (¬ (lg_cmp (f41 (Int32.toNatClampNeg 0)) (Int32.toInt64 r18)) = 0 → ((((kc + 2) + 0) + 0) ≤ 601024 ∧ (((ks + 12) + 0) + 0) ≤ 7293034 ∧ (0 = (1 : Int32))))))))) ∧ (¬ r29 = r6 → ((((kc + 2) + 0) + 0) ≤ 601024 ∧ (((ks + 12) + 0) + 0) ≤ 7293034 ∧ (0 = (1 : Int32))))) (fun _ _ => False) G33 v2)) (fun _ _ => False) G22 v2 (xs (Int32.toNatClampNeg (v4 + 1))) (((Int32.toInt64 (xs (Int32.toNatClampNeg (v4 + 2)))) <<< (Int32.toInt64 32 &&& 63)) ||| ((Int32.toInt64 (xs (Int32.toNatClampNeg (v4 + 3)))) &&& 4294967295))))))) (fun _ _ => False) G8 v1 (xs (Int32.toNatClampNeg (v4 + 1))) (((Int32.toInt64 (xs (Int32.toNatClampNeg (v4 + 2)))) <<< (Int32.toInt64 32 &&& 63)) ||| ((Int32.toInt64 (xs (Int32.toNatClampNeg (v4 + 3)))) &&& 4294967295)) v3))))
set_option maxRecDepth 100000 in
set_option maxHeartbeats 4000000 in
theorem lL_law_938 {p : Program} {l : Launch} {e : Env} {s : State} {m : MethodId} {below : List Frame} {meth : Method} {c : Code} {D : va_G} {AC : Nat → ClassId} {sa : gh_SA} {b L : Nat} {xs : Nat → Int32} {A : Nat → Prop} (hl0 : l.stackTraces = false) (CX : cxL p s m meth c D AC sa b L xs A) (post : Int32 → gh_H → Prop) (px : String → gh_H → Prop) (J23 : gh_H → Nat → Nat → Nat → Int32 → Nat → Nat → Prop) (hJ23 : ∀ (G : gh_H) (v1 : Nat) (v2 : Nat) (v3 : Nat) (v4 : Int32) (kc : Nat) (ks : Nat) (H : Heap) (locs : List Loc), J23 G v1 v2 v3 v4 kc ks → gh_h D vwCl AC A G H → va_S A s.heap H locs → ∀ ls : Array Slot, lv_has ls 8 [(0, .ref b), (1, .ref v1), (2, .ref v2), (3, .ref v3), (4, .int v4)] → W p l e room_1 s m #[Value.ref b] below meth c H locs kc ks (lw_Z below #[Value.ref b] s) (F0 m 23 ls [])) : ∀ (G : gh_H) (v1 : Nat) (v2 : Nat) (v3 : Nat) (v4 : Int32) (kc : Nat) (ks : Nat) (H : Heap) (locs : List Loc), wL_law_938 post px L xs J23 G v1 v2 v3 v4 kc ks → gh_h D vwCl AC A G H → va_S A s.heap H locs → ∀ ls : Array Slot, lv_has ls 8 [(0, .ref b), (1, .ref v1), (2, .ref v2), (3, .ref v3), (4, .int v4)] → W p l e room_1 s m #[Value.ref b] below meth c H locs kc ks (lw_Z below #[Value.ref b] s) (F0 m 938 ls []) := by
  obtain ⟨⟨hx, hb, hml, hown, hts⟩, hr, hlocks, hK, hE, hA, hX, hbl, hbA, hAl⟩ := id CX
  intro G v1 v2 v3 v4 kc ks H locs hw hP hS ls hl
  dsimp only [wL_law_938] at hw
  refine lv_aload_n hx hb dL_law_938 rfl (lv_at hl 1 rfl) ?_
  refine lv_aload_n hx hb dL_law_939 rfl (lv_at hl 0 rfl) ?_
  refine lv_iload hx hb dL_law_940 (lv_at hl 4 rfl) ?_
  refine lv_iconst (v := 1) hx hb dL_law_942 (by decide) ?_
  refine lv_iadd hx hb dL_law_943 ?_
  obtain ⟨hi1, hw⟩ := hw
  refine va_sld hx hb hX hbl hbA hS hi1 dL_law_944 ?_
  refine lv_aload_n hx hb dL_law_945 rfl (lv_at hl 0 rfl) ?_
  refine lv_iload hx hb dL_law_946 (lv_at hl 4 rfl) ?_
  refine lv_iconst (v := 2) hx hb dL_law_948 (by decide) ?_
  refine lv_iadd hx hb dL_law_949 ?_
  obtain ⟨hi2, hw⟩ := hw
  refine va_sld hx hb hX hbl hbA hS hi2 dL_law_950 ?_
  refine lv_i2l hx hb dL_law_951 rfl ?_
  refine lv_bipush (v := 32) hx hb dL_law_952 (by decide) ?_
  refine lv_lshl hx hb dL_law_954 rfl ?_
  refine lv_aload_n hx hb dL_law_955 rfl (lv_at hl 0 rfl) ?_
  refine lv_iload hx hb dL_law_956 (lv_at hl 4 rfl) ?_
  refine lv_iconst (v := 3) hx hb dL_law_958 (by decide) ?_
  refine lv_iadd hx hb dL_law_959 ?_
  obtain ⟨hi3, hw⟩ := hw
  refine va_sld hx hb hX hbl hbA hS hi3 dL_law_960 ?_
  refine lv_i2l hx hb dL_law_961 rfl ?_
  refine lv_ldc2 (v := 4294967295) hx hb hown (hts _ (gT_up kw_529)) dL_law_962 ?_
  refine lv_land hx hb dL_law_965 ?_
  refine lv_lor hx hb dL_law_966 ?_
  refine lv_aload_n hx hb dL_law_967 rfl (lv_at hl 3 rfl) ?_
  obtain ⟨hc4, hs5, hw⟩ := hw
  obtain ⟨G8, F9, ht10, hw⟩ := hw
  refine gh_fxi ht10 hP hS hA (vx_runSX (As := [.ref v1, .int (xs (Int32.toNatClampNeg (v4 + 1))), .long (((Int32.toInt64 (xs (Int32.toNatClampNeg (v4 + 2)))) <<< (Int32.toInt64 32 &&& 63)) ||| ((Int32.toInt64 (xs (Int32.toNatClampNeg (v4 + 3)))) &&& 4294967295)), .ref v3]) (rest := []) ⟨hx, hb, hml, hown, hts⟩ (mL_pay l hl0 D AC sa _ _ _ _ _ _ _ _ hw) (vx_cwSW 4 hts (gS kw_268 kw_269 kw_0 kw_270) rfl rfl rfl (by decide +kernel) ⟨Nat.le_of_ble_eq_true rfl, Nat.le_of_ble_eq_true rfl⟩) (gh_pre gh_En_ok hK hE (hP.sub (gh_twoL ht10)) hS hA _) rfl rfl hl.1 rfl (lv_room (Nat.le_of_ble_eq_true rfl)) dL_law_968 ⟨hc4, hs5⟩) (fun r6 G7 H locs hw2 hP hd12 hS => ?_)
  replace hw := hw2
  clear hw2
  obtain ⟨G11, eG11⟩ : ∃ z : gh_H, z = gh_j G7 F9 := ⟨_, rfl⟩
  rw [← eG11] at hP
  replace hw := hw hd12 G11 eG11
  refine lv_istore (lv' := [(5, .int r6), (0, .ref b), (1, .ref v1), (2, .ref v2), (3, .ref v3), (4, .int v4)]) hx hb dL_law_971 hl (by decide) rfl (fun ls hl => ?_)
  refine lv_aload_n hx hb dL_law_973 rfl (lv_at hl 3 rfl) ?_
  refine lv_aload_n hx hb dL_law_974 rfl (lv_at hl 1 rfl) ?_
  refine lv_iload hx hb dL_law_975 (lv_at hl 5 rfl) ?_
  refine lv_iconst (v := 1) hx hb dL_law_977 (by decide) ?_
  refine lv_iadd hx hb dL_law_978 ?_
  obtain ⟨hi13, hw⟩ := hw
  refine va_sld hx hb hX hbl hbA hS hi13 dL_law_979 ?_
  refine lv_aload_n hx hb dL_law_980 rfl (lv_at hl 1 rfl) ?_
  refine lv_iload hx hb dL_law_981 (lv_at hl 5 rfl) ?_
  refine lv_iconst (v := 2) hx hb dL_law_983 (by decide) ?_
  refine lv_iadd hx hb dL_law_984 ?_
  obtain ⟨hi14, hw⟩ := hw
  refine va_sld hx hb hX hbl hbA hS hi14 dL_law_985 ?_
  refine lv_i2l hx hb dL_law_986 rfl ?_
  refine lv_bipush (v := 32) hx hb dL_law_987 (by decide) ?_
  refine lv_lshl hx hb dL_law_989 rfl ?_
  refine lv_aload_n hx hb dL_law_990 rfl (lv_at hl 1 rfl) ?_
  refine lv_iload hx hb dL_law_991 (lv_at hl 5 rfl) ?_
  refine lv_iconst (v := 3) hx hb dL_law_993 (by decide) ?_
  refine lv_iadd hx hb dL_law_994 ?_
  obtain ⟨hi15, hw⟩ := hw
  refine va_sld hx hb hX hbl hbA hS hi15 dL_law_995 ?_
  refine lv_i2l hx hb dL_law_996 rfl ?_
  refine lv_ldc2 (v := 4294967295) hx hb hown (hts _ (gT_up kw_529)) dL_law_997 ?_
  refine lv_land hx hb dL_law_1000 ?_
  refine lv_lor hx hb dL_law_1001 ?_
  obtain ⟨hc16, hs17, hw⟩ := hw
  obtain ⟨G22, F23, ht24, hw⟩ := hw
  obtain ⟨fs20, he21, hw⟩ := hw
  refine gh_fxi ht24 hP hS hA (vx_runV (C := "OwnerLedgerModel") (As := [.int (xs (Int32.toNatClampNeg (v4 + 1))), .long (((Int32.toInt64 (xs (Int32.toNatClampNeg (v4 + 2)))) <<< (Int32.toInt64 32 &&& 63)) ||| ((Int32.toInt64 (xs (Int32.toNatClampNeg (v4 + 3)))) &&& 4294967295))]) (rest := []) ⟨hx, hb, hml, hown, hts⟩ (mX5_pay l hl0 D AC sa _ _ _ _ _ _ _ hw) (cwV 2 hts (gV kw_472 kw_473 kw_474 kw_2 kw_475) rfl rfl rfl (by decide +kernel) ⟨Nat.le_of_ble_eq_true rfl, Nat.le_of_ble_eq_true rfl⟩) (gh_preV gh_En_ok hK hE (hP.sub (gh_twoL ht24)) hS hA he21 rfl _) rfl rfl hl.1 rfl (lv_room (Nat.le_of_ble_eq_true rfl)) dL_law_1002 ⟨hc16, hs17⟩) (fun r18 G19 H locs hw2 hP hd26 hS => ?_)
  replace hw := hw2
  clear hw2
  obtain ⟨G25, eG25⟩ : ∃ z : gh_H, z = gh_j G19 F23 := ⟨_, rfl⟩
  rw [← eG25] at hP
  replace hw := hw hd26 G25 eG25
  refine lv_istore (lv' := [(6, .int r18), (5, .int r6), (0, .ref b), (1, .ref v1), (2, .ref v2), (3, .ref v3), (4, .int v4)]) hx hb dL_law_1005 hl (by decide) rfl (fun ls hl => ?_)
  refine lv_aload_n hx hb dL_law_1007 rfl (lv_at hl 4 rfl) ?_
  obtain ⟨hc27, hs28, hw⟩ := hw
  obtain ⟨G33, F34, ht35, hw⟩ := hw
  obtain ⟨fs31, he32, hw⟩ := hw
  refine gh_fxi ht35 hP hS hA (vx_runV (C := "OwnerLedgerModel") (As := []) (rest := []) ⟨hx, hb, hml, hown, hts⟩ (mX5_thrown l hl0 D AC sa _ _ _ _ _ hw) (cwV 0 hts (gV kw_398 kw_399 kw_400 kw_2 kw_401) rfl rfl rfl (by decide +kernel) ⟨Nat.le_of_ble_eq_true rfl, Nat.le_of_ble_eq_true rfl⟩) (gh_preV gh_En_ok hK hE (hP.sub (gh_twoL ht35)) hS hA he32 rfl _) rfl rfl hl.1 rfl (lv_room (Nat.le_of_ble_eq_true rfl)) dL_law_1008 ⟨hc27, hs28⟩) (fun r29 G30 H locs hw2 hP hd37 hS => ?_)
  replace hw := hw2
  clear hw2
  obtain ⟨G36, eG36⟩ : ∃ z : gh_H, z = gh_j G30 F34 := ⟨_, rfl⟩
  rw [← eG36] at hP
  replace hw := hw hd37 G36 eG36
  refine lv_iload hx hb dL_law_1011 (lv_at hl 1 rfl) ?_
  refine lv_icmp_eq (tgt := 1018) hx hb dL_law_1013 (by decide) (fun c38 => ?_) (fun c38 => ?_)
  · replace hw := hw.1 c38
    refine lv_iload hx hb dL_law_1018 (lv_at hl 1 rfl) ?_
    refine lv_if_ne (tgt := 1035) hx hb dL_law_1020 (by decide) (fun c39 => ?_) (fun c39 => ?_)
    · replace hw := hw.1 c39
      refine lv_goto (tgt := 1678) hx hb dL_law_1035 (by decide) ?_
      refine lv_iinc (v := (v4 + 5)) (lv' := [(4, .int (v4 + 5)), (6, .int r18), (5, .int r6), (0, .ref b), (1, .ref v1), (2, .ref v2), (3, .ref v3)]) hx hb dL_law_1678 hl (k := 6) rfl rfl (by decide) rfl (fun ls hl => ?_)
      refine lv_goto (tgt := 23) hx hb dL_law_1681 (by decide) ?_
      have hl := lv_sub (l' := [(0, .ref b), (1, .ref v1), (2, .ref v2), (3, .ref v3), (4, .int (v4 + 5))]) hl [3, 4, 5, 6, 0] rfl
      exact hJ23 _ v1 v2 v3 (v4 + 5) (((kc + 2) + 0) + 0) (((ks + 12) + 0) + 0) _ _ hw hP hS ls hl
    · replace hw := hw.2 c39
      refine lv_aload_n hx hb dL_law_1023 rfl (lv_at hl 5 rfl) ?_
      refine lv_iconst (v := 0) hx hb dL_law_1024 (by decide) ?_
      obtain ⟨n40, f41, he42, hi43, hw⟩ := hw
      refine gh_lald hx hb hK hP he42 rfl hi43 dL_law_1025 ?_
      refine lv_iload hx hb dL_law_1026 (lv_at hl 0 rfl) ?_
      refine lv_i2l hx hb dL_law_1028 rfl ?_
      refine W.lcmp hx hb dL_law_1029 ?_
      refine lv_if_eq (tgt := 1035) hx hb dL_law_1030 (by decide) (fun c44 => ?_) (fun c44 => ?_)
      · replace hw := hw.1 c44
        refine lv_goto (tgt := 1678) hx hb dL_law_1035 (by decide) ?_
        refine lv_iinc (v := (v4 + 5)) (lv' := [(4, .int (v4 + 5)), (6, .int r18), (5, .int r6), (0, .ref b), (1, .ref v1), (2, .ref v2), (3, .ref v3)]) hx hb dL_law_1678 hl (k := 6) rfl rfl (by decide) rfl (fun ls hl => ?_)
        refine lv_goto (tgt := 23) hx hb dL_law_1681 (by decide) ?_
        have hl := lv_sub (l' := [(0, .ref b), (1, .ref v1), (2, .ref v2), (3, .ref v3), (4, .int (v4 + 5))]) hl [3, 4, 5, 6, 0] rfl
        exact hJ23 _ v1 v2 v3 (v4 + 5) (((kc + 2) + 0) + 0) (((ks + 12) + 0) + 0) _ _ hw hP hS ls hl
      · replace hw := hw.2 c44
        refine lv_iconst (v := 0) hx hb dL_law_1033 (by decide) ?_
        obtain ⟨hc45, hs46, hw⟩ := hw
        exact gh_lawret hx hb hr hlocks hw hS hAl hc45 hs46 dL_law_1034
  · replace hw := hw.2 c38
    refine lv_iconst (v := 0) hx hb dL_law_1016 (by decide) ?_
    obtain ⟨hc47, hs48, hw⟩ := hw
    exact gh_lawret hx hb hr hlocks hw hS hAl hc47 hs48 dL_law_1017
def wL_law_1038 (post : Int32 → gh_H → Prop) (px : String → gh_H → Prop) (L : Nat) (xs : Nat → Int32) (J23 : gh_H → Nat → Nat → Nat → Int32 → Nat → Nat → Prop) (G : gh_H) (v1 : Nat) (v2 : Nat) (v3 : Nat) (v4 : Int32) (kc : Nat) (ks : Nat) : Prop := vp_in (v4 + 1) L ∧ (vp_in (v4 + 2) L ∧ (vp_in (v4 + 3) L ∧ (kc + 3 ≤ 601024 ∧ ks + 18 ≤ 7293034 ∧ (∃ G8 F9 : gh_H, gh_two G G8 F9 ∧ wL_settle (fun r6 G7 => (∀ a9, G7 a9 ≠ none → F9 a9 = none) → ∀ G11 : gh_H, G11 = gh_j G7 F9 → vp_in (v4 + 1) L ∧ (vp_in (v4 + 2) L ∧ (vp_in (v4 + 3) L ∧ ((kc + 3) + 0 ≤ 601024 ∧ (ks + 18) + 0 ≤ 7293034 ∧ (∃ G22 F23 : gh_H, gh_two G11 G22 F23 ∧ ∃ fs20 : List Value, G22 v2 = some (.inr (5, fs20)) ∧ wX5_settle (fun r18 G19 => (∀ a9, G19 a9 ≠ none → F23 a9 = none) → ∀ G25 : gh_H, G25 = gh_j G19 F23 → ((kc + 3) + 0) + 0 ≤ 601024 ∧ ((ks + 18) + 0) + 0 ≤ 7293034 ∧ (∃ G33 F34 : gh_H, gh_two G25 G33 F34 ∧ ∃ fs31 : List Value, G33 v2 = some (.inr (5, fs31)) ∧ wX5_thrown (fun r29 G30 => (∀ a9, G30 a9 ≠ none → F34 a9 = none) → ∀ G36 : gh_H, G36 = gh_j G30 F34 → (r29 = r6 → ((¬ r6 = 0 → (J23 G36 v1 v2 v3 (v4 + 5) (((kc + 3) + 0) + 0) (((ks + 18) + 0) + 0))) ∧ (r6 = 0 → (∃ (n40 : Nat) (f41 : Nat → Int64), G36 v3 = some (.inl (1, n40, .inr (.inl f41))) ∧ vp_in 0 n40 ∧ (((lg_cmp (f41 (Int32.toNatClampNeg 0)) r18) = 0 → (J23 G36 v1 v2 v3 (v4 + 5) (((kc + 3) + 0) + 0) (((ks + 18) + 0) + 0))) ∧ (¬ (lg_cmp (f41 (Int32.toNatClampNeg 0)) r18) = 0 → ((((kc + 3) + 0) + 0) ≤ 601024 ∧ (((ks + 18) + 0) + 0) ≤ 7293034 ∧ (0 = (1 : Int32))))))))) ∧ (¬ r29 = r6 → ((((kc + 3) + 0) + 0) ≤ 601024 ∧ (((ks + 18) + 0) + 0) ≤ 7293034 ∧ (0 = (1 : Int32))))) (fun _ _ => False) G33 v2)) (fun _ _ => False) G22 v2 (xs (Int32.toNatClampNeg (v4 + 1))) (((Int32.toInt64 (xs (Int32.toNatClampNeg (v4 + 2)))) <<< (Int32.toInt64 32 &&& 63)) ||| ((Int32.toInt64 (xs (Int32.toNatClampNeg (v4 + 3)))) &&& 4294967295))))))) (fun _ _ => False) G8 v1 (xs (Int32.toNatClampNeg (v4 + 1))) (((Int32.toInt64 (xs (Int32.toNatClampNeg (v4 + 2)))) <<< (Int32.toInt64 32 &&& 63)) ||| ((Int32.toInt64 (xs (Int32.toNatClampNeg (v4 + 3)))) &&& 4294967295)) v3))))
set_option maxRecDepth 100000 in
set_option maxHeartbeats 4000000 in
theorem lL_law_1038 {p : Program} {l : Launch} {e : Env} {s : State} {m : MethodId} {below : List Frame} {meth : Method} {c : Code} {D : va_G} {AC : Nat → ClassId} {sa : gh_SA} {b L : Nat} {xs : Nat → Int32} {A : Nat → Prop} (hl0 : l.stackTraces = false) (CX : cxL p s m meth c D AC sa b L xs A) (post : Int32 → gh_H → Prop) (px : String → gh_H → Prop) (J23 : gh_H → Nat → Nat → Nat → Int32 → Nat → Nat → Prop) (hJ23 : ∀ (G : gh_H) (v1 : Nat) (v2 : Nat) (v3 : Nat) (v4 : Int32) (kc : Nat) (ks : Nat) (H : Heap) (locs : List Loc), J23 G v1 v2 v3 v4 kc ks → gh_h D vwCl AC A G H → va_S A s.heap H locs → ∀ ls : Array Slot, lv_has ls 8 [(0, .ref b), (1, .ref v1), (2, .ref v2), (3, .ref v3), (4, .int v4)] → W p l e room_1 s m #[Value.ref b] below meth c H locs kc ks (lw_Z below #[Value.ref b] s) (F0 m 23 ls [])) : ∀ (G : gh_H) (v1 : Nat) (v2 : Nat) (v3 : Nat) (v4 : Int32) (kc : Nat) (ks : Nat) (H : Heap) (locs : List Loc), wL_law_1038 post px L xs J23 G v1 v2 v3 v4 kc ks → gh_h D vwCl AC A G H → va_S A s.heap H locs → ∀ ls : Array Slot, lv_has ls 8 [(0, .ref b), (1, .ref v1), (2, .ref v2), (3, .ref v3), (4, .int v4)] → W p l e room_1 s m #[Value.ref b] below meth c H locs kc ks (lw_Z below #[Value.ref b] s) (F0 m 1038 ls []) := by
  obtain ⟨⟨hx, hb, hml, hown, hts⟩, hr, hlocks, hK, hE, hA, hX, hbl, hbA, hAl⟩ := id CX
  intro G v1 v2 v3 v4 kc ks H locs hw hP hS ls hl
  dsimp only [wL_law_1038] at hw
  refine lv_aload_n hx hb dL_law_1038 rfl (lv_at hl 1 rfl) ?_
  refine lv_aload_n hx hb dL_law_1039 rfl (lv_at hl 0 rfl) ?_
  refine lv_iload hx hb dL_law_1040 (lv_at hl 4 rfl) ?_
  refine lv_iconst (v := 1) hx hb dL_law_1042 (by decide) ?_
  refine lv_iadd hx hb dL_law_1043 ?_
  obtain ⟨hi1, hw⟩ := hw
  refine va_sld hx hb hX hbl hbA hS hi1 dL_law_1044 ?_
  refine lv_aload_n hx hb dL_law_1045 rfl (lv_at hl 0 rfl) ?_
  refine lv_iload hx hb dL_law_1046 (lv_at hl 4 rfl) ?_
  refine lv_iconst (v := 2) hx hb dL_law_1048 (by decide) ?_
  refine lv_iadd hx hb dL_law_1049 ?_
  obtain ⟨hi2, hw⟩ := hw
  refine va_sld hx hb hX hbl hbA hS hi2 dL_law_1050 ?_
  refine lv_i2l hx hb dL_law_1051 rfl ?_
  refine lv_bipush (v := 32) hx hb dL_law_1052 (by decide) ?_
  refine lv_lshl hx hb dL_law_1054 rfl ?_
  refine lv_aload_n hx hb dL_law_1055 rfl (lv_at hl 0 rfl) ?_
  refine lv_iload hx hb dL_law_1056 (lv_at hl 4 rfl) ?_
  refine lv_iconst (v := 3) hx hb dL_law_1058 (by decide) ?_
  refine lv_iadd hx hb dL_law_1059 ?_
  obtain ⟨hi3, hw⟩ := hw
  refine va_sld hx hb hX hbl hbA hS hi3 dL_law_1060 ?_
  refine lv_i2l hx hb dL_law_1061 rfl ?_
  refine lv_ldc2 (v := 4294967295) hx hb hown (hts _ (gT_up kw_529)) dL_law_1062 ?_
  refine lv_land hx hb dL_law_1065 ?_
  refine lv_lor hx hb dL_law_1066 ?_
  refine lv_aload_n hx hb dL_law_1067 rfl (lv_at hl 3 rfl) ?_
  obtain ⟨hc4, hs5, hw⟩ := hw
  obtain ⟨G8, F9, ht10, hw⟩ := hw
  refine gh_fxi ht10 hP hS hA (vx_runSX (As := [.ref v1, .int (xs (Int32.toNatClampNeg (v4 + 1))), .long (((Int32.toInt64 (xs (Int32.toNatClampNeg (v4 + 2)))) <<< (Int32.toInt64 32 &&& 63)) ||| ((Int32.toInt64 (xs (Int32.toNatClampNeg (v4 + 3)))) &&& 4294967295)), .ref v3]) (rest := []) ⟨hx, hb, hml, hown, hts⟩ (mL_settle l hl0 D AC sa _ _ _ _ _ _ _ _ hw) (vx_cwSW 4 hts (gS kw_278 kw_279 kw_0 kw_280) rfl rfl rfl (by decide +kernel) ⟨Nat.le_of_ble_eq_true rfl, Nat.le_of_ble_eq_true rfl⟩) (gh_pre gh_En_ok hK hE (hP.sub (gh_twoL ht10)) hS hA _) rfl rfl hl.1 rfl (lv_room (Nat.le_of_ble_eq_true rfl)) dL_law_1068 ⟨hc4, hs5⟩) (fun r6 G7 H locs hw2 hP hd12 hS => ?_)
  replace hw := hw2
  clear hw2
  obtain ⟨G11, eG11⟩ : ∃ z : gh_H, z = gh_j G7 F9 := ⟨_, rfl⟩
  rw [← eG11] at hP
  replace hw := hw hd12 G11 eG11
  refine lv_istore (lv' := [(5, .int r6), (0, .ref b), (1, .ref v1), (2, .ref v2), (3, .ref v3), (4, .int v4)]) hx hb dL_law_1071 hl (by decide) rfl (fun ls hl => ?_)
  refine lv_aload_n hx hb dL_law_1073 rfl (lv_at hl 3 rfl) ?_
  refine lv_aload_n hx hb dL_law_1074 rfl (lv_at hl 1 rfl) ?_
  refine lv_iload hx hb dL_law_1075 (lv_at hl 5 rfl) ?_
  refine lv_iconst (v := 1) hx hb dL_law_1077 (by decide) ?_
  refine lv_iadd hx hb dL_law_1078 ?_
  obtain ⟨hi13, hw⟩ := hw
  refine va_sld hx hb hX hbl hbA hS hi13 dL_law_1079 ?_
  refine lv_aload_n hx hb dL_law_1080 rfl (lv_at hl 1 rfl) ?_
  refine lv_iload hx hb dL_law_1081 (lv_at hl 5 rfl) ?_
  refine lv_iconst (v := 2) hx hb dL_law_1083 (by decide) ?_
  refine lv_iadd hx hb dL_law_1084 ?_
  obtain ⟨hi14, hw⟩ := hw
  refine va_sld hx hb hX hbl hbA hS hi14 dL_law_1085 ?_
  refine lv_i2l hx hb dL_law_1086 rfl ?_
  refine lv_bipush (v := 32) hx hb dL_law_1087 (by decide) ?_
  refine lv_lshl hx hb dL_law_1089 rfl ?_
  refine lv_aload_n hx hb dL_law_1090 rfl (lv_at hl 1 rfl) ?_
  refine lv_iload hx hb dL_law_1091 (lv_at hl 5 rfl) ?_
  refine lv_iconst (v := 3) hx hb dL_law_1093 (by decide) ?_
  refine lv_iadd hx hb dL_law_1094 ?_
  obtain ⟨hi15, hw⟩ := hw
  refine va_sld hx hb hX hbl hbA hS hi15 dL_law_1095 ?_
  refine lv_i2l hx hb dL_law_1096 rfl ?_
  refine lv_ldc2 (v := 4294967295) hx hb hown (hts _ (gT_up kw_529)) dL_law_1097 ?_
  refine lv_land hx hb dL_law_1100 ?_
  refine lv_lor hx hb dL_law_1101 ?_
  obtain ⟨hc16, hs17, hw⟩ := hw
  obtain ⟨G22, F23, ht24, hw⟩ := hw
  obtain ⟨fs20, he21, hw⟩ := hw
  refine gh_fxl ht24 hP hS hA (vx_runV (C := "OwnerLedgerModel") (As := [.int (xs (Int32.toNatClampNeg (v4 + 1))), .long (((Int32.toInt64 (xs (Int32.toNatClampNeg (v4 + 2)))) <<< (Int32.toInt64 32 &&& 63)) ||| ((Int32.toInt64 (xs (Int32.toNatClampNeg (v4 + 3)))) &&& 4294967295))]) (rest := []) ⟨hx, hb, hml, hown, hts⟩ (mX5_settle l hl0 D AC sa _ _ _ _ _ _ _ hw) (cwV 2 hts (gV kw_476 kw_477 kw_478 kw_2 kw_479) rfl rfl rfl (by decide +kernel) ⟨Nat.le_of_ble_eq_true rfl, Nat.le_of_ble_eq_true rfl⟩) (gh_preV gh_En_ok hK hE (hP.sub (gh_twoL ht24)) hS hA he21 rfl _) rfl rfl hl.1 rfl (lv_room (Nat.le_of_ble_eq_true rfl)) dL_law_1102 ⟨hc16, hs17⟩) (fun r18 G19 H locs hw2 hP hd26 hS => ?_)
  replace hw := hw2
  clear hw2
  obtain ⟨G25, eG25⟩ : ∃ z : gh_H, z = gh_j G19 F23 := ⟨_, rfl⟩
  rw [← eG25] at hP
  replace hw := hw hd26 G25 eG25
  refine lv_lstore (lv' := [(6, .long r18), (5, .int r6), (0, .ref b), (1, .ref v1), (2, .ref v2), (3, .ref v3), (4, .int v4)]) hx hb dL_law_1105 hl (by decide) rfl (fun ls hl => ?_)
  refine lv_aload_n hx hb dL_law_1107 rfl (lv_at hl 4 rfl) ?_
  obtain ⟨hc27, hs28, hw⟩ := hw
  obtain ⟨G33, F34, ht35, hw⟩ := hw
  obtain ⟨fs31, he32, hw⟩ := hw
  refine gh_fxi ht35 hP hS hA (vx_runV (C := "OwnerLedgerModel") (As := []) (rest := []) ⟨hx, hb, hml, hown, hts⟩ (mX5_thrown l hl0 D AC sa _ _ _ _ _ hw) (cwV 0 hts (gV kw_398 kw_399 kw_400 kw_2 kw_401) rfl rfl rfl (by decide +kernel) ⟨Nat.le_of_ble_eq_true rfl, Nat.le_of_ble_eq_true rfl⟩) (gh_preV gh_En_ok hK hE (hP.sub (gh_twoL ht35)) hS hA he32 rfl _) rfl rfl hl.1 rfl (lv_room (Nat.le_of_ble_eq_true rfl)) dL_law_1108 ⟨hc27, hs28⟩) (fun r29 G30 H locs hw2 hP hd37 hS => ?_)
  replace hw := hw2
  clear hw2
  obtain ⟨G36, eG36⟩ : ∃ z : gh_H, z = gh_j G30 F34 := ⟨_, rfl⟩
  rw [← eG36] at hP
  replace hw := hw hd37 G36 eG36
  refine lv_iload hx hb dL_law_1111 (lv_at hl 1 rfl) ?_
  refine lv_icmp_eq (tgt := 1118) hx hb dL_law_1113 (by decide) (fun c38 => ?_) (fun c38 => ?_)
  · replace hw := hw.1 c38
    refine lv_iload hx hb dL_law_1118 (lv_at hl 1 rfl) ?_
    refine lv_if_ne (tgt := 1134) hx hb dL_law_1120 (by decide) (fun c39 => ?_) (fun c39 => ?_)
    · replace hw := hw.1 c39
      refine lv_goto (tgt := 1678) hx hb dL_law_1134 (by decide) ?_
      refine lv_iinc (v := (v4 + 5)) (lv' := [(4, .int (v4 + 5)), (6, .long r18), (5, .int r6), (0, .ref b), (1, .ref v1), (2, .ref v2), (3, .ref v3)]) hx hb dL_law_1678 hl (k := 6) rfl rfl (by decide) rfl (fun ls hl => ?_)
      refine lv_goto (tgt := 23) hx hb dL_law_1681 (by decide) ?_
      have hl := lv_sub (l' := [(0, .ref b), (1, .ref v1), (2, .ref v2), (3, .ref v3), (4, .int (v4 + 5))]) hl [3, 4, 5, 6, 0] rfl
      exact hJ23 _ v1 v2 v3 (v4 + 5) (((kc + 3) + 0) + 0) (((ks + 18) + 0) + 0) _ _ hw hP hS ls hl
    · replace hw := hw.2 c39
      refine lv_aload_n hx hb dL_law_1123 rfl (lv_at hl 5 rfl) ?_
      refine lv_iconst (v := 0) hx hb dL_law_1124 (by decide) ?_
      obtain ⟨n40, f41, he42, hi43, hw⟩ := hw
      refine gh_lald hx hb hK hP he42 rfl hi43 dL_law_1125 ?_
      refine lv_lload hx hb dL_law_1126 (lv_at hl 0 rfl) ?_
      refine W.lcmp hx hb dL_law_1128 ?_
      refine lv_if_eq (tgt := 1134) hx hb dL_law_1129 (by decide) (fun c44 => ?_) (fun c44 => ?_)
      · replace hw := hw.1 c44
        refine lv_goto (tgt := 1678) hx hb dL_law_1134 (by decide) ?_
        refine lv_iinc (v := (v4 + 5)) (lv' := [(4, .int (v4 + 5)), (6, .long r18), (5, .int r6), (0, .ref b), (1, .ref v1), (2, .ref v2), (3, .ref v3)]) hx hb dL_law_1678 hl (k := 6) rfl rfl (by decide) rfl (fun ls hl => ?_)
        refine lv_goto (tgt := 23) hx hb dL_law_1681 (by decide) ?_
        have hl := lv_sub (l' := [(0, .ref b), (1, .ref v1), (2, .ref v2), (3, .ref v3), (4, .int (v4 + 5))]) hl [3, 4, 5, 6, 0] rfl
        exact hJ23 _ v1 v2 v3 (v4 + 5) (((kc + 3) + 0) + 0) (((ks + 18) + 0) + 0) _ _ hw hP hS ls hl
      · replace hw := hw.2 c44
        refine lv_iconst (v := 0) hx hb dL_law_1132 (by decide) ?_
        obtain ⟨hc45, hs46, hw⟩ := hw
        exact gh_lawret hx hb hr hlocks hw hS hAl hc45 hs46 dL_law_1133
  · replace hw := hw.2 c38
    refine lv_iconst (v := 0) hx hb dL_law_1116 (by decide) ?_
    obtain ⟨hc47, hs48, hw⟩ := hw
    exact gh_lawret hx hb hr hlocks hw hS hAl hc47 hs48 dL_law_1117
def wL_law_1185 (post : Int32 → gh_H → Prop) (px : String → gh_H → Prop) (L : Nat) (xs : Nat → Int32) (J23 : gh_H → Nat → Nat → Nat → Int32 → Nat → Nat → Prop) (G : gh_H) (v1 : Nat) (v2 : Nat) (v3 : Nat) (v4 : Int32) (v5 : Int32) (s0 : Nat) (s1 : Int32) (s2 : Int32) (kc : Nat) (ks : Nat) : Prop := kc + 0 ≤ 601024 ∧ ks + 0 ≤ 7293034 ∧ (∃ G7 F8 : gh_H, gh_two G G7 F8 ∧ ∃ fs5 : List Value, G7 s0 = some (.inr (5, fs5)) ∧ wX5_dispute (fun r3 G4 => (∀ a9, G4 a9 ≠ none → F8 a9 = none) → ∀ G10 : gh_H, G10 = gh_j G4 F8 → (kc + 0) + 0 ≤ 601024 ∧ (ks + 0) + 0 ≤ 7293034 ∧ (∃ G18 F19 : gh_H, gh_two G10 G18 F19 ∧ ∃ fs16 : List Value, G18 v2 = some (.inr (5, fs16)) ∧ wX5_thrown (fun r14 G15 => (∀ a9, G15 a9 ≠ none → F19 a9 = none) → ∀ G21 : gh_H, G21 = gh_j G15 F19 → (r14 = v5 → ((¬ v5 = 0 → (J23 G21 v1 v2 v3 (v4 + 5) ((kc + 0) + 0) ((ks + 0) + 0))) ∧ (v5 = 0 → (∃ (n25 : Nat) (f26 : Nat → Int64), G21 v3 = some (.inl (1, n25, .inr (.inl f26))) ∧ vp_in 0 n25 ∧ (((lg_cmp (f26 (Int32.toNatClampNeg 0)) r3) = 0 → (J23 G21 v1 v2 v3 (v4 + 5) ((kc + 0) + 0) ((ks + 0) + 0))) ∧ (¬ (lg_cmp (f26 (Int32.toNatClampNeg 0)) r3) = 0 → (((kc + 0) + 0) ≤ 601024 ∧ ((ks + 0) + 0) ≤ 7293034 ∧ (0 = (1 : Int32))))))))) ∧ (¬ r14 = v5 → (((kc + 0) + 0) ≤ 601024 ∧ ((ks + 0) + 0) ≤ 7293034 ∧ (0 = (1 : Int32))))) (fun _ _ => False) G18 v2)) (fun _ _ => False) G7 s0 s1 s2)
set_option maxRecDepth 100000 in
set_option maxHeartbeats 4000000 in
theorem lL_law_1185 {p : Program} {l : Launch} {e : Env} {s : State} {m : MethodId} {below : List Frame} {meth : Method} {c : Code} {D : va_G} {AC : Nat → ClassId} {sa : gh_SA} {b L : Nat} {xs : Nat → Int32} {A : Nat → Prop} (hl0 : l.stackTraces = false) (CX : cxL p s m meth c D AC sa b L xs A) (post : Int32 → gh_H → Prop) (px : String → gh_H → Prop) (J23 : gh_H → Nat → Nat → Nat → Int32 → Nat → Nat → Prop) (hJ23 : ∀ (G : gh_H) (v1 : Nat) (v2 : Nat) (v3 : Nat) (v4 : Int32) (kc : Nat) (ks : Nat) (H : Heap) (locs : List Loc), J23 G v1 v2 v3 v4 kc ks → gh_h D vwCl AC A G H → va_S A s.heap H locs → ∀ ls : Array Slot, lv_has ls 8 [(0, .ref b), (1, .ref v1), (2, .ref v2), (3, .ref v3), (4, .int v4)] → W p l e room_1 s m #[Value.ref b] below meth c H locs kc ks (lw_Z below #[Value.ref b] s) (F0 m 23 ls [])) : ∀ (G : gh_H) (v1 : Nat) (v2 : Nat) (v3 : Nat) (v4 : Int32) (v5 : Int32) (s0 : Nat) (s1 : Int32) (s2 : Int32) (kc : Nat) (ks : Nat) (H : Heap) (locs : List Loc), wL_law_1185 post px L xs J23 G v1 v2 v3 v4 v5 s0 s1 s2 kc ks → gh_h D vwCl AC A G H → va_S A s.heap H locs → ∀ ls : Array Slot, lv_has ls 8 [(0, .ref b), (1, .ref v1), (2, .ref v2), (3, .ref v3), (4, .int v4), (5, .int v5)] → W p l e room_1 s m #[Value.ref b] below meth c H locs kc ks (lw_Z below #[Value.ref b] s) (F0 m 1185 ls [.int s2, .int s1, .ref s0]) := by
  obtain ⟨⟨hx, hb, hml, hown, hts⟩, hr, hlocks, hK, hE, hA, hX, hbl, hbA, hAl⟩ := id CX
  intro G v1 v2 v3 v4 v5 s0 s1 s2 kc ks H locs hw hP hS ls hl
  dsimp only [wL_law_1185] at hw
  obtain ⟨hc1, hs2, hw⟩ := hw
  obtain ⟨G7, F8, ht9, hw⟩ := hw
  obtain ⟨fs5, he6, hw⟩ := hw
  refine gh_fxl ht9 hP hS hA (vx_runV (C := "OwnerLedgerModel") (As := [.int s1, .int s2]) (rest := []) ⟨hx, hb, hml, hown, hts⟩ (mX5_dispute l hl0 D AC sa _ _ _ _ _ _ _ hw) (cwV 2 hts (gV kw_483 kw_484 kw_485 kw_2 kw_486) rfl rfl rfl (by decide +kernel) ⟨Nat.le_of_ble_eq_true rfl, Nat.le_of_ble_eq_true rfl⟩) (gh_preV gh_En_ok hK hE (hP.sub (gh_twoL ht9)) hS hA he6 rfl _) rfl rfl hl.1 rfl (lv_room (Nat.le_of_ble_eq_true rfl)) dL_law_1185 ⟨hc1, hs2⟩) (fun r3 G4 H locs hw2 hP hd11 hS => ?_)
  replace hw := hw2
  clear hw2
  obtain ⟨G10, eG10⟩ : ∃ z : gh_H, z = gh_j G4 F8 := ⟨_, rfl⟩
  rw [← eG10] at hP
  replace hw := hw hd11 G10 eG10
  refine lv_lstore (lv' := [(6, .long r3), (0, .ref b), (1, .ref v1), (2, .ref v2), (3, .ref v3), (4, .int v4), (5, .int v5)]) hx hb dL_law_1188 hl (by decide) rfl (fun ls hl => ?_)
  refine lv_aload_n hx hb dL_law_1190 rfl (lv_at hl 3 rfl) ?_
  obtain ⟨hc12, hs13, hw⟩ := hw
  obtain ⟨G18, F19, ht20, hw⟩ := hw
  obtain ⟨fs16, he17, hw⟩ := hw
  refine gh_fxi ht20 hP hS hA (vx_runV (C := "OwnerLedgerModel") (As := []) (rest := []) ⟨hx, hb, hml, hown, hts⟩ (mX5_thrown l hl0 D AC sa _ _ _ _ _ hw) (cwV 0 hts (gV kw_398 kw_399 kw_400 kw_2 kw_401) rfl rfl rfl (by decide +kernel) ⟨Nat.le_of_ble_eq_true rfl, Nat.le_of_ble_eq_true rfl⟩) (gh_preV gh_En_ok hK hE (hP.sub (gh_twoL ht20)) hS hA he17 rfl _) rfl rfl hl.1 rfl (lv_room (Nat.le_of_ble_eq_true rfl)) dL_law_1191 ⟨hc12, hs13⟩) (fun r14 G15 H locs hw2 hP hd22 hS => ?_)
  replace hw := hw2
  clear hw2
  obtain ⟨G21, eG21⟩ : ∃ z : gh_H, z = gh_j G15 F19 := ⟨_, rfl⟩
  rw [← eG21] at hP
  replace hw := hw hd22 G21 eG21
  refine lv_iload hx hb dL_law_1194 (lv_at hl 6 rfl) ?_
  refine lv_icmp_eq (tgt := 1201) hx hb dL_law_1196 (by decide) (fun c23 => ?_) (fun c23 => ?_)
  · replace hw := hw.1 c23
    refine lv_iload hx hb dL_law_1201 (lv_at hl 6 rfl) ?_
    refine lv_if_ne (tgt := 1217) hx hb dL_law_1203 (by decide) (fun c24 => ?_) (fun c24 => ?_)
    · replace hw := hw.1 c24
      refine lv_goto (tgt := 1678) hx hb dL_law_1217 (by decide) ?_
      refine lv_iinc (v := (v4 + 5)) (lv' := [(4, .int (v4 + 5)), (6, .long r3), (0, .ref b), (1, .ref v1), (2, .ref v2), (3, .ref v3), (5, .int v5)]) hx hb dL_law_1678 hl (k := 5) rfl rfl (by decide) rfl (fun ls hl => ?_)
      refine lv_goto (tgt := 23) hx hb dL_law_1681 (by decide) ?_
      have hl := lv_sub (l' := [(0, .ref b), (1, .ref v1), (2, .ref v2), (3, .ref v3), (4, .int (v4 + 5))]) hl [2, 3, 4, 5, 0] rfl
      exact hJ23 _ v1 v2 v3 (v4 + 5) ((kc + 0) + 0) ((ks + 0) + 0) _ _ hw hP hS ls hl
    · replace hw := hw.2 c24
      refine lv_aload_n hx hb dL_law_1206 rfl (lv_at hl 4 rfl) ?_
      refine lv_iconst (v := 0) hx hb dL_law_1207 (by decide) ?_
      obtain ⟨n25, f26, he27, hi28, hw⟩ := hw
      refine gh_lald hx hb hK hP he27 rfl hi28 dL_law_1208 ?_
      refine lv_lload hx hb dL_law_1209 (lv_at hl 0 rfl) ?_
      refine W.lcmp hx hb dL_law_1211 ?_
      refine lv_if_eq (tgt := 1217) hx hb dL_law_1212 (by decide) (fun c29 => ?_) (fun c29 => ?_)
      · replace hw := hw.1 c29
        refine lv_goto (tgt := 1678) hx hb dL_law_1217 (by decide) ?_
        refine lv_iinc (v := (v4 + 5)) (lv' := [(4, .int (v4 + 5)), (6, .long r3), (0, .ref b), (1, .ref v1), (2, .ref v2), (3, .ref v3), (5, .int v5)]) hx hb dL_law_1678 hl (k := 5) rfl rfl (by decide) rfl (fun ls hl => ?_)
        refine lv_goto (tgt := 23) hx hb dL_law_1681 (by decide) ?_
        have hl := lv_sub (l' := [(0, .ref b), (1, .ref v1), (2, .ref v2), (3, .ref v3), (4, .int (v4 + 5))]) hl [2, 3, 4, 5, 0] rfl
        exact hJ23 _ v1 v2 v3 (v4 + 5) ((kc + 0) + 0) ((ks + 0) + 0) _ _ hw hP hS ls hl
      · replace hw := hw.2 c29
        refine lv_iconst (v := 0) hx hb dL_law_1215 (by decide) ?_
        obtain ⟨hc30, hs31, hw⟩ := hw
        exact gh_lawret hx hb hr hlocks hw hS hAl hc30 hs31 dL_law_1216
  · replace hw := hw.2 c23
    refine lv_iconst (v := 0) hx hb dL_law_1199 (by decide) ?_
    obtain ⟨hc32, hs33, hw⟩ := hw
    exact gh_lawret hx hb hr hlocks hw hS hAl hc32 hs33 dL_law_1200
def wL_law_1158 (post : Int32 → gh_H → Prop) (px : String → gh_H → Prop) (L : Nat) (xs : Nat → Int32) (J23 : gh_H → Nat → Nat → Nat → Int32 → Nat → Nat → Prop) (G : gh_H) (v1 : Nat) (v2 : Nat) (v3 : Nat) (v4 : Int32) (s0 : Nat) (s1 : Int32) (s2 : Int32) (kc : Nat) (ks : Nat) : Prop := kc + 2 ≤ 601024 ∧ ks + 12 ≤ 7293034 ∧ (∃ G5 F6 : gh_H, gh_two G G5 F6 ∧ wL_dispute (fun r3 G4 => (∀ a9, G4 a9 ≠ none → F6 a9 = none) → ∀ G8 : gh_H, G8 = gh_j G4 F6 → vp_in (v4 + 1) L ∧ (vp_in (v4 + 2) L ∧ (((xs (Int32.toNatClampNeg (v4 + 2))) = 0 → (wL_law_1185 post px L xs J23 G8 v1 v2 v3 v4 r3 v2 (xs (Int32.toNatClampNeg (v4 + 1))) 0 (kc + 2) (ks + 12))) ∧ (¬ (xs (Int32.toNatClampNeg (v4 + 2))) = 0 → (wL_law_1185 post px L xs J23 G8 v1 v2 v3 v4 r3 v2 (xs (Int32.toNatClampNeg (v4 + 1))) 1 (kc + 2) (ks + 12)))))) (fun _ _ => False) G5 s0 s1 s2 v3)
set_option maxRecDepth 100000 in
set_option maxHeartbeats 4000000 in
theorem lL_law_1158 {p : Program} {l : Launch} {e : Env} {s : State} {m : MethodId} {below : List Frame} {meth : Method} {c : Code} {D : va_G} {AC : Nat → ClassId} {sa : gh_SA} {b L : Nat} {xs : Nat → Int32} {A : Nat → Prop} (hl0 : l.stackTraces = false) (CX : cxL p s m meth c D AC sa b L xs A) (post : Int32 → gh_H → Prop) (px : String → gh_H → Prop) (J23 : gh_H → Nat → Nat → Nat → Int32 → Nat → Nat → Prop) (hJ23 : ∀ (G : gh_H) (v1 : Nat) (v2 : Nat) (v3 : Nat) (v4 : Int32) (kc : Nat) (ks : Nat) (H : Heap) (locs : List Loc), J23 G v1 v2 v3 v4 kc ks → gh_h D vwCl AC A G H → va_S A s.heap H locs → ∀ ls : Array Slot, lv_has ls 8 [(0, .ref b), (1, .ref v1), (2, .ref v2), (3, .ref v3), (4, .int v4)] → W p l e room_1 s m #[Value.ref b] below meth c H locs kc ks (lw_Z below #[Value.ref b] s) (F0 m 23 ls [])) : ∀ (G : gh_H) (v1 : Nat) (v2 : Nat) (v3 : Nat) (v4 : Int32) (s0 : Nat) (s1 : Int32) (s2 : Int32) (kc : Nat) (ks : Nat) (H : Heap) (locs : List Loc), wL_law_1158 post px L xs J23 G v1 v2 v3 v4 s0 s1 s2 kc ks → gh_h D vwCl AC A G H → va_S A s.heap H locs → ∀ ls : Array Slot, lv_has ls 8 [(0, .ref b), (1, .ref v1), (2, .ref v2), (3, .ref v3), (4, .int v4)] → W p l e room_1 s m #[Value.ref b] below meth c H locs kc ks (lw_Z below #[Value.ref b] s) (F0 m 1158 ls [.int s2, .int s1, .ref s0]) := by
  obtain ⟨⟨hx, hb, hml, hown, hts⟩, hr, hlocks, hK, hE, hA, hX, hbl, hbA, hAl⟩ := id CX
  intro G v1 v2 v3 v4 s0 s1 s2 kc ks H locs hw hP hS ls hl
  dsimp only [wL_law_1158] at hw
  refine lv_aload_n hx hb dL_law_1158 rfl (lv_at hl 3 rfl) ?_
  obtain ⟨hc1, hs2, hw⟩ := hw
  obtain ⟨G5, F6, ht7, hw⟩ := hw
  refine gh_fxi ht7 hP hS hA (vx_runSX (As := [.ref s0, .int s1, .int s2, .ref v3]) (rest := []) ⟨hx, hb, hml, hown, hts⟩ (mL_dispute l hl0 D AC sa _ _ _ _ _ _ _ _ hw) (vx_cwSW 4 hts (gS kw_288 kw_289 kw_0 kw_290) rfl rfl rfl (by decide +kernel) ⟨Nat.le_of_ble_eq_true rfl, Nat.le_of_ble_eq_true rfl⟩) (gh_pre gh_En_ok hK hE (hP.sub (gh_twoL ht7)) hS hA _) rfl rfl hl.1 rfl (lv_room (Nat.le_of_ble_eq_true rfl)) dL_law_1159 ⟨hc1, hs2⟩) (fun r3 G4 H locs hw2 hP hd9 hS => ?_)
  replace hw := hw2
  clear hw2
  obtain ⟨G8, eG8⟩ : ∃ z : gh_H, z = gh_j G4 F6 := ⟨_, rfl⟩
  rw [← eG8] at hP
  replace hw := hw hd9 G8 eG8
  refine lv_istore (lv' := [(5, .int r3), (0, .ref b), (1, .ref v1), (2, .ref v2), (3, .ref v3), (4, .int v4)]) hx hb dL_law_1162 hl (by decide) rfl (fun ls hl => ?_)
  refine lv_aload_n hx hb dL_law_1164 rfl (lv_at hl 3 rfl) ?_
  refine lv_aload_n hx hb dL_law_1165 rfl (lv_at hl 1 rfl) ?_
  refine lv_iload hx hb dL_law_1166 (lv_at hl 5 rfl) ?_
  refine lv_iconst (v := 1) hx hb dL_law_1168 (by decide) ?_
  refine lv_iadd hx hb dL_law_1169 ?_
  obtain ⟨hi10, hw⟩ := hw
  refine va_sld hx hb hX hbl hbA hS hi10 dL_law_1170 ?_
  refine lv_aload_n hx hb dL_law_1171 rfl (lv_at hl 1 rfl) ?_
  refine lv_iload hx hb dL_law_1172 (lv_at hl 5 rfl) ?_
  refine lv_iconst (v := 2) hx hb dL_law_1174 (by decide) ?_
  refine lv_iadd hx hb dL_law_1175 ?_
  obtain ⟨hi11, hw⟩ := hw
  refine va_sld hx hb hX hbl hbA hS hi11 dL_law_1176 ?_
  refine lv_if_eq (tgt := 1184) hx hb dL_law_1177 (by decide) (fun c12 => ?_) (fun c12 => ?_)
  · replace hw := hw.1 c12
    refine lv_iconst (v := 0) hx hb dL_law_1184 (by decide) ?_
    have hl := lv_sub (l' := [(0, .ref b), (1, .ref v1), (2, .ref v2), (3, .ref v3), (4, .int v4), (5, .int r3)]) hl [1, 2, 3, 4, 5, 0] rfl
    exact lL_law_1185 hl0 CX post px J23 hJ23 _ v1 v2 v3 v4 r3 v2 (xs (Int32.toNatClampNeg (v4 + 1))) 0 (kc + 2) (ks + 12) _ _ hw hP hS ls hl
  · replace hw := hw.2 c12
    refine lv_iconst (v := 1) hx hb dL_law_1180 (by decide) ?_
    refine lv_goto (tgt := 1185) hx hb dL_law_1181 (by decide) ?_
    have hl := lv_sub (l' := [(0, .ref b), (1, .ref v1), (2, .ref v2), (3, .ref v3), (4, .int v4), (5, .int r3)]) hl [1, 2, 3, 4, 5, 0] rfl
    exact lL_law_1185 hl0 CX post px J23 hJ23 _ v1 v2 v3 v4 r3 v2 (xs (Int32.toNatClampNeg (v4 + 1))) 1 (kc + 2) (ks + 12) _ _ hw hP hS ls hl
def wL_law_1137 (post : Int32 → gh_H → Prop) (px : String → gh_H → Prop) (L : Nat) (xs : Nat → Int32) (J23 : gh_H → Nat → Nat → Nat → Int32 → Nat → Nat → Prop) (G : gh_H) (v1 : Nat) (v2 : Nat) (v3 : Nat) (v4 : Int32) (kc : Nat) (ks : Nat) : Prop := vp_in (v4 + 1) L ∧ (vp_in (v4 + 2) L ∧ (((xs (Int32.toNatClampNeg (v4 + 2))) = 0 → (wL_law_1158 post px L xs J23 G v1 v2 v3 v4 v1 (xs (Int32.toNatClampNeg (v4 + 1))) 0 kc ks)) ∧ (¬ (xs (Int32.toNatClampNeg (v4 + 2))) = 0 → (wL_law_1158 post px L xs J23 G v1 v2 v3 v4 v1 (xs (Int32.toNatClampNeg (v4 + 1))) 1 kc ks))))
set_option maxRecDepth 100000 in
set_option maxHeartbeats 4000000 in
theorem lL_law_1137 {p : Program} {l : Launch} {e : Env} {s : State} {m : MethodId} {below : List Frame} {meth : Method} {c : Code} {D : va_G} {AC : Nat → ClassId} {sa : gh_SA} {b L : Nat} {xs : Nat → Int32} {A : Nat → Prop} (hl0 : l.stackTraces = false) (CX : cxL p s m meth c D AC sa b L xs A) (post : Int32 → gh_H → Prop) (px : String → gh_H → Prop) (J23 : gh_H → Nat → Nat → Nat → Int32 → Nat → Nat → Prop) (hJ23 : ∀ (G : gh_H) (v1 : Nat) (v2 : Nat) (v3 : Nat) (v4 : Int32) (kc : Nat) (ks : Nat) (H : Heap) (locs : List Loc), J23 G v1 v2 v3 v4 kc ks → gh_h D vwCl AC A G H → va_S A s.heap H locs → ∀ ls : Array Slot, lv_has ls 8 [(0, .ref b), (1, .ref v1), (2, .ref v2), (3, .ref v3), (4, .int v4)] → W p l e room_1 s m #[Value.ref b] below meth c H locs kc ks (lw_Z below #[Value.ref b] s) (F0 m 23 ls [])) : ∀ (G : gh_H) (v1 : Nat) (v2 : Nat) (v3 : Nat) (v4 : Int32) (kc : Nat) (ks : Nat) (H : Heap) (locs : List Loc), wL_law_1137 post px L xs J23 G v1 v2 v3 v4 kc ks → gh_h D vwCl AC A G H → va_S A s.heap H locs → ∀ ls : Array Slot, lv_has ls 8 [(0, .ref b), (1, .ref v1), (2, .ref v2), (3, .ref v3), (4, .int v4)] → W p l e room_1 s m #[Value.ref b] below meth c H locs kc ks (lw_Z below #[Value.ref b] s) (F0 m 1137 ls []) := by
  obtain ⟨⟨hx, hb, hml, hown, hts⟩, hr, hlocks, hK, hE, hA, hX, hbl, hbA, hAl⟩ := id CX
  intro G v1 v2 v3 v4 kc ks H locs hw hP hS ls hl
  dsimp only [wL_law_1137] at hw
  refine lv_aload_n hx hb dL_law_1137 rfl (lv_at hl 1 rfl) ?_
  refine lv_aload_n hx hb dL_law_1138 rfl (lv_at hl 0 rfl) ?_
  refine lv_iload hx hb dL_law_1139 (lv_at hl 4 rfl) ?_
  refine lv_iconst (v := 1) hx hb dL_law_1141 (by decide) ?_
  refine lv_iadd hx hb dL_law_1142 ?_
  obtain ⟨hi1, hw⟩ := hw
  refine va_sld hx hb hX hbl hbA hS hi1 dL_law_1143 ?_
  refine lv_aload_n hx hb dL_law_1144 rfl (lv_at hl 0 rfl) ?_
  refine lv_iload hx hb dL_law_1145 (lv_at hl 4 rfl) ?_
  refine lv_iconst (v := 2) hx hb dL_law_1147 (by decide) ?_
  refine lv_iadd hx hb dL_law_1148 ?_
  obtain ⟨hi2, hw⟩ := hw
  refine va_sld hx hb hX hbl hbA hS hi2 dL_law_1149 ?_
  refine lv_if_eq (tgt := 1157) hx hb dL_law_1150 (by decide) (fun c3 => ?_) (fun c3 => ?_)
  · replace hw := hw.1 c3
    refine lv_iconst (v := 0) hx hb dL_law_1157 (by decide) ?_
    have hl := lv_sub (l' := [(0, .ref b), (1, .ref v1), (2, .ref v2), (3, .ref v3), (4, .int v4)]) hl [0, 1, 2, 3, 4] rfl
    exact lL_law_1158 hl0 CX post px J23 hJ23 _ v1 v2 v3 v4 v1 (xs (Int32.toNatClampNeg (v4 + 1))) 0 kc ks _ _ hw hP hS ls hl
  · replace hw := hw.2 c3
    refine lv_iconst (v := 1) hx hb dL_law_1153 (by decide) ?_
    refine lv_goto (tgt := 1158) hx hb dL_law_1154 (by decide) ?_
    have hl := lv_sub (l' := [(0, .ref b), (1, .ref v1), (2, .ref v2), (3, .ref v3), (4, .int v4)]) hl [0, 1, 2, 3, 4] rfl
    exact lL_law_1158 hl0 CX post px J23 hJ23 _ v1 v2 v3 v4 v1 (xs (Int32.toNatClampNeg (v4 + 1))) 1 kc ks _ _ hw hP hS ls hl
