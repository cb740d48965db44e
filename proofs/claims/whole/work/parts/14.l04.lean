def wL_law_1220 (post : Int32 → gh_H → Prop) (px : String → gh_H → Prop) (L : Nat) (xs : Nat → Int32) (J23 : gh_H → Nat → Nat → Nat → Int32 → Nat → Nat → Prop) (G : gh_H) (v1 : Nat) (v2 : Nat) (v3 : Nat) (v4 : Int32) (kc : Nat) (ks : Nat) : Prop := vp_in (v4 + 1) L ∧ (kc + 2 ≤ 601024 ∧ ks + 12 ≤ 7293034 ∧ (∃ G6 F7 : gh_H, gh_two G G6 F7 ∧ wL_dun (fun r4 G5 => (∀ a9, G5 a9 ≠ none → F7 a9 = none) → ∀ G9 : gh_H, G9 = gh_j G5 F7 → vp_in (v4 + 1) L ∧ ((kc + 2) + 0 ≤ 601024 ∧ (ks + 12) + 0 ≤ 7293034 ∧ (∃ G18 F19 : gh_H, gh_two G9 G18 F19 ∧ ∃ fs16 : List Value, G18 v2 = some (.inr (5, fs16)) ∧ wX5_dun (fun r14 G15 => (∀ a9, G15 a9 ≠ none → F19 a9 = none) → ∀ G21 : gh_H, G21 = gh_j G15 F19 → ((kc + 2) + 0) + 0 ≤ 601024 ∧ ((ks + 12) + 0) + 0 ≤ 7293034 ∧ (∃ G29 F30 : gh_H, gh_two G21 G29 F30 ∧ ∃ fs27 : List Value, G29 v2 = some (.inr (5, fs27)) ∧ wX5_thrown (fun r25 G26 => (∀ a9, G26 a9 ≠ none → F30 a9 = none) → ∀ G32 : gh_H, G32 = gh_j G26 F30 → (r25 = r4 → ((¬ r4 = 0 → (J23 G32 v1 v2 v3 (v4 + 5) (((kc + 2) + 0) + 0) (((ks + 12) + 0) + 0))) ∧ (r4 = 0 → (∃ (n36 : Nat) (f37 : Nat → Int64), G32 v3 = some (.inl (1, n36, .inr (.inl f37))) ∧ vp_in 0 n36 ∧ (((lg_cmp (f37 (Int32.toNatClampNeg 0)) (Int32.toInt64 r14)) = 0 → (J23 G32 v1 v2 v3 (v4 + 5) (((kc + 2) + 0) + 0) (((ks + 12) + 0) + 0))) ∧ (¬ (lg_cmp (f37 (Int32.toNatClampNeg 0)) (Int32.toInt64 r14)) = 0 → ((((kc + 2) + 0) + 0) ≤ 601024 ∧ (((ks + 12) + 0) + 0) ≤ 7293034 ∧ (0 = (1 : Int32))))))))) ∧ (¬ r25 = r4 → ((((kc + 2) + 0) + 0) ≤ 601024 ∧ (((ks + 12) + 0) + 0) ≤ 7293034 ∧ (0 = (1 : Int32))))) (fun _ _ => False) G29 v2)) (fun _ _ => False) G18 v2 (xs (Int32.toNatClampNeg (v4 + 1)))))) (fun _ _ => False) G6 v1 (xs (Int32.toNatClampNeg (v4 + 1))) v3))
set_option maxRecDepth 100000 in
set_option maxHeartbeats 4000000 in
theorem lL_law_1220 {p : Program} {l : Launch} {e : Env} {s : State} {m : MethodId} {below : List Frame} {meth : Method} {c : Code} {D : va_G} {AC : Nat → ClassId} {sa : gh_SA} {b L : Nat} {xs : Nat → Int32} {A : Nat → Prop} (hl0 : l.stackTraces = false) (CX : cxL p s m meth c D AC sa b L xs A) (post : Int32 → gh_H → Prop) (px : String → gh_H → Prop) (J23 : gh_H → Nat → Nat → Nat → Int32 → Nat → Nat → Prop) (hJ23 : ∀ (G : gh_H) (v1 : Nat) (v2 : Nat) (v3 : Nat) (v4 : Int32) (kc : Nat) (ks : Nat) (H : Heap) (locs : List Loc), J23 G v1 v2 v3 v4 kc ks → gh_h D vwCl AC A G H → va_S A s.heap H locs → ∀ ls : Array Slot, lv_has ls 8 [(0, .ref b), (1, .ref v1), (2, .ref v2), (3, .ref v3), (4, .int v4)] → W p l e room_1 s m #[Value.ref b] below meth c H locs kc ks (lw_Z below #[Value.ref b] s) (F0 m 23 ls [])) : ∀ (G : gh_H) (v1 : Nat) (v2 : Nat) (v3 : Nat) (v4 : Int32) (kc : Nat) (ks : Nat) (H : Heap) (locs : List Loc), wL_law_1220 post px L xs J23 G v1 v2 v3 v4 kc ks → gh_h D vwCl AC A G H → va_S A s.heap H locs → ∀ ls : Array Slot, lv_has ls 8 [(0, .ref b), (1, .ref v1), (2, .ref v2), (3, .ref v3), (4, .int v4)] → W p l e room_1 s m #[Value.ref b] below meth c H locs kc ks (lw_Z below #[Value.ref b] s) (F0 m 1220 ls []) := by
  obtain ⟨⟨hx, hb, hml, hown, hts⟩, hr, hlocks, hK, hE, hA, hX, hbl, hbA, hAl⟩ := id CX
  intro G v1 v2 v3 v4 kc ks H locs hw hP hS ls hl
  dsimp only [wL_law_1220] at hw
  refine lv_aload_n hx hb dL_law_1220 rfl (lv_at hl 1 rfl) ?_
  refine lv_aload_n hx hb dL_law_1221 rfl (lv_at hl 0 rfl) ?_
  refine lv_iload hx hb dL_law_1222 (lv_at hl 4 rfl) ?_
  refine lv_iconst (v := 1) hx hb dL_law_1224 (by decide) ?_
  refine lv_iadd hx hb dL_law_1225 ?_
  obtain ⟨hi1, hw⟩ := hw
  refine va_sld hx hb hX hbl hbA hS hi1 dL_law_1226 ?_
  refine lv_aload_n hx hb dL_law_1227 rfl (lv_at hl 3 rfl) ?_
  obtain ⟨hc2, hs3, hw⟩ := hw
  obtain ⟨G6, F7, ht8, hw⟩ := hw
  refine gh_fxi ht8 hP hS hA (vx_runSX (As := [.ref v1, .int (xs (Int32.toNatClampNeg (v4 + 1))), .ref v3]) (rest := []) ⟨hx, hb, hml, hown, hts⟩ (mL_dun l hl0 D AC sa _ _ _ _ _ _ _ hw) (vx_cwSW 3 hts (gS kw_295 kw_296 kw_0 kw_297) rfl rfl rfl (by decide +kernel) ⟨Nat.le_of_ble_eq_true rfl, Nat.le_of_ble_eq_true rfl⟩) (gh_pre gh_En_ok hK hE (hP.sub (gh_twoL ht8)) hS hA _) rfl rfl hl.1 rfl (lv_room (Nat.le_of_ble_eq_true rfl)) dL_law_1228 ⟨hc2, hs3⟩) (fun r4 G5 H locs hw2 hP hd10 hS => ?_)
  replace hw := hw2
  clear hw2
  obtain ⟨G9, eG9⟩ : ∃ z : gh_H, z = gh_j G5 F7 := ⟨_, rfl⟩
  rw [← eG9] at hP
  replace hw := hw hd10 G9 eG9
  refine lv_istore (lv' := [(5, .int r4), (0, .ref b), (1, .ref v1), (2, .ref v2), (3, .ref v3), (4, .int v4)]) hx hb dL_law_1231 hl (by decide) rfl (fun ls hl => ?_)
  refine lv_aload_n hx hb dL_law_1233 rfl (lv_at hl 3 rfl) ?_
  refine lv_aload_n hx hb dL_law_1234 rfl (lv_at hl 1 rfl) ?_
  refine lv_iload hx hb dL_law_1235 (lv_at hl 5 rfl) ?_
  refine lv_iconst (v := 1) hx hb dL_law_1237 (by decide) ?_
  refine lv_iadd hx hb dL_law_1238 ?_
  obtain ⟨hi11, hw⟩ := hw
  refine va_sld hx hb hX hbl hbA hS hi11 dL_law_1239 ?_
  obtain ⟨hc12, hs13, hw⟩ := hw
  obtain ⟨G18, F19, ht20, hw⟩ := hw
  obtain ⟨fs16, he17, hw⟩ := hw
  refine gh_fxi ht20 hP hS hA (vx_runV (C := "OwnerLedgerModel") (As := [.int (xs (Int32.toNatClampNeg (v4 + 1)))]) (rest := []) ⟨hx, hb, hml, hown, hts⟩ (mX5_dun l hl0 D AC sa _ _ _ _ _ _ hw) (cwV 1 hts (gV kw_487 kw_488 kw_489 kw_2 kw_490) rfl rfl rfl (by decide +kernel) ⟨Nat.le_of_ble_eq_true rfl, Nat.le_of_ble_eq_true rfl⟩) (gh_preV gh_En_ok hK hE (hP.sub (gh_twoL ht20)) hS hA he17 rfl _) rfl rfl hl.1 rfl (lv_room (Nat.le_of_ble_eq_true rfl)) dL_law_1240 ⟨hc12, hs13⟩) (fun r14 G15 H locs hw2 hP hd22 hS => ?_)
  replace hw := hw2
  clear hw2
  obtain ⟨G21, eG21⟩ : ∃ z : gh_H, z = gh_j G15 F19 := ⟨_, rfl⟩
  rw [← eG21] at hP
  replace hw := hw hd22 G21 eG21
  refine lv_istore (lv' := [(6, .int r14), (5, .int r4), (0, .ref b), (1, .ref v1), (2, .ref v2), (3, .ref v3), (4, .int v4)]) hx hb dL_law_1243 hl (by decide) rfl (fun ls hl => ?_)
  refine lv_aload_n hx hb dL_law_1245 rfl (lv_at hl 4 rfl) ?_
  obtain ⟨hc23, hs24, hw⟩ := hw
  obtain ⟨G29, F30, ht31, hw⟩ := hw
  obtain ⟨fs27, he28, hw⟩ := hw
  refine gh_fxi ht31 hP hS hA (vx_runV (C := "OwnerLedgerModel") (As := []) (rest := []) ⟨hx, hb, hml, hown, hts⟩ (mX5_thrown l hl0 D AC sa _ _ _ _ _ hw) (cwV 0 hts (gV kw_398 kw_399 kw_400 kw_2 kw_401) rfl rfl rfl (by decide +kernel) ⟨Nat.le_of_ble_eq_true rfl, Nat.le_of_ble_eq_true rfl⟩) (gh_preV gh_En_ok hK hE (hP.sub (gh_twoL ht31)) hS hA he28 rfl _) rfl rfl hl.1 rfl (lv_room (Nat.le_of_ble_eq_true rfl)) dL_law_1246 ⟨hc23, hs24⟩) (fun r25 G26 H locs hw2 hP hd33 hS => ?_)
  replace hw := hw2
  clear hw2
  obtain ⟨G32, eG32⟩ : ∃ z : gh_H, z = gh_j G26 F30 := ⟨_, rfl⟩
  rw [← eG32] at hP
  replace hw := hw hd33 G32 eG32
  refine lv_iload hx hb dL_law_1249 (lv_at hl 1 rfl) ?_
  refine lv_icmp_eq (tgt := 1256) hx hb dL_law_1251 (by decide) (fun c34 => ?_) (fun c34 => ?_)
  · replace hw := hw.1 c34
    refine lv_iload hx hb dL_law_1256 (lv_at hl 1 rfl) ?_
    refine lv_if_ne (tgt := 1273) hx hb dL_law_1258 (by decide) (fun c35 => ?_) (fun c35 => ?_)
    · replace hw := hw.1 c35
      refine lv_goto (tgt := 1678) hx hb dL_law_1273 (by decide) ?_
      refine lv_iinc (v := (v4 + 5)) (lv' := [(4, .int (v4 + 5)), (6, .int r14), (5, .int r4), (0, .ref b), (1, .ref v1), (2, .ref v2), (3, .ref v3)]) hx hb dL_law_1678 hl (k := 6) rfl rfl (by decide) rfl (fun ls hl => ?_)
      refine lv_goto (tgt := 23) hx hb dL_law_1681 (by decide) ?_
      have hl := lv_sub (l' := [(0, .ref b), (1, .ref v1), (2, .ref v2), (3, .ref v3), (4, .int (v4 + 5))]) hl [3, 4, 5, 6, 0] rfl
      exact hJ23 _ v1 v2 v3 (v4 + 5) (((kc + 2) + 0) + 0) (((ks + 12) + 0) + 0) _ _ hw hP hS ls hl
    · replace hw := hw.2 c35
      refine lv_aload_n hx hb dL_law_1261 rfl (lv_at hl 5 rfl) ?_
      refine lv_iconst (v := 0) hx hb dL_law_1262 (by decide) ?_
      obtain ⟨n36, f37, he38, hi39, hw⟩ := hw
      refine gh_lald hx hb hK hP he38 rfl hi39 dL_law_1263 ?_
      refine lv_iload hx hb dL_law_1264 (lv_at hl 0 rfl) ?_
      refine lv_i2l hx hb dL_law_1266 rfl ?_
      refine W.lcmp hx hb dL_law_1267 ?_
      refine lv_if_eq (tgt := 1273) hx hb dL_law_1268 (by decide) (fun c40 => ?_) (fun c40 => ?_)
      · replace hw := hw.1 c40
        refine lv_goto (tgt := 1678) hx hb dL_law_1273 (by decide) ?_
        refine lv_iinc (v := (v4 + 5)) (lv' := [(4, .int (v4 + 5)), (6, .int r14), (5, .int r4), (0, .ref b), (1, .ref v1), (2, .ref v2), (3, .ref v3)]) hx hb dL_law_1678 hl (k := 6) rfl rfl (by decide) rfl (fun ls hl => ?_)
        refine lv_goto (tgt := 23) hx hb dL_law_1681 (by decide) ?_
        have hl := lv_sub (l' := [(0, .ref b), (1, .ref v1), (2, .ref v2), (3, .ref v3), (4, .int (v4 + 5))]) hl [3, 4, 5, 6, 0] rfl
        exact hJ23 _ v1 v2 v3 (v4 + 5) (((kc + 2) + 0) + 0) (((ks + 12) + 0) + 0) _ _ hw hP hS ls hl
      · replace hw := hw.2 c40
        refine lv_iconst (v := 0) hx hb dL_law_1271 (by decide) ?_
        obtain ⟨hc41, hs42, hw⟩ := hw
        exact gh_lawret hx hb hr hlocks hw hS hAl hc41 hs42 dL_law_1272
  · replace hw := hw.2 c34
    refine lv_iconst (v := 0) hx hb dL_law_1254 (by decide) ?_
    obtain ⟨hc43, hs44, hw⟩ := hw
    exact gh_lawret hx hb hr hlocks hw hS hAl hc43 hs44 dL_law_1255
def wL_law_1276 (post : Int32 → gh_H → Prop) (px : String → gh_H → Prop) (L : Nat) (xs : Nat → Int32) (J23 : gh_H → Nat → Nat → Nat → Int32 → Nat → Nat → Prop) (G : gh_H) (v1 : Nat) (v2 : Nat) (v3 : Nat) (v4 : Int32) (kc : Nat) (ks : Nat) : Prop := vp_in (v4 + 1) L ∧ (kc + 1 ≤ 601024 ∧ ks + 6 ≤ 7293034 ∧ (∃ G6 F7 : gh_H, gh_two G G6 F7 ∧ wL_rate (fun r4 G5 => (∀ a9, G5 a9 ≠ none → F7 a9 = none) → ∀ G9 : gh_H, G9 = gh_j G5 F7 → vp_in (v4 + 1) L ∧ ((kc + 1) + 0 ≤ 601024 ∧ (ks + 6) + 0 ≤ 7293034 ∧ (∃ G18 F19 : gh_H, gh_two G9 G18 F19 ∧ ∃ fs16 : List Value, G18 v2 = some (.inr (5, fs16)) ∧ wX5_rate (fun G15 => (∀ a9, G15 a9 ≠ none → F19 a9 = none) → ∀ G21 : gh_H, G21 = gh_j G15 F19 → ((kc + 1) + 0) + 0 ≤ 601024 ∧ ((ks + 6) + 0) + 0 ≤ 7293034 ∧ (∃ G29 F30 : gh_H, gh_two G21 G29 F30 ∧ ∃ fs27 : List Value, G29 v2 = some (.inr (5, fs27)) ∧ wX5_thrown (fun r25 G26 => (∀ a9, G26 a9 ≠ none → F30 a9 = none) → ∀ G32 : gh_H, G32 = gh_j G26 F30 → (r25 = r4 → (J23 G32 v1 v2 v3 (v4 + 5) (((kc + 1) + 0) + 0) (((ks + 6) + 0) + 0))) ∧ (¬ r25 = r4 → ((((kc + 1) + 0) + 0) ≤ 601024 ∧ (((ks + 6) + 0) + 0) ≤ 7293034 ∧ (0 = (1 : Int32))))) (fun _ _ => False) G29 v2)) (fun _ _ => False) G18 v2 (xs (Int32.toNatClampNeg (v4 + 1)))))) (fun _ _ => False) G6 v1 (xs (Int32.toNatClampNeg (v4 + 1)))))
set_option maxRecDepth 100000 in
set_option maxHeartbeats 4000000 in
theorem lL_law_1276 {p : Program} {l : Launch} {e : Env} {s : State} {m : MethodId} {below : List Frame} {meth : Method} {c : Code} {D : va_G} {AC : Nat → ClassId} {sa : gh_SA} {b L : Nat} {xs : Nat → Int32} {A : Nat → Prop} (hl0 : l.stackTraces = false) (CX : cxL p s m meth c D AC sa b L xs A) (post : Int32 → gh_H → Prop) (px : String → gh_H → Prop) (J23 : gh_H → Nat → Nat → Nat → Int32 → Nat → Nat → Prop) (hJ23 : ∀ (G : gh_H) (v1 : Nat) (v2 : Nat) (v3 : Nat) (v4 : Int32) (kc : Nat) (ks : Nat) (H : Heap) (locs : List Loc), J23 G v1 v2 v3 v4 kc ks → gh_h D vwCl AC A G H → va_S A s.heap H locs → ∀ ls : Array Slot, lv_has ls 8 [(0, .ref b), (1, .ref v1), (2, .ref v2), (3, .ref v3), (4, .int v4)] → W p l e room_1 s m #[Value.ref b] below meth c H locs kc ks (lw_Z below #[Value.ref b] s) (F0 m 23 ls [])) : ∀ (G : gh_H) (v1 : Nat) (v2 : Nat) (v3 : Nat) (v4 : Int32) (kc : Nat) (ks : Nat) (H : Heap) (locs : List Loc), wL_law_1276 post px L xs J23 G v1 v2 v3 v4 kc ks → gh_h D vwCl AC A G H → va_S A s.heap H locs → ∀ ls : Array Slot, lv_has ls 8 [(0, .ref b), (1, .ref v1), (2, .ref v2), (3, .ref v3), (4, .int v4)] → W p l e room_1 s m #[Value.ref b] below meth c H locs kc ks (lw_Z below #[Value.ref b] s) (F0 m 1276 ls []) := by
  obtain ⟨⟨hx, hb, hml, hown, hts⟩, hr, hlocks, hK, hE, hA, hX, hbl, hbA, hAl⟩ := id CX
  intro G v1 v2 v3 v4 kc ks H locs hw hP hS ls hl
  dsimp only [wL_law_1276] at hw
  refine lv_aload_n hx hb dL_law_1276 rfl (lv_at hl 1 rfl) ?_
  refine lv_aload_n hx hb dL_law_1277 rfl (lv_at hl 0 rfl) ?_
  refine lv_iload hx hb dL_law_1278 (lv_at hl 4 rfl) ?_
  refine lv_iconst (v := 1) hx hb dL_law_1280 (by decide) ?_
  refine lv_iadd hx hb dL_law_1281 ?_
  obtain ⟨hi1, hw⟩ := hw
  refine va_sld hx hb hX hbl hbA hS hi1 dL_law_1282 ?_
  obtain ⟨hc2, hs3, hw⟩ := hw
  obtain ⟨G6, F7, ht8, hw⟩ := hw
  refine gh_fxi ht8 hP hS hA (vx_runSX (As := [.ref v1, .int (xs (Int32.toNatClampNeg (v4 + 1)))]) (rest := []) ⟨hx, hb, hml, hown, hts⟩ (mL_rate l hl0 D AC sa _ _ _ _ _ _ hw) (vx_cwSW 2 hts (gS kw_306 kw_307 kw_0 kw_308) rfl rfl rfl (by decide +kernel) ⟨Nat.le_of_ble_eq_true rfl, Nat.le_of_ble_eq_true rfl⟩) (gh_pre gh_En_ok hK hE (hP.sub (gh_twoL ht8)) hS hA _) rfl rfl hl.1 rfl (lv_room (Nat.le_of_ble_eq_true rfl)) dL_law_1283 ⟨hc2, hs3⟩) (fun r4 G5 H locs hw2 hP hd10 hS => ?_)
  replace hw := hw2
  clear hw2
  obtain ⟨G9, eG9⟩ : ∃ z : gh_H, z = gh_j G5 F7 := ⟨_, rfl⟩
  rw [← eG9] at hP
  replace hw := hw hd10 G9 eG9
  refine lv_istore (lv' := [(5, .int r4), (0, .ref b), (1, .ref v1), (2, .ref v2), (3, .ref v3), (4, .int v4)]) hx hb dL_law_1286 hl (by decide) rfl (fun ls hl => ?_)
  refine lv_aload_n hx hb dL_law_1288 rfl (lv_at hl 3 rfl) ?_
  refine lv_aload_n hx hb dL_law_1289 rfl (lv_at hl 1 rfl) ?_
  refine lv_iload hx hb dL_law_1290 (lv_at hl 5 rfl) ?_
  refine lv_iconst (v := 1) hx hb dL_law_1292 (by decide) ?_
  refine lv_iadd hx hb dL_law_1293 ?_
  obtain ⟨hi11, hw⟩ := hw
  refine va_sld hx hb hX hbl hbA hS hi11 dL_law_1294 ?_
  obtain ⟨hc12, hs13, hw⟩ := hw
  obtain ⟨G18, F19, ht20, hw⟩ := hw
  obtain ⟨fs16, he17, hw⟩ := hw
  refine gh_fxv ht20 hP hS hA (vx_runV (C := "OwnerLedgerModel") (As := [.int (xs (Int32.toNatClampNeg (v4 + 1)))]) (rest := []) ⟨hx, hb, hml, hown, hts⟩ (mX5_rate l hl0 D AC sa _ _ _ _ _ _ hw) (cwV 1 hts (gV kw_494 kw_495 kw_496 kw_2 kw_497) rfl rfl rfl (by decide +kernel) ⟨Nat.le_of_ble_eq_true rfl, Nat.le_of_ble_eq_true rfl⟩) (gh_preV gh_En_ok hK hE (hP.sub (gh_twoL ht20)) hS hA he17 rfl _) rfl rfl hl.1 rfl (lv_room (Nat.le_of_ble_eq_true rfl)) dL_law_1295 ⟨hc12, hs13⟩) (fun G15 H locs hw2 hP hd22 hS => ?_)
  replace hw := hw2
  clear hw2
  obtain ⟨G21, eG21⟩ : ∃ z : gh_H, z = gh_j G15 F19 := ⟨_, rfl⟩
  rw [← eG21] at hP
  replace hw := hw hd22 G21 eG21
  refine lv_aload_n hx hb dL_law_1298 rfl (lv_at hl 3 rfl) ?_
  obtain ⟨hc23, hs24, hw⟩ := hw
  obtain ⟨G29, F30, ht31, hw⟩ := hw
  obtain ⟨fs27, he28, hw⟩ := hw
  refine gh_fxi ht31 hP hS hA (vx_runV (C := "OwnerLedgerModel") (As := []) (rest := []) ⟨hx, hb, hml, hown, hts⟩ (mX5_thrown l hl0 D AC sa _ _ _ _ _ hw) (cwV 0 hts (gV kw_398 kw_399 kw_400 kw_2 kw_401) rfl rfl rfl (by decide +kernel) ⟨Nat.le_of_ble_eq_true rfl, Nat.le_of_ble_eq_true rfl⟩) (gh_preV gh_En_ok hK hE (hP.sub (gh_twoL ht31)) hS hA he28 rfl _) rfl rfl hl.1 rfl (lv_room (Nat.le_of_ble_eq_true rfl)) dL_law_1299 ⟨hc23, hs24⟩) (fun r25 G26 H locs hw2 hP hd33 hS => ?_)
  replace hw := hw2
  clear hw2
  obtain ⟨G32, eG32⟩ : ∃ z : gh_H, z = gh_j G26 F30 := ⟨_, rfl⟩
  rw [← eG32] at hP
  replace hw := hw hd33 G32 eG32
  refine lv_iload hx hb dL_law_1302 (lv_at hl 0 rfl) ?_
  refine lv_icmp_eq (tgt := 1309) hx hb dL_law_1304 (by decide) (fun c34 => ?_) (fun c34 => ?_)
  · replace hw := hw.1 c34
    refine lv_goto (tgt := 1678) hx hb dL_law_1309 (by decide) ?_
    refine lv_iinc (v := (v4 + 5)) (lv' := [(4, .int (v4 + 5)), (5, .int r4), (0, .ref b), (1, .ref v1), (2, .ref v2), (3, .ref v3)]) hx hb dL_law_1678 hl (k := 5) rfl rfl (by decide) rfl (fun ls hl => ?_)
    refine lv_goto (tgt := 23) hx hb dL_law_1681 (by decide) ?_
    have hl := lv_sub (l' := [(0, .ref b), (1, .ref v1), (2, .ref v2), (3, .ref v3), (4, .int (v4 + 5))]) hl [2, 3, 4, 5, 0] rfl
    exact hJ23 _ v1 v2 v3 (v4 + 5) (((kc + 1) + 0) + 0) (((ks + 6) + 0) + 0) _ _ hw hP hS ls hl
  · replace hw := hw.2 c34
    refine lv_iconst (v := 0) hx hb dL_law_1307 (by decide) ?_
    obtain ⟨hc35, hs36, hw⟩ := hw
    exact gh_lawret hx hb hr hlocks hw hS hAl hc35 hs36 dL_law_1308
def wL_law_1312 (post : Int32 → gh_H → Prop) (px : String → gh_H → Prop) (L : Nat) (xs : Nat → Int32) (J23 : gh_H → Nat → Nat → Nat → Int32 → Nat → Nat → Prop) (G : gh_H) (v1 : Nat) (v2 : Nat) (v3 : Nat) (v4 : Int32) (kc : Nat) (ks : Nat) : Prop := vp_in (v4 + 1) L ∧ (vp_in (v4 + 2) L ∧ (kc + 2 ≤ 601024 ∧ ks + 12 ≤ 7293034 ∧ (∃ G7 F8 : gh_H, gh_two G G7 F8 ∧ wL_interest (fun r5 G6 => (∀ a9, G6 a9 ≠ none → F8 a9 = none) → ∀ G10 : gh_H, G10 = gh_j G6 F8 → vp_in (v4 + 1) L ∧ (vp_in (v4 + 2) L ∧ ((kc + 2) + 0 ≤ 601024 ∧ (ks + 12) + 0 ≤ 7293034 ∧ (∃ G20 F21 : gh_H, gh_two G10 G20 F21 ∧ ∃ fs18 : List Value, G20 v2 = some (.inr (5, fs18)) ∧ wX5_interest (fun r16 G17 => (∀ a9, G17 a9 ≠ none → F21 a9 = none) → ∀ G23 : gh_H, G23 = gh_j G17 F21 → ((kc + 2) + 0) + 0 ≤ 601024 ∧ ((ks + 12) + 0) + 0 ≤ 7293034 ∧ (∃ G31 F32 : gh_H, gh_two G23 G31 F32 ∧ ∃ fs29 : List Value, G31 v2 = some (.inr (5, fs29)) ∧ wX5_thrown (fun r27 G28 => (∀ a9, G28 a9 ≠ none → F32 a9 = none) → ∀ G34 : gh_H, G34 = gh_j G28 F32 → (r27 = r5 → ((¬ r5 = 0 → (J23 G34 v1 v2 v3 (v4 + 5) (((kc + 2) + 0) + 0) (((ks + 12) + 0) + 0))) ∧ (r5 = 0 → (∃ (n38 : Nat) (f39 : Nat → Int64), G34 v3 = some (.inl (1, n38, .inr (.inl f39))) ∧ vp_in 0 n38 ∧ (((lg_cmp (f39 (Int32.toNatClampNeg 0)) r16) = 0 → (J23 G34 v1 v2 v3 (v4 + 5) (((kc + 2) + 0) + 0) (((ks + 12) + 0) + 0))) ∧ (¬ (lg_cmp (f39 (Int32.toNatClampNeg 0)) r16) = 0 → ((((kc + 2) + 0) + 0) ≤ 601024 ∧ (((ks + 12) + 0) + 0) ≤ 7293034 ∧ (0 = (1 : Int32))))))))) ∧ (¬ r27 = r5 → ((((kc + 2) + 0) + 0) ≤ 601024 ∧ (((ks + 12) + 0) + 0) ≤ 7293034 ∧ (0 = (1 : Int32))))) (fun _ _ => False) G31 v2)) (fun _ _ => False) G20 v2 (xs (Int32.toNatClampNeg (v4 + 1))) (xs (Int32.toNatClampNeg (v4 + 2))))))) (fun _ _ => False) G7 v1 (xs (Int32.toNatClampNeg (v4 + 1))) (xs (Int32.toNatClampNeg (v4 + 2))) v3)))
set_option maxRecDepth 100000 in
set_option maxHeartbeats 4000000 in
theorem lL_law_1312 {p : Program} {l : Launch} {e : Env} {s : State} {m : MethodId} {below : List Frame} {meth : Method} {c : Code} {D : va_G} {AC : Nat → ClassId} {sa : gh_SA} {b L : Nat} {xs : Nat → Int32} {A : Nat → Prop} (hl0 : l.stackTraces = false) (CX : cxL p s m meth c D AC sa b L xs A) (post : Int32 → gh_H → Prop) (px : String → gh_H → Prop) (J23 : gh_H → Nat → Nat → Nat → Int32 → Nat → Nat → Prop) (hJ23 : ∀ (G : gh_H) (v1 : Nat) (v2 : Nat) (v3 : Nat) (v4 : Int32) (kc : Nat) (ks : Nat) (H : Heap) (locs : List Loc), J23 G v1 v2 v3 v4 kc ks → gh_h D vwCl AC A G H → va_S A s.heap H locs → ∀ ls : Array Slot, lv_has ls 8 [(0, .ref b), (1, .ref v1), (2, .ref v2), (3, .ref v3), (4, .int v4)] → W p l e room_1 s m #[Value.ref b] below meth c H locs kc ks (lw_Z below #[Value.ref b] s) (F0 m 23 ls [])) : ∀ (G : gh_H) (v1 : Nat) (v2 : Nat) (v3 : Nat) (v4 : Int32) (kc : Nat) (ks : Nat) (H : Heap) (locs : List Loc), wL_law_1312 post px L xs J23 G v1 v2 v3 v4 kc ks → gh_h D vwCl AC A G H → va_S A s.heap H locs → ∀ ls : Array Slot, lv_has ls 8 [(0, .ref b), (1, .ref v1), (2, .ref v2), (3, .ref v3), (4, .int v4)] → W p l e room_1 s m #[Value.ref b] below meth c H locs kc ks (lw_Z below #[Value.ref b] s) (F0 m 1312 ls []) := by
  obtain ⟨⟨hx, hb, hml, hown, hts⟩, hr, hlocks, hK, hE, hA, hX, hbl, hbA, hAl⟩ := id CX
  intro G v1 v2 v3 v4 kc ks H locs hw hP hS ls hl
  dsimp only [wL_law_1312] at hw
  refine lv_aload_n hx hb dL_law_1312 rfl (lv_at hl 1 rfl) ?_
  refine lv_aload_n hx hb dL_law_1313 rfl (lv_at hl 0 rfl) ?_
  refine lv_iload hx hb dL_law_1314 (lv_at hl 4 rfl) ?_
  refine lv_iconst (v := 1) hx hb dL_law_1316 (by decide) ?_
  refine lv_iadd hx hb dL_law_1317 ?_
  obtain ⟨hi1, hw⟩ := hw
  refine va_sld hx hb hX hbl hbA hS hi1 dL_law_1318 ?_
  refine lv_aload_n hx hb dL_law_1319 rfl (lv_at hl 0 rfl) ?_
  refine lv_iload hx hb dL_law_1320 (lv_at hl 4 rfl) ?_
  refine lv_iconst (v := 2) hx hb dL_law_1322 (by decide) ?_
  refine lv_iadd hx hb dL_law_1323 ?_
  obtain ⟨hi2, hw⟩ := hw
  refine va_sld hx hb hX hbl hbA hS hi2 dL_law_1324 ?_
  refine lv_aload_n hx hb dL_law_1325 rfl (lv_at hl 3 rfl) ?_
  obtain ⟨hc3, hs4, hw⟩ := hw
  obtain ⟨G7, F8, ht9, hw⟩ := hw
  refine gh_fxi ht9 hP hS hA (vx_runSX (As := [.ref v1, .int (xs (Int32.toNatClampNeg (v4 + 1))), .int (xs (Int32.toNatClampNeg (v4 + 2))), .ref v3]) (rest := []) ⟨hx, hb, hml, hown, hts⟩ (mL_interest l hl0 D AC sa _ _ _ _ _ _ _ _ hw) (vx_cwSW 4 hts (gS kw_314 kw_315 kw_0 kw_316) rfl rfl rfl (by decide +kernel) ⟨Nat.le_of_ble_eq_true rfl, Nat.le_of_ble_eq_true rfl⟩) (gh_pre gh_En_ok hK hE (hP.sub (gh_twoL ht9)) hS hA _) rfl rfl hl.1 rfl (lv_room (Nat.le_of_ble_eq_true rfl)) dL_law_1326 ⟨hc3, hs4⟩) (fun r5 G6 H locs hw2 hP hd11 hS => ?_)
  replace hw := hw2
  clear hw2
  obtain ⟨G10, eG10⟩ : ∃ z : gh_H, z = gh_j G6 F8 := ⟨_, rfl⟩
  rw [← eG10] at hP
  replace hw := hw hd11 G10 eG10
  refine lv_istore (lv' := [(5, .int r5), (0, .ref b), (1, .ref v1), (2, .ref v2), (3, .ref v3), (4, .int v4)]) hx hb dL_law_1329 hl (by decide) rfl (fun ls hl => ?_)
  refine lv_aload_n hx hb dL_law_1331 rfl (lv_at hl 3 rfl) ?_
  refine lv_aload_n hx hb dL_law_1332 rfl (lv_at hl 1 rfl) ?_
  refine lv_iload hx hb dL_law_1333 (lv_at hl 5 rfl) ?_
  refine lv_iconst (v := 1) hx hb dL_law_1335 (by decide) ?_
  refine lv_iadd hx hb dL_law_1336 ?_
  obtain ⟨hi12, hw⟩ := hw
  refine va_sld hx hb hX hbl hbA hS hi12 dL_law_1337 ?_
  refine lv_aload_n hx hb dL_law_1338 rfl (lv_at hl 1 rfl) ?_
  refine lv_iload hx hb dL_law_1339 (lv_at hl 5 rfl) ?_
  refine lv_iconst (v := 2) hx hb dL_law_1341 (by decide) ?_
  refine lv_iadd hx hb dL_law_1342 ?_
  obtain ⟨hi13, hw⟩ := hw
  refine va_sld hx hb hX hbl hbA hS hi13 dL_law_1343 ?_
  obtain ⟨hc14, hs15, hw⟩ := hw
  obtain ⟨G20, F21, ht22, hw⟩ := hw
  obtain ⟨fs18, he19, hw⟩ := hw
  refine gh_fxl ht22 hP hS hA (vx_runV (C := "OwnerLedgerModel") (As := [.int (xs (Int32.toNatClampNeg (v4 + 1))), .int (xs (Int32.toNatClampNeg (v4 + 2)))]) (rest := []) ⟨hx, hb, hml, hown, hts⟩ (mX5_interest l hl0 D AC sa _ _ _ _ _ _ _ hw) (cwV 2 hts (gV kw_499 kw_500 kw_501 kw_2 kw_502) rfl rfl rfl (by decide +kernel) ⟨Nat.le_of_ble_eq_true rfl, Nat.le_of_ble_eq_true rfl⟩) (gh_preV gh_En_ok hK hE (hP.sub (gh_twoL ht22)) hS hA he19 rfl _) rfl rfl hl.1 rfl (lv_room (Nat.le_of_ble_eq_true rfl)) dL_law_1344 ⟨hc14, hs15⟩) (fun r16 G17 H locs hw2 hP hd24 hS => ?_)
  replace hw := hw2
  clear hw2
  obtain ⟨G23, eG23⟩ : ∃ z : gh_H, z = gh_j G17 F21 := ⟨_, rfl⟩
  rw [← eG23] at hP
  replace hw := hw hd24 G23 eG23
  refine lv_lstore (lv' := [(6, .long r16), (5, .int r5), (0, .ref b), (1, .ref v1), (2, .ref v2), (3, .ref v3), (4, .int v4)]) hx hb dL_law_1347 hl (by decide) rfl (fun ls hl => ?_)
  refine lv_aload_n hx hb dL_law_1349 rfl (lv_at hl 4 rfl) ?_
  obtain ⟨hc25, hs26, hw⟩ := hw
  obtain ⟨G31, F32, ht33, hw⟩ := hw
  obtain ⟨fs29, he30, hw⟩ := hw
  refine gh_fxi ht33 hP hS hA (vx_runV (C := "OwnerLedgerModel") (As := []) (rest := []) ⟨hx, hb, hml, hown, hts⟩ (mX5_thrown l hl0 D AC sa _ _ _ _ _ hw) (cwV 0 hts (gV kw_398 kw_399 kw_400 kw_2 kw_401) rfl rfl rfl (by decide +kernel) ⟨Nat.le_of_ble_eq_true rfl, Nat.le_of_ble_eq_true rfl⟩) (gh_preV gh_En_ok hK hE (hP.sub (gh_twoL ht33)) hS hA he30 rfl _) rfl rfl hl.1 rfl (lv_room (Nat.le_of_ble_eq_true rfl)) dL_law_1350 ⟨hc25, hs26⟩) (fun r27 G28 H locs hw2 hP hd35 hS => ?_)
  replace hw := hw2
  clear hw2
  obtain ⟨G34, eG34⟩ : ∃ z : gh_H, z = gh_j G28 F32 := ⟨_, rfl⟩
  rw [← eG34] at hP
  replace hw := hw hd35 G34 eG34
  refine lv_iload hx hb dL_law_1353 (lv_at hl 1 rfl) ?_
  refine lv_icmp_eq (tgt := 1360) hx hb dL_law_1355 (by decide) (fun c36 => ?_) (fun c36 => ?_)
  · replace hw := hw.1 c36
    refine lv_iload hx hb dL_law_1360 (lv_at hl 1 rfl) ?_
    refine lv_if_ne (tgt := 1376) hx hb dL_law_1362 (by decide) (fun c37 => ?_) (fun c37 => ?_)
    · replace hw := hw.1 c37
      refine lv_goto (tgt := 1678) hx hb dL_law_1376 (by decide) ?_
      refine lv_iinc (v := (v4 + 5)) (lv' := [(4, .int (v4 + 5)), (6, .long r16), (5, .int r5), (0, .ref b), (1, .ref v1), (2, .ref v2), (3, .ref v3)]) hx hb dL_law_1678 hl (k := 6) rfl rfl (by decide) rfl (fun ls hl => ?_)
      refine lv_goto (tgt := 23) hx hb dL_law_1681 (by decide) ?_
      have hl := lv_sub (l' := [(0, .ref b), (1, .ref v1), (2, .ref v2), (3, .ref v3), (4, .int (v4 + 5))]) hl [3, 4, 5, 6, 0] rfl
      exact hJ23 _ v1 v2 v3 (v4 + 5) (((kc + 2) + 0) + 0) (((ks + 12) + 0) + 0) _ _ hw hP hS ls hl
    · replace hw := hw.2 c37
      refine lv_aload_n hx hb dL_law_1365 rfl (lv_at hl 5 rfl) ?_
      refine lv_iconst (v := 0) hx hb dL_law_1366 (by decide) ?_
      obtain ⟨n38, f39, he40, hi41, hw⟩ := hw
      refine gh_lald hx hb hK hP he40 rfl hi41 dL_law_1367 ?_
      refine lv_lload hx hb dL_law_1368 (lv_at hl 0 rfl) ?_
      refine W.lcmp hx hb dL_law_1370 ?_
      refine lv_if_eq (tgt := 1376) hx hb dL_law_1371 (by decide) (fun c42 => ?_) (fun c42 => ?_)
      · replace hw := hw.1 c42
        refine lv_goto (tgt := 1678) hx hb dL_law_1376 (by decide) ?_
        refine lv_iinc (v := (v4 + 5)) (lv' := [(4, .int (v4 + 5)), (6, .long r16), (5, .int r5), (0, .ref b), (1, .ref v1), (2, .ref v2), (3, .ref v3)]) hx hb dL_law_1678 hl (k := 6) rfl rfl (by decide) rfl (fun ls hl => ?_)
        refine lv_goto (tgt := 23) hx hb dL_law_1681 (by decide) ?_
        have hl := lv_sub (l' := [(0, .ref b), (1, .ref v1), (2, .ref v2), (3, .ref v3), (4, .int (v4 + 5))]) hl [3, 4, 5, 6, 0] rfl
        exact hJ23 _ v1 v2 v3 (v4 + 5) (((kc + 2) + 0) + 0) (((ks + 12) + 0) + 0) _ _ hw hP hS ls hl
      · replace hw := hw.2 c42
        refine lv_iconst (v := 0) hx hb dL_law_1374 (by decide) ?_
        obtain ⟨hc43, hs44, hw⟩ := hw
        exact gh_lawret hx hb hr hlocks hw hS hAl hc43 hs44 dL_law_1375
  · replace hw := hw.2 c36
    refine lv_iconst (v := 0) hx hb dL_law_1358 (by decide) ?_
    obtain ⟨hc45, hs46, hw⟩ := hw
    exact gh_lawret hx hb hr hlocks hw hS hAl hc45 hs46 dL_law_1359
def wL_law_1427 (post : Int32 → gh_H → Prop) (px : String → gh_H → Prop) (L : Nat) (xs : Nat → Int32) (J23 : gh_H → Nat → Nat → Nat → Int32 → Nat → Nat → Prop) (G : gh_H) (v1 : Nat) (v2 : Nat) (v3 : Nat) (v4 : Int32) (v5 : Int32) (s0 : Nat) (s1 : Int32) (s2 : Int32) (kc : Nat) (ks : Nat) : Prop := kc + 0 ≤ 601024 ∧ ks + 0 ≤ 7293034 ∧ (∃ G7 F8 : gh_H, gh_two G G7 F8 ∧ ∃ fs5 : List Value, G7 s0 = some (.inr (5, fs5)) ∧ wX5_hold (fun r3 G4 => (∀ a9, G4 a9 ≠ none → F8 a9 = none) → ∀ G10 : gh_H, G10 = gh_j G4 F8 → (kc + 0) + 0 ≤ 601024 ∧ (ks + 0) + 0 ≤ 7293034 ∧ (∃ G18 F19 : gh_H, gh_two G10 G18 F19 ∧ ∃ fs16 : List Value, G18 v2 = some (.inr (5, fs16)) ∧ wX5_thrown (fun r14 G15 => (∀ a9, G15 a9 ≠ none → F19 a9 = none) → ∀ G21 : gh_H, G21 = gh_j G15 F19 → (r14 = v5 → ((¬ v5 = 0 → (J23 G21 v1 v2 v3 (v4 + 5) ((kc + 0) + 0) ((ks + 0) + 0))) ∧ (v5 = 0 → (∃ (n25 : Nat) (f26 : Nat → Int64), G21 v3 = some (.inl (1, n25, .inr (.inl f26))) ∧ vp_in 0 n25 ∧ (((lg_cmp (f26 (Int32.toNatClampNeg 0)) (Int32.toInt64 r3)) = 0 → (J23 G21 v1 v2 v3 (v4 + 5) ((kc + 0) + 0) ((ks + 0) + 0))) ∧ (¬ (lg_cmp (f26 (Int32.toNatClampNeg 0)) (Int32.toInt64 r3)) = 0 → (((kc + 0) + 0) ≤ 601024 ∧ ((ks + 0) + 0) ≤ 7293034 ∧ (0 = (1 : Int32))))))))) ∧ (¬ r14 = v5 → (((kc + 0) + 0) ≤ 601024 ∧ ((ks + 0) + 0) ≤ 7293034 ∧ (0 = (1 : Int32))))) (fun _ _ => False) G18 v2)) (fun _ _ => False) G7 s0 s1 s2)
set_option maxRecDepth 100000 in
set_option maxHeartbeats 4000000 in
theorem lL_law_1427 {p : Program} {l : Launch} {e : Env} {s : State} {m : MethodId} {below : List Frame} {meth : Method} {c : Code} {D : va_G} {AC : Nat → ClassId} {sa : gh_SA} {b L : Nat} {xs : Nat → Int32} {A : Nat → Prop} (hl0 : l.stackTraces = false) (CX : cxL p s m meth c D AC sa b L xs A) (post : Int32 → gh_H → Prop) (px : String → gh_H → Prop) (J23 : gh_H → Nat → Nat → Nat → Int32 → Nat → Nat → Prop) (hJ23 : ∀ (G : gh_H) (v1 : Nat) (v2 : Nat) (v3 : Nat) (v4 : Int32) (kc : Nat) (ks : Nat) (H : Heap) (locs : List Loc), J23 G v1 v2 v3 v4 kc ks → gh_h D vwCl AC A G H → va_S A s.heap H locs → ∀ ls : Array Slot, lv_has ls 8 [(0, .ref b), (1, .ref v1), (2, .ref v2), (3, .ref v3), (4, .int v4)] → W p l e room_1 s m #[Value.ref b] below meth c H locs kc ks (lw_Z below #[Value.ref b] s) (F0 m 23 ls [])) : ∀ (G : gh_H) (v1 : Nat) (v2 : Nat) (v3 : Nat) (v4 : Int32) (v5 : Int32) (s0 : Nat) (s1 : Int32) (s2 : Int32) (kc : Nat) (ks : Nat) (H : Heap) (locs : List Loc), wL_law_1427 post px L xs J23 G v1 v2 v3 v4 v5 s0 s1 s2 kc ks → gh_h D vwCl AC A G H → va_S A s.heap H locs → ∀ ls : Array Slot, lv_has ls 8 [(0, .ref b), (1, .ref v1), (2, .ref v2), (3, .ref v3), (4, .int v4), (5, .int v5)] → W p l e room_1 s m #[Value.ref b] below meth c H locs kc ks (lw_Z below #[Value.ref b] s) (F0 m 1427 ls [.int s2, .int s1, .ref s0]) := by
  obtain ⟨⟨hx, hb, hml, hown, hts⟩, hr, hlocks, hK, hE, hA, hX, hbl, hbA, hAl⟩ := id CX
  intro G v1 v2 v3 v4 v5 s0 s1 s2 kc ks H locs hw hP hS ls hl
  dsimp only [wL_law_1427] at hw
  obtain ⟨hc1, hs2, hw⟩ := hw
  obtain ⟨G7, F8, ht9, hw⟩ := hw
  obtain ⟨fs5, he6, hw⟩ := hw
  refine gh_fxi ht9 hP hS hA (vx_runV (C := "OwnerLedgerModel") (As := [.int s1, .int s2]) (rest := []) ⟨hx, hb, hml, hown, hts⟩ (mX5_hold l hl0 D AC sa _ _ _ _ _ _ _ hw) (cwV 2 hts (gV kw_504 kw_505 kw_506 kw_2 kw_507) rfl rfl rfl (by decide +kernel) ⟨Nat.le_of_ble_eq_true rfl, Nat.le_of_ble_eq_true rfl⟩) (gh_preV gh_En_ok hK hE (hP.sub (gh_twoL ht9)) hS hA he6 rfl _) rfl rfl hl.1 rfl (lv_room (Nat.le_of_ble_eq_true rfl)) dL_law_1427 ⟨hc1, hs2⟩) (fun r3 G4 H locs hw2 hP hd11 hS => ?_)
  replace hw := hw2
  clear hw2
  obtain ⟨G10, eG10⟩ : ∃ z : gh_H, z = gh_j G4 F8 := ⟨_, rfl⟩
  rw [← eG10] at hP
  replace hw := hw hd11 G10 eG10
  refine lv_istore (lv' := [(6, .int r3), (0, .ref b), (1, .ref v1), (2, .ref v2), (3, .ref v3), (4, .int v4), (5, .int v5)]) hx hb dL_law_1430 hl (by decide) rfl (fun ls hl => ?_)
  refine lv_aload_n hx hb dL_law_1432 rfl (lv_at hl 3 rfl) ?_
  obtain ⟨hc12, hs13, hw⟩ := hw
  obtain ⟨G18, F19, ht20, hw⟩ := hw
  obtain ⟨fs16, he17, hw⟩ := hw
  refine gh_fxi ht20 hP hS hA (vx_runV (C := "OwnerLedgerModel") (As := []) (rest := []) ⟨hx, hb, hml, hown, hts⟩ (mX5_thrown l hl0 D AC sa _ _ _ _ _ hw) (cwV 0 hts (gV kw_398 kw_399 kw_400 kw_2 kw_401) rfl rfl rfl (by decide +kernel) ⟨Nat.le_of_ble_eq_true rfl, Nat.le_of_ble_eq_true rfl⟩) (gh_preV gh_En_ok hK hE (hP.sub (gh_twoL ht20)) hS hA he17 rfl _) rfl rfl hl.1 rfl (lv_room (Nat.le_of_ble_eq_true rfl)) dL_law_1433 ⟨hc12, hs13⟩) (fun r14 G15 H locs hw2 hP hd22 hS => ?_)
  replace hw := hw2
  clear hw2
  obtain ⟨G21, eG21⟩ : ∃ z : gh_H, z = gh_j G15 F19 := ⟨_, rfl⟩
  rw [← eG21] at hP
  replace hw := hw hd22 G21 eG21
  refine lv_iload hx hb dL_law_1436 (lv_at hl 6 rfl) ?_
  refine lv_icmp_eq (tgt := 1443) hx hb dL_law_1438 (by decide) (fun c23 => ?_) (fun c23 => ?_)
  · replace hw := hw.1 c23
    refine lv_iload hx hb dL_law_1443 (lv_at hl 6 rfl) ?_
    refine lv_if_ne (tgt := 1460) hx hb dL_law_1445 (by decide) (fun c24 => ?_) (fun c24 => ?_)
    · replace hw := hw.1 c24
      refine lv_goto (tgt := 1678) hx hb dL_law_1460 (by decide) ?_
      refine lv_iinc (v := (v4 + 5)) (lv' := [(4, .int (v4 + 5)), (6, .int r3), (0, .ref b), (1, .ref v1), (2, .ref v2), (3, .ref v3), (5, .int v5)]) hx hb dL_law_1678 hl (k := 5) rfl rfl (by decide) rfl (fun ls hl => ?_)
      refine lv_goto (tgt := 23) hx hb dL_law_1681 (by decide) ?_
      have hl := lv_sub (l' := [(0, .ref b), (1, .ref v1), (2, .ref v2), (3, .ref v3), (4, .int (v4 + 5))]) hl [2, 3, 4, 5, 0] rfl
      exact hJ23 _ v1 v2 v3 (v4 + 5) ((kc + 0) + 0) ((ks + 0) + 0) _ _ hw hP hS ls hl
    · replace hw := hw.2 c24
      refine lv_aload_n hx hb dL_law_1448 rfl (lv_at hl 4 rfl) ?_
      refine lv_iconst (v := 0) hx hb dL_law_1449 (by decide) ?_
      obtain ⟨n25, f26, he27, hi28, hw⟩ := hw
      refine gh_lald hx hb hK hP he27 rfl hi28 dL_law_1450 ?_
      refine lv_iload hx hb dL_law_1451 (lv_at hl 0 rfl) ?_
      refine lv_i2l hx hb dL_law_1453 rfl ?_
      refine W.lcmp hx hb dL_law_1454 ?_
      refine lv_if_eq (tgt := 1460) hx hb dL_law_1455 (by decide) (fun c29 => ?_) (fun c29 => ?_)
      · replace hw := hw.1 c29
        refine lv_goto (tgt := 1678) hx hb dL_law_1460 (by decide) ?_
        refine lv_iinc (v := (v4 + 5)) (lv' := [(4, .int (v4 + 5)), (6, .int r3), (0, .ref b), (1, .ref v1), (2, .ref v2), (3, .ref v3), (5, .int v5)]) hx hb dL_law_1678 hl (k := 5) rfl rfl (by decide) rfl (fun ls hl => ?_)
        refine lv_goto (tgt := 23) hx hb dL_law_1681 (by decide) ?_
        have hl := lv_sub (l' := [(0, .ref b), (1, .ref v1), (2, .ref v2), (3, .ref v3), (4, .int (v4 + 5))]) hl [2, 3, 4, 5, 0] rfl
        exact hJ23 _ v1 v2 v3 (v4 + 5) ((kc + 0) + 0) ((ks + 0) + 0) _ _ hw hP hS ls hl
      · replace hw := hw.2 c29
        refine lv_iconst (v := 0) hx hb dL_law_1458 (by decide) ?_
        obtain ⟨hc30, hs31, hw⟩ := hw
        exact gh_lawret hx hb hr hlocks hw hS hAl hc30 hs31 dL_law_1459
  · replace hw := hw.2 c23
    refine lv_iconst (v := 0) hx hb dL_law_1441 (by decide) ?_
    obtain ⟨hc32, hs33, hw⟩ := hw
    exact gh_lawret hx hb hr hlocks hw hS hAl hc32 hs33 dL_law_1442
def wL_law_1400 (post : Int32 → gh_H → Prop) (px : String → gh_H → Prop) (L : Nat) (xs : Nat → Int32) (J23 : gh_H → Nat → Nat → Nat → Int32 → Nat → Nat → Prop) (G : gh_H) (v1 : Nat) (v2 : Nat) (v3 : Nat) (v4 : Int32) (s0 : Nat) (s1 : Int32) (s2 : Int32) (kc : Nat) (ks : Nat) : Prop := kc + 2 ≤ 601024 ∧ ks + 12 ≤ 7293034 ∧ (∃ G5 F6 : gh_H, gh_two G G5 F6 ∧ wL_hold (fun r3 G4 => (∀ a9, G4 a9 ≠ none → F6 a9 = none) → ∀ G8 : gh_H, G8 = gh_j G4 F6 → vp_in (v4 + 1) L ∧ (vp_in (v4 + 2) L ∧ (((xs (Int32.toNatClampNeg (v4 + 2))) = 0 → (wL_law_1427 post px L xs J23 G8 v1 v2 v3 v4 r3 v2 (xs (Int32.toNatClampNeg (v4 + 1))) 0 (kc + 2) (ks + 12))) ∧ (¬ (xs (Int32.toNatClampNeg (v4 + 2))) = 0 → (wL_law_1427 post px L xs J23 G8 v1 v2 v3 v4 r3 v2 (xs (Int32.toNatClampNeg (v4 + 1))) 1 (kc + 2) (ks + 12)))))) (fun _ _ => False) G5 s0 s1 s2 v3)
set_option maxRecDepth 100000 in
set_option maxHeartbeats 4000000 in
theorem lL_law_1400 {p : Program} {l : Launch} {e : Env} {s : State} {m : MethodId} {below : List Frame} {meth : Method} {c : Code} {D : va_G} {AC : Nat → ClassId} {sa : gh_SA} {b L : Nat} {xs : Nat → Int32} {A : Nat → Prop} (hl0 : l.stackTraces = false) (CX : cxL p s m meth c D AC sa b L xs A) (post : Int32 → gh_H → Prop) (px : String → gh_H → Prop) (J23 : gh_H → Nat → Nat → Nat → Int32 → Nat → Nat → Prop) (hJ23 : ∀ (G : gh_H) (v1 : Nat) (v2 : Nat) (v3 : Nat) (v4 : Int32) (kc : Nat) (ks : Nat) (H : Heap) (locs : List Loc), J23 G v1 v2 v3 v4 kc ks → gh_h D vwCl AC A G H → va_S A s.heap H locs → ∀ ls : Array Slot, lv_has ls 8 [(0, .ref b), (1, .ref v1), (2, .ref v2), (3, .ref v3), (4, .int v4)] → W p l e room_1 s m #[Value.ref b] below meth c H locs kc ks (lw_Z below #[Value.ref b] s) (F0 m 23 ls [])) : ∀ (G : gh_H) (v1 : Nat) (v2 : Nat) (v3 : Nat) (v4 : Int32) (s0 : Nat) (s1 : Int32) (s2 : Int32) (kc : Nat) (ks : Nat) (H : Heap) (locs : List Loc), wL_law_1400 post px L xs J23 G v1 v2 v3 v4 s0 s1 s2 kc ks → gh_h D vwCl AC A G H → va_S A s.heap H locs → ∀ ls : Array Slot, lv_has ls 8 [(0, .ref b), (1, .ref v1), (2, .ref v2), (3, .ref v3), (4, .int v4)] → W p l e room_1 s m #[Value.ref b] below meth c H locs kc ks (lw_Z below #[Value.ref b] s) (F0 m 1400 ls [.int s2, .int s1, .ref s0]) := by
  obtain ⟨⟨hx, hb, hml, hown, hts⟩, hr, hlocks, hK, hE, hA, hX, hbl, hbA, hAl⟩ := id CX
  intro G v1 v2 v3 v4 s0 s1 s2 kc ks H locs hw hP hS ls hl
  dsimp only [wL_law_1400] at hw
  refine lv_aload_n hx hb dL_law_1400 rfl (lv_at hl 3 rfl) ?_
  obtain ⟨hc1, hs2, hw⟩ := hw
  obtain ⟨G5, F6, ht7, hw⟩ := hw
  refine gh_fxi ht7 hP hS hA (vx_runSX (As := [.ref s0, .int s1, .int s2, .ref v3]) (rest := []) ⟨hx, hb, hml, hown, hts⟩ (mL_hold l hl0 D AC sa _ _ _ _ _ _ _ _ hw) (vx_cwSW 4 hts (gS kw_333 kw_334 kw_0 kw_335) rfl rfl rfl (by decide +kernel) ⟨Nat.le_of_ble_eq_true rfl, Nat.le_of_ble_eq_true rfl⟩) (gh_pre gh_En_ok hK hE (hP.sub (gh_twoL ht7)) hS hA _) rfl rfl hl.1 rfl (lv_room (Nat.le_of_ble_eq_true rfl)) dL_law_1401 ⟨hc1, hs2⟩) (fun r3 G4 H locs hw2 hP hd9 hS => ?_)
  replace hw := hw2
  clear hw2
  obtain ⟨G8, eG8⟩ : ∃ z : gh_H, z = gh_j G4 F6 := ⟨_, rfl⟩
  rw [← eG8] at hP
  replace hw := hw hd9 G8 eG8
  refine lv_istore (lv' := [(5, .int r3), (0, .ref b), (1, .ref v1), (2, .ref v2), (3, .ref v3), (4, .int v4)]) hx hb dL_law_1404 hl (by decide) rfl (fun ls hl => ?_)
  refine lv_aload_n hx hb dL_law_1406 rfl (lv_at hl 3 rfl) ?_
  refine lv_aload_n hx hb dL_law_1407 rfl (lv_at hl 1 rfl) ?_
  refine lv_iload hx hb dL_law_1408 (lv_at hl 5 rfl) ?_
  refine lv_iconst (v := 1) hx hb dL_law_1410 (by decide) ?_
  refine lv_iadd hx hb dL_law_1411 ?_
  obtain ⟨hi10, hw⟩ := hw
  refine va_sld hx hb hX hbl hbA hS hi10 dL_law_1412 ?_
  refine lv_aload_n hx hb dL_law_1413 rfl (lv_at hl 1 rfl) ?_
  refine lv_iload hx hb dL_law_1414 (lv_at hl 5 rfl) ?_
  refine lv_iconst (v := 2) hx hb dL_law_1416 (by decide) ?_
  refine lv_iadd hx hb dL_law_1417 ?_
  obtain ⟨hi11, hw⟩ := hw
  refine va_sld hx hb hX hbl hbA hS hi11 dL_law_1418 ?_
  refine lv_if_eq (tgt := 1426) hx hb dL_law_1419 (by decide) (fun c12 => ?_) (fun c12 => ?_)
  · replace hw := hw.1 c12
    refine lv_iconst (v := 0) hx hb dL_law_1426 (by decide) ?_
    have hl := lv_sub (l' := [(0, .ref b), (1, .ref v1), (2, .ref v2), (3, .ref v3), (4, .int v4), (5, .int r3)]) hl [1, 2, 3, 4, 5, 0] rfl
    exact lL_law_1427 hl0 CX post px J23 hJ23 _ v1 v2 v3 v4 r3 v2 (xs (Int32.toNatClampNeg (v4 + 1))) 0 (kc + 2) (ks + 12) _ _ hw hP hS ls hl
  · replace hw := hw.2 c12
    refine lv_iconst (v := 1) hx hb dL_law_1422 (by decide) ?_
    refine lv_goto (tgt := 1427) hx hb dL_law_1423 (by decide) ?_
    have hl := lv_sub (l' := [(0, .ref b), (1, .ref v1), (2, .ref v2), (3, .ref v3), (4, .int v4), (5, .int r3)]) hl [1, 2, 3, 4, 5, 0] rfl
    exact lL_law_1427 hl0 CX post px J23 hJ23 _ v1 v2 v3 v4 r3 v2 (xs (Int32.toNatClampNeg (v4 + 1))) 1 (kc + 2) (ks + 12) _ _ hw hP hS ls hl
def wL_law_1379 (post : Int32 → gh_H → Prop) (px : String → gh_H → Prop) (L : Nat) (xs : Nat → Int32) (J23 : gh_H → Nat → Nat → Nat → Int32 → Nat → Nat → Prop) (G : gh_H) (v1 : Nat) (v2 : Nat) (v3 : Nat) (v4 : Int32) (kc : Nat) (ks : Nat) : Prop := vp_in (v4 + 1) L ∧ (vp_in (v4 + 2) L ∧ (((xs (Int32.toNatClampNeg (v4 + 2))) = 0 → (wL_law_1400 post px L xs J23 G v1 v2 v3 v4 v1 (xs (Int32.toNatClampNeg (v4 + 1))) 0 kc ks)) ∧ (¬ (xs (Int32.toNatClampNeg (v4 + 2))) = 0 → (wL_law_1400 post px L xs J23 G v1 v2 v3 v4 v1 (xs (Int32.toNatClampNeg (v4 + 1))) 1 kc ks))))
set_option maxRecDepth 100000 in
set_option maxHeartbeats 4000000 in
theorem lL_law_1379 {p : Program} {l : Launch} {e : Env} {s : State} {m : MethodId} {below : List Frame} {meth : Method} {c : Code} {D : va_G} {AC : Nat → ClassId} {sa : gh_SA} {b L : Nat} {xs : Nat → Int32} {A : Nat → Prop} (hl0 : l.stackTraces = false) (CX : cxL p s m meth c D AC sa b L xs A) (post : Int32 → gh_H → Prop) (px : String → gh_H → Prop) (J23 : gh_H → Nat → Nat → Nat → Int32 → Nat → Nat → Prop) (hJ23 : ∀ (G : gh_H) (v1 : Nat) (v2 : Nat) (v3 : Nat) (v4 : Int32) (kc : Nat) (ks : Nat) (H : Heap) (locs : List Loc), J23 G v1 v2 v3 v4 kc ks → gh_h D vwCl AC A G H → va_S A s.heap H locs → ∀ ls : Array Slot, lv_has ls 8 [(0, .ref b), (1, .ref v1), (2, .ref v2), (3, .ref v3), (4, .int v4)] → W p l e room_1 s m #[Value.ref b] below meth c H locs kc ks (lw_Z below #[Value.ref b] s) (F0 m 23 ls [])) : ∀ (G : gh_H) (v1 : Nat) (v2 : Nat) (v3 : Nat) (v4 : Int32) (kc : Nat) (ks : Nat) (H : Heap) (locs : List Loc), wL_law_1379 post px L xs J23 G v1 v2 v3 v4 kc ks → gh_h D vwCl AC A G H → va_S A s.heap H locs → ∀ ls : Array Slot, lv_has ls 8 [(0, .ref b), (1, .ref v1), (2, .ref v2), (3, .ref v3), (4, .int v4)] → W p l e room_1 s m #[Value.ref b] below meth c H locs kc ks (lw_Z below #[Value.ref b] s) (F0 m 1379 ls []) := by
  obtain ⟨⟨hx, hb, hml, hown, hts⟩, hr, hlocks, hK, hE, hA, hX, hbl, hbA, hAl⟩ := id CX
  intro G v1 v2 v3 v4 kc ks H locs hw hP hS ls hl
  dsimp only [wL_law_1379] at hw
  refine lv_aload_n hx hb dL_law_1379 rfl (lv_at hl 1 rfl) ?_
  refine lv_aload_n hx hb dL_law_1380 rfl (lv_at hl 0 rfl) ?_
  refine lv_iload hx hb dL_law_1381 (lv_at hl 4 rfl) ?_
  refine lv_iconst (v := 1) hx hb dL_law_1383 (by decide) ?_
  refine lv_iadd hx hb dL_law_1384 ?_
  obtain ⟨hi1, hw⟩ := hw
  refine va_sld hx hb hX hbl hbA hS hi1 dL_law_1385 ?_
  refine lv_aload_n hx hb dL_law_1386 rfl (lv_at hl 0 rfl) ?_
  refine lv_iload hx hb dL_law_1387 (lv_at hl 4 rfl) ?_
  refine lv_iconst (v := 2) hx hb dL_law_1389 (by decide) ?_
  refine lv_iadd hx hb dL_law_1390 ?_
  obtain ⟨hi2, hw⟩ := hw
  refine va_sld hx hb hX hbl hbA hS hi2 dL_law_1391 ?_
  refine lv_if_eq (tgt := 1399) hx hb dL_law_1392 (by decide) (fun c3 => ?_) (fun c3 => ?_)
  · replace hw := hw.1 c3
    refine lv_iconst (v := 0) hx hb dL_law_1399 (by decide) ?_
    have hl := lv_sub (l' := [(0, .ref b), (1, .ref v1), (2, .ref v2), (3, .ref v3), (4, .int v4)]) hl [0, 1, 2, 3, 4] rfl
    exact lL_law_1400 hl0 CX post px J23 hJ23 _ v1 v2 v3 v4 v1 (xs (Int32.toNatClampNeg (v4 + 1))) 0 kc ks _ _ hw hP hS ls hl
  · replace hw := hw.2 c3
    refine lv_iconst (v := 1) hx hb dL_law_1395 (by decide) ?_
    refine lv_goto (tgt := 1400) hx hb dL_law_1396 (by decide) ?_
    have hl := lv_sub (l' := [(0, .ref b), (1, .ref v1), (2, .ref v2), (3, .ref v3), (4, .int v4)]) hl [0, 1, 2, 3, 4] rfl
    exact lL_law_1400 hl0 CX post px J23 hJ23 _ v1 v2 v3 v4 v1 (xs (Int32.toNatClampNeg (v4 + 1))) 1 kc ks _ _ hw hP hS ls hl
def wL_law_1463 (post : Int32 → gh_H → Prop) (px : String → gh_H → Prop) (L : Nat) (xs : Nat → Int32) (J23 : gh_H → Nat → Nat → Nat → Int32 → Nat → Nat → Prop) (G : gh_H) (v1 : Nat) (v2 : Nat) (v3 : Nat) (v4 : Int32) (kc : Nat) (ks : Nat) : Prop := vp_in (v4 + 1) L ∧ (vp_in (v4 + 2) L ∧ (kc + 2 ≤ 601024 ∧ ks + 12 ≤ 7293034 ∧ (∃ G7 F8 : gh_H, gh_two G G7 F8 ∧ wL_told (fun r5 G6 => (∀ a9, G6 a9 ≠ none → F8 a9 = none) → ∀ G10 : gh_H, G10 = gh_j G6 F8 → vp_in (v4 + 1) L ∧ (vp_in (v4 + 2) L ∧ ((kc + 2) + 0 ≤ 601024 ∧ (ks + 12) + 0 ≤ 7293034 ∧ (∃ G20 F21 : gh_H, gh_two G10 G20 F21 ∧ ∃ fs18 : List Value, G20 v2 = some (.inr (5, fs18)) ∧ wX5_told (fun r16 G17 => (∀ a9, G17 a9 ≠ none → F21 a9 = none) → ∀ G23 : gh_H, G23 = gh_j G17 F21 → ((kc + 2) + 0) + 0 ≤ 601024 ∧ ((ks + 12) + 0) + 0 ≤ 7293034 ∧ (∃ G31 F32 : gh_H, gh_two G23 G31 F32 ∧ ∃ fs29 : List Value, G31 v2 = some (.inr (5, fs29)) ∧ wX5_thrown (fun r27 G28 => (∀ a9, G28 a9 ≠ none → F32 a9 = none) → ∀ G34 : gh_H, G34 = gh_j G28 F32 → (r27 = r5 → ((¬ r5 = 0 → (J23 G34 v1 v2 v3 (v4 + 5) (((kc + 2) + 0) + 0) (((ks + 12) + 0) + 0))) ∧ (r5 = 0 → (∃ (n38 : Nat) (f39 : Nat → Int64), G34 v3 = some (.inl (1, n38, .inr (.inl f39))) ∧ vp_in 0 n38 ∧ (((lg_cmp (f39 (Int32.toNatClampNeg 0)) (Int32.toInt64 r16)) = 0 → (J23 G34 v1 v2 v3 (v4 + 5) (((kc + 2) + 0) + 0) (((ks + 12) + 0) + 0))) ∧ (¬ (lg_cmp (f39 (Int32.toNatClampNeg 0)) (Int32.toInt64 r16)) = 0 → ((((kc + 2) + 0) + 0) ≤ 601024 ∧ (((ks + 12) + 0) + 0) ≤ 7293034 ∧ (0 = (1 : Int32))))))))) ∧ (¬ r27 = r5 → ((((kc + 2) + 0) + 0) ≤ 601024 ∧ (((ks + 12) + 0) + 0) ≤ 7293034 ∧ (0 = (1 : Int32))))) (fun _ _ => False) G31 v2)) (fun _ _ => False) G20 v2 (xs (Int32.toNatClampNeg (v4 + 1))) (xs (Int32.toNatClampNeg (v4 + 2))))))) (fun _ _ => False) G7 v1 (xs (Int32.toNatClampNeg (v4 + 1))) (xs (Int32.toNatClampNeg (v4 + 2))) v3)))
set_option maxRecDepth 100000 in
set_option maxHeartbeats 4000000 in
theorem lL_law_1463 {p : Program} {l : Launch} {e : Env} {s : State} {m : MethodId} {below : List Frame} {meth : Method} {c : Code} {D : va_G} {AC : Nat → ClassId} {sa : gh_SA} {b L : Nat} {xs : Nat → Int32} {A : Nat → Prop} (hl0 : l.stackTraces = false) (CX : cxL p s m meth c D AC sa b L xs A) (post : Int32 → gh_H → Prop) (px : String → gh_H → Prop) (J23 : gh_H → Nat → Nat → Nat → Int32 → Nat → Nat → Prop) (hJ23 : ∀ (G : gh_H) (v1 : Nat) (v2 : Nat) (v3 : Nat) (v4 : Int32) (kc : Nat) (ks : Nat) (H : Heap) (locs : List Loc), J23 G v1 v2 v3 v4 kc ks → gh_h D vwCl AC A G H → va_S A s.heap H locs → ∀ ls : Array Slot, lv_has ls 8 [(0, .ref b), (1, .ref v1), (2, .ref v2), (3, .ref v3), (4, .int v4)] → W p l e room_1 s m #[Value.ref b] below meth c H locs kc ks (lw_Z below #[Value.ref b] s) (F0 m 23 ls [])) : ∀ (G : gh_H) (v1 : Nat) (v2 : Nat) (v3 : Nat) (v4 : Int32) (kc : Nat) (ks : Nat) (H : Heap) (locs : List Loc), wL_law_1463 post px L xs J23 G v1 v2 v3 v4 kc ks → gh_h D vwCl AC A G H → va_S A s.heap H locs → ∀ ls : Array Slot, lv_has ls 8 [(0, .ref b), (1, .ref v1), (2, .ref v2), (3, .ref v3), (4, .int v4)] → W p l e room_1 s m #[Value.ref b] below meth c H locs kc ks (lw_Z below #[Value.ref b] s) (F0 m 1463 ls []) := by
  obtain ⟨⟨hx, hb, hml, hown, hts⟩, hr, hlocks, hK, hE, hA, hX, hbl, hbA, hAl⟩ := id CX
  intro G v1 v2 v3 v4 kc ks H locs hw hP hS ls hl
  dsimp only [wL_law_1463] at hw
  refine lv_aload_n hx hb dL_law_1463 rfl (lv_at hl 1 rfl) ?_
  refine lv_aload_n hx hb dL_law_1464 rfl (lv_at hl 0 rfl) ?_
  refine lv_iload hx hb dL_law_1465 (lv_at hl 4 rfl) ?_
  refine lv_iconst (v := 1) hx hb dL_law_1467 (by decide) ?_
  refine lv_iadd hx hb dL_law_1468 ?_
  obtain ⟨hi1, hw⟩ := hw
  refine va_sld hx hb hX hbl hbA hS hi1 dL_law_1469 ?_
  refine lv_aload_n hx hb dL_law_1470 rfl (lv_at hl 0 rfl) ?_
  refine lv_iload hx hb dL_law_1471 (lv_at hl 4 rfl) ?_
  refine lv_iconst (v := 2) hx hb dL_law_1473 (by decide) ?_
  refine lv_iadd hx hb dL_law_1474 ?_
  obtain ⟨hi2, hw⟩ := hw
  refine va_sld hx hb hX hbl hbA hS hi2 dL_law_1475 ?_
  refine lv_aload_n hx hb dL_law_1476 rfl (lv_at hl 3 rfl) ?_
  obtain ⟨hc3, hs4, hw⟩ := hw
  obtain ⟨G7, F8, ht9, hw⟩ := hw
  refine gh_fxi ht9 hP hS hA (vx_runSX (As := [.ref v1, .int (xs (Int32.toNatClampNeg (v4 + 1))), .int (xs (Int32.toNatClampNeg (v4 + 2))), .ref v3]) (rest := []) ⟨hx, hb, hml, hown, hts⟩ (mL_told l hl0 D AC sa _ _ _ _ _ _ _ _ hw) (vx_cwSW 4 hts (gS kw_343 kw_344 kw_0 kw_345) rfl rfl rfl (by decide +kernel) ⟨Nat.le_of_ble_eq_true rfl, Nat.le_of_ble_eq_true rfl⟩) (gh_pre gh_En_ok hK hE (hP.sub (gh_twoL ht9)) hS hA _) rfl rfl hl.1 rfl (lv_room (Nat.le_of_ble_eq_true rfl)) dL_law_1477 ⟨hc3, hs4⟩) (fun r5 G6 H locs hw2 hP hd11 hS => ?_)
  replace hw := hw2
  clear hw2
  obtain ⟨G10, eG10⟩ : ∃ z : gh_H, z = gh_j G6 F8 := ⟨_, rfl⟩
  rw [← eG10] at hP
  replace hw := hw hd11 G10 eG10
  refine lv_istore (lv' := [(5, .int r5), (0, .ref b), (1, .ref v1), (2, .ref v2), (3, .ref v3), (4, .int v4)]) hx hb dL_law_1480 hl (by decide) rfl (fun ls hl => ?_)
  refine lv_aload_n hx hb dL_law_1482 rfl (lv_at hl 3 rfl) ?_
  refine lv_aload_n hx hb dL_law_1483 rfl (lv_at hl 1 rfl) ?_
  refine lv_iload hx hb dL_law_1484 (lv_at hl 5 rfl) ?_
  refine lv_iconst (v := 1) hx hb dL_law_1486 (by decide) ?_
  refine lv_iadd hx hb dL_law_1487 ?_
  obtain ⟨hi12, hw⟩ := hw
  refine va_sld hx hb hX hbl hbA hS hi12 dL_law_1488 ?_
  refine lv_aload_n hx hb dL_law_1489 rfl (lv_at hl 1 rfl) ?_
  refine lv_iload hx hb dL_law_1490 (lv_at hl 5 rfl) ?_
  refine lv_iconst (v := 2) hx hb dL_law_1492 (by decide) ?_
  refine lv_iadd hx hb dL_law_1493 ?_
  obtain ⟨hi13, hw⟩ := hw
  refine va_sld hx hb hX hbl hbA hS hi13 dL_law_1494 ?_
  obtain ⟨hc14, hs15, hw⟩ := hw
  obtain ⟨G20, F21, ht22, hw⟩ := hw
  obtain ⟨fs18, he19, hw⟩ := hw
  refine gh_fxi ht22 hP hS hA (vx_runV (C := "OwnerLedgerModel") (As := [.int (xs (Int32.toNatClampNeg (v4 + 1))), .int (xs (Int32.toNatClampNeg (v4 + 2)))]) (rest := []) ⟨hx, hb, hml, hown, hts⟩ (mX5_told l hl0 D AC sa _ _ _ _ _ _ _ hw) (cwV 2 hts (gV kw_511 kw_512 kw_513 kw_2 kw_514) rfl rfl rfl (by decide +kernel) ⟨Nat.le_of_ble_eq_true rfl, Nat.le_of_ble_eq_true rfl⟩) (gh_preV gh_En_ok hK hE (hP.sub (gh_twoL ht22)) hS hA he19 rfl _) rfl rfl hl.1 rfl (lv_room (Nat.le_of_ble_eq_true rfl)) dL_law_1495 ⟨hc14, hs15⟩) (fun r16 G17 H locs hw2 hP hd24 hS => ?_)
  replace hw := hw2
  clear hw2
  obtain ⟨G23, eG23⟩ : ∃ z : gh_H, z = gh_j G17 F21 := ⟨_, rfl⟩
  rw [← eG23] at hP
  replace hw := hw hd24 G23 eG23
  refine lv_istore (lv' := [(6, .int r16), (5, .int r5), (0, .ref b), (1, .ref v1), (2, .ref v2), (3, .ref v3), (4, .int v4)]) hx hb dL_law_1498 hl (by decide) rfl (fun ls hl => ?_)
  refine lv_aload_n hx hb dL_law_1500 rfl (lv_at hl 4 rfl) ?_
  obtain ⟨hc25, hs26, hw⟩ := hw
  obtain ⟨G31, F32, ht33, hw⟩ := hw
  obtain ⟨fs29, he30, hw⟩ := hw
  refine gh_fxi ht33 hP hS hA (vx_runV (C := "OwnerLedgerModel") (As := []) (rest := []) ⟨hx, hb, hml, hown, hts⟩ (mX5_thrown l hl0 D AC sa _ _ _ _ _ hw) (cwV 0 hts (gV kw_398 kw_399 kw_400 kw_2 kw_401) rfl rfl rfl (by decide +kernel) ⟨Nat.le_of_ble_eq_true rfl, Nat.le_of_ble_eq_true rfl⟩) (gh_preV gh_En_ok hK hE (hP.sub (gh_twoL ht33)) hS hA he30 rfl _) rfl rfl hl.1 rfl (lv_room (Nat.le_of_ble_eq_true rfl)) dL_law_1501 ⟨hc25, hs26⟩) (fun r27 G28 H locs hw2 hP hd35 hS => ?_)
  replace hw := hw2
  clear hw2
  obtain ⟨G34, eG34⟩ : ∃ z : gh_H, z = gh_j G28 F32 := ⟨_, rfl⟩
  rw [← eG34] at hP
  replace hw := hw hd35 G34 eG34
  refine lv_iload hx hb dL_law_1504 (lv_at hl 1 rfl) ?_
  refine lv_icmp_eq (tgt := 1511) hx hb dL_law_1506 (by decide) (fun c36 => ?_) (fun c36 => ?_)
  · replace hw := hw.1 c36
    refine lv_iload hx hb dL_law_1511 (lv_at hl 1 rfl) ?_
    refine lv_if_ne (tgt := 1528) hx hb dL_law_1513 (by decide) (fun c37 => ?_) (fun c37 => ?_)
    · replace hw := hw.1 c37
      refine lv_goto (tgt := 1678) hx hb dL_law_1528 (by decide) ?_
      refine lv_iinc (v := (v4 + 5)) (lv' := [(4, .int (v4 + 5)), (6, .int r16), (5, .int r5), (0, .ref b), (1, .ref v1), (2, .ref v2), (3, .ref v3)]) hx hb dL_law_1678 hl (k := 6) rfl rfl (by decide) rfl (fun ls hl => ?_)
      refine lv_goto (tgt := 23) hx hb dL_law_1681 (by decide) ?_
      have hl := lv_sub (l' := [(0, .ref b), (1, .ref v1), (2, .ref v2), (3, .ref v3), (4, .int (v4 + 5))]) hl [3, 4, 5, 6, 0] rfl
      exact hJ23 _ v1 v2 v3 (v4 + 5) (((kc + 2) + 0) + 0) (((ks + 12) + 0) + 0) _ _ hw hP hS ls hl
    · replace hw := hw.2 c37
      refine lv_aload_n hx hb dL_law_1516 rfl (lv_at hl 5 rfl) ?_
      refine lv_iconst (v := 0) hx hb dL_law_1517 (by decide) ?_
      obtain ⟨n38, f39, he40, hi41, hw⟩ := hw
      refine gh_lald hx hb hK hP he40 rfl hi41 dL_law_1518 ?_
      refine lv_iload hx hb dL_law_1519 (lv_at hl 0 rfl) ?_
      refine lv_i2l hx hb dL_law_1521 rfl ?_
      refine W.lcmp hx hb dL_law_1522 ?_
      refine lv_if_eq (tgt := 1528) hx hb dL_law_1523 (by decide) (fun c42 => ?_) (fun c42 => ?_)
      · replace hw := hw.1 c42
        refine lv_goto (tgt := 1678) hx hb dL_law_1528 (by decide) ?_
        refine lv_iinc (v := (v4 + 5)) (lv' := [(4, .int (v4 + 5)), (6, .int r16), (5, .int r5), (0, .ref b), (1, .ref v1), (2, .ref v2), (3, .ref v3)]) hx hb dL_law_1678 hl (k := 6) rfl rfl (by decide) rfl (fun ls hl => ?_)
        refine lv_goto (tgt := 23) hx hb dL_law_1681 (by decide) ?_
        have hl := lv_sub (l' := [(0, .ref b), (1, .ref v1), (2, .ref v2), (3, .ref v3), (4, .int (v4 + 5))]) hl [3, 4, 5, 6, 0] rfl
        exact hJ23 _ v1 v2 v3 (v4 + 5) (((kc + 2) + 0) + 0) (((ks + 12) + 0) + 0) _ _ hw hP hS ls hl
      · replace hw := hw.2 c42
        refine lv_iconst (v := 0) hx hb dL_law_1526 (by decide) ?_
        obtain ⟨hc43, hs44, hw⟩ := hw
        exact gh_lawret hx hb hr hlocks hw hS hAl hc43 hs44 dL_law_1527
  · replace hw := hw.2 c36
    refine lv_iconst (v := 0) hx hb dL_law_1509 (by decide) ?_
    obtain ⟨hc45, hs46, hw⟩ := hw
    exact gh_lawret hx hb hr hlocks hw hS hAl hc45 hs46 dL_law_1510
