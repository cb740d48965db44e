def wL_law_144 (post : Int32 → gh_H → Prop) (px : String → gh_H → Prop) (L : Nat) (xs : Nat → Int32) (J23 : gh_H → Nat → Nat → Nat → Int32 → Nat → Nat → Prop) (G : gh_H) (v1 : Nat) (v2 : Nat) (v3 : Nat) (v4 : Int32) (kc : Nat) (ks : Nat) : Prop := kc + 2 ≤ 601024 ∧ ks + 8 ≤ 7293034 ∧ (∃ G5 F6 : gh_H, gh_two G G5 F6 ∧ wL_owner (fun r3 G4 => (∀ a9, G4 a9 ≠ none → F6 a9 = none) → ∀ G8 : gh_H, G8 = gh_j G4 F6 → (kc + 2) + 0 ≤ 601024 ∧ (ks + 8) + 0 ≤ 7293034 ∧ (∃ G16 F17 : gh_H, gh_two G8 G16 F17 ∧ ∃ fs14 : List Value, G16 v2 = some (.inr (5, fs14)) ∧ wX5_owner (fun r12 G13 => (∀ a9, G13 a9 ≠ none → F17 a9 = none) → ∀ G19 : gh_H, G19 = gh_j G13 F17 → ((kc + 2) + 0) + 0 ≤ 601024 ∧ ((ks + 8) + 0) + 0 ≤ 7293034 ∧ (∃ G27 F28 : gh_H, gh_two G19 G27 F28 ∧ ∃ fs25 : List Value, G27 v2 = some (.inr (5, fs25)) ∧ wX5_thrown (fun r23 G24 => (∀ a9, G24 a9 ≠ none → F28 a9 = none) → ∀ G30 : gh_H, G30 = gh_j G24 F28 → (r23 = r3 → ((¬ r3 = 0 → (J23 G30 v1 v2 v3 (v4 + 5) (((kc + 2) + 0) + 0) (((ks + 8) + 0) + 0))) ∧ (r3 = 0 → (∃ (n34 : Nat) (f35 : Nat → Int64), G30 v3 = some (.inl (1, n34, .inr (.inl f35))) ∧ vp_in 0 n34 ∧ (((lg_cmp (f35 (Int32.toNatClampNeg 0)) (Int32.toInt64 r12)) = 0 → (J23 G30 v1 v2 v3 (v4 + 5) (((kc + 2) + 0) + 0) (((ks + 8) + 0) + 0))) ∧ (¬ (lg_cmp (f35 (Int32.toNatClampNeg 0)) (Int32.toInt64 r12)) = 0 → ((((kc + 2) + 0) + 0) ≤ 601024 ∧ (((ks + 8) + 0) + 0) ≤ 7293034 ∧ (0 = (1 : Int32))))))))) ∧ (¬ r23 = r3 → ((((kc + 2) + 0) + 0) ≤ 601024 ∧ (((ks + 8) + 0) + 0) ≤ 7293034 ∧ (0 = (1 : Int32))))) (fun _ _ => False) G27 v2)) (fun _ _ => False) G16 v2)) (fun _ _ => False) G5 v1 v3)
set_option maxRecDepth 100000 in
set_option maxHeartbeats 4000000 in
theorem lL_law_144 {p : Program} {l : Launch} {e : Env} {s : State} {m : MethodId} {below : List Frame} {meth : Method} {c : Code} {D : va_G} {AC : Nat → ClassId} {sa : gh_SA} {b L : Nat} {xs : Nat → Int32} {A : Nat → Prop} (hl0 : l.stackTraces = false) (CX : cxL p s m meth c D AC sa b L xs A) (post : Int32 → gh_H → Prop) (px : String → gh_H → Prop) (J23 : gh_H → Nat → Nat → Nat → Int32 → Nat → Nat → Prop) (hJ23 : ∀ (G : gh_H) (v1 : Nat) (v2 : Nat) (v3 : Nat) (v4 : Int32) (kc : Nat) (ks : Nat) (H : Heap) (locs : List Loc), J23 G v1 v2 v3 v4 kc ks → gh_h D vwCl AC A G H → va_S A s.heap H locs → ∀ ls : Array Slot, lv_has ls 8 [(0, .ref b), (1, .ref v1), (2, .ref v2), (3, .ref v3), (4, .int v4)] → W p l e room_1 s m #[Value.ref b] below meth c H locs kc ks (lw_Z below #[Value.ref b] s) (F0 m 23 ls [])) : ∀ (G : gh_H) (v1 : Nat) (v2 : Nat) (v3 : Nat) (v4 : Int32) (kc : Nat) (ks : Nat) (H : Heap) (locs : List Loc), wL_law_144 post px L xs J23 G v1 v2 v3 v4 kc ks → gh_h D vwCl AC A G H → va_S A s.heap H locs → ∀ ls : Array Slot, lv_has ls 8 [(0, .ref b), (1, .ref v1), (2, .ref v2), (3, .ref v3), (4, .int v4)] → W p l e room_1 s m #[Value.ref b] below meth c H locs kc ks (lw_Z below #[Value.ref b] s) (F0 m 144 ls []) := by
  obtain ⟨⟨hx, hb, hml, hown, hts⟩, hr, hlocks, hK, hE, hA, hX, hbl, hbA, hAl⟩ := id CX
  intro G v1 v2 v3 v4 kc ks H locs hw hP hS ls hl
  dsimp only [wL_law_144] at hw
  refine lv_aload_n hx hb dL_law_144 rfl (lv_at hl 1 rfl) ?_
  refine lv_aload_n hx hb dL_law_145 rfl (lv_at hl 3 rfl) ?_
  obtain ⟨hc1, hs2, hw⟩ := hw
  obtain ⟨G5, F6, ht7, hw⟩ := hw
  refine gh_fxi ht7 hP hS hA (vx_runSX (As := [.ref v1, .ref v3]) (rest := []) ⟨hx, hb, hml, hown, hts⟩ (mL_owner l hl0 D AC sa _ _ _ _ _ _ hw) (vx_cwSW 2 hts (gS kw_48 kw_49 kw_0 kw_50) rfl rfl rfl (by decide +kernel) ⟨Nat.le_of_ble_eq_true rfl, Nat.le_of_ble_eq_true rfl⟩) (gh_pre gh_En_ok hK hE (hP.sub (gh_twoL ht7)) hS hA _) rfl rfl hl.1 rfl (lv_room (Nat.le_of_ble_eq_true rfl)) dL_law_146 ⟨hc1, hs2⟩) (fun r3 G4 H locs hw2 hP hd9 hS => ?_)
  replace hw := hw2
  clear hw2
  obtain ⟨G8, eG8⟩ : ∃ z : gh_H, z = gh_j G4 F6 := ⟨_, rfl⟩
  rw [← eG8] at hP
  replace hw := hw hd9 G8 eG8
  refine lv_istore (lv' := [(5, .int r3), (0, .ref b), (1, .ref v1), (2, .ref v2), (3, .ref v3), (4, .int v4)]) hx hb dL_law_149 hl (by decide) rfl (fun ls hl => ?_)
  refine lv_aload_n hx hb dL_law_151 rfl (lv_at hl 3 rfl) ?_
  obtain ⟨hc10, hs11, hw⟩ := hw
  obtain ⟨G16, F17, ht18, hw⟩ := hw
  obtain ⟨fs14, he15, hw⟩ := hw
  refine gh_fxi ht18 hP hS hA (vx_runV (C := "OwnerLedgerModel") (As := []) (rest := []) ⟨hx, hb, hml, hown, hts⟩ (mX5_owner l hl0 D AC sa _ _ _ _ _ hw) (cwV 0 hts (gV kw_402 kw_403 kw_404 kw_2 kw_405) rfl rfl rfl (by decide +kernel) ⟨Nat.le_of_ble_eq_true rfl, Nat.le_of_ble_eq_true rfl⟩) (gh_preV gh_En_ok hK hE (hP.sub (gh_twoL ht18)) hS hA he15 rfl _) rfl rfl hl.1 rfl (lv_room (Nat.le_of_ble_eq_true rfl)) dL_law_152 ⟨hc10, hs11⟩) (fun r12 G13 H locs hw2 hP hd20 hS => ?_)
  replace hw := hw2
  clear hw2
  obtain ⟨G19, eG19⟩ : ∃ z : gh_H, z = gh_j G13 F17 := ⟨_, rfl⟩
  rw [← eG19] at hP
  replace hw := hw hd20 G19 eG19
  refine lv_istore (lv' := [(6, .int r12), (5, .int r3), (0, .ref b), (1, .ref v1), (2, .ref v2), (3, .ref v3), (4, .int v4)]) hx hb dL_law_155 hl (by decide) rfl (fun ls hl => ?_)
  refine lv_aload_n hx hb dL_law_157 rfl (lv_at hl 4 rfl) ?_
  obtain ⟨hc21, hs22, hw⟩ := hw
  obtain ⟨G27, F28, ht29, hw⟩ := hw
  obtain ⟨fs25, he26, hw⟩ := hw
  refine gh_fxi ht29 hP hS hA (vx_runV (C := "OwnerLedgerModel") (As := []) (rest := []) ⟨hx, hb, hml, hown, hts⟩ (mX5_thrown l hl0 D AC sa _ _ _ _ _ hw) (cwV 0 hts (gV kw_398 kw_399 kw_400 kw_2 kw_401) rfl rfl rfl (by decide +kernel) ⟨Nat.le_of_ble_eq_true rfl, Nat.le_of_ble_eq_true rfl⟩) (gh_preV gh_En_ok hK hE (hP.sub (gh_twoL ht29)) hS hA he26 rfl _) rfl rfl hl.1 rfl (lv_room (Nat.le_of_ble_eq_true rfl)) dL_law_158 ⟨hc21, hs22⟩) (fun r23 G24 H locs hw2 hP hd31 hS => ?_)
  replace hw := hw2
  clear hw2
  obtain ⟨G30, eG30⟩ : ∃ z : gh_H, z = gh_j G24 F28 := ⟨_, rfl⟩
  rw [← eG30] at hP
  replace hw := hw hd31 G30 eG30
  refine lv_iload hx hb dL_law_161 (lv_at hl 1 rfl) ?_
  refine lv_icmp_eq (tgt := 168) hx hb dL_law_163 (by decide) (fun c32 => ?_) (fun c32 => ?_)
  · replace hw := hw.1 c32
    refine lv_iload hx hb dL_law_168 (lv_at hl 1 rfl) ?_
    refine lv_if_ne (tgt := 185) hx hb dL_law_170 (by decide) (fun c33 => ?_) (fun c33 => ?_)
    · replace hw := hw.1 c33
      refine lv_goto (tgt := 1678) hx hb dL_law_185 (by decide) ?_
      refine lv_iinc (v := (v4 + 5)) (lv' := [(4, .int (v4 + 5)), (6, .int r12), (5, .int r3), (0, .ref b), (1, .ref v1), (2, .ref v2), (3, .ref v3)]) hx hb dL_law_1678 hl (k := 6) rfl rfl (by decide) rfl (fun ls hl => ?_)
      refine lv_goto (tgt := 23) hx hb dL_law_1681 (by decide) ?_
      have hl := lv_sub (l' := [(0, .ref b), (1, .ref v1), (2, .ref v2), (3, .ref v3), (4, .int (v4 + 5))]) hl [3, 4, 5, 6, 0] rfl
      exact hJ23 _ v1 v2 v3 (v4 + 5) (((kc + 2) + 0) + 0) (((ks + 8) + 0) + 0) _ _ hw hP hS ls hl
    · replace hw := hw.2 c33
      refine lv_aload_n hx hb dL_law_173 rfl (lv_at hl 5 rfl) ?_
      refine lv_iconst (v := 0) hx hb dL_law_174 (by decide) ?_
      obtain ⟨n34, f35, he36, hi37, hw⟩ := hw
      refine gh_lald hx hb hK hP he36 rfl hi37 dL_law_175 ?_
      refine lv_iload hx hb dL_law_176 (lv_at hl 0 rfl) ?_
      refine lv_i2l hx hb dL_law_178 rfl ?_
      refine W.lcmp hx hb dL_law_179 ?_
      refine lv_if_eq (tgt := 185) hx hb dL_law_180 (by decide) (fun c38 => ?_) (fun c38 => ?_)
      · replace hw := hw.1 c38
        refine lv_goto (tgt := 1678) hx hb dL_law_185 (by decide) ?_
        refine lv_iinc (v := (v4 + 5)) (lv' := [(4, .int (v4 + 5)), (6, .int r12), (5, .int r3), (0, .ref b), (1, .ref v1), (2, .ref v2), (3, .ref v3)]) hx hb dL_law_1678 hl (k := 6) rfl rfl (by decide) rfl (fun ls hl => ?_)
        refine lv_goto (tgt := 23) hx hb dL_law_1681 (by decide) ?_
        have hl := lv_sub (l' := [(0, .ref b), (1, .ref v1), (2, .ref v2), (3, .ref v3), (4, .int (v4 + 5))]) hl [3, 4, 5, 6, 0] rfl
        exact hJ23 _ v1 v2 v3 (v4 + 5) (((kc + 2) + 0) + 0) (((ks + 8) + 0) + 0) _ _ hw hP hS ls hl
      · replace hw := hw.2 c38
        refine lv_iconst (v := 0) hx hb dL_law_183 (by decide) ?_
        obtain ⟨hc39, hs40, hw⟩ := hw
        exact gh_lawret hx hb hr hlocks hw hS hAl hc39 hs40 dL_law_184
  · replace hw := hw.2 c32
    refine lv_iconst (v := 0) hx hb dL_law_166 (by decide) ?_
    obtain ⟨hc41, hs42, hw⟩ := hw
    exact gh_lawret hx hb hr hlocks hw hS hAl hc41 hs42 dL_law_167
def wL_law_188 (post : Int32 → gh_H → Prop) (px : String → gh_H → Prop) (L : Nat) (xs : Nat → Int32) (J23 : gh_H → Nat → Nat → Nat → Int32 → Nat → Nat → Prop) (G : gh_H) (v1 : Nat) (v2 : Nat) (v3 : Nat) (v4 : Int32) (kc : Nat) (ks : Nat) : Prop := vp_in (v4 + 1) L ∧ (vp_in (v4 + 2) L ∧ (kc + 3 ≤ 601024 ∧ ks + 18 ≤ 7293034 ∧ (∃ G7 F8 : gh_H, gh_two G G7 F8 ∧ wL_account (fun r5 G6 => (∀ a9, G6 a9 ≠ none → F8 a9 = none) → ∀ G10 : gh_H, G10 = gh_j G6 F8 → vp_in (v4 + 1) L ∧ (vp_in (v4 + 2) L ∧ ((kc + 3) + 0 ≤ 601024 ∧ (ks + 18) + 0 ≤ 7293034 ∧ (∃ G20 F21 : gh_H, gh_two G10 G20 F21 ∧ ∃ fs18 : List Value, G20 v2 = some (.inr (5, fs18)) ∧ wX5_account (fun r16 G17 => (∀ a9, G17 a9 ≠ none → F21 a9 = none) → ∀ G23 : gh_H, G23 = gh_j G17 F21 → ((kc + 3) + 0) + 0 ≤ 601024 ∧ ((ks + 18) + 0) + 0 ≤ 7293034 ∧ (∃ G31 F32 : gh_H, gh_two G23 G31 F32 ∧ ∃ fs29 : List Value, G31 v2 = some (.inr (5, fs29)) ∧ wX5_thrown (fun r27 G28 => (∀ a9, G28 a9 ≠ none → F32 a9 = none) → ∀ G34 : gh_H, G34 = gh_j G28 F32 → (r27 = r5 → ((¬ r5 = 0 → (J23 G34 v1 v2 v3 (v4 + 5) (((kc + 3) + 0) + 0) (((ks + 18) + 0) + 0))) ∧ (r5 = 0 → (∃ (n38 : Nat) (f39 : Nat → Int64), G34 v3 = some (.inl (1, n38, .inr (.inl f39))) ∧ vp_in 0 n38 ∧ (((lg_cmp (f39 (Int32.toNatClampNeg 0)) (Int32.toInt64 r16)) = 0 → (J23 G34 v1 v2 v3 (v4 + 5) (((kc + 3) + 0) + 0) (((ks + 18) + 0) + 0))) ∧ (¬ (lg_cmp (f39 (Int32.toNatClampNeg 0)) (Int32.toInt64 r16)) = 0 → ((((kc + 3) + 0) + 0) ≤ 601024 ∧ (((ks + 18) + 0) + 0) ≤ 7293034 ∧ (0 = (1 : Int32))))))))) ∧ (¬ r27 = r5 → ((((kc + 3) + 0) + 0) ≤ 601024 ∧ (((ks + 18) + 0) + 0) ≤ 7293034 ∧ (0 = (1 : Int32))))) (fun _ _ => False) G31 v2)) (fun _ _ => False) G20 v2 (xs (Int32.toNatClampNeg (v4 + 1))) (xs (Int32.toNatClampNeg (v4 + 2))))))) (fun _ _ => False) G7 v1 (xs (Int32.toNatClampNeg (v4 + 1))) (xs (Int32.toNatClampNeg (v4 + 2))) v3)))
set_option maxRecDepth 100000 in
set_option maxHeartbeats 4000000 in
theorem lL_law_188 {p : Program} {l : Launch} {e : Env} {s : State} {m : MethodId} {below : List Frame} {meth : Method} {c : Code} {D : va_G} {AC : Nat → ClassId} {sa : gh_SA} {b L : Nat} {xs : Nat → Int32} {A : Nat → Prop} (hl0 : l.stackTraces = false) (CX : cxL p s m meth c D AC sa b L xs A) (post : Int32 → gh_H → Prop) (px : String → gh_H → Prop) (J23 : gh_H → Nat → Nat → Nat → Int32 → Nat → Nat → Prop) (hJ23 : ∀ (G : gh_H) (v1 : Nat) (v2 : Nat) (v3 : Nat) (v4 : Int32) (kc : Nat) (ks : Nat) (H : Heap) (locs : List Loc), J23 G v1 v2 v3 v4 kc ks → gh_h D vwCl AC A G H → va_S A s.heap H locs → ∀ ls : Array Slot, lv_has ls 8 [(0, .ref b), (1, .ref v1), (2, .ref v2), (3, .ref v3), (4, .int v4)] → W p l e room_1 s m #[Value.ref b] below meth c H locs kc ks (lw_Z below #[Value.ref b] s) (F0 m 23 ls [])) : ∀ (G : gh_H) (v1 : Nat) (v2 : Nat) (v3 : Nat) (v4 : Int32) (kc : Nat) (ks : Nat) (H : Heap) (locs : List Loc), wL_law_188 post px L xs J23 G v1 v2 v3 v4 kc ks → gh_h D vwCl AC A G H → va_S A s.heap H locs → ∀ ls : Array Slot, lv_has ls 8 [(0, .ref b), (1, .ref v1), (2, .ref v2), (3, .ref v3), (4, .int v4)] → W p l e room_1 s m #[Value.ref b] below meth c H locs kc ks (lw_Z below #[Value.ref b] s) (F0 m 188 ls []) := by
  obtain ⟨⟨hx, hb, hml, hown, hts⟩, hr, hlocks, hK, hE, hA, hX, hbl, hbA, hAl⟩ := id CX
  intro G v1 v2 v3 v4 kc ks H locs hw hP hS ls hl
  dsimp only [wL_law_188] at hw
  refine lv_aload_n hx hb dL_law_188 rfl (lv_at hl 1 rfl) ?_
  refine lv_aload_n hx hb dL_law_189 rfl (lv_at hl 0 rfl) ?_
  refine lv_iload hx hb dL_law_190 (lv_at hl 4 rfl) ?_
  refine lv_iconst (v := 1) hx hb dL_law_192 (by decide) ?_
  refine lv_iadd hx hb dL_law_193 ?_
  obtain ⟨hi1, hw⟩ := hw
  refine va_sld hx hb hX hbl hbA hS hi1 dL_law_194 ?_
  refine lv_aload_n hx hb dL_law_195 rfl (lv_at hl 0 rfl) ?_
  refine lv_iload hx hb dL_law_196 (lv_at hl 4 rfl) ?_
  refine lv_iconst (v := 2) hx hb dL_law_198 (by decide) ?_
  refine lv_iadd hx hb dL_law_199 ?_
  obtain ⟨hi2, hw⟩ := hw
  refine va_sld hx hb hX hbl hbA hS hi2 dL_law_200 ?_
  refine lv_aload_n hx hb dL_law_201 rfl (lv_at hl 3 rfl) ?_
  obtain ⟨hc3, hs4, hw⟩ := hw
  obtain ⟨G7, F8, ht9, hw⟩ := hw
  refine gh_fxi ht9 hP hS hA (vx_runSX (As := [.ref v1, .int (xs (Int32.toNatClampNeg (v4 + 1))), .int (xs (Int32.toNatClampNeg (v4 + 2))), .ref v3]) (rest := []) ⟨hx, hb, hml, hown, hts⟩ (mL_account l hl0 D AC sa _ _ _ _ _ _ _ _ hw) (vx_cwSW 4 hts (gS kw_71 kw_72 kw_0 kw_73) rfl rfl rfl (by decide +kernel) ⟨Nat.le_of_ble_eq_true rfl, Nat.le_of_ble_eq_true rfl⟩) (gh_pre gh_En_ok hK hE (hP.sub (gh_twoL ht9)) hS hA _) rfl rfl hl.1 rfl (lv_room (Nat.le_of_ble_eq_true rfl)) dL_law_202 ⟨hc3, hs4⟩) (fun r5 G6 H locs hw2 hP hd11 hS => ?_)
  replace hw := hw2
  clear hw2
  obtain ⟨G10, eG10⟩ : ∃ z : gh_H, z = gh_j G6 F8 := ⟨_, rfl⟩
  rw [← eG10] at hP
  replace hw := hw hd11 G10 eG10
  refine lv_istore (lv' := [(5, .int r5), (0, .ref b), (1, .ref v1), (2, .ref v2), (3, .ref v3), (4, .int v4)]) hx hb dL_law_205 hl (by decide) rfl (fun ls hl => ?_)
  refine lv_aload_n hx hb dL_law_207 rfl (lv_at hl 3 rfl) ?_
  refine lv_aload_n hx hb dL_law_208 rfl (lv_at hl 1 rfl) ?_
  refine lv_iload hx hb dL_law_209 (lv_at hl 5 rfl) ?_
  refine lv_iconst (v := 1) hx hb dL_law_211 (by decide) ?_
  refine lv_iadd hx hb dL_law_212 ?_
  obtain ⟨hi12, hw⟩ := hw
  refine va_sld hx hb hX hbl hbA hS hi12 dL_law_213 ?_
  refine lv_aload_n hx hb dL_law_214 rfl (lv_at hl 1 rfl) ?_
  refine lv_iload hx hb dL_law_215 (lv_at hl 5 rfl) ?_
  refine lv_iconst (v := 2) hx hb dL_law_217 (by decide) ?_
  refine lv_iadd hx hb dL_law_218 ?_
  obtain ⟨hi13, hw⟩ := hw
  refine va_sld hx hb hX hbl hbA hS hi13 dL_law_219 ?_
  obtain ⟨hc14, hs15, hw⟩ := hw
  obtain ⟨G20, F21, ht22, hw⟩ := hw
  obtain ⟨fs18, he19, hw⟩ := hw
  refine gh_fxi ht22 hP hS hA (vx_runV (C := "OwnerLedgerModel") (As := [.int (xs (Int32.toNatClampNeg (v4 + 1))), .int (xs (Int32.toNatClampNeg (v4 + 2)))]) (rest := []) ⟨hx, hb, hml, hown, hts⟩ (mX5_account l hl0 D AC sa _ _ _ _ _ _ _ hw) (cwV 2 hts (gV kw_406 kw_407 kw_408 kw_2 kw_409) rfl rfl rfl (by decide +kernel) ⟨Nat.le_of_ble_eq_true rfl, Nat.le_of_ble_eq_true rfl⟩) (gh_preV gh_En_ok hK hE (hP.sub (gh_twoL ht22)) hS hA he19 rfl _) rfl rfl hl.1 rfl (lv_room (Nat.le_of_ble_eq_true rfl)) dL_law_220 ⟨hc14, hs15⟩) (fun r16 G17 H locs hw2 hP hd24 hS => ?_)
  replace hw := hw2
  clear hw2
  obtain ⟨G23, eG23⟩ : ∃ z : gh_H, z = gh_j G17 F21 := ⟨_, rfl⟩
  rw [← eG23] at hP
  replace hw := hw hd24 G23 eG23
  refine lv_istore (lv' := [(6, .int r16), (5, .int r5), (0, .ref b), (1, .ref v1), (2, .ref v2), (3, .ref v3), (4, .int v4)]) hx hb dL_law_223 hl (by decide) rfl (fun ls hl => ?_)
  refine lv_aload_n hx hb dL_law_225 rfl (lv_at hl 4 rfl) ?_
  obtain ⟨hc25, hs26, hw⟩ := hw
  obtain ⟨G31, F32, ht33, hw⟩ := hw
  obtain ⟨fs29, he30, hw⟩ := hw
  refine gh_fxi ht33 hP hS hA (vx_runV (C := "OwnerLedgerModel") (As := []) (rest := []) ⟨hx, hb, hml, hown, hts⟩ (mX5_thrown l hl0 D AC sa _ _ _ _ _ hw) (cwV 0 hts (gV kw_398 kw_399 kw_400 kw_2 kw_401) rfl rfl rfl (by decide +kernel) ⟨Nat.le_of_ble_eq_true rfl, Nat.le_of_ble_eq_true rfl⟩) (gh_preV gh_En_ok hK hE (hP.sub (gh_twoL ht33)) hS hA he30 rfl _) rfl rfl hl.1 rfl (lv_room (Nat.le_of_ble_eq_true rfl)) dL_law_226 ⟨hc25, hs26⟩) (fun r27 G28 H locs hw2 hP hd35 hS => ?_)
  replace hw := hw2
  clear hw2
  obtain ⟨G34, eG34⟩ : ∃ z : gh_H, z = gh_j G28 F32 := ⟨_, rfl⟩
  rw [← eG34] at hP
  replace hw := hw hd35 G34 eG34
  refine lv_iload hx hb dL_law_229 (lv_at hl 1 rfl) ?_
  refine lv_icmp_eq (tgt := 236) hx hb dL_law_231 (by decide) (fun c36 => ?_) (fun c36 => ?_)
  · replace hw := hw.1 c36
    refine lv_iload hx hb dL_law_236 (lv_at hl 1 rfl) ?_
    refine lv_if_ne (tgt := 253) hx hb dL_law_238 (by decide) (fun c37 => ?_) (fun c37 => ?_)
    · replace hw := hw.1 c37
      refine lv_goto (tgt := 1678) hx hb dL_law_253 (by decide) ?_
      refine lv_iinc (v := (v4 + 5)) (lv' := [(4, .int (v4 + 5)), (6, .int r16), (5, .int r5), (0, .ref b), (1, .ref v1), (2, .ref v2), (3, .ref v3)]) hx hb dL_law_1678 hl (k := 6) rfl rfl (by decide) rfl (fun ls hl => ?_)
      refine lv_goto (tgt := 23) hx hb dL_law_1681 (by decide) ?_
      have hl := lv_sub (l' := [(0, .ref b), (1, .ref v1), (2, .ref v2), (3, .ref v3), (4, .int (v4 + 5))]) hl [3, 4, 5, 6, 0] rfl
      exact hJ23 _ v1 v2 v3 (v4 + 5) (((kc + 3) + 0) + 0) (((ks + 18) + 0) + 0) _ _ hw hP hS ls hl
    · replace hw := hw.2 c37
      refine lv_aload_n hx hb dL_law_241 rfl (lv_at hl 5 rfl) ?_
      refine lv_iconst (v := 0) hx hb dL_law_242 (by decide) ?_
      obtain ⟨n38, f39, he40, hi41, hw⟩ := hw
      refine gh_lald hx hb hK hP he40 rfl hi41 dL_law_243 ?_
      refine lv_iload hx hb dL_law_244 (lv_at hl 0 rfl) ?_
      refine lv_i2l hx hb dL_law_246 rfl ?_
      refine W.lcmp hx hb dL_law_247 ?_
      refine lv_if_eq (tgt := 253) hx hb dL_law_248 (by decide) (fun c42 => ?_) (fun c42 => ?_)
      · replace hw := hw.1 c42
        refine lv_goto (tgt := 1678) hx hb dL_law_253 (by decide) ?_
        refine lv_iinc (v := (v4 + 5)) (lv' := [(4, .int (v4 + 5)), (6, .int r16), (5, .int r5), (0, .ref b), (1, .ref v1), (2, .ref v2), (3, .ref v3)]) hx hb dL_law_1678 hl (k := 6) rfl rfl (by decide) rfl (fun ls hl => ?_)
        refine lv_goto (tgt := 23) hx hb dL_law_1681 (by decide) ?_
        have hl := lv_sub (l' := [(0, .ref b), (1, .ref v1), (2, .ref v2), (3, .ref v3), (4, .int (v4 + 5))]) hl [3, 4, 5, 6, 0] rfl
        exact hJ23 _ v1 v2 v3 (v4 + 5) (((kc + 3) + 0) + 0) (((ks + 18) + 0) + 0) _ _ hw hP hS ls hl
      · replace hw := hw.2 c42
        refine lv_iconst (v := 0) hx hb dL_law_251 (by decide) ?_
        obtain ⟨hc43, hs44, hw⟩ := hw
        exact gh_lawret hx hb hr hlocks hw hS hAl hc43 hs44 dL_law_252
  · replace hw := hw.2 c36
    refine lv_iconst (v := 0) hx hb dL_law_234 (by decide) ?_
    obtain ⟨hc45, hs46, hw⟩ := hw
    exact gh_lawret hx hb hr hlocks hw hS hAl hc45 hs46 dL_law_235
def wL_law_256 (post : Int32 → gh_H → Prop) (px : String → gh_H → Prop) (L : Nat) (xs : Nat → Int32) (J23 : gh_H → Nat → Nat → Nat → Int32 → Nat → Nat → Prop) (G : gh_H) (v1 : Nat) (v2 : Nat) (v3 : Nat) (v4 : Int32) (kc : Nat) (ks : Nat) : Prop := vp_in (v4 + 1) L ∧ (kc + 1 ≤ 601024 ∧ ks + 6 ≤ 7293034 ∧ (∃ G6 F7 : gh_H, gh_two G G6 F7 ∧ wL_month (fun r4 G5 => (∀ a9, G5 a9 ≠ none → F7 a9 = none) → ∀ G9 : gh_H, G9 = gh_j G5 F7 → vp_in (v4 + 1) L ∧ ((kc + 1) + 0 ≤ 601024 ∧ (ks + 6) + 0 ≤ 7293034 ∧ (∃ G18 F19 : gh_H, gh_two G9 G18 F19 ∧ ∃ fs16 : List Value, G18 v2 = some (.inr (5, fs16)) ∧ wX5_month (fun G15 => (∀ a9, G15 a9 ≠ none → F19 a9 = none) → ∀ G21 : gh_H, G21 = gh_j G15 F19 → ((kc + 1) + 0) + 0 ≤ 601024 ∧ ((ks + 6) + 0) + 0 ≤ 7293034 ∧ (∃ G29 F30 : gh_H, gh_two G21 G29 F30 ∧ ∃ fs27 : List Value, G29 v2 = some (.inr (5, fs27)) ∧ wX5_thrown (fun r25 G26 => (∀ a9, G26 a9 ≠ none → F30 a9 = none) → ∀ G32 : gh_H, G32 = gh_j G26 F30 → (r25 = r4 → (J23 G32 v1 v2 v3 (v4 + 5) (((kc + 1) + 0) + 0) (((ks + 6) + 0) + 0))) ∧ (¬ r25 = r4 → ((((kc + 1) + 0) + 0) ≤ 601024 ∧ (((ks + 6) + 0) + 0) ≤ 7293034 ∧ (0 = (1 : Int32))))) (fun _ _ => False) G29 v2)) (fun _ _ => False) G18 v2 (xs (Int32.toNatClampNeg (v4 + 1)))))) (fun _ _ => False) G6 v1 (xs (Int32.toNatClampNeg (v4 + 1)))))
set_option maxRecDepth 100000 in
set_option maxHeartbeats 4000000 in
theorem lL_law_256 {p : Program} {l : Launch} {e : Env} {s : State} {m : MethodId} {below : List Frame} {meth : Method} {c : Code} {D : va_G} {AC : Nat → ClassId} {sa : gh_SA} {b L : Nat} {xs : Nat → Int32} {A : Nat → Prop} (hl0 : l.stackTraces = false) (CX : cxL p s m meth c D AC sa b L xs A) (post : Int32 → gh_H → Prop) (px : String → gh_H → Prop) (J23 : gh_H → Nat → Nat → Nat → Int32 → Nat → Nat → Prop) (hJ23 : ∀ (G : gh_H) (v1 : Nat) (v2 : Nat) (v3 : Nat) (v4 : Int32) (kc : Nat) (ks : Nat) (H : Heap) (locs : List Loc), J23 G v1 v2 v3 v4 kc ks → gh_h D vwCl AC A G H → va_S A s.heap H locs → ∀ ls : Array Slot, lv_has ls 8 [(0, .ref b), (1, .ref v1), (2, .ref v2), (3, .ref v3), (4, .int v4)] → W p l e room_1 s m #[Value.ref b] below meth c H locs kc ks (lw_Z below #[Value.ref b] s) (F0 m 23 ls [])) : ∀ (G : gh_H) (v1 : Nat) (v2 : Nat) (v3 : Nat) (v4 : Int32) (kc : Nat) (ks : Nat) (H : Heap) (locs : List Loc), wL_law_256 post px L xs J23 G v1 v2 v3 v4 kc ks → gh_h D vwCl AC A G H → va_S A s.heap H locs → ∀ ls : Array Slot, lv_has ls 8 [(0, .ref b), (1, .ref v1), (2, .ref v2), (3, .ref v3), (4, .int v4)] → W p l e room_1 s m #[Value.ref b] below meth c H locs kc ks (lw_Z below #[Value.ref b] s) (F0 m 256 ls []) := by
  obtain ⟨⟨hx, hb, hml, hown, hts⟩, hr, hlocks, hK, hE, hA, hX, hbl, hbA, hAl⟩ := id CX
  intro G v1 v2 v3 v4 kc ks H locs hw hP hS ls hl
  dsimp only [wL_law_256] at hw
  refine lv_aload_n hx hb dL_law_256 rfl (lv_at hl 1 rfl) ?_
  refine lv_aload_n hx hb dL_law_257 rfl (lv_at hl 0 rfl) ?_
  refine lv_iload hx hb dL_law_258 (lv_at hl 4 rfl) ?_
  refine lv_iconst (v := 1) hx hb dL_law_260 (by decide) ?_
  refine lv_iadd hx hb dL_law_261 ?_
  obtain ⟨hi1, hw⟩ := hw
  refine va_sld hx hb hX hbl hbA hS hi1 dL_law_262 ?_
  obtain ⟨hc2, hs3, hw⟩ := hw
  obtain ⟨G6, F7, ht8, hw⟩ := hw
  refine gh_fxi ht8 hP hS hA (vx_runSX (As := [.ref v1, .int (xs (Int32.toNatClampNeg (v4 + 1)))]) (rest := []) ⟨hx, hb, hml, hown, hts⟩ (mL_month l hl0 D AC sa _ _ _ _ _ _ hw) (vx_cwSW 2 hts (gS kw_97 kw_98 kw_0 kw_99) rfl rfl rfl (by decide +kernel) ⟨Nat.le_of_ble_eq_true rfl, Nat.le_of_ble_eq_true rfl⟩) (gh_pre gh_En_ok hK hE (hP.sub (gh_twoL ht8)) hS hA _) rfl rfl hl.1 rfl (lv_room (Nat.le_of_ble_eq_true rfl)) dL_law_263 ⟨hc2, hs3⟩) (fun r4 G5 H locs hw2 hP hd10 hS => ?_)
  replace hw := hw2
  clear hw2
  obtain ⟨G9, eG9⟩ : ∃ z : gh_H, z = gh_j G5 F7 := ⟨_, rfl⟩
  rw [← eG9] at hP
  replace hw := hw hd10 G9 eG9
  refine lv_istore (lv' := [(5, .int r4), (0, .ref b), (1, .ref v1), (2, .ref v2), (3, .ref v3), (4, .int v4)]) hx hb dL_law_266 hl (by decide) rfl (fun ls hl => ?_)
  refine lv_aload_n hx hb dL_law_268 rfl (lv_at hl 3 rfl) ?_
  refine lv_aload_n hx hb dL_law_269 rfl (lv_at hl 1 rfl) ?_
  refine lv_iload hx hb dL_law_270 (lv_at hl 5 rfl) ?_
  refine lv_iconst (v := 1) hx hb dL_law_272 (by decide) ?_
  refine lv_iadd hx hb dL_law_273 ?_
  obtain ⟨hi11, hw⟩ := hw
  refine va_sld hx hb hX hbl hbA hS hi11 dL_law_274 ?_
  obtain ⟨hc12, hs13, hw⟩ := hw
  obtain ⟨G18, F19, ht20, hw⟩ := hw
  obtain ⟨fs16, he17, hw⟩ := hw
  refine gh_fxv ht20 hP hS hA (vx_runV (C := "OwnerLedgerModel") (As := [.int (xs (Int32.toNatClampNeg (v4 + 1)))]) (rest := []) ⟨hx, hb, hml, hown, hts⟩ (mX5_month l hl0 D AC sa _ _ _ _ _ _ hw) (cwV 1 hts (gV kw_417 kw_418 kw_419 kw_2 kw_420) rfl rfl rfl (by decide +kernel) ⟨Nat.le_of_ble_eq_true rfl, Nat.le_of_ble_eq_true rfl⟩) (gh_preV gh_En_ok hK hE (hP.sub (gh_twoL ht20)) hS hA he17 rfl _) rfl rfl hl.1 rfl (lv_room (Nat.le_of_ble_eq_true rfl)) dL_law_275 ⟨hc12, hs13⟩) (fun G15 H locs hw2 hP hd22 hS => ?_)
  replace hw := hw2
  clear hw2
  obtain ⟨G21, eG21⟩ : ∃ z : gh_H, z = gh_j G15 F19 := ⟨_, rfl⟩
  rw [← eG21] at hP
  replace hw := hw hd22 G21 eG21
  refine lv_aload_n hx hb dL_law_278 rfl (lv_at hl 3 rfl) ?_
  obtain ⟨hc23, hs24, hw⟩ := hw
  obtain ⟨G29, F30, ht31, hw⟩ := hw
  obtain ⟨fs27, he28, hw⟩ := hw
  refine gh_fxi ht31 hP hS hA (vx_runV (C := "OwnerLedgerModel") (As := []) (rest := []) ⟨hx, hb, hml, hown, hts⟩ (mX5_thrown l hl0 D AC sa _ _ _ _ _ hw) (cwV 0 hts (gV kw_398 kw_399 kw_400 kw_2 kw_401) rfl rfl rfl (by decide +kernel) ⟨Nat.le_of_ble_eq_true rfl, Nat.le_of_ble_eq_true rfl⟩) (gh_preV gh_En_ok hK hE (hP.sub (gh_twoL ht31)) hS hA he28 rfl _) rfl rfl hl.1 rfl (lv_room (Nat.le_of_ble_eq_true rfl)) dL_law_279 ⟨hc23, hs24⟩) (fun r25 G26 H locs hw2 hP hd33 hS => ?_)
  replace hw := hw2
  clear hw2
  obtain ⟨G32, eG32⟩ : ∃ z : gh_H, z = gh_j G26 F30 := ⟨_, rfl⟩
  rw [← eG32] at hP
  replace hw := hw hd33 G32 eG32
  refine lv_iload hx hb dL_law_282 (lv_at hl 0 rfl) ?_
  refine lv_icmp_eq (tgt := 289) hx hb dL_law_284 (by decide) (fun c34 => ?_) (fun c34 => ?_)
  · replace hw := hw.1 c34
    refine lv_goto (tgt := 1678) hx hb dL_law_289 (by decide) ?_
    refine lv_iinc (v := (v4 + 5)) (lv' := [(4, .int (v4 + 5)), (5, .int r4), (0, .ref b), (1, .ref v1), (2, .ref v2), (3, .ref v3)]) hx hb dL_law_1678 hl (k := 5) rfl rfl (by decide) rfl (fun ls hl => ?_)
    refine lv_goto (tgt := 23) hx hb dL_law_1681 (by decide) ?_
    have hl := lv_sub (l' := [(0, .ref b), (1, .ref v1), (2, .ref v2), (3, .ref v3), (4, .int (v4 + 5))]) hl [2, 3, 4, 5, 0] rfl
    exact hJ23 _ v1 v2 v3 (v4 + 5) (((kc + 1) + 0) + 0) (((ks + 6) + 0) + 0) _ _ hw hP hS ls hl
  · replace hw := hw.2 c34
    refine lv_iconst (v := 0) hx hb dL_law_287 (by decide) ?_
    obtain ⟨hc35, hs36, hw⟩ := hw
    exact gh_lawret hx hb hr hlocks hw hS hAl hc35 hs36 dL_law_288
def wL_law_292 (post : Int32 → gh_H → Prop) (px : String → gh_H → Prop) (L : Nat) (xs : Nat → Int32) (J23 : gh_H → Nat → Nat → Nat → Int32 → Nat → Nat → Prop) (G : gh_H) (v1 : Nat) (v2 : Nat) (v3 : Nat) (v4 : Int32) (kc : Nat) (ks : Nat) : Prop := vp_in (v4 + 1) L ∧ (kc + 2 ≤ 601024 ∧ ks + 12 ≤ 7293034 ∧ (∃ G6 F7 : gh_H, gh_two G G6 F7 ∧ wL_close (fun r4 G5 => (∀ a9, G5 a9 ≠ none → F7 a9 = none) → ∀ G9 : gh_H, G9 = gh_j G5 F7 → vp_in (v4 + 1) L ∧ ((kc + 2) + 0 ≤ 601024 ∧ (ks + 12) + 0 ≤ 7293034 ∧ (∃ G18 F19 : gh_H, gh_two G9 G18 F19 ∧ ∃ fs16 : List Value, G18 v2 = some (.inr (5, fs16)) ∧ wX5_close (fun r14 G15 => (∀ a9, G15 a9 ≠ none → F19 a9 = none) → ∀ G21 : gh_H, G21 = gh_j G15 F19 → ((kc + 2) + 0) + 0 ≤ 601024 ∧ ((ks + 12) + 0) + 0 ≤ 7293034 ∧ (∃ G29 F30 : gh_H, gh_two G21 G29 F30 ∧ ∃ fs27 : List Value, G29 v2 = some (.inr (5, fs27)) ∧ wX5_thrown (fun r25 G26 => (∀ a9, G26 a9 ≠ none → F30 a9 = none) → ∀ G32 : gh_H, G32 = gh_j G26 F30 → (r25 = r4 → ((¬ r4 = 0 → (J23 G32 v1 v2 v3 (v4 + 5) (((kc + 2) + 0) + 0) (((ks + 12) + 0) + 0))) ∧ (r4 = 0 → (∃ (n36 : Nat) (f37 : Nat → Int64), G32 v3 = some (.inl (1, n36, .inr (.inl f37))) ∧ vp_in 0 n36 ∧ (((lg_cmp (f37 (Int32.toNatClampNeg 0)) (Int32.toInt64 r14)) = 0 → (J23 G32 v1 v2 v3 (v4 + 5) (((kc + 2) + 0) + 0) (((ks + 12) + 0) + 0))) ∧ (¬ (lg_cmp (f37 (Int32.toNatClampNeg 0)) (Int32.toInt64 r14)) = 0 → ((((kc + 2) + 0) + 0) ≤ 601024 ∧ (((ks + 12) + 0) + 0) ≤ 7293034 ∧ (0 = (1 : Int32))))))))) ∧ (¬ r25 = r4 → ((((kc + 2) + 0) + 0) ≤ 601024 ∧ (((ks + 12) + 0) + 0) ≤ 7293034 ∧ (0 = (1 : Int32))))) (fun _ _ => False) G29 v2)) (fun _ _ => False) G18 v2 (xs (Int32.toNatClampNeg (v4 + 1)))))) (fun _ _ => False) G6 v1 (xs (Int32.toNatClampNeg (v4 + 1))) v3))
set_option maxRecDepth 100000 in
set_option maxHeartbeats 4000000 in
theorem lL_law_292 {p : Program} {l : Launch} {e : Env} {s : State} {m : MethodId} {below : List Frame} {meth : Method} {c : Code} {D : va_G} {AC : Nat → ClassId} {sa : gh_SA} {b L : Nat} {xs : Nat → Int32} {A : Nat → Prop} (hl0 : l.stackTraces = false) (CX : cxL p s m meth c D AC sa b L xs A) (post : Int32 → gh_H → Prop) (px : String → gh_H → Prop) (J23 : gh_H → Nat → Nat → Nat → Int32 → Nat → Nat → Prop) (hJ23 : ∀ (G : gh_H) (v1 : Nat) (v2 : Nat) (v3 : Nat) (v4 : Int32) (kc : Nat) (ks : Nat) (H : Heap) (locs : List Loc), J23 G v1 v2 v3 v4 kc ks → gh_h D vwCl AC A G H → va_S A s.heap H locs → ∀ ls : Array Slot, lv_has ls 8 [(0, .ref b), (1, .ref v1), (2, .ref v2), (3, .ref v3), (4, .int v4)] → W p l e room_1 s m #[Value.ref b] below meth c H locs kc ks (lw_Z below #[Value.ref b] s) (F0 m 23 ls [])) : ∀ (G : gh_H) (v1 : Nat) (v2 : Nat) (v3 : Nat) (v4 : Int32) (kc : Nat) (ks : Nat) (H : Heap) (locs : List Loc), wL_law_292 post px L xs J23 G v1 v2 v3 v4 kc ks → gh_h D vwCl AC A G H → va_S A s.heap H locs → ∀ ls : Array Slot, lv_has ls 8 [(0, .ref b), (1, .ref v1), (2, .ref v2), (3, .ref v3), (4, .int v4)] → W p l e room_1 s m #[Value.ref b] below meth c H locs kc ks (lw_Z below #[Value.ref b] s) (F0 m 292 ls []) := by
  obtain ⟨⟨hx, hb, hml, hown, hts⟩, hr, hlocks, hK, hE, hA, hX, hbl, hbA, hAl⟩ := id CX
  intro G v1 v2 v3 v4 kc ks H locs hw hP hS ls hl
  dsimp only [wL_law_292] at hw
  refine lv_aload_n hx hb dL_law_292 rfl (lv_at hl 1 rfl) ?_
  refine lv_aload_n hx hb dL_law_293 rfl (lv_at hl 0 rfl) ?_
  refine lv_iload hx hb dL_law_294 (lv_at hl 4 rfl) ?_
  refine lv_iconst (v := 1) hx hb dL_law_296 (by decide) ?_
  refine lv_iadd hx hb dL_law_297 ?_
  obtain ⟨hi1, hw⟩ := hw
  refine va_sld hx hb hX hbl hbA hS hi1 dL_law_298 ?_
  refine lv_aload_n hx hb dL_law_299 rfl (lv_at hl 3 rfl) ?_
  obtain ⟨hc2, hs3, hw⟩ := hw
  obtain ⟨G6, F7, ht8, hw⟩ := hw
  refine gh_fxi ht8 hP hS hA (vx_runSX (As := [.ref v1, .int (xs (Int32.toNatClampNeg (v4 + 1))), .ref v3]) (rest := []) ⟨hx, hb, hml, hown, hts⟩ (mL_close l hl0 D AC sa _ _ _ _ _ _ _ hw) (vx_cwSW 3 hts (gS kw_105 kw_106 kw_0 kw_107) rfl rfl rfl (by decide +kernel) ⟨Nat.le_of_ble_eq_true rfl, Nat.le_of_ble_eq_true rfl⟩) (gh_pre gh_En_ok hK hE (hP.sub (gh_twoL ht8)) hS hA _) rfl rfl hl.1 rfl (lv_room (Nat.le_of_ble_eq_true rfl)) dL_law_300 ⟨hc2, hs3⟩) (fun r4 G5 H locs hw2 hP hd10 hS => ?_)
  replace hw := hw2
  clear hw2
  obtain ⟨G9, eG9⟩ : ∃ z : gh_H, z = gh_j G5 F7 := ⟨_, rfl⟩
  rw [← eG9] at hP
  replace hw := hw hd10 G9 eG9
  refine lv_istore (lv' := [(5, .int r4), (0, .ref b), (1, .ref v1), (2, .ref v2), (3, .ref v3), (4, .int v4)]) hx hb dL_law_303 hl (by decide) rfl (fun ls hl => ?_)
  refine lv_aload_n hx hb dL_law_305 rfl (lv_at hl 3 rfl) ?_
  refine lv_aload_n hx hb dL_law_306 rfl (lv_at hl 1 rfl) ?_
  refine lv_iload hx hb dL_law_307 (lv_at hl 5 rfl) ?_
  refine lv_iconst (v := 1) hx hb dL_law_309 (by decide) ?_
  refine lv_iadd hx hb dL_law_310 ?_
  obtain ⟨hi11, hw⟩ := hw
  refine va_sld hx hb hX hbl hbA hS hi11 dL_law_311 ?_
  obtain ⟨hc12, hs13, hw⟩ := hw
  obtain ⟨G18, F19, ht20, hw⟩ := hw
  obtain ⟨fs16, he17, hw⟩ := hw
  refine gh_fxi ht20 hP hS hA (vx_runV (C := "OwnerLedgerModel") (As := [.int (xs (Int32.toNatClampNeg (v4 + 1)))]) (rest := []) ⟨hx, hb, hml, hown, hts⟩ (mX5_close l hl0 D AC sa _ _ _ _ _ _ hw) (cwV 1 hts (gV kw_421 kw_422 kw_423 kw_2 kw_424) rfl rfl rfl (by decide +kernel) ⟨Nat.le_of_ble_eq_true rfl, Nat.le_of_ble_eq_true rfl⟩) (gh_preV gh_En_ok hK hE (hP.sub (gh_twoL ht20)) hS hA he17 rfl _) rfl rfl hl.1 rfl (lv_room (Nat.le_of_ble_eq_true rfl)) dL_law_312 ⟨hc12, hs13⟩) (fun r14 G15 H locs hw2 hP hd22 hS => ?_)
  replace hw := hw2
  clear hw2
  obtain ⟨G21, eG21⟩ : ∃ z : gh_H, z = gh_j G15 F19 := ⟨_, rfl⟩
  rw [← eG21] at hP
  replace hw := hw hd22 G21 eG21
  refine lv_istore (lv' := [(6, .int r14), (5, .int r4), (0, .ref b), (1, .ref v1), (2, .ref v2), (3, .ref v3), (4, .int v4)]) hx hb dL_law_315 hl (by decide) rfl (fun ls hl => ?_)
  refine lv_aload_n hx hb dL_law_317 rfl (lv_at hl 4 rfl) ?_
  obtain ⟨hc23, hs24, hw⟩ := hw
  obtain ⟨G29, F30, ht31, hw⟩ := hw
  obtain ⟨fs27, he28, hw⟩ := hw
  refine gh_fxi ht31 hP hS hA (vx_runV (C := "OwnerLedgerModel") (As := []) (rest := []) ⟨hx, hb, hml, hown, hts⟩ (mX5_thrown l hl0 D AC sa _ _ _ _ _ hw) (cwV 0 hts (gV kw_398 kw_399 kw_400 kw_2 kw_401) rfl rfl rfl (by decide +kernel) ⟨Nat.le_of_ble_eq_true rfl, Nat.le_of_ble_eq_true rfl⟩) (gh_preV gh_En_ok hK hE (hP.sub (gh_twoL ht31)) hS hA he28 rfl _) rfl rfl hl.1 rfl (lv_room (Nat.le_of_ble_eq_true rfl)) dL_law_318 ⟨hc23, hs24⟩) (fun r25 G26 H locs hw2 hP hd33 hS => ?_)
  replace hw := hw2
  clear hw2
  obtain ⟨G32, eG32⟩ : ∃ z : gh_H, z = gh_j G26 F30 := ⟨_, rfl⟩
  rw [← eG32] at hP
  replace hw := hw hd33 G32 eG32
  refine lv_iload hx hb dL_law_321 (lv_at hl 1 rfl) ?_
  refine lv_icmp_eq (tgt := 328) hx hb dL_law_323 (by decide) (fun c34 => ?_) (fun c34 => ?_)
  · replace hw := hw.1 c34
    refine lv_iload hx hb dL_law_328 (lv_at hl 1 rfl) ?_
    refine lv_if_ne (tgt := 345) hx hb dL_law_330 (by decide) (fun c35 => ?_) (fun c35 => ?_)
    · replace hw := hw.1 c35
      refine lv_goto (tgt := 1678) hx hb dL_law_345 (by decide) ?_
      refine lv_iinc (v := (v4 + 5)) (lv' := [(4, .int (v4 + 5)), (6, .int r14), (5, .int r4), (0, .ref b), (1, .ref v1), (2, .ref v2), (3, .ref v3)]) hx hb dL_law_1678 hl (k := 6) rfl rfl (by decide) rfl (fun ls hl => ?_)
      refine lv_goto (tgt := 23) hx hb dL_law_1681 (by decide) ?_
      have hl := lv_sub (l' := [(0, .ref b), (1, .ref v1), (2, .ref v2), (3, .ref v3), (4, .int (v4 + 5))]) hl [3, 4, 5, 6, 0] rfl
      exact hJ23 _ v1 v2 v3 (v4 + 5) (((kc + 2) + 0) + 0) (((ks + 12) + 0) + 0) _ _ hw hP hS ls hl
    · replace hw := hw.2 c35
      refine lv_aload_n hx hb dL_law_333 rfl (lv_at hl 5 rfl) ?_
      refine lv_iconst (v := 0) hx hb dL_law_334 (by decide) ?_
      obtain ⟨n36, f37, he38, hi39, hw⟩ := hw
      refine gh_lald hx hb hK hP he38 rfl hi39 dL_law_335 ?_
      refine lv_iload hx hb dL_law_336 (lv_at hl 0 rfl) ?_
      refine lv_i2l hx hb dL_law_338 rfl ?_
      refine W.lcmp hx hb dL_law_339 ?_
      refine lv_if_eq (tgt := 345) hx hb dL_law_340 (by decide) (fun c40 => ?_) (fun c40 => ?_)
      · replace hw := hw.1 c40
        refine lv_goto (tgt := 1678) hx hb dL_law_345 (by decide) ?_
        refine lv_iinc (v := (v4 + 5)) (lv' := [(4, .int (v4 + 5)), (6, .int r14), (5, .int r4), (0, .ref b), (1, .ref v1), (2, .ref v2), (3, .ref v3)]) hx hb dL_law_1678 hl (k := 6) rfl rfl (by decide) rfl (fun ls hl => ?_)
        refine lv_goto (tgt := 23) hx hb dL_law_1681 (by decide) ?_
        have hl := lv_sub (l' := [(0, .ref b), (1, .ref v1), (2, .ref v2), (3, .ref v3), (4, .int (v4 + 5))]) hl [3, 4, 5, 6, 0] rfl
        exact hJ23 _ v1 v2 v3 (v4 + 5) (((kc + 2) + 0) + 0) (((ks + 12) + 0) + 0) _ _ hw hP hS ls hl
      · replace hw := hw.2 c40
        refine lv_iconst (v := 0) hx hb dL_law_343 (by decide) ?_
        obtain ⟨hc41, hs42, hw⟩ := hw
        exact gh_lawret hx hb hr hlocks hw hS hAl hc41 hs42 dL_law_344
  · replace hw := hw.2 c34
    refine lv_iconst (v := 0) hx hb dL_law_326 (by decide) ?_
    obtain ⟨hc43, hs44, hw⟩ := hw
    exact gh_lawret hx hb hr hlocks hw hS hAl hc43 hs44 dL_law_327
def wL_law_348 (post : Int32 → gh_H → Prop) (px : String → gh_H → Prop) (L : Nat) (xs : Nat → Int32) (J23 : gh_H → Nat → Nat → Nat → Int32 → Nat → Nat → Prop) (G : gh_H) (v1 : Nat) (v2 : Nat) (v3 : Nat) (v4 : Int32) (kc : Nat) (ks : Nat) : Prop := vp_in (v4 + 1) L ∧ (kc + 4 ≤ 601024 ∧ ks + 26 ≤ 7293034 ∧ (∃ G6 F7 : gh_H, gh_two G G6 F7 ∧ wL_batch (fun r4 G5 => (∀ a9, G5 a9 ≠ none → F7 a9 = none) → ∀ G9 : gh_H, G9 = gh_j G5 F7 → vp_in (v4 + 1) L ∧ ((kc + 4) + 0 ≤ 601024 ∧ (ks + 26) + 0 ≤ 7293034 ∧ (∃ G18 F19 : gh_H, gh_two G9 G18 F19 ∧ ∃ fs16 : List Value, G18 v2 = some (.inr (5, fs16)) ∧ wX5_batch (fun r14 G15 => (∀ a9, G15 a9 ≠ none → F19 a9 = none) → ∀ G21 : gh_H, G21 = gh_j G15 F19 → ((kc + 4) + 0) + 0 ≤ 601024 ∧ ((ks + 26) + 0) + 0 ≤ 7293034 ∧ (∃ G29 F30 : gh_H, gh_two G21 G29 F30 ∧ ∃ fs27 : List Value, G29 v2 = some (.inr (5, fs27)) ∧ wX5_thrown (fun r25 G26 => (∀ a9, G26 a9 ≠ none → F30 a9 = none) → ∀ G32 : gh_H, G32 = gh_j G26 F30 → (r25 = r4 → ((¬ r4 = 0 → (J23 G32 v1 v2 v3 (v4 + 5) (((kc + 4) + 0) + 0) (((ks + 26) + 0) + 0))) ∧ (r4 = 0 → (∃ (n36 : Nat) (f37 : Nat → Int64), G32 v3 = some (.inl (1, n36, .inr (.inl f37))) ∧ vp_in 0 n36 ∧ (((lg_cmp (f37 (Int32.toNatClampNeg 0)) (Int32.toInt64 r14)) = 0 → (J23 G32 v1 v2 v3 (v4 + 5) (((kc + 4) + 0) + 0) (((ks + 26) + 0) + 0))) ∧ (¬ (lg_cmp (f37 (Int32.toNatClampNeg 0)) (Int32.toInt64 r14)) = 0 → ((((kc + 4) + 0) + 0) ≤ 601024 ∧ (((ks + 26) + 0) + 0) ≤ 7293034 ∧ (0 = (1 : Int32))))))))) ∧ (¬ r25 = r4 → ((((kc + 4) + 0) + 0) ≤ 601024 ∧ (((ks + 26) + 0) + 0) ≤ 7293034 ∧ (0 = (1 : Int32))))) (fun _ _ => False) G29 v2)) (fun _ _ => False) G18 v2 (xs (Int32.toNatClampNeg (v4 + 1)))))) (fun _ _ => False) G6 v1 (xs (Int32.toNatClampNeg (v4 + 1))) v3))
set_option maxRecDepth 100000 in
set_option maxHeartbeats 4000000 in
theorem lL_law_348 {p : Program} {l : Launch} {e : Env} {s : State} {m : MethodId} {below : List Frame} {meth : Method} {c : Code} {D : va_G} {AC : Nat → ClassId} {sa : gh_SA} {b L : Nat} {xs : Nat → Int32} {A : Nat → Prop} (hl0 : l.stackTraces = false) (CX : cxL p s m meth c D AC sa b L xs A) (post : Int32 → gh_H → Prop) (px : String → gh_H → Prop) (J23 : gh_H → Nat → Nat → Nat → Int32 → Nat → Nat → Prop) (hJ23 : ∀ (G : gh_H) (v1 : Nat) (v2 : Nat) (v3 : Nat) (v4 : Int32) (kc : Nat) (ks : Nat) (H : Heap) (locs : List Loc), J23 G v1 v2 v3 v4 kc ks → gh_h D vwCl AC A G H → va_S A s.heap H locs → ∀ ls : Array Slot, lv_has ls 8 [(0, .ref b), (1, .ref v1), (2, .ref v2), (3, .ref v3), (4, .int v4)] → W p l e room_1 s m #[Value.ref b] below meth c H locs kc ks (lw_Z below #[Value.ref b] s) (F0 m 23 ls [])) : ∀ (G : gh_H) (v1 : Nat) (v2 : Nat) (v3 : Nat) (v4 : Int32) (kc : Nat) (ks : Nat) (H : Heap) (locs : List Loc), wL_law_348 post px L xs J23 G v1 v2 v3 v4 kc ks → gh_h D vwCl AC A G H → va_S A s.heap H locs → ∀ ls : Array Slot, lv_has ls 8 [(0, .ref b), (1, .ref v1), (2, .ref v2), (3, .ref v3), (4, .int v4)] → W p l e room_1 s m #[Value.ref b] below meth c H locs kc ks (lw_Z below #[Value.ref b] s) (F0 m 348 ls []) := by
  obtain ⟨⟨hx, hb, hml, hown, hts⟩, hr, hlocks, hK, hE, hA, hX, hbl, hbA, hAl⟩ := id CX
  intro G v1 v2 v3 v4 kc ks H locs hw hP hS ls hl
  dsimp only [wL_law_348] at hw
  refine lv_aload_n hx hb dL_law_348 rfl (lv_at hl 1 rfl) ?_
  refine lv_aload_n hx hb dL_law_349 rfl (lv_at hl 0 rfl) ?_
  refine lv_iload hx hb dL_law_350 (lv_at hl 4 rfl) ?_
  refine lv_iconst (v := 1) hx hb dL_law_352 (by decide) ?_
  refine lv_iadd hx hb dL_law_353 ?_
  obtain ⟨hi1, hw⟩ := hw
  refine va_sld hx hb hX hbl hbA hS hi1 dL_law_354 ?_
  refine lv_aload_n hx hb dL_law_355 rfl (lv_at hl 3 rfl) ?_
  obtain ⟨hc2, hs3, hw⟩ := hw
  obtain ⟨G6, F7, ht8, hw⟩ := hw
  refine gh_fxi ht8 hP hS hA (vx_runSX (As := [.ref v1, .int (xs (Int32.toNatClampNeg (v4 + 1))), .ref v3]) (rest := []) ⟨hx, hb, hml, hown, hts⟩ (mL_batch l hl0 D AC sa _ _ _ _ _ _ _ hw) (vx_cwSW 3 hts (gS kw_118 kw_119 kw_0 kw_120) rfl rfl rfl (by decide +kernel) ⟨Nat.le_of_ble_eq_true rfl, Nat.le_of_ble_eq_true rfl⟩) (gh_pre gh_En_ok hK hE (hP.sub (gh_twoL ht8)) hS hA _) rfl rfl hl.1 rfl (lv_room (Nat.le_of_ble_eq_true rfl)) dL_law_356 ⟨hc2, hs3⟩) (fun r4 G5 H locs hw2 hP hd10 hS => ?_)
  replace hw := hw2
  clear hw2
  obtain ⟨G9, eG9⟩ : ∃ z : gh_H, z = gh_j G5 F7 := ⟨_, rfl⟩
  rw [← eG9] at hP
  replace hw := hw hd10 G9 eG9
  refine lv_istore (lv' := [(5, .int r4), (0, .ref b), (1, .ref v1), (2, .ref v2), (3, .ref v3), (4, .int v4)]) hx hb dL_law_359 hl (by decide) rfl (fun ls hl => ?_)
  refine lv_aload_n hx hb dL_law_361 rfl (lv_at hl 3 rfl) ?_
  refine lv_aload_n hx hb dL_law_362 rfl (lv_at hl 1 rfl) ?_
  refine lv_iload hx hb dL_law_363 (lv_at hl 5 rfl) ?_
  refine lv_iconst (v := 1) hx hb dL_law_365 (by decide) ?_
  refine lv_iadd hx hb dL_law_366 ?_
  obtain ⟨hi11, hw⟩ := hw
  refine va_sld hx hb hX hbl hbA hS hi11 dL_law_367 ?_
  obtain ⟨hc12, hs13, hw⟩ := hw
  obtain ⟨G18, F19, ht20, hw⟩ := hw
  obtain ⟨fs16, he17, hw⟩ := hw
  refine gh_fxi ht20 hP hS hA (vx_runV (C := "OwnerLedgerModel") (As := [.int (xs (Int32.toNatClampNeg (v4 + 1)))]) (rest := []) ⟨hx, hb, hml, hown, hts⟩ (mX5_batch l hl0 D AC sa _ _ _ _ _ _ hw) (cwV 1 hts (gV kw_425 kw_426 kw_427 kw_2 kw_428) rfl rfl rfl (by decide +kernel) ⟨Nat.le_of_ble_eq_true rfl, Nat.le_of_ble_eq_true rfl⟩) (gh_preV gh_En_ok hK hE (hP.sub (gh_twoL ht20)) hS hA he17 rfl _) rfl rfl hl.1 rfl (lv_room (Nat.le_of_ble_eq_true rfl)) dL_law_368 ⟨hc12, hs13⟩) (fun r14 G15 H locs hw2 hP hd22 hS => ?_)
  replace hw := hw2
  clear hw2
  obtain ⟨G21, eG21⟩ : ∃ z : gh_H, z = gh_j G15 F19 := ⟨_, rfl⟩
  rw [← eG21] at hP
  replace hw := hw hd22 G21 eG21
  refine lv_istore (lv' := [(6, .int r14), (5, .int r4), (0, .ref b), (1, .ref v1), (2, .ref v2), (3, .ref v3), (4, .int v4)]) hx hb dL_law_371 hl (by decide) rfl (fun ls hl => ?_)
  refine lv_aload_n hx hb dL_law_373 rfl (lv_at hl 4 rfl) ?_
  obtain ⟨hc23, hs24, hw⟩ := hw
  obtain ⟨G29, F30, ht31, hw⟩ := hw
  obtain ⟨fs27, he28, hw⟩ := hw
  refine gh_fxi ht31 hP hS hA (vx_runV (C := "OwnerLedgerModel") (As := []) (rest := []) ⟨hx, hb, hml, hown, hts⟩ (mX5_thrown l hl0 D AC sa _ _ _ _ _ hw) (cwV 0 hts (gV kw_398 kw_399 kw_400 kw_2 kw_401) rfl rfl rfl (by decide +kernel) ⟨Nat.le_of_ble_eq_true rfl, Nat.le_of_ble_eq_true rfl⟩) (gh_preV gh_En_ok hK hE (hP.sub (gh_twoL ht31)) hS hA he28 rfl _) rfl rfl hl.1 rfl (lv_room (Nat.le_of_ble_eq_true rfl)) dL_law_374 ⟨hc23, hs24⟩) (fun r25 G26 H locs hw2 hP hd33 hS => ?_)
  replace hw := hw2
  clear hw2
  obtain ⟨G32, eG32⟩ : ∃ z : gh_H, z = gh_j G26 F30 := ⟨_, rfl⟩
  rw [← eG32] at hP
  replace hw := hw hd33 G32 eG32
  refine lv_iload hx hb dL_law_377 (lv_at hl 1 rfl) ?_
  refine lv_icmp_eq (tgt := 384) hx hb dL_law_379 (by decide) (fun c34 => ?_) (fun c34 => ?_)
  · replace hw := hw.1 c34
    refine lv_iload hx hb dL_law_384 (lv_at hl 1 rfl) ?_
    refine lv_if_ne (tgt := 401) hx hb dL_law_386 (by decide) (fun c35 => ?_) (fun c35 => ?_)
    · replace hw := hw.1 c35
      refine lv_goto (tgt := 1678) hx hb dL_law_401 (by decide) ?_
      refine lv_iinc (v := (v4 + 5)) (lv' := [(4, .int (v4 + 5)), (6, .int r14), (5, .int r4), (0, .ref b), (1, .ref v1), (2, .ref v2), (3, .ref v3)]) hx hb dL_law_1678 hl (k := 6) rfl rfl (by decide) rfl (fun ls hl => ?_)
      refine lv_goto (tgt := 23) hx hb dL_law_1681 (by decide) ?_
      have hl := lv_sub (l' := [(0, .ref b), (1, .ref v1), (2, .ref v2), (3, .ref v3), (4, .int (v4 + 5))]) hl [3, 4, 5, 6, 0] rfl
      exact hJ23 _ v1 v2 v3 (v4 + 5) (((kc + 4) + 0) + 0) (((ks + 26) + 0) + 0) _ _ hw hP hS ls hl
    · replace hw := hw.2 c35
      refine lv_aload_n hx hb dL_law_389 rfl (lv_at hl 5 rfl) ?_
      refine lv_iconst (v := 0) hx hb dL_law_390 (by decide) ?_
      obtain ⟨n36, f37, he38, hi39, hw⟩ := hw
      refine gh_lald hx hb hK hP he38 rfl hi39 dL_law_391 ?_
      refine lv_iload hx hb dL_law_392 (lv_at hl 0 rfl) ?_
      refine lv_i2l hx hb dL_law_394 rfl ?_
      refine W.lcmp hx hb dL_law_395 ?_
      refine lv_if_eq (tgt := 401) hx hb dL_law_396 (by decide) (fun c40 => ?_) (fun c40 => ?_)
      · replace hw := hw.1 c40
        refine lv_goto (tgt := 1678) hx hb dL_law_401 (by decide) ?_
        refine lv_iinc (v := (v4 + 5)) (lv' := [(4, .int (v4 + 5)), (6, .int r14), (5, .int r4), (0, .ref b), (1, .ref v1), (2, .ref v2), (3, .ref v3)]) hx hb dL_law_1678 hl (k := 6) rfl rfl (by decide) rfl (fun ls hl => ?_)
        refine lv_goto (tgt := 23) hx hb dL_law_1681 (by decide) ?_
        have hl := lv_sub (l' := [(0, .ref b), (1, .ref v1), (2, .ref v2), (3, .ref v3), (4, .int (v4 + 5))]) hl [3, 4, 5, 6, 0] rfl
        exact hJ23 _ v1 v2 v3 (v4 + 5) (((kc + 4) + 0) + 0) (((ks + 26) + 0) + 0) _ _ hw hP hS ls hl
      · replace hw := hw.2 c40
        refine lv_iconst (v := 0) hx hb dL_law_399 (by decide) ?_
        obtain ⟨hc41, hs42, hw⟩ := hw
        exact gh_lawret hx hb hr hlocks hw hS hAl hc41 hs42 dL_law_400
  · replace hw := hw.2 c34
    refine lv_iconst (v := 0) hx hb dL_law_382 (by decide) ?_
    obtain ⟨hc43, hs44, hw⟩ := hw
    exact gh_lawret hx hb hr hlocks hw hS hAl hc43 hs44 dL_law_383
def wL_law_404 (post : Int32 → gh_H → Prop) (px : String → gh_H → Prop) (L : Nat) (xs : Nat → Int32) (J23 : gh_H → Nat → Nat → Nat → Int32 → Nat → Nat → Prop) (G : gh_H) (v1 : Nat) (v2 : Nat) (v3 : Nat) (v4 : Int32) (kc : Nat) (ks : Nat) : Prop := vp_in (v4 + 1) L ∧ (vp_in (v4 + 2) L ∧ (vp_in (v4 + 3) L ∧ (vp_in (v4 + 4) L ∧ (kc + 6 ≤ 601024 ∧ ks + 34 ≤ 7293034 ∧ (∃ G9 F10 : gh_H, gh_two G G9 F10 ∧ wL_row (fun r7 G8 => (∀ a9, G8 a9 ≠ none → F10 a9 = none) → ∀ G12 : gh_H, G12 = gh_j G8 F10 → vp_in (v4 + 1) L ∧ (vp_in (v4 + 2) L ∧ (vp_in (v4 + 3) L ∧ (vp_in (v4 + 4) L ∧ ((kc + 6) + 0 ≤ 601024 ∧ (ks + 34) + 0 ≤ 7293034 ∧ (∃ G24 F25 : gh_H, gh_two G12 G24 F25 ∧ ∃ fs22 : List Value, G24 v2 = some (.inr (5, fs22)) ∧ wX5_row (fun r20 G21 => (∀ a9, G21 a9 ≠ none → F25 a9 = none) → ∀ G27 : gh_H, G27 = gh_j G21 F25 → ((kc + 6) + 0) + 0 ≤ 601024 ∧ ((ks + 34) + 0) + 0 ≤ 7293034 ∧ (∃ G35 F36 : gh_H, gh_two G27 G35 F36 ∧ ∃ fs33 : List Value, G35 v2 = some (.inr (5, fs33)) ∧ wX5_thrown (fun r31 G32 => (∀ a9, G32 a9 ≠ none → F36 a9 = none) → ∀ G38 : gh_H, G38 = gh_j G32 F36 → (r31 = r7 → ((¬ r7 = 0 → (J23 G38 v1 v2 v3 (v4 + 5) (((kc + 6) + 0) + 0) (((ks + 34) + 0) + 0))) ∧ (r7 = 0 → (∃ (n42 : Nat) (f43 : Nat → Int64), G38 v3 = some (.inl (1, n42, .inr (.inl f43))) ∧ vp_in 0 n42 ∧ (((lg_cmp (f43 (Int32.toNatClampNeg 0)) (Int32.toInt64 r20)) = 0 → (J23 G38 v1 v2 v3 (v4 + 5) (((kc + 6) + 0) + 0) (((ks + 34) + 0) + 0))) ∧ (¬ (lg_cmp (f43 (Int32.toNatClampNeg 0)) (Int32.toInt64 r20)) = 0 → ((((kc + 6) + 0) + 0) ≤ 601024 ∧ (((ks + 34) + 0) + 0) ≤ 7293034 ∧ (0 = (1 : Int32))))))))) ∧ (¬ r31 = r7 → ((((kc + 6) + 0) + 0) ≤ 601024 ∧ (((ks + 34) + 0) + 0) ≤ 7293034 ∧ (0 = (1 : Int32))))) (fun _ _ => False) G35 v2)) (fun _ _ => False) G24 v2 (xs (Int32.toNatClampNeg (v4 + 1))) (xs (Int32.toNatClampNeg (v4 + 2))) (((Int32.toInt64 (xs (Int32.toNatClampNeg (v4 + 3)))) <<< (Int32.toInt64 32 &&& 63)) ||| ((Int32.toInt64 (xs (Int32.toNatClampNeg (v4 + 4)))) &&& 4294967295)))))))) (fun _ _ => False) G9 v1 (xs (Int32.toNatClampNeg (v4 + 1))) (xs (Int32.toNatClampNeg (v4 + 2))) (((Int32.toInt64 (xs (Int32.toNatClampNeg (v4 + 3)))) <<< (Int32.toInt64 32 &&& 63)) ||| ((Int32.toInt64 (xs (Int32.toNatClampNeg (v4 + 4)))) &&& 4294967295)) v3)))))
set_option maxRecDepth 100000 in
set_option maxHeartbeats 4000000 in
theorem lL_law_404 {p : Program} {l : Launch} {e : Env} {s : State} {m : MethodId} {below : List Frame} {meth : Method} {c : Code} {D : va_G} {AC : Nat → ClassId} {sa : gh_SA} {b L : Nat} {xs : Nat → Int32} {A : Nat → Prop} (hl0 : l.stackTraces = false) (CX : cxL p s m meth c D AC sa b L xs A) (post : Int32 → gh_H → Prop) (px : String → gh_H → Prop) (J23 : gh_H → Nat → Nat → Nat → Int32 → Nat → Nat → Prop) (hJ23 : ∀ (G : gh_H) (v1 : Nat) (v2 : Nat) (v3 : Nat) (v4 : Int32) (kc : Nat) (ks : Nat) (H : Heap) (locs : List Loc), J23 G v1 v2 v3 v4 kc ks → gh_h D vwCl AC A G H → va_S A s.heap H locs → ∀ ls : Array Slot, lv_has ls 8 [(0, .ref b), (1, .ref v1), (2, .ref v2), (3, .ref v3), (4, .int v4)] → W p l e room_1 s m #[Value.ref b] below meth c H locs kc ks (lw_Z below #[Value.ref b] s) (F0 m 23 ls [])) : ∀ (G : gh_H) (v1 : Nat) (v2 : Nat) (v3 : Nat) (v4 : Int32) (kc : Nat) (ks : Nat) (H : Heap) (locs : List Loc), wL_law_404 post px L xs J23 G v1 v2 v3 v4 kc ks → gh_h D vwCl AC A G H → va_S A s.heap H locs → ∀ ls : Array Slot, lv_has ls 8 [(0, .ref b), (1, .ref v1), (2, .ref v2), (3, .ref v3), (4, .int v4)] → W p l e room_1 s m #[Value.ref b] below meth c H locs kc ks (lw_Z below #[Value.ref b] s) (F0 m 404 ls []) := by
  obtain ⟨⟨hx, hb, hml, hown, hts⟩, hr, hlocks, hK, hE, hA, hX, hbl, hbA, hAl⟩ := id CX
  intro G v1 v2 v3 v4 kc ks H locs hw hP hS ls hl
  dsimp only [wL_law_404] at hw
  refine lv_aload_n hx hb dL_law_404 rfl (lv_at hl 1 rfl) ?_
  refine lv_aload_n hx hb dL_law_405 rfl (lv_at hl 0 rfl) ?_
  refine lv_iload hx hb dL_law_406 (lv_at hl 4 rfl) ?_
  refine lv_iconst (v := 1) hx hb dL_law_408 (by decide) ?_
  refine lv_iadd hx hb dL_law_409 ?_
  obtain ⟨hi1, hw⟩ := hw
  refine va_sld hx hb hX hbl hbA hS hi1 dL_law_410 ?_
  refine lv_aload_n hx hb dL_law_411 rfl (lv_at hl 0 rfl) ?_
  refine lv_iload hx hb dL_law_412 (lv_at hl 4 rfl) ?_
  refine lv_iconst (v := 2) hx hb dL_law_414 (by decide) ?_
  refine lv_iadd hx hb dL_law_415 ?_
  obtain ⟨hi2, hw⟩ := hw
  refine va_sld hx hb hX hbl hbA hS hi2 dL_law_416 ?_
  refine lv_aload_n hx hb dL_law_417 rfl (lv_at hl 0 rfl) ?_
  refine lv_iload hx hb dL_law_418 (lv_at hl 4 rfl) ?_
  refine lv_iconst (v := 3) hx hb dL_law_420 (by decide) ?_
  refine lv_iadd hx hb dL_law_421 ?_
  obtain ⟨hi3, hw⟩ := hw
  refine va_sld hx hb hX hbl hbA hS hi3 dL_law_422 ?_
  refine lv_i2l hx hb dL_law_423 rfl ?_
  refine lv_bipush (v := 32) hx hb dL_law_424 (by decide) ?_
  refine lv_lshl hx hb dL_law_426 rfl ?_
  refine lv_aload_n hx hb dL_law_427 rfl (lv_at hl 0 rfl) ?_
  refine lv_iload hx hb dL_law_428 (lv_at hl 4 rfl) ?_
  refine lv_iconst (v := 4) hx hb dL_law_430 (by decide) ?_
  refine lv_iadd hx hb dL_law_431 ?_
  obtain ⟨hi4, hw⟩ := hw
  refine va_sld hx hb hX hbl hbA hS hi4 dL_law_432 ?_
  refine lv_i2l hx hb dL_law_433 rfl ?_
  refine lv_ldc2 (v := 4294967295) hx hb hown (hts _ (gT_up kw_529)) dL_law_434 ?_
  refine lv_land hx hb dL_law_437 ?_
  refine lv_lor hx hb dL_law_438 ?_
  refine lv_aload_n hx hb dL_law_439 rfl (lv_at hl 3 rfl) ?_
  obtain ⟨hc5, hs6, hw⟩ := hw
  obtain ⟨G9, F10, ht11, hw⟩ := hw
  refine gh_fxi ht11 hP hS hA (vx_runSX (As := [.ref v1, .int (xs (Int32.toNatClampNeg (v4 + 1))), .int (xs (Int32.toNatClampNeg (v4 + 2))), .long (((Int32.toInt64 (xs (Int32.toNatClampNeg (v4 + 3)))) <<< (Int32.toInt64 32 &&& 63)) ||| ((Int32.toInt64 (xs (Int32.toNatClampNeg (v4 + 4)))) &&& 4294967295)), .ref v3]) (rest := []) ⟨hx, hb, hml, hown, hts⟩ (mL_row l hl0 D AC sa _ _ _ _ _ _ _ _ _ hw) (vx_cwSW 5 hts (gS kw_144 kw_145 kw_0 kw_146) rfl rfl rfl (by decide +kernel) ⟨Nat.le_of_ble_eq_true rfl, Nat.le_of_ble_eq_true rfl⟩) (gh_pre gh_En_ok hK hE (hP.sub (gh_twoL ht11)) hS hA _) rfl rfl hl.1 rfl (lv_room (Nat.le_of_ble_eq_true rfl)) dL_law_440 ⟨hc5, hs6⟩) (fun r7 G8 H locs hw2 hP hd13 hS => ?_)
  replace hw := hw2
  clear hw2
  obtain ⟨G12, eG12⟩ : ∃ z : gh_H, z = gh_j G8 F10 := ⟨_, rfl⟩
  rw [← eG12] at hP
  replace hw := hw hd13 G12 eG12
  refine lv_istore (lv' := [(5, .int r7), (0, .ref b), (1, .ref v1), (2, .ref v2), (3, .ref v3), (4, .int v4)]) hx hb dL_law_443 hl (by decide) rfl (fun ls hl => ?_)
  refine lv_aload_n hx hb dL_law_445 rfl (lv_at hl 3 rfl) ?_
  refine lv_aload_n hx hb dL_law_446 rfl (lv_at hl 1 rfl) ?_
  refine lv_iload hx hb dL_law_447 (lv_at hl 5 rfl) ?_
  refine lv_iconst (v := 1) hx hb dL_law_449 (by decide) ?_
  refine lv_iadd hx hb dL_law_450 ?_
  obtain ⟨hi14, hw⟩ := hw
  refine va_sld hx hb hX hbl hbA hS hi14 dL_law_451 ?_
  refine lv_aload_n hx hb dL_law_452 rfl (lv_at hl 1 rfl) ?_
  refine lv_iload hx hb dL_law_453 (lv_at hl 5 rfl) ?_
  refine lv_iconst (v := 2) hx hb dL_law_455 (by decide) ?_
  refine lv_iadd hx hb dL_law_456 ?_
  obtain ⟨hi15, hw⟩ := hw
  refine va_sld hx hb hX hbl hbA hS hi15 dL_law_457 ?_
  refine lv_aload_n hx hb dL_law_458 rfl (lv_at hl 1 rfl) ?_
  refine lv_iload hx hb dL_law_459 (lv_at hl 5 rfl) ?_
  refine lv_iconst (v := 3) hx hb dL_law_461 (by decide) ?_
  refine lv_iadd hx hb dL_law_462 ?_
  obtain ⟨hi16, hw⟩ := hw
  refine va_sld hx hb hX hbl hbA hS hi16 dL_law_463 ?_
  refine lv_i2l hx hb dL_law_464 rfl ?_
  refine lv_bipush (v := 32) hx hb dL_law_465 (by decide) ?_
  refine lv_lshl hx hb dL_law_467 rfl ?_
  refine lv_aload_n hx hb dL_law_468 rfl (lv_at hl 1 rfl) ?_
  refine lv_iload hx hb dL_law_469 (lv_at hl 5 rfl) ?_
  refine lv_iconst (v := 4) hx hb dL_law_471 (by decide) ?_
  refine lv_iadd hx hb dL_law_472 ?_
  obtain ⟨hi17, hw⟩ := hw
  refine va_sld hx hb hX hbl hbA hS hi17 dL_law_473 ?_
  refine lv_i2l hx hb dL_law_474 rfl ?_
  refine lv_ldc2 (v := 4294967295) hx hb hown (hts _ (gT_up kw_529)) dL_law_475 ?_
  refine lv_land hx hb dL_law_478 ?_
  refine lv_lor hx hb dL_law_479 ?_
  obtain ⟨hc18, hs19, hw⟩ := hw
  obtain ⟨G24, F25, ht26, hw⟩ := hw
  obtain ⟨fs22, he23, hw⟩ := hw
  refine gh_fxi ht26 hP hS hA (vx_runV (C := "OwnerLedgerModel") (As := [.int (xs (Int32.toNatClampNeg (v4 + 1))), .int (xs (Int32.toNatClampNeg (v4 + 2))), .long (((Int32.toInt64 (xs (Int32.toNatClampNeg (v4 + 3)))) <<< (Int32.toInt64 32 &&& 63)) ||| ((Int32.toInt64 (xs (Int32.toNatClampNeg (v4 + 4)))) &&& 4294967295))]) (rest := []) ⟨hx, hb, hml, hown, hts⟩ (mX5_row l hl0 D AC sa _ _ _ _ _ _ _ _ hw) (cwV 3 hts (gV kw_432 kw_433 kw_434 kw_2 kw_435) rfl rfl rfl (by decide +kernel) ⟨Nat.le_of_ble_eq_true rfl, Nat.le_of_ble_eq_true rfl⟩) (gh_preV gh_En_ok hK hE (hP.sub (gh_twoL ht26)) hS hA he23 rfl _) rfl rfl hl.1 rfl (lv_room (Nat.le_of_ble_eq_true rfl)) dL_law_480 ⟨hc18, hs19⟩) (fun r20 G21 H locs hw2 hP hd28 hS => ?_)
  replace hw := hw2
  clear hw2
  obtain ⟨G27, eG27⟩ : ∃ z : gh_H, z = gh_j G21 F25 := ⟨_, rfl⟩
  rw [← eG27] at hP
  replace hw := hw hd28 G27 eG27
  refine lv_istore (lv' := [(6, .int r20), (5, .int r7), (0, .ref b), (1, .ref v1), (2, .ref v2), (3, .ref v3), (4, .int v4)]) hx hb dL_law_483 hl (by decide) rfl (fun ls hl => ?_)
  refine lv_aload_n hx hb dL_law_485 rfl (lv_at hl 4 rfl) ?_
  obtain ⟨hc29, hs30, hw⟩ := hw
  obtain ⟨G35, F36, ht37, hw⟩ := hw
  obtain ⟨fs33, he34, hw⟩ := hw
  refine gh_fxi ht37 hP hS hA (vx_runV (C := "OwnerLedgerModel") (As := []) (rest := []) ⟨hx, hb, hml, hown, hts⟩ (mX5_thrown l hl0 D AC sa _ _ _ _ _ hw) (cwV 0 hts (gV kw_398 kw_399 kw_400 kw_2 kw_401) rfl rfl rfl (by decide +kernel) ⟨Nat.le_of_ble_eq_true rfl, Nat.le_of_ble_eq_true rfl⟩) (gh_preV gh_En_ok hK hE (hP.sub (gh_twoL ht37)) hS hA he34 rfl _) rfl rfl hl.1 rfl (lv_room (Nat.le_of_ble_eq_true rfl)) dL_law_486 ⟨hc29, hs30⟩) (fun r31 G32 H locs hw2 hP hd39 hS => ?_)
  replace hw := hw2
  clear hw2
  obtain ⟨G38, eG38⟩ : ∃ z : gh_H, z = gh_j G32 F36 := ⟨_, rfl⟩
  rw [← eG38] at hP
  replace hw := hw hd39 G38 eG38
  refine lv_iload hx hb dL_law_489 (lv_at hl 1 rfl) ?_
  refine lv_icmp_eq (tgt := 496) hx hb dL_law_491 (by decide) (fun c40 => ?_) (fun c40 => ?_)
  · replace hw := hw.1 c40
    refine lv_iload hx hb dL_law_496 (lv_at hl 1 rfl) ?_
    refine lv_if_ne (tgt := 513) hx hb dL_law_498 (by decide) (fun c41 => ?_) (fun c41 => ?_)
    · replace hw := hw.1 c41
      refine lv_goto (tgt := 1678) hx hb dL_law_513 (by decide) ?_
      refine lv_iinc (v := (v4 + 5)) (lv' := [(4, .int (v4 + 5)), (6, .int r20), (5, .int r7), (0, .ref b), (1, .ref v1), (2, .ref v2), (3, .ref v3)]) hx hb dL_law_1678 hl (k := 6) rfl rfl (by decide) rfl (fun ls hl => ?_)
      refine lv_goto (tgt := 23) hx hb dL_law_1681 (by decide) ?_
      have hl := lv_sub (l' := [(0, .ref b), (1, .ref v1), (2, .ref v2), (3, .ref v3), (4, .int (v4 + 5))]) hl [3, 4, 5, 6, 0] rfl
      exact hJ23 _ v1 v2 v3 (v4 + 5) (((kc + 6) + 0) + 0) (((ks + 34) + 0) + 0) _ _ hw hP hS ls hl
    · replace hw := hw.2 c41
      refine lv_aload_n hx hb dL_law_501 rfl (lv_at hl 5 rfl) ?_
      refine lv_iconst (v := 0) hx hb dL_law_502 (by decide) ?_
      obtain ⟨n42, f43, he44, hi45, hw⟩ := hw
      refine gh_lald hx hb hK hP he44 rfl hi45 dL_law_503 ?_
      refine lv_iload hx hb dL_law_504 (lv_at hl 0 rfl) ?_
      refine lv_i2l hx hb dL_law_506 rfl ?_
      refine W.lcmp hx hb dL_law_507 ?_
      refine lv_if_eq (tgt := 513) hx hb dL_law_508 (by decide) (fun c46 => ?_) (fun c46 => ?_)
      · replace hw := hw.1 c46
        refine lv_goto (tgt := 1678) hx hb dL_law_513 (by decide) ?_
        refine lv_iinc (v := (v4 + 5)) (lv' := [(4, .int (v4 + 5)), (6, .int r20), (5, .int r7), (0, .ref b), (1, .ref v1), (2, .ref v2), (3, .ref v3)]) hx hb dL_law_1678 hl (k := 6) rfl rfl (by decide) rfl (fun ls hl => ?_)
        refine lv_goto (tgt := 23) hx hb dL_law_1681 (by decide) ?_
        have hl := lv_sub (l' := [(0, .ref b), (1, .ref v1), (2, .ref v2), (3, .ref v3), (4, .int (v4 + 5))]) hl [3, 4, 5, 6, 0] rfl
        exact hJ23 _ v1 v2 v3 (v4 + 5) (((kc + 6) + 0) + 0) (((ks + 34) + 0) + 0) _ _ hw hP hS ls hl
      · replace hw := hw.2 c46
        refine lv_iconst (v := 0) hx hb dL_law_511 (by decide) ?_
        obtain ⟨hc47, hs48, hw⟩ := hw
        exact gh_lawret hx hb hr hlocks hw hS hAl hc47 hs48 dL_law_512
  · replace hw := hw.2 c40
    refine lv_iconst (v := 0) hx hb dL_law_494 (by decide) ?_
    obtain ⟨hc49, hs50, hw⟩ := hw
    exact gh_lawret hx hb hr hlocks hw hS hAl hc49 hs50 dL_law_495
