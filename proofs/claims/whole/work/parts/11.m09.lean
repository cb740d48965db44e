abbrev rmX5_told : Room := { frames := 1, cells := 0, slots := 0, locals := 25 }
abbrev cxX5_told (p : Program) (s : State) (m : MethodId) (args : Array Value) (meth : Method) (c : Code) (D : va_G) (AC : Nat → ClassId) (sa : gh_SA) (A : Nat → Prop) : Prop := CallFix p m c prog_7_method_31_code 4 s args wsX5_told "OwnerLedgerModel" ∧ meth.sig.returnType = (some .int) ∧ meth.locks = false ∧ c.exceptionTable.toList = [] ∧ va_K D vwCl (gh_ty AC) s ∧ gh_En sa A s s.heap ∧ (∀ q, s.heap.size ≤ q → A q)
def wX5_told_30 (post : Int32 → gh_H → Prop) (px : String → gh_H → Prop) (G : gh_H) (t : Nat) (p0 : Int32) (p1 : Int32) (s0 : Nat) (s1 : Int32) : Prop := ∃ fs1 : List Value, G s0 = some (.inr (5, fs1)) ∧ 0 < fs1.length ∧ (∀ G4 : gh_H, G4 = gh_up G s0 (.inr (5, fs1.set 0 (.int s1))) → ∃ (fs6 : List Value) (x9 : Int32), G4 t = some (.inr (5, fs6)) ∧ fs6[0]? = some (.int x9) ∧ ((x9 = 0 → ((¬ p1 = 0 → ((¬ p1 = 1 → ((¬ p1 = 2 → ((¬ p1 = 3 → (∃ (fs15 : List Value) (x18 : Nat), G4 t = some (.inr (5, fs15)) ∧ fs15[13]? = some (.ref x18) ∧ (∃ (n19 : Nat) (f20 : Nat → Int32), G4 x18 = some (.inl (0, n19, .inl f20)) ∧ vp_in (p0 - 1) n19 ∧ (post (f20 (Int32.toNatClampNeg (p0 - 1))) G4)))) ∧ (p1 = 3 → (∃ (fs23 : List Value) (x26 : Nat), G4 t = some (.inr (5, fs23)) ∧ fs23[12]? = some (.ref x26) ∧ (∃ (n27 : Nat) (f28 : Nat → Int32), G4 x26 = some (.inl (0, n27, .inl f28)) ∧ vp_in (p0 - 1) n27 ∧ (post (f28 (Int32.toNatClampNeg (p0 - 1))) G4)))))) ∧ (p1 = 2 → (∃ (fs31 : List Value) (x34 : Nat), G4 t = some (.inr (5, fs31)) ∧ fs31[11]? = some (.ref x34) ∧ (∃ (n35 : Nat) (f36 : Nat → Int32), G4 x34 = some (.inl (0, n35, .inl f36)) ∧ vp_in (p0 - 1) n35 ∧ (post (f36 (Int32.toNatClampNeg (p0 - 1))) G4)))))) ∧ (p1 = 1 → (∃ (fs39 : List Value) (x42 : Nat), G4 t = some (.inr (5, fs39)) ∧ fs39[10]? = some (.ref x42) ∧ (∃ (n43 : Nat) (f44 : Nat → Int32), G4 x42 = some (.inl (0, n43, .inl f44)) ∧ vp_in (p0 - 1) n43 ∧ (post (f44 (Int32.toNatClampNeg (p0 - 1))) G4)))))) ∧ (p1 = 0 → (∃ (fs47 : List Value) (x50 : Nat), G4 t = some (.inr (5, fs47)) ∧ fs47[9]? = some (.ref x50) ∧ (∃ (n51 : Nat) (f52 : Nat → Int32), G4 x50 = some (.inl (0, n51, .inl f52)) ∧ vp_in (p0 - 1) n51 ∧ (post (f52 (Int32.toNatClampNeg (p0 - 1))) G4)))))) ∧ (¬ x9 = 0 → (post 0 G4))))
set_option maxRecDepth 100000 in
set_option maxHeartbeats 4000000 in
theorem lX5_told_30 {p : Program} {l : Launch} {e : Env} {s : State} {m : MethodId} {args : Array Value} {below : List Frame} {meth : Method} {c : Code} {D : va_G} {AC : Nat → ClassId} {sa : gh_SA} {A : Nat → Prop} (hl0 : l.stackTraces = false) (CX : cxX5_told p s m args meth c D AC sa A) (post : Int32 → gh_H → Prop) (px : String → gh_H → Prop) : ∀ (G : gh_H) (t : Nat) (p0 : Int32) (p1 : Int32) (s0 : Nat) (s1 : Int32) (H : Heap) (locs : List Loc), wX5_told_30 post px G t p0 p1 s0 s1 → gh_h D vwCl AC A G H → va_S A s.heap H locs → ∀ ls : Array Slot, lv_has ls 4 [(0, .ref t), (1, .int p0), (2, .int p1)] → W p l e rmX5_told s m args below meth c H locs 0 0 (vx_MQ below (va_Qi post (gh_B D vwCl AC A) A) (gh_X D vwCl AC px A) args s 0 0 A) (F0 m 30 ls [.int s1, .ref s0]) := by
  obtain ⟨⟨hx, hb, hml, hown, hts⟩, hr, hlocks, htb, hK, hE, hA⟩ := id CX
  have hno : ∀ (pc : Nat), ∀ x ∈ c.exceptionTable.toList, covers x pc = false := by rw [htb]; intro _ _ h; cases h
  intro G t p0 p1 s0 s1 H locs hw hP hS ls hl
  dsimp only [wX5_told_30] at hw
  obtain ⟨fs1, he2, hk3, hw⟩ := hw
  refine gh_put (ci := 5) (v := .int s1) (ty := .int) (C := "OwnerLedgerModel") (T := TX5) (N := 24) hx hb hts (fun w h => gT_up (inX5 w h)) tyX5 tyX5_ok nmX5 hown hK hP hS he2 rfl 0 (by decide) (hts _ (gT_up kw_372)) (fun _ h9 => h9) rfl (by decide +kernel) rfl rfl hk3 dX5_told_30 (fun G4 H locs eG5 hP hS => ?_)
  replace hw := hw G4 eG5
  refine lv_aload_n hx hb dX5_told_33 rfl (lv_at hl 0 rfl) ?_
  obtain ⟨fs6, x9, he7, hv8, hw⟩ := hw
  refine gh_get (ci := 5) (v := .int x9) (C := "OwnerLedgerModel") (T := TX5) (N := 24) hx hb hts (fun w h => gT_up (inX5 w h)) hown hK hP he7 rfl 0 (by decide) (hts _ (gT_up kw_372)) (fun _ h9 => h9) hv8 dX5_told_34 ?_
  refine lv_if_eq (tgt := 42) hx hb dX5_told_37 (by decide) (fun c10 => ?_) (fun c10 => ?_)
  · replace hw := hw.1 c10
    refine lv_iload_n hx hb dX5_told_42 rfl (lv_at hl 1 rfl) ?_
    refine lv_iconst (v := 1) hx hb dX5_told_43 (by decide) ?_
    refine lv_isub hx hb dX5_told_44 ?_
    refine lv_istore_n (lv' := [(3, .int (p0 - 1)), (0, .ref t), (1, .int p0), (2, .int p1)]) hx hb dX5_told_45 rfl hl (by decide) rfl (fun ls hl => ?_)
    refine lv_iload_n hx hb dX5_told_46 rfl (lv_at hl 3 rfl) ?_
    refine lv_if_ne (tgt := 59) hx hb dX5_told_47 (by decide) (fun c11 => ?_) (fun c11 => ?_)
    · replace hw := hw.1 c11
      refine lv_iload_n hx hb dX5_told_59 rfl (lv_at hl 3 rfl) ?_
      refine lv_iconst (v := 1) hx hb dX5_told_60 (by decide) ?_
      refine lv_icmp_ne (tgt := 73) hx hb dX5_told_61 (by decide) (fun c12 => ?_) (fun c12 => ?_)
      · replace hw := hw.1 c12
        refine lv_iload_n hx hb dX5_told_73 rfl (lv_at hl 3 rfl) ?_
        refine lv_iconst (v := 2) hx hb dX5_told_74 (by decide) ?_
        refine lv_icmp_ne (tgt := 87) hx hb dX5_told_75 (by decide) (fun c13 => ?_) (fun c13 => ?_)
        · replace hw := hw.1 c13
          refine lv_iload_n hx hb dX5_told_87 rfl (lv_at hl 3 rfl) ?_
          refine lv_iconst (v := 3) hx hb dX5_told_88 (by decide) ?_
          refine lv_icmp_ne (tgt := 101) hx hb dX5_told_89 (by decide) (fun c14 => ?_) (fun c14 => ?_)
          · replace hw := hw.1 c14
            refine lv_aload_n hx hb dX5_told_101 rfl (lv_at hl 1 rfl) ?_
            obtain ⟨fs15, x18, he16, hv17, hw⟩ := hw
            refine gh_get (ci := 5) (v := .ref x18) (C := "OwnerLedgerModel") (T := TX5) (N := 24) hx hb hts (fun w h => gT_up (inX5 w h)) hown hK hP he16 rfl 13 (by decide) (hts _ (gT_up kw_385)) (fun _ h9 => h9) hv17 dX5_told_102 ?_
            refine lv_iload_n hx hb dX5_told_105 rfl (lv_at hl 0 rfl) ?_
            obtain ⟨n19, f20, he21, hi22, hw⟩ := hw
            refine gh_iald hx hb hK hP he21 rfl hi22 dX5_told_106 ?_
            exact gh_iret hx hb hr hlocks hw hP hS (Nat.le_of_ble_eq_true rfl) (Nat.le_of_ble_eq_true rfl) dX5_told_107
          · replace hw := hw.2 c14
            refine lv_aload_n hx hb dX5_told_92 rfl (lv_at hl 1 rfl) ?_
            obtain ⟨fs23, x26, he24, hv25, hw⟩ := hw
            refine gh_get (ci := 5) (v := .ref x26) (C := "OwnerLedgerModel") (T := TX5) (N := 24) hx hb hts (fun w h => gT_up (inX5 w h)) hown hK hP he24 rfl 12 (by decide) (hts _ (gT_up kw_384)) (fun _ h9 => h9) hv25 dX5_told_93 ?_
            refine lv_iload_n hx hb dX5_told_96 rfl (lv_at hl 0 rfl) ?_
            obtain ⟨n27, f28, he29, hi30, hw⟩ := hw
            refine gh_iald hx hb hK hP he29 rfl hi30 dX5_told_97 ?_
            refine lv_goto (tgt := 107) hx hb dX5_told_98 (by decide) ?_
            exact gh_iret hx hb hr hlocks hw hP hS (Nat.le_of_ble_eq_true rfl) (Nat.le_of_ble_eq_true rfl) dX5_told_107
        · replace hw := hw.2 c13
          refine lv_aload_n hx hb dX5_told_78 rfl (lv_at hl 1 rfl) ?_
          obtain ⟨fs31, x34, he32, hv33, hw⟩ := hw
          refine gh_get (ci := 5) (v := .ref x34) (C := "OwnerLedgerModel") (T := TX5) (N := 24) hx hb hts (fun w h => gT_up (inX5 w h)) hown hK hP he32 rfl 11 (by decide) (hts _ (gT_up kw_383)) (fun _ h9 => h9) hv33 dX5_told_79 ?_
          refine lv_iload_n hx hb dX5_told_82 rfl (lv_at hl 0 rfl) ?_
          obtain ⟨n35, f36, he37, hi38, hw⟩ := hw
          refine gh_iald hx hb hK hP he37 rfl hi38 dX5_told_83 ?_
          refine lv_goto (tgt := 107) hx hb dX5_told_84 (by decide) ?_
          exact gh_iret hx hb hr hlocks hw hP hS (Nat.le_of_ble_eq_true rfl) (Nat.le_of_ble_eq_true rfl) dX5_told_107
      · replace hw := hw.2 c12
        refine lv_aload_n hx hb dX5_told_64 rfl (lv_at hl 1 rfl) ?_
        obtain ⟨fs39, x42, he40, hv41, hw⟩ := hw
        refine gh_get (ci := 5) (v := .ref x42) (C := "OwnerLedgerModel") (T := TX5) (N := 24) hx hb hts (fun w h => gT_up (inX5 w h)) hown hK hP he40 rfl 10 (by decide) (hts _ (gT_up kw_382)) (fun _ h9 => h9) hv41 dX5_told_65 ?_
        refine lv_iload_n hx hb dX5_told_68 rfl (lv_at hl 0 rfl) ?_
        obtain ⟨n43, f44, he45, hi46, hw⟩ := hw
        refine gh_iald hx hb hK hP he45 rfl hi46 dX5_told_69 ?_
        refine lv_goto (tgt := 107) hx hb dX5_told_70 (by decide) ?_
        exact gh_iret hx hb hr hlocks hw hP hS (Nat.le_of_ble_eq_true rfl) (Nat.le_of_ble_eq_true rfl) dX5_told_107
    · replace hw := hw.2 c11
      refine lv_aload_n hx hb dX5_told_50 rfl (lv_at hl 1 rfl) ?_
      obtain ⟨fs47, x50, he48, hv49, hw⟩ := hw
      refine gh_get (ci := 5) (v := .ref x50) (C := "OwnerLedgerModel") (T := TX5) (N := 24) hx hb hts (fun w h => gT_up (inX5 w h)) hown hK hP he48 rfl 9 (by decide) (hts _ (gT_up kw_381)) (fun _ h9 => h9) hv49 dX5_told_51 ?_
      refine lv_iload_n hx hb dX5_told_54 rfl (lv_at hl 0 rfl) ?_
      obtain ⟨n51, f52, he53, hi54, hw⟩ := hw
      refine gh_iald hx hb hK hP he53 rfl hi54 dX5_told_55 ?_
      refine lv_goto (tgt := 107) hx hb dX5_told_56 (by decide) ?_
      exact gh_iret hx hb hr hlocks hw hP hS (Nat.le_of_ble_eq_true rfl) (Nat.le_of_ble_eq_true rfl) dX5_told_107
  · replace hw := hw.2 c10
    refine lv_iconst (v := 0) hx hb dX5_told_40 (by decide) ?_
    exact gh_iret hx hb hr hlocks hw hP hS (Nat.le_of_ble_eq_true rfl) (Nat.le_of_ble_eq_true rfl) dX5_told_41
def wX5_told (post : Int32 → gh_H → Prop) (px : String → gh_H → Prop) (G : gh_H) (t : Nat) (p0 : Int32) (p1 : Int32) : Prop := ∃ fs3 : List Value, G t = some (.inr (5, fs3)) ∧ wX5_noBatch (fun r1 G2 => (r1 = 0 → (wX5_not (fun r6 G7 => (r6 = 0 → (wX5_told_30 post px G7 t p0 p1 t 0)) ∧ (¬ r6 = 0 → (wX5_told_30 post px G7 t p0 p1 t 2))) px G2 (Int32.toInt64 p1) 0 4)) ∧ (¬ r1 = 0 → (wX5_told_30 post px G2 t p0 p1 t 1))) px G t p0
set_option maxRecDepth 100000 in
set_option maxHeartbeats 4000000 in
theorem mX5_told (l : Launch) (hl0 : l.stackTraces = false) (D : va_G) (AC : Nat → ClassId) (sa : gh_SA) (t : Nat) (p0 : Int32) (p1 : Int32) (post : Int32 → gh_H → Prop) (px : String → gh_H → Prop) (G : gh_H) (sz : Nat) (hw : wX5_told post px G t p0 p1) : vx_Met l yX5_told wsX5_told rmX5_told (gh_Pc D vwCl AC (gh_ty AC) (gh_En sa) G sz [.ref t, .int p0, .int p1]) (va_Qi post (gh_B D vwCl AC (gh_A G sz)) (gh_A G sz)) (gh_X D vwCl AC px (gh_A G sz)) 0 0 (gh_A G sz) := by
  refine vx_ofW (cc := prog_7_method_31_code) (maxL := 4) (ret := (some .int)) (by decide) rfl ?_
  intro p e s m args below meth c s₁ B hml hnoh hv
  obtain ⟨rfl, hsz, hP, hK, hE⟩ := hv
  have hx := B.exec
  have hb := B.bytes
  have hr := B.returns
  have hts := atoms_spec (ws := wsX5_told) B.pre
  have hown : s.vm.findClass "OwnerLedgerModel" = some m.cls := findClass_of_methodNamed B.named
  have hlocks := B.notSynchronized
  have htb : c.exceptionTable.toList = [] := List.eq_nil_iff_forall_not_mem.mpr hnoh
  subst hsz
  have hA : ∀ q, s.heap.size ≤ q → gh_A G s.heap.size q := fun q h => Or.inr h
  generalize gh_A G s.heap.size = A at hP hE hA ⊢
  have hno : ∀ (pc : Nat), ∀ x ∈ c.exceptionTable.toList, covers x pc = false := by rw [htb]; intro _ _ h; cases h
  have CX : cxX5_told p s m [.ref t, .int p0, .int p1].toArray meth c D AC sa A := ⟨⟨hx, hb, hml, hown, hts⟩, hr, hlocks, htb, hK, hE, hA⟩
  have hS : va_S A s.heap s.heap [] := va_S.rf
  have hl := lv_entry ([.ref t, .int p0, .int p1]) (n := 4) (Nat.le_of_ble_eq_true rfl)
  rw [lg_entry_eq]
  generalize (lg_sl ([.ref t, .int p0, .int p1]) ++ List.replicate (4 - (lg_sl ([.ref t, .int p0, .int p1])).length) Slot.unset).toArray = ls at hl ⊢
  have hl : lv_has ls 4 [(0, .ref t), (1, .int p0), (2, .int p1)] := hl
  dsimp only [wX5_told] at hw
  refine lv_aload_n hx hb dX5_told_0 rfl (lv_at hl 0 rfl) ?_
  refine lv_aload_n hx hb dX5_told_1 rfl (lv_at hl 0 rfl) ?_
  refine lv_iload_n hx hb dX5_told_2 rfl (lv_at hl 1 rfl) ?_
  obtain ⟨fs3, he4, hw⟩ := hw
  refine gh_ci hlocks (hno _) (vx_runV (C := "OwnerLedgerModel") (As := [.int p0]) (rest := [.ref t]) ⟨hx, hb, hml, hown, hts⟩ (mX5_noBatch l hl0 D AC sa _ _ _ _ _ _ hw) (cwV 1 hts (gV kw_436 kw_437 kw_542 kw_2 kw_438) rfl rfl rfl (by decide +kernel) ⟨Nat.le_of_ble_eq_true rfl, Nat.le_of_ble_eq_true rfl⟩) (gh_preV gh_En_ok hK hE hP hS hA he4 rfl _) rfl rfl hl.1 rfl (lv_room (Nat.le_of_ble_eq_true rfl)) dX5_told_3 ⟨Nat.le_of_ble_eq_true rfl, Nat.le_of_ble_eq_true rfl⟩) hP hS hA (Nat.le_of_ble_eq_true rfl) (Nat.le_of_ble_eq_true rfl) (fun r1 G2 H locs hw2 hP hS => ?_)
  replace hw := hw2
  clear hw2
  refine lv_if_eq (tgt := 13) hx hb dX5_told_6 (by decide) (fun c5 => ?_) (fun c5 => ?_)
  · replace hw := hw.1 c5
    refine lv_iload_n hx hb dX5_told_13 rfl (lv_at hl 2 rfl) ?_
    refine lv_i2l hx hb dX5_told_14 rfl ?_
    refine lv_lconst (v := 0) hx hb dX5_told_15 (by decide) ?_
    refine lv_ldc2 (v := 4) hx hb hown (hts _ (gT_up kw_515)) dX5_told_16 ?_
    refine gh_ci hlocks (hno _) (vx_runS (As := [.long (Int32.toInt64 p1), .long 0, .long 4]) (rest := [.ref t]) ⟨hx, hb, hml, hown, hts⟩ (mX5_not l hl0 D AC sa _ _ _ _ _ _ _ hw) (va_cwS 3 hts (gS kw_414 kw_415 kw_2 kw_416) rfl rfl rfl (by decide +kernel) ⟨Nat.le_of_ble_eq_true rfl, Nat.le_of_ble_eq_true rfl⟩) (gh_pre gh_En_ok hK hE hP hS hA _) rfl rfl hl.1 rfl (lv_room (Nat.le_of_ble_eq_true rfl)) dX5_told_19 ⟨Nat.le_of_ble_eq_true rfl, Nat.le_of_ble_eq_true rfl⟩) hP hS hA (Nat.le_of_ble_eq_true rfl) (Nat.le_of_ble_eq_true rfl) (fun r6 G7 H locs hw2 hP hS => ?_)
    replace hw := hw2
    clear hw2
    refine lv_if_eq (tgt := 29) hx hb dX5_told_22 (by decide) (fun c8 => ?_) (fun c8 => ?_)
    · replace hw := hw.1 c8
      refine lv_iconst (v := 0) hx hb dX5_told_29 (by decide) ?_
      have hl := lv_sub (l' := [(0, .ref t), (1, .int p0), (2, .int p1)]) hl [0, 1, 2] rfl
      exact lX5_told_30 hl0 CX post px _ t p0 p1 t 0 _ _ hw hP hS ls hl
    · replace hw := hw.2 c8
      refine lv_iconst (v := 2) hx hb dX5_told_25 (by decide) ?_
      refine lv_goto (tgt := 30) hx hb dX5_told_26 (by decide) ?_
      have hl := lv_sub (l' := [(0, .ref t), (1, .int p0), (2, .int p1)]) hl [0, 1, 2] rfl
      exact lX5_told_30 hl0 CX post px _ t p0 p1 t 2 _ _ hw hP hS ls hl
  · replace hw := hw.2 c5
    refine lv_iconst (v := 1) hx hb dX5_told_9 (by decide) ?_
    refine lv_goto (tgt := 30) hx hb dX5_told_10 (by decide) ?_
    have hl := lv_sub (l' := [(0, .ref t), (1, .int p0), (2, .int p1)]) hl [0, 1, 2] rfl
    exact lX5_told_30 hl0 CX post px _ t p0 p1 t 1 _ _ hw hP hS ls hl
abbrev rmX5_known : Room := { frames := 1, cells := 0, slots := 0, locals := 25 }
abbrev cxX5_known (p : Program) (s : State) (m : MethodId) (args : Array Value) (meth : Method) (c : Code) (D : va_G) (AC : Nat → ClassId) (sa : gh_SA) (A : Nat → Prop) : Prop := CallFix p m c prog_7_method_32_code 3 s args wsX5_known "OwnerLedgerModel" ∧ meth.sig.returnType = (some .long) ∧ meth.locks = false ∧ c.exceptionTable.toList = [] ∧ va_K D vwCl (gh_ty AC) s ∧ gh_En sa A s s.heap ∧ (∀ q, s.heap.size ≤ q → A q)
def wX5_known_30 (post : Int64 → gh_H → Prop) (px : String → gh_H → Prop) (G : gh_H) (t : Nat) (p0 : Int32) (p1 : Int32) (s0 : Nat) (s1 : Int32) : Prop := ∃ fs1 : List Value, G s0 = some (.inr (5, fs1)) ∧ 0 < fs1.length ∧ (∀ G4 : gh_H, G4 = gh_up G s0 (.inr (5, fs1.set 0 (.int s1))) → ∃ (fs6 : List Value) (x9 : Int32), G4 t = some (.inr (5, fs6)) ∧ fs6[0]? = some (.int x9) ∧ ((x9 = 0 → ((p1 = 0 → (∃ (fs12 : List Value) (x15 : Nat), G4 t = some (.inr (5, fs12)) ∧ fs12[19]? = some (.ref x15) ∧ (∃ (n16 : Nat) (f17 : Nat → Int64), G4 x15 = some (.inl (1, n16, .inr (.inl f17))) ∧ vp_in (p0 - 1) n16 ∧ (post (f17 (Int32.toNatClampNeg (p0 - 1))) G4)))) ∧ (p1 = 1 → (∃ (fs21 : List Value) (x24 : Nat), G4 t = some (.inr (5, fs21)) ∧ fs21[21]? = some (.ref x24) ∧ (∃ (n25 : Nat) (f26 : Nat → Int32), G4 x24 = some (.inl (0, n25, .inl f26)) ∧ vp_in (p0 - 1) n25 ∧ (post (Int32.toInt64 (f26 (Int32.toNatClampNeg (p0 - 1)))) G4)))) ∧ (p1 = 2 → (∃ (fs30 : List Value) (x33 : Nat), G4 t = some (.inr (5, fs30)) ∧ fs30[22]? = some (.ref x33) ∧ (∃ (n34 : Nat) (f35 : Nat → Int32), G4 x33 = some (.inl (2, n34, .inl f35)) ∧ vp_in (p0 - 1) n34 ∧ (((f35 (Int32.toNatClampNeg (p0 - 1))) = 0 → (post 0 G4)) ∧ (¬ (f35 (Int32.toNatClampNeg (p0 - 1))) = 0 → (post 1 G4)))))) ∧ (p1 = 3 → (∃ fs42 : List Value, G4 t = some (.inr (5, fs42)) ∧ wX5_overdue (fun r40 G41 => (r40 = 0 → (post 0 G41)) ∧ (¬ r40 = 0 → (post 1 G41))) px G4 t (p0 - 1))) ∧ (p1 = 4 → (∃ (fs46 : List Value) (x49 : Nat), G4 t = some (.inr (5, fs46)) ∧ fs46[18]? = some (.ref x49) ∧ (∃ (n50 : Nat) (f51 : Nat → Int32), G4 x49 = some (.inl (0, n50, .inl f51)) ∧ vp_in (p0 - 1) n50 ∧ (post (Int32.toInt64 (f51 (Int32.toNatClampNeg (p0 - 1)))) G4)))) ∧ (¬ p1 = 0 → ¬ p1 = 1 → ¬ p1 = 2 → ¬ p1 = 3 → ¬ p1 = 4 → (∃ (fs54 : List Value) (x57 : Nat), G4 t = some (.inr (5, fs54)) ∧ fs54[20]? = some (.ref x57) ∧ (∃ (n58 : Nat) (f59 : Nat → Int32), G4 x57 = some (.inl (0, n58, .inl f59)) ∧ vp_in (p0 - 1) n58 ∧ (post (Int32.toInt64 (f59 (Int32.toNatClampNeg (p0 - 1)))) G4)))))) ∧ (¬ x9 = 0 → (post 0 G4))))
set_option maxRecDepth 100000 in
set_option maxHeartbeats 4000000 in
theorem lX5_known_30 {p : Program} {l : Launch} {e : Env} {s : State} {m : MethodId} {args : Array Value} {below : List Frame} {meth : Method} {c : Code} {D : va_G} {AC : Nat → ClassId} {sa : gh_SA} {A : Nat → Prop} (hl0 : l.stackTraces = false) (CX : cxX5_known p s m args meth c D AC sa A) (post : Int64 → gh_H → Prop) (px : String → gh_H → Prop) : ∀ (G : gh_H) (t : Nat) (p0 : Int32) (p1 : Int32) (s0 : Nat) (s1 : Int32) (H : Heap) (locs : List Loc), wX5_known_30 post px G t p0 p1 s0 s1 → gh_h D vwCl AC A G H → va_S A s.heap H locs → ∀ ls : Array Slot, lv_has ls 3 [(0, .ref t), (1, .int p0), (2, .int p1)] → W p l e rmX5_known s m args below meth c H locs 0 0 (vx_MQ below (va_Ql post (gh_B D vwCl AC A) A) (gh_X D vwCl AC px A) args s 0 0 A) (F0 m 30 ls [.int s1, .ref s0]) := by
  obtain ⟨⟨hx, hb, hml, hown, hts⟩, hr, hlocks, htb, hK, hE, hA⟩ := id CX
  have hno : ∀ (pc : Nat), ∀ x ∈ c.exceptionTable.toList, covers x pc = false := by rw [htb]; intro _ _ h; cases h
  intro G t p0 p1 s0 s1 H locs hw hP hS ls hl
  dsimp only [wX5_known_30] at hw
  obtain ⟨fs1, he2, hk3, hw⟩ := hw
  refine gh_put (ci := 5) (v := .int s1) (ty := .int) (C := "OwnerLedgerModel") (T := TX5) (N := 24) hx hb hts (fun w h => gT_up (inX5 w h)) tyX5 tyX5_ok nmX5 hown hK hP hS he2 rfl 0 (by decide) (hts _ (gT_up kw_372)) (fun _ h9 => h9) rfl (by decide +kernel) rfl rfl hk3 dX5_known_30 (fun G4 H locs eG5 hP hS => ?_)
  replace hw := hw G4 eG5
  refine lv_aload_n hx hb dX5_known_33 rfl (lv_at hl 0 rfl) ?_
  obtain ⟨fs6, x9, he7, hv8, hw⟩ := hw
  refine gh_get (ci := 5) (v := .int x9) (C := "OwnerLedgerModel") (T := TX5) (N := 24) hx hb hts (fun w h => gT_up (inX5 w h)) hown hK hP he7 rfl 0 (by decide) (hts _ (gT_up kw_372)) (fun _ h9 => h9) hv8 dX5_known_34 ?_
  refine lv_if_eq (tgt := 42) hx hb dX5_known_37 (by decide) (fun c10 => ?_) (fun c10 => ?_)
  · replace hw := hw.1 c10
    refine lv_iload_n hx hb dX5_known_42 rfl (lv_at hl 2 rfl) ?_
    by_cases c11 : p1 = 0
    · replace hw := hw.1 c11
      refine lv_tableIn (tgt := 76) hx hb dX5_known_43 (by rw [c11]; decide) (by rw [c11]; decide) (by rw [c11]; rfl) (by decide) ?_
      refine lv_aload_n hx hb dX5_known_76 rfl (lv_at hl 0 rfl) ?_
      obtain ⟨fs12, x15, he13, hv14, hw⟩ := hw
      refine gh_get (ci := 5) (v := .ref x15) (C := "OwnerLedgerModel") (T := TX5) (N := 24) hx hb hts (fun w h => gT_up (inX5 w h)) hown hK hP he13 rfl 19 (by decide) (hts _ (gT_up kw_391)) (fun _ h9 => h9) hv14 dX5_known_77 ?_
      refine lv_iload_n hx hb dX5_known_80 rfl (lv_at hl 1 rfl) ?_
      refine lv_iconst (v := 1) hx hb dX5_known_81 (by decide) ?_
      refine lv_isub hx hb dX5_known_82 ?_
      obtain ⟨n16, f17, he18, hi19, hw⟩ := hw
      refine gh_lald hx hb hK hP he18 rfl hi19 dX5_known_83 ?_
      exact gh_lret hx hb hr hlocks hw hP hS (Nat.le_of_ble_eq_true rfl) (Nat.le_of_ble_eq_true rfl) dX5_known_84
    by_cases c20 : p1 = 1
    · replace hw := hw.2.1 c20
      refine lv_tableIn (tgt := 85) hx hb dX5_known_43 (by rw [c20]; decide) (by rw [c20]; decide) (by rw [c20]; rfl) (by decide) ?_
      refine lv_aload_n hx hb dX5_known_85 rfl (lv_at hl 0 rfl) ?_
      obtain ⟨fs21, x24, he22, hv23, hw⟩ := hw
      refine gh_get (ci := 5) (v := .ref x24) (C := "OwnerLedgerModel") (T := TX5) (N := 24) hx hb hts (fun w h => gT_up (inX5 w h)) hown hK hP he22 rfl 21 (by decide) (hts _ (gT_up kw_393)) (fun _ h9 => h9) hv23 dX5_known_86 ?_
      refine lv_iload_n hx hb dX5_known_89 rfl (lv_at hl 1 rfl) ?_
      refine lv_iconst (v := 1) hx hb dX5_known_90 (by decide) ?_
      refine lv_isub hx hb dX5_known_91 ?_
      obtain ⟨n25, f26, he27, hi28, hw⟩ := hw
      refine gh_iald hx hb hK hP he27 rfl hi28 dX5_known_92 ?_
      refine lv_i2l hx hb dX5_known_93 rfl ?_
      exact gh_lret hx hb hr hlocks hw hP hS (Nat.le_of_ble_eq_true rfl) (Nat.le_of_ble_eq_true rfl) dX5_known_94
    by_cases c29 : p1 = 2
    · replace hw := hw.2.2.1 c29
      refine lv_tableIn (tgt := 95) hx hb dX5_known_43 (by rw [c29]; decide) (by rw [c29]; decide) (by rw [c29]; rfl) (by decide) ?_
      refine lv_aload_n hx hb dX5_known_95 rfl (lv_at hl 0 rfl) ?_
      obtain ⟨fs30, x33, he31, hv32, hw⟩ := hw
      refine gh_get (ci := 5) (v := .ref x33) (C := "OwnerLedgerModel") (T := TX5) (N := 24) hx hb hts (fun w h => gT_up (inX5 w h)) hown hK hP he31 rfl 22 (by decide) (hts _ (gT_up kw_394)) (fun _ h9 => h9) hv32 dX5_known_96 ?_
      refine lv_iload_n hx hb dX5_known_99 rfl (lv_at hl 1 rfl) ?_
      refine lv_iconst (v := 1) hx hb dX5_known_100 (by decide) ?_
      refine lv_isub hx hb dX5_known_101 ?_
      obtain ⟨n34, f35, he36, hi37, hw⟩ := hw
      refine gh_zald hx hb hK hP he36 rfl hi37 dX5_known_102 ?_
      refine lv_if_eq (tgt := 110) hx hb dX5_known_103 (by decide) (fun c38 => ?_) (fun c38 => ?_)
      · replace hw := hw.1 c38
        refine lv_lconst (v := 0) hx hb dX5_known_110 (by decide) ?_
        exact gh_lret hx hb hr hlocks hw hP hS (Nat.le_of_ble_eq_true rfl) (Nat.le_of_ble_eq_true rfl) dX5_known_111
      · replace hw := hw.2 c38
        refine lv_lconst (v := 1) hx hb dX5_known_106 (by decide) ?_
        refine lv_goto (tgt := 111) hx hb dX5_known_107 (by decide) ?_
        exact gh_lret hx hb hr hlocks hw hP hS (Nat.le_of_ble_eq_true rfl) (Nat.le_of_ble_eq_true rfl) dX5_known_111
    by_cases c39 : p1 = 3
    · replace hw := hw.2.2.2.1 c39
      refine lv_tableIn (tgt := 112) hx hb dX5_known_43 (by rw [c39]; decide) (by rw [c39]; decide) (by rw [c39]; rfl) (by decide) ?_
      refine lv_aload_n hx hb dX5_known_112 rfl (lv_at hl 0 rfl) ?_
      refine lv_iload_n hx hb dX5_known_113 rfl (lv_at hl 1 rfl) ?_
      refine lv_iconst (v := 1) hx hb dX5_known_114 (by decide) ?_
      refine lv_isub hx hb dX5_known_115 ?_
      obtain ⟨fs42, he43, hw⟩ := hw
      refine gh_ci hlocks (hno _) (vx_runV (C := "OwnerLedgerModel") (As := [.int (p0 - 1)]) (rest := []) ⟨hx, hb, hml, hown, hts⟩ (mX5_overdue l hl0 D AC sa _ _ _ _ _ _ hw) (cwV 1 hts (gV kw_491 kw_492 kw_546 kw_2 kw_493) rfl rfl rfl (by decide +kernel) ⟨Nat.le_of_ble_eq_true rfl, Nat.le_of_ble_eq_true rfl⟩) (gh_preV gh_En_ok hK hE hP hS hA he43 rfl _) rfl rfl hl.1 rfl (lv_room (Nat.le_of_ble_eq_true rfl)) dX5_known_116 ⟨Nat.le_of_ble_eq_true rfl, Nat.le_of_ble_eq_true rfl⟩) hP hS hA (Nat.le_of_ble_eq_true rfl) (Nat.le_of_ble_eq_true rfl) (fun r40 G41 H locs hw2 hP hS => ?_)
      replace hw := hw2
      clear hw2
      refine lv_if_eq (tgt := 126) hx hb dX5_known_119 (by decide) (fun c44 => ?_) (fun c44 => ?_)
      · replace hw := hw.1 c44
        refine lv_lconst (v := 0) hx hb dX5_known_126 (by decide) ?_
        exact gh_lret hx hb hr hlocks hw hP hS (Nat.le_of_ble_eq_true rfl) (Nat.le_of_ble_eq_true rfl) dX5_known_127
      · replace hw := hw.2 c44
        refine lv_lconst (v := 1) hx hb dX5_known_122 (by decide) ?_
        refine lv_goto (tgt := 127) hx hb dX5_known_123 (by decide) ?_
        exact gh_lret hx hb hr hlocks hw hP hS (Nat.le_of_ble_eq_true rfl) (Nat.le_of_ble_eq_true rfl) dX5_known_127
    by_cases c45 : p1 = 4
    · replace hw := hw.2.2.2.2.1 c45
      refine lv_tableIn (tgt := 128) hx hb dX5_known_43 (by rw [c45]; decide) (by rw [c45]; decide) (by rw [c45]; rfl) (by decide) ?_
      refine lv_aload_n hx hb dX5_known_128 rfl (lv_at hl 0 rfl) ?_
      obtain ⟨fs46, x49, he47, hv48, hw⟩ := hw
      refine gh_get (ci := 5) (v := .ref x49) (C := "OwnerLedgerModel") (T := TX5) (N := 24) hx hb hts (fun w h => gT_up (inX5 w h)) hown hK hP he47 rfl 18 (by decide) (hts _ (gT_up kw_390)) (fun _ h9 => h9) hv48 dX5_known_129 ?_
      refine lv_iload_n hx hb dX5_known_132 rfl (lv_at hl 1 rfl) ?_
      refine lv_iconst (v := 1) hx hb dX5_known_133 (by decide) ?_
      refine lv_isub hx hb dX5_known_134 ?_
      obtain ⟨n50, f51, he52, hi53, hw⟩ := hw
      refine gh_iald hx hb hK hP he52 rfl hi53 dX5_known_135 ?_
      refine lv_i2l hx hb dX5_known_136 rfl ?_
      exact gh_lret hx hb hr hlocks hw hP hS (Nat.le_of_ble_eq_true rfl) (Nat.le_of_ble_eq_true rfl) dX5_known_137
    replace hw := hw.2.2.2.2.2 c11 c20 c29 c39 c45
    refine lv_tableOut (tgt := 138) hx hb dX5_known_43 (by have h0 := lv_neT (a := 0) c11 (by decide); have h1 := lv_neT (a := 1) c20 (by decide); have h2 := lv_neT (a := 2) c29 (by decide); have h3 := lv_neT (a := 3) c39 (by decide); have h4 := lv_neT (a := 4) c45 (by decide); omega) (by decide) ?_
    refine lv_aload_n hx hb dX5_known_138 rfl (lv_at hl 0 rfl) ?_
    obtain ⟨fs54, x57, he55, hv56, hw⟩ := hw
    refine gh_get (ci := 5) (v := .ref x57) (C := "OwnerLedgerModel") (T := TX5) (N := 24) hx hb hts (fun w h => gT_up (inX5 w h)) hown hK hP he55 rfl 20 (by decide) (hts _ (gT_up kw_392)) (fun _ h9 => h9) hv56 dX5_known_139 ?_
    refine lv_iload_n hx hb dX5_known_142 rfl (lv_at hl 1 rfl) ?_
    refine lv_iconst (v := 1) hx hb dX5_known_143 (by decide) ?_
    refine lv_isub hx hb dX5_known_144 ?_
    obtain ⟨n58, f59, he60, hi61, hw⟩ := hw
    refine gh_iald hx hb hK hP he60 rfl hi61 dX5_known_145 ?_
    refine lv_i2l hx hb dX5_known_146 rfl ?_
    exact gh_lret hx hb hr hlocks hw hP hS (Nat.le_of_ble_eq_true rfl) (Nat.le_of_ble_eq_true rfl) dX5_known_147
  · replace hw := hw.2 c10
    refine lv_lconst (v := 0) hx hb dX5_known_40 (by decide) ?_
    exact gh_lret hx hb hr hlocks hw hP hS (Nat.le_of_ble_eq_true rfl) (Nat.le_of_ble_eq_true rfl) dX5_known_41
def wX5_known (post : Int64 → gh_H → Prop) (px : String → gh_H → Prop) (G : gh_H) (t : Nat) (p0 : Int32) (p1 : Int32) : Prop := ∃ fs3 : List Value, G t = some (.inr (5, fs3)) ∧ wX5_noInvoice (fun r1 G2 => (r1 = 0 → (wX5_not (fun r6 G7 => (r6 = 0 → (wX5_known_30 post px G7 t p0 p1 t 0)) ∧ (¬ r6 = 0 → (wX5_known_30 post px G7 t p0 p1 t 2))) px G2 (Int32.toInt64 p1) 0 5)) ∧ (¬ r1 = 0 → (wX5_known_30 post px G2 t p0 p1 t 1))) px G t p0
set_option maxRecDepth 100000 in
set_option maxHeartbeats 4000000 in
theorem mX5_known (l : Launch) (hl0 : l.stackTraces = false) (D : va_G) (AC : Nat → ClassId) (sa : gh_SA) (t : Nat) (p0 : Int32) (p1 : Int32) (post : Int64 → gh_H → Prop) (px : String → gh_H → Prop) (G : gh_H) (sz : Nat) (hw : wX5_known post px G t p0 p1) : vx_Met l yX5_known wsX5_known rmX5_known (gh_Pc D vwCl AC (gh_ty AC) (gh_En sa) G sz [.ref t, .int p0, .int p1]) (va_Ql post (gh_B D vwCl AC (gh_A G sz)) (gh_A G sz)) (gh_X D vwCl AC px (gh_A G sz)) 0 0 (gh_A G sz) := by
  refine vx_ofW (cc := prog_7_method_32_code) (maxL := 3) (ret := (some .long)) (by decide) rfl ?_
  intro p e s m args below meth c s₁ B hml hnoh hv
  obtain ⟨rfl, hsz, hP, hK, hE⟩ := hv
  have hx := B.exec
  have hb := B.bytes
  have hr := B.returns
  have hts := atoms_spec (ws := wsX5_known) B.pre
  have hown : s.vm.findClass "OwnerLedgerModel" = some m.cls := findClass_of_methodNamed B.named
  have hlocks := B.notSynchronized
  have htb : c.exceptionTable.toList = [] := List.eq_nil_iff_forall_not_mem.mpr hnoh
  subst hsz
  have hA : ∀ q, s.heap.size ≤ q → gh_A G s.heap.size q := fun q h => Or.inr h
  generalize gh_A G s.heap.size = A at hP hE hA ⊢
  have hno : ∀ (pc : Nat), ∀ x ∈ c.exceptionTable.toList, covers x pc = false := by rw [htb]; intro _ _ h; cases h
  have CX : cxX5_known p s m [.ref t, .int p0, .int p1].toArray meth c D AC sa A := ⟨⟨hx, hb, hml, hown, hts⟩, hr, hlocks, htb, hK, hE, hA⟩
  have hS : va_S A s.heap s.heap [] := va_S.rf
  have hl := lv_entry ([.ref t, .int p0, .int p1]) (n := 3) (Nat.le_of_ble_eq_true rfl)
  rw [lg_entry_eq]
  generalize (lg_sl ([.ref t, .int p0, .int p1]) ++ List.replicate (3 - (lg_sl ([.ref t, .int p0, .int p1])).length) Slot.unset).toArray = ls at hl ⊢
  have hl : lv_has ls 3 [(0, .ref t), (1, .int p0), (2, .int p1)] := hl
  dsimp only [wX5_known] at hw
  refine lv_aload_n hx hb dX5_known_0 rfl (lv_at hl 0 rfl) ?_
  refine lv_aload_n hx hb dX5_known_1 rfl (lv_at hl 0 rfl) ?_
  refine lv_iload_n hx hb dX5_known_2 rfl (lv_at hl 1 rfl) ?_
  obtain ⟨fs3, he4, hw⟩ := hw
  refine gh_ci hlocks (hno _) (vx_runV (C := "OwnerLedgerModel") (As := [.int p0]) (rest := [.ref t]) ⟨hx, hb, hml, hown, hts⟩ (mX5_noInvoice l hl0 D AC sa _ _ _ _ _ _ hw) (cwV 1 hts (gV kw_480 kw_481 kw_545 kw_2 kw_482) rfl rfl rfl (by decide +kernel) ⟨Nat.le_of_ble_eq_true rfl, Nat.le_of_ble_eq_true rfl⟩) (gh_preV gh_En_ok hK hE hP hS hA he4 rfl _) rfl rfl hl.1 rfl (lv_room (Nat.le_of_ble_eq_true rfl)) dX5_known_3 ⟨Nat.le_of_ble_eq_true rfl, Nat.le_of_ble_eq_true rfl⟩) hP hS hA (Nat.le_of_ble_eq_true rfl) (Nat.le_of_ble_eq_true rfl) (fun r1 G2 H locs hw2 hP hS => ?_)
  replace hw := hw2
  clear hw2
  refine lv_if_eq (tgt := 13) hx hb dX5_known_6 (by decide) (fun c5 => ?_) (fun c5 => ?_)
  · replace hw := hw.1 c5
    refine lv_iload_n hx hb dX5_known_13 rfl (lv_at hl 2 rfl) ?_
    refine lv_i2l hx hb dX5_known_14 rfl ?_
    refine lv_lconst (v := 0) hx hb dX5_known_15 (by decide) ?_
    refine lv_ldc2 (v := 5) hx hb hown (hts _ (gT_up kw_520)) dX5_known_16 ?_
    refine gh_ci hlocks (hno _) (vx_runS (As := [.long (Int32.toInt64 p1), .long 0, .long 5]) (rest := [.ref t]) ⟨hx, hb, hml, hown, hts⟩ (mX5_not l hl0 D AC sa _ _ _ _ _ _ _ hw) (va_cwS 3 hts (gS kw_414 kw_415 kw_2 kw_416) rfl rfl rfl (by decide +kernel) ⟨Nat.le_of_ble_eq_true rfl, Nat.le_of_ble_eq_true rfl⟩) (gh_pre gh_En_ok hK hE hP hS hA _) rfl rfl hl.1 rfl (lv_room (Nat.le_of_ble_eq_true rfl)) dX5_known_19 ⟨Nat.le_of_ble_eq_true rfl, Nat.le_of_ble_eq_true rfl⟩) hP hS hA (Nat.le_of_ble_eq_true rfl) (Nat.le_of_ble_eq_true rfl) (fun r6 G7 H locs hw2 hP hS => ?_)
    replace hw := hw2
    clear hw2
    refine lv_if_eq (tgt := 29) hx hb dX5_known_22 (by decide) (fun c8 => ?_) (fun c8 => ?_)
    · replace hw := hw.1 c8
      refine lv_iconst (v := 0) hx hb dX5_known_29 (by decide) ?_
      have hl := lv_sub (l' := [(0, .ref t), (1, .int p0), (2, .int p1)]) hl [0, 1, 2] rfl
      exact lX5_known_30 hl0 CX post px _ t p0 p1 t 0 _ _ hw hP hS ls hl
    · replace hw := hw.2 c8
      refine lv_iconst (v := 2) hx hb dX5_known_25 (by decide) ?_
      refine lv_goto (tgt := 30) hx hb dX5_known_26 (by decide) ?_
      have hl := lv_sub (l' := [(0, .ref t), (1, .int p0), (2, .int p1)]) hl [0, 1, 2] rfl
      exact lX5_known_30 hl0 CX post px _ t p0 p1 t 2 _ _ hw hP hS ls hl
  · replace hw := hw.2 c5
    refine lv_iconst (v := 1) hx hb dX5_known_9 (by decide) ?_
    refine lv_goto (tgt := 30) hx hb dX5_known_10 (by decide) ?_
    have hl := lv_sub (l' := [(0, .ref t), (1, .int p0), (2, .int p1)]) hl [0, 1, 2] rfl
    exact lX5_known_30 hl0 CX post px _ t p0 p1 t 1 _ _ hw hP hS ls hl
abbrev rmX5_credit : Room := { frames := 1, cells := 0, slots := 0, locals := 21 }
abbrev cxX5_credit (p : Program) (s : State) (m : MethodId) (args : Array Value) (meth : Method) (c : Code) (D : va_G) (AC : Nat → ClassId) (sa : gh_SA) (A : Nat → Prop) : Prop := CallFix p m c prog_7_method_33_code 2 s args wsX5_credit "OwnerLedgerModel" ∧ meth.sig.returnType = (some .long) ∧ meth.locks = false ∧ c.exceptionTable.toList = [] ∧ va_K D vwCl (gh_ty AC) s ∧ gh_En sa A s s.heap ∧ (∀ q, s.heap.size ≤ q → A q)
def wX5_credit_14 (post : Int64 → gh_H → Prop) (px : String → gh_H → Prop) (G : gh_H) (t : Nat) (p0 : Int32) (s0 : Nat) (s1 : Int32) : Prop := ∃ fs1 : List Value, G s0 = some (.inr (5, fs1)) ∧ 0 < fs1.length ∧ (∀ G4 : gh_H, G4 = gh_up G s0 (.inr (5, fs1.set 0 (.int s1))) → ∃ (fs6 : List Value) (x9 : Int32), G4 t = some (.inr (5, fs6)) ∧ fs6[0]? = some (.int x9) ∧ ((x9 = 0 → (∃ (fs11 : List Value) (x14 : Nat), G4 t = some (.inr (5, fs11)) ∧ fs11[5]? = some (.ref x14) ∧ (∃ (n15 : Nat) (f16 : Nat → Int64), G4 x14 = some (.inl (1, n15, .inr (.inl f16))) ∧ vp_in p0 n15 ∧ (post (f16 (Int32.toNatClampNeg p0)) G4)))) ∧ (¬ x9 = 0 → (post 0 G4))))
set_option maxRecDepth 100000 in
set_option maxHeartbeats 4000000 in
theorem lX5_credit_14 {p : Program} {l : Launch} {e : Env} {s : State} {m : MethodId} {args : Array Value} {below : List Frame} {meth : Method} {c : Code} {D : va_G} {AC : Nat → ClassId} {sa : gh_SA} {A : Nat → Prop} (hl0 : l.stackTraces = false) (CX : cxX5_credit p s m args meth c D AC sa A) (post : Int64 → gh_H → Prop) (px : String → gh_H → Prop) : ∀ (G : gh_H) (t : Nat) (p0 : Int32) (s0 : Nat) (s1 : Int32) (H : Heap) (locs : List Loc), wX5_credit_14 post px G t p0 s0 s1 → gh_h D vwCl AC A G H → va_S A s.heap H locs → ∀ ls : Array Slot, lv_has ls 2 [(0, .ref t), (1, .int p0)] → W p l e rmX5_credit s m args below meth c H locs 0 0 (vx_MQ below (va_Ql post (gh_B D vwCl AC A) A) (gh_X D vwCl AC px A) args s 0 0 A) (F0 m 14 ls [.int s1, .ref s0]) := by
  obtain ⟨⟨hx, hb, hml, hown, hts⟩, hr, hlocks, htb, hK, hE, hA⟩ := id CX
  have hno : ∀ (pc : Nat), ∀ x ∈ c.exceptionTable.toList, covers x pc = false := by rw [htb]; intro _ _ h; cases h
  intro G t p0 s0 s1 H locs hw hP hS ls hl
  dsimp only [wX5_credit_14] at hw
  obtain ⟨fs1, he2, hk3, hw⟩ := hw
  refine gh_put (ci := 5) (v := .int s1) (ty := .int) (C := "OwnerLedgerModel") (T := TX5) (N := 24) hx hb hts (fun w h => gT_up (inX5 w h)) tyX5 tyX5_ok nmX5 hown hK hP hS he2 rfl 0 (by decide) (hts _ (gT_up kw_372)) (fun _ h9 => h9) rfl (by decide +kernel) rfl rfl hk3 dX5_credit_14 (fun G4 H locs eG5 hP hS => ?_)
  replace hw := hw G4 eG5
  refine lv_aload_n hx hb dX5_credit_17 rfl (lv_at hl 0 rfl) ?_
  obtain ⟨fs6, x9, he7, hv8, hw⟩ := hw
  refine gh_get (ci := 5) (v := .int x9) (C := "OwnerLedgerModel") (T := TX5) (N := 24) hx hb hts (fun w h => gT_up (inX5 w h)) hown hK hP he7 rfl 0 (by decide) (hts _ (gT_up kw_372)) (fun _ h9 => h9) hv8 dX5_credit_18 ?_
  refine lv_if_eq (tgt := 28) hx hb dX5_credit_21 (by decide) (fun c10 => ?_) (fun c10 => ?_)
  · replace hw := hw.1 c10
    refine lv_aload_n hx hb dX5_credit_28 rfl (lv_at hl 0 rfl) ?_
    obtain ⟨fs11, x14, he12, hv13, hw⟩ := hw
    refine gh_get (ci := 5) (v := .ref x14) (C := "OwnerLedgerModel") (T := TX5) (N := 24) hx hb hts (fun w h => gT_up (inX5 w h)) hown hK hP he12 rfl 5 (by decide) (hts _ (gT_up kw_377)) (fun _ h9 => h9) hv13 dX5_credit_29 ?_
    refine lv_iload_n hx hb dX5_credit_32 rfl (lv_at hl 1 rfl) ?_
    obtain ⟨n15, f16, he17, hi18, hw⟩ := hw
    refine gh_lald hx hb hK hP he17 rfl hi18 dX5_credit_33 ?_
    exact gh_lret hx hb hr hlocks hw hP hS (Nat.le_of_ble_eq_true rfl) (Nat.le_of_ble_eq_true rfl) dX5_credit_34
  · replace hw := hw.2 c10
    refine lv_lconst (v := 0) hx hb dX5_credit_24 (by decide) ?_
    refine lv_goto (tgt := 34) hx hb dX5_credit_25 (by decide) ?_
    exact gh_lret hx hb hr hlocks hw hP hS (Nat.le_of_ble_eq_true rfl) (Nat.le_of_ble_eq_true rfl) dX5_credit_34
def wX5_credit (post : Int64 → gh_H → Prop) (px : String → gh_H → Prop) (G : gh_H) (t : Nat) (p0 : Int32) : Prop := ∃ fs3 : List Value, G t = some (.inr (5, fs3)) ∧ wX5_noOwner (fun r1 G2 => (r1 = 0 → (wX5_credit_14 post px G2 t p0 t 0)) ∧ (¬ r1 = 0 → (wX5_credit_14 post px G2 t p0 t 1))) px G t p0
set_option maxRecDepth 100000 in
set_option maxHeartbeats 4000000 in
theorem mX5_credit (l : Launch) (hl0 : l.stackTraces = false) (D : va_G) (AC : Nat → ClassId) (sa : gh_SA) (t : Nat) (p0 : Int32) (post : Int64 → gh_H → Prop) (px : String → gh_H → Prop) (G : gh_H) (sz : Nat) (hw : wX5_credit post px G t p0) : vx_Met l yX5_credit wsX5_credit rmX5_credit (gh_Pc D vwCl AC (gh_ty AC) (gh_En sa) G sz [.ref t, .int p0]) (va_Ql post (gh_B D vwCl AC (gh_A G sz)) (gh_A G sz)) (gh_X D vwCl AC px (gh_A G sz)) 0 0 (gh_A G sz) := by
  refine vx_ofW (cc := prog_7_method_33_code) (maxL := 2) (ret := (some .long)) (by decide) rfl ?_
  intro p e s m args below meth c s₁ B hml hnoh hv
  obtain ⟨rfl, hsz, hP, hK, hE⟩ := hv
  have hx := B.exec
  have hb := B.bytes
  have hr := B.returns
  have hts := atoms_spec (ws := wsX5_credit) B.pre
  have hown : s.vm.findClass "OwnerLedgerModel" = some m.cls := findClass_of_methodNamed B.named
  have hlocks := B.notSynchronized
  have htb : c.exceptionTable.toList = [] := List.eq_nil_iff_forall_not_mem.mpr hnoh
  subst hsz
  have hA : ∀ q, s.heap.size ≤ q → gh_A G s.heap.size q := fun q h => Or.inr h
  generalize gh_A G s.heap.size = A at hP hE hA ⊢
  have hno : ∀ (pc : Nat), ∀ x ∈ c.exceptionTable.toList, covers x pc = false := by rw [htb]; intro _ _ h; cases h
  have CX : cxX5_credit p s m [.ref t, .int p0].toArray meth c D AC sa A := ⟨⟨hx, hb, hml, hown, hts⟩, hr, hlocks, htb, hK, hE, hA⟩
  have hS : va_S A s.heap s.heap [] := va_S.rf
  have hl := lv_entry ([.ref t, .int p0]) (n := 2) (Nat.le_of_ble_eq_true rfl)
  rw [lg_entry_eq]
  generalize (lg_sl ([.ref t, .int p0]) ++ List.replicate (2 - (lg_sl ([.ref t, .int p0])).length) Slot.unset).toArray = ls at hl ⊢
  have hl : lv_has ls 2 [(0, .ref t), (1, .int p0)] := hl
  dsimp only [wX5_credit] at hw
  refine lv_aload_n hx hb dX5_credit_0 rfl (lv_at hl 0 rfl) ?_
  refine lv_aload_n hx hb dX5_credit_1 rfl (lv_at hl 0 rfl) ?_
  refine lv_iload_n hx hb dX5_credit_2 rfl (lv_at hl 1 rfl) ?_
  obtain ⟨fs3, he4, hw⟩ := hw
  refine gh_ci hlocks (hno _) (vx_runV (C := "OwnerLedgerModel") (As := [.int p0]) (rest := [.ref t]) ⟨hx, hb, hml, hown, hts⟩ (mX5_noOwner l hl0 D AC sa _ _ _ _ _ _ hw) (cwV 1 hts (gV kw_410 kw_411 kw_540 kw_2 kw_412) rfl rfl rfl (by decide +kernel) ⟨Nat.le_of_ble_eq_true rfl, Nat.le_of_ble_eq_true rfl⟩) (gh_preV gh_En_ok hK hE hP hS hA he4 rfl _) rfl rfl hl.1 rfl (lv_room (Nat.le_of_ble_eq_true rfl)) dX5_credit_3 ⟨Nat.le_of_ble_eq_true rfl, Nat.le_of_ble_eq_true rfl⟩) hP hS hA (Nat.le_of_ble_eq_true rfl) (Nat.le_of_ble_eq_true rfl) (fun r1 G2 H locs hw2 hP hS => ?_)
  replace hw := hw2
  clear hw2
  refine lv_if_eq (tgt := 13) hx hb dX5_credit_6 (by decide) (fun c5 => ?_) (fun c5 => ?_)
  · replace hw := hw.1 c5
    refine lv_iconst (v := 0) hx hb dX5_credit_13 (by decide) ?_
    have hl := lv_sub (l' := [(0, .ref t), (1, .int p0)]) hl [0, 1] rfl
    exact lX5_credit_14 hl0 CX post px _ t p0 t 0 _ _ hw hP hS ls hl
  · replace hw := hw.2 c5
    refine lv_iconst (v := 1) hx hb dX5_credit_9 (by decide) ?_
    refine lv_goto (tgt := 14) hx hb dX5_credit_10 (by decide) ?_
    have hl := lv_sub (l' := [(0, .ref t), (1, .int p0)]) hl [0, 1] rfl
    exact lX5_credit_14 hl0 CX post px _ t p0 t 1 _ _ hw hP hS ls hl
