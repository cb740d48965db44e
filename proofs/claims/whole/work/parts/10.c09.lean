abbrev rmX4_count : Room := { frames := 1, cells := 0, slots := 0, locals := 25 }
abbrev cxX4_count (p : Program) (s : State) (m : MethodId) (args : Array Value) (meth : Method) (c : Code) (D : va_G) (AC : Nat → ClassId) (sa : gh_SA) (A : Nat → Prop) : Prop := CallFix p m c prog_1_method_24_code 2 s args wsX4_count "OwnerLedger" ∧ meth.sig.returnType = (some .int) ∧ meth.locks = false ∧ c.exceptionTable.toList = [] ∧ va_K D vwCl (gh_ty AC) s ∧ gh_En sa A s s.heap ∧ (∀ q, s.heap.size ≤ q → A q)
def wX4_count (post : Int32 → gh_H → Prop) (px : String → gh_H → Prop) (G : gh_H) (t : Nat) (p0 : Int32) : Prop := (p0 = 0 → (∃ (fs2 : List Value) (x5 : Int32), G t = some (.inr (4, fs2)) ∧ fs2[4]? = some (.int x5) ∧ (post x5 G))) ∧ (p0 = 1 → (∃ (fs7 : List Value) (x10 : Int32), G t = some (.inr (4, fs7)) ∧ fs7[5]? = some (.int x10) ∧ (post x10 G))) ∧ (p0 = 2 → (∃ (fs12 : List Value) (x15 : Int32), G t = some (.inr (4, fs12)) ∧ fs12[6]? = some (.int x15) ∧ (post x15 G))) ∧ (p0 = 3 → (∃ fs19 : List Value, G t = some (.inr (4, fs19)) ∧ wX4_postedBatches (fun r17 G18 => post r17 G18) px G t)) ∧ (p0 = 4 → (∃ (fs22 : List Value) (x25 : Int32), G t = some (.inr (4, fs22)) ∧ fs22[7]? = some (.int x25) ∧ (post x25 G))) ∧ (p0 = 5 → (∃ fs29 : List Value, G t = some (.inr (4, fs29)) ∧ wX4_unpaidInvoices (fun r27 G28 => post r27 G28) px G t)) ∧ (p0 = 6 → (∃ (fs32 : List Value) (x35 : Int32), G t = some (.inr (4, fs32)) ∧ fs32[8]? = some (.int x35) ∧ (post x35 G))) ∧ (p0 = 7 → (∃ (fs37 : List Value) (x40 : Int32), G t = some (.inr (4, fs37)) ∧ fs37[9]? = some (.int x40) ∧ (post x40 G))) ∧ (p0 = 8 → (∃ fs44 : List Value, G t = some (.inr (4, fs44)) ∧ wX4_heldOwners (fun r42 G43 => post r42 G43) px G t)) ∧ (¬ p0 = 0 → ¬ p0 = 1 → ¬ p0 = 2 → ¬ p0 = 3 → ¬ p0 = 4 → ¬ p0 = 5 → ¬ p0 = 6 → ¬ p0 = 7 → ¬ p0 = 8 → (post (-1) G))
set_option maxRecDepth 100000 in
set_option maxHeartbeats 4000000 in
theorem mX4_count (l : Launch) (hl0 : l.stackTraces = false) (D : va_G) (AC : Nat → ClassId) (sa : gh_SA) (t : Nat) (p0 : Int32) (post : Int32 → gh_H → Prop) (px : String → gh_H → Prop) (G : gh_H) (sz : Nat) (hw : wX4_count post px G t p0) : vx_Met l yX4_count wsX4_count rmX4_count (gh_Pc D vwCl AC (gh_ty AC) (gh_En sa) G sz [.ref t, .int p0]) (va_Qi post (gh_B D vwCl AC (gh_A G sz)) (gh_A G sz)) (gh_X D vwCl AC px (gh_A G sz)) 0 0 (gh_A G sz) := by
  refine vx_ofW (cc := prog_1_method_24_code) (maxL := 2) (ret := (some .int)) (by decide) rfl ?_
  intro p e s m args below meth c s₁ B hml hnoh hv
  obtain ⟨rfl, hsz, hP, hK, hE⟩ := hv
  have hx := B.exec
  have hb := B.bytes
  have hr := B.returns
  have hts := atoms_spec (ws := wsX4_count) B.pre
  have hown : s.vm.findClass "OwnerLedger" = some m.cls := findClass_of_methodNamed B.named
  have hlocks := B.notSynchronized
  have htb : c.exceptionTable.toList = [] := List.eq_nil_iff_forall_not_mem.mpr hnoh
  subst hsz
  have hA : ∀ q, s.heap.size ≤ q → gh_A G s.heap.size q := fun q h => Or.inr h
  generalize gh_A G s.heap.size = A at hP hE hA ⊢
  have hno : ∀ (pc : Nat), ∀ x ∈ c.exceptionTable.toList, covers x pc = false := by rw [htb]; intro _ _ h; cases h
  have CX : cxX4_count p s m [.ref t, .int p0].toArray meth c D AC sa A := ⟨⟨hx, hb, hml, hown, hts⟩, hr, hlocks, htb, hK, hE, hA⟩
  have hS : va_S A s.heap s.heap [] := va_S.rf
  have hl := lv_entry ([.ref t, .int p0]) (n := 2) (Nat.le_of_ble_eq_true rfl)
  rw [lg_entry_eq]
  generalize (lg_sl ([.ref t, .int p0]) ++ List.replicate (2 - (lg_sl ([.ref t, .int p0])).length) Slot.unset).toArray = ls at hl ⊢
  have hl : lv_has ls 2 [(0, .ref t), (1, .int p0)] := hl
  dsimp only [wX4_count] at hw
  refine lv_iload_n hx hb dX4_count_0 rfl (lv_at hl 1 rfl) ?_
  by_cases c1 : p0 = 0
  · replace hw := hw.1 c1
    refine lv_tableIn (tgt := 52) hx hb dX4_count_1 (by rw [c1]; decide) (by rw [c1]; decide) (by rw [c1]; rfl) (by decide) ?_
    refine lv_aload_n hx hb dX4_count_52 rfl (lv_at hl 0 rfl) ?_
    obtain ⟨fs2, x5, he3, hv4, hw⟩ := hw
    refine gh_get (ci := 4) (v := .int x5) (C := "OwnerLedger") (T := TX4) (N := 11) hx hb hts (fun w h => gT_up (inX4 w h)) hown hK hP he3 rfl 4 (by decide) (hts _ (gT_up kw_27)) (fun _ h9 => h9) hv4 dX4_count_53 ?_
    exact gh_iret hx hb hr hlocks hw hP hS (Nat.le_of_ble_eq_true rfl) (Nat.le_of_ble_eq_true rfl) dX4_count_56
  by_cases c6 : p0 = 1
  · replace hw := hw.2.1 c6
    refine lv_tableIn (tgt := 57) hx hb dX4_count_1 (by rw [c6]; decide) (by rw [c6]; decide) (by rw [c6]; rfl) (by decide) ?_
    refine lv_aload_n hx hb dX4_count_57 rfl (lv_at hl 0 rfl) ?_
    obtain ⟨fs7, x10, he8, hv9, hw⟩ := hw
    refine gh_get (ci := 4) (v := .int x10) (C := "OwnerLedger") (T := TX4) (N := 11) hx hb hts (fun w h => gT_up (inX4 w h)) hown hK hP he8 rfl 5 (by decide) (hts _ (gT_up kw_28)) (fun _ h9 => h9) hv9 dX4_count_58 ?_
    exact gh_iret hx hb hr hlocks hw hP hS (Nat.le_of_ble_eq_true rfl) (Nat.le_of_ble_eq_true rfl) dX4_count_61
  by_cases c11 : p0 = 2
  · replace hw := hw.2.2.1 c11
    refine lv_tableIn (tgt := 62) hx hb dX4_count_1 (by rw [c11]; decide) (by rw [c11]; decide) (by rw [c11]; rfl) (by decide) ?_
    refine lv_aload_n hx hb dX4_count_62 rfl (lv_at hl 0 rfl) ?_
    obtain ⟨fs12, x15, he13, hv14, hw⟩ := hw
    refine gh_get (ci := 4) (v := .int x15) (C := "OwnerLedger") (T := TX4) (N := 11) hx hb hts (fun w h => gT_up (inX4 w h)) hown hK hP he13 rfl 6 (by decide) (hts _ (gT_up kw_29)) (fun _ h9 => h9) hv14 dX4_count_63 ?_
    exact gh_iret hx hb hr hlocks hw hP hS (Nat.le_of_ble_eq_true rfl) (Nat.le_of_ble_eq_true rfl) dX4_count_66
  by_cases c16 : p0 = 3
  · replace hw := hw.2.2.2.1 c16
    refine lv_tableIn (tgt := 67) hx hb dX4_count_1 (by rw [c16]; decide) (by rw [c16]; decide) (by rw [c16]; rfl) (by decide) ?_
    refine lv_aload_n hx hb dX4_count_67 rfl (lv_at hl 0 rfl) ?_
    obtain ⟨fs19, he20, hw⟩ := hw
    refine gh_ci hlocks (hno _) (vx_runV (C := "OwnerLedger") (As := []) (rest := []) ⟨hx, hb, hml, hown, hts⟩ (mX4_postedBatches l hl0 D AC sa _ _ _ _ _ hw) (cwV 0 hts (gV kw_39 kw_40 kw_530 kw_1 kw_41) rfl rfl rfl (by decide +kernel) ⟨Nat.le_of_ble_eq_true rfl, Nat.le_of_ble_eq_true rfl⟩) (gh_preV gh_En_ok hK hE hP hS hA he20 rfl _) rfl rfl hl.1 rfl (lv_room (Nat.le_of_ble_eq_true rfl)) dX4_count_68 ⟨Nat.le_of_ble_eq_true rfl, Nat.le_of_ble_eq_true rfl⟩) hP hS hA (Nat.le_of_ble_eq_true rfl) (Nat.le_of_ble_eq_true rfl) (fun r17 G18 H locs hw2 hP hS => ?_)
    replace hw := hw2
    clear hw2
    exact gh_iret hx hb hr hlocks hw hP hS (Nat.le_of_ble_eq_true rfl) (Nat.le_of_ble_eq_true rfl) dX4_count_71
  by_cases c21 : p0 = 4
  · replace hw := hw.2.2.2.2.1 c21
    refine lv_tableIn (tgt := 72) hx hb dX4_count_1 (by rw [c21]; decide) (by rw [c21]; decide) (by rw [c21]; rfl) (by decide) ?_
    refine lv_aload_n hx hb dX4_count_72 rfl (lv_at hl 0 rfl) ?_
    obtain ⟨fs22, x25, he23, hv24, hw⟩ := hw
    refine gh_get (ci := 4) (v := .int x25) (C := "OwnerLedger") (T := TX4) (N := 11) hx hb hts (fun w h => gT_up (inX4 w h)) hown hK hP he23 rfl 7 (by decide) (hts _ (gT_up kw_30)) (fun _ h9 => h9) hv24 dX4_count_73 ?_
    exact gh_iret hx hb hr hlocks hw hP hS (Nat.le_of_ble_eq_true rfl) (Nat.le_of_ble_eq_true rfl) dX4_count_76
  by_cases c26 : p0 = 5
  · replace hw := hw.2.2.2.2.2.1 c26
    refine lv_tableIn (tgt := 77) hx hb dX4_count_1 (by rw [c26]; decide) (by rw [c26]; decide) (by rw [c26]; rfl) (by decide) ?_
    refine lv_aload_n hx hb dX4_count_77 rfl (lv_at hl 0 rfl) ?_
    obtain ⟨fs29, he30, hw⟩ := hw
    refine gh_ci hlocks (hno _) (vx_runV (C := "OwnerLedger") (As := []) (rest := []) ⟨hx, hb, hml, hown, hts⟩ (mX4_unpaidInvoices l hl0 D AC sa _ _ _ _ _ hw) (cwV 0 hts (gV kw_42 kw_43 kw_531 kw_1 kw_44) rfl rfl rfl (by decide +kernel) ⟨Nat.le_of_ble_eq_true rfl, Nat.le_of_ble_eq_true rfl⟩) (gh_preV gh_En_ok hK hE hP hS hA he30 rfl _) rfl rfl hl.1 rfl (lv_room (Nat.le_of_ble_eq_true rfl)) dX4_count_78 ⟨Nat.le_of_ble_eq_true rfl, Nat.le_of_ble_eq_true rfl⟩) hP hS hA (Nat.le_of_ble_eq_true rfl) (Nat.le_of_ble_eq_true rfl) (fun r27 G28 H locs hw2 hP hS => ?_)
    replace hw := hw2
    clear hw2
    exact gh_iret hx hb hr hlocks hw hP hS (Nat.le_of_ble_eq_true rfl) (Nat.le_of_ble_eq_true rfl) dX4_count_81
  by_cases c31 : p0 = 6
  · replace hw := hw.2.2.2.2.2.2.1 c31
    refine lv_tableIn (tgt := 82) hx hb dX4_count_1 (by rw [c31]; decide) (by rw [c31]; decide) (by rw [c31]; rfl) (by decide) ?_
    refine lv_aload_n hx hb dX4_count_82 rfl (lv_at hl 0 rfl) ?_
    obtain ⟨fs32, x35, he33, hv34, hw⟩ := hw
    refine gh_get (ci := 4) (v := .int x35) (C := "OwnerLedger") (T := TX4) (N := 11) hx hb hts (fun w h => gT_up (inX4 w h)) hown hK hP he33 rfl 8 (by decide) (hts _ (gT_up kw_31)) (fun _ h9 => h9) hv34 dX4_count_83 ?_
    exact gh_iret hx hb hr hlocks hw hP hS (Nat.le_of_ble_eq_true rfl) (Nat.le_of_ble_eq_true rfl) dX4_count_86
  by_cases c36 : p0 = 7
  · replace hw := hw.2.2.2.2.2.2.2.1 c36
    refine lv_tableIn (tgt := 87) hx hb dX4_count_1 (by rw [c36]; decide) (by rw [c36]; decide) (by rw [c36]; rfl) (by decide) ?_
    refine lv_aload_n hx hb dX4_count_87 rfl (lv_at hl 0 rfl) ?_
    obtain ⟨fs37, x40, he38, hv39, hw⟩ := hw
    refine gh_get (ci := 4) (v := .int x40) (C := "OwnerLedger") (T := TX4) (N := 11) hx hb hts (fun w h => gT_up (inX4 w h)) hown hK hP he38 rfl 9 (by decide) (hts _ (gT_up kw_32)) (fun _ h9 => h9) hv39 dX4_count_88 ?_
    exact gh_iret hx hb hr hlocks hw hP hS (Nat.le_of_ble_eq_true rfl) (Nat.le_of_ble_eq_true rfl) dX4_count_91
  by_cases c41 : p0 = 8
  · replace hw := hw.2.2.2.2.2.2.2.2.1 c41
    refine lv_tableIn (tgt := 92) hx hb dX4_count_1 (by rw [c41]; decide) (by rw [c41]; decide) (by rw [c41]; rfl) (by decide) ?_
    refine lv_aload_n hx hb dX4_count_92 rfl (lv_at hl 0 rfl) ?_
    obtain ⟨fs44, he45, hw⟩ := hw
    refine gh_ci hlocks (hno _) (vx_runV (C := "OwnerLedger") (As := []) (rest := []) ⟨hx, hb, hml, hown, hts⟩ (mX4_heldOwners l hl0 D AC sa _ _ _ _ _ hw) (cwV 0 hts (gV kw_45 kw_46 kw_532 kw_1 kw_47) rfl rfl rfl (by decide +kernel) ⟨Nat.le_of_ble_eq_true rfl, Nat.le_of_ble_eq_true rfl⟩) (gh_preV gh_En_ok hK hE hP hS hA he45 rfl _) rfl rfl hl.1 rfl (lv_room (Nat.le_of_ble_eq_true rfl)) dX4_count_93 ⟨Nat.le_of_ble_eq_true rfl, Nat.le_of_ble_eq_true rfl⟩) hP hS hA (Nat.le_of_ble_eq_true rfl) (Nat.le_of_ble_eq_true rfl) (fun r42 G43 H locs hw2 hP hS => ?_)
    replace hw := hw2
    clear hw2
    exact gh_iret hx hb hr hlocks hw hP hS (Nat.le_of_ble_eq_true rfl) (Nat.le_of_ble_eq_true rfl) dX4_count_96
  replace hw := hw.2.2.2.2.2.2.2.2.2 c1 c6 c11 c16 c21 c26 c31 c36 c41
  refine lv_tableOut (tgt := 97) hx hb dX4_count_1 (by have h0 := lv_neT (a := 0) c1 (by decide); have h1 := lv_neT (a := 1) c6 (by decide); have h2 := lv_neT (a := 2) c11 (by decide); have h3 := lv_neT (a := 3) c16 (by decide); have h4 := lv_neT (a := 4) c21 (by decide); have h5 := lv_neT (a := 5) c26 (by decide); have h6 := lv_neT (a := 6) c31 (by decide); have h7 := lv_neT (a := 7) c36 (by decide); have h8 := lv_neT (a := 8) c41 (by decide); omega) (by decide) ?_
  refine lv_iconst (v := (-1)) hx hb dX4_count_97 (by decide) ?_
  exact gh_iret hx hb hr hlocks hw hP hS (Nat.le_of_ble_eq_true rfl) (Nat.le_of_ble_eq_true rfl) dX4_count_98
