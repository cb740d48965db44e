abbrev rmX5_dun : Room := { frames := 1, cells := 0, slots := 0, locals := 21 }
abbrev cxX5_dun (p : Program) (s : State) (m : MethodId) (args : Array Value) (meth : Method) (c : Code) (D : va_G) (AC : Nat → ClassId) (sa : gh_SA) (A : Nat → Prop) : Prop := CallFix p m c prog_7_method_27_code 2 s args wsX5_dun "OwnerLedgerModel" ∧ meth.sig.returnType = (some .int) ∧ meth.locks = false ∧ c.exceptionTable.toList = [] ∧ va_K D vwCl (gh_ty AC) s ∧ gh_En sa A s s.heap ∧ (∀ q, s.heap.size ≤ q → A q)
def wX5_dun_96 (post : Int32 → gh_H → Prop) (px : String → gh_H → Prop) (G : gh_H) (t : Nat) (p0 : Int32) : Prop := ∃ (fs1 : List Value) (x4 : Nat), G t = some (.inr (5, fs1)) ∧ fs1[21]? = some (.ref x4) ∧ (∃ (n5 : Nat) (f6 : Nat → Int32), G x4 = some (.inl (0, n5, .inl f6)) ∧ vp_in (p0 - 1) n5 ∧ (post (f6 (Int32.toNatClampNeg (p0 - 1))) G))
set_option maxRecDepth 100000 in
set_option maxHeartbeats 4000000 in
theorem lX5_dun_96 {p : Program} {l : Launch} {e : Env} {s : State} {m : MethodId} {args : Array Value} {below : List Frame} {meth : Method} {c : Code} {D : va_G} {AC : Nat → ClassId} {sa : gh_SA} {A : Nat → Prop} (hl0 : l.stackTraces = false) (CX : cxX5_dun p s m args meth c D AC sa A) (post : Int32 → gh_H → Prop) (px : String → gh_H → Prop) : ∀ (G : gh_H) (t : Nat) (p0 : Int32) (H : Heap) (locs : List Loc), wX5_dun_96 post px G t p0 → gh_h D vwCl AC A G H → va_S A s.heap H locs → ∀ ls : Array Slot, lv_has ls 2 [(0, .ref t), (1, .int p0)] → W p l e rmX5_dun s m args below meth c H locs 0 0 (vx_MQ below (va_Qi post (gh_B D vwCl AC A) A) (gh_X D vwCl AC px A) args s 0 0 A) (F0 m 96 ls []) := by
  obtain ⟨⟨hx, hb, hml, hown, hts⟩, hr, hlocks, htb, hK, hE, hA⟩ := id CX
  have hno : ∀ (pc : Nat), ∀ x ∈ c.exceptionTable.toList, covers x pc = false := by rw [htb]; intro _ _ h; cases h
  intro G t p0 H locs hw hP hS ls hl
  dsimp only [wX5_dun_96] at hw
  refine lv_aload_n hx hb dX5_dun_96 rfl (lv_at hl 0 rfl) ?_
  obtain ⟨fs1, x4, he2, hv3, hw⟩ := hw
  refine gh_get (ci := 5) (v := .ref x4) (C := "OwnerLedgerModel") (T := TX5) (N := 24) hx hb hts (fun w h => gT_up (inX5 w h)) hown hK hP he2 rfl 21 (by decide) (hts _ (gT_up kw_393)) (fun _ h9 => h9) hv3 dX5_dun_97 ?_
  refine lv_iload_n hx hb dX5_dun_100 rfl (lv_at hl 1 rfl) ?_
  refine lv_iconst (v := 1) hx hb dX5_dun_101 (by decide) ?_
  refine lv_isub hx hb dX5_dun_102 ?_
  obtain ⟨n5, f6, he7, hi8, hw⟩ := hw
  refine gh_iald hx hb hK hP he7 rfl hi8 dX5_dun_103 ?_
  exact gh_iret hx hb hr hlocks hw hP hS (Nat.le_of_ble_eq_true rfl) (Nat.le_of_ble_eq_true rfl) dX5_dun_104
def wX5_dun_40 (post : Int32 → gh_H → Prop) (px : String → gh_H → Prop) (G : gh_H) (t : Nat) (p0 : Int32) (s0 : Nat) (s1 : Int32) : Prop := ∃ fs1 : List Value, G s0 = some (.inr (5, fs1)) ∧ 0 < fs1.length ∧ (∀ G4 : gh_H, G4 = gh_up G s0 (.inr (5, fs1.set 0 (.int s1))) → ∃ (fs6 : List Value) (x9 : Int32), G4 t = some (.inr (5, fs6)) ∧ fs6[0]? = some (.int x9) ∧ ((x9 = 0 → (∃ (fs11 : List Value) (x14 : Nat), G4 t = some (.inr (5, fs11)) ∧ fs11[21]? = some (.ref x14) ∧ (∃ (fs15 : List Value) (x18 : Nat), G4 t = some (.inr (5, fs15)) ∧ fs15[21]? = some (.ref x18) ∧ (∃ (n19 : Nat) (f20 : Nat → Int32), G4 x18 = some (.inl (0, n19, .inl f20)) ∧ vp_in (p0 - 1) n19 ∧ (∃ (n23 : Nat) (f24 : Nat → Int32), G4 x14 = some (.inl (0, n23, .inl f24)) ∧ vp_in (p0 - 1) n23 ∧ (∀ G28 : gh_H, G28 = gh_up G4 x14 (.inl (0, n23, .inl (upd f24 (Int32.toNatClampNeg (p0 - 1)) ((f20 (Int32.toNatClampNeg (p0 - 1))) + 1)))) → ∃ (fs29 : List Value) (x32 : Nat), G28 t = some (.inr (5, fs29)) ∧ fs29[21]? = some (.ref x32) ∧ (∃ (n33 : Nat) (f34 : Nat → Int32), G28 x32 = some (.inl (0, n33, .inl f34)) ∧ vp_in (p0 - 1) n33 ∧ ((¬ (f34 (Int32.toNatClampNeg (p0 - 1))) = 3 → (wX5_dun_96 post px G28 t p0)) ∧ ((f34 (Int32.toNatClampNeg (p0 - 1))) = 3 → (∃ (fs38 : List Value) (x41 : Nat), G28 t = some (.inr (5, fs38)) ∧ fs38[4]? = some (.ref x41) ∧ (∃ (fs42 : List Value) (x45 : Nat), G28 t = some (.inr (5, fs42)) ∧ fs42[18]? = some (.ref x45) ∧ (∃ (n46 : Nat) (f47 : Nat → Int32), G28 x45 = some (.inl (0, n46, .inl f47)) ∧ vp_in (p0 - 1) n46 ∧ (∃ (n50 : Nat) (f51 : Nat → Int32), G28 x41 = some (.inl (2, n50, .inl f51)) ∧ vp_in (f47 (Int32.toNatClampNeg (p0 - 1))) n50 ∧ (∀ G55 : gh_H, G55 = gh_up G28 x41 (.inl (2, n50, .inl (upd f51 (Int32.toNatClampNeg (f47 (Int32.toNatClampNeg (p0 - 1)))) (vp_nar .boolean 1)))) → wX5_dun_96 post px G55 t p0)))))))))))))) ∧ (¬ x9 = 0 → (post 0 G4))))
set_option maxRecDepth 100000 in
set_option maxHeartbeats 4000000 in
theorem lX5_dun_40 {p : Program} {l : Launch} {e : Env} {s : State} {m : MethodId} {args : Array Value} {below : List Frame} {meth : Method} {c : Code} {D : va_G} {AC : Nat → ClassId} {sa : gh_SA} {A : Nat → Prop} (hl0 : l.stackTraces = false) (CX : cxX5_dun p s m args meth c D AC sa A) (post : Int32 → gh_H → Prop) (px : String → gh_H → Prop) : ∀ (G : gh_H) (t : Nat) (p0 : Int32) (s0 : Nat) (s1 : Int32) (H : Heap) (locs : List Loc), wX5_dun_40 post px G t p0 s0 s1 → gh_h D vwCl AC A G H → va_S A s.heap H locs → ∀ ls : Array Slot, lv_has ls 2 [(0, .ref t), (1, .int p0)] → W p l e rmX5_dun s m args below meth c H locs 0 0 (vx_MQ below (va_Qi post (gh_B D vwCl AC A) A) (gh_X D vwCl AC px A) args s 0 0 A) (F0 m 40 ls [.int s1, .ref s0]) := by
  obtain ⟨⟨hx, hb, hml, hown, hts⟩, hr, hlocks, htb, hK, hE, hA⟩ := id CX
  have hno : ∀ (pc : Nat), ∀ x ∈ c.exceptionTable.toList, covers x pc = false := by rw [htb]; intro _ _ h; cases h
  intro G t p0 s0 s1 H locs hw hP hS ls hl
  dsimp only [wX5_dun_40] at hw
  obtain ⟨fs1, he2, hk3, hw⟩ := hw
  refine gh_put (ci := 5) (v := .int s1) (ty := .int) (C := "OwnerLedgerModel") (T := TX5) (N := 24) hx hb hts (fun w h => gT_up (inX5 w h)) tyX5 tyX5_ok nmX5 hown hK hP hS he2 rfl 0 (by decide) (hts _ (gT_up kw_372)) (fun _ h9 => h9) rfl (by decide +kernel) rfl rfl hk3 dX5_dun_40 (fun G4 H locs eG5 hP hS => ?_)
  replace hw := hw G4 eG5
  refine lv_aload_n hx hb dX5_dun_43 rfl (lv_at hl 0 rfl) ?_
  obtain ⟨fs6, x9, he7, hv8, hw⟩ := hw
  refine gh_get (ci := 5) (v := .int x9) (C := "OwnerLedgerModel") (T := TX5) (N := 24) hx hb hts (fun w h => gT_up (inX5 w h)) hown hK hP he7 rfl 0 (by decide) (hts _ (gT_up kw_372)) (fun _ h9 => h9) hv8 dX5_dun_44 ?_
  refine lv_if_eq (tgt := 52) hx hb dX5_dun_47 (by decide) (fun c10 => ?_) (fun c10 => ?_)
  · replace hw := hw.1 c10
    refine lv_aload_n hx hb dX5_dun_52 rfl (lv_at hl 0 rfl) ?_
    obtain ⟨fs11, x14, he12, hv13, hw⟩ := hw
    refine gh_get (ci := 5) (v := .ref x14) (C := "OwnerLedgerModel") (T := TX5) (N := 24) hx hb hts (fun w h => gT_up (inX5 w h)) hown hK hP he12 rfl 21 (by decide) (hts _ (gT_up kw_393)) (fun _ h9 => h9) hv13 dX5_dun_53 ?_
    refine lv_iload_n hx hb dX5_dun_56 rfl (lv_at hl 1 rfl) ?_
    refine lv_iconst (v := 1) hx hb dX5_dun_57 (by decide) ?_
    refine lv_isub hx hb dX5_dun_58 ?_
    refine lv_aload_n hx hb dX5_dun_59 rfl (lv_at hl 0 rfl) ?_
    obtain ⟨fs15, x18, he16, hv17, hw⟩ := hw
    refine gh_get (ci := 5) (v := .ref x18) (C := "OwnerLedgerModel") (T := TX5) (N := 24) hx hb hts (fun w h => gT_up (inX5 w h)) hown hK hP he16 rfl 21 (by decide) (hts _ (gT_up kw_393)) (fun _ h9 => h9) hv17 dX5_dun_60 ?_
    refine lv_iload_n hx hb dX5_dun_63 rfl (lv_at hl 1 rfl) ?_
    refine lv_iconst (v := 1) hx hb dX5_dun_64 (by decide) ?_
    refine lv_isub hx hb dX5_dun_65 ?_
    obtain ⟨n19, f20, he21, hi22, hw⟩ := hw
    refine gh_iald hx hb hK hP he21 rfl hi22 dX5_dun_66 ?_
    refine lv_iconst (v := 1) hx hb dX5_dun_67 (by decide) ?_
    refine lv_iadd hx hb dX5_dun_68 ?_
    obtain ⟨n23, f24, he25, hi26, hw⟩ := hw
    refine gh_iast hx hb hK hP hS he25 rfl hi26 dX5_dun_69 (fun G28 H locs eG27 hP hS => ?_)
    replace hw := hw G28 eG27
    refine lv_aload_n hx hb dX5_dun_70 rfl (lv_at hl 0 rfl) ?_
    obtain ⟨fs29, x32, he30, hv31, hw⟩ := hw
    refine gh_get (ci := 5) (v := .ref x32) (C := "OwnerLedgerModel") (T := TX5) (N := 24) hx hb hts (fun w h => gT_up (inX5 w h)) hown hK hP he30 rfl 21 (by decide) (hts _ (gT_up kw_393)) (fun _ h9 => h9) hv31 dX5_dun_71 ?_
    refine lv_iload_n hx hb dX5_dun_74 rfl (lv_at hl 1 rfl) ?_
    refine lv_iconst (v := 1) hx hb dX5_dun_75 (by decide) ?_
    refine lv_isub hx hb dX5_dun_76 ?_
    obtain ⟨n33, f34, he35, hi36, hw⟩ := hw
    refine gh_iald hx hb hK hP he35 rfl hi36 dX5_dun_77 ?_
    refine lv_iconst (v := 3) hx hb dX5_dun_78 (by decide) ?_
    refine lv_icmp_ne (tgt := 96) hx hb dX5_dun_79 (by decide) (fun c37 => ?_) (fun c37 => ?_)
    · replace hw := hw.1 c37
      have hl := lv_sub (l' := [(0, .ref t), (1, .int p0)]) hl [0, 1] rfl
      exact lX5_dun_96 hl0 CX post px _ t p0 _ _ hw hP hS ls hl
    · replace hw := hw.2 c37
      refine lv_aload_n hx hb dX5_dun_82 rfl (lv_at hl 0 rfl) ?_
      obtain ⟨fs38, x41, he39, hv40, hw⟩ := hw
      refine gh_get (ci := 5) (v := .ref x41) (C := "OwnerLedgerModel") (T := TX5) (N := 24) hx hb hts (fun w h => gT_up (inX5 w h)) hown hK hP he39 rfl 4 (by decide) (hts _ (gT_up kw_376)) (fun _ h9 => h9) hv40 dX5_dun_83 ?_
      refine lv_aload_n hx hb dX5_dun_86 rfl (lv_at hl 0 rfl) ?_
      obtain ⟨fs42, x45, he43, hv44, hw⟩ := hw
      refine gh_get (ci := 5) (v := .ref x45) (C := "OwnerLedgerModel") (T := TX5) (N := 24) hx hb hts (fun w h => gT_up (inX5 w h)) hown hK hP he43 rfl 18 (by decide) (hts _ (gT_up kw_390)) (fun _ h9 => h9) hv44 dX5_dun_87 ?_
      refine lv_iload_n hx hb dX5_dun_90 rfl (lv_at hl 1 rfl) ?_
      refine lv_iconst (v := 1) hx hb dX5_dun_91 (by decide) ?_
      refine lv_isub hx hb dX5_dun_92 ?_
      obtain ⟨n46, f47, he48, hi49, hw⟩ := hw
      refine gh_iald hx hb hK hP he48 rfl hi49 dX5_dun_93 ?_
      refine lv_iconst (v := 1) hx hb dX5_dun_94 (by decide) ?_
      obtain ⟨n50, f51, he52, hi53, hw⟩ := hw
      refine gh_zast hx hb hK hP hS he52 rfl hi53 dX5_dun_95 (fun G55 H locs eG54 hP hS => ?_)
      replace hw := hw G55 eG54
      have hl := lv_sub (l' := [(0, .ref t), (1, .int p0)]) hl [0, 1] rfl
      exact lX5_dun_96 hl0 CX post px _ t p0 _ _ hw hP hS ls hl
  · replace hw := hw.2 c10
    refine lv_iconst (v := 0) hx hb dX5_dun_50 (by decide) ?_
    exact gh_iret hx hb hr hlocks hw hP hS (Nat.le_of_ble_eq_true rfl) (Nat.le_of_ble_eq_true rfl) dX5_dun_51
def wX5_dun (post : Int32 → gh_H → Prop) (px : String → gh_H → Prop) (G : gh_H) (t : Nat) (p0 : Int32) : Prop := ∃ fs3 : List Value, G t = some (.inr (5, fs3)) ∧ wX5_noInvoice (fun r1 G2 => (r1 = 0 → (∃ fs8 : List Value, G2 t = some (.inr (5, fs8)) ∧ wX5_overdue (fun r6 G7 => (r6 = 0 → (wX5_dun_40 post px G7 t p0 t 2)) ∧ (¬ r6 = 0 → (∃ (fs11 : List Value) (x14 : Nat), G7 t = some (.inr (5, fs11)) ∧ fs11[21]? = some (.ref x14) ∧ (∃ (n15 : Nat) (f16 : Nat → Int32), G7 x14 = some (.inl (0, n15, .inl f16)) ∧ vp_in (p0 - 1) n15 ∧ ((¬ (f16 (Int32.toNatClampNeg (p0 - 1))) = 3 → (wX5_dun_40 post px G7 t p0 t 0)) ∧ ((f16 (Int32.toNatClampNeg (p0 - 1))) = 3 → (wX5_dun_40 post px G7 t p0 t 2))))))) px G2 t (p0 - 1))) ∧ (¬ r1 = 0 → (wX5_dun_40 post px G2 t p0 t 1))) px G t p0
set_option maxRecDepth 100000 in
set_option maxHeartbeats 4000000 in
theorem mX5_dun (l : Launch) (hl0 : l.stackTraces = false) (D : va_G) (AC : Nat → ClassId) (sa : gh_SA) (t : Nat) (p0 : Int32) (post : Int32 → gh_H → Prop) (px : String → gh_H → Prop) (G : gh_H) (sz : Nat) (hw : wX5_dun post px G t p0) : vx_Met l yX5_dun wsX5_dun rmX5_dun (gh_Pc D vwCl AC (gh_ty AC) (gh_En sa) G sz [.ref t, .int p0]) (va_Qi post (gh_B D vwCl AC (gh_A G sz)) (gh_A G sz)) (gh_X D vwCl AC px (gh_A G sz)) 0 0 (gh_A G sz) := by
  refine vx_ofW (cc := prog_7_method_27_code) (maxL := 2) (ret := (some .int)) (by decide) rfl ?_
  intro p e s m args below meth c s₁ B hml hnoh hv
  obtain ⟨rfl, hsz, hP, hK, hE⟩ := hv
  have hx := B.exec
  have hb := B.bytes
  have hr := B.returns
  have hts := atoms_spec (ws := wsX5_dun) B.pre
  have hown : s.vm.findClass "OwnerLedgerModel" = some m.cls := findClass_of_methodNamed B.named
  have hlocks := B.notSynchronized
  have htb : c.exceptionTable.toList = [] := List.eq_nil_iff_forall_not_mem.mpr hnoh
  subst hsz
  have hA : ∀ q, s.heap.size ≤ q → gh_A G s.heap.size q := fun q h => Or.inr h
  generalize gh_A G s.heap.size = A at hP hE hA ⊢
  have hno : ∀ (pc : Nat), ∀ x ∈ c.exceptionTable.toList, covers x pc = false := by rw [htb]; intro _ _ h; cases h
  have CX : cxX5_dun p s m [.ref t, .int p0].toArray meth c D AC sa A := ⟨⟨hx, hb, hml, hown, hts⟩, hr, hlocks, htb, hK, hE, hA⟩
  have hS : va_S A s.heap s.heap [] := va_S.rf
  have hl := lv_entry ([.ref t, .int p0]) (n := 2) (Nat.le_of_ble_eq_true rfl)
  rw [lg_entry_eq]
  generalize (lg_sl ([.ref t, .int p0]) ++ List.replicate (2 - (lg_sl ([.ref t, .int p0])).length) Slot.unset).toArray = ls at hl ⊢
  have hl : lv_has ls 2 [(0, .ref t), (1, .int p0)] := hl
  dsimp only [wX5_dun] at hw
  refine lv_aload_n hx hb dX5_dun_0 rfl (lv_at hl 0 rfl) ?_
  refine lv_aload_n hx hb dX5_dun_1 rfl (lv_at hl 0 rfl) ?_
  refine lv_iload_n hx hb dX5_dun_2 rfl (lv_at hl 1 rfl) ?_
  obtain ⟨fs3, he4, hw⟩ := hw
  refine gh_ci hlocks (hno _) (vx_runV (C := "OwnerLedgerModel") (As := [.int p0]) (rest := [.ref t]) ⟨hx, hb, hml, hown, hts⟩ (mX5_noInvoice l hl0 D AC sa _ _ _ _ _ _ hw) (cwV 1 hts (gV kw_480 kw_481 kw_545 kw_2 kw_482) rfl rfl rfl (by decide +kernel) ⟨Nat.le_of_ble_eq_true rfl, Nat.le_of_ble_eq_true rfl⟩) (gh_preV gh_En_ok hK hE hP hS hA he4 rfl _) rfl rfl hl.1 rfl (lv_room (Nat.le_of_ble_eq_true rfl)) dX5_dun_3 ⟨Nat.le_of_ble_eq_true rfl, Nat.le_of_ble_eq_true rfl⟩) hP hS hA (Nat.le_of_ble_eq_true rfl) (Nat.le_of_ble_eq_true rfl) (fun r1 G2 H locs hw2 hP hS => ?_)
  replace hw := hw2
  clear hw2
  refine lv_if_eq (tgt := 13) hx hb dX5_dun_6 (by decide) (fun c5 => ?_) (fun c5 => ?_)
  · replace hw := hw.1 c5
    refine lv_aload_n hx hb dX5_dun_13 rfl (lv_at hl 0 rfl) ?_
    refine lv_iload_n hx hb dX5_dun_14 rfl (lv_at hl 1 rfl) ?_
    refine lv_iconst (v := 1) hx hb dX5_dun_15 (by decide) ?_
    refine lv_isub hx hb dX5_dun_16 ?_
    obtain ⟨fs8, he9, hw⟩ := hw
    refine gh_ci hlocks (hno _) (vx_runV (C := "OwnerLedgerModel") (As := [.int (p0 - 1)]) (rest := [.ref t]) ⟨hx, hb, hml, hown, hts⟩ (mX5_overdue l hl0 D AC sa _ _ _ _ _ _ hw) (cwV 1 hts (gV kw_491 kw_492 kw_546 kw_2 kw_493) rfl rfl rfl (by decide +kernel) ⟨Nat.le_of_ble_eq_true rfl, Nat.le_of_ble_eq_true rfl⟩) (gh_preV gh_En_ok hK hE hP hS hA he9 rfl _) rfl rfl hl.1 rfl (lv_room (Nat.le_of_ble_eq_true rfl)) dX5_dun_17 ⟨Nat.le_of_ble_eq_true rfl, Nat.le_of_ble_eq_true rfl⟩) hP hS hA (Nat.le_of_ble_eq_true rfl) (Nat.le_of_ble_eq_true rfl) (fun r6 G7 H locs hw2 hP hS => ?_)
    replace hw := hw2
    clear hw2
    refine lv_if_eq (tgt := 35) hx hb dX5_dun_20 (by decide) (fun c10 => ?_) (fun c10 => ?_)
    · replace hw := hw.1 c10
      refine lv_iconst (v := 2) hx hb dX5_dun_35 (by decide) ?_
      refine lv_goto (tgt := 40) hx hb dX5_dun_36 (by decide) ?_
      have hl := lv_sub (l' := [(0, .ref t), (1, .int p0)]) hl [0, 1] rfl
      exact lX5_dun_40 hl0 CX post px _ t p0 t 2 _ _ hw hP hS ls hl
    · replace hw := hw.2 c10
      refine lv_aload_n hx hb dX5_dun_23 rfl (lv_at hl 0 rfl) ?_
      obtain ⟨fs11, x14, he12, hv13, hw⟩ := hw
      refine gh_get (ci := 5) (v := .ref x14) (C := "OwnerLedgerModel") (T := TX5) (N := 24) hx hb hts (fun w h => gT_up (inX5 w h)) hown hK hP he12 rfl 21 (by decide) (hts _ (gT_up kw_393)) (fun _ h9 => h9) hv13 dX5_dun_24 ?_
      refine lv_iload_n hx hb dX5_dun_27 rfl (lv_at hl 1 rfl) ?_
      refine lv_iconst (v := 1) hx hb dX5_dun_28 (by decide) ?_
      refine lv_isub hx hb dX5_dun_29 ?_
      obtain ⟨n15, f16, he17, hi18, hw⟩ := hw
      refine gh_iald hx hb hK hP he17 rfl hi18 dX5_dun_30 ?_
      refine lv_iconst (v := 3) hx hb dX5_dun_31 (by decide) ?_
      refine lv_icmp_ne (tgt := 39) hx hb dX5_dun_32 (by decide) (fun c19 => ?_) (fun c19 => ?_)
      · replace hw := hw.1 c19
        refine lv_iconst (v := 0) hx hb dX5_dun_39 (by decide) ?_
        have hl := lv_sub (l' := [(0, .ref t), (1, .int p0)]) hl [0, 1] rfl
        exact lX5_dun_40 hl0 CX post px _ t p0 t 0 _ _ hw hP hS ls hl
      · replace hw := hw.2 c19
        refine lv_iconst (v := 2) hx hb dX5_dun_35 (by decide) ?_
        refine lv_goto (tgt := 40) hx hb dX5_dun_36 (by decide) ?_
        have hl := lv_sub (l' := [(0, .ref t), (1, .int p0)]) hl [0, 1] rfl
        exact lX5_dun_40 hl0 CX post px _ t p0 t 2 _ _ hw hP hS ls hl
  · replace hw := hw.2 c5
    refine lv_iconst (v := 1) hx hb dX5_dun_9 (by decide) ?_
    refine lv_goto (tgt := 40) hx hb dX5_dun_10 (by decide) ?_
    have hl := lv_sub (l' := [(0, .ref t), (1, .int p0)]) hl [0, 1] rfl
    exact lX5_dun_40 hl0 CX post px _ t p0 t 1 _ _ hw hP hS ls hl
abbrev rmX5_rate : Room := { frames := 1, cells := 0, slots := 0, locals := 25 }
abbrev cxX5_rate (p : Program) (s : State) (m : MethodId) (args : Array Value) (meth : Method) (c : Code) (D : va_G) (AC : Nat → ClassId) (sa : gh_SA) (A : Nat → Prop) : Prop := CallFix p m c prog_7_method_28_code 2 s args wsX5_rate "OwnerLedgerModel" ∧ meth.sig.returnType = none ∧ meth.locks = false ∧ c.exceptionTable.toList = [] ∧ va_K D vwCl (gh_ty AC) s ∧ gh_En sa A s s.heap ∧ (∀ q, s.heap.size ≤ q → A q)
def wX5_rate_18 (post : gh_H → Prop) (px : String → gh_H → Prop) (G : gh_H) (t : Nat) (p0 : Int32) (s0 : Nat) (s1 : Int32) : Prop := ∃ fs1 : List Value, G s0 = some (.inr (5, fs1)) ∧ 0 < fs1.length ∧ (∀ G4 : gh_H, G4 = gh_up G s0 (.inr (5, fs1.set 0 (.int s1))) → ∃ (fs6 : List Value) (x9 : Int32), G4 t = some (.inr (5, fs6)) ∧ fs6[0]? = some (.int x9) ∧ ((¬ x9 = 0 → (post G4)) ∧ (x9 = 0 → (∃ fs11 : List Value, G4 t = some (.inr (5, fs11)) ∧ 23 < fs11.length ∧ (∀ G14 : gh_H, G14 = gh_up G4 t (.inr (5, fs11.set 23 (.int p0))) → post G14)))))
set_option maxRecDepth 100000 in
set_option maxHeartbeats 4000000 in
theorem lX5_rate_18 {p : Program} {l : Launch} {e : Env} {s : State} {m : MethodId} {args : Array Value} {below : List Frame} {meth : Method} {c : Code} {D : va_G} {AC : Nat → ClassId} {sa : gh_SA} {A : Nat → Prop} (hl0 : l.stackTraces = false) (CX : cxX5_rate p s m args meth c D AC sa A) (post : gh_H → Prop) (px : String → gh_H → Prop) : ∀ (G : gh_H) (t : Nat) (p0 : Int32) (s0 : Nat) (s1 : Int32) (H : Heap) (locs : List Loc), wX5_rate_18 post px G t p0 s0 s1 → gh_h D vwCl AC A G H → va_S A s.heap H locs → ∀ ls : Array Slot, lv_has ls 2 [(0, .ref t), (1, .int p0)] → W p l e rmX5_rate s m args below meth c H locs 0 0 (vx_MQ below (va_Qv post (gh_B D vwCl AC A) A) (gh_X D vwCl AC px A) args s 0 0 A) (F0 m 18 ls [.int s1, .ref s0]) := by
  obtain ⟨⟨hx, hb, hml, hown, hts⟩, hr, hlocks, htb, hK, hE, hA⟩ := id CX
  have hno : ∀ (pc : Nat), ∀ x ∈ c.exceptionTable.toList, covers x pc = false := by rw [htb]; intro _ _ h; cases h
  intro G t p0 s0 s1 H locs hw hP hS ls hl
  dsimp only [wX5_rate_18] at hw
  obtain ⟨fs1, he2, hk3, hw⟩ := hw
  refine gh_put (ci := 5) (v := .int s1) (ty := .int) (C := "OwnerLedgerModel") (T := TX5) (N := 24) hx hb hts (fun w h => gT_up (inX5 w h)) tyX5 tyX5_ok nmX5 hown hK hP hS he2 rfl 0 (by decide) (hts _ (gT_up kw_372)) (fun _ h9 => h9) rfl (by decide +kernel) rfl rfl hk3 dX5_rate_18 (fun G4 H locs eG5 hP hS => ?_)
  replace hw := hw G4 eG5
  refine lv_aload_n hx hb dX5_rate_21 rfl (lv_at hl 0 rfl) ?_
  obtain ⟨fs6, x9, he7, hv8, hw⟩ := hw
  refine gh_get (ci := 5) (v := .int x9) (C := "OwnerLedgerModel") (T := TX5) (N := 24) hx hb hts (fun w h => gT_up (inX5 w h)) hown hK hP he7 rfl 0 (by decide) (hts _ (gT_up kw_372)) (fun _ h9 => h9) hv8 dX5_rate_22 ?_
  refine lv_if_ne (tgt := 33) hx hb dX5_rate_25 (by decide) (fun c10 => ?_) (fun c10 => ?_)
  · replace hw := hw.1 c10
    exact gh_vret hx hb hr hlocks hw hP hS (Nat.le_of_ble_eq_true rfl) (Nat.le_of_ble_eq_true rfl) dX5_rate_33
  · replace hw := hw.2 c10
    refine lv_aload_n hx hb dX5_rate_28 rfl (lv_at hl 0 rfl) ?_
    refine lv_iload_n hx hb dX5_rate_29 rfl (lv_at hl 1 rfl) ?_
    obtain ⟨fs11, he12, hk13, hw⟩ := hw
    refine gh_put (ci := 5) (v := .int p0) (ty := .int) (C := "OwnerLedgerModel") (T := TX5) (N := 24) hx hb hts (fun w h => gT_up (inX5 w h)) tyX5 tyX5_ok nmX5 hown hK hP hS he12 rfl 23 (by decide) (hts _ (gT_up kw_395)) (fun _ h9 => h9) rfl (by decide +kernel) rfl rfl hk13 dX5_rate_30 (fun G14 H locs eG15 hP hS => ?_)
    replace hw := hw G14 eG15
    exact gh_vret hx hb hr hlocks hw hP hS (Nat.le_of_ble_eq_true rfl) (Nat.le_of_ble_eq_true rfl) dX5_rate_33
def wX5_rate (post : gh_H → Prop) (px : String → gh_H → Prop) (G : gh_H) (t : Nat) (p0 : Int32) : Prop := wX5_not (fun r1 G2 => (r1 = 0 → (wX5_rate_18 post px G2 t p0 t 0)) ∧ (¬ r1 = 0 → (wX5_rate_18 post px G2 t p0 t 1))) px G (Int32.toInt64 p0) 0 100
set_option maxRecDepth 100000 in
set_option maxHeartbeats 4000000 in
theorem mX5_rate (l : Launch) (hl0 : l.stackTraces = false) (D : va_G) (AC : Nat → ClassId) (sa : gh_SA) (t : Nat) (p0 : Int32) (post : gh_H → Prop) (px : String → gh_H → Prop) (G : gh_H) (sz : Nat) (hw : wX5_rate post px G t p0) : vx_Met l yX5_rate wsX5_rate rmX5_rate (gh_Pc D vwCl AC (gh_ty AC) (gh_En sa) G sz [.ref t, .int p0]) (va_Qv post (gh_B D vwCl AC (gh_A G sz)) (gh_A G sz)) (gh_X D vwCl AC px (gh_A G sz)) 0 0 (gh_A G sz) := by
  refine vx_ofW (cc := prog_7_method_28_code) (maxL := 2) (ret := none) (by decide) rfl ?_
  intro p e s m args below meth c s₁ B hml hnoh hv
  obtain ⟨rfl, hsz, hP, hK, hE⟩ := hv
  have hx := B.exec
  have hb := B.bytes
  have hr := B.returns
  have hts := atoms_spec (ws := wsX5_rate) B.pre
  have hown : s.vm.findClass "OwnerLedgerModel" = some m.cls := findClass_of_methodNamed B.named
  have hlocks := B.notSynchronized
  have htb : c.exceptionTable.toList = [] := List.eq_nil_iff_forall_not_mem.mpr hnoh
  subst hsz
  have hA : ∀ q, s.heap.size ≤ q → gh_A G s.heap.size q := fun q h => Or.inr h
  generalize gh_A G s.heap.size = A at hP hE hA ⊢
  have hno : ∀ (pc : Nat), ∀ x ∈ c.exceptionTable.toList, covers x pc = false := by rw [htb]; intro _ _ h; cases h
  have CX : cxX5_rate p s m [.ref t, .int p0].toArray meth c D AC sa A := ⟨⟨hx, hb, hml, hown, hts⟩, hr, hlocks, htb, hK, hE, hA⟩
  have hS : va_S A s.heap s.heap [] := va_S.rf
  have hl := lv_entry ([.ref t, .int p0]) (n := 2) (Nat.le_of_ble_eq_true rfl)
  rw [lg_entry_eq]
  generalize (lg_sl ([.ref t, .int p0]) ++ List.replicate (2 - (lg_sl ([.ref t, .int p0])).length) Slot.unset).toArray = ls at hl ⊢
  have hl : lv_has ls 2 [(0, .ref t), (1, .int p0)] := hl
  dsimp only [wX5_rate] at hw
  refine lv_aload_n hx hb dX5_rate_0 rfl (lv_at hl 0 rfl) ?_
  refine lv_iload_n hx hb dX5_rate_1 rfl (lv_at hl 1 rfl) ?_
  refine lv_i2l hx hb dX5_rate_2 rfl ?_
  refine lv_lconst (v := 0) hx hb dX5_rate_3 (by decide) ?_
  refine lv_ldc2 (v := 100) hx hb hown (hts _ (gT_up kw_498)) dX5_rate_4 ?_
  refine gh_ci hlocks (hno _) (vx_runS (As := [.long (Int32.toInt64 p0), .long 0, .long 100]) (rest := [.ref t]) ⟨hx, hb, hml, hown, hts⟩ (mX5_not l hl0 D AC sa _ _ _ _ _ _ _ hw) (va_cwS 3 hts (gS kw_414 kw_415 kw_2 kw_416) rfl rfl rfl (by decide +kernel) ⟨Nat.le_of_ble_eq_true rfl, Nat.le_of_ble_eq_true rfl⟩) (gh_pre gh_En_ok hK hE hP hS hA _) rfl rfl hl.1 rfl (lv_room (Nat.le_of_ble_eq_true rfl)) dX5_rate_7 ⟨Nat.le_of_ble_eq_true rfl, Nat.le_of_ble_eq_true rfl⟩) hP hS hA (Nat.le_of_ble_eq_true rfl) (Nat.le_of_ble_eq_true rfl) (fun r1 G2 H locs hw2 hP hS => ?_)
  replace hw := hw2
  clear hw2
  refine lv_if_eq (tgt := 17) hx hb dX5_rate_10 (by decide) (fun c3 => ?_) (fun c3 => ?_)
  · replace hw := hw.1 c3
    refine lv_iconst (v := 0) hx hb dX5_rate_17 (by decide) ?_
    have hl := lv_sub (l' := [(0, .ref t), (1, .int p0)]) hl [0, 1] rfl
    exact lX5_rate_18 hl0 CX post px _ t p0 t 0 _ _ hw hP hS ls hl
  · replace hw := hw.2 c3
    refine lv_iconst (v := 1) hx hb dX5_rate_13 (by decide) ?_
    refine lv_goto (tgt := 18) hx hb dX5_rate_14 (by decide) ?_
    have hl := lv_sub (l' := [(0, .ref t), (1, .int p0)]) hl [0, 1] rfl
    exact lX5_rate_18 hl0 CX post px _ t p0 t 1 _ _ hw hP hS ls hl
abbrev rmX5_interest : Room := { frames := 1, cells := 0, slots := 0, locals := 25 }
abbrev cxX5_interest (p : Program) (s : State) (m : MethodId) (args : Array Value) (meth : Method) (c : Code) (D : va_G) (AC : Nat → ClassId) (sa : gh_SA) (A : Nat → Prop) : Prop := CallFix p m c prog_7_method_29_code 11 s args wsX5_interest "OwnerLedgerModel" ∧ meth.sig.returnType = (some .long) ∧ meth.locks = false ∧ c.exceptionTable.toList = [] ∧ va_K D vwCl (gh_ty AC) s ∧ gh_En sa A s s.heap ∧ (∀ q, s.heap.size ≤ q → A q)
def wX5_interest_92 (post : Int64 → gh_H → Prop) (px : String → gh_H → Prop) : Nat → gh_H → Int32 → Int64 → Int64 → Int64 → Prop
  | 0 => fun _ _ _ _ _ => False
  | n + 1 => fun G p1 v3 v5 v7 => ((lg_cmp v5 0) = 0 → ((¬ p1 = 0 → (¬ v7 = 0 ∧ (post (1200 / v7) G))) ∧ (p1 = 0 → (¬ v7 = 0 ∧ (post (v3 / v7) G))))) ∧ (¬ (lg_cmp v5 0) = 0 → (¬ v5 = 0 ∧ (wX5_interest_92 post px n G p1 v3 (v7 - v7 / v5 * v5) v5)))
set_option maxRecDepth 100000 in
set_option maxHeartbeats 4000000 in
theorem lX5_interest_92 {p : Program} {l : Launch} {e : Env} {s : State} {m : MethodId} {args : Array Value} {below : List Frame} {meth : Method} {c : Code} {D : va_G} {AC : Nat → ClassId} {sa : gh_SA} {A : Nat → Prop} (hl0 : l.stackTraces = false) (CX : cxX5_interest p s m args meth c D AC sa A) (post : Int64 → gh_H → Prop) (px : String → gh_H → Prop) : ∀ n : Nat, ∀ (G : gh_H) (p1 : Int32) (v3 : Int64) (v5 : Int64) (v7 : Int64) (H : Heap) (locs : List Loc), wX5_interest_92 post px n G p1 v3 v5 v7 → gh_h D vwCl AC A G H → va_S A s.heap H locs → ∀ ls : Array Slot, lv_has ls 11 [(2, .int p1), (3, .long v3), (5, .long v5), (7, .long v7)] → W p l e rmX5_interest s m args below meth c H locs 0 0 (vx_MQ below (va_Ql post (gh_B D vwCl AC A) A) (gh_X D vwCl AC px A) args s 0 0 A) (F0 m 92 ls []) := by
  obtain ⟨⟨hx, hb, hml, hown, hts⟩, hr, hlocks, htb, hK, hE, hA⟩ := id CX
  have hno : ∀ (pc : Nat), ∀ x ∈ c.exceptionTable.toList, covers x pc = false := by rw [htb]; intro _ _ h; cases h
  intro n
  induction n with
  | zero =>
    intro G p1 v3 v5 v7 H locs hw
    exact False.elim hw
  | succ n ih =>
    intro G p1 v3 v5 v7 H locs hw hP hS ls hl
    dsimp only [wX5_interest_92] at hw
    refine lv_lload hx hb dX5_interest_92 (lv_at hl 2 rfl) ?_
    refine lv_lconst (v := 0) hx hb dX5_interest_94 (by decide) ?_
    refine W.lcmp hx hb dX5_interest_95 ?_
    refine lv_if_eq (tgt := 117) hx hb dX5_interest_96 (by decide) (fun c1 => ?_) (fun c1 => ?_)
    · replace hw := hw.1 c1
      refine lv_iload_n hx hb dX5_interest_117 rfl (lv_at hl 0 rfl) ?_
      refine lv_if_ne (tgt := 128) hx hb dX5_interest_118 (by decide) (fun c2 => ?_) (fun c2 => ?_)
      · replace hw := hw.1 c2
        refine lv_ldc2 (v := 1200) hx hb hown (hts _ (gT_up kw_503)) dX5_interest_128 ?_
        refine lv_lload hx hb dX5_interest_131 (lv_at hl 3 rfl) ?_
        obtain ⟨hz3, hw⟩ := hw
        refine lv_ldiv hx hb dX5_interest_133 hz3 ?_
        exact gh_lret hx hb hr hlocks hw hP hS (Nat.le_of_ble_eq_true rfl) (Nat.le_of_ble_eq_true rfl) dX5_interest_134
      · replace hw := hw.2 c2
        refine lv_lload_n hx hb dX5_interest_121 rfl (lv_at hl 1 rfl) ?_
        refine lv_lload hx hb dX5_interest_122 (lv_at hl 3 rfl) ?_
        obtain ⟨hz4, hw⟩ := hw
        refine lv_ldiv hx hb dX5_interest_124 hz4 ?_
        refine lv_goto (tgt := 134) hx hb dX5_interest_125 (by decide) ?_
        exact gh_lret hx hb hr hlocks hw hP hS (Nat.le_of_ble_eq_true rfl) (Nat.le_of_ble_eq_true rfl) dX5_interest_134
    · replace hw := hw.2 c1
      refine lv_lload hx hb dX5_interest_99 (lv_at hl 3 rfl) ?_
      refine lv_lload hx hb dX5_interest_101 (lv_at hl 2 rfl) ?_
      obtain ⟨hz5, hw⟩ := hw
      refine lv_lrem hx hb dX5_interest_103 hz5 ?_
      refine lv_lstore (lv' := [(9, .long (v7 - v7 / v5 * v5)), (2, .int p1), (3, .long v3), (5, .long v5), (7, .long v7)]) hx hb dX5_interest_104 hl (by decide) rfl (fun ls hl => ?_)
      refine lv_lload hx hb dX5_interest_106 (lv_at hl 3 rfl) ?_
      refine lv_lstore (lv' := [(7, .long v5), (9, .long (v7 - v7 / v5 * v5)), (2, .int p1), (3, .long v3), (5, .long v5)]) hx hb dX5_interest_108 hl (by decide) rfl (fun ls hl => ?_)
      refine lv_lload hx hb dX5_interest_110 (lv_at hl 1 rfl) ?_
      refine lv_lstore (lv' := [(5, .long (v7 - v7 / v5 * v5)), (7, .long v5), (9, .long (v7 - v7 / v5 * v5)), (2, .int p1), (3, .long v3)]) hx hb dX5_interest_112 hl (by decide) rfl (fun ls hl => ?_)
      refine lv_goto (tgt := 92) hx hb dX5_interest_114 (by decide) ?_
      have hl := lv_sub (l' := [(2, .int p1), (3, .long v3), (5, .long (v7 - v7 / v5 * v5)), (7, .long v5)]) hl [3, 4, 0, 1] rfl
      exact ih _ p1 v3 (v7 - v7 / v5 * v5) v5 _ _ hw hP hS ls hl
def wX5_interest_83 (post : Int64 → gh_H → Prop) (px : String → gh_H → Prop) (G : gh_H) (p1 : Int32) (s0 : Int64) : Prop := wX5_interest_92 post px 300 G p1 s0 s0 1200
set_option maxRecDepth 100000 in
set_option maxHeartbeats 4000000 in
theorem lX5_interest_83 {p : Program} {l : Launch} {e : Env} {s : State} {m : MethodId} {args : Array Value} {below : List Frame} {meth : Method} {c : Code} {D : va_G} {AC : Nat → ClassId} {sa : gh_SA} {A : Nat → Prop} (hl0 : l.stackTraces = false) (CX : cxX5_interest p s m args meth c D AC sa A) (post : Int64 → gh_H → Prop) (px : String → gh_H → Prop) : ∀ (G : gh_H) (p1 : Int32) (s0 : Int64) (H : Heap) (locs : List Loc), wX5_interest_83 post px G p1 s0 → gh_h D vwCl AC A G H → va_S A s.heap H locs → ∀ ls : Array Slot, lv_has ls 11 [(2, .int p1)] → W p l e rmX5_interest s m args below meth c H locs 0 0 (vx_MQ below (va_Ql post (gh_B D vwCl AC A) A) (gh_X D vwCl AC px A) args s 0 0 A) (F0 m 83 ls [.long s0]) := by
  obtain ⟨⟨hx, hb, hml, hown, hts⟩, hr, hlocks, htb, hK, hE, hA⟩ := id CX
  have hno : ∀ (pc : Nat), ∀ x ∈ c.exceptionTable.toList, covers x pc = false := by rw [htb]; intro _ _ h; cases h
  intro G p1 s0 H locs hw hP hS ls hl
  dsimp only [wX5_interest_83] at hw
  refine lv_lstore_n (lv' := [(3, .long s0), (2, .int p1)]) hx hb dX5_interest_83 rfl hl (by decide) rfl (fun ls hl => ?_)
  refine lv_lload_n hx hb dX5_interest_84 rfl (lv_at hl 0 rfl) ?_
  refine lv_lstore (lv' := [(5, .long s0), (3, .long s0), (2, .int p1)]) hx hb dX5_interest_85 hl (by decide) rfl (fun ls hl => ?_)
  refine lv_ldc2 (v := 1200) hx hb hown (hts _ (gT_up kw_503)) dX5_interest_87 ?_
  refine lv_lstore (lv' := [(7, .long 1200), (5, .long s0), (3, .long s0), (2, .int p1)]) hx hb dX5_interest_90 hl (by decide) rfl (fun ls hl => ?_)
  have hl := lv_sub (l' := [(2, .int p1), (3, .long s0), (5, .long s0), (7, .long 1200)]) hl [3, 2, 1, 0] rfl
  exact lX5_interest_92 hl0 CX post px _ _ p1 s0 s0 1200 _ _ hw hP hS ls hl
def wX5_interest_28 (post : Int64 → gh_H → Prop) (px : String → gh_H → Prop) (G : gh_H) (t : Nat) (p0 : Int32) (p1 : Int32) (s0 : Nat) (s1 : Int32) : Prop := ∃ fs1 : List Value, G s0 = some (.inr (5, fs1)) ∧ 0 < fs1.length ∧ (∀ G4 : gh_H, G4 = gh_up G s0 (.inr (5, fs1.set 0 (.int s1))) → ∃ (fs6 : List Value) (x9 : Int32), G4 t = some (.inr (5, fs6)) ∧ fs6[0]? = some (.int x9) ∧ ((x9 = 0 → (∃ fs13 : List Value, G4 t = some (.inr (5, fs13)) ∧ wX5_overdue (fun r11 G12 => (r11 = 0 → (wX5_interest_83 post px G12 p1 0)) ∧ (¬ r11 = 0 → (∃ (fs16 : List Value) (x19 : Nat), G12 t = some (.inr (5, fs16)) ∧ fs16[19]? = some (.ref x19) ∧ (∃ (n20 : Nat) (f21 : Nat → Int64), G12 x19 = some (.inl (1, n20, .inr (.inl f21))) ∧ vp_in (p0 - 1) n20 ∧ (∃ (fs24 : List Value) (x27 : Int32), G12 t = some (.inr (5, fs24)) ∧ fs24[1]? = some (.int x27) ∧ (∃ (fs28 : List Value) (x31 : Nat), G12 t = some (.inr (5, fs28)) ∧ fs28[20]? = some (.ref x31) ∧ (∃ (n32 : Nat) (f33 : Nat → Int32), G12 x31 = some (.inl (0, n32, .inl f33)) ∧ vp_in (p0 - 1) n32 ∧ (∃ (fs36 : List Value) (x39 : Int32), G12 t = some (.inr (5, fs36)) ∧ fs36[23]? = some (.int x39) ∧ (wX5_interest_83 post px G12 p1 (((f21 (Int32.toNatClampNeg (p0 - 1))) * (Int32.toInt64 (x27 - (f33 (Int32.toNatClampNeg (p0 - 1)))))) * (Int32.toInt64 x39))))))))))) px G4 t (p0 - 1))) ∧ (¬ x9 = 0 → (post 0 G4))))
set_option maxRecDepth 100000 in
set_option maxHeartbeats 4000000 in
theorem lX5_interest_28 {p : Program} {l : Launch} {e : Env} {s : State} {m : MethodId} {args : Array Value} {below : List Frame} {meth : Method} {c : Code} {D : va_G} {AC : Nat → ClassId} {sa : gh_SA} {A : Nat → Prop} (hl0 : l.stackTraces = false) (CX : cxX5_interest p s m args meth c D AC sa A) (post : Int64 → gh_H → Prop) (px : String → gh_H → Prop) : ∀ (G : gh_H) (t : Nat) (p0 : Int32) (p1 : Int32) (s0 : Nat) (s1 : Int32) (H : Heap) (locs : List Loc), wX5_interest_28 post px G t p0 p1 s0 s1 → gh_h D vwCl AC A G H → va_S A s.heap H locs → ∀ ls : Array Slot, lv_has ls 11 [(0, .ref t), (1, .int p0), (2, .int p1)] → W p l e rmX5_interest s m args below meth c H locs 0 0 (vx_MQ below (va_Ql post (gh_B D vwCl AC A) A) (gh_X D vwCl AC px A) args s 0 0 A) (F0 m 28 ls [.int s1, .ref s0]) := by
  obtain ⟨⟨hx, hb, hml, hown, hts⟩, hr, hlocks, htb, hK, hE, hA⟩ := id CX
  have hno : ∀ (pc : Nat), ∀ x ∈ c.exceptionTable.toList, covers x pc = false := by rw [htb]; intro _ _ h; cases h
  intro G t p0 p1 s0 s1 H locs hw hP hS ls hl
  dsimp only [wX5_interest_28] at hw
  obtain ⟨fs1, he2, hk3, hw⟩ := hw
  refine gh_put (ci := 5) (v := .int s1) (ty := .int) (C := "OwnerLedgerModel") (T := TX5) (N := 24) hx hb hts (fun w h => gT_up (inX5 w h)) tyX5 tyX5_ok nmX5 hown hK hP hS he2 rfl 0 (by decide) (hts _ (gT_up kw_372)) (fun _ h9 => h9) rfl (by decide +kernel) rfl rfl hk3 dX5_interest_28 (fun G4 H locs eG5 hP hS => ?_)
  replace hw := hw G4 eG5
  refine lv_aload_n hx hb dX5_interest_31 rfl (lv_at hl 0 rfl) ?_
  obtain ⟨fs6, x9, he7, hv8, hw⟩ := hw
  refine gh_get (ci := 5) (v := .int x9) (C := "OwnerLedgerModel") (T := TX5) (N := 24) hx hb hts (fun w h => gT_up (inX5 w h)) hown hK hP he7 rfl 0 (by decide) (hts _ (gT_up kw_372)) (fun _ h9 => h9) hv8 dX5_interest_32 ?_
  refine lv_if_eq (tgt := 40) hx hb dX5_interest_35 (by decide) (fun c10 => ?_) (fun c10 => ?_)
  · replace hw := hw.1 c10
    refine lv_aload_n hx hb dX5_interest_40 rfl (lv_at hl 0 rfl) ?_
    refine lv_iload_n hx hb dX5_interest_41 rfl (lv_at hl 1 rfl) ?_
    refine lv_iconst (v := 1) hx hb dX5_interest_42 (by decide) ?_
    refine lv_isub hx hb dX5_interest_43 ?_
    obtain ⟨fs13, he14, hw⟩ := hw
    refine gh_ci hlocks (hno _) (vx_runV (C := "OwnerLedgerModel") (As := [.int (p0 - 1)]) (rest := []) ⟨hx, hb, hml, hown, hts⟩ (mX5_overdue l hl0 D AC sa _ _ _ _ _ _ hw) (cwV 1 hts (gV kw_491 kw_492 kw_546 kw_2 kw_493) rfl rfl rfl (by decide +kernel) ⟨Nat.le_of_ble_eq_true rfl, Nat.le_of_ble_eq_true rfl⟩) (gh_preV gh_En_ok hK hE hP hS hA he14 rfl _) rfl rfl hl.1 rfl (lv_room (Nat.le_of_ble_eq_true rfl)) dX5_interest_44 ⟨Nat.le_of_ble_eq_true rfl, Nat.le_of_ble_eq_true rfl⟩) hP hS hA (Nat.le_of_ble_eq_true rfl) (Nat.le_of_ble_eq_true rfl) (fun r11 G12 H locs hw2 hP hS => ?_)
    replace hw := hw2
    clear hw2
    refine lv_if_eq (tgt := 82) hx hb dX5_interest_47 (by decide) (fun c15 => ?_) (fun c15 => ?_)
    · replace hw := hw.1 c15
      refine lv_lconst (v := 0) hx hb dX5_interest_82 (by decide) ?_
      have hl := lv_sub (l' := [(2, .int p1)]) hl [2] rfl
      exact lX5_interest_83 hl0 CX post px _ p1 0 _ _ hw hP hS ls hl
    · replace hw := hw.2 c15
      refine lv_aload_n hx hb dX5_interest_50 rfl (lv_at hl 0 rfl) ?_
      obtain ⟨fs16, x19, he17, hv18, hw⟩ := hw
      refine gh_get (ci := 5) (v := .ref x19) (C := "OwnerLedgerModel") (T := TX5) (N := 24) hx hb hts (fun w h => gT_up (inX5 w h)) hown hK hP he17 rfl 19 (by decide) (hts _ (gT_up kw_391)) (fun _ h9 => h9) hv18 dX5_interest_51 ?_
      refine lv_iload_n hx hb dX5_interest_54 rfl (lv_at hl 1 rfl) ?_
      refine lv_iconst (v := 1) hx hb dX5_interest_55 (by decide) ?_
      refine lv_isub hx hb dX5_interest_56 ?_
      obtain ⟨n20, f21, he22, hi23, hw⟩ := hw
      refine gh_lald hx hb hK hP he22 rfl hi23 dX5_interest_57 ?_
      refine lv_aload_n hx hb dX5_interest_58 rfl (lv_at hl 0 rfl) ?_
      obtain ⟨fs24, x27, he25, hv26, hw⟩ := hw
      refine gh_get (ci := 5) (v := .int x27) (C := "OwnerLedgerModel") (T := TX5) (N := 24) hx hb hts (fun w h => gT_up (inX5 w h)) hown hK hP he25 rfl 1 (by decide) (hts _ (gT_up kw_373)) (fun _ h9 => h9) hv26 dX5_interest_59 ?_
      refine lv_aload_n hx hb dX5_interest_62 rfl (lv_at hl 0 rfl) ?_
      obtain ⟨fs28, x31, he29, hv30, hw⟩ := hw
      refine gh_get (ci := 5) (v := .ref x31) (C := "OwnerLedgerModel") (T := TX5) (N := 24) hx hb hts (fun w h => gT_up (inX5 w h)) hown hK hP he29 rfl 20 (by decide) (hts _ (gT_up kw_392)) (fun _ h9 => h9) hv30 dX5_interest_63 ?_
      refine lv_iload_n hx hb dX5_interest_66 rfl (lv_at hl 1 rfl) ?_
      refine lv_iconst (v := 1) hx hb dX5_interest_67 (by decide) ?_
      refine lv_isub hx hb dX5_interest_68 ?_
      obtain ⟨n32, f33, he34, hi35, hw⟩ := hw
      refine gh_iald hx hb hK hP he34 rfl hi35 dX5_interest_69 ?_
      refine lv_isub hx hb dX5_interest_70 ?_
      refine lv_i2l hx hb dX5_interest_71 rfl ?_
      refine lv_lmul hx hb dX5_interest_72 ?_
      refine lv_aload_n hx hb dX5_interest_73 rfl (lv_at hl 0 rfl) ?_
      obtain ⟨fs36, x39, he37, hv38, hw⟩ := hw
      refine gh_get (ci := 5) (v := .int x39) (C := "OwnerLedgerModel") (T := TX5) (N := 24) hx hb hts (fun w h => gT_up (inX5 w h)) hown hK hP he37 rfl 23 (by decide) (hts _ (gT_up kw_395)) (fun _ h9 => h9) hv38 dX5_interest_74 ?_
      refine lv_i2l hx hb dX5_interest_77 rfl ?_
      refine lv_lmul hx hb dX5_interest_78 ?_
      refine lv_goto (tgt := 83) hx hb dX5_interest_79 (by decide) ?_
      have hl := lv_sub (l' := [(2, .int p1)]) hl [2] rfl
      exact lX5_interest_83 hl0 CX post px _ p1 (((f21 (Int32.toNatClampNeg (p0 - 1))) * (Int32.toInt64 (x27 - (f33 (Int32.toNatClampNeg (p0 - 1)))))) * (Int32.toInt64 x39)) _ _ hw hP hS ls hl
  · replace hw := hw.2 c10
    refine lv_lconst (v := 0) hx hb dX5_interest_38 (by decide) ?_
    exact gh_lret hx hb hr hlocks hw hP hS (Nat.le_of_ble_eq_true rfl) (Nat.le_of_ble_eq_true rfl) dX5_interest_39
def wX5_interest (post : Int64 → gh_H → Prop) (px : String → gh_H → Prop) (G : gh_H) (t : Nat) (p0 : Int32) (p1 : Int32) : Prop := ∃ fs3 : List Value, G t = some (.inr (5, fs3)) ∧ wX5_noInvoice (fun r1 G2 => (r1 = 0 → (wX5_not (fun r6 G7 => (r6 = 0 → (wX5_interest_28 post px G7 t p0 p1 t 0)) ∧ (¬ r6 = 0 → (wX5_interest_28 post px G7 t p0 p1 t 2))) px G2 (Int32.toInt64 p1) 0 1)) ∧ (¬ r1 = 0 → (wX5_interest_28 post px G2 t p0 p1 t 1))) px G t p0
set_option maxRecDepth 100000 in
set_option maxHeartbeats 4000000 in
theorem mX5_interest (l : Launch) (hl0 : l.stackTraces = false) (D : va_G) (AC : Nat → ClassId) (sa : gh_SA) (t : Nat) (p0 : Int32) (p1 : Int32) (post : Int64 → gh_H → Prop) (px : String → gh_H → Prop) (G : gh_H) (sz : Nat) (hw : wX5_interest post px G t p0 p1) : vx_Met l yX5_interest wsX5_interest rmX5_interest (gh_Pc D vwCl AC (gh_ty AC) (gh_En sa) G sz [.ref t, .int p0, .int p1]) (va_Ql post (gh_B D vwCl AC (gh_A G sz)) (gh_A G sz)) (gh_X D vwCl AC px (gh_A G sz)) 0 0 (gh_A G sz) := by
  refine vx_ofW (cc := prog_7_method_29_code) (maxL := 11) (ret := (some .long)) (by decide) rfl ?_
  intro p e s m args below meth c s₁ B hml hnoh hv
  obtain ⟨rfl, hsz, hP, hK, hE⟩ := hv
  have hx := B.exec
  have hb := B.bytes
  have hr := B.returns
  have hts := atoms_spec (ws := wsX5_interest) B.pre
  have hown : s.vm.findClass "OwnerLedgerModel" = some m.cls := findClass_of_methodNamed B.named
  have hlocks := B.notSynchronized
  have htb : c.exceptionTable.toList = [] := List.eq_nil_iff_forall_not_mem.mpr hnoh
  subst hsz
  have hA : ∀ q, s.heap.size ≤ q → gh_A G s.heap.size q := fun q h => Or.inr h
  generalize gh_A G s.heap.size = A at hP hE hA ⊢
  have hno : ∀ (pc : Nat), ∀ x ∈ c.exceptionTable.toList, covers x pc = false := by rw [htb]; intro _ _ h; cases h
  have CX : cxX5_interest p s m [.ref t, .int p0, .int p1].toArray meth c D AC sa A := ⟨⟨hx, hb, hml, hown, hts⟩, hr, hlocks, htb, hK, hE, hA⟩
  have hS : va_S A s.heap s.heap [] := va_S.rf
  have hl := lv_entry ([.ref t, .int p0, .int p1]) (n := 11) (Nat.le_of_ble_eq_true rfl)
  rw [lg_entry_eq]
  generalize (lg_sl ([.ref t, .int p0, .int p1]) ++ List.replicate (11 - (lg_sl ([.ref t, .int p0, .int p1])).length) Slot.unset).toArray = ls at hl ⊢
  have hl : lv_has ls 11 [(0, .ref t), (1, .int p0), (2, .int p1)] := hl
  dsimp only [wX5_interest] at hw
  refine lv_aload_n hx hb dX5_interest_0 rfl (lv_at hl 0 rfl) ?_
  refine lv_aload_n hx hb dX5_interest_1 rfl (lv_at hl 0 rfl) ?_
  refine lv_iload_n hx hb dX5_interest_2 rfl (lv_at hl 1 rfl) ?_
  obtain ⟨fs3, he4, hw⟩ := hw
  refine gh_ci hlocks (hno _) (vx_runV (C := "OwnerLedgerModel") (As := [.int p0]) (rest := [.ref t]) ⟨hx, hb, hml, hown, hts⟩ (mX5_noInvoice l hl0 D AC sa _ _ _ _ _ _ hw) (cwV 1 hts (gV kw_480 kw_481 kw_545 kw_2 kw_482) rfl rfl rfl (by decide +kernel) ⟨Nat.le_of_ble_eq_true rfl, Nat.le_of_ble_eq_true rfl⟩) (gh_preV gh_En_ok hK hE hP hS hA he4 rfl _) rfl rfl hl.1 rfl (lv_room (Nat.le_of_ble_eq_true rfl)) dX5_interest_3 ⟨Nat.le_of_ble_eq_true rfl, Nat.le_of_ble_eq_true rfl⟩) hP hS hA (Nat.le_of_ble_eq_true rfl) (Nat.le_of_ble_eq_true rfl) (fun r1 G2 H locs hw2 hP hS => ?_)
  replace hw := hw2
  clear hw2
  refine lv_if_eq (tgt := 13) hx hb dX5_interest_6 (by decide) (fun c5 => ?_) (fun c5 => ?_)
  · replace hw := hw.1 c5
    refine lv_iload_n hx hb dX5_interest_13 rfl (lv_at hl 2 rfl) ?_
    refine lv_i2l hx hb dX5_interest_14 rfl ?_
    refine lv_lconst (v := 0) hx hb dX5_interest_15 (by decide) ?_
    refine lv_lconst (v := 1) hx hb dX5_interest_16 (by decide) ?_
    refine gh_ci hlocks (hno _) (vx_runS (As := [.long (Int32.toInt64 p1), .long 0, .long 1]) (rest := [.ref t]) ⟨hx, hb, hml, hown, hts⟩ (mX5_not l hl0 D AC sa _ _ _ _ _ _ _ hw) (va_cwS 3 hts (gS kw_414 kw_415 kw_2 kw_416) rfl rfl rfl (by decide +kernel) ⟨Nat.le_of_ble_eq_true rfl, Nat.le_of_ble_eq_true rfl⟩) (gh_pre gh_En_ok hK hE hP hS hA _) rfl rfl hl.1 rfl (lv_room (Nat.le_of_ble_eq_true rfl)) dX5_interest_17 ⟨Nat.le_of_ble_eq_true rfl, Nat.le_of_ble_eq_true rfl⟩) hP hS hA (Nat.le_of_ble_eq_true rfl) (Nat.le_of_ble_eq_true rfl) (fun r6 G7 H locs hw2 hP hS => ?_)
    replace hw := hw2
    clear hw2
    refine lv_if_eq (tgt := 27) hx hb dX5_interest_20 (by decide) (fun c8 => ?_) (fun c8 => ?_)
    · replace hw := hw.1 c8
      refine lv_iconst (v := 0) hx hb dX5_interest_27 (by decide) ?_
      have hl := lv_sub (l' := [(0, .ref t), (1, .int p0), (2, .int p1)]) hl [0, 1, 2] rfl
      exact lX5_interest_28 hl0 CX post px _ t p0 p1 t 0 _ _ hw hP hS ls hl
    · replace hw := hw.2 c8
      refine lv_iconst (v := 2) hx hb dX5_interest_23 (by decide) ?_
      refine lv_goto (tgt := 28) hx hb dX5_interest_24 (by decide) ?_
      have hl := lv_sub (l' := [(0, .ref t), (1, .int p0), (2, .int p1)]) hl [0, 1, 2] rfl
      exact lX5_interest_28 hl0 CX post px _ t p0 p1 t 2 _ _ hw hP hS ls hl
  · replace hw := hw.2 c5
    refine lv_iconst (v := 1) hx hb dX5_interest_9 (by decide) ?_
    refine lv_goto (tgt := 28) hx hb dX5_interest_10 (by decide) ?_
    have hl := lv_sub (l' := [(0, .ref t), (1, .int p0), (2, .int p1)]) hl [0, 1, 2] rfl
    exact lX5_interest_28 hl0 CX post px _ t p0 p1 t 1 _ _ hw hP hS ls hl
abbrev rmX5_hold : Room := { frames := 2, cells := 0, slots := 0, locals := 44 }
abbrev cxX5_hold (p : Program) (s : State) (m : MethodId) (args : Array Value) (meth : Method) (c : Code) (D : va_G) (AC : Nat → ClassId) (sa : gh_SA) (A : Nat → Prop) : Prop := CallFix p m c prog_7_method_30_code 3 s args wsX5_hold "OwnerLedgerModel" ∧ meth.sig.returnType = (some .int) ∧ meth.locks = false ∧ c.exceptionTable.toList = [] ∧ va_K D vwCl (gh_ty AC) s ∧ gh_En sa A s s.heap ∧ (∀ q, s.heap.size ≤ q → A q)
def wX5_hold_28 (post : Int32 → gh_H → Prop) (px : String → gh_H → Prop) (G : gh_H) (t : Nat) (p0 : Int32) (p1 : Int32) (s0 : Nat) (s1 : Int32) : Prop := ∃ fs1 : List Value, G s0 = some (.inr (5, fs1)) ∧ 0 < fs1.length ∧ (∀ G4 : gh_H, G4 = gh_up G s0 (.inr (5, fs1.set 0 (.int s1))) → ∃ (fs6 : List Value) (x9 : Int32), G4 t = some (.inr (5, fs6)) ∧ fs6[0]? = some (.int x9) ∧ ((x9 = 0 → (∃ (fs11 : List Value) (x14 : Nat), G4 t = some (.inr (5, fs11)) ∧ fs11[4]? = some (.ref x14) ∧ (∃ (n15 : Nat) (f16 : Nat → Int32), G4 x14 = some (.inl (2, n15, .inl f16)) ∧ vp_in p0 n15 ∧ (∀ G20 : gh_H, G20 = gh_up G4 x14 (.inl (2, n15, .inl (upd f16 (Int32.toNatClampNeg p0) (vp_nar .boolean p1)))) → ∃ fs23 : List Value, G20 t = some (.inr (5, fs23)) ∧ wX5_overdues (fun r21 G22 => post r21 G22) px G20 t p0)))) ∧ (¬ x9 = 0 → (post 0 G4))))
set_option maxRecDepth 100000 in
set_option maxHeartbeats 4000000 in
theorem lX5_hold_28 {p : Program} {l : Launch} {e : Env} {s : State} {m : MethodId} {args : Array Value} {below : List Frame} {meth : Method} {c : Code} {D : va_G} {AC : Nat → ClassId} {sa : gh_SA} {A : Nat → Prop} (hl0 : l.stackTraces = false) (CX : cxX5_hold p s m args meth c D AC sa A) (post : Int32 → gh_H → Prop) (px : String → gh_H → Prop) : ∀ (G : gh_H) (t : Nat) (p0 : Int32) (p1 : Int32) (s0 : Nat) (s1 : Int32) (H : Heap) (locs : List Loc), wX5_hold_28 post px G t p0 p1 s0 s1 → gh_h D vwCl AC A G H → va_S A s.heap H locs → ∀ ls : Array Slot, lv_has ls 3 [(0, .ref t), (1, .int p0), (2, .int p1)] → W p l e rmX5_hold s m args below meth c H locs 0 0 (vx_MQ below (va_Qi post (gh_B D vwCl AC A) A) (gh_X D vwCl AC px A) args s 0 0 A) (F0 m 28 ls [.int s1, .ref s0]) := by
  obtain ⟨⟨hx, hb, hml, hown, hts⟩, hr, hlocks, htb, hK, hE, hA⟩ := id CX
  have hno : ∀ (pc : Nat), ∀ x ∈ c.exceptionTable.toList, covers x pc = false := by rw [htb]; intro _ _ h; cases h
  intro G t p0 p1 s0 s1 H locs hw hP hS ls hl
  dsimp only [wX5_hold_28] at hw
  obtain ⟨fs1, he2, hk3, hw⟩ := hw
  refine gh_put (ci := 5) (v := .int s1) (ty := .int) (C := "OwnerLedgerModel") (T := TX5) (N := 24) hx hb hts (fun w h => gT_up (inX5 w h)) tyX5 tyX5_ok nmX5 hown hK hP hS he2 rfl 0 (by decide) (hts _ (gT_up kw_372)) (fun _ h9 => h9) rfl (by decide +kernel) rfl rfl hk3 dX5_hold_28 (fun G4 H locs eG5 hP hS => ?_)
  replace hw := hw G4 eG5
  refine lv_aload_n hx hb dX5_hold_31 rfl (lv_at hl 0 rfl) ?_
  obtain ⟨fs6, x9, he7, hv8, hw⟩ := hw
  refine gh_get (ci := 5) (v := .int x9) (C := "OwnerLedgerModel") (T := TX5) (N := 24) hx hb hts (fun w h => gT_up (inX5 w h)) hown hK hP he7 rfl 0 (by decide) (hts _ (gT_up kw_372)) (fun _ h9 => h9) hv8 dX5_hold_32 ?_
  refine lv_if_eq (tgt := 40) hx hb dX5_hold_35 (by decide) (fun c10 => ?_) (fun c10 => ?_)
  · replace hw := hw.1 c10
    refine lv_aload_n hx hb dX5_hold_40 rfl (lv_at hl 0 rfl) ?_
    obtain ⟨fs11, x14, he12, hv13, hw⟩ := hw
    refine gh_get (ci := 5) (v := .ref x14) (C := "OwnerLedgerModel") (T := TX5) (N := 24) hx hb hts (fun w h => gT_up (inX5 w h)) hown hK hP he12 rfl 4 (by decide) (hts _ (gT_up kw_376)) (fun _ h9 => h9) hv13 dX5_hold_41 ?_
    refine lv_iload_n hx hb dX5_hold_44 rfl (lv_at hl 1 rfl) ?_
    refine lv_iload_n hx hb dX5_hold_45 rfl (lv_at hl 2 rfl) ?_
    obtain ⟨n15, f16, he17, hi18, hw⟩ := hw
    refine gh_zast hx hb hK hP hS he17 rfl hi18 dX5_hold_46 (fun G20 H locs eG19 hP hS => ?_)
    replace hw := hw G20 eG19
    refine lv_aload_n hx hb dX5_hold_47 rfl (lv_at hl 0 rfl) ?_
    refine lv_iload_n hx hb dX5_hold_48 rfl (lv_at hl 1 rfl) ?_
    obtain ⟨fs23, he24, hw⟩ := hw
    refine gh_ci hlocks (hno _) (vx_runV (C := "OwnerLedgerModel") (As := [.int p0]) (rest := []) ⟨hx, hb, hml, hown, hts⟩ (mX5_overdues l hl0 D AC sa _ _ _ _ _ _ hw) (cwV 1 hts (gV kw_508 kw_509 kw_547 kw_2 kw_510) rfl rfl rfl (by decide +kernel) ⟨Nat.le_of_ble_eq_true rfl, Nat.le_of_ble_eq_true rfl⟩) (gh_preV gh_En_ok hK hE hP hS hA he24 rfl _) rfl rfl hl.1 rfl (lv_room (Nat.le_of_ble_eq_true rfl)) dX5_hold_49 ⟨Nat.le_of_ble_eq_true rfl, Nat.le_of_ble_eq_true rfl⟩) hP hS hA (Nat.le_of_ble_eq_true rfl) (Nat.le_of_ble_eq_true rfl) (fun r21 G22 H locs hw2 hP hS => ?_)
    replace hw := hw2
    clear hw2
    exact gh_iret hx hb hr hlocks hw hP hS (Nat.le_of_ble_eq_true rfl) (Nat.le_of_ble_eq_true rfl) dX5_hold_52
  · replace hw := hw.2 c10
    refine lv_iconst (v := 0) hx hb dX5_hold_38 (by decide) ?_
    exact gh_iret hx hb hr hlocks hw hP hS (Nat.le_of_ble_eq_true rfl) (Nat.le_of_ble_eq_true rfl) dX5_hold_39
def wX5_hold (post : Int32 → gh_H → Prop) (px : String → gh_H → Prop) (G : gh_H) (t : Nat) (p0 : Int32) (p1 : Int32) : Prop := ∃ fs3 : List Value, G t = some (.inr (5, fs3)) ∧ wX5_noOwner (fun r1 G2 => (r1 = 0 → (∃ (fs6 : List Value) (x9 : Nat), G2 t = some (.inr (5, fs6)) ∧ fs6[4]? = some (.ref x9) ∧ (∃ (n10 : Nat) (f11 : Nat → Int32), G2 x9 = some (.inl (2, n10, .inl f11)) ∧ vp_in p0 n10 ∧ ((¬ (f11 (Int32.toNatClampNeg p0)) = p1 → (wX5_hold_28 post px G2 t p0 p1 t 0)) ∧ ((f11 (Int32.toNatClampNeg p0)) = p1 → (wX5_hold_28 post px G2 t p0 p1 t 2)))))) ∧ (¬ r1 = 0 → (wX5_hold_28 post px G2 t p0 p1 t 1))) px G t p0
set_option maxRecDepth 100000 in
set_option maxHeartbeats 4000000 in
theorem mX5_hold (l : Launch) (hl0 : l.stackTraces = false) (D : va_G) (AC : Nat → ClassId) (sa : gh_SA) (t : Nat) (p0 : Int32) (p1 : Int32) (post : Int32 → gh_H → Prop) (px : String → gh_H → Prop) (G : gh_H) (sz : Nat) (hw : wX5_hold post px G t p0 p1) : vx_Met l yX5_hold wsX5_hold rmX5_hold (gh_Pc D vwCl AC (gh_ty AC) (gh_En sa) G sz [.ref t, .int p0, .int p1]) (va_Qi post (gh_B D vwCl AC (gh_A G sz)) (gh_A G sz)) (gh_X D vwCl AC px (gh_A G sz)) 0 0 (gh_A G sz) := by
  refine vx_ofW (cc := prog_7_method_30_code) (maxL := 3) (ret := (some .int)) (by decide) rfl ?_
  intro p e s m args below meth c s₁ B hml hnoh hv
  obtain ⟨rfl, hsz, hP, hK, hE⟩ := hv
  have hx := B.exec
  have hb := B.bytes
  have hr := B.returns
  have hts := atoms_spec (ws := wsX5_hold) B.pre
  have hown : s.vm.findClass "OwnerLedgerModel" = some m.cls := findClass_of_methodNamed B.named
  have hlocks := B.notSynchronized
  have htb : c.exceptionTable.toList = [] := List.eq_nil_iff_forall_not_mem.mpr hnoh
  subst hsz
  have hA : ∀ q, s.heap.size ≤ q → gh_A G s.heap.size q := fun q h => Or.inr h
  generalize gh_A G s.heap.size = A at hP hE hA ⊢
  have hno : ∀ (pc : Nat), ∀ x ∈ c.exceptionTable.toList, covers x pc = false := by rw [htb]; intro _ _ h; cases h
  have CX : cxX5_hold p s m [.ref t, .int p0, .int p1].toArray meth c D AC sa A := ⟨⟨hx, hb, hml, hown, hts⟩, hr, hlocks, htb, hK, hE, hA⟩
  have hS : va_S A s.heap s.heap [] := va_S.rf
  have hl := lv_entry ([.ref t, .int p0, .int p1]) (n := 3) (Nat.le_of_ble_eq_true rfl)
  rw [lg_entry_eq]
  generalize (lg_sl ([.ref t, .int p0, .int p1]) ++ List.replicate (3 - (lg_sl ([.ref t, .int p0, .int p1])).length) Slot.unset).toArray = ls at hl ⊢
  have hl : lv_has ls 3 [(0, .ref t), (1, .int p0), (2, .int p1)] := hl
  dsimp only [wX5_hold] at hw
  refine lv_aload_n hx hb dX5_hold_0 rfl (lv_at hl 0 rfl) ?_
  refine lv_aload_n hx hb dX5_hold_1 rfl (lv_at hl 0 rfl) ?_
  refine lv_iload_n hx hb dX5_hold_2 rfl (lv_at hl 1 rfl) ?_
  obtain ⟨fs3, he4, hw⟩ := hw
  refine gh_ci hlocks (hno _) (vx_runV (C := "OwnerLedgerModel") (As := [.int p0]) (rest := [.ref t]) ⟨hx, hb, hml, hown, hts⟩ (mX5_noOwner l hl0 D AC sa _ _ _ _ _ _ hw) (cwV 1 hts (gV kw_410 kw_411 kw_540 kw_2 kw_412) rfl rfl rfl (by decide +kernel) ⟨Nat.le_of_ble_eq_true rfl, Nat.le_of_ble_eq_true rfl⟩) (gh_preV gh_En_ok hK hE hP hS hA he4 rfl _) rfl rfl hl.1 rfl (lv_room (Nat.le_of_ble_eq_true rfl)) dX5_hold_3 ⟨Nat.le_of_ble_eq_true rfl, Nat.le_of_ble_eq_true rfl⟩) hP hS hA (Nat.le_of_ble_eq_true rfl) (Nat.le_of_ble_eq_true rfl) (fun r1 G2 H locs hw2 hP hS => ?_)
  replace hw := hw2
  clear hw2
  refine lv_if_eq (tgt := 13) hx hb dX5_hold_6 (by decide) (fun c5 => ?_) (fun c5 => ?_)
  · replace hw := hw.1 c5
    refine lv_aload_n hx hb dX5_hold_13 rfl (lv_at hl 0 rfl) ?_
    obtain ⟨fs6, x9, he7, hv8, hw⟩ := hw
    refine gh_get (ci := 5) (v := .ref x9) (C := "OwnerLedgerModel") (T := TX5) (N := 24) hx hb hts (fun w h => gT_up (inX5 w h)) hown hK hP he7 rfl 4 (by decide) (hts _ (gT_up kw_376)) (fun _ h9 => h9) hv8 dX5_hold_14 ?_
    refine lv_iload_n hx hb dX5_hold_17 rfl (lv_at hl 1 rfl) ?_
    obtain ⟨n10, f11, he12, hi13, hw⟩ := hw
    refine gh_zald hx hb hK hP he12 rfl hi13 dX5_hold_18 ?_
    refine lv_iload_n hx hb dX5_hold_19 rfl (lv_at hl 2 rfl) ?_
    refine lv_icmp_ne (tgt := 27) hx hb dX5_hold_20 (by decide) (fun c14 => ?_) (fun c14 => ?_)
    · replace hw := hw.1 c14
      refine lv_iconst (v := 0) hx hb dX5_hold_27 (by decide) ?_
      have hl := lv_sub (l' := [(0, .ref t), (1, .int p0), (2, .int p1)]) hl [0, 1, 2] rfl
      exact lX5_hold_28 hl0 CX post px _ t p0 p1 t 0 _ _ hw hP hS ls hl
    · replace hw := hw.2 c14
      refine lv_iconst (v := 2) hx hb dX5_hold_23 (by decide) ?_
      refine lv_goto (tgt := 28) hx hb dX5_hold_24 (by decide) ?_
      have hl := lv_sub (l' := [(0, .ref t), (1, .int p0), (2, .int p1)]) hl [0, 1, 2] rfl
      exact lX5_hold_28 hl0 CX post px _ t p0 p1 t 2 _ _ hw hP hS ls hl
  · replace hw := hw.2 c5
    refine lv_iconst (v := 1) hx hb dX5_hold_9 (by decide) ?_
    refine lv_goto (tgt := 28) hx hb dX5_hold_10 (by decide) ?_
    have hl := lv_sub (l' := [(0, .ref t), (1, .int p0), (2, .int p1)]) hl [0, 1, 2] rfl
    exact lX5_hold_28 hl0 CX post px _ t p0 p1 t 1 _ _ hw hP hS ls hl
