abbrev rmX4_dun : Room := { frames := 7, cells := 2, slots := 12, locals := 104 }
abbrev cxX4_dun (p : Program) (s : State) (m : MethodId) (args : Array Value) (meth : Method) (c : Code) (D : va_G) (AC : Nat → ClassId) (sa : gh_SA) (A : Nat → Prop) : Prop := CallFix p m c prog_1_method_17_code 3 s args wsX4_dun "OwnerLedger" ∧ meth.sig.returnType = (some .int) ∧ meth.locks = false ∧ c.exceptionTable.toList = [] ∧ va_K D vwCl (gh_ty AC) s ∧ gh_En sa A s s.heap ∧ (∀ q, s.heap.size ≤ q → A q)
def wX4_dun_75 (post : Int32 → gh_H → Prop) (px : String → gh_H → Prop) (G : gh_H) (v2 : Nat) : Prop := ∃ (fs1 : List Value) (x4 : Int32), G v2 = some (.inr (1, fs1)) ∧ fs1[3]? = some (.int x4) ∧ (post x4 G)
set_option maxRecDepth 100000 in
set_option maxHeartbeats 4000000 in
theorem lX4_dun_75 {p : Program} {l : Launch} {e : Env} {s : State} {m : MethodId} {args : Array Value} {below : List Frame} {meth : Method} {c : Code} {D : va_G} {AC : Nat → ClassId} {sa : gh_SA} {A : Nat → Prop} (hl0 : l.stackTraces = false) (CX : cxX4_dun p s m args meth c D AC sa A) (post : Int32 → gh_H → Prop) (px : String → gh_H → Prop) : ∀ (G : gh_H) (v2 : Nat) (H : Heap) (locs : List Loc), wX4_dun_75 post px G v2 → gh_h D vwCl AC A G H → va_S A s.heap H locs → ∀ ls : Array Slot, lv_has ls 3 [(2, .ref v2)] → W p l e rmX4_dun s m args below meth c H locs 2 12 (vx_MQ below (va_Qi post (gh_B D vwCl AC A) A) (gh_X D vwCl AC px A) args s 2 12 A) (F0 m 75 ls []) := by
  obtain ⟨⟨hx, hb, hml, hown, hts⟩, hr, hlocks, htb, hK, hE, hA⟩ := id CX
  have hno : ∀ (pc : Nat), ∀ x ∈ c.exceptionTable.toList, covers x pc = false := by rw [htb]; intro _ _ h; cases h
  intro G v2 H locs hw hP hS ls hl
  dsimp only [wX4_dun_75] at hw
  refine lv_aload_n hx hb dX4_dun_75 rfl (lv_at hl 0 rfl) ?_
  obtain ⟨fs1, x4, he2, hv3, hw⟩ := hw
  refine gh_get (ci := 1) (v := .int x4) (C := "OwnerLedger$Invoice") (T := TX1) (N := 5) hx hb hts (fun w h => gT_up (inX1 w h)) hown hK hP he2 rfl 3 (by decide) (hts _ (gT_up kw_258)) (fun _ h9 => h9) hv3 dX4_dun_76 ?_
  exact gh_iret hx hb hr hlocks hw hP hS (Nat.le_of_ble_eq_true rfl) (Nat.le_of_ble_eq_true rfl) dX4_dun_79
def wX4_dun (post : Int32 → gh_H → Prop) (px : String → gh_H → Prop) (G : gh_H) (t : Nat) (p0 : Int32) : Prop := ∃ fs3 : List Value, G t = some (.inr (4, fs3)) ∧ wX4_findInvoice (fun r1 G2 => ∃ (fs5 : List Value) (x8 : Int32), G2 t = some (.inr (4, fs5)) ∧ fs5[8]? = some (.int x8) ∧ (∃ a9 : Nat, r1 = some a9 ∧ ∃ fs12 : List Value, G2 a9 = some (.inr (1, fs12)) ∧ wX1_isOverdue (fun r10 G11 => (¬ r10 = 0 → (∃ (fs15 : List Value) (x18 : Int32), G11 a9 = some (.inr (1, fs15)) ∧ fs15[3]? = some (.int x18) ∧ ((x18 < 3 → (∃ (fs20 : List Value) (x23 : Int32), G11 a9 = some (.inr (1, fs20)) ∧ fs20[3]? = some (.int x23) ∧ (∃ fs24 : List Value, G11 a9 = some (.inr (1, fs24)) ∧ 3 < fs24.length ∧ (∀ G27 : gh_H, G27 = gh_up G11 a9 (.inr (1, fs24.set 3 (.int (x23 + 1)))) → ∃ (fs29 : List Value) (x32 : Int32), G27 a9 = some (.inr (1, fs29)) ∧ fs29[3]? = some (.int x32) ∧ ((¬ x32 = 3 → (wX4_dun_75 post px G27 a9)) ∧ (x32 = 3 → (∃ (fs34 : List Value) (x37 : Int32), G27 a9 = some (.inr (1, fs34)) ∧ fs34[0]? = some (.int x37) ∧ (∃ fs40 : List Value, G27 t = some (.inr (4, fs40)) ∧ wX4_findOwner (fun r38 G39 => ∃ a42 : Nat, r38 = some a42 ∧ ∃ fs43 : List Value, G39 a42 = some (.inr (2, fs43)) ∧ 1 < fs43.length ∧ (∀ G46 : gh_H, G46 = gh_up G39 a42 (.inr (2, fs43.set 1 (.int 1))) → wX4_dun_75 post px G46 a9)) px G27 t x37)))))))) ∧ (¬ x18 < 3 → (px "java/lang/IllegalStateException" G11))))) ∧ (r10 = 0 → (px "java/lang/IllegalStateException" G11))) px G2 a9 x8)) px G t p0
set_option maxRecDepth 100000 in
set_option maxHeartbeats 4000000 in
theorem mX4_dun (l : Launch) (hl0 : l.stackTraces = false) (D : va_G) (AC : Nat → ClassId) (sa : gh_SA) (t : Nat) (p0 : Int32) (post : Int32 → gh_H → Prop) (px : String → gh_H → Prop) (G : gh_H) (sz : Nat) (hw : wX4_dun post px G t p0) : vx_Met l yX4_dun wsX4_dun rmX4_dun (gh_Pc D vwCl AC (gh_ty AC) (gh_En sa) G sz [.ref t, .int p0]) (va_Qi post (gh_B D vwCl AC (gh_A G sz)) (gh_A G sz)) (gh_X D vwCl AC px (gh_A G sz)) 2 12 (gh_A G sz) := by
  refine vx_ofW (cc := prog_1_method_17_code) (maxL := 3) (ret := (some .int)) (by decide) rfl ?_
  intro p e s m args below meth c s₁ B hml hnoh hv
  obtain ⟨rfl, hsz, hP, hK, hE⟩ := hv
  have hx := B.exec
  have hb := B.bytes
  have hr := B.returns
  have hts := atoms_spec (ws := wsX4_dun) B.pre
  have hown : s.vm.findClass "OwnerLedger" = some m.cls := findClass_of_methodNamed B.named
  have hlocks := B.notSynchronized
  have htb : c.exceptionTable.toList = [] := List.eq_nil_iff_forall_not_mem.mpr hnoh
  subst hsz
  have hA : ∀ q, s.heap.size ≤ q → gh_A G s.heap.size q := fun q h => Or.inr h
  generalize gh_A G s.heap.size = A at hP hE hA ⊢
  have hno : ∀ (pc : Nat), ∀ x ∈ c.exceptionTable.toList, covers x pc = false := by rw [htb]; intro _ _ h; cases h
  have CX : cxX4_dun p s m [.ref t, .int p0].toArray meth c D AC sa A := ⟨⟨hx, hb, hml, hown, hts⟩, hr, hlocks, htb, hK, hE, hA⟩
  have hS : va_S A s.heap s.heap [] := va_S.rf
  have hl := lv_entry ([.ref t, .int p0]) (n := 3) (Nat.le_of_ble_eq_true rfl)
  rw [lg_entry_eq]
  generalize (lg_sl ([.ref t, .int p0]) ++ List.replicate (3 - (lg_sl ([.ref t, .int p0])).length) Slot.unset).toArray = ls at hl ⊢
  have hl : lv_has ls 3 [(0, .ref t), (1, .int p0)] := hl
  dsimp only [wX4_dun] at hw
  refine lv_aload_n hx hb dX4_dun_0 rfl (lv_at hl 0 rfl) ?_
  refine lv_iload_n hx hb dX4_dun_1 rfl (lv_at hl 1 rfl) ?_
  obtain ⟨fs3, he4, hw⟩ := hw
  refine gh_cq hlocks (hno _) (vx_runV (C := "OwnerLedger") (As := [.int p0]) (rest := []) ⟨hx, hb, hml, hown, hts⟩ (mX4_findInvoice l hl0 D AC sa _ _ _ _ _ _ hw) (cwV 1 hts (gV kw_285 kw_286 kw_538 kw_1 kw_287) rfl rfl rfl (by decide +kernel) ⟨Nat.le_of_ble_eq_true rfl, Nat.le_of_ble_eq_true rfl⟩) (gh_preV gh_En_ok hK hE hP hS hA he4 rfl _) rfl rfl hl.1 rfl (lv_room (Nat.le_of_ble_eq_true rfl)) dX4_dun_2 ⟨Nat.le_of_ble_eq_true rfl, Nat.le_of_ble_eq_true rfl⟩) hP hS hA (Nat.le_of_ble_eq_true rfl) (Nat.le_of_ble_eq_true rfl) (fun r1 G2 H locs hw2 hP hS => ?_)
  replace hw := hw2
  clear hw2
  refine gh_astore_n (lv' := [(2, va_rf r1), (0, .ref t), (1, .int p0)]) hx hb dX4_dun_5 rfl hl (by decide) rfl (fun ls hl => ?_)
  refine gh_aload_n hx hb dX4_dun_6 rfl (lv_at hl 0 rfl) ?_
  refine lv_aload_n hx hb dX4_dun_7 rfl (lv_at hl 1 rfl) ?_
  obtain ⟨fs5, x8, he6, hv7, hw⟩ := hw
  refine gh_get (ci := 4) (v := .int x8) (C := "OwnerLedger") (T := TX4) (N := 11) hx hb hts (fun w h => gT_up (inX4 w h)) hown hK hP he6 rfl 8 (by decide) (hts _ (gT_up kw_31)) (fun _ h9 => h9) hv7 dX4_dun_8 ?_
  obtain ⟨a9, ea9, hw⟩ := hw
  subst ea9
  have hl : lv_has ls 3 [(2, .ref a9), (0, .ref t), (1, .int p0)] := hl
  obtain ⟨fs12, he13, hw⟩ := hw
  refine gh_ci hlocks (hno _) (vx_runV (C := "OwnerLedger$Invoice") (As := [.int x8]) (rest := []) ⟨hx, hb, hml, hown, hts⟩ (mX1_isOverdue l hl0 D AC sa _ _ _ _ _ _ hw) (cwV 1 hts (gV kw_302 kw_303 kw_304 kw_10 kw_305) rfl rfl rfl (by decide +kernel) ⟨Nat.le_of_ble_eq_true rfl, Nat.le_of_ble_eq_true rfl⟩) (gh_preV gh_En_ok hK hE hP hS hA he13 rfl _) rfl rfl hl.1 rfl (lv_room (Nat.le_of_ble_eq_true rfl)) dX4_dun_11 ⟨Nat.le_of_ble_eq_true rfl, Nat.le_of_ble_eq_true rfl⟩) hP hS hA (Nat.le_of_ble_eq_true rfl) (Nat.le_of_ble_eq_true rfl) (fun r10 G11 H locs hw2 hP hS => ?_)
  replace hw := hw2
  clear hw2
  refine lv_if_ne (tgt := 27) hx hb dX4_dun_14 (by decide) (fun c14 => ?_) (fun c14 => ?_)
  · replace hw := hw.1 c14
    refine lv_aload_n hx hb dX4_dun_27 rfl (lv_at hl 0 rfl) ?_
    obtain ⟨fs15, x18, he16, hv17, hw⟩ := hw
    refine gh_get (ci := 1) (v := .int x18) (C := "OwnerLedger$Invoice") (T := TX1) (N := 5) hx hb hts (fun w h => gT_up (inX1 w h)) hown hK hP he16 rfl 3 (by decide) (hts _ (gT_up kw_258)) (fun _ h9 => h9) hv17 dX4_dun_28 ?_
    refine lv_iconst (v := 3) hx hb dX4_dun_31 (by decide) ?_
    refine lv_icmp_lt (tgt := 45) hx hb dX4_dun_32 (by decide) (fun c19 => ?_) (fun c19 => ?_)
    · replace hw := hw.1 c19
      refine lv_aload_n hx hb dX4_dun_45 rfl (lv_at hl 0 rfl) ?_
      refine lv_dup hx hb dX4_dun_46 rfl ?_
      obtain ⟨fs20, x23, he21, hv22, hw⟩ := hw
      refine gh_get (ci := 1) (v := .int x23) (C := "OwnerLedger$Invoice") (T := TX1) (N := 5) hx hb hts (fun w h => gT_up (inX1 w h)) hown hK hP he21 rfl 3 (by decide) (hts _ (gT_up kw_258)) (fun _ h9 => h9) hv22 dX4_dun_47 ?_
      refine lv_iconst (v := 1) hx hb dX4_dun_50 (by decide) ?_
      refine lv_iadd hx hb dX4_dun_51 ?_
      obtain ⟨fs24, he25, hk26, hw⟩ := hw
      refine gh_put (ci := 1) (v := .int (x23 + 1)) (ty := .int) (C := "OwnerLedger$Invoice") (T := TX1) (N := 5) hx hb hts (fun w h => gT_up (inX1 w h)) tyX1 tyX1_ok nmX1 hown hK hP hS he25 rfl 3 (by decide) (hts _ (gT_up kw_258)) (fun _ h9 => h9) rfl (by decide +kernel) rfl rfl hk26 dX4_dun_52 (fun G27 H locs eG28 hP hS => ?_)
      replace hw := hw G27 eG28
      refine lv_aload_n hx hb dX4_dun_55 rfl (lv_at hl 0 rfl) ?_
      obtain ⟨fs29, x32, he30, hv31, hw⟩ := hw
      refine gh_get (ci := 1) (v := .int x32) (C := "OwnerLedger$Invoice") (T := TX1) (N := 5) hx hb hts (fun w h => gT_up (inX1 w h)) hown hK hP he30 rfl 3 (by decide) (hts _ (gT_up kw_258)) (fun _ h9 => h9) hv31 dX4_dun_56 ?_
      refine lv_iconst (v := 3) hx hb dX4_dun_59 (by decide) ?_
      refine lv_icmp_ne (tgt := 75) hx hb dX4_dun_60 (by decide) (fun c33 => ?_) (fun c33 => ?_)
      · replace hw := hw.1 c33
        have hl := lv_sub (l' := [(2, .ref a9)]) hl [0] rfl
        refine W.widen (k := 2) (n := 12) (Nat.le_of_ble_eq_true rfl) (Nat.le_of_ble_eq_true rfl) ?_
        exact lX4_dun_75 hl0 CX post px _ a9 _ _ hw hP hS ls hl
      · replace hw := hw.2 c33
        refine lv_aload_n hx hb dX4_dun_63 rfl (lv_at hl 1 rfl) ?_
        refine lv_aload_n hx hb dX4_dun_64 rfl (lv_at hl 0 rfl) ?_
        obtain ⟨fs34, x37, he35, hv36, hw⟩ := hw
        refine gh_get (ci := 1) (v := .int x37) (C := "OwnerLedger$Invoice") (T := TX1) (N := 5) hx hb hts (fun w h => gT_up (inX1 w h)) hown hK hP he35 rfl 0 (by decide) (hts _ (gT_up kw_253)) (fun _ h9 => h9) hv36 dX4_dun_65 ?_
        obtain ⟨fs40, he41, hw⟩ := hw
        refine gh_cq hlocks (hno _) (vx_runV (C := "OwnerLedger") (As := [.int x37]) (rest := []) ⟨hx, hb, hml, hown, hts⟩ (mX4_findOwner l hl0 D AC sa _ _ _ _ _ _ hw) (cwV 1 hts (gV kw_80 kw_81 kw_533 kw_1 kw_82) rfl rfl rfl (by decide +kernel) ⟨Nat.le_of_ble_eq_true rfl, Nat.le_of_ble_eq_true rfl⟩) (gh_preV gh_En_ok hK hE hP hS hA he41 rfl _) rfl rfl hl.1 rfl (lv_room (Nat.le_of_ble_eq_true rfl)) dX4_dun_68 ⟨Nat.le_of_ble_eq_true rfl, Nat.le_of_ble_eq_true rfl⟩) hP hS hA (Nat.le_of_ble_eq_true rfl) (Nat.le_of_ble_eq_true rfl) (fun r38 G39 H locs hw2 hP hS => ?_)
        replace hw := hw2
        clear hw2
        refine lv_iconst (v := 1) hx hb dX4_dun_71 (by decide) ?_
        obtain ⟨a42, ea42, hw⟩ := hw
        subst ea42
        have hl : lv_has ls 3 [(2, .ref a9), (0, .ref t), (1, .int p0)] := hl
        obtain ⟨fs43, he44, hk45, hw⟩ := hw
        refine gh_put (ci := 2) (v := .int 1) (ty := .boolean) (C := "OwnerLedger$Owner") (T := TX2) (N := 2) hx hb hts (fun w h => gT_up (inX2 w h)) tyX2 tyX2_ok nmX2 hown hK hP hS he44 rfl 1 (by decide) (hts _ (gT_up kw_70)) (fun _ h9 => h9) rfl (by decide +kernel) rfl rfl hk45 dX4_dun_72 (fun G46 H locs eG47 hP hS => ?_)
        replace hw := hw G46 eG47
        have hl := lv_sub (l' := [(2, .ref a9)]) hl [0] rfl
        exact lX4_dun_75 hl0 CX post px _ a9 _ _ hw hP hS ls hl
    · replace hw := hw.2 c19
      exact vx_throwS (own := "OwnerLedger") (cls := "java/lang/IllegalStateException") (names := ["java/lang/RuntimeException", "java/lang/Exception"]) hx hb hl0 hown (by decide +kernel) (by decide +kernel) (hts _ (gT_up kw_113)) (hts _ (gT_up kw_7)) (gh_str hE (own := "OwnerLedger") (k := 204) (tx := "the invoice is in its last stage") (by decide)) (gh_hat3 hts hE) gh_got3 hE.1 hE.2.1 hS (hl.1.trans hml.symm) dX4_dun_35 dX4_dun_38 dX4_dun_39 dX4_dun_41 dX4_dun_44 (hno _) (Nat.le_of_ble_eq_true rfl) (Nat.le_of_ble_eq_true rfl) (Nat.le_of_ble_eq_true rfl) (Nat.le_of_ble_eq_true rfl) hlocks (gh_thrown hP hS hw) hS.2.2 (Nat.le_of_ble_eq_true rfl) (Nat.le_of_ble_eq_true rfl)
  · replace hw := hw.2 c14
    exact vx_throwS (own := "OwnerLedger") (cls := "java/lang/IllegalStateException") (names := ["java/lang/RuntimeException", "java/lang/Exception"]) hx hb hl0 hown (by decide +kernel) (by decide +kernel) (hts _ (gT_up kw_113)) (hts _ (gT_up kw_7)) (gh_str hE (own := "OwnerLedger") (k := 199) (tx := "the invoice is not overdue") (by decide)) (gh_hat3 hts hE) gh_got3 hE.1 hE.2.1 hS (hl.1.trans hml.symm) dX4_dun_17 dX4_dun_20 dX4_dun_21 dX4_dun_23 dX4_dun_26 (hno _) (Nat.le_of_ble_eq_true rfl) (Nat.le_of_ble_eq_true rfl) (Nat.le_of_ble_eq_true rfl) (Nat.le_of_ble_eq_true rfl) hlocks (gh_thrown hP hS hw) hS.2.2 (Nat.le_of_ble_eq_true rfl) (Nat.le_of_ble_eq_true rfl)
abbrev rmX4_rate : Room := { frames := 7, cells := 1, slots := 6, locals := 107 }
abbrev cxX4_rate (p : Program) (s : State) (m : MethodId) (args : Array Value) (meth : Method) (c : Code) (D : va_G) (AC : Nat → ClassId) (sa : gh_SA) (A : Nat → Prop) : Prop := CallFix p m c prog_1_method_18_code 2 s args wsX4_rate "OwnerLedger" ∧ meth.sig.returnType = none ∧ meth.locks = false ∧ c.exceptionTable.toList = [] ∧ va_K D vwCl (gh_ty AC) s ∧ gh_En sa A s s.heap ∧ (∀ q, s.heap.size ≤ q → A q)
def wX4_rate (post : gh_H → Prop) (px : String → gh_H → Prop) (G : gh_H) (t : Nat) (p0 : Int32) : Prop := wX4_requireRange (fun G2 => ∃ fs3 : List Value, G2 t = some (.inr (4, fs3)) ∧ 10 < fs3.length ∧ (∀ G6 : gh_H, G6 = gh_up G2 t (.inr (4, fs3.set 10 (.int p0))) → post G6)) px G (Int32.toInt64 p0) 0 100
set_option maxRecDepth 100000 in
set_option maxHeartbeats 4000000 in
theorem mX4_rate (l : Launch) (hl0 : l.stackTraces = false) (D : va_G) (AC : Nat → ClassId) (sa : gh_SA) (t : Nat) (p0 : Int32) (post : gh_H → Prop) (px : String → gh_H → Prop) (G : gh_H) (sz : Nat) (hw : wX4_rate post px G t p0) : vx_Met l yX4_rate wsX4_rate rmX4_rate (gh_Pc D vwCl AC (gh_ty AC) (gh_En sa) G sz [.ref t, .int p0]) (va_Qv post (gh_B D vwCl AC (gh_A G sz)) (gh_A G sz)) (gh_X D vwCl AC px (gh_A G sz)) 1 6 (gh_A G sz) := by
  refine vx_ofW (cc := prog_1_method_18_code) (maxL := 2) (ret := none) (by decide) rfl ?_
  intro p e s m args below meth c s₁ B hml hnoh hv
  obtain ⟨rfl, hsz, hP, hK, hE⟩ := hv
  have hx := B.exec
  have hb := B.bytes
  have hr := B.returns
  have hts := atoms_spec (ws := wsX4_rate) B.pre
  have hown : s.vm.findClass "OwnerLedger" = some m.cls := findClass_of_methodNamed B.named
  have hlocks := B.notSynchronized
  have htb : c.exceptionTable.toList = [] := List.eq_nil_iff_forall_not_mem.mpr hnoh
  subst hsz
  have hA : ∀ q, s.heap.size ≤ q → gh_A G s.heap.size q := fun q h => Or.inr h
  generalize gh_A G s.heap.size = A at hP hE hA ⊢
  have hno : ∀ (pc : Nat), ∀ x ∈ c.exceptionTable.toList, covers x pc = false := by rw [htb]; intro _ _ h; cases h
  have CX : cxX4_rate p s m [.ref t, .int p0].toArray meth c D AC sa A := ⟨⟨hx, hb, hml, hown, hts⟩, hr, hlocks, htb, hK, hE, hA⟩
  have hS : va_S A s.heap s.heap [] := va_S.rf
  have hl := lv_entry ([.ref t, .int p0]) (n := 2) (Nat.le_of_ble_eq_true rfl)
  rw [lg_entry_eq]
  generalize (lg_sl ([.ref t, .int p0]) ++ List.replicate (2 - (lg_sl ([.ref t, .int p0])).length) Slot.unset).toArray = ls at hl ⊢
  have hl : lv_has ls 2 [(0, .ref t), (1, .int p0)] := hl
  dsimp only [wX4_rate] at hw
  refine lv_iload_n hx hb dX4_rate_0 rfl (lv_at hl 1 rfl) ?_
  refine lv_i2l hx hb dX4_rate_1 rfl ?_
  refine lv_lconst (v := 0) hx hb dX4_rate_2 (by decide) ?_
  refine lv_ldc2 (v := 100) hx hb hown (hts _ (gT_up kw_313)) dX4_rate_3 ?_
  refine gh_cv_ hlocks (hno _) (vx_runS (As := [.long (Int32.toInt64 p0), .long 0, .long 100]) (rest := []) ⟨hx, hb, hml, hown, hts⟩ (mX4_requireRange l hl0 D AC sa _ _ _ _ _ _ _ hw) (va_cwS 3 hts (gS kw_89 kw_90 kw_1 kw_91) rfl rfl rfl (by decide +kernel) ⟨Nat.le_of_ble_eq_true rfl, Nat.le_of_ble_eq_true rfl⟩) (gh_pre gh_En_ok hK hE hP hS hA _) rfl rfl hl.1 rfl (lv_room (Nat.le_of_ble_eq_true rfl)) dX4_rate_6 ⟨Nat.le_of_ble_eq_true rfl, Nat.le_of_ble_eq_true rfl⟩) hP hS hA (Nat.le_of_ble_eq_true rfl) (Nat.le_of_ble_eq_true rfl) (fun G2 H locs hw2 hP hS => ?_)
  replace hw := hw2
  clear hw2
  refine lv_aload_n hx hb dX4_rate_9 rfl (lv_at hl 0 rfl) ?_
  refine lv_iload_n hx hb dX4_rate_10 rfl (lv_at hl 1 rfl) ?_
  obtain ⟨fs3, he4, hk5, hw⟩ := hw
  refine gh_put (ci := 4) (v := .int p0) (ty := .int) (C := "OwnerLedger") (T := TX4) (N := 11) hx hb hts (fun w h => gT_up (inX4 w h)) tyX4 tyX4_ok nmX4 hown hK hP hS he4 rfl 10 (by decide) (hts _ (gT_up kw_33)) (fun _ h9 => h9) rfl (by decide +kernel) rfl rfl hk5 dX4_rate_11 (fun G6 H locs eG7 hP hS => ?_)
  replace hw := hw G6 eG7
  exact gh_vret hx hb hr hlocks hw hP hS (Nat.le_of_ble_eq_true rfl) (Nat.le_of_ble_eq_true rfl) dX4_rate_14
abbrev rmX4_commonDivisor : Room := { frames := 1, cells := 0, slots := 0, locals := 15 }
abbrev cxX4_commonDivisor (p : Program) (s : State) (m : MethodId) (args : Array Value) (meth : Method) (c : Code) (D : va_G) (AC : Nat → ClassId) (sa : gh_SA) (A : Nat → Prop) : Prop := CallFix p m c prog_1_method_39_code 11 s args wsX4_commonDivisor "OwnerLedger" ∧ meth.sig.returnType = (some .long) ∧ meth.locks = false ∧ c.exceptionTable.toList = [] ∧ va_K D vwCl (gh_ty AC) s ∧ gh_En sa A s s.heap ∧ (∀ q, s.heap.size ≤ q → A q)
def wX4_commonDivisor_44 (post : Int64 → gh_H → Prop) (px : String → gh_H → Prop) (G : gh_H) (v4 : Int64) : Prop := post (if 1 < v4 then v4 else 1) G
set_option maxRecDepth 100000 in
set_option maxHeartbeats 4000000 in
theorem lX4_commonDivisor_44 {p : Program} {l : Launch} {e : Env} {s : State} {m : MethodId} {args : Array Value} {below : List Frame} {meth : Method} {c : Code} {D : va_G} {AC : Nat → ClassId} {sa : gh_SA} {A : Nat → Prop} (hl0 : l.stackTraces = false) (CX : cxX4_commonDivisor p s m args meth c D AC sa A) (post : Int64 → gh_H → Prop) (px : String → gh_H → Prop) : ∀ (G : gh_H) (v4 : Int64) (H : Heap) (locs : List Loc), wX4_commonDivisor_44 post px G v4 → gh_h D vwCl AC A G H → va_S A s.heap H locs → ∀ ls : Array Slot, lv_has ls 11 [(4, .long v4)] → W p l e rmX4_commonDivisor s m args below meth c H locs 0 0 (vx_MQ below (va_Ql post (gh_B D vwCl AC A) A) (gh_X D vwCl AC px A) args s 0 0 A) (F0 m 44 ls []) := by
  obtain ⟨⟨hx, hb, hml, hown, hts⟩, hr, hlocks, htb, hK, hE, hA⟩ := id CX
  have hno : ∀ (pc : Nat), ∀ x ∈ c.exceptionTable.toList, covers x pc = false := by rw [htb]; intro _ _ h; cases h
  intro G v4 H locs hw hP hS ls hl
  dsimp only [wX4_commonDivisor_44] at hw
  refine lv_lload hx hb dX4_commonDivisor_44 (lv_at hl 0 rfl) ?_
  refine lv_lconst (v := 1) hx hb dX4_commonDivisor_46 (by decide) ?_
  refine va_mmax_long hx hb (hml.trans hl.1.symm) hown (hts _ (gT_up kw_330)) (hts _ (gT_up kw_331)) (hts _ (gT_up kw_11)) (hts _ (gT_up kw_332)) (Nat.le_of_ble_eq_true rfl) (Nat.le_of_ble_eq_true rfl) (Nat.le_of_ble_eq_true rfl) (Nat.le_of_ble_eq_true rfl) dX4_commonDivisor_47 ?_
  exact gh_lret hx hb hr hlocks hw hP hS (Nat.le_of_ble_eq_true rfl) (Nat.le_of_ble_eq_true rfl) dX4_commonDivisor_50
def wX4_commonDivisor_9 (post : Int64 → gh_H → Prop) (px : String → gh_H → Prop) : Nat → gh_H → Int64 → Int64 → Int32 → Prop
  | 0 => fun _ _ _ _ => False
  | n + 1 => fun G v4 v6 v8 => (21 ≤ v8 → (wX4_commonDivisor_44 post px G v4)) ∧ (¬ 21 ≤ v8 → (((lg_cmp v6 0) = 0 → (wX4_commonDivisor_44 post px G v4)) ∧ (¬ (lg_cmp v6 0) = 0 → (¬ v6 = 0 ∧ (wX4_commonDivisor_9 post px n G v6 (v4 - v4 / v6 * v6) (v8 + 1))))))
set_option maxRecDepth 100000 in
set_option maxHeartbeats 4000000 in
theorem lX4_commonDivisor_9 {p : Program} {l : Launch} {e : Env} {s : State} {m : MethodId} {args : Array Value} {below : List Frame} {meth : Method} {c : Code} {D : va_G} {AC : Nat → ClassId} {sa : gh_SA} {A : Nat → Prop} (hl0 : l.stackTraces = false) (CX : cxX4_commonDivisor p s m args meth c D AC sa A) (post : Int64 → gh_H → Prop) (px : String → gh_H → Prop) : ∀ n : Nat, ∀ (G : gh_H) (v4 : Int64) (v6 : Int64) (v8 : Int32) (H : Heap) (locs : List Loc), wX4_commonDivisor_9 post px n G v4 v6 v8 → gh_h D vwCl AC A G H → va_S A s.heap H locs → ∀ ls : Array Slot, lv_has ls 11 [(4, .long v4), (6, .long v6), (8, .int v8)] → W p l e rmX4_commonDivisor s m args below meth c H locs 0 0 (vx_MQ below (va_Ql post (gh_B D vwCl AC A) A) (gh_X D vwCl AC px A) args s 0 0 A) (F0 m 9 ls []) := by
  obtain ⟨⟨hx, hb, hml, hown, hts⟩, hr, hlocks, htb, hK, hE, hA⟩ := id CX
  have hno : ∀ (pc : Nat), ∀ x ∈ c.exceptionTable.toList, covers x pc = false := by rw [htb]; intro _ _ h; cases h
  intro n
  induction n with
  | zero =>
    intro G v4 v6 v8 H locs hw
    exact False.elim hw
  | succ n ih =>
    intro G v4 v6 v8 H locs hw hP hS ls hl
    dsimp only [wX4_commonDivisor_9] at hw
    refine lv_iload hx hb dX4_commonDivisor_9 (lv_at hl 2 rfl) ?_
    refine lv_bipush (v := 21) hx hb dX4_commonDivisor_11 (by decide) ?_
    refine lv_icmp_ge (tgt := 44) hx hb dX4_commonDivisor_13 (by decide) (fun c1 => ?_) (fun c1 => ?_)
    · replace hw := hw.1 c1
      have hl := lv_sub (l' := [(4, .long v4)]) hl [0] rfl
      exact lX4_commonDivisor_44 hl0 CX post px _ v4 _ _ hw hP hS ls hl
    · replace hw := hw.2 c1
      refine lv_lload hx hb dX4_commonDivisor_16 (lv_at hl 1 rfl) ?_
      refine lv_lconst (v := 0) hx hb dX4_commonDivisor_18 (by decide) ?_
      refine W.lcmp hx hb dX4_commonDivisor_19 ?_
      refine lv_if_eq (tgt := 44) hx hb dX4_commonDivisor_20 (by decide) (fun c2 => ?_) (fun c2 => ?_)
      · replace hw := hw.1 c2
        have hl := lv_sub (l' := [(4, .long v4)]) hl [0] rfl
        exact lX4_commonDivisor_44 hl0 CX post px _ v4 _ _ hw hP hS ls hl
      · replace hw := hw.2 c2
        refine lv_lload hx hb dX4_commonDivisor_23 (lv_at hl 0 rfl) ?_
        refine lv_lload hx hb dX4_commonDivisor_25 (lv_at hl 1 rfl) ?_
        obtain ⟨hz3, hw⟩ := hw
        refine lv_lrem hx hb dX4_commonDivisor_27 hz3 ?_
        refine lv_lstore (lv' := [(9, .long (v4 - v4 / v6 * v6)), (4, .long v4), (6, .long v6), (8, .int v8)]) hx hb dX4_commonDivisor_28 hl (by decide) rfl (fun ls hl => ?_)
        refine lv_lload hx hb dX4_commonDivisor_30 (lv_at hl 2 rfl) ?_
        refine lv_lstore (lv' := [(4, .long v6), (9, .long (v4 - v4 / v6 * v6)), (6, .long v6), (8, .int v8)]) hx hb dX4_commonDivisor_32 hl (by decide) rfl (fun ls hl => ?_)
        refine lv_lload hx hb dX4_commonDivisor_34 (lv_at hl 1 rfl) ?_
        refine lv_lstore (lv' := [(6, .long (v4 - v4 / v6 * v6)), (4, .long v6), (9, .long (v4 - v4 / v6 * v6)), (8, .int v8)]) hx hb dX4_commonDivisor_36 hl (by decide) rfl (fun ls hl => ?_)
        refine lv_iinc (v := (v8 + 1)) (lv' := [(8, .int (v8 + 1)), (6, .long (v4 - v4 / v6 * v6)), (4, .long v6), (9, .long (v4 - v4 / v6 * v6))]) hx hb dX4_commonDivisor_38 hl (k := 3) rfl rfl (by decide) rfl (fun ls hl => ?_)
        refine lv_goto (tgt := 9) hx hb dX4_commonDivisor_41 (by decide) ?_
        have hl := lv_sub (l' := [(4, .long v6), (6, .long (v4 - v4 / v6 * v6)), (8, .int (v8 + 1))]) hl [2, 1, 0] rfl
        exact ih _ v6 (v4 - v4 / v6 * v6) (v8 + 1) _ _ hw hP hS ls hl
def wX4_commonDivisor (post : Int64 → gh_H → Prop) (px : String → gh_H → Prop) (G : gh_H) (p0 : Int64) (p1 : Int64) : Prop := wX4_commonDivisor_9 post px 300 G p0 p1 0
set_option maxRecDepth 100000 in
set_option maxHeartbeats 4000000 in
theorem mX4_commonDivisor (l : Launch) (hl0 : l.stackTraces = false) (D : va_G) (AC : Nat → ClassId) (sa : gh_SA) (p0 : Int64) (p1 : Int64) (post : Int64 → gh_H → Prop) (px : String → gh_H → Prop) (G : gh_H) (sz : Nat) (hw : wX4_commonDivisor post px G p0 p1) : vx_Met l yX4_commonDivisor wsX4_commonDivisor rmX4_commonDivisor (gh_Pc D vwCl AC (gh_ty AC) (gh_En sa) G sz [.long p0, .long p1]) (va_Ql post (gh_B D vwCl AC (gh_A G sz)) (gh_A G sz)) (gh_X D vwCl AC px (gh_A G sz)) 0 0 (gh_A G sz) := by
  refine vx_ofW (cc := prog_1_method_39_code) (maxL := 11) (ret := (some .long)) (by decide) rfl ?_
  intro p e s m args below meth c s₁ B hml hnoh hv
  obtain ⟨rfl, hsz, hP, hK, hE⟩ := hv
  have hx := B.exec
  have hb := B.bytes
  have hr := B.returns
  have hts := atoms_spec (ws := wsX4_commonDivisor) B.pre
  have hown : s.vm.findClass "OwnerLedger" = some m.cls := findClass_of_methodNamed B.named
  have hlocks := B.notSynchronized
  have htb : c.exceptionTable.toList = [] := List.eq_nil_iff_forall_not_mem.mpr hnoh
  subst hsz
  have hA : ∀ q, s.heap.size ≤ q → gh_A G s.heap.size q := fun q h => Or.inr h
  generalize gh_A G s.heap.size = A at hP hE hA ⊢
  have hno : ∀ (pc : Nat), ∀ x ∈ c.exceptionTable.toList, covers x pc = false := by rw [htb]; intro _ _ h; cases h
  have CX : cxX4_commonDivisor p s m [.long p0, .long p1].toArray meth c D AC sa A := ⟨⟨hx, hb, hml, hown, hts⟩, hr, hlocks, htb, hK, hE, hA⟩
  have hS : va_S A s.heap s.heap [] := va_S.rf
  have hl := lv_entry ([.long p0, .long p1]) (n := 11) (Nat.le_of_ble_eq_true rfl)
  rw [lg_entry_eq]
  generalize (lg_sl ([.long p0, .long p1]) ++ List.replicate (11 - (lg_sl ([.long p0, .long p1])).length) Slot.unset).toArray = ls at hl ⊢
  have hl : lv_has ls 11 [(0, .long p0), (2, .long p1)] := hl
  dsimp only [wX4_commonDivisor] at hw
  refine lv_lload_n hx hb dX4_commonDivisor_0 rfl (lv_at hl 0 rfl) ?_
  refine lv_lstore (lv' := [(4, .long p0), (0, .long p0), (2, .long p1)]) hx hb dX4_commonDivisor_1 hl (by decide) rfl (fun ls hl => ?_)
  refine lv_lload_n hx hb dX4_commonDivisor_3 rfl (lv_at hl 2 rfl) ?_
  refine lv_lstore (lv' := [(6, .long p1), (4, .long p0), (0, .long p0), (2, .long p1)]) hx hb dX4_commonDivisor_4 hl (by decide) rfl (fun ls hl => ?_)
  refine lv_iconst (v := 0) hx hb dX4_commonDivisor_6 (by decide) ?_
  refine lv_istore (lv' := [(8, .int 0), (6, .long p1), (4, .long p0), (0, .long p0), (2, .long p1)]) hx hb dX4_commonDivisor_7 hl (by decide) rfl (fun ls hl => ?_)
  have hl := lv_sub (l' := [(4, .long p0), (6, .long p1), (8, .int 0)]) hl [2, 1, 0] rfl
  exact lX4_commonDivisor_9 hl0 CX post px _ _ p0 p1 0 _ _ hw hP hS ls hl
abbrev rmX4_interest : Room := { frames := 7, cells := 2, slots := 12, locals := 107 }
abbrev cxX4_interest (p : Program) (s : State) (m : MethodId) (args : Array Value) (meth : Method) (c : Code) (D : va_G) (AC : Nat → ClassId) (sa : gh_SA) (A : Nat → Prop) : Prop := CallFix p m c prog_1_method_19_code 8 s args wsX4_interest "OwnerLedger" ∧ meth.sig.returnType = (some .long) ∧ meth.locks = false ∧ c.exceptionTable.toList = [] ∧ va_K D vwCl (gh_ty AC) s ∧ gh_En sa A s s.heap ∧ (∀ q, s.heap.size ≤ q → A q)
def wX4_interest (post : Int64 → gh_H → Prop) (px : String → gh_H → Prop) (G : gh_H) (t : Nat) (p0 : Int32) (p1 : Int32) : Prop := ∃ fs3 : List Value, G t = some (.inr (4, fs3)) ∧ wX4_findInvoice (fun r1 G2 => wX4_requireRange (fun G6 => ∃ a7 : Nat, r1 = some a7 ∧ ∃ (fs8 : List Value) (x11 : Int64), G6 a7 = some (.inr (1, fs8)) ∧ fs8[2]? = some (.long x11) ∧ (∃ (fs12 : List Value) (x15 : Int32), G6 t = some (.inr (4, fs12)) ∧ fs12[8]? = some (.int x15) ∧ (∃ fs18 : List Value, G6 a7 = some (.inr (1, fs18)) ∧ wX1_monthsOverdue (fun r16 G17 => ∃ (fs20 : List Value) (x23 : Int32), G17 t = some (.inr (4, fs20)) ∧ fs20[10]? = some (.int x23) ∧ (wX4_commonDivisor (fun r24 G25 => (¬ p1 = 0 → (¬ r24 = 0 ∧ (post (1200 / r24) G25))) ∧ (p1 = 0 → (¬ r24 = 0 ∧ (post (((x11 * (Int32.toInt64 r16)) * (Int32.toInt64 x23)) / r24) G25)))) px G17 ((x11 * (Int32.toInt64 r16)) * (Int32.toInt64 x23)) 1200)) px G6 a7 x15))) px G2 (Int32.toInt64 p1) 0 1) px G t p0
set_option maxRecDepth 100000 in
set_option maxHeartbeats 4000000 in
theorem mX4_interest (l : Launch) (hl0 : l.stackTraces = false) (D : va_G) (AC : Nat → ClassId) (sa : gh_SA) (t : Nat) (p0 : Int32) (p1 : Int32) (post : Int64 → gh_H → Prop) (px : String → gh_H → Prop) (G : gh_H) (sz : Nat) (hw : wX4_interest post px G t p0 p1) : vx_Met l yX4_interest wsX4_interest rmX4_interest (gh_Pc D vwCl AC (gh_ty AC) (gh_En sa) G sz [.ref t, .int p0, .int p1]) (va_Ql post (gh_B D vwCl AC (gh_A G sz)) (gh_A G sz)) (gh_X D vwCl AC px (gh_A G sz)) 2 12 (gh_A G sz) := by
  refine vx_ofW (cc := prog_1_method_19_code) (maxL := 8) (ret := (some .long)) (by decide) rfl ?_
  intro p e s m args below meth c s₁ B hml hnoh hv
  obtain ⟨rfl, hsz, hP, hK, hE⟩ := hv
  have hx := B.exec
  have hb := B.bytes
  have hr := B.returns
  have hts := atoms_spec (ws := wsX4_interest) B.pre
  have hown : s.vm.findClass "OwnerLedger" = some m.cls := findClass_of_methodNamed B.named
  have hlocks := B.notSynchronized
  have htb : c.exceptionTable.toList = [] := List.eq_nil_iff_forall_not_mem.mpr hnoh
  subst hsz
  have hA : ∀ q, s.heap.size ≤ q → gh_A G s.heap.size q := fun q h => Or.inr h
  generalize gh_A G s.heap.size = A at hP hE hA ⊢
  have hno : ∀ (pc : Nat), ∀ x ∈ c.exceptionTable.toList, covers x pc = false := by rw [htb]; intro _ _ h; cases h
  have CX : cxX4_interest p s m [.ref t, .int p0, .int p1].toArray meth c D AC sa A := ⟨⟨hx, hb, hml, hown, hts⟩, hr, hlocks, htb, hK, hE, hA⟩
  have hS : va_S A s.heap s.heap [] := va_S.rf
  have hl := lv_entry ([.ref t, .int p0, .int p1]) (n := 8) (Nat.le_of_ble_eq_true rfl)
  rw [lg_entry_eq]
  generalize (lg_sl ([.ref t, .int p0, .int p1]) ++ List.replicate (8 - (lg_sl ([.ref t, .int p0, .int p1])).length) Slot.unset).toArray = ls at hl ⊢
  have hl : lv_has ls 8 [(0, .ref t), (1, .int p0), (2, .int p1)] := hl
  dsimp only [wX4_interest] at hw
  refine lv_aload_n hx hb dX4_interest_0 rfl (lv_at hl 0 rfl) ?_
  refine lv_iload_n hx hb dX4_interest_1 rfl (lv_at hl 1 rfl) ?_
  obtain ⟨fs3, he4, hw⟩ := hw
  refine gh_cq hlocks (hno _) (vx_runV (C := "OwnerLedger") (As := [.int p0]) (rest := []) ⟨hx, hb, hml, hown, hts⟩ (mX4_findInvoice l hl0 D AC sa _ _ _ _ _ _ hw) (cwV 1 hts (gV kw_285 kw_286 kw_538 kw_1 kw_287) rfl rfl rfl (by decide +kernel) ⟨Nat.le_of_ble_eq_true rfl, Nat.le_of_ble_eq_true rfl⟩) (gh_preV gh_En_ok hK hE hP hS hA he4 rfl _) rfl rfl hl.1 rfl (lv_room (Nat.le_of_ble_eq_true rfl)) dX4_interest_2 ⟨Nat.le_of_ble_eq_true rfl, Nat.le_of_ble_eq_true rfl⟩) hP hS hA (Nat.le_of_ble_eq_true rfl) (Nat.le_of_ble_eq_true rfl) (fun r1 G2 H locs hw2 hP hS => ?_)
  replace hw := hw2
  clear hw2
  refine gh_astore_n (lv' := [(3, va_rf r1), (0, .ref t), (1, .int p0), (2, .int p1)]) hx hb dX4_interest_5 rfl hl (by decide) rfl (fun ls hl => ?_)
  refine lv_iload_n hx hb dX4_interest_6 rfl (lv_at hl 3 rfl) ?_
  refine lv_i2l hx hb dX4_interest_7 rfl ?_
  refine lv_lconst (v := 0) hx hb dX4_interest_8 (by decide) ?_
  refine lv_lconst (v := 1) hx hb dX4_interest_9 (by decide) ?_
  refine gh_cv_ hlocks (hno _) (vx_runS (As := [.long (Int32.toInt64 p1), .long 0, .long 1]) (rest := []) ⟨hx, hb, hml, hown, hts⟩ (mX4_requireRange l hl0 D AC sa _ _ _ _ _ _ _ hw) (va_cwS 3 hts (gS kw_89 kw_90 kw_1 kw_91) rfl rfl rfl (by decide +kernel) ⟨Nat.le_of_ble_eq_true rfl, Nat.le_of_ble_eq_true rfl⟩) (gh_pre gh_En_ok hK hE hP hS hA _) rfl rfl hl.1 rfl (lv_room (Nat.le_of_ble_eq_true rfl)) dX4_interest_10 ⟨Nat.le_of_ble_eq_true rfl, Nat.le_of_ble_eq_true rfl⟩) hP hS hA (Nat.le_of_ble_eq_true rfl) (Nat.le_of_ble_eq_true rfl) (fun G6 H locs hw2 hP hS => ?_)
  replace hw := hw2
  clear hw2
  refine gh_aload_n hx hb dX4_interest_13 rfl (lv_at hl 0 rfl) ?_
  obtain ⟨a7, ea7, hw⟩ := hw
  subst ea7
  have hl : lv_has ls 8 [(3, .ref a7), (0, .ref t), (1, .int p0), (2, .int p1)] := hl
  obtain ⟨fs8, x11, he9, hv10, hw⟩ := hw
  refine gh_get (ci := 1) (v := .long x11) (C := "OwnerLedger$Invoice") (T := TX1) (N := 5) hx hb hts (fun w h => gT_up (inX1 w h)) hown hK hP he9 rfl 2 (by decide) (hts _ (gT_up kw_257)) (fun _ h9 => h9) hv10 dX4_interest_14 ?_
  refine lv_aload_n hx hb dX4_interest_17 rfl (lv_at hl 0 rfl) ?_
  refine lv_aload_n hx hb dX4_interest_18 rfl (lv_at hl 1 rfl) ?_
  obtain ⟨fs12, x15, he13, hv14, hw⟩ := hw
  refine gh_get (ci := 4) (v := .int x15) (C := "OwnerLedger") (T := TX4) (N := 11) hx hb hts (fun w h => gT_up (inX4 w h)) hown hK hP he13 rfl 8 (by decide) (hts _ (gT_up kw_31)) (fun _ h9 => h9) hv14 dX4_interest_19 ?_
  obtain ⟨fs18, he19, hw⟩ := hw
  refine gh_ci hlocks (hno _) (vx_runV (C := "OwnerLedger$Invoice") (As := [.int x15]) (rest := [.long x11]) ⟨hx, hb, hml, hown, hts⟩ (mX1_monthsOverdue l hl0 D AC sa _ _ _ _ _ _ hw) (cwV 1 hts (gV kw_321 kw_322 kw_323 kw_10 kw_324) rfl rfl rfl (by decide +kernel) ⟨Nat.le_of_ble_eq_true rfl, Nat.le_of_ble_eq_true rfl⟩) (gh_preV gh_En_ok hK hE hP hS hA he19 rfl _) rfl rfl hl.1 rfl (lv_room (Nat.le_of_ble_eq_true rfl)) dX4_interest_22 ⟨Nat.le_of_ble_eq_true rfl, Nat.le_of_ble_eq_true rfl⟩) hP hS hA (Nat.le_of_ble_eq_true rfl) (Nat.le_of_ble_eq_true rfl) (fun r16 G17 H locs hw2 hP hS => ?_)
  replace hw := hw2
  clear hw2
  refine lv_i2l hx hb dX4_interest_25 rfl ?_
  refine lv_lmul hx hb dX4_interest_26 ?_
  refine lv_aload_n hx hb dX4_interest_27 rfl (lv_at hl 1 rfl) ?_
  obtain ⟨fs20, x23, he21, hv22, hw⟩ := hw
  refine gh_get (ci := 4) (v := .int x23) (C := "OwnerLedger") (T := TX4) (N := 11) hx hb hts (fun w h => gT_up (inX4 w h)) hown hK hP he21 rfl 10 (by decide) (hts _ (gT_up kw_33)) (fun _ h9 => h9) hv22 dX4_interest_28 ?_
  refine lv_i2l hx hb dX4_interest_31 rfl ?_
  refine lv_lmul hx hb dX4_interest_32 ?_
  refine lv_lstore (lv' := [(4, .long ((x11 * (Int32.toInt64 r16)) * (Int32.toInt64 x23))), (3, .ref a7), (0, .ref t), (1, .int p0), (2, .int p1)]) hx hb dX4_interest_33 hl (by decide) rfl (fun ls hl => ?_)
  refine lv_lload hx hb dX4_interest_35 (lv_at hl 0 rfl) ?_
  refine lv_ldc2 (v := 1200) hx hb hown (hts _ (gT_up kw_326)) dX4_interest_37 ?_
  refine gh_cl hlocks (hno _) (vx_runS (As := [.long ((x11 * (Int32.toInt64 r16)) * (Int32.toInt64 x23)), .long 1200]) (rest := []) ⟨hx, hb, hml, hown, hts⟩ (mX4_commonDivisor l hl0 D AC sa _ _ _ _ _ _ hw) (va_cwS 2 hts (gS kw_327 kw_328 kw_1 kw_329) rfl rfl rfl (by decide +kernel) ⟨Nat.le_of_ble_eq_true rfl, Nat.le_of_ble_eq_true rfl⟩) (gh_pre gh_En_ok hK hE hP hS hA _) rfl rfl hl.1 rfl (lv_room (Nat.le_of_ble_eq_true rfl)) dX4_interest_40 ⟨Nat.le_of_ble_eq_true rfl, Nat.le_of_ble_eq_true rfl⟩) hP hS hA (Nat.le_of_ble_eq_true rfl) (Nat.le_of_ble_eq_true rfl) (fun r24 G25 H locs hw2 hP hS => ?_)
  replace hw := hw2
  clear hw2
  refine lv_lstore (lv' := [(6, .long r24), (4, .long ((x11 * (Int32.toInt64 r16)) * (Int32.toInt64 x23))), (3, .ref a7), (0, .ref t), (1, .int p0), (2, .int p1)]) hx hb dX4_interest_43 hl (by decide) rfl (fun ls hl => ?_)
  refine lv_iload_n hx hb dX4_interest_45 rfl (lv_at hl 5 rfl) ?_
  refine lv_if_ne (tgt := 57) hx hb dX4_interest_46 (by decide) (fun c26 => ?_) (fun c26 => ?_)
  · replace hw := hw.1 c26
    refine lv_ldc2 (v := 1200) hx hb hown (hts _ (gT_up kw_326)) dX4_interest_57 ?_
    refine lv_lload hx hb dX4_interest_60 (lv_at hl 0 rfl) ?_
    obtain ⟨hz27, hw⟩ := hw
    refine lv_ldiv hx hb dX4_interest_62 hz27 ?_
    exact gh_lret hx hb hr hlocks hw hP hS (Nat.le_of_ble_eq_true rfl) (Nat.le_of_ble_eq_true rfl) dX4_interest_63
  · replace hw := hw.2 c26
    refine lv_lload hx hb dX4_interest_49 (lv_at hl 1 rfl) ?_
    refine lv_lload hx hb dX4_interest_51 (lv_at hl 0 rfl) ?_
    obtain ⟨hz28, hw⟩ := hw
    refine lv_ldiv hx hb dX4_interest_53 hz28 ?_
    refine lv_goto (tgt := 63) hx hb dX4_interest_54 (by decide) ?_
    exact gh_lret hx hb hr hlocks hw hP hS (Nat.le_of_ble_eq_true rfl) (Nat.le_of_ble_eq_true rfl) dX4_interest_63
abbrev rmX4_overdueInvoicesOf : Room := { frames := 1, cells := 0, slots := 0, locals := 21 }
abbrev cxX4_overdueInvoicesOf (p : Program) (s : State) (m : MethodId) (args : Array Value) (meth : Method) (c : Code) (D : va_G) (AC : Nat → ClassId) (sa : gh_SA) (A : Nat → Prop) : Prop := CallFix p m c prog_1_method_35_code 7 s args wsX4_overdueInvoicesOf "OwnerLedger" ∧ meth.sig.returnType = (some .int) ∧ meth.locks = false ∧ c.exceptionTable.toList = [] ∧ va_K D vwCl (gh_ty AC) s ∧ gh_En sa A s s.heap ∧ (∀ q, s.heap.size ≤ q → A q)
def wX4_overdueInvoicesOf_14 (post : Int32 → gh_H → Prop) (px : String → gh_H → Prop) : Nat → gh_H → Nat → Int32 → Int32 → Nat → Int32 → Int32 → Prop
  | 0 => fun _ _ _ _ _ _ _ => False
  | n + 1 => fun G t p0 v2 v3 v4 v5 => (v4 ≤ v5 → (post v2 G)) ∧ (¬ v4 ≤ v5 → (∃ (k6 n2 : Nat) (f3 : Nat → Option Nat), G v3 = some (.inl (k6, n2, .inr (.inr (.inr (.inr f3))))) ∧ gh_isq k6 = true ∧ vp_in v5 n2 ∧ (∀ o8 : Option Nat, o8 = f3 v5.toNatClampNeg → (o8 = none → (wX4_overdueInvoicesOf_14 post px n G t p0 v2 v3 v4 (v5 + 1))) ∧ (∀ a10 : Nat, o8 = some a10 → (∃ (fs11 : List Value) (x14 : Int32), G a10 = some (.inr (1, fs11)) ∧ fs11[0]? = some (.int x14) ∧ ((¬ x14 = p0 → (wX4_overdueInvoicesOf_14 post px n G t p0 v2 v3 v4 (v5 + 1))) ∧ (x14 = p0 → (∃ (fs16 : List Value) (x19 : Int32), G t = some (.inr (4, fs16)) ∧ fs16[8]? = some (.int x19) ∧ (∃ fs22 : List Value, G a10 = some (.inr (1, fs22)) ∧ wX1_isOverdue (fun r20 G21 => (r20 = 0 → (wX4_overdueInvoicesOf_14 post px n G21 t p0 v2 v3 v4 (v5 + 1))) ∧ (¬ r20 = 0 → (wX4_overdueInvoicesOf_14 post px n G21 t p0 (v2 + 1) v3 v4 (v5 + 1)))) px G a10 x19)))))))))
set_option maxRecDepth 100000 in
set_option maxHeartbeats 4000000 in
theorem lX4_overdueInvoicesOf_14 {p : Program} {l : Launch} {e : Env} {s : State} {m : MethodId} {args : Array Value} {below : List Frame} {meth : Method} {c : Code} {D : va_G} {AC : Nat → ClassId} {sa : gh_SA} {A : Nat → Prop} (hl0 : l.stackTraces = false) (CX : cxX4_overdueInvoicesOf p s m args meth c D AC sa A) (post : Int32 → gh_H → Prop) (px : String → gh_H → Prop) : ∀ n : Nat, ∀ (G : gh_H) (t : Nat) (p0 : Int32) (v2 : Int32) (v3 : Nat) (v4 : Int32) (v5 : Int32) (H : Heap) (locs : List Loc), wX4_overdueInvoicesOf_14 post px n G t p0 v2 v3 v4 v5 → gh_h D vwCl AC A G H → va_S A s.heap H locs → ∀ ls : Array Slot, lv_has ls 7 [(0, .ref t), (1, .int p0), (2, .int v2), (3, .ref v3), (4, .int v4), (5, .int v5)] → W p l e rmX4_overdueInvoicesOf s m args below meth c H locs 0 0 (vx_MQ below (va_Qi post (gh_B D vwCl AC A) A) (gh_X D vwCl AC px A) args s 0 0 A) (F0 m 14 ls []) := by
  obtain ⟨⟨hx, hb, hml, hown, hts⟩, hr, hlocks, htb, hK, hE, hA⟩ := id CX
  have hno : ∀ (pc : Nat), ∀ x ∈ c.exceptionTable.toList, covers x pc = false := by rw [htb]; intro _ _ h; cases h
  intro n
  induction n with
  | zero =>
    intro G t p0 v2 v3 v4 v5 H locs hw
    exact False.elim hw
  | succ n ih =>
    intro G t p0 v2 v3 v4 v5 H locs hw hP hS ls hl
    dsimp only [wX4_overdueInvoicesOf_14] at hw
    refine lv_iload hx hb dX4_overdueInvoicesOf_14 (lv_at hl 5 rfl) ?_
    refine lv_iload hx hb dX4_overdueInvoicesOf_16 (lv_at hl 4 rfl) ?_
    refine lv_icmp_ge (tgt := 62) hx hb dX4_overdueInvoicesOf_18 (by decide) (fun c1 => ?_) (fun c1 => ?_)
    · replace hw := hw.1 c1
      refine lv_iload_n hx hb dX4_overdueInvoicesOf_62 rfl (lv_at hl 2 rfl) ?_
      exact gh_iret hx hb hr hlocks hw hP hS (Nat.le_of_ble_eq_true rfl) (Nat.le_of_ble_eq_true rfl) dX4_overdueInvoicesOf_63
    · replace hw := hw.2 c1
      refine lv_aload_n hx hb dX4_overdueInvoicesOf_21 rfl (lv_at hl 3 rfl) ?_
      refine lv_iload hx hb dX4_overdueInvoicesOf_22 (lv_at hl 5 rfl) ?_
      obtain ⟨k6, n2, f3, he4, hk7, hi5, hw⟩ := hw
      obtain ⟨C9, ht9⟩ := gh_tyq AC hk7
      refine gh_aald hx hb hK hP he4 ht9 hi5 dX4_overdueInvoicesOf_24 ?_
      obtain ⟨o8, eo9⟩ : ∃ z : Option Nat, z = f3 (Int32.toNatClampNeg v5) := ⟨_, rfl⟩
      rw [← eo9]
      replace hw := hw o8 eo9
      refine gh_astore (lv' := [(6, va_rf o8), (0, .ref t), (1, .int p0), (2, .int v2), (3, .ref v3), (4, .int v4), (5, .int v5)]) hx hb dX4_overdueInvoicesOf_25 hl (by decide) rfl (fun ls hl => ?_)
      refine gh_aload hx hb dX4_overdueInvoicesOf_27 (lv_at hl 0 rfl) ?_
      rcases o8 with _ | a10
      · replace hw := hw.1 rfl
        have hl : lv_has ls 7 [(6, .null), (0, .ref t), (1, .int p0), (2, .int v2), (3, .ref v3), (4, .int v4), (5, .int v5)] := hl
        refine lv_ifnullN (tgt := 56) hx hb dX4_overdueInvoicesOf_29 (by decide) ?_
        refine lv_iinc (v := (v5 + 1)) (lv' := [(5, .int (v5 + 1)), (6, .null), (0, .ref t), (1, .int p0), (2, .int v2), (3, .ref v3), (4, .int v4)]) hx hb dX4_overdueInvoicesOf_56 hl (k := 6) rfl rfl (by decide) rfl (fun ls hl => ?_)
        refine lv_goto (tgt := 14) hx hb dX4_overdueInvoicesOf_59 (by decide) ?_
        have hl := lv_sub (l' := [(0, .ref t), (1, .int p0), (2, .int v2), (3, .ref v3), (4, .int v4), (5, .int (v5 + 1))]) hl [2, 3, 4, 5, 6, 0] rfl
        exact ih _ t p0 v2 v3 v4 (v5 + 1) _ _ hw hP hS ls hl
      · replace hw := hw.2 a10 rfl
        have hl : lv_has ls 7 [(6, .ref a10), (0, .ref t), (1, .int p0), (2, .int v2), (3, .ref v3), (4, .int v4), (5, .int v5)] := hl
        refine lv_ifnull hx hb dX4_overdueInvoicesOf_29 ?_
        refine lv_aload hx hb dX4_overdueInvoicesOf_32 (lv_at hl 0 rfl) ?_
        obtain ⟨fs11, x14, he12, hv13, hw⟩ := hw
        refine gh_get (ci := 1) (v := .int x14) (C := "OwnerLedger$Invoice") (T := TX1) (N := 5) hx hb hts (fun w h => gT_up (inX1 w h)) hown hK hP he12 rfl 0 (by decide) (hts _ (gT_up kw_253)) (fun _ h9 => h9) hv13 dX4_overdueInvoicesOf_34 ?_
        refine lv_iload_n hx hb dX4_overdueInvoicesOf_37 rfl (lv_at hl 2 rfl) ?_
        refine lv_icmp_ne (tgt := 56) hx hb dX4_overdueInvoicesOf_38 (by decide) (fun c15 => ?_) (fun c15 => ?_)
        · replace hw := hw.1 c15
          refine lv_iinc (v := (v5 + 1)) (lv' := [(5, .int (v5 + 1)), (6, .ref a10), (0, .ref t), (1, .int p0), (2, .int v2), (3, .ref v3), (4, .int v4)]) hx hb dX4_overdueInvoicesOf_56 hl (k := 6) rfl rfl (by decide) rfl (fun ls hl => ?_)
          refine lv_goto (tgt := 14) hx hb dX4_overdueInvoicesOf_59 (by decide) ?_
          have hl := lv_sub (l' := [(0, .ref t), (1, .int p0), (2, .int v2), (3, .ref v3), (4, .int v4), (5, .int (v5 + 1))]) hl [2, 3, 4, 5, 6, 0] rfl
          exact ih _ t p0 v2 v3 v4 (v5 + 1) _ _ hw hP hS ls hl
        · replace hw := hw.2 c15
          refine lv_aload hx hb dX4_overdueInvoicesOf_41 (lv_at hl 0 rfl) ?_
          refine lv_aload_n hx hb dX4_overdueInvoicesOf_43 rfl (lv_at hl 1 rfl) ?_
          obtain ⟨fs16, x19, he17, hv18, hw⟩ := hw
          refine gh_get (ci := 4) (v := .int x19) (C := "OwnerLedger") (T := TX4) (N := 11) hx hb hts (fun w h => gT_up (inX4 w h)) hown hK hP he17 rfl 8 (by decide) (hts _ (gT_up kw_31)) (fun _ h9 => h9) hv18 dX4_overdueInvoicesOf_44 ?_
          obtain ⟨fs22, he23, hw⟩ := hw
          refine gh_ci hlocks (hno _) (vx_runV (C := "OwnerLedger$Invoice") (As := [.int x19]) (rest := []) ⟨hx, hb, hml, hown, hts⟩ (mX1_isOverdue l hl0 D AC sa _ _ _ _ _ _ hw) (cwV 1 hts (gV kw_302 kw_303 kw_304 kw_10 kw_305) rfl rfl rfl (by decide +kernel) ⟨Nat.le_of_ble_eq_true rfl, Nat.le_of_ble_eq_true rfl⟩) (gh_preV gh_En_ok hK hE hP hS hA he23 rfl _) rfl rfl hl.1 rfl (lv_room (Nat.le_of_ble_eq_true rfl)) dX4_overdueInvoicesOf_47 ⟨Nat.le_of_ble_eq_true rfl, Nat.le_of_ble_eq_true rfl⟩) hP hS hA (Nat.le_of_ble_eq_true rfl) (Nat.le_of_ble_eq_true rfl) (fun r20 G21 H locs hw2 hP hS => ?_)
          replace hw := hw2
          clear hw2
          refine lv_if_eq (tgt := 56) hx hb dX4_overdueInvoicesOf_50 (by decide) (fun c24 => ?_) (fun c24 => ?_)
          · replace hw := hw.1 c24
            refine lv_iinc (v := (v5 + 1)) (lv' := [(5, .int (v5 + 1)), (6, .ref a10), (0, .ref t), (1, .int p0), (2, .int v2), (3, .ref v3), (4, .int v4)]) hx hb dX4_overdueInvoicesOf_56 hl (k := 6) rfl rfl (by decide) rfl (fun ls hl => ?_)
            refine lv_goto (tgt := 14) hx hb dX4_overdueInvoicesOf_59 (by decide) ?_
            have hl := lv_sub (l' := [(0, .ref t), (1, .int p0), (2, .int v2), (3, .ref v3), (4, .int v4), (5, .int (v5 + 1))]) hl [2, 3, 4, 5, 6, 0] rfl
            exact ih _ t p0 v2 v3 v4 (v5 + 1) _ _ hw hP hS ls hl
          · replace hw := hw.2 c24
            refine lv_iinc (v := (v2 + 1)) (lv' := [(2, .int (v2 + 1)), (6, .ref a10), (0, .ref t), (1, .int p0), (3, .ref v3), (4, .int v4), (5, .int v5)]) hx hb dX4_overdueInvoicesOf_53 hl (k := 3) rfl rfl (by decide) rfl (fun ls hl => ?_)
            refine lv_iinc (v := (v5 + 1)) (lv' := [(5, .int (v5 + 1)), (2, .int (v2 + 1)), (6, .ref a10), (0, .ref t), (1, .int p0), (3, .ref v3), (4, .int v4)]) hx hb dX4_overdueInvoicesOf_56 hl (k := 6) rfl rfl (by decide) rfl (fun ls hl => ?_)
            refine lv_goto (tgt := 14) hx hb dX4_overdueInvoicesOf_59 (by decide) ?_
            have hl := lv_sub (l' := [(0, .ref t), (1, .int p0), (2, .int (v2 + 1)), (3, .ref v3), (4, .int v4), (5, .int (v5 + 1))]) hl [3, 4, 1, 5, 6, 0] rfl
            exact ih _ t p0 (v2 + 1) v3 v4 (v5 + 1) _ _ hw hP hS ls hl
def wX4_overdueInvoicesOf (post : Int32 → gh_H → Prop) (px : String → gh_H → Prop) (G : gh_H) (t : Nat) (p0 : Int32) : Prop := ∃ (fs1 : List Value) (x4 : Nat), G t = some (.inr (4, fs1)) ∧ fs1[3]? = some (.ref x4) ∧ (∃ (k5 : Nat) (n6 : vp_A), G x4 = some (.inl (k5, n6)) ∧ k5 < 7 ∧ (wX4_overdueInvoicesOf_14 post px 300 G t p0 0 x4 (Int32.ofNat n6.1) 0))
set_option maxRecDepth 100000 in
set_option maxHeartbeats 4000000 in
theorem mX4_overdueInvoicesOf (l : Launch) (hl0 : l.stackTraces = false) (D : va_G) (AC : Nat → ClassId) (sa : gh_SA) (t : Nat) (p0 : Int32) (post : Int32 → gh_H → Prop) (px : String → gh_H → Prop) (G : gh_H) (sz : Nat) (hw : wX4_overdueInvoicesOf post px G t p0) : vx_Met l yX4_overdueInvoicesOf wsX4_overdueInvoicesOf rmX4_overdueInvoicesOf (gh_Pc D vwCl AC (gh_ty AC) (gh_En sa) G sz [.ref t, .int p0]) (va_Qi post (gh_B D vwCl AC (gh_A G sz)) (gh_A G sz)) (gh_X D vwCl AC px (gh_A G sz)) 0 0 (gh_A G sz) := by
  refine vx_ofW (cc := prog_1_method_35_code) (maxL := 7) (ret := (some .int)) (by decide) rfl ?_
  intro p e s m args below meth c s₁ B hml hnoh hv
  obtain ⟨rfl, hsz, hP, hK, hE⟩ := hv
  have hx := B.exec
  have hb := B.bytes
  have hr := B.returns
  have hts := atoms_spec (ws := wsX4_overdueInvoicesOf) B.pre
  have hown : s.vm.findClass "OwnerLedger" = some m.cls := findClass_of_methodNamed B.named
  have hlocks := B.notSynchronized
  have htb : c.exceptionTable.toList = [] := List.eq_nil_iff_forall_not_mem.mpr hnoh
  subst hsz
  have hA : ∀ q, s.heap.size ≤ q → gh_A G s.heap.size q := fun q h => Or.inr h
  generalize gh_A G s.heap.size = A at hP hE hA ⊢
  have hno : ∀ (pc : Nat), ∀ x ∈ c.exceptionTable.toList, covers x pc = false := by rw [htb]; intro _ _ h; cases h
  have CX : cxX4_overdueInvoicesOf p s m [.ref t, .int p0].toArray meth c D AC sa A := ⟨⟨hx, hb, hml, hown, hts⟩, hr, hlocks, htb, hK, hE, hA⟩
  have hS : va_S A s.heap s.heap [] := va_S.rf
  have hl := lv_entry ([.ref t, .int p0]) (n := 7) (Nat.le_of_ble_eq_true rfl)
  rw [lg_entry_eq]
  generalize (lg_sl ([.ref t, .int p0]) ++ List.replicate (7 - (lg_sl ([.ref t, .int p0])).length) Slot.unset).toArray = ls at hl ⊢
  have hl : lv_has ls 7 [(0, .ref t), (1, .int p0)] := hl
  dsimp only [wX4_overdueInvoicesOf] at hw
  refine lv_iconst (v := 0) hx hb dX4_overdueInvoicesOf_0 (by decide) ?_
  refine lv_istore_n (lv' := [(2, .int 0), (0, .ref t), (1, .int p0)]) hx hb dX4_overdueInvoicesOf_1 rfl hl (by decide) rfl (fun ls hl => ?_)
  refine lv_aload_n hx hb dX4_overdueInvoicesOf_2 rfl (lv_at hl 1 rfl) ?_
  obtain ⟨fs1, x4, he2, hv3, hw⟩ := hw
  refine gh_get (ci := 4) (v := .ref x4) (C := "OwnerLedger") (T := TX4) (N := 11) hx hb hts (fun w h => gT_up (inX4 w h)) hown hK hP he2 rfl 3 (by decide) (hts _ (gT_up kw_26)) (fun _ h9 => h9) hv3 dX4_overdueInvoicesOf_3 ?_
  refine lv_astore_n (lv' := [(3, .ref x4), (2, .int 0), (0, .ref t), (1, .int p0)]) hx hb dX4_overdueInvoicesOf_6 rfl hl (by decide) rfl (fun ls hl => ?_)
  refine lv_aload_n hx hb dX4_overdueInvoicesOf_7 rfl (lv_at hl 0 rfl) ?_
  obtain ⟨k5, n6, he8, hk9, hw⟩ := hw
  obtain ⟨ty9, ht9⟩ := gh_tyat AC hk9
  refine gh_alen hx hb hK hP he8 ht9 rfl dX4_overdueInvoicesOf_8 ?_
  refine lv_istore (lv' := [(4, .int (Int32.ofNat n6.1)), (3, .ref x4), (2, .int 0), (0, .ref t), (1, .int p0)]) hx hb dX4_overdueInvoicesOf_9 hl (by decide) rfl (fun ls hl => ?_)
  refine lv_iconst (v := 0) hx hb dX4_overdueInvoicesOf_11 (by decide) ?_
  refine lv_istore (lv' := [(5, .int 0), (4, .int (Int32.ofNat n6.1)), (3, .ref x4), (2, .int 0), (0, .ref t), (1, .int p0)]) hx hb dX4_overdueInvoicesOf_12 hl (by decide) rfl (fun ls hl => ?_)
  have hl := lv_sub (l' := [(0, .ref t), (1, .int p0), (2, .int 0), (3, .ref x4), (4, .int (Int32.ofNat n6.1)), (5, .int 0)]) hl [4, 5, 3, 2, 1, 0] rfl
  exact lX4_overdueInvoicesOf_14 hl0 CX post px _ _ t p0 0 x4 (Int32.ofNat n6.1) 0 _ _ hw hP hS ls hl
abbrev rmX4_hold : Room := { frames := 7, cells := 2, slots := 12, locals := 104 }
abbrev cxX4_hold (p : Program) (s : State) (m : MethodId) (args : Array Value) (meth : Method) (c : Code) (D : va_G) (AC : Nat → ClassId) (sa : gh_SA) (A : Nat → Prop) : Prop := CallFix p m c prog_1_method_20_code 4 s args wsX4_hold "OwnerLedger" ∧ meth.sig.returnType = (some .int) ∧ meth.locks = false ∧ c.exceptionTable.toList = [] ∧ va_K D vwCl (gh_ty AC) s ∧ gh_En sa A s s.heap ∧ (∀ q, s.heap.size ≤ q → A q)
def wX4_hold (post : Int32 → gh_H → Prop) (px : String → gh_H → Prop) (G : gh_H) (t : Nat) (p0 : Int32) (p1 : Int32) : Prop := ∃ fs3 : List Value, G t = some (.inr (4, fs3)) ∧ wX4_findOwner (fun r1 G2 => ∃ a5 : Nat, r1 = some a5 ∧ ∃ (fs6 : List Value) (x9 : Int32), G2 a5 = some (.inr (2, fs6)) ∧ fs6[1]? = some (.int x9) ∧ ((¬ x9 = p1 → (∃ fs11 : List Value, G2 a5 = some (.inr (2, fs11)) ∧ 1 < fs11.length ∧ narrow .boolean (.int p1) = .int p1 ∧ fits .boolean (.int p1) = true ∧ (∀ G16 : gh_H, G16 = gh_up G2 a5 (.inr (2, fs11.set 1 (.int p1))) → ∃ fs20 : List Value, G16 t = some (.inr (4, fs20)) ∧ wX4_overdueInvoicesOf (fun r18 G19 => post r18 G19) px G16 t p0))) ∧ (x9 = p1 → (px "java/lang/IllegalStateException" G2)))) px G t p0
set_option maxRecDepth 100000 in
set_option maxHeartbeats 4000000 in
theorem mX4_hold (l : Launch) (hl0 : l.stackTraces = false) (D : va_G) (AC : Nat → ClassId) (sa : gh_SA) (t : Nat) (p0 : Int32) (p1 : Int32) (post : Int32 → gh_H → Prop) (px : String → gh_H → Prop) (G : gh_H) (sz : Nat) (hw : wX4_hold post px G t p0 p1) : vx_Met l yX4_hold wsX4_hold rmX4_hold (gh_Pc D vwCl AC (gh_ty AC) (gh_En sa) G sz [.ref t, .int p0, .int p1]) (va_Qi post (gh_B D vwCl AC (gh_A G sz)) (gh_A G sz)) (gh_X D vwCl AC px (gh_A G sz)) 2 12 (gh_A G sz) := by
  refine vx_ofW (cc := prog_1_method_20_code) (maxL := 4) (ret := (some .int)) (by decide) rfl ?_
  intro p e s m args below meth c s₁ B hml hnoh hv
  obtain ⟨rfl, hsz, hP, hK, hE⟩ := hv
  have hx := B.exec
  have hb := B.bytes
  have hr := B.returns
  have hts := atoms_spec (ws := wsX4_hold) B.pre
  have hown : s.vm.findClass "OwnerLedger" = some m.cls := findClass_of_methodNamed B.named
  have hlocks := B.notSynchronized
  have htb : c.exceptionTable.toList = [] := List.eq_nil_iff_forall_not_mem.mpr hnoh
  subst hsz
  have hA : ∀ q, s.heap.size ≤ q → gh_A G s.heap.size q := fun q h => Or.inr h
  generalize gh_A G s.heap.size = A at hP hE hA ⊢
  have hno : ∀ (pc : Nat), ∀ x ∈ c.exceptionTable.toList, covers x pc = false := by rw [htb]; intro _ _ h; cases h
  have CX : cxX4_hold p s m [.ref t, .int p0, .int p1].toArray meth c D AC sa A := ⟨⟨hx, hb, hml, hown, hts⟩, hr, hlocks, htb, hK, hE, hA⟩
  have hS : va_S A s.heap s.heap [] := va_S.rf
  have hl := lv_entry ([.ref t, .int p0, .int p1]) (n := 4) (Nat.le_of_ble_eq_true rfl)
  rw [lg_entry_eq]
  generalize (lg_sl ([.ref t, .int p0, .int p1]) ++ List.replicate (4 - (lg_sl ([.ref t, .int p0, .int p1])).length) Slot.unset).toArray = ls at hl ⊢
  have hl : lv_has ls 4 [(0, .ref t), (1, .int p0), (2, .int p1)] := hl
  dsimp only [wX4_hold] at hw
  refine lv_aload_n hx hb dX4_hold_0 rfl (lv_at hl 0 rfl) ?_
  refine lv_iload_n hx hb dX4_hold_1 rfl (lv_at hl 1 rfl) ?_
  obtain ⟨fs3, he4, hw⟩ := hw
  refine gh_cq hlocks (hno _) (vx_runV (C := "OwnerLedger") (As := [.int p0]) (rest := []) ⟨hx, hb, hml, hown, hts⟩ (mX4_findOwner l hl0 D AC sa _ _ _ _ _ _ hw) (cwV 1 hts (gV kw_80 kw_81 kw_533 kw_1 kw_82) rfl rfl rfl (by decide +kernel) ⟨Nat.le_of_ble_eq_true rfl, Nat.le_of_ble_eq_true rfl⟩) (gh_preV gh_En_ok hK hE hP hS hA he4 rfl _) rfl rfl hl.1 rfl (lv_room (Nat.le_of_ble_eq_true rfl)) dX4_hold_2 ⟨Nat.le_of_ble_eq_true rfl, Nat.le_of_ble_eq_true rfl⟩) hP hS hA (Nat.le_of_ble_eq_true rfl) (Nat.le_of_ble_eq_true rfl) (fun r1 G2 H locs hw2 hP hS => ?_)
  replace hw := hw2
  clear hw2
  refine gh_astore_n (lv' := [(3, va_rf r1), (0, .ref t), (1, .int p0), (2, .int p1)]) hx hb dX4_hold_5 rfl hl (by decide) rfl (fun ls hl => ?_)
  refine gh_aload_n hx hb dX4_hold_6 rfl (lv_at hl 0 rfl) ?_
  obtain ⟨a5, ea5, hw⟩ := hw
  subst ea5
  have hl : lv_has ls 4 [(3, .ref a5), (0, .ref t), (1, .int p0), (2, .int p1)] := hl
  obtain ⟨fs6, x9, he7, hv8, hw⟩ := hw
  refine gh_get (ci := 2) (v := .int x9) (C := "OwnerLedger$Owner") (T := TX2) (N := 2) hx hb hts (fun w h => gT_up (inX2 w h)) hown hK hP he7 rfl 1 (by decide) (hts _ (gT_up kw_70)) (fun _ h9 => h9) hv8 dX4_hold_7 ?_
  refine lv_iload_n hx hb dX4_hold_10 rfl (lv_at hl 3 rfl) ?_
  refine lv_icmp_ne (tgt := 24) hx hb dX4_hold_11 (by decide) (fun c10 => ?_) (fun c10 => ?_)
  · replace hw := hw.1 c10
    refine lv_aload_n hx hb dX4_hold_24 rfl (lv_at hl 0 rfl) ?_
    refine lv_iload_n hx hb dX4_hold_25 rfl (lv_at hl 3 rfl) ?_
    obtain ⟨fs11, he12, hk13, hn14, hf15, hw⟩ := hw
    refine gh_put (ci := 2) (v := .int p1) (ty := .boolean) (C := "OwnerLedger$Owner") (T := TX2) (N := 2) hx hb hts (fun w h => gT_up (inX2 w h)) tyX2 tyX2_ok nmX2 hown hK hP hS he12 rfl 1 (by decide) (hts _ (gT_up kw_70)) (fun _ h9 => h9) rfl (by decide +kernel) hn14 hf15 hk13 dX4_hold_26 (fun G16 H locs eG17 hP hS => ?_)
    replace hw := hw G16 eG17
    refine lv_aload_n hx hb dX4_hold_29 rfl (lv_at hl 1 rfl) ?_
    refine lv_iload_n hx hb dX4_hold_30 rfl (lv_at hl 2 rfl) ?_
    obtain ⟨fs20, he21, hw⟩ := hw
    refine gh_ci hlocks (hno _) (vx_runV (C := "OwnerLedger") (As := [.int p0]) (rest := []) ⟨hx, hb, hml, hown, hts⟩ (mX4_overdueInvoicesOf l hl0 D AC sa _ _ _ _ _ _ hw) (cwV 1 hts (gV kw_340 kw_341 kw_539 kw_1 kw_342) rfl rfl rfl (by decide +kernel) ⟨Nat.le_of_ble_eq_true rfl, Nat.le_of_ble_eq_true rfl⟩) (gh_preV gh_En_ok hK hE hP hS hA he21 rfl _) rfl rfl hl.1 rfl (lv_room (Nat.le_of_ble_eq_true rfl)) dX4_hold_31 ⟨Nat.le_of_ble_eq_true rfl, Nat.le_of_ble_eq_true rfl⟩) hP hS hA (Nat.le_of_ble_eq_true rfl) (Nat.le_of_ble_eq_true rfl) (fun r18 G19 H locs hw2 hP hS => ?_)
    replace hw := hw2
    clear hw2
    exact gh_iret hx hb hr hlocks hw hP hS (Nat.le_of_ble_eq_true rfl) (Nat.le_of_ble_eq_true rfl) dX4_hold_34
  · replace hw := hw.2 c10
    exact vx_throwS (own := "OwnerLedger") (cls := "java/lang/IllegalStateException") (names := ["java/lang/RuntimeException", "java/lang/Exception"]) hx hb hl0 hown (by decide +kernel) (by decide +kernel) (hts _ (gT_up kw_113)) (hts _ (gT_up kw_7)) (gh_str hE (own := "OwnerLedger") (k := 220) (tx := "the owner is so already") (by decide)) (gh_hat3 hts hE) gh_got3 hE.1 hE.2.1 hS (hl.1.trans hml.symm) dX4_hold_14 dX4_hold_17 dX4_hold_18 dX4_hold_20 dX4_hold_23 (hno _) (Nat.le_of_ble_eq_true rfl) (Nat.le_of_ble_eq_true rfl) (Nat.le_of_ble_eq_true rfl) (Nat.le_of_ble_eq_true rfl) hlocks (gh_thrown hP hS hw) hS.2.2 (Nat.le_of_ble_eq_true rfl) (Nat.le_of_ble_eq_true rfl)
