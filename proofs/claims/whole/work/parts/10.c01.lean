abbrev rmX0_init : Room := { frames := 1, cells := 1, slots := 8, locals := 12 }
abbrev cxX0_init (p : Program) (s : State) (m : MethodId) (args : Array Value) (meth : Method) (c : Code) (D : va_G) (AC : Nat → ClassId) (sa : gh_SA) (A : Nat → Prop) : Prop := CallFix p m c prog_2_method_1_code 2 s args wsX0_init "OwnerLedger$Batch" ∧ meth.sig.returnType = none ∧ meth.locks = false ∧ c.exceptionTable.toList = [] ∧ va_K D vwCl (gh_ty AC) s ∧ gh_En sa A s s.heap ∧ (∀ q, s.heap.size ≤ q → A q) ∧ meth.name = "<init>"
def wX0_init (post : gh_H → Prop) (px : String → gh_H → Prop) (G : gh_H) (t : Nat) (p0 : Int32) : Prop := ∃ fs1 : List Value, G t = some (.inr (0, fs1)) ∧ 0 < fs1.length ∧ (∀ G4 : gh_H, G4 = gh_up G t (.inr (0, fs1.set 0 (.int p0))) → ∀ q6 : Nat, G4 q6 = none → ∀ G7 : gh_H, G7 = gh_up G4 q6 (.inl (6, 8, .inr (.inr (.inr (.inr (fun _ => none)))))) → ∃ fs10 : List Value, G7 t = some (.inr (0, fs10)) ∧ 1 < fs10.length ∧ (∀ G13 : gh_H, G13 = gh_up G7 t (.inr (0, fs10.set 1 (.ref q6))) → ∃ fs15 : List Value, G13 t = some (.inr (0, fs15)) ∧ 3 < fs15.length ∧ (∀ G18 : gh_H, G18 = gh_up G13 t (.inr (0, fs15.set 3 (.int 0))) → post G18)))
set_option maxRecDepth 100000 in
set_option maxHeartbeats 4000000 in
theorem mX0_init (l : Launch) (hl0 : l.stackTraces = false) (D : va_G) (AC : Nat → ClassId) (sa : gh_SA) (t : Nat) (p0 : Int32) (post : gh_H → Prop) (px : String → gh_H → Prop) (G : gh_H) (sz : Nat) (hw : wX0_init post px G t p0) : Met l yX0_init wsX0_init rmX0_init (gh_Pc D vwCl AC (gh_ty AC) (gh_En sa) G sz [.ref t, .int p0]) (va_Qv post (gh_B D vwCl AC (gh_A G sz)) (gh_A G sz)) 1 8 (gh_A G sz) := by
  refine Met.ofW (cc := prog_2_method_1_code) (maxL := 2) (ret := none) (by decide) rfl ?_
  intro p e s m args below meth c s₁ B hml hv
  obtain ⟨rfl, hsz, hP, hK, hE⟩ := hv
  have hx := B.exec
  have hb := B.bytes
  have hr := B.returns
  have hts := atoms_spec (ws := wsX0_init) B.pre
  have hown : s.vm.findClass "OwnerLedger$Batch" = some m.cls := findClass_of_methodNamed B.named
  have hlocks := B.notSynchronized
  have hin : meth.name = "<init>" := (name_of_methodNamed B.named B.method).1
  have htb : c.exceptionTable.toList = [] := gh_notab B (hts _ List.mem_cons_self)
  subst hsz
  have hA : ∀ q, s.heap.size ≤ q → gh_A G s.heap.size q := fun q h => Or.inr h
  generalize gh_A G s.heap.size = A at hP hE hA ⊢
  have hno : ∀ (pc : Nat), ∀ x ∈ c.exceptionTable.toList, covers x pc = false := by rw [htb]; intro _ _ h; cases h
  have CX : cxX0_init p s m [.ref t, .int p0].toArray meth c D AC sa A := ⟨⟨hx, hb, hml, hown, hts⟩, hr, hlocks, htb, hK, hE, hA, hin⟩
  have hS : va_S A s.heap s.heap [] := va_S.rf
  have hl := lv_entry ([.ref t, .int p0]) (n := 2) (Nat.le_of_ble_eq_true rfl)
  rw [lg_entry_eq]
  generalize (lg_sl ([.ref t, .int p0]) ++ List.replicate (2 - (lg_sl ([.ref t, .int p0])).length) Slot.unset).toArray = ls at hl ⊢
  have hl : lv_has ls 2 [(0, .ref t), (1, .int p0)] := hl
  dsimp only [wX0_init] at hw
  refine lv_aload_n hx hb dX0_init_0 rfl (lv_at hl 0 rfl) ?_
  refine W.objInit hx hb hown (hts _ (gT_up kw_129)) (hts _ (gT_up kw_18)) (hts _ (gT_up kw_19)) rfl (by rw [hml]; exact hl.1) rfl dX0_init_1 (Nat.le_of_ble_eq_true rfl) (Nat.le_of_ble_eq_true rfl) ?_
  refine W.eq (g2 := F0 m 4 ls []) rfl ?_
  refine lv_aload_n hx hb dX0_init_4 rfl (lv_at hl 0 rfl) ?_
  refine lv_iload_n hx hb dX0_init_5 rfl (lv_at hl 1 rfl) ?_
  obtain ⟨fs1, he2, hk3, hw⟩ := hw
  refine gh_putF (ci := 0) (v := .int p0) (ty := .int) (C := "OwnerLedger$Batch") (T := TX0) (N := 6) hx hb hts (fun w h => gT_up (inX0 w h)) tyX0 tyX0_ok nmX0 hown hK hP hS he2 rfl 0 (by decide) (hts _ (gT_up kw_131)) (fun _ h9 => h9) rfl hin rfl (by decide +kernel) rfl rfl hk3 dX0_init_6 (fun G4 H locs eG5 hP hS => ?_)
  replace hw := hw G4 eG5
  refine lv_aload_n hx hb dX0_init_9 rfl (lv_at hl 0 rfl) ?_
  refine lv_bipush (v := 8) hx hb dX0_init_10 (by decide) ?_
  refine gh_newq (k := 6) (C := "OwnerLedger$Row") hx hb hown (hts _ (gT_up kw_130)) (gh_ao hE (by decide)) hK rfl hP hS hA (n := 8) (N' := 8) (by decide) (by decide) (by decide) (Nat.le_of_ble_eq_true rfl) (Nat.le_of_ble_eq_true rfl) dX0_init_12 (fun q6 G7 H hq9 eG8 hP hS => ?_)
  replace hw := hw q6 hq9 G7 eG8
  obtain ⟨fs10, he11, hk12, hw⟩ := hw
  refine gh_putF (ci := 0) (v := .ref q6) (ty := (.array (.object "OwnerLedger$Row"))) (C := "OwnerLedger$Batch") (T := TX0) (N := 6) hx hb hts (fun w h => gT_up (inX0 w h)) tyX0 tyX0_ok nmX0 hown hK hP hS he11 rfl 1 (by decide) (hts _ (gT_up kw_133)) (fun _ h9 => h9) rfl hin rfl (by decide +kernel) rfl rfl hk12 dX0_init_15 (fun G13 H locs eG14 hP hS => ?_)
  replace hw := hw G13 eG14
  refine lv_aload_n hx hb dX0_init_18 rfl (lv_at hl 0 rfl) ?_
  refine lv_iconst (v := 0) hx hb dX0_init_19 (by decide) ?_
  obtain ⟨fs15, he16, hk17, hw⟩ := hw
  refine gh_put (ci := 0) (v := .int 0) (ty := .int) (C := "OwnerLedger$Batch") (T := TX0) (N := 6) hx hb hts (fun w h => gT_up (inX0 w h)) tyX0 tyX0_ok nmX0 hown hK hP hS he16 rfl 3 (by decide) (hts _ (gT_up kw_137)) (fun _ h9 => h9) rfl (by decide +kernel) rfl rfl hk17 dX0_init_20 (fun G18 H locs eG19 hP hS => ?_)
  replace hw := hw G18 eG19
  exact gh_vretM hx hb hr hlocks hw hP hS (Nat.le_of_ble_eq_true rfl) (Nat.le_of_ble_eq_true rfl) dX0_init_23
abbrev rmX4_requireRoom : Room := { frames := 6, cells := 1, slots := 6, locals := 82 }
abbrev cxX4_requireRoom (p : Program) (s : State) (m : MethodId) (args : Array Value) (meth : Method) (c : Code) (D : va_G) (AC : Nat → ClassId) (sa : gh_SA) (A : Nat → Prop) : Prop := CallFix p m c prog_1_method_26_code 2 s args wsX4_requireRoom "OwnerLedger" ∧ meth.sig.returnType = none ∧ meth.locks = false ∧ c.exceptionTable.toList = [] ∧ va_K D vwCl (gh_ty AC) s ∧ gh_En sa A s s.heap ∧ (∀ q, s.heap.size ≤ q → A q)
def wX4_requireRoom (post : gh_H → Prop) (px : String → gh_H → Prop) (G : gh_H) (p0 : Int32) (p1 : Int32) : Prop := (p0 < 0 → (px "java/lang/UnsupportedOperationException" G)) ∧ (¬ p0 < 0 → ((p0 < p1 → (post G)) ∧ (¬ p0 < p1 → (px "java/lang/UnsupportedOperationException" G))))
set_option maxRecDepth 100000 in
set_option maxHeartbeats 4000000 in
theorem mX4_requireRoom (l : Launch) (hl0 : l.stackTraces = false) (D : va_G) (AC : Nat → ClassId) (sa : gh_SA) (p0 : Int32) (p1 : Int32) (post : gh_H → Prop) (px : String → gh_H → Prop) (G : gh_H) (sz : Nat) (hw : wX4_requireRoom post px G p0 p1) : vx_Met l yX4_requireRoom wsX4_requireRoom rmX4_requireRoom (gh_Pc D vwCl AC (gh_ty AC) (gh_En sa) G sz [.int p0, .int p1]) (va_Qv post (gh_B D vwCl AC (gh_A G sz)) (gh_A G sz)) (gh_X D vwCl AC px (gh_A G sz)) 1 6 (gh_A G sz) := by
  refine vx_ofW (cc := prog_1_method_26_code) (maxL := 2) (ret := none) (by decide) rfl ?_
  intro p e s m args below meth c s₁ B hml hnoh hv
  obtain ⟨rfl, hsz, hP, hK, hE⟩ := hv
  have hx := B.exec
  have hb := B.bytes
  have hr := B.returns
  have hts := atoms_spec (ws := wsX4_requireRoom) B.pre
  have hown : s.vm.findClass "OwnerLedger" = some m.cls := findClass_of_methodNamed B.named
  have hlocks := B.notSynchronized
  have htb : c.exceptionTable.toList = [] := List.eq_nil_iff_forall_not_mem.mpr hnoh
  subst hsz
  have hA : ∀ q, s.heap.size ≤ q → gh_A G s.heap.size q := fun q h => Or.inr h
  generalize gh_A G s.heap.size = A at hP hE hA ⊢
  have hno : ∀ (pc : Nat), ∀ x ∈ c.exceptionTable.toList, covers x pc = false := by rw [htb]; intro _ _ h; cases h
  have CX : cxX4_requireRoom p s m [.int p0, .int p1].toArray meth c D AC sa A := ⟨⟨hx, hb, hml, hown, hts⟩, hr, hlocks, htb, hK, hE, hA⟩
  have hS : va_S A s.heap s.heap [] := va_S.rf
  have hl := lv_entry ([.int p0, .int p1]) (n := 2) (Nat.le_of_ble_eq_true rfl)
  rw [lg_entry_eq]
  generalize (lg_sl ([.int p0, .int p1]) ++ List.replicate (2 - (lg_sl ([.int p0, .int p1])).length) Slot.unset).toArray = ls at hl ⊢
  have hl : lv_has ls 2 [(0, .int p0), (1, .int p1)] := hl
  dsimp only [wX4_requireRoom] at hw
  refine lv_iload_n hx hb dX4_requireRoom_0 rfl (lv_at hl 0 rfl) ?_
  refine lv_if_lt (tgt := 9) hx hb dX4_requireRoom_1 (by decide) (fun c1 => ?_) (fun c1 => ?_)
  · replace hw := hw.1 c1
    exact vx_throwS (own := "OwnerLedger") (cls := "java/lang/UnsupportedOperationException") (names := ["java/lang/RuntimeException", "java/lang/Exception"]) hx hb hl0 hown (by decide +kernel) (by decide +kernel) (hts _ (gT_up kw_59)) (hts _ (gT_up kw_3)) (gh_str hE (own := "OwnerLedger") (k := 248) (tx := "there is no room for more") (by decide)) (gh_hat0 hts hE) gh_got0 hE.1 hE.2.1 hS (hl.1.trans hml.symm) dX4_requireRoom_9 dX4_requireRoom_12 dX4_requireRoom_13 dX4_requireRoom_15 dX4_requireRoom_18 (hno _) (Nat.le_of_ble_eq_true rfl) (Nat.le_of_ble_eq_true rfl) (Nat.le_of_ble_eq_true rfl) (Nat.le_of_ble_eq_true rfl) hlocks (gh_thrown hP hS hw) hS.2.2 (Nat.le_of_ble_eq_true rfl) (Nat.le_of_ble_eq_true rfl)
  · replace hw := hw.2 c1
    refine lv_iload_n hx hb dX4_requireRoom_4 rfl (lv_at hl 0 rfl) ?_
    refine lv_iload_n hx hb dX4_requireRoom_5 rfl (lv_at hl 1 rfl) ?_
    refine lv_icmp_lt (tgt := 19) hx hb dX4_requireRoom_6 (by decide) (fun c2 => ?_) (fun c2 => ?_)
    · replace hw := hw.1 c2
      exact gh_vret hx hb hr hlocks hw hP hS (Nat.le_of_ble_eq_true rfl) (Nat.le_of_ble_eq_true rfl) dX4_requireRoom_19
    · replace hw := hw.2 c2
      exact vx_throwS (own := "OwnerLedger") (cls := "java/lang/UnsupportedOperationException") (names := ["java/lang/RuntimeException", "java/lang/Exception"]) hx hb hl0 hown (by decide +kernel) (by decide +kernel) (hts _ (gT_up kw_59)) (hts _ (gT_up kw_3)) (gh_str hE (own := "OwnerLedger") (k := 248) (tx := "there is no room for more") (by decide)) (gh_hat0 hts hE) gh_got0 hE.1 hE.2.1 hS (hl.1.trans hml.symm) dX4_requireRoom_9 dX4_requireRoom_12 dX4_requireRoom_13 dX4_requireRoom_15 dX4_requireRoom_18 (hno _) (Nat.le_of_ble_eq_true rfl) (Nat.le_of_ble_eq_true rfl) (Nat.le_of_ble_eq_true rfl) (Nat.le_of_ble_eq_true rfl) hlocks (gh_thrown hP hS hw) hS.2.2 (Nat.le_of_ble_eq_true rfl) (Nat.le_of_ble_eq_true rfl)
abbrev rmX0_addRow : Room := { frames := 7, cells := 1, slots := 6, locals := 103 }
abbrev cxX0_addRow (p : Program) (s : State) (m : MethodId) (args : Array Value) (meth : Method) (c : Code) (D : va_G) (AC : Nat → ClassId) (sa : gh_SA) (A : Nat → Prop) : Prop := CallFix p m c prog_2_method_2_code 2 s args wsX0_addRow "OwnerLedger$Batch" ∧ meth.sig.returnType = none ∧ meth.locks = false ∧ c.exceptionTable.toList = [] ∧ va_K D vwCl (gh_ty AC) s ∧ gh_En sa A s s.heap ∧ (∀ q, s.heap.size ≤ q → A q)
def wX0_addRow (post : gh_H → Prop) (px : String → gh_H → Prop) (G : gh_H) (t : Nat) (p0 : Nat) : Prop := ∃ (fs1 : List Value) (x4 : Int32), G t = some (.inr (0, fs1)) ∧ fs1[2]? = some (.int x4) ∧ (∃ (fs5 : List Value) (x8 : Nat), G t = some (.inr (0, fs5)) ∧ fs5[1]? = some (.ref x8) ∧ (∃ (k9 : Nat) (n10 : vp_A), G x8 = some (.inl (k9, n10)) ∧ k9 < 7 ∧ (wX4_requireRoom (fun G15 => ∃ (fs16 : List Value) (x19 : Nat), G15 t = some (.inr (0, fs16)) ∧ fs16[1]? = some (.ref x19) ∧ (∃ (fs20 : List Value) (x23 : Int32), G15 t = some (.inr (0, fs20)) ∧ fs20[2]? = some (.int x23) ∧ (∃ (k29 n24 j30 : Nat) (f25 : Nat → Option Nat) (fs31 : List Value), G15 x19 = some (.inl (k29, n24, .inr (.inr (.inr (.inr f25))))) ∧ G15 p0 = some (.inr (j30, fs31)) ∧ gh_elk k29 j30 = true ∧ vp_in x23 n24 ∧ (∀ G34 : gh_H, G34 = gh_up G15 x19 (.inl (k29, n24, .inr (.inr (.inr (.inr (va_up f25 (Int32.toNatClampNeg x23) (some p0))))))) → ∃ (fs35 : List Value) (x38 : Int32), G34 t = some (.inr (0, fs35)) ∧ fs35[2]? = some (.int x38) ∧ (∃ fs39 : List Value, G34 t = some (.inr (0, fs39)) ∧ 2 < fs39.length ∧ (∀ G42 : gh_H, G42 = gh_up G34 t (.inr (0, fs39.set 2 (.int (x38 + 1)))) → post G42)))))) px G x4 (Int32.ofNat n10.1))))
set_option maxRecDepth 100000 in
set_option maxHeartbeats 4000000 in
theorem mX0_addRow (l : Launch) (hl0 : l.stackTraces = false) (D : va_G) (AC : Nat → ClassId) (sa : gh_SA) (t : Nat) (p0 : Nat) (post : gh_H → Prop) (px : String → gh_H → Prop) (G : gh_H) (sz : Nat) (hw : wX0_addRow post px G t p0) : vx_Met l yX0_addRow wsX0_addRow rmX0_addRow (gh_Pc D vwCl AC (gh_ty AC) (gh_En sa) G sz [.ref t, .ref p0]) (va_Qv post (gh_B D vwCl AC (gh_A G sz)) (gh_A G sz)) (gh_X D vwCl AC px (gh_A G sz)) 1 6 (gh_A G sz) := by
  refine vx_ofW (cc := prog_2_method_2_code) (maxL := 2) (ret := none) (by decide) rfl ?_
  intro p e s m args below meth c s₁ B hml hnoh hv
  obtain ⟨rfl, hsz, hP, hK, hE⟩ := hv
  have hx := B.exec
  have hb := B.bytes
  have hr := B.returns
  have hts := atoms_spec (ws := wsX0_addRow) B.pre
  have hown : s.vm.findClass "OwnerLedger$Batch" = some m.cls := findClass_of_methodNamed B.named
  have hlocks := B.notSynchronized
  have htb : c.exceptionTable.toList = [] := List.eq_nil_iff_forall_not_mem.mpr hnoh
  subst hsz
  have hA : ∀ q, s.heap.size ≤ q → gh_A G s.heap.size q := fun q h => Or.inr h
  generalize gh_A G s.heap.size = A at hP hE hA ⊢
  have hno : ∀ (pc : Nat), ∀ x ∈ c.exceptionTable.toList, covers x pc = false := by rw [htb]; intro _ _ h; cases h
  have CX : cxX0_addRow p s m [.ref t, .ref p0].toArray meth c D AC sa A := ⟨⟨hx, hb, hml, hown, hts⟩, hr, hlocks, htb, hK, hE, hA⟩
  have hS : va_S A s.heap s.heap [] := va_S.rf
  have hl := lv_entry ([.ref t, .ref p0]) (n := 2) (Nat.le_of_ble_eq_true rfl)
  rw [lg_entry_eq]
  generalize (lg_sl ([.ref t, .ref p0]) ++ List.replicate (2 - (lg_sl ([.ref t, .ref p0])).length) Slot.unset).toArray = ls at hl ⊢
  have hl : lv_has ls 2 [(0, .ref t), (1, .ref p0)] := hl
  dsimp only [wX0_addRow] at hw
  refine lv_aload_n hx hb dX0_addRow_0 rfl (lv_at hl 0 rfl) ?_
  obtain ⟨fs1, x4, he2, hv3, hw⟩ := hw
  refine gh_get (ci := 0) (v := .int x4) (C := "OwnerLedger$Batch") (T := TX0) (N := 6) hx hb hts (fun w h => gT_up (inX0 w h)) hown hK hP he2 rfl 2 (by decide) (hts _ (gT_up kw_135)) (fun _ h9 => h9) hv3 dX0_addRow_1 ?_
  refine lv_aload_n hx hb dX0_addRow_4 rfl (lv_at hl 0 rfl) ?_
  obtain ⟨fs5, x8, he6, hv7, hw⟩ := hw
  refine gh_get (ci := 0) (v := .ref x8) (C := "OwnerLedger$Batch") (T := TX0) (N := 6) hx hb hts (fun w h => gT_up (inX0 w h)) hown hK hP he6 rfl 1 (by decide) (hts _ (gT_up kw_133)) (fun _ h9 => h9) hv7 dX0_addRow_5 ?_
  obtain ⟨k9, n10, he12, hk13, hw⟩ := hw
  obtain ⟨ty9, ht9⟩ := gh_tyat AC hk13
  refine gh_alen hx hb hK hP he12 ht9 rfl dX0_addRow_8 ?_
  refine gh_cv_ hlocks (hno _) (gx_runSN (As := [.int x4, .int (Int32.ofNat n10.1)]) (rest := []) ⟨hx, hb, hml, hown, hts⟩ (mX4_requireRoom l hl0 D AC sa _ _ _ _ _ _ hw) ⟨va_cnB (host := "OwnerLedger") 2 hts (gG kw_58) rfl rfl rfl (gh_nst hE (by decide)) (hts _ (gT_up kw_1)) (by decide +kernel) ⟨Nat.le_of_ble_eq_true rfl, Nat.le_of_ble_eq_true rfl⟩, (hts _ (gT_up kw_57))⟩ (gh_pre gh_En_ok hK hE hP hS hA _) rfl rfl hl.1 rfl (lv_room (Nat.le_of_ble_eq_true rfl)) dX0_addRow_9 ⟨Nat.le_of_ble_eq_true rfl, Nat.le_of_ble_eq_true rfl⟩) hP hS hA (Nat.le_of_ble_eq_true rfl) (Nat.le_of_ble_eq_true rfl) (fun G15 H locs hw2 hP hS => ?_)
  replace hw := hw2
  clear hw2
  refine lv_aload_n hx hb dX0_addRow_12 rfl (lv_at hl 0 rfl) ?_
  obtain ⟨fs16, x19, he17, hv18, hw⟩ := hw
  refine gh_get (ci := 0) (v := .ref x19) (C := "OwnerLedger$Batch") (T := TX0) (N := 6) hx hb hts (fun w h => gT_up (inX0 w h)) hown hK hP he17 rfl 1 (by decide) (hts _ (gT_up kw_133)) (fun _ h9 => h9) hv18 dX0_addRow_13 ?_
  refine lv_aload_n hx hb dX0_addRow_16 rfl (lv_at hl 0 rfl) ?_
  obtain ⟨fs20, x23, he21, hv22, hw⟩ := hw
  refine gh_get (ci := 0) (v := .int x23) (C := "OwnerLedger$Batch") (T := TX0) (N := 6) hx hb hts (fun w h => gT_up (inX0 w h)) hown hK hP he21 rfl 2 (by decide) (hts _ (gT_up kw_135)) (fun _ h9 => h9) hv22 dX0_addRow_17 ?_
  refine lv_aload_n hx hb dX0_addRow_20 rfl (lv_at hl 1 rfl) ?_
  obtain ⟨k29, n24, j30, f25, fs31, he26, hv32, hk33, hi27, hw⟩ := hw
  obtain ⟨r9, hc9, ht9⟩ := gh_tyel AC hk33
  refine gh_aast hx hb hK hP hS he26 ht9 hv32 hc9 hi27 dX0_addRow_21 (fun G34 H locs eG28 hP hS => ?_)
  replace hw := hw G34 eG28
  refine lv_aload_n hx hb dX0_addRow_22 rfl (lv_at hl 0 rfl) ?_
  refine lv_dup hx hb dX0_addRow_23 rfl ?_
  obtain ⟨fs35, x38, he36, hv37, hw⟩ := hw
  refine gh_get (ci := 0) (v := .int x38) (C := "OwnerLedger$Batch") (T := TX0) (N := 6) hx hb hts (fun w h => gT_up (inX0 w h)) hown hK hP he36 rfl 2 (by decide) (hts _ (gT_up kw_135)) (fun _ h9 => h9) hv37 dX0_addRow_24 ?_
  refine lv_iconst (v := 1) hx hb dX0_addRow_27 (by decide) ?_
  refine lv_iadd hx hb dX0_addRow_28 ?_
  obtain ⟨fs39, he40, hk41, hw⟩ := hw
  refine gh_put (ci := 0) (v := .int (x38 + 1)) (ty := .int) (C := "OwnerLedger$Batch") (T := TX0) (N := 6) hx hb hts (fun w h => gT_up (inX0 w h)) tyX0 tyX0_ok nmX0 hown hK hP hS he40 rfl 2 (by decide) (hts _ (gT_up kw_135)) (fun _ h9 => h9) rfl (by decide +kernel) rfl rfl hk41 dX0_addRow_29 (fun G42 H locs eG43 hP hS => ?_)
  replace hw := hw G42 eG43
  exact gh_vret hx hb hr hlocks hw hP hS (Nat.le_of_ble_eq_true rfl) (Nat.le_of_ble_eq_true rfl) dX0_addRow_32
abbrev rmX3_init : Room := { frames := 1, cells := 0, slots := 0, locals := 12 }
abbrev cxX3_init (p : Program) (s : State) (m : MethodId) (args : Array Value) (meth : Method) (c : Code) (D : va_G) (AC : Nat → ClassId) (sa : gh_SA) (A : Nat → Prop) : Prop := CallFix p m c prog_5_method_1_code 5 s args wsX3_init "OwnerLedger$Row" ∧ meth.sig.returnType = none ∧ meth.locks = false ∧ c.exceptionTable.toList = [] ∧ va_K D vwCl (gh_ty AC) s ∧ gh_En sa A s s.heap ∧ (∀ q, s.heap.size ≤ q → A q) ∧ meth.name = "<init>"
def wX3_init (post : gh_H → Prop) (px : String → gh_H → Prop) (G : gh_H) (t : Nat) (p0 : Int32) (p1 : Int32) (p2 : Int64) : Prop := ∃ fs1 : List Value, G t = some (.inr (3, fs1)) ∧ 0 < fs1.length ∧ (∀ G4 : gh_H, G4 = gh_up G t (.inr (3, fs1.set 0 (.int p0))) → ∃ fs6 : List Value, G4 t = some (.inr (3, fs6)) ∧ 1 < fs6.length ∧ (∀ G9 : gh_H, G9 = gh_up G4 t (.inr (3, fs6.set 1 (.int p1))) → ∃ fs11 : List Value, G9 t = some (.inr (3, fs11)) ∧ 2 < fs11.length ∧ (∀ G14 : gh_H, G14 = gh_up G9 t (.inr (3, fs11.set 2 (.long p2))) → post G14)))
set_option maxRecDepth 100000 in
set_option maxHeartbeats 4000000 in
theorem mX3_init (l : Launch) (hl0 : l.stackTraces = false) (D : va_G) (AC : Nat → ClassId) (sa : gh_SA) (t : Nat) (p0 : Int32) (p1 : Int32) (p2 : Int64) (post : gh_H → Prop) (px : String → gh_H → Prop) (G : gh_H) (sz : Nat) (hw : wX3_init post px G t p0 p1 p2) : Met l yX3_init wsX3_init rmX3_init (gh_Pc D vwCl AC (gh_ty AC) (gh_En sa) G sz [.ref t, .int p0, .int p1, .long p2]) (va_Qv post (gh_B D vwCl AC (gh_A G sz)) (gh_A G sz)) 0 0 (gh_A G sz) := by
  refine Met.ofW (cc := prog_5_method_1_code) (maxL := 5) (ret := none) (by decide) rfl ?_
  intro p e s m args below meth c s₁ B hml hv
  obtain ⟨rfl, hsz, hP, hK, hE⟩ := hv
  have hx := B.exec
  have hb := B.bytes
  have hr := B.returns
  have hts := atoms_spec (ws := wsX3_init) B.pre
  have hown : s.vm.findClass "OwnerLedger$Row" = some m.cls := findClass_of_methodNamed B.named
  have hlocks := B.notSynchronized
  have hin : meth.name = "<init>" := (name_of_methodNamed B.named B.method).1
  have htb : c.exceptionTable.toList = [] := gh_notab B (hts _ List.mem_cons_self)
  subst hsz
  have hA : ∀ q, s.heap.size ≤ q → gh_A G s.heap.size q := fun q h => Or.inr h
  generalize gh_A G s.heap.size = A at hP hE hA ⊢
  have hno : ∀ (pc : Nat), ∀ x ∈ c.exceptionTable.toList, covers x pc = false := by rw [htb]; intro _ _ h; cases h
  have CX : cxX3_init p s m [.ref t, .int p0, .int p1, .long p2].toArray meth c D AC sa A := ⟨⟨hx, hb, hml, hown, hts⟩, hr, hlocks, htb, hK, hE, hA, hin⟩
  have hS : va_S A s.heap s.heap [] := va_S.rf
  have hl := lv_entry ([.ref t, .int p0, .int p1, .long p2]) (n := 5) (Nat.le_of_ble_eq_true rfl)
  rw [lg_entry_eq]
  generalize (lg_sl ([.ref t, .int p0, .int p1, .long p2]) ++ List.replicate (5 - (lg_sl ([.ref t, .int p0, .int p1, .long p2])).length) Slot.unset).toArray = ls at hl ⊢
  have hl : lv_has ls 5 [(0, .ref t), (1, .int p0), (2, .int p1), (3, .long p2)] := hl
  dsimp only [wX3_init] at hw
  refine lv_aload_n hx hb dX3_init_0 rfl (lv_at hl 0 rfl) ?_
  refine W.objInit hx hb hown (hts _ (gT_up kw_167)) (hts _ (gT_up kw_18)) (hts _ (gT_up kw_19)) rfl (by rw [hml]; exact hl.1) rfl dX3_init_1 (Nat.le_of_ble_eq_true rfl) (Nat.le_of_ble_eq_true rfl) ?_
  refine W.eq (g2 := F0 m 4 ls []) rfl ?_
  refine lv_aload_n hx hb dX3_init_4 rfl (lv_at hl 0 rfl) ?_
  refine lv_iload_n hx hb dX3_init_5 rfl (lv_at hl 1 rfl) ?_
  obtain ⟨fs1, he2, hk3, hw⟩ := hw
  refine gh_putF (ci := 3) (v := .int p0) (ty := .int) (C := "OwnerLedger$Row") (T := TX3) (N := 4) hx hb hts (fun w h => gT_up (inX3 w h)) tyX3 tyX3_ok nmX3 hown hK hP hS he2 rfl 0 (by decide) (hts _ (gT_up kw_168)) (fun _ h9 => h9) rfl hin rfl (by decide +kernel) rfl rfl hk3 dX3_init_6 (fun G4 H locs eG5 hP hS => ?_)
  replace hw := hw G4 eG5
  refine lv_aload_n hx hb dX3_init_9 rfl (lv_at hl 0 rfl) ?_
  refine lv_iload_n hx hb dX3_init_10 rfl (lv_at hl 2 rfl) ?_
  obtain ⟨fs6, he7, hk8, hw⟩ := hw
  refine gh_putF (ci := 3) (v := .int p1) (ty := .int) (C := "OwnerLedger$Row") (T := TX3) (N := 4) hx hb hts (fun w h => gT_up (inX3 w h)) tyX3 tyX3_ok nmX3 hown hK hP hS he7 rfl 1 (by decide) (hts _ (gT_up kw_170)) (fun _ h9 => h9) rfl hin rfl (by decide +kernel) rfl rfl hk8 dX3_init_11 (fun G9 H locs eG10 hP hS => ?_)
  replace hw := hw G9 eG10
  refine lv_aload_n hx hb dX3_init_14 rfl (lv_at hl 0 rfl) ?_
  refine lv_lload_n hx hb dX3_init_15 rfl (lv_at hl 3 rfl) ?_
  obtain ⟨fs11, he12, hk13, hw⟩ := hw
  refine gh_putF (ci := 3) (v := .long p2) (ty := .long) (C := "OwnerLedger$Row") (T := TX3) (N := 4) hx hb hts (fun w h => gT_up (inX3 w h)) tyX3 tyX3_ok nmX3 hown hK hP hS he12 rfl 2 (by decide) (hts _ (gT_up kw_172)) (fun _ h9 => h9) rfl hin rfl (by decide +kernel) rfl rfl hk13 dX3_init_16 (fun G14 H locs eG15 hP hS => ?_)
  replace hw := hw G14 eG15
  exact gh_vretM hx hb hr hlocks hw hP hS (Nat.le_of_ble_eq_true rfl) (Nat.le_of_ble_eq_true rfl) dX3_init_19
abbrev rmX0_copyOpposites : Room := { frames := 2, cells := 8, slots := 32, locals := 36 }
abbrev cxX0_copyOpposites (p : Program) (s : State) (m : MethodId) (args : Array Value) (meth : Method) (c : Code) (D : va_G) (AC : Nat → ClassId) (sa : gh_SA) (A : Nat → Prop) : Prop := CallFix p m c prog_2_method_3_code 4 s args wsX0_copyOpposites "OwnerLedger$Batch" ∧ meth.sig.returnType = none ∧ meth.locks = false ∧ c.exceptionTable.toList = [] ∧ va_K D vwCl (gh_ty AC) s ∧ gh_En sa A s s.heap ∧ (∀ q, s.heap.size ≤ q → A q)
def wX0_copyOpposites_60 (post : gh_H → Prop) (px : String → gh_H → Prop) (J2 : gh_H → Nat → Nat → Int32 → Nat → Nat → Prop) (G : gh_H) (t : Nat) (p0 : Nat) (v2 : Int32) (s0 : Nat) (s1 : Int32) (s2 : Option Nat) (kc : Nat) (ks : Nat) : Prop := (s2 = none → (∃ (k7 n2 : Nat) (f3 : Nat → Option Nat), G s0 = some (.inl (k7, n2, .inr (.inr (.inr (.inr f3))))) ∧ gh_isq k7 = true ∧ vp_in s1 n2 ∧ (∀ G9 : gh_H, G9 = gh_up G s0 (.inl (k7, n2, .inr (.inr (.inr (.inr (va_up f3 (Int32.toNatClampNeg s1) none)))))) → J2 G9 t p0 (v2 + 1) kc ks))) ∧ (∀ a1 : Nat, s2 = some a1 → (∃ (k15 n10 j16 : Nat) (f11 : Nat → Option Nat) (fs17 : List Value), G s0 = some (.inl (k15, n10, .inr (.inr (.inr (.inr f11))))) ∧ G a1 = some (.inr (j16, fs17)) ∧ gh_elk k15 j16 = true ∧ vp_in s1 n10 ∧ (∀ G20 : gh_H, G20 = gh_up G s0 (.inl (k15, n10, .inr (.inr (.inr (.inr (va_up f11 (Int32.toNatClampNeg s1) (some a1))))))) → J2 G20 t p0 (v2 + 1) kc ks)))
set_option maxRecDepth 100000 in
set_option maxHeartbeats 4000000 in
theorem lX0_copyOpposites_60 {p : Program} {l : Launch} {e : Env} {s : State} {m : MethodId} {args : Array Value} {below : List Frame} {meth : Method} {c : Code} {D : va_G} {AC : Nat → ClassId} {sa : gh_SA} {A : Nat → Prop} (hl0 : l.stackTraces = false) (CX : cxX0_copyOpposites p s m args meth c D AC sa A) (post : gh_H → Prop) (px : String → gh_H → Prop) (J2 : gh_H → Nat → Nat → Int32 → Nat → Nat → Prop) (hJ2 : ∀ (G : gh_H) (t : Nat) (p0 : Nat) (v2 : Int32) (kc : Nat) (ks : Nat) (H : Heap) (locs : List Loc), J2 G t p0 v2 kc ks → gh_h D vwCl AC A G H → va_S A s.heap H locs → ∀ ls : Array Slot, lv_has ls 4 [(0, .ref t), (1, .ref p0), (2, .int v2)] → W p l e rmX0_copyOpposites s m args below meth c H locs kc ks (vx_MQ below (va_Qv post (gh_B D vwCl AC A) A) (gh_X D vwCl AC px A) args s 8 32 A) (F0 m 2 ls [])) : ∀ (G : gh_H) (t : Nat) (p0 : Nat) (v2 : Int32) (s0 : Nat) (s1 : Int32) (s2 : Option Nat) (kc : Nat) (ks : Nat) (H : Heap) (locs : List Loc), wX0_copyOpposites_60 post px J2 G t p0 v2 s0 s1 s2 kc ks → gh_h D vwCl AC A G H → va_S A s.heap H locs → ∀ ls : Array Slot, lv_has ls 4 [(0, .ref t), (1, .ref p0), (2, .int v2)] → W p l e rmX0_copyOpposites s m args below meth c H locs kc ks (vx_MQ below (va_Qv post (gh_B D vwCl AC A) A) (gh_X D vwCl AC px A) args s 8 32 A) (F0 m 60 ls [va_rf s2, .int s1, .ref s0]) := by
  obtain ⟨⟨hx, hb, hml, hown, hts⟩, hr, hlocks, htb, hK, hE, hA⟩ := id CX
  have hno : ∀ (pc : Nat), ∀ x ∈ c.exceptionTable.toList, covers x pc = false := by rw [htb]; intro _ _ h; cases h
  intro G t p0 v2 s0 s1 s2 kc ks H locs hw hP hS ls hl
  dsimp only [wX0_copyOpposites_60] at hw
  rcases s2 with _ | a1
  · replace hw := hw.1 rfl
    have hl : lv_has ls 4 [(0, .ref t), (1, .ref p0), (2, .int v2)] := hl
    obtain ⟨k7, n2, f3, he4, hk8, hi5, hw⟩ := hw
    obtain ⟨C9, ht9⟩ := gh_tyq AC hk8
    refine gh_aastN hx hb hK hP hS he4 ht9 hi5 dX0_copyOpposites_60 (fun G9 H locs eG6 hP hS => ?_)
    replace hw := hw G9 eG6
    refine lv_iinc (v := (v2 + 1)) (lv' := [(2, .int (v2 + 1)), (0, .ref t), (1, .ref p0)]) hx hb dX0_copyOpposites_61 hl (k := 2) rfl rfl (by decide) rfl (fun ls hl => ?_)
    refine lv_goto (tgt := 2) hx hb dX0_copyOpposites_64 (by decide) ?_
    have hl := lv_sub (l' := [(0, .ref t), (1, .ref p0), (2, .int (v2 + 1))]) hl [1, 2, 0] rfl
    exact hJ2 _ t p0 (v2 + 1) kc ks _ _ hw hP hS ls hl
  · replace hw := hw.2 a1 rfl
    have hl : lv_has ls 4 [(0, .ref t), (1, .ref p0), (2, .int v2)] := hl
    obtain ⟨k15, n10, j16, f11, fs17, he12, hv18, hk19, hi13, hw⟩ := hw
    obtain ⟨r9, hc9, ht9⟩ := gh_tyel AC hk19
    refine gh_aast hx hb hK hP hS he12 ht9 hv18 hc9 hi13 dX0_copyOpposites_60 (fun G20 H locs eG14 hP hS => ?_)
    replace hw := hw G20 eG14
    refine lv_iinc (v := (v2 + 1)) (lv' := [(2, .int (v2 + 1)), (0, .ref t), (1, .ref p0)]) hx hb dX0_copyOpposites_61 hl (k := 2) rfl rfl (by decide) rfl (fun ls hl => ?_)
    refine lv_goto (tgt := 2) hx hb dX0_copyOpposites_64 (by decide) ?_
    have hl := lv_sub (l' := [(0, .ref t), (1, .ref p0), (2, .int (v2 + 1))]) hl [1, 2, 0] rfl
    exact hJ2 _ t p0 (v2 + 1) kc ks _ _ hw hP hS ls hl
def wX0_copyOpposites_67 (post : gh_H → Prop) (px : String → gh_H → Prop) (G : gh_H) (t : Nat) (p0 : Nat) (kc : Nat) (ks : Nat) : Prop := ∃ (fs1 : List Value) (x4 : Int32), G p0 = some (.inr (0, fs1)) ∧ fs1[2]? = some (.int x4) ∧ (∃ fs5 : List Value, G t = some (.inr (0, fs5)) ∧ 2 < fs5.length ∧ (∀ G8 : gh_H, G8 = gh_up G t (.inr (0, fs5.set 2 (.int x4))) → kc ≤ 8 ∧ ks ≤ 32 ∧ (post G8)))
set_option maxRecDepth 100000 in
set_option maxHeartbeats 4000000 in
theorem lX0_copyOpposites_67 {p : Program} {l : Launch} {e : Env} {s : State} {m : MethodId} {args : Array Value} {below : List Frame} {meth : Method} {c : Code} {D : va_G} {AC : Nat → ClassId} {sa : gh_SA} {A : Nat → Prop} (hl0 : l.stackTraces = false) (CX : cxX0_copyOpposites p s m args meth c D AC sa A) (post : gh_H → Prop) (px : String → gh_H → Prop) : ∀ (G : gh_H) (t : Nat) (p0 : Nat) (kc : Nat) (ks : Nat) (H : Heap) (locs : List Loc), wX0_copyOpposites_67 post px G t p0 kc ks → gh_h D vwCl AC A G H → va_S A s.heap H locs → ∀ ls : Array Slot, lv_has ls 4 [(0, .ref t), (1, .ref p0)] → W p l e rmX0_copyOpposites s m args below meth c H locs kc ks (vx_MQ below (va_Qv post (gh_B D vwCl AC A) A) (gh_X D vwCl AC px A) args s 8 32 A) (F0 m 67 ls []) := by
  obtain ⟨⟨hx, hb, hml, hown, hts⟩, hr, hlocks, htb, hK, hE, hA⟩ := id CX
  have hno : ∀ (pc : Nat), ∀ x ∈ c.exceptionTable.toList, covers x pc = false := by rw [htb]; intro _ _ h; cases h
  intro G t p0 kc ks H locs hw hP hS ls hl
  dsimp only [wX0_copyOpposites_67] at hw
  refine lv_aload_n hx hb dX0_copyOpposites_67 rfl (lv_at hl 0 rfl) ?_
  refine lv_aload_n hx hb dX0_copyOpposites_68 rfl (lv_at hl 1 rfl) ?_
  obtain ⟨fs1, x4, he2, hv3, hw⟩ := hw
  refine gh_get (ci := 0) (v := .int x4) (C := "OwnerLedger$Batch") (T := TX0) (N := 6) hx hb hts (fun w h => gT_up (inX0 w h)) hown hK hP he2 rfl 2 (by decide) (hts _ (gT_up kw_135)) (fun _ h9 => h9) hv3 dX0_copyOpposites_69 ?_
  obtain ⟨fs5, he6, hk7, hw⟩ := hw
  refine gh_put (ci := 0) (v := .int x4) (ty := .int) (C := "OwnerLedger$Batch") (T := TX0) (N := 6) hx hb hts (fun w h => gT_up (inX0 w h)) tyX0 tyX0_ok nmX0 hown hK hP hS he6 rfl 2 (by decide) (hts _ (gT_up kw_135)) (fun _ h9 => h9) rfl (by decide +kernel) rfl rfl hk7 dX0_copyOpposites_72 (fun G8 H locs eG9 hP hS => ?_)
  replace hw := hw G8 eG9
  obtain ⟨hc10, hs11, hw⟩ := hw
  exact gh_vret hx hb hr hlocks hw hP hS hc10 hs11 dX0_copyOpposites_75
def wX0_copyOpposites_2 (post : gh_H → Prop) (px : String → gh_H → Prop) : Nat → gh_H → Nat → Nat → Int32 → Nat → Nat → Prop
  | 0 => fun _ _ _ _ _ _ => False
  | n + 1 => fun G t p0 v2 kc ks => ∃ (fs1 : List Value) (x4 : Nat), G t = some (.inr (0, fs1)) ∧ fs1[1]? = some (.ref x4) ∧ (∃ (k5 : Nat) (n6 : vp_A), G x4 = some (.inl (k5, n6)) ∧ k5 < 7 ∧ (((Int32.ofNat n6.1) ≤ v2 → (wX0_copyOpposites_67 post px G t p0 kc ks)) ∧ (¬ (Int32.ofNat n6.1) ≤ v2 → (∃ (fs11 : List Value) (x14 : Nat), G p0 = some (.inr (0, fs11)) ∧ fs11[1]? = some (.ref x14) ∧ (∃ (k15 : Nat) (n16 : vp_A), G x14 = some (.inl (k15, n16)) ∧ k15 < 7 ∧ (((Int32.ofNat n16.1) ≤ v2 → (wX0_copyOpposites_67 post px G t p0 kc ks)) ∧ (¬ (Int32.ofNat n16.1) ≤ v2 → (∃ (fs21 : List Value) (x24 : Nat), G p0 = some (.inr (0, fs21)) ∧ fs21[1]? = some (.ref x24) ∧ (∃ (k29 n25 : Nat) (f26 : Nat → Option Nat), G x24 = some (.inl (k29, n25, .inr (.inr (.inr (.inr f26))))) ∧ gh_isq k29 = true ∧ vp_in v2 n25 ∧ (∀ o31 : Option Nat, o31 = f26 v2.toNatClampNeg → ∃ (fs33 : List Value) (x36 : Nat), G t = some (.inr (0, fs33)) ∧ fs33[1]? = some (.ref x36) ∧ ((o31 = none → (wX0_copyOpposites_60 post px (wX0_copyOpposites_2 post px n) G t p0 v2 x36 v2 none kc ks)) ∧ (∀ a37 : Nat, o31 = some a37 → (kc + 1 ≤ 8 ∧ ks + 4 ≤ 32 ∧ (∀ q40 : Nat, G q40 = none → ∀ G41 : gh_H, G41 = gh_up G q40 (.inr (3, [.int 0, .int 0, .long 0, .int 0])) → ∃ (fs44 : List Value) (x47 : Int32), G41 a37 = some (.inr (3, fs44)) ∧ fs44[0]? = some (.int x47) ∧ (∃ (fs48 : List Value) (x51 : Int32), G41 a37 = some (.inr (3, fs48)) ∧ fs48[1]? = some (.int x51) ∧ (∃ (fs52 : List Value) (x55 : Int64), G41 a37 = some (.inr (3, fs52)) ∧ fs52[2]? = some (.long x55) ∧ ((kc + 1) + 0 ≤ 8 ∧ (ks + 4) + 0 ≤ 32 ∧ (wX3_init (fun G59 => wX0_copyOpposites_60 post px (wX0_copyOpposites_2 post px n) G59 t p0 v2 x36 v2 (some q40) ((kc + 1) + 0) ((ks + 4) + 0)) px G41 q40 x47 x51 (-x55)))))))))))))))))))
set_option maxRecDepth 100000 in
set_option maxHeartbeats 4000000 in
theorem lX0_copyOpposites_2 {p : Program} {l : Launch} {e : Env} {s : State} {m : MethodId} {args : Array Value} {below : List Frame} {meth : Method} {c : Code} {D : va_G} {AC : Nat → ClassId} {sa : gh_SA} {A : Nat → Prop} (hl0 : l.stackTraces = false) (CX : cxX0_copyOpposites p s m args meth c D AC sa A) (post : gh_H → Prop) (px : String → gh_H → Prop) : ∀ n : Nat, ∀ (G : gh_H) (t : Nat) (p0 : Nat) (v2 : Int32) (kc : Nat) (ks : Nat) (H : Heap) (locs : List Loc), wX0_copyOpposites_2 post px n G t p0 v2 kc ks → gh_h D vwCl AC A G H → va_S A s.heap H locs → ∀ ls : Array Slot, lv_has ls 4 [(0, .ref t), (1, .ref p0), (2, .int v2)] → W p l e rmX0_copyOpposites s m args below meth c H locs kc ks (vx_MQ below (va_Qv post (gh_B D vwCl AC A) A) (gh_X D vwCl AC px A) args s 8 32 A) (F0 m 2 ls []) := by
  obtain ⟨⟨hx, hb, hml, hown, hts⟩, hr, hlocks, htb, hK, hE, hA⟩ := id CX
  have hno : ∀ (pc : Nat), ∀ x ∈ c.exceptionTable.toList, covers x pc = false := by rw [htb]; intro _ _ h; cases h
  intro n
  induction n with
  | zero =>
    intro G t p0 v2 kc ks H locs hw
    exact False.elim hw
  | succ n ih =>
    intro G t p0 v2 kc ks H locs hw hP hS ls hl
    dsimp only [wX0_copyOpposites_2] at hw
    refine lv_iload_n hx hb dX0_copyOpposites_2 rfl (lv_at hl 2 rfl) ?_
    refine lv_aload_n hx hb dX0_copyOpposites_3 rfl (lv_at hl 0 rfl) ?_
    obtain ⟨fs1, x4, he2, hv3, hw⟩ := hw
    refine gh_get (ci := 0) (v := .ref x4) (C := "OwnerLedger$Batch") (T := TX0) (N := 6) hx hb hts (fun w h => gT_up (inX0 w h)) hown hK hP he2 rfl 1 (by decide) (hts _ (gT_up kw_133)) (fun _ h9 => h9) hv3 dX0_copyOpposites_4 ?_
    obtain ⟨k5, n6, he8, hk9, hw⟩ := hw
    obtain ⟨ty9, ht9⟩ := gh_tyat AC hk9
    refine gh_alen hx hb hK hP he8 ht9 rfl dX0_copyOpposites_7 ?_
    refine lv_icmp_ge (tgt := 67) hx hb dX0_copyOpposites_8 (by decide) (fun c10 => ?_) (fun c10 => ?_)
    · replace hw := hw.1 c10
      have hl := lv_sub (l' := [(0, .ref t), (1, .ref p0)]) hl [0, 1] rfl
      exact lX0_copyOpposites_67 hl0 CX post px _ t p0 kc ks _ _ hw hP hS ls hl
    · replace hw := hw.2 c10
      refine lv_iload_n hx hb dX0_copyOpposites_11 rfl (lv_at hl 2 rfl) ?_
      refine lv_aload_n hx hb dX0_copyOpposites_12 rfl (lv_at hl 1 rfl) ?_
      obtain ⟨fs11, x14, he12, hv13, hw⟩ := hw
      refine gh_get (ci := 0) (v := .ref x14) (C := "OwnerLedger$Batch") (T := TX0) (N := 6) hx hb hts (fun w h => gT_up (inX0 w h)) hown hK hP he12 rfl 1 (by decide) (hts _ (gT_up kw_133)) (fun _ h9 => h9) hv13 dX0_copyOpposites_13 ?_
      obtain ⟨k15, n16, he18, hk19, hw⟩ := hw
      obtain ⟨ty9, ht9⟩ := gh_tyat AC hk19
      refine gh_alen hx hb hK hP he18 ht9 rfl dX0_copyOpposites_16 ?_
      refine lv_icmp_ge (tgt := 67) hx hb dX0_copyOpposites_17 (by decide) (fun c20 => ?_) (fun c20 => ?_)
      · replace hw := hw.1 c20
        have hl := lv_sub (l' := [(0, .ref t), (1, .ref p0)]) hl [0, 1] rfl
        exact lX0_copyOpposites_67 hl0 CX post px _ t p0 kc ks _ _ hw hP hS ls hl
      · replace hw := hw.2 c20
        refine lv_aload_n hx hb dX0_copyOpposites_20 rfl (lv_at hl 1 rfl) ?_
        obtain ⟨fs21, x24, he22, hv23, hw⟩ := hw
        refine gh_get (ci := 0) (v := .ref x24) (C := "OwnerLedger$Batch") (T := TX0) (N := 6) hx hb hts (fun w h => gT_up (inX0 w h)) hown hK hP he22 rfl 1 (by decide) (hts _ (gT_up kw_133)) (fun _ h9 => h9) hv23 dX0_copyOpposites_21 ?_
        refine lv_iload_n hx hb dX0_copyOpposites_24 rfl (lv_at hl 2 rfl) ?_
        obtain ⟨k29, n25, f26, he27, hk30, hi28, hw⟩ := hw
        obtain ⟨C9, ht9⟩ := gh_tyq AC hk30
        refine gh_aald hx hb hK hP he27 ht9 hi28 dX0_copyOpposites_25 ?_
        obtain ⟨o31, eo32⟩ : ∃ z : Option Nat, z = f26 (Int32.toNatClampNeg v2) := ⟨_, rfl⟩
        rw [← eo32]
        replace hw := hw o31 eo32
        refine gh_astore_n (lv' := [(3, va_rf o31), (0, .ref t), (1, .ref p0), (2, .int v2)]) hx hb dX0_copyOpposites_26 rfl hl (by decide) rfl (fun ls hl => ?_)
        refine lv_aload_n hx hb dX0_copyOpposites_27 rfl (lv_at hl 1 rfl) ?_
        obtain ⟨fs33, x36, he34, hv35, hw⟩ := hw
        refine gh_get (ci := 0) (v := .ref x36) (C := "OwnerLedger$Batch") (T := TX0) (N := 6) hx hb hts (fun w h => gT_up (inX0 w h)) hown hK hP he34 rfl 1 (by decide) (hts _ (gT_up kw_133)) (fun _ h9 => h9) hv35 dX0_copyOpposites_28 ?_
        refine lv_iload_n hx hb dX0_copyOpposites_31 rfl (lv_at hl 3 rfl) ?_
        refine gh_aload_n hx hb dX0_copyOpposites_32 rfl (lv_at hl 0 rfl) ?_
        rcases o31 with _ | a37
        · replace hw := hw.1 rfl
          have hl : lv_has ls 4 [(3, .null), (0, .ref t), (1, .ref p0), (2, .int v2)] := hl
          refine lv_ifnonnullN hx hb dX0_copyOpposites_33 ?_
          refine lv_null hx hb dX0_copyOpposites_36 ?_
          refine lv_goto (tgt := 60) hx hb dX0_copyOpposites_37 (by decide) ?_
          have hl := lv_sub (l' := [(0, .ref t), (1, .ref p0), (2, .int v2)]) hl [1, 2, 3] rfl
          exact lX0_copyOpposites_60 hl0 CX post px (wX0_copyOpposites_2 post px n) (fun G9 t9 p09 v29 kc9 ks9 H9 locs9 hw9 hP9 hS9 ls9 hl9 => ih G9 t9 p09 v29 kc9 ks9 H9 locs9 hw9 hP9 hS9 ls9 hl9) _ t p0 v2 x36 v2 none kc ks _ _ hw hP hS ls hl
        · replace hw := hw.2 a37 rfl
          have hl : lv_has ls 4 [(3, .ref a37), (0, .ref t), (1, .ref p0), (2, .int v2)] := hl
          refine lv_ifnonnull (tgt := 40) hx hb dX0_copyOpposites_33 (by decide) ?_
          obtain ⟨hc38, hs39, hw⟩ := hw
          refine gh_new (ci := 3) (fs := [.int 0, .int 0, .long 0, .int 0]) (C := "OwnerLedger$Row") (T := TX3) (N := 4) hx hb hts (fun w h => gT_up (inX3 w h)) tyX3 tyX3_ok hown (hts _ (gT_up kw_130)) (hts _ (gT_up kw_163)) (hts _ (gT_up kw_9)) hK hP hS hA rfl (fun j hj => by rcases (show j = 0 ∨ j = 1 ∨ j = 2 ∨ j = 3 by omega) with rfl | rfl | rfl | rfl <;> rfl) hc38 hs39 dX0_copyOpposites_40 (fun q40 G41 H hq43 eG42 hP hS => ?_)
          replace hw := hw q40 hq43 G41 eG42
          refine lv_dup hx hb dX0_copyOpposites_43 rfl ?_
          refine lv_aload_n hx hb dX0_copyOpposites_44 rfl (lv_at hl 0 rfl) ?_
          obtain ⟨fs44, x47, he45, hv46, hw⟩ := hw
          refine gh_get (ci := 3) (v := .int x47) (C := "OwnerLedger$Row") (T := TX3) (N := 4) hx hb hts (fun w h => gT_up (inX3 w h)) hown hK hP he45 rfl 0 (by decide) (hts _ (gT_up kw_169)) (fun _ h9 => h9) hv46 dX0_copyOpposites_45 ?_
          refine lv_aload_n hx hb dX0_copyOpposites_48 rfl (lv_at hl 0 rfl) ?_
          obtain ⟨fs48, x51, he49, hv50, hw⟩ := hw
          refine gh_get (ci := 3) (v := .int x51) (C := "OwnerLedger$Row") (T := TX3) (N := 4) hx hb hts (fun w h => gT_up (inX3 w h)) hown hK hP he49 rfl 1 (by decide) (hts _ (gT_up kw_171)) (fun _ h9 => h9) hv50 dX0_copyOpposites_49 ?_
          refine lv_aload_n hx hb dX0_copyOpposites_52 rfl (lv_at hl 0 rfl) ?_
          obtain ⟨fs52, x55, he53, hv54, hw⟩ := hw
          refine gh_get (ci := 3) (v := .long x55) (C := "OwnerLedger$Row") (T := TX3) (N := 4) hx hb hts (fun w h => gT_up (inX3 w h)) hown hK hP he53 rfl 2 (by decide) (hts _ (gT_up kw_173)) (fun _ h9 => h9) hv54 dX0_copyOpposites_53 ?_
          refine lv_lneg hx hb dX0_copyOpposites_56 ?_
          obtain ⟨hc56, hs57, hw⟩ := hw
          refine gh_cM (va_runI (As := [.int x47, .int x51, .long (-x55)]) (rest := [.ref q40, .int v2, .ref x36]) ⟨hx, hb, hml, hown, hts⟩ (mX3_init l hl0 D AC sa _ _ _ _ _ _ _ _ hw) (cwI 3 hts (gG kw_166) rfl rfl rfl (hts _ (gT_up kw_9)) (hts _ (gT_up kw_220)) (hts _ (gT_up kw_165)) rfl (by decide +kernel) ⟨Nat.le_of_ble_eq_true rfl, Nat.le_of_ble_eq_true rfl⟩) (gh_pre gh_En_ok hK hE hP hS hA _) rfl rfl hl.1 rfl (lv_room (Nat.le_of_ble_eq_true rfl)) dX0_copyOpposites_57 ⟨hc56, hs57⟩) hP hS hA (fun G59 H locs hw2 hP hS => ?_)
          replace hw := hw2
          clear hw2
          have hl := lv_sub (l' := [(0, .ref t), (1, .ref p0), (2, .int v2)]) hl [1, 2, 3] rfl
          exact lX0_copyOpposites_60 hl0 CX post px (wX0_copyOpposites_2 post px n) (fun G9 t9 p09 v29 kc9 ks9 H9 locs9 hw9 hP9 hS9 ls9 hl9 => ih G9 t9 p09 v29 kc9 ks9 H9 locs9 hw9 hP9 hS9 ls9 hl9) _ t p0 v2 x36 v2 (some q40) ((kc + 1) + 0) ((ks + 4) + 0) _ _ hw hP hS ls hl
def wX0_copyOpposites (post : gh_H → Prop) (px : String → gh_H → Prop) (G : gh_H) (t : Nat) (p0 : Nat) : Prop := wX0_copyOpposites_2 post px 300 G t p0 0 0 0
set_option maxRecDepth 100000 in
set_option maxHeartbeats 4000000 in
theorem mX0_copyOpposites (l : Launch) (hl0 : l.stackTraces = false) (D : va_G) (AC : Nat → ClassId) (sa : gh_SA) (t : Nat) (p0 : Nat) (post : gh_H → Prop) (px : String → gh_H → Prop) (G : gh_H) (sz : Nat) (hw : wX0_copyOpposites post px G t p0) : vx_Met l yX0_copyOpposites wsX0_copyOpposites rmX0_copyOpposites (gh_Pc D vwCl AC (gh_ty AC) (gh_En sa) G sz [.ref t, .ref p0]) (va_Qv post (gh_B D vwCl AC (gh_A G sz)) (gh_A G sz)) (gh_X D vwCl AC px (gh_A G sz)) 8 32 (gh_A G sz) := by
  refine vx_ofW (cc := prog_2_method_3_code) (maxL := 4) (ret := none) (by decide) rfl ?_
  intro p e s m args below meth c s₁ B hml hnoh hv
  obtain ⟨rfl, hsz, hP, hK, hE⟩ := hv
  have hx := B.exec
  have hb := B.bytes
  have hr := B.returns
  have hts := atoms_spec (ws := wsX0_copyOpposites) B.pre
  have hown : s.vm.findClass "OwnerLedger$Batch" = some m.cls := findClass_of_methodNamed B.named
  have hlocks := B.notSynchronized
  have htb : c.exceptionTable.toList = [] := List.eq_nil_iff_forall_not_mem.mpr hnoh
  subst hsz
  have hA : ∀ q, s.heap.size ≤ q → gh_A G s.heap.size q := fun q h => Or.inr h
  generalize gh_A G s.heap.size = A at hP hE hA ⊢
  have hno : ∀ (pc : Nat), ∀ x ∈ c.exceptionTable.toList, covers x pc = false := by rw [htb]; intro _ _ h; cases h
  have CX : cxX0_copyOpposites p s m [.ref t, .ref p0].toArray meth c D AC sa A := ⟨⟨hx, hb, hml, hown, hts⟩, hr, hlocks, htb, hK, hE, hA⟩
  have hS : va_S A s.heap s.heap [] := va_S.rf
  have hl := lv_entry ([.ref t, .ref p0]) (n := 4) (Nat.le_of_ble_eq_true rfl)
  rw [lg_entry_eq]
  generalize (lg_sl ([.ref t, .ref p0]) ++ List.replicate (4 - (lg_sl ([.ref t, .ref p0])).length) Slot.unset).toArray = ls at hl ⊢
  have hl : lv_has ls 4 [(0, .ref t), (1, .ref p0)] := hl
  dsimp only [wX0_copyOpposites] at hw
  refine lv_iconst (v := 0) hx hb dX0_copyOpposites_0 (by decide) ?_
  refine lv_istore_n (lv' := [(2, .int 0), (0, .ref t), (1, .ref p0)]) hx hb dX0_copyOpposites_1 rfl hl (by decide) rfl (fun ls hl => ?_)
  have hl := lv_sub (l' := [(0, .ref t), (1, .ref p0), (2, .int 0)]) hl [1, 2, 0] rfl
  exact lX0_copyOpposites_2 hl0 CX post px _ _ t p0 0 0 0 _ _ hw hP hS ls hl
abbrev rmX0_firstBreaking : Room := { frames := 0, cells := 0, slots := 0, locals := 0 }
abbrev cxX0_firstBreaking (p : Program) (s : State) (m : MethodId) (args : Array Value) (meth : Method) (c : Code) (D : va_G) (AC : Nat → ClassId) (sa : gh_SA) (A : Nat → Prop) : Prop := CallFix p m c prog_2_method_4_code 3 s args wsX0_firstBreaking "OwnerLedger$Batch" ∧ meth.sig.returnType = (some .int) ∧ meth.locks = false ∧ c.exceptionTable.toList = [] ∧ va_K D vwCl (gh_ty AC) s ∧ gh_En sa A s s.heap ∧ (∀ q, s.heap.size ≤ q → A q)
def wX0_firstBreaking_2 (post : Int32 → gh_H → Prop) (px : String → gh_H → Prop) : Nat → gh_H → Nat → Int32 → Prop
  | 0 => fun _ _ _ => False
  | n + 1 => fun G t v1 => ∃ (fs1 : List Value) (x4 : Nat), G t = some (.inr (0, fs1)) ∧ fs1[1]? = some (.ref x4) ∧ (∃ (k5 : Nat) (n6 : vp_A), G x4 = some (.inl (k5, n6)) ∧ k5 < 7 ∧ (((Int32.ofNat n6.1) ≤ v1 → (post (-1) G)) ∧ (¬ (Int32.ofNat n6.1) ≤ v1 → (∃ (fs11 : List Value) (x14 : Nat), G t = some (.inr (0, fs11)) ∧ fs11[1]? = some (.ref x14) ∧ (∃ (k19 n15 : Nat) (f16 : Nat → Option Nat), G x14 = some (.inl (k19, n15, .inr (.inr (.inr (.inr f16))))) ∧ gh_isq k19 = true ∧ vp_in v1 n15 ∧ (∀ o21 : Option Nat, o21 = f16 v1.toNatClampNeg → (o21 = none → (wX0_firstBreaking_2 post px n G t (v1 + 1))) ∧ (∀ a23 : Nat, o21 = some a23 → (∃ (fs24 : List Value) (x27 : Int32), G a23 = some (.inr (3, fs24)) ∧ fs24[3]? = some (.int x27) ∧ ((x27 = 0 → (wX0_firstBreaking_2 post px n G t (v1 + 1))) ∧ (¬ x27 = 0 → (post v1 G)))))))))))
set_option maxRecDepth 100000 in
set_option maxHeartbeats 4000000 in
theorem lX0_firstBreaking_2 {p : Program} {l : Launch} {e : Env} {s : State} {m : MethodId} {args : Array Value} {below : List Frame} {meth : Method} {c : Code} {D : va_G} {AC : Nat → ClassId} {sa : gh_SA} {A : Nat → Prop} (hl0 : l.stackTraces = false) (CX : cxX0_firstBreaking p s m args meth c D AC sa A) (post : Int32 → gh_H → Prop) (px : String → gh_H → Prop) : ∀ n : Nat, ∀ (G : gh_H) (t : Nat) (v1 : Int32) (H : Heap) (locs : List Loc), wX0_firstBreaking_2 post px n G t v1 → gh_h D vwCl AC A G H → va_S A s.heap H locs → ∀ ls : Array Slot, lv_has ls 3 [(0, .ref t), (1, .int v1)] → W p l e rmX0_firstBreaking s m args below meth c H locs 0 0 (vx_MQ below (va_Qi post (gh_B D vwCl AC A) A) (gh_X D vwCl AC px A) args s 0 0 A) (F0 m 2 ls []) := by
  obtain ⟨⟨hx, hb, hml, hown, hts⟩, hr, hlocks, htb, hK, hE, hA⟩ := id CX
  have hno : ∀ (pc : Nat), ∀ x ∈ c.exceptionTable.toList, covers x pc = false := by rw [htb]; intro _ _ h; cases h
  intro n
  induction n with
  | zero =>
    intro G t v1 H locs hw
    exact False.elim hw
  | succ n ih =>
    intro G t v1 H locs hw hP hS ls hl
    dsimp only [wX0_firstBreaking_2] at hw
    refine lv_iload_n hx hb dX0_firstBreaking_2 rfl (lv_at hl 1 rfl) ?_
    refine lv_aload_n hx hb dX0_firstBreaking_3 rfl (lv_at hl 0 rfl) ?_
    obtain ⟨fs1, x4, he2, hv3, hw⟩ := hw
    refine gh_get (ci := 0) (v := .ref x4) (C := "OwnerLedger$Batch") (T := TX0) (N := 6) hx hb hts (fun w h => gT_up (inX0 w h)) hown hK hP he2 rfl 1 (by decide) (hts _ (gT_up kw_133)) (fun _ h9 => h9) hv3 dX0_firstBreaking_4 ?_
    obtain ⟨k5, n6, he8, hk9, hw⟩ := hw
    obtain ⟨ty9, ht9⟩ := gh_tyat AC hk9
    refine gh_alen hx hb hK hP he8 ht9 rfl dX0_firstBreaking_7 ?_
    refine lv_icmp_ge (tgt := 37) hx hb dX0_firstBreaking_8 (by decide) (fun c10 => ?_) (fun c10 => ?_)
    · replace hw := hw.1 c10
      refine lv_iconst (v := (-1)) hx hb dX0_firstBreaking_37 (by decide) ?_
      exact gh_iret hx hb hr hlocks hw hP hS (Nat.le_of_ble_eq_true rfl) (Nat.le_of_ble_eq_true rfl) dX0_firstBreaking_38
    · replace hw := hw.2 c10
      refine lv_aload_n hx hb dX0_firstBreaking_11 rfl (lv_at hl 0 rfl) ?_
      obtain ⟨fs11, x14, he12, hv13, hw⟩ := hw
      refine gh_get (ci := 0) (v := .ref x14) (C := "OwnerLedger$Batch") (T := TX0) (N := 6) hx hb hts (fun w h => gT_up (inX0 w h)) hown hK hP he12 rfl 1 (by decide) (hts _ (gT_up kw_133)) (fun _ h9 => h9) hv13 dX0_firstBreaking_12 ?_
      refine lv_iload_n hx hb dX0_firstBreaking_15 rfl (lv_at hl 1 rfl) ?_
      obtain ⟨k19, n15, f16, he17, hk20, hi18, hw⟩ := hw
      obtain ⟨C9, ht9⟩ := gh_tyq AC hk20
      refine gh_aald hx hb hK hP he17 ht9 hi18 dX0_firstBreaking_16 ?_
      obtain ⟨o21, eo22⟩ : ∃ z : Option Nat, z = f16 (Int32.toNatClampNeg v1) := ⟨_, rfl⟩
      rw [← eo22]
      replace hw := hw o21 eo22
      refine gh_astore_n (lv' := [(2, va_rf o21), (0, .ref t), (1, .int v1)]) hx hb dX0_firstBreaking_17 rfl hl (by decide) rfl (fun ls hl => ?_)
      refine gh_aload_n hx hb dX0_firstBreaking_18 rfl (lv_at hl 0 rfl) ?_
      rcases o21 with _ | a23
      · replace hw := hw.1 rfl
        have hl : lv_has ls 3 [(2, .null), (0, .ref t), (1, .int v1)] := hl
        refine lv_ifnullN (tgt := 31) hx hb dX0_firstBreaking_19 (by decide) ?_
        refine lv_iinc (v := (v1 + 1)) (lv' := [(1, .int (v1 + 1)), (2, .null), (0, .ref t)]) hx hb dX0_firstBreaking_31 hl (k := 2) rfl rfl (by decide) rfl (fun ls hl => ?_)
        refine lv_goto (tgt := 2) hx hb dX0_firstBreaking_34 (by decide) ?_
        have hl := lv_sub (l' := [(0, .ref t), (1, .int (v1 + 1))]) hl [2, 0] rfl
        exact ih _ t (v1 + 1) _ _ hw hP hS ls hl
      · replace hw := hw.2 a23 rfl
        have hl : lv_has ls 3 [(2, .ref a23), (0, .ref t), (1, .int v1)] := hl
        refine lv_ifnull hx hb dX0_firstBreaking_19 ?_
        refine lv_aload_n hx hb dX0_firstBreaking_22 rfl (lv_at hl 0 rfl) ?_
        obtain ⟨fs24, x27, he25, hv26, hw⟩ := hw
        refine gh_get (ci := 3) (v := .int x27) (C := "OwnerLedger$Row") (T := TX3) (N := 4) hx hb hts (fun w h => gT_up (inX3 w h)) hown hK hP he25 rfl 3 (by decide) (hts _ (gT_up kw_174)) (fun _ h9 => h9) hv26 dX0_firstBreaking_23 ?_
        refine lv_if_eq (tgt := 31) hx hb dX0_firstBreaking_26 (by decide) (fun c28 => ?_) (fun c28 => ?_)
        · replace hw := hw.1 c28
          refine lv_iinc (v := (v1 + 1)) (lv' := [(1, .int (v1 + 1)), (2, .ref a23), (0, .ref t)]) hx hb dX0_firstBreaking_31 hl (k := 2) rfl rfl (by decide) rfl (fun ls hl => ?_)
          refine lv_goto (tgt := 2) hx hb dX0_firstBreaking_34 (by decide) ?_
          have hl := lv_sub (l' := [(0, .ref t), (1, .int (v1 + 1))]) hl [2, 0] rfl
          exact ih _ t (v1 + 1) _ _ hw hP hS ls hl
        · replace hw := hw.2 c28
          refine lv_iload_n hx hb dX0_firstBreaking_29 rfl (lv_at hl 2 rfl) ?_
          exact gh_iret hx hb hr hlocks hw hP hS (Nat.le_of_ble_eq_true rfl) (Nat.le_of_ble_eq_true rfl) dX0_firstBreaking_30
def wX0_firstBreaking (post : Int32 → gh_H → Prop) (px : String → gh_H → Prop) (G : gh_H) (t : Nat) : Prop := wX0_firstBreaking_2 post px 300 G t 0
set_option maxRecDepth 100000 in
set_option maxHeartbeats 4000000 in
theorem mX0_firstBreaking (l : Launch) (hl0 : l.stackTraces = false) (D : va_G) (AC : Nat → ClassId) (sa : gh_SA) (t : Nat) (post : Int32 → gh_H → Prop) (px : String → gh_H → Prop) (G : gh_H) (sz : Nat) (hw : wX0_firstBreaking post px G t) : vx_Met l yX0_firstBreaking wsX0_firstBreaking rmX0_firstBreaking (gh_Pc D vwCl AC (gh_ty AC) (gh_En sa) G sz [.ref t]) (va_Qi post (gh_B D vwCl AC (gh_A G sz)) (gh_A G sz)) (gh_X D vwCl AC px (gh_A G sz)) 0 0 (gh_A G sz) := by
  refine vx_ofW (cc := prog_2_method_4_code) (maxL := 3) (ret := (some .int)) (by decide) rfl ?_
  intro p e s m args below meth c s₁ B hml hnoh hv
  obtain ⟨rfl, hsz, hP, hK, hE⟩ := hv
  have hx := B.exec
  have hb := B.bytes
  have hr := B.returns
  have hts := atoms_spec (ws := wsX0_firstBreaking) B.pre
  have hown : s.vm.findClass "OwnerLedger$Batch" = some m.cls := findClass_of_methodNamed B.named
  have hlocks := B.notSynchronized
  have htb : c.exceptionTable.toList = [] := List.eq_nil_iff_forall_not_mem.mpr hnoh
  subst hsz
  have hA : ∀ q, s.heap.size ≤ q → gh_A G s.heap.size q := fun q h => Or.inr h
  generalize gh_A G s.heap.size = A at hP hE hA ⊢
  have hno : ∀ (pc : Nat), ∀ x ∈ c.exceptionTable.toList, covers x pc = false := by rw [htb]; intro _ _ h; cases h
  have CX : cxX0_firstBreaking p s m [.ref t].toArray meth c D AC sa A := ⟨⟨hx, hb, hml, hown, hts⟩, hr, hlocks, htb, hK, hE, hA⟩
  have hS : va_S A s.heap s.heap [] := va_S.rf
  have hl := lv_entry ([.ref t]) (n := 3) (Nat.le_of_ble_eq_true rfl)
  rw [lg_entry_eq]
  generalize (lg_sl ([.ref t]) ++ List.replicate (3 - (lg_sl ([.ref t])).length) Slot.unset).toArray = ls at hl ⊢
  have hl : lv_has ls 3 [(0, .ref t)] := hl
  dsimp only [wX0_firstBreaking] at hw
  refine lv_iconst (v := 0) hx hb dX0_firstBreaking_0 (by decide) ?_
  refine lv_istore_n (lv' := [(1, .int 0), (0, .ref t)]) hx hb dX0_firstBreaking_1 rfl hl (by decide) rfl (fun ls hl => ?_)
  have hl := lv_sub (l' := [(0, .ref t), (1, .int 0)]) hl [1, 0] rfl
  exact lX0_firstBreaking_2 hl0 CX post px _ _ t 0 _ _ hw hP hS ls hl
