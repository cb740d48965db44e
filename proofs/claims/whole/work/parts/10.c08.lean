abbrev rmX4_told : Room := { frames := 7, cells := 2, slots := 12, locals := 107 }
abbrev cxX4_told (p : Program) (s : State) (m : MethodId) (args : Array Value) (meth : Method) (c : Code) (D : va_G) (AC : Nat → ClassId) (sa : gh_SA) (A : Nat → Prop) : Prop := CallFix p m c prog_1_method_21_code 4 s args wsX4_told "OwnerLedger" ∧ meth.sig.returnType = (some .int) ∧ meth.locks = false ∧ c.exceptionTable.toList = [] ∧ va_K D vwCl (gh_ty AC) s ∧ gh_En sa A s s.heap ∧ (∀ q, s.heap.size ≤ q → A q)
def wX4_told (post : Int32 → gh_H → Prop) (px : String → gh_H → Prop) (G : gh_H) (t : Nat) (p0 : Int32) (p1 : Int32) : Prop := ∃ fs3 : List Value, G t = some (.inr (4, fs3)) ∧ wX4_findBatch (fun r1 G2 => wX4_requireRange (fun G6 => (p1 = 0 → (∃ a8 : Nat, r1 = some a8 ∧ ∃ (fs9 : List Value) (x12 : Int32), G6 a8 = some (.inr (0, fs9)) ∧ fs9[3]? = some (.int x12) ∧ (post x12 G6))) ∧ (p1 = 1 → (∃ a14 : Nat, r1 = some a14 ∧ ∃ (fs15 : List Value) (x18 : Int32), G6 a14 = some (.inr (0, fs15)) ∧ fs15[0]? = some (.int x18) ∧ (post x18 G6))) ∧ (p1 = 2 → (∃ a20 : Nat, r1 = some a20 ∧ ∃ (fs21 : List Value) (x24 : Int32), G6 a20 = some (.inr (0, fs21)) ∧ fs21[2]? = some (.int x24) ∧ (post x24 G6))) ∧ (p1 = 3 → (∃ a26 : Nat, r1 = some a26 ∧ ∃ (fs27 : List Value) (x30 : Int32), G6 a26 = some (.inr (0, fs27)) ∧ fs27[4]? = some (.int x30) ∧ (post x30 G6))) ∧ (¬ p1 = 0 → ¬ p1 = 1 → ¬ p1 = 2 → ¬ p1 = 3 → (∃ a31 : Nat, r1 = some a31 ∧ ∃ (fs32 : List Value) (x35 : Int32), G6 a31 = some (.inr (0, fs32)) ∧ fs32[5]? = some (.int x35) ∧ (post x35 G6)))) px G2 (Int32.toInt64 p1) 0 4) px G t p0
set_option maxRecDepth 100000 in
set_option maxHeartbeats 4000000 in
theorem mX4_told (l : Launch) (hl0 : l.stackTraces = false) (D : va_G) (AC : Nat → ClassId) (sa : gh_SA) (t : Nat) (p0 : Int32) (p1 : Int32) (post : Int32 → gh_H → Prop) (px : String → gh_H → Prop) (G : gh_H) (sz : Nat) (hw : wX4_told post px G t p0 p1) : vx_Met l yX4_told wsX4_told rmX4_told (gh_Pc D vwCl AC (gh_ty AC) (gh_En sa) G sz [.ref t, .int p0, .int p1]) (va_Qi post (gh_B D vwCl AC (gh_A G sz)) (gh_A G sz)) (gh_X D vwCl AC px (gh_A G sz)) 2 12 (gh_A G sz) := by
  refine vx_ofW (cc := prog_1_method_21_code) (maxL := 4) (ret := (some .int)) (by decide) rfl ?_
  intro p e s m args below meth c s₁ B hml hnoh hv
  obtain ⟨rfl, hsz, hP, hK, hE⟩ := hv
  have hx := B.exec
  have hb := B.bytes
  have hr := B.returns
  have hts := atoms_spec (ws := wsX4_told) B.pre
  have hown : s.vm.findClass "OwnerLedger" = some m.cls := findClass_of_methodNamed B.named
  have hlocks := B.notSynchronized
  have htb : c.exceptionTable.toList = [] := List.eq_nil_iff_forall_not_mem.mpr hnoh
  subst hsz
  have hA : ∀ q, s.heap.size ≤ q → gh_A G s.heap.size q := fun q h => Or.inr h
  generalize gh_A G s.heap.size = A at hP hE hA ⊢
  have hno : ∀ (pc : Nat), ∀ x ∈ c.exceptionTable.toList, covers x pc = false := by rw [htb]; intro _ _ h; cases h
  have CX : cxX4_told p s m [.ref t, .int p0, .int p1].toArray meth c D AC sa A := ⟨⟨hx, hb, hml, hown, hts⟩, hr, hlocks, htb, hK, hE, hA⟩
  have hS : va_S A s.heap s.heap [] := va_S.rf
  have hl := lv_entry ([.ref t, .int p0, .int p1]) (n := 4) (Nat.le_of_ble_eq_true rfl)
  rw [lg_entry_eq]
  generalize (lg_sl ([.ref t, .int p0, .int p1]) ++ List.replicate (4 - (lg_sl ([.ref t, .int p0, .int p1])).length) Slot.unset).toArray = ls at hl ⊢
  have hl : lv_has ls 4 [(0, .ref t), (1, .int p0), (2, .int p1)] := hl
  dsimp only [wX4_told] at hw
  refine lv_aload_n hx hb dX4_told_0 rfl (lv_at hl 0 rfl) ?_
  refine lv_iload_n hx hb dX4_told_1 rfl (lv_at hl 1 rfl) ?_
  obtain ⟨fs3, he4, hw⟩ := hw
  refine gh_cq hlocks (hno _) (vx_runV (C := "OwnerLedger") (As := [.int p0]) (rest := []) ⟨hx, hb, hml, hown, hts⟩ (mX4_findBatch l hl0 D AC sa _ _ _ _ _ _ hw) (cwV 1 hts (gV kw_151 kw_152 kw_535 kw_1 kw_153) rfl rfl rfl (by decide +kernel) ⟨Nat.le_of_ble_eq_true rfl, Nat.le_of_ble_eq_true rfl⟩) (gh_preV gh_En_ok hK hE hP hS hA he4 rfl _) rfl rfl hl.1 rfl (lv_room (Nat.le_of_ble_eq_true rfl)) dX4_told_2 ⟨Nat.le_of_ble_eq_true rfl, Nat.le_of_ble_eq_true rfl⟩) hP hS hA (Nat.le_of_ble_eq_true rfl) (Nat.le_of_ble_eq_true rfl) (fun r1 G2 H locs hw2 hP hS => ?_)
  replace hw := hw2
  clear hw2
  refine gh_astore_n (lv' := [(3, va_rf r1), (0, .ref t), (1, .int p0), (2, .int p1)]) hx hb dX4_told_5 rfl hl (by decide) rfl (fun ls hl => ?_)
  refine lv_iload_n hx hb dX4_told_6 rfl (lv_at hl 3 rfl) ?_
  refine lv_i2l hx hb dX4_told_7 rfl ?_
  refine lv_lconst (v := 0) hx hb dX4_told_8 (by decide) ?_
  refine lv_ldc2 (v := 4) hx hb hown (hts _ (gT_up kw_350)) dX4_told_9 ?_
  refine gh_cv_ hlocks (hno _) (vx_runS (As := [.long (Int32.toInt64 p1), .long 0, .long 4]) (rest := []) ⟨hx, hb, hml, hown, hts⟩ (mX4_requireRange l hl0 D AC sa _ _ _ _ _ _ _ hw) (va_cwS 3 hts (gS kw_89 kw_90 kw_1 kw_91) rfl rfl rfl (by decide +kernel) ⟨Nat.le_of_ble_eq_true rfl, Nat.le_of_ble_eq_true rfl⟩) (gh_pre gh_En_ok hK hE hP hS hA _) rfl rfl hl.1 rfl (lv_room (Nat.le_of_ble_eq_true rfl)) dX4_told_12 ⟨Nat.le_of_ble_eq_true rfl, Nat.le_of_ble_eq_true rfl⟩) hP hS hA (Nat.le_of_ble_eq_true rfl) (Nat.le_of_ble_eq_true rfl) (fun G6 H locs hw2 hP hS => ?_)
  replace hw := hw2
  clear hw2
  refine lv_iload_n hx hb dX4_told_15 rfl (lv_at hl 3 rfl) ?_
  by_cases c7 : p1 = 0
  · replace hw := hw.1 c7
    refine lv_tableIn (tgt := 48) hx hb dX4_told_16 (by rw [c7]; decide) (by rw [c7]; decide) (by rw [c7]; rfl) (by decide) ?_
    refine gh_aload_n hx hb dX4_told_48 rfl (lv_at hl 0 rfl) ?_
    obtain ⟨a8, ea8, hw⟩ := hw
    subst ea8
    have hl : lv_has ls 4 [(3, .ref a8), (0, .ref t), (1, .int p0), (2, .int p1)] := hl
    obtain ⟨fs9, x12, he10, hv11, hw⟩ := hw
    refine gh_get (ci := 0) (v := .int x12) (C := "OwnerLedger$Batch") (T := TX0) (N := 6) hx hb hts (fun w h => gT_up (inX0 w h)) hown hK hP he10 rfl 3 (by decide) (hts _ (gT_up kw_138)) (fun _ h9 => h9) hv11 dX4_told_49 ?_
    exact gh_iret hx hb hr hlocks hw hP hS (Nat.le_of_ble_eq_true rfl) (Nat.le_of_ble_eq_true rfl) dX4_told_52
  by_cases c13 : p1 = 1
  · replace hw := hw.2.1 c13
    refine lv_tableIn (tgt := 53) hx hb dX4_told_16 (by rw [c13]; decide) (by rw [c13]; decide) (by rw [c13]; rfl) (by decide) ?_
    refine gh_aload_n hx hb dX4_told_53 rfl (lv_at hl 0 rfl) ?_
    obtain ⟨a14, ea14, hw⟩ := hw
    subst ea14
    have hl : lv_has ls 4 [(3, .ref a14), (0, .ref t), (1, .int p0), (2, .int p1)] := hl
    obtain ⟨fs15, x18, he16, hv17, hw⟩ := hw
    refine gh_get (ci := 0) (v := .int x18) (C := "OwnerLedger$Batch") (T := TX0) (N := 6) hx hb hts (fun w h => gT_up (inX0 w h)) hown hK hP he16 rfl 0 (by decide) (hts _ (gT_up kw_132)) (fun _ h9 => h9) hv17 dX4_told_54 ?_
    exact gh_iret hx hb hr hlocks hw hP hS (Nat.le_of_ble_eq_true rfl) (Nat.le_of_ble_eq_true rfl) dX4_told_57
  by_cases c19 : p1 = 2
  · replace hw := hw.2.2.1 c19
    refine lv_tableIn (tgt := 58) hx hb dX4_told_16 (by rw [c19]; decide) (by rw [c19]; decide) (by rw [c19]; rfl) (by decide) ?_
    refine gh_aload_n hx hb dX4_told_58 rfl (lv_at hl 0 rfl) ?_
    obtain ⟨a20, ea20, hw⟩ := hw
    subst ea20
    have hl : lv_has ls 4 [(3, .ref a20), (0, .ref t), (1, .int p0), (2, .int p1)] := hl
    obtain ⟨fs21, x24, he22, hv23, hw⟩ := hw
    refine gh_get (ci := 0) (v := .int x24) (C := "OwnerLedger$Batch") (T := TX0) (N := 6) hx hb hts (fun w h => gT_up (inX0 w h)) hown hK hP he22 rfl 2 (by decide) (hts _ (gT_up kw_136)) (fun _ h9 => h9) hv23 dX4_told_59 ?_
    exact gh_iret hx hb hr hlocks hw hP hS (Nat.le_of_ble_eq_true rfl) (Nat.le_of_ble_eq_true rfl) dX4_told_62
  by_cases c25 : p1 = 3
  · replace hw := hw.2.2.2.1 c25
    refine lv_tableIn (tgt := 63) hx hb dX4_told_16 (by rw [c25]; decide) (by rw [c25]; decide) (by rw [c25]; rfl) (by decide) ?_
    refine gh_aload_n hx hb dX4_told_63 rfl (lv_at hl 0 rfl) ?_
    obtain ⟨a26, ea26, hw⟩ := hw
    subst ea26
    have hl : lv_has ls 4 [(3, .ref a26), (0, .ref t), (1, .int p0), (2, .int p1)] := hl
    obtain ⟨fs27, x30, he28, hv29, hw⟩ := hw
    refine gh_get (ci := 0) (v := .int x30) (C := "OwnerLedger$Batch") (T := TX0) (N := 6) hx hb hts (fun w h => gT_up (inX0 w h)) hown hK hP he28 rfl 4 (by decide) (hts _ (gT_up kw_139)) (fun _ h9 => h9) hv29 dX4_told_64 ?_
    exact gh_iret hx hb hr hlocks hw hP hS (Nat.le_of_ble_eq_true rfl) (Nat.le_of_ble_eq_true rfl) dX4_told_67
  replace hw := hw.2.2.2.2 c7 c13 c19 c25
  refine lv_tableOut (tgt := 68) hx hb dX4_told_16 (by have h0 := lv_neT (a := 0) c7 (by decide); have h1 := lv_neT (a := 1) c13 (by decide); have h2 := lv_neT (a := 2) c19 (by decide); have h3 := lv_neT (a := 3) c25 (by decide); omega) (by decide) ?_
  refine gh_aload_n hx hb dX4_told_68 rfl (lv_at hl 0 rfl) ?_
  obtain ⟨a31, ea31, hw⟩ := hw
  subst ea31
  have hl : lv_has ls 4 [(3, .ref a31), (0, .ref t), (1, .int p0), (2, .int p1)] := hl
  obtain ⟨fs32, x35, he33, hv34, hw⟩ := hw
  refine gh_get (ci := 0) (v := .int x35) (C := "OwnerLedger$Batch") (T := TX0) (N := 6) hx hb hts (fun w h => gT_up (inX0 w h)) hown hK hP he33 rfl 5 (by decide) (hts _ (gT_up kw_140)) (fun _ h9 => h9) hv34 dX4_told_69 ?_
  exact gh_iret hx hb hr hlocks hw hP hS (Nat.le_of_ble_eq_true rfl) (Nat.le_of_ble_eq_true rfl) dX4_told_72
abbrev rmX4_known : Room := { frames := 7, cells := 2, slots := 12, locals := 107 }
abbrev cxX4_known (p : Program) (s : State) (m : MethodId) (args : Array Value) (meth : Method) (c : Code) (D : va_G) (AC : Nat → ClassId) (sa : gh_SA) (A : Nat → Prop) : Prop := CallFix p m c prog_1_method_22_code 4 s args wsX4_known "OwnerLedger" ∧ meth.sig.returnType = (some .long) ∧ meth.locks = false ∧ c.exceptionTable.toList = [] ∧ va_K D vwCl (gh_ty AC) s ∧ gh_En sa A s s.heap ∧ (∀ q, s.heap.size ≤ q → A q)
def wX4_known (post : Int64 → gh_H → Prop) (px : String → gh_H → Prop) (G : gh_H) (t : Nat) (p0 : Int32) (p1 : Int32) : Prop := ∃ fs3 : List Value, G t = some (.inr (4, fs3)) ∧ wX4_findInvoice (fun r1 G2 => wX4_requireRange (fun G6 => (p1 = 0 → (∃ a8 : Nat, r1 = some a8 ∧ ∃ (fs9 : List Value) (x12 : Int64), G6 a8 = some (.inr (1, fs9)) ∧ fs9[2]? = some (.long x12) ∧ (post x12 G6))) ∧ (p1 = 1 → (∃ a14 : Nat, r1 = some a14 ∧ ∃ (fs15 : List Value) (x18 : Int32), G6 a14 = some (.inr (1, fs15)) ∧ fs15[3]? = some (.int x18) ∧ (post (Int32.toInt64 x18) G6))) ∧ (p1 = 2 → (∃ a20 : Nat, r1 = some a20 ∧ ∃ (fs21 : List Value) (x24 : Int32), G6 a20 = some (.inr (1, fs21)) ∧ fs21[4]? = some (.int x24) ∧ ((x24 = 0 → (post 0 G6)) ∧ (¬ x24 = 0 → (post 1 G6))))) ∧ (p1 = 3 → (∃ (fs27 : List Value) (x30 : Int32), G6 t = some (.inr (4, fs27)) ∧ fs27[8]? = some (.int x30) ∧ (∃ a31 : Nat, r1 = some a31 ∧ ∃ fs34 : List Value, G6 a31 = some (.inr (1, fs34)) ∧ wX1_isOverdue (fun r32 G33 => (r32 = 0 → (post 0 G33)) ∧ (¬ r32 = 0 → (post 1 G33))) px G6 a31 x30))) ∧ (p1 = 4 → (∃ a38 : Nat, r1 = some a38 ∧ ∃ (fs39 : List Value) (x42 : Int32), G6 a38 = some (.inr (1, fs39)) ∧ fs39[0]? = some (.int x42) ∧ (post (Int32.toInt64 x42) G6))) ∧ (¬ p1 = 0 → ¬ p1 = 1 → ¬ p1 = 2 → ¬ p1 = 3 → ¬ p1 = 4 → (∃ a43 : Nat, r1 = some a43 ∧ ∃ (fs44 : List Value) (x47 : Int32), G6 a43 = some (.inr (1, fs44)) ∧ fs44[1]? = some (.int x47) ∧ (post (Int32.toInt64 x47) G6)))) px G2 (Int32.toInt64 p1) 0 5) px G t p0
set_option maxRecDepth 100000 in
set_option maxHeartbeats 4000000 in
theorem mX4_known (l : Launch) (hl0 : l.stackTraces = false) (D : va_G) (AC : Nat → ClassId) (sa : gh_SA) (t : Nat) (p0 : Int32) (p1 : Int32) (post : Int64 → gh_H → Prop) (px : String → gh_H → Prop) (G : gh_H) (sz : Nat) (hw : wX4_known post px G t p0 p1) : vx_Met l yX4_known wsX4_known rmX4_known (gh_Pc D vwCl AC (gh_ty AC) (gh_En sa) G sz [.ref t, .int p0, .int p1]) (va_Ql post (gh_B D vwCl AC (gh_A G sz)) (gh_A G sz)) (gh_X D vwCl AC px (gh_A G sz)) 2 12 (gh_A G sz) := by
  refine vx_ofW (cc := prog_1_method_22_code) (maxL := 4) (ret := (some .long)) (by decide) rfl ?_
  intro p e s m args below meth c s₁ B hml hnoh hv
  obtain ⟨rfl, hsz, hP, hK, hE⟩ := hv
  have hx := B.exec
  have hb := B.bytes
  have hr := B.returns
  have hts := atoms_spec (ws := wsX4_known) B.pre
  have hown : s.vm.findClass "OwnerLedger" = some m.cls := findClass_of_methodNamed B.named
  have hlocks := B.notSynchronized
  have htb : c.exceptionTable.toList = [] := List.eq_nil_iff_forall_not_mem.mpr hnoh
  subst hsz
  have hA : ∀ q, s.heap.size ≤ q → gh_A G s.heap.size q := fun q h => Or.inr h
  generalize gh_A G s.heap.size = A at hP hE hA ⊢
  have hno : ∀ (pc : Nat), ∀ x ∈ c.exceptionTable.toList, covers x pc = false := by rw [htb]; intro _ _ h; cases h
  have CX : cxX4_known p s m [.ref t, .int p0, .int p1].toArray meth c D AC sa A := ⟨⟨hx, hb, hml, hown, hts⟩, hr, hlocks, htb, hK, hE, hA⟩
  have hS : va_S A s.heap s.heap [] := va_S.rf
  have hl := lv_entry ([.ref t, .int p0, .int p1]) (n := 4) (Nat.le_of_ble_eq_true rfl)
  rw [lg_entry_eq]
  generalize (lg_sl ([.ref t, .int p0, .int p1]) ++ List.replicate (4 - (lg_sl ([.ref t, .int p0, .int p1])).length) Slot.unset).toArray = ls at hl ⊢
  have hl : lv_has ls 4 [(0, .ref t), (1, .int p0), (2, .int p1)] := hl
  dsimp only [wX4_known] at hw
  refine lv_aload_n hx hb dX4_known_0 rfl (lv_at hl 0 rfl) ?_
  refine lv_iload_n hx hb dX4_known_1 rfl (lv_at hl 1 rfl) ?_
  obtain ⟨fs3, he4, hw⟩ := hw
  refine gh_cq hlocks (hno _) (vx_runV (C := "OwnerLedger") (As := [.int p0]) (rest := []) ⟨hx, hb, hml, hown, hts⟩ (mX4_findInvoice l hl0 D AC sa _ _ _ _ _ _ hw) (cwV 1 hts (gV kw_285 kw_286 kw_538 kw_1 kw_287) rfl rfl rfl (by decide +kernel) ⟨Nat.le_of_ble_eq_true rfl, Nat.le_of_ble_eq_true rfl⟩) (gh_preV gh_En_ok hK hE hP hS hA he4 rfl _) rfl rfl hl.1 rfl (lv_room (Nat.le_of_ble_eq_true rfl)) dX4_known_2 ⟨Nat.le_of_ble_eq_true rfl, Nat.le_of_ble_eq_true rfl⟩) hP hS hA (Nat.le_of_ble_eq_true rfl) (Nat.le_of_ble_eq_true rfl) (fun r1 G2 H locs hw2 hP hS => ?_)
  replace hw := hw2
  clear hw2
  refine gh_astore_n (lv' := [(3, va_rf r1), (0, .ref t), (1, .int p0), (2, .int p1)]) hx hb dX4_known_5 rfl hl (by decide) rfl (fun ls hl => ?_)
  refine lv_iload_n hx hb dX4_known_6 rfl (lv_at hl 3 rfl) ?_
  refine lv_i2l hx hb dX4_known_7 rfl ?_
  refine lv_lconst (v := 0) hx hb dX4_known_8 (by decide) ?_
  refine lv_ldc2 (v := 5) hx hb hown (hts _ (gT_up kw_358)) dX4_known_9 ?_
  refine gh_cv_ hlocks (hno _) (vx_runS (As := [.long (Int32.toInt64 p1), .long 0, .long 5]) (rest := []) ⟨hx, hb, hml, hown, hts⟩ (mX4_requireRange l hl0 D AC sa _ _ _ _ _ _ _ hw) (va_cwS 3 hts (gS kw_89 kw_90 kw_1 kw_91) rfl rfl rfl (by decide +kernel) ⟨Nat.le_of_ble_eq_true rfl, Nat.le_of_ble_eq_true rfl⟩) (gh_pre gh_En_ok hK hE hP hS hA _) rfl rfl hl.1 rfl (lv_room (Nat.le_of_ble_eq_true rfl)) dX4_known_12 ⟨Nat.le_of_ble_eq_true rfl, Nat.le_of_ble_eq_true rfl⟩) hP hS hA (Nat.le_of_ble_eq_true rfl) (Nat.le_of_ble_eq_true rfl) (fun G6 H locs hw2 hP hS => ?_)
  replace hw := hw2
  clear hw2
  refine lv_iload_n hx hb dX4_known_15 rfl (lv_at hl 3 rfl) ?_
  by_cases c7 : p1 = 0
  · replace hw := hw.1 c7
    refine lv_tableIn (tgt := 52) hx hb dX4_known_16 (by rw [c7]; decide) (by rw [c7]; decide) (by rw [c7]; rfl) (by decide) ?_
    refine gh_aload_n hx hb dX4_known_52 rfl (lv_at hl 0 rfl) ?_
    obtain ⟨a8, ea8, hw⟩ := hw
    subst ea8
    have hl : lv_has ls 4 [(3, .ref a8), (0, .ref t), (1, .int p0), (2, .int p1)] := hl
    obtain ⟨fs9, x12, he10, hv11, hw⟩ := hw
    refine gh_get (ci := 1) (v := .long x12) (C := "OwnerLedger$Invoice") (T := TX1) (N := 5) hx hb hts (fun w h => gT_up (inX1 w h)) hown hK hP he10 rfl 2 (by decide) (hts _ (gT_up kw_257)) (fun _ h9 => h9) hv11 dX4_known_53 ?_
    exact gh_lret hx hb hr hlocks hw hP hS (Nat.le_of_ble_eq_true rfl) (Nat.le_of_ble_eq_true rfl) dX4_known_56
  by_cases c13 : p1 = 1
  · replace hw := hw.2.1 c13
    refine lv_tableIn (tgt := 57) hx hb dX4_known_16 (by rw [c13]; decide) (by rw [c13]; decide) (by rw [c13]; rfl) (by decide) ?_
    refine gh_aload_n hx hb dX4_known_57 rfl (lv_at hl 0 rfl) ?_
    obtain ⟨a14, ea14, hw⟩ := hw
    subst ea14
    have hl : lv_has ls 4 [(3, .ref a14), (0, .ref t), (1, .int p0), (2, .int p1)] := hl
    obtain ⟨fs15, x18, he16, hv17, hw⟩ := hw
    refine gh_get (ci := 1) (v := .int x18) (C := "OwnerLedger$Invoice") (T := TX1) (N := 5) hx hb hts (fun w h => gT_up (inX1 w h)) hown hK hP he16 rfl 3 (by decide) (hts _ (gT_up kw_258)) (fun _ h9 => h9) hv17 dX4_known_58 ?_
    refine lv_i2l hx hb dX4_known_61 rfl ?_
    exact gh_lret hx hb hr hlocks hw hP hS (Nat.le_of_ble_eq_true rfl) (Nat.le_of_ble_eq_true rfl) dX4_known_62
  by_cases c19 : p1 = 2
  · replace hw := hw.2.2.1 c19
    refine lv_tableIn (tgt := 63) hx hb dX4_known_16 (by rw [c19]; decide) (by rw [c19]; decide) (by rw [c19]; rfl) (by decide) ?_
    refine gh_aload_n hx hb dX4_known_63 rfl (lv_at hl 0 rfl) ?_
    obtain ⟨a20, ea20, hw⟩ := hw
    subst ea20
    have hl : lv_has ls 4 [(3, .ref a20), (0, .ref t), (1, .int p0), (2, .int p1)] := hl
    obtain ⟨fs21, x24, he22, hv23, hw⟩ := hw
    refine gh_get (ci := 1) (v := .int x24) (C := "OwnerLedger$Invoice") (T := TX1) (N := 5) hx hb hts (fun w h => gT_up (inX1 w h)) hown hK hP he22 rfl 4 (by decide) (hts _ (gT_up kw_260)) (fun _ h9 => h9) hv23 dX4_known_64 ?_
    refine lv_if_eq (tgt := 74) hx hb dX4_known_67 (by decide) (fun c25 => ?_) (fun c25 => ?_)
    · replace hw := hw.1 c25
      refine lv_lconst (v := 0) hx hb dX4_known_74 (by decide) ?_
      exact gh_lret hx hb hr hlocks hw hP hS (Nat.le_of_ble_eq_true rfl) (Nat.le_of_ble_eq_true rfl) dX4_known_75
    · replace hw := hw.2 c25
      refine lv_lconst (v := 1) hx hb dX4_known_70 (by decide) ?_
      refine lv_goto (tgt := 75) hx hb dX4_known_71 (by decide) ?_
      exact gh_lret hx hb hr hlocks hw hP hS (Nat.le_of_ble_eq_true rfl) (Nat.le_of_ble_eq_true rfl) dX4_known_75
  by_cases c26 : p1 = 3
  · replace hw := hw.2.2.2.1 c26
    refine lv_tableIn (tgt := 76) hx hb dX4_known_16 (by rw [c26]; decide) (by rw [c26]; decide) (by rw [c26]; rfl) (by decide) ?_
    refine gh_aload_n hx hb dX4_known_76 rfl (lv_at hl 0 rfl) ?_
    refine lv_aload_n hx hb dX4_known_77 rfl (lv_at hl 1 rfl) ?_
    obtain ⟨fs27, x30, he28, hv29, hw⟩ := hw
    refine gh_get (ci := 4) (v := .int x30) (C := "OwnerLedger") (T := TX4) (N := 11) hx hb hts (fun w h => gT_up (inX4 w h)) hown hK hP he28 rfl 8 (by decide) (hts _ (gT_up kw_31)) (fun _ h9 => h9) hv29 dX4_known_78 ?_
    obtain ⟨a31, ea31, hw⟩ := hw
    subst ea31
    have hl : lv_has ls 4 [(3, .ref a31), (0, .ref t), (1, .int p0), (2, .int p1)] := hl
    obtain ⟨fs34, he35, hw⟩ := hw
    refine gh_ci hlocks (hno _) (vx_runV (C := "OwnerLedger$Invoice") (As := [.int x30]) (rest := []) ⟨hx, hb, hml, hown, hts⟩ (mX1_isOverdue l hl0 D AC sa _ _ _ _ _ _ hw) (cwV 1 hts (gV kw_302 kw_303 kw_304 kw_10 kw_305) rfl rfl rfl (by decide +kernel) ⟨Nat.le_of_ble_eq_true rfl, Nat.le_of_ble_eq_true rfl⟩) (gh_preV gh_En_ok hK hE hP hS hA he35 rfl _) rfl rfl hl.1 rfl (lv_room (Nat.le_of_ble_eq_true rfl)) dX4_known_81 ⟨Nat.le_of_ble_eq_true rfl, Nat.le_of_ble_eq_true rfl⟩) hP hS hA (Nat.le_of_ble_eq_true rfl) (Nat.le_of_ble_eq_true rfl) (fun r32 G33 H locs hw2 hP hS => ?_)
    replace hw := hw2
    clear hw2
    refine lv_if_eq (tgt := 91) hx hb dX4_known_84 (by decide) (fun c36 => ?_) (fun c36 => ?_)
    · replace hw := hw.1 c36
      refine lv_lconst (v := 0) hx hb dX4_known_91 (by decide) ?_
      exact gh_lret hx hb hr hlocks hw hP hS (Nat.le_of_ble_eq_true rfl) (Nat.le_of_ble_eq_true rfl) dX4_known_92
    · replace hw := hw.2 c36
      refine lv_lconst (v := 1) hx hb dX4_known_87 (by decide) ?_
      refine lv_goto (tgt := 92) hx hb dX4_known_88 (by decide) ?_
      exact gh_lret hx hb hr hlocks hw hP hS (Nat.le_of_ble_eq_true rfl) (Nat.le_of_ble_eq_true rfl) dX4_known_92
  by_cases c37 : p1 = 4
  · replace hw := hw.2.2.2.2.1 c37
    refine lv_tableIn (tgt := 93) hx hb dX4_known_16 (by rw [c37]; decide) (by rw [c37]; decide) (by rw [c37]; rfl) (by decide) ?_
    refine gh_aload_n hx hb dX4_known_93 rfl (lv_at hl 0 rfl) ?_
    obtain ⟨a38, ea38, hw⟩ := hw
    subst ea38
    have hl : lv_has ls 4 [(3, .ref a38), (0, .ref t), (1, .int p0), (2, .int p1)] := hl
    obtain ⟨fs39, x42, he40, hv41, hw⟩ := hw
    refine gh_get (ci := 1) (v := .int x42) (C := "OwnerLedger$Invoice") (T := TX1) (N := 5) hx hb hts (fun w h => gT_up (inX1 w h)) hown hK hP he40 rfl 0 (by decide) (hts _ (gT_up kw_253)) (fun _ h9 => h9) hv41 dX4_known_94 ?_
    refine lv_i2l hx hb dX4_known_97 rfl ?_
    exact gh_lret hx hb hr hlocks hw hP hS (Nat.le_of_ble_eq_true rfl) (Nat.le_of_ble_eq_true rfl) dX4_known_98
  replace hw := hw.2.2.2.2.2 c7 c13 c19 c26 c37
  refine lv_tableOut (tgt := 99) hx hb dX4_known_16 (by have h0 := lv_neT (a := 0) c7 (by decide); have h1 := lv_neT (a := 1) c13 (by decide); have h2 := lv_neT (a := 2) c19 (by decide); have h3 := lv_neT (a := 3) c26 (by decide); have h4 := lv_neT (a := 4) c37 (by decide); omega) (by decide) ?_
  refine gh_aload_n hx hb dX4_known_99 rfl (lv_at hl 0 rfl) ?_
  obtain ⟨a43, ea43, hw⟩ := hw
  subst ea43
  have hl : lv_has ls 4 [(3, .ref a43), (0, .ref t), (1, .int p0), (2, .int p1)] := hl
  obtain ⟨fs44, x47, he45, hv46, hw⟩ := hw
  refine gh_get (ci := 1) (v := .int x47) (C := "OwnerLedger$Invoice") (T := TX1) (N := 5) hx hb hts (fun w h => gT_up (inX1 w h)) hown hK hP he45 rfl 1 (by decide) (hts _ (gT_up kw_255)) (fun _ h9 => h9) hv46 dX4_known_100 ?_
  refine lv_i2l hx hb dX4_known_103 rfl ?_
  exact gh_lret hx hb hr hlocks hw hP hS (Nat.le_of_ble_eq_true rfl) (Nat.le_of_ble_eq_true rfl) dX4_known_104
abbrev rmX4_credit : Room := { frames := 7, cells := 1, slots := 6, locals := 104 }
abbrev cxX4_credit (p : Program) (s : State) (m : MethodId) (args : Array Value) (meth : Method) (c : Code) (D : va_G) (AC : Nat → ClassId) (sa : gh_SA) (A : Nat → Prop) : Prop := CallFix p m c prog_1_method_23_code 2 s args wsX4_credit "OwnerLedger" ∧ meth.sig.returnType = (some .long) ∧ meth.locks = false ∧ c.exceptionTable.toList = [] ∧ va_K D vwCl (gh_ty AC) s ∧ gh_En sa A s s.heap ∧ (∀ q, s.heap.size ≤ q → A q)
def wX4_credit (post : Int64 → gh_H → Prop) (px : String → gh_H → Prop) (G : gh_H) (t : Nat) (p0 : Int32) : Prop := ∃ fs3 : List Value, G t = some (.inr (4, fs3)) ∧ wX4_findOwner (fun r1 G2 => ∃ a5 : Nat, r1 = some a5 ∧ ∃ (fs6 : List Value) (x9 : Int64), G2 a5 = some (.inr (2, fs6)) ∧ fs6[0]? = some (.long x9) ∧ (post x9 G2)) px G t p0
set_option maxRecDepth 100000 in
set_option maxHeartbeats 4000000 in
theorem mX4_credit (l : Launch) (hl0 : l.stackTraces = false) (D : va_G) (AC : Nat → ClassId) (sa : gh_SA) (t : Nat) (p0 : Int32) (post : Int64 → gh_H → Prop) (px : String → gh_H → Prop) (G : gh_H) (sz : Nat) (hw : wX4_credit post px G t p0) : vx_Met l yX4_credit wsX4_credit rmX4_credit (gh_Pc D vwCl AC (gh_ty AC) (gh_En sa) G sz [.ref t, .int p0]) (va_Ql post (gh_B D vwCl AC (gh_A G sz)) (gh_A G sz)) (gh_X D vwCl AC px (gh_A G sz)) 1 6 (gh_A G sz) := by
  refine vx_ofW (cc := prog_1_method_23_code) (maxL := 2) (ret := (some .long)) (by decide) rfl ?_
  intro p e s m args below meth c s₁ B hml hnoh hv
  obtain ⟨rfl, hsz, hP, hK, hE⟩ := hv
  have hx := B.exec
  have hb := B.bytes
  have hr := B.returns
  have hts := atoms_spec (ws := wsX4_credit) B.pre
  have hown : s.vm.findClass "OwnerLedger" = some m.cls := findClass_of_methodNamed B.named
  have hlocks := B.notSynchronized
  have htb : c.exceptionTable.toList = [] := List.eq_nil_iff_forall_not_mem.mpr hnoh
  subst hsz
  have hA : ∀ q, s.heap.size ≤ q → gh_A G s.heap.size q := fun q h => Or.inr h
  generalize gh_A G s.heap.size = A at hP hE hA ⊢
  have hno : ∀ (pc : Nat), ∀ x ∈ c.exceptionTable.toList, covers x pc = false := by rw [htb]; intro _ _ h; cases h
  have CX : cxX4_credit p s m [.ref t, .int p0].toArray meth c D AC sa A := ⟨⟨hx, hb, hml, hown, hts⟩, hr, hlocks, htb, hK, hE, hA⟩
  have hS : va_S A s.heap s.heap [] := va_S.rf
  have hl := lv_entry ([.ref t, .int p0]) (n := 2) (Nat.le_of_ble_eq_true rfl)
  rw [lg_entry_eq]
  generalize (lg_sl ([.ref t, .int p0]) ++ List.replicate (2 - (lg_sl ([.ref t, .int p0])).length) Slot.unset).toArray = ls at hl ⊢
  have hl : lv_has ls 2 [(0, .ref t), (1, .int p0)] := hl
  dsimp only [wX4_credit] at hw
  refine lv_aload_n hx hb dX4_credit_0 rfl (lv_at hl 0 rfl) ?_
  refine lv_iload_n hx hb dX4_credit_1 rfl (lv_at hl 1 rfl) ?_
  obtain ⟨fs3, he4, hw⟩ := hw
  refine gh_cq hlocks (hno _) (vx_runV (C := "OwnerLedger") (As := [.int p0]) (rest := []) ⟨hx, hb, hml, hown, hts⟩ (mX4_findOwner l hl0 D AC sa _ _ _ _ _ _ hw) (cwV 1 hts (gV kw_80 kw_81 kw_533 kw_1 kw_82) rfl rfl rfl (by decide +kernel) ⟨Nat.le_of_ble_eq_true rfl, Nat.le_of_ble_eq_true rfl⟩) (gh_preV gh_En_ok hK hE hP hS hA he4 rfl _) rfl rfl hl.1 rfl (lv_room (Nat.le_of_ble_eq_true rfl)) dX4_credit_2 ⟨Nat.le_of_ble_eq_true rfl, Nat.le_of_ble_eq_true rfl⟩) hP hS hA (Nat.le_of_ble_eq_true rfl) (Nat.le_of_ble_eq_true rfl) (fun r1 G2 H locs hw2 hP hS => ?_)
  replace hw := hw2
  clear hw2
  obtain ⟨a5, ea5, hw⟩ := hw
  subst ea5
  have hl : lv_has ls 2 [(0, .ref t), (1, .int p0)] := hl
  obtain ⟨fs6, x9, he7, hv8, hw⟩ := hw
  refine gh_get (ci := 2) (v := .long x9) (C := "OwnerLedger$Owner") (T := TX2) (N := 2) hx hb hts (fun w h => gT_up (inX2 w h)) hown hK hP he7 rfl 0 (by decide) (hts _ (gT_up kw_69)) (fun _ h9 => h9) hv8 dX4_credit_5 ?_
  exact gh_lret hx hb hr hlocks hw hP hS (Nat.le_of_ble_eq_true rfl) (Nat.le_of_ble_eq_true rfl) dX4_credit_8
abbrev rmX4_postedBatches : Room := { frames := 0, cells := 0, slots := 0, locals := 0 }
abbrev cxX4_postedBatches (p : Program) (s : State) (m : MethodId) (args : Array Value) (meth : Method) (c : Code) (D : va_G) (AC : Nat → ClassId) (sa : gh_SA) (A : Nat → Prop) : Prop := CallFix p m c prog_1_method_36_code 6 s args wsX4_postedBatches "OwnerLedger" ∧ meth.sig.returnType = (some .int) ∧ meth.locks = false ∧ c.exceptionTable.toList = [] ∧ va_K D vwCl (gh_ty AC) s ∧ gh_En sa A s s.heap ∧ (∀ q, s.heap.size ≤ q → A q)
def wX4_postedBatches_13 (post : Int32 → gh_H → Prop) (px : String → gh_H → Prop) : Nat → gh_H → Int32 → Nat → Int32 → Int32 → Prop
  | 0 => fun _ _ _ _ _ => False
  | n + 1 => fun G v1 v2 v3 v4 => (v3 ≤ v4 → (post v1 G)) ∧ (¬ v3 ≤ v4 → (∃ (k6 n2 : Nat) (f3 : Nat → Option Nat), G v2 = some (.inl (k6, n2, .inr (.inr (.inr (.inr f3))))) ∧ gh_isq k6 = true ∧ vp_in v4 n2 ∧ (∀ o8 : Option Nat, o8 = f3 v4.toNatClampNeg → (o8 = none → (wX4_postedBatches_13 post px n G v1 v2 v3 (v4 + 1))) ∧ (∀ a10 : Nat, o8 = some a10 → (∃ (fs11 : List Value) (x14 : Int32), G a10 = some (.inr (0, fs11)) ∧ fs11[3]? = some (.int x14) ∧ ((¬ x14 = 1 → (wX4_postedBatches_13 post px n G v1 v2 v3 (v4 + 1))) ∧ (x14 = 1 → (wX4_postedBatches_13 post px n G (v1 + 1) v2 v3 (v4 + 1)))))))))
set_option maxRecDepth 100000 in
set_option maxHeartbeats 4000000 in
theorem lX4_postedBatches_13 {p : Program} {l : Launch} {e : Env} {s : State} {m : MethodId} {args : Array Value} {below : List Frame} {meth : Method} {c : Code} {D : va_G} {AC : Nat → ClassId} {sa : gh_SA} {A : Nat → Prop} (hl0 : l.stackTraces = false) (CX : cxX4_postedBatches p s m args meth c D AC sa A) (post : Int32 → gh_H → Prop) (px : String → gh_H → Prop) : ∀ n : Nat, ∀ (G : gh_H) (v1 : Int32) (v2 : Nat) (v3 : Int32) (v4 : Int32) (H : Heap) (locs : List Loc), wX4_postedBatches_13 post px n G v1 v2 v3 v4 → gh_h D vwCl AC A G H → va_S A s.heap H locs → ∀ ls : Array Slot, lv_has ls 6 [(1, .int v1), (2, .ref v2), (3, .int v3), (4, .int v4)] → W p l e rmX4_postedBatches s m args below meth c H locs 0 0 (vx_MQ below (va_Qi post (gh_B D vwCl AC A) A) (gh_X D vwCl AC px A) args s 0 0 A) (F0 m 13 ls []) := by
  obtain ⟨⟨hx, hb, hml, hown, hts⟩, hr, hlocks, htb, hK, hE, hA⟩ := id CX
  have hno : ∀ (pc : Nat), ∀ x ∈ c.exceptionTable.toList, covers x pc = false := by rw [htb]; intro _ _ h; cases h
  intro n
  induction n with
  | zero =>
    intro G v1 v2 v3 v4 H locs hw
    exact False.elim hw
  | succ n ih =>
    intro G v1 v2 v3 v4 H locs hw hP hS ls hl
    dsimp only [wX4_postedBatches_13] at hw
    refine lv_iload hx hb dX4_postedBatches_13 (lv_at hl 3 rfl) ?_
    refine lv_iload_n hx hb dX4_postedBatches_15 rfl (lv_at hl 2 rfl) ?_
    refine lv_icmp_ge (tgt := 48) hx hb dX4_postedBatches_16 (by decide) (fun c1 => ?_) (fun c1 => ?_)
    · replace hw := hw.1 c1
      refine lv_iload_n hx hb dX4_postedBatches_48 rfl (lv_at hl 0 rfl) ?_
      exact gh_iret hx hb hr hlocks hw hP hS (Nat.le_of_ble_eq_true rfl) (Nat.le_of_ble_eq_true rfl) dX4_postedBatches_49
    · replace hw := hw.2 c1
      refine lv_aload_n hx hb dX4_postedBatches_19 rfl (lv_at hl 1 rfl) ?_
      refine lv_iload hx hb dX4_postedBatches_20 (lv_at hl 3 rfl) ?_
      obtain ⟨k6, n2, f3, he4, hk7, hi5, hw⟩ := hw
      obtain ⟨C9, ht9⟩ := gh_tyq AC hk7
      refine gh_aald hx hb hK hP he4 ht9 hi5 dX4_postedBatches_22 ?_
      obtain ⟨o8, eo9⟩ : ∃ z : Option Nat, z = f3 (Int32.toNatClampNeg v4) := ⟨_, rfl⟩
      rw [← eo9]
      replace hw := hw o8 eo9
      refine gh_astore (lv' := [(5, va_rf o8), (1, .int v1), (2, .ref v2), (3, .int v3), (4, .int v4)]) hx hb dX4_postedBatches_23 hl (by decide) rfl (fun ls hl => ?_)
      refine gh_aload hx hb dX4_postedBatches_25 (lv_at hl 0 rfl) ?_
      rcases o8 with _ | a10
      · replace hw := hw.1 rfl
        have hl : lv_has ls 6 [(5, .null), (1, .int v1), (2, .ref v2), (3, .int v3), (4, .int v4)] := hl
        refine lv_ifnullN (tgt := 42) hx hb dX4_postedBatches_27 (by decide) ?_
        refine lv_iinc (v := (v4 + 1)) (lv' := [(4, .int (v4 + 1)), (5, .null), (1, .int v1), (2, .ref v2), (3, .int v3)]) hx hb dX4_postedBatches_42 hl (k := 4) rfl rfl (by decide) rfl (fun ls hl => ?_)
        refine lv_goto (tgt := 13) hx hb dX4_postedBatches_45 (by decide) ?_
        have hl := lv_sub (l' := [(1, .int v1), (2, .ref v2), (3, .int v3), (4, .int (v4 + 1))]) hl [2, 3, 4, 0] rfl
        exact ih _ v1 v2 v3 (v4 + 1) _ _ hw hP hS ls hl
      · replace hw := hw.2 a10 rfl
        have hl : lv_has ls 6 [(5, .ref a10), (1, .int v1), (2, .ref v2), (3, .int v3), (4, .int v4)] := hl
        refine lv_ifnull hx hb dX4_postedBatches_27 ?_
        refine lv_aload hx hb dX4_postedBatches_30 (lv_at hl 0 rfl) ?_
        obtain ⟨fs11, x14, he12, hv13, hw⟩ := hw
        refine gh_get (ci := 0) (v := .int x14) (C := "OwnerLedger$Batch") (T := TX0) (N := 6) hx hb hts (fun w h => gT_up (inX0 w h)) hown hK hP he12 rfl 3 (by decide) (hts _ (gT_up kw_138)) (fun _ h9 => h9) hv13 dX4_postedBatches_32 ?_
        refine lv_iconst (v := 1) hx hb dX4_postedBatches_35 (by decide) ?_
        refine lv_icmp_ne (tgt := 42) hx hb dX4_postedBatches_36 (by decide) (fun c15 => ?_) (fun c15 => ?_)
        · replace hw := hw.1 c15
          refine lv_iinc (v := (v4 + 1)) (lv' := [(4, .int (v4 + 1)), (5, .ref a10), (1, .int v1), (2, .ref v2), (3, .int v3)]) hx hb dX4_postedBatches_42 hl (k := 4) rfl rfl (by decide) rfl (fun ls hl => ?_)
          refine lv_goto (tgt := 13) hx hb dX4_postedBatches_45 (by decide) ?_
          have hl := lv_sub (l' := [(1, .int v1), (2, .ref v2), (3, .int v3), (4, .int (v4 + 1))]) hl [2, 3, 4, 0] rfl
          exact ih _ v1 v2 v3 (v4 + 1) _ _ hw hP hS ls hl
        · replace hw := hw.2 c15
          refine lv_iinc (v := (v1 + 1)) (lv' := [(1, .int (v1 + 1)), (5, .ref a10), (2, .ref v2), (3, .int v3), (4, .int v4)]) hx hb dX4_postedBatches_39 hl (k := 1) rfl rfl (by decide) rfl (fun ls hl => ?_)
          refine lv_iinc (v := (v4 + 1)) (lv' := [(4, .int (v4 + 1)), (1, .int (v1 + 1)), (5, .ref a10), (2, .ref v2), (3, .int v3)]) hx hb dX4_postedBatches_42 hl (k := 4) rfl rfl (by decide) rfl (fun ls hl => ?_)
          refine lv_goto (tgt := 13) hx hb dX4_postedBatches_45 (by decide) ?_
          have hl := lv_sub (l' := [(1, .int (v1 + 1)), (2, .ref v2), (3, .int v3), (4, .int (v4 + 1))]) hl [1, 3, 4, 0] rfl
          exact ih _ (v1 + 1) v2 v3 (v4 + 1) _ _ hw hP hS ls hl
def wX4_postedBatches (post : Int32 → gh_H → Prop) (px : String → gh_H → Prop) (G : gh_H) (t : Nat) : Prop := ∃ (fs1 : List Value) (x4 : Nat), G t = some (.inr (4, fs1)) ∧ fs1[2]? = some (.ref x4) ∧ (∃ (k5 : Nat) (n6 : vp_A), G x4 = some (.inl (k5, n6)) ∧ k5 < 7 ∧ (wX4_postedBatches_13 post px 300 G 0 x4 (Int32.ofNat n6.1) 0))
set_option maxRecDepth 100000 in
set_option maxHeartbeats 4000000 in
theorem mX4_postedBatches (l : Launch) (hl0 : l.stackTraces = false) (D : va_G) (AC : Nat → ClassId) (sa : gh_SA) (t : Nat) (post : Int32 → gh_H → Prop) (px : String → gh_H → Prop) (G : gh_H) (sz : Nat) (hw : wX4_postedBatches post px G t) : vx_Met l yX4_postedBatches wsX4_postedBatches rmX4_postedBatches (gh_Pc D vwCl AC (gh_ty AC) (gh_En sa) G sz [.ref t]) (va_Qi post (gh_B D vwCl AC (gh_A G sz)) (gh_A G sz)) (gh_X D vwCl AC px (gh_A G sz)) 0 0 (gh_A G sz) := by
  refine vx_ofW (cc := prog_1_method_36_code) (maxL := 6) (ret := (some .int)) (by decide) rfl ?_
  intro p e s m args below meth c s₁ B hml hnoh hv
  obtain ⟨rfl, hsz, hP, hK, hE⟩ := hv
  have hx := B.exec
  have hb := B.bytes
  have hr := B.returns
  have hts := atoms_spec (ws := wsX4_postedBatches) B.pre
  have hown : s.vm.findClass "OwnerLedger" = some m.cls := findClass_of_methodNamed B.named
  have hlocks := B.notSynchronized
  have htb : c.exceptionTable.toList = [] := List.eq_nil_iff_forall_not_mem.mpr hnoh
  subst hsz
  have hA : ∀ q, s.heap.size ≤ q → gh_A G s.heap.size q := fun q h => Or.inr h
  generalize gh_A G s.heap.size = A at hP hE hA ⊢
  have hno : ∀ (pc : Nat), ∀ x ∈ c.exceptionTable.toList, covers x pc = false := by rw [htb]; intro _ _ h; cases h
  have CX : cxX4_postedBatches p s m [.ref t].toArray meth c D AC sa A := ⟨⟨hx, hb, hml, hown, hts⟩, hr, hlocks, htb, hK, hE, hA⟩
  have hS : va_S A s.heap s.heap [] := va_S.rf
  have hl := lv_entry ([.ref t]) (n := 6) (Nat.le_of_ble_eq_true rfl)
  rw [lg_entry_eq]
  generalize (lg_sl ([.ref t]) ++ List.replicate (6 - (lg_sl ([.ref t])).length) Slot.unset).toArray = ls at hl ⊢
  have hl : lv_has ls 6 [(0, .ref t)] := hl
  dsimp only [wX4_postedBatches] at hw
  refine lv_iconst (v := 0) hx hb dX4_postedBatches_0 (by decide) ?_
  refine lv_istore_n (lv' := [(1, .int 0), (0, .ref t)]) hx hb dX4_postedBatches_1 rfl hl (by decide) rfl (fun ls hl => ?_)
  refine lv_aload_n hx hb dX4_postedBatches_2 rfl (lv_at hl 1 rfl) ?_
  obtain ⟨fs1, x4, he2, hv3, hw⟩ := hw
  refine gh_get (ci := 4) (v := .ref x4) (C := "OwnerLedger") (T := TX4) (N := 11) hx hb hts (fun w h => gT_up (inX4 w h)) hown hK hP he2 rfl 2 (by decide) (hts _ (gT_up kw_25)) (fun _ h9 => h9) hv3 dX4_postedBatches_3 ?_
  refine lv_astore_n (lv' := [(2, .ref x4), (1, .int 0), (0, .ref t)]) hx hb dX4_postedBatches_6 rfl hl (by decide) rfl (fun ls hl => ?_)
  refine lv_aload_n hx hb dX4_postedBatches_7 rfl (lv_at hl 0 rfl) ?_
  obtain ⟨k5, n6, he8, hk9, hw⟩ := hw
  obtain ⟨ty9, ht9⟩ := gh_tyat AC hk9
  refine gh_alen hx hb hK hP he8 ht9 rfl dX4_postedBatches_8 ?_
  refine lv_istore_n (lv' := [(3, .int (Int32.ofNat n6.1)), (2, .ref x4), (1, .int 0), (0, .ref t)]) hx hb dX4_postedBatches_9 rfl hl (by decide) rfl (fun ls hl => ?_)
  refine lv_iconst (v := 0) hx hb dX4_postedBatches_10 (by decide) ?_
  refine lv_istore (lv' := [(4, .int 0), (3, .int (Int32.ofNat n6.1)), (2, .ref x4), (1, .int 0), (0, .ref t)]) hx hb dX4_postedBatches_11 hl (by decide) rfl (fun ls hl => ?_)
  have hl := lv_sub (l' := [(1, .int 0), (2, .ref x4), (3, .int (Int32.ofNat n6.1)), (4, .int 0)]) hl [3, 2, 1, 0] rfl
  exact lX4_postedBatches_13 hl0 CX post px _ _ 0 x4 (Int32.ofNat n6.1) 0 _ _ hw hP hS ls hl
abbrev rmX4_unpaidInvoices : Room := { frames := 0, cells := 0, slots := 0, locals := 0 }
abbrev cxX4_unpaidInvoices (p : Program) (s : State) (m : MethodId) (args : Array Value) (meth : Method) (c : Code) (D : va_G) (AC : Nat → ClassId) (sa : gh_SA) (A : Nat → Prop) : Prop := CallFix p m c prog_1_method_37_code 6 s args wsX4_unpaidInvoices "OwnerLedger" ∧ meth.sig.returnType = (some .int) ∧ meth.locks = false ∧ c.exceptionTable.toList = [] ∧ va_K D vwCl (gh_ty AC) s ∧ gh_En sa A s s.heap ∧ (∀ q, s.heap.size ≤ q → A q)
def wX4_unpaidInvoices_13 (post : Int32 → gh_H → Prop) (px : String → gh_H → Prop) : Nat → gh_H → Int32 → Nat → Int32 → Int32 → Prop
  | 0 => fun _ _ _ _ _ => False
  | n + 1 => fun G v1 v2 v3 v4 => (v3 ≤ v4 → (post v1 G)) ∧ (¬ v3 ≤ v4 → (∃ (k6 n2 : Nat) (f3 : Nat → Option Nat), G v2 = some (.inl (k6, n2, .inr (.inr (.inr (.inr f3))))) ∧ gh_isq k6 = true ∧ vp_in v4 n2 ∧ (∀ o8 : Option Nat, o8 = f3 v4.toNatClampNeg → (o8 = none → (wX4_unpaidInvoices_13 post px n G v1 v2 v3 (v4 + 1))) ∧ (∀ a10 : Nat, o8 = some a10 → (∃ (fs11 : List Value) (x14 : Int64), G a10 = some (.inr (1, fs11)) ∧ fs11[2]? = some (.long x14) ∧ (((lg_cmp x14 0) ≤ 0 → (wX4_unpaidInvoices_13 post px n G v1 v2 v3 (v4 + 1))) ∧ (¬ (lg_cmp x14 0) ≤ 0 → (wX4_unpaidInvoices_13 post px n G (v1 + 1) v2 v3 (v4 + 1)))))))))
set_option maxRecDepth 100000 in
set_option maxHeartbeats 4000000 in
theorem lX4_unpaidInvoices_13 {p : Program} {l : Launch} {e : Env} {s : State} {m : MethodId} {args : Array Value} {below : List Frame} {meth : Method} {c : Code} {D : va_G} {AC : Nat → ClassId} {sa : gh_SA} {A : Nat → Prop} (hl0 : l.stackTraces = false) (CX : cxX4_unpaidInvoices p s m args meth c D AC sa A) (post : Int32 → gh_H → Prop) (px : String → gh_H → Prop) : ∀ n : Nat, ∀ (G : gh_H) (v1 : Int32) (v2 : Nat) (v3 : Int32) (v4 : Int32) (H : Heap) (locs : List Loc), wX4_unpaidInvoices_13 post px n G v1 v2 v3 v4 → gh_h D vwCl AC A G H → va_S A s.heap H locs → ∀ ls : Array Slot, lv_has ls 6 [(1, .int v1), (2, .ref v2), (3, .int v3), (4, .int v4)] → W p l e rmX4_unpaidInvoices s m args below meth c H locs 0 0 (vx_MQ below (va_Qi post (gh_B D vwCl AC A) A) (gh_X D vwCl AC px A) args s 0 0 A) (F0 m 13 ls []) := by
  obtain ⟨⟨hx, hb, hml, hown, hts⟩, hr, hlocks, htb, hK, hE, hA⟩ := id CX
  have hno : ∀ (pc : Nat), ∀ x ∈ c.exceptionTable.toList, covers x pc = false := by rw [htb]; intro _ _ h; cases h
  intro n
  induction n with
  | zero =>
    intro G v1 v2 v3 v4 H locs hw
    exact False.elim hw
  | succ n ih =>
    intro G v1 v2 v3 v4 H locs hw hP hS ls hl
    dsimp only [wX4_unpaidInvoices_13] at hw
    refine lv_iload hx hb dX4_unpaidInvoices_13 (lv_at hl 3 rfl) ?_
    refine lv_iload_n hx hb dX4_unpaidInvoices_15 rfl (lv_at hl 2 rfl) ?_
    refine lv_icmp_ge (tgt := 49) hx hb dX4_unpaidInvoices_16 (by decide) (fun c1 => ?_) (fun c1 => ?_)
    · replace hw := hw.1 c1
      refine lv_iload_n hx hb dX4_unpaidInvoices_49 rfl (lv_at hl 0 rfl) ?_
      exact gh_iret hx hb hr hlocks hw hP hS (Nat.le_of_ble_eq_true rfl) (Nat.le_of_ble_eq_true rfl) dX4_unpaidInvoices_50
    · replace hw := hw.2 c1
      refine lv_aload_n hx hb dX4_unpaidInvoices_19 rfl (lv_at hl 1 rfl) ?_
      refine lv_iload hx hb dX4_unpaidInvoices_20 (lv_at hl 3 rfl) ?_
      obtain ⟨k6, n2, f3, he4, hk7, hi5, hw⟩ := hw
      obtain ⟨C9, ht9⟩ := gh_tyq AC hk7
      refine gh_aald hx hb hK hP he4 ht9 hi5 dX4_unpaidInvoices_22 ?_
      obtain ⟨o8, eo9⟩ : ∃ z : Option Nat, z = f3 (Int32.toNatClampNeg v4) := ⟨_, rfl⟩
      rw [← eo9]
      replace hw := hw o8 eo9
      refine gh_astore (lv' := [(5, va_rf o8), (1, .int v1), (2, .ref v2), (3, .int v3), (4, .int v4)]) hx hb dX4_unpaidInvoices_23 hl (by decide) rfl (fun ls hl => ?_)
      refine gh_aload hx hb dX4_unpaidInvoices_25 (lv_at hl 0 rfl) ?_
      rcases o8 with _ | a10
      · replace hw := hw.1 rfl
        have hl : lv_has ls 6 [(5, .null), (1, .int v1), (2, .ref v2), (3, .int v3), (4, .int v4)] := hl
        refine lv_ifnullN (tgt := 43) hx hb dX4_unpaidInvoices_27 (by decide) ?_
        refine lv_iinc (v := (v4 + 1)) (lv' := [(4, .int (v4 + 1)), (5, .null), (1, .int v1), (2, .ref v2), (3, .int v3)]) hx hb dX4_unpaidInvoices_43 hl (k := 4) rfl rfl (by decide) rfl (fun ls hl => ?_)
        refine lv_goto (tgt := 13) hx hb dX4_unpaidInvoices_46 (by decide) ?_
        have hl := lv_sub (l' := [(1, .int v1), (2, .ref v2), (3, .int v3), (4, .int (v4 + 1))]) hl [2, 3, 4, 0] rfl
        exact ih _ v1 v2 v3 (v4 + 1) _ _ hw hP hS ls hl
      · replace hw := hw.2 a10 rfl
        have hl : lv_has ls 6 [(5, .ref a10), (1, .int v1), (2, .ref v2), (3, .int v3), (4, .int v4)] := hl
        refine lv_ifnull hx hb dX4_unpaidInvoices_27 ?_
        refine lv_aload hx hb dX4_unpaidInvoices_30 (lv_at hl 0 rfl) ?_
        obtain ⟨fs11, x14, he12, hv13, hw⟩ := hw
        refine gh_get (ci := 1) (v := .long x14) (C := "OwnerLedger$Invoice") (T := TX1) (N := 5) hx hb hts (fun w h => gT_up (inX1 w h)) hown hK hP he12 rfl 2 (by decide) (hts _ (gT_up kw_257)) (fun _ h9 => h9) hv13 dX4_unpaidInvoices_32 ?_
        refine lv_lconst (v := 0) hx hb dX4_unpaidInvoices_35 (by decide) ?_
        refine W.lcmp hx hb dX4_unpaidInvoices_36 ?_
        refine lv_if_le (tgt := 43) hx hb dX4_unpaidInvoices_37 (by decide) (fun c15 => ?_) (fun c15 => ?_)
        · replace hw := hw.1 c15
          refine lv_iinc (v := (v4 + 1)) (lv' := [(4, .int (v4 + 1)), (5, .ref a10), (1, .int v1), (2, .ref v2), (3, .int v3)]) hx hb dX4_unpaidInvoices_43 hl (k := 4) rfl rfl (by decide) rfl (fun ls hl => ?_)
          refine lv_goto (tgt := 13) hx hb dX4_unpaidInvoices_46 (by decide) ?_
          have hl := lv_sub (l' := [(1, .int v1), (2, .ref v2), (3, .int v3), (4, .int (v4 + 1))]) hl [2, 3, 4, 0] rfl
          exact ih _ v1 v2 v3 (v4 + 1) _ _ hw hP hS ls hl
        · replace hw := hw.2 c15
          refine lv_iinc (v := (v1 + 1)) (lv' := [(1, .int (v1 + 1)), (5, .ref a10), (2, .ref v2), (3, .int v3), (4, .int v4)]) hx hb dX4_unpaidInvoices_40 hl (k := 1) rfl rfl (by decide) rfl (fun ls hl => ?_)
          refine lv_iinc (v := (v4 + 1)) (lv' := [(4, .int (v4 + 1)), (1, .int (v1 + 1)), (5, .ref a10), (2, .ref v2), (3, .int v3)]) hx hb dX4_unpaidInvoices_43 hl (k := 4) rfl rfl (by decide) rfl (fun ls hl => ?_)
          refine lv_goto (tgt := 13) hx hb dX4_unpaidInvoices_46 (by decide) ?_
          have hl := lv_sub (l' := [(1, .int (v1 + 1)), (2, .ref v2), (3, .int v3), (4, .int (v4 + 1))]) hl [1, 3, 4, 0] rfl
          exact ih _ (v1 + 1) v2 v3 (v4 + 1) _ _ hw hP hS ls hl
def wX4_unpaidInvoices (post : Int32 → gh_H → Prop) (px : String → gh_H → Prop) (G : gh_H) (t : Nat) : Prop := ∃ (fs1 : List Value) (x4 : Nat), G t = some (.inr (4, fs1)) ∧ fs1[3]? = some (.ref x4) ∧ (∃ (k5 : Nat) (n6 : vp_A), G x4 = some (.inl (k5, n6)) ∧ k5 < 7 ∧ (wX4_unpaidInvoices_13 post px 300 G 0 x4 (Int32.ofNat n6.1) 0))
set_option maxRecDepth 100000 in
set_option maxHeartbeats 4000000 in
theorem mX4_unpaidInvoices (l : Launch) (hl0 : l.stackTraces = false) (D : va_G) (AC : Nat → ClassId) (sa : gh_SA) (t : Nat) (post : Int32 → gh_H → Prop) (px : String → gh_H → Prop) (G : gh_H) (sz : Nat) (hw : wX4_unpaidInvoices post px G t) : vx_Met l yX4_unpaidInvoices wsX4_unpaidInvoices rmX4_unpaidInvoices (gh_Pc D vwCl AC (gh_ty AC) (gh_En sa) G sz [.ref t]) (va_Qi post (gh_B D vwCl AC (gh_A G sz)) (gh_A G sz)) (gh_X D vwCl AC px (gh_A G sz)) 0 0 (gh_A G sz) := by
  refine vx_ofW (cc := prog_1_method_37_code) (maxL := 6) (ret := (some .int)) (by decide) rfl ?_
  intro p e s m args below meth c s₁ B hml hnoh hv
  obtain ⟨rfl, hsz, hP, hK, hE⟩ := hv
  have hx := B.exec
  have hb := B.bytes
  have hr := B.returns
  have hts := atoms_spec (ws := wsX4_unpaidInvoices) B.pre
  have hown : s.vm.findClass "OwnerLedger" = some m.cls := findClass_of_methodNamed B.named
  have hlocks := B.notSynchronized
  have htb : c.exceptionTable.toList = [] := List.eq_nil_iff_forall_not_mem.mpr hnoh
  subst hsz
  have hA : ∀ q, s.heap.size ≤ q → gh_A G s.heap.size q := fun q h => Or.inr h
  generalize gh_A G s.heap.size = A at hP hE hA ⊢
  have hno : ∀ (pc : Nat), ∀ x ∈ c.exceptionTable.toList, covers x pc = false := by rw [htb]; intro _ _ h; cases h
  have CX : cxX4_unpaidInvoices p s m [.ref t].toArray meth c D AC sa A := ⟨⟨hx, hb, hml, hown, hts⟩, hr, hlocks, htb, hK, hE, hA⟩
  have hS : va_S A s.heap s.heap [] := va_S.rf
  have hl := lv_entry ([.ref t]) (n := 6) (Nat.le_of_ble_eq_true rfl)
  rw [lg_entry_eq]
  generalize (lg_sl ([.ref t]) ++ List.replicate (6 - (lg_sl ([.ref t])).length) Slot.unset).toArray = ls at hl ⊢
  have hl : lv_has ls 6 [(0, .ref t)] := hl
  dsimp only [wX4_unpaidInvoices] at hw
  refine lv_iconst (v := 0) hx hb dX4_unpaidInvoices_0 (by decide) ?_
  refine lv_istore_n (lv' := [(1, .int 0), (0, .ref t)]) hx hb dX4_unpaidInvoices_1 rfl hl (by decide) rfl (fun ls hl => ?_)
  refine lv_aload_n hx hb dX4_unpaidInvoices_2 rfl (lv_at hl 1 rfl) ?_
  obtain ⟨fs1, x4, he2, hv3, hw⟩ := hw
  refine gh_get (ci := 4) (v := .ref x4) (C := "OwnerLedger") (T := TX4) (N := 11) hx hb hts (fun w h => gT_up (inX4 w h)) hown hK hP he2 rfl 3 (by decide) (hts _ (gT_up kw_26)) (fun _ h9 => h9) hv3 dX4_unpaidInvoices_3 ?_
  refine lv_astore_n (lv' := [(2, .ref x4), (1, .int 0), (0, .ref t)]) hx hb dX4_unpaidInvoices_6 rfl hl (by decide) rfl (fun ls hl => ?_)
  refine lv_aload_n hx hb dX4_unpaidInvoices_7 rfl (lv_at hl 0 rfl) ?_
  obtain ⟨k5, n6, he8, hk9, hw⟩ := hw
  obtain ⟨ty9, ht9⟩ := gh_tyat AC hk9
  refine gh_alen hx hb hK hP he8 ht9 rfl dX4_unpaidInvoices_8 ?_
  refine lv_istore_n (lv' := [(3, .int (Int32.ofNat n6.1)), (2, .ref x4), (1, .int 0), (0, .ref t)]) hx hb dX4_unpaidInvoices_9 rfl hl (by decide) rfl (fun ls hl => ?_)
  refine lv_iconst (v := 0) hx hb dX4_unpaidInvoices_10 (by decide) ?_
  refine lv_istore (lv' := [(4, .int 0), (3, .int (Int32.ofNat n6.1)), (2, .ref x4), (1, .int 0), (0, .ref t)]) hx hb dX4_unpaidInvoices_11 hl (by decide) rfl (fun ls hl => ?_)
  have hl := lv_sub (l' := [(1, .int 0), (2, .ref x4), (3, .int (Int32.ofNat n6.1)), (4, .int 0)]) hl [3, 2, 1, 0] rfl
  exact lX4_unpaidInvoices_13 hl0 CX post px _ _ 0 x4 (Int32.ofNat n6.1) 0 _ _ hw hP hS ls hl
abbrev rmX4_heldOwners : Room := { frames := 0, cells := 0, slots := 0, locals := 0 }
abbrev cxX4_heldOwners (p : Program) (s : State) (m : MethodId) (args : Array Value) (meth : Method) (c : Code) (D : va_G) (AC : Nat → ClassId) (sa : gh_SA) (A : Nat → Prop) : Prop := CallFix p m c prog_1_method_38_code 6 s args wsX4_heldOwners "OwnerLedger" ∧ meth.sig.returnType = (some .int) ∧ meth.locks = false ∧ c.exceptionTable.toList = [] ∧ va_K D vwCl (gh_ty AC) s ∧ gh_En sa A s s.heap ∧ (∀ q, s.heap.size ≤ q → A q)
def wX4_heldOwners_13 (post : Int32 → gh_H → Prop) (px : String → gh_H → Prop) : Nat → gh_H → Int32 → Nat → Int32 → Int32 → Prop
  | 0 => fun _ _ _ _ _ => False
  | n + 1 => fun G v1 v2 v3 v4 => (v3 ≤ v4 → (post v1 G)) ∧ (¬ v3 ≤ v4 → (∃ (k6 n2 : Nat) (f3 : Nat → Option Nat), G v2 = some (.inl (k6, n2, .inr (.inr (.inr (.inr f3))))) ∧ gh_isq k6 = true ∧ vp_in v4 n2 ∧ (∀ o8 : Option Nat, o8 = f3 v4.toNatClampNeg → (o8 = none → (wX4_heldOwners_13 post px n G v1 v2 v3 (v4 + 1))) ∧ (∀ a10 : Nat, o8 = some a10 → (∃ (fs11 : List Value) (x14 : Int32), G a10 = some (.inr (2, fs11)) ∧ fs11[1]? = some (.int x14) ∧ ((x14 = 0 → (wX4_heldOwners_13 post px n G v1 v2 v3 (v4 + 1))) ∧ (¬ x14 = 0 → (wX4_heldOwners_13 post px n G (v1 + 1) v2 v3 (v4 + 1)))))))))
set_option maxRecDepth 100000 in
set_option maxHeartbeats 4000000 in
theorem lX4_heldOwners_13 {p : Program} {l : Launch} {e : Env} {s : State} {m : MethodId} {args : Array Value} {below : List Frame} {meth : Method} {c : Code} {D : va_G} {AC : Nat → ClassId} {sa : gh_SA} {A : Nat → Prop} (hl0 : l.stackTraces = false) (CX : cxX4_heldOwners p s m args meth c D AC sa A) (post : Int32 → gh_H → Prop) (px : String → gh_H → Prop) : ∀ n : Nat, ∀ (G : gh_H) (v1 : Int32) (v2 : Nat) (v3 : Int32) (v4 : Int32) (H : Heap) (locs : List Loc), wX4_heldOwners_13 post px n G v1 v2 v3 v4 → gh_h D vwCl AC A G H → va_S A s.heap H locs → ∀ ls : Array Slot, lv_has ls 6 [(1, .int v1), (2, .ref v2), (3, .int v3), (4, .int v4)] → W p l e rmX4_heldOwners s m args below meth c H locs 0 0 (vx_MQ below (va_Qi post (gh_B D vwCl AC A) A) (gh_X D vwCl AC px A) args s 0 0 A) (F0 m 13 ls []) := by
  obtain ⟨⟨hx, hb, hml, hown, hts⟩, hr, hlocks, htb, hK, hE, hA⟩ := id CX
  have hno : ∀ (pc : Nat), ∀ x ∈ c.exceptionTable.toList, covers x pc = false := by rw [htb]; intro _ _ h; cases h
  intro n
  induction n with
  | zero =>
    intro G v1 v2 v3 v4 H locs hw
    exact False.elim hw
  | succ n ih =>
    intro G v1 v2 v3 v4 H locs hw hP hS ls hl
    dsimp only [wX4_heldOwners_13] at hw
    refine lv_iload hx hb dX4_heldOwners_13 (lv_at hl 3 rfl) ?_
    refine lv_iload_n hx hb dX4_heldOwners_15 rfl (lv_at hl 2 rfl) ?_
    refine lv_icmp_ge (tgt := 47) hx hb dX4_heldOwners_16 (by decide) (fun c1 => ?_) (fun c1 => ?_)
    · replace hw := hw.1 c1
      refine lv_iload_n hx hb dX4_heldOwners_47 rfl (lv_at hl 0 rfl) ?_
      exact gh_iret hx hb hr hlocks hw hP hS (Nat.le_of_ble_eq_true rfl) (Nat.le_of_ble_eq_true rfl) dX4_heldOwners_48
    · replace hw := hw.2 c1
      refine lv_aload_n hx hb dX4_heldOwners_19 rfl (lv_at hl 1 rfl) ?_
      refine lv_iload hx hb dX4_heldOwners_20 (lv_at hl 3 rfl) ?_
      obtain ⟨k6, n2, f3, he4, hk7, hi5, hw⟩ := hw
      obtain ⟨C9, ht9⟩ := gh_tyq AC hk7
      refine gh_aald hx hb hK hP he4 ht9 hi5 dX4_heldOwners_22 ?_
      obtain ⟨o8, eo9⟩ : ∃ z : Option Nat, z = f3 (Int32.toNatClampNeg v4) := ⟨_, rfl⟩
      rw [← eo9]
      replace hw := hw o8 eo9
      refine gh_astore (lv' := [(5, va_rf o8), (1, .int v1), (2, .ref v2), (3, .int v3), (4, .int v4)]) hx hb dX4_heldOwners_23 hl (by decide) rfl (fun ls hl => ?_)
      refine gh_aload hx hb dX4_heldOwners_25 (lv_at hl 0 rfl) ?_
      rcases o8 with _ | a10
      · replace hw := hw.1 rfl
        have hl : lv_has ls 6 [(5, .null), (1, .int v1), (2, .ref v2), (3, .int v3), (4, .int v4)] := hl
        refine lv_ifnullN (tgt := 41) hx hb dX4_heldOwners_27 (by decide) ?_
        refine lv_iinc (v := (v4 + 1)) (lv' := [(4, .int (v4 + 1)), (5, .null), (1, .int v1), (2, .ref v2), (3, .int v3)]) hx hb dX4_heldOwners_41 hl (k := 4) rfl rfl (by decide) rfl (fun ls hl => ?_)
        refine lv_goto (tgt := 13) hx hb dX4_heldOwners_44 (by decide) ?_
        have hl := lv_sub (l' := [(1, .int v1), (2, .ref v2), (3, .int v3), (4, .int (v4 + 1))]) hl [2, 3, 4, 0] rfl
        exact ih _ v1 v2 v3 (v4 + 1) _ _ hw hP hS ls hl
      · replace hw := hw.2 a10 rfl
        have hl : lv_has ls 6 [(5, .ref a10), (1, .int v1), (2, .ref v2), (3, .int v3), (4, .int v4)] := hl
        refine lv_ifnull hx hb dX4_heldOwners_27 ?_
        refine lv_aload hx hb dX4_heldOwners_30 (lv_at hl 0 rfl) ?_
        obtain ⟨fs11, x14, he12, hv13, hw⟩ := hw
        refine gh_get (ci := 2) (v := .int x14) (C := "OwnerLedger$Owner") (T := TX2) (N := 2) hx hb hts (fun w h => gT_up (inX2 w h)) hown hK hP he12 rfl 1 (by decide) (hts _ (gT_up kw_70)) (fun _ h9 => h9) hv13 dX4_heldOwners_32 ?_
        refine lv_if_eq (tgt := 41) hx hb dX4_heldOwners_35 (by decide) (fun c15 => ?_) (fun c15 => ?_)
        · replace hw := hw.1 c15
          refine lv_iinc (v := (v4 + 1)) (lv' := [(4, .int (v4 + 1)), (5, .ref a10), (1, .int v1), (2, .ref v2), (3, .int v3)]) hx hb dX4_heldOwners_41 hl (k := 4) rfl rfl (by decide) rfl (fun ls hl => ?_)
          refine lv_goto (tgt := 13) hx hb dX4_heldOwners_44 (by decide) ?_
          have hl := lv_sub (l' := [(1, .int v1), (2, .ref v2), (3, .int v3), (4, .int (v4 + 1))]) hl [2, 3, 4, 0] rfl
          exact ih _ v1 v2 v3 (v4 + 1) _ _ hw hP hS ls hl
        · replace hw := hw.2 c15
          refine lv_iinc (v := (v1 + 1)) (lv' := [(1, .int (v1 + 1)), (5, .ref a10), (2, .ref v2), (3, .int v3), (4, .int v4)]) hx hb dX4_heldOwners_38 hl (k := 1) rfl rfl (by decide) rfl (fun ls hl => ?_)
          refine lv_iinc (v := (v4 + 1)) (lv' := [(4, .int (v4 + 1)), (1, .int (v1 + 1)), (5, .ref a10), (2, .ref v2), (3, .int v3)]) hx hb dX4_heldOwners_41 hl (k := 4) rfl rfl (by decide) rfl (fun ls hl => ?_)
          refine lv_goto (tgt := 13) hx hb dX4_heldOwners_44 (by decide) ?_
          have hl := lv_sub (l' := [(1, .int (v1 + 1)), (2, .ref v2), (3, .int v3), (4, .int (v4 + 1))]) hl [1, 3, 4, 0] rfl
          exact ih _ (v1 + 1) v2 v3 (v4 + 1) _ _ hw hP hS ls hl
def wX4_heldOwners (post : Int32 → gh_H → Prop) (px : String → gh_H → Prop) (G : gh_H) (t : Nat) : Prop := ∃ (fs1 : List Value) (x4 : Nat), G t = some (.inr (4, fs1)) ∧ fs1[0]? = some (.ref x4) ∧ (∃ (k5 : Nat) (n6 : vp_A), G x4 = some (.inl (k5, n6)) ∧ k5 < 7 ∧ (wX4_heldOwners_13 post px 300 G 0 x4 (Int32.ofNat n6.1) 0))
set_option maxRecDepth 100000 in
set_option maxHeartbeats 4000000 in
theorem mX4_heldOwners (l : Launch) (hl0 : l.stackTraces = false) (D : va_G) (AC : Nat → ClassId) (sa : gh_SA) (t : Nat) (post : Int32 → gh_H → Prop) (px : String → gh_H → Prop) (G : gh_H) (sz : Nat) (hw : wX4_heldOwners post px G t) : vx_Met l yX4_heldOwners wsX4_heldOwners rmX4_heldOwners (gh_Pc D vwCl AC (gh_ty AC) (gh_En sa) G sz [.ref t]) (va_Qi post (gh_B D vwCl AC (gh_A G sz)) (gh_A G sz)) (gh_X D vwCl AC px (gh_A G sz)) 0 0 (gh_A G sz) := by
  refine vx_ofW (cc := prog_1_method_38_code) (maxL := 6) (ret := (some .int)) (by decide) rfl ?_
  intro p e s m args below meth c s₁ B hml hnoh hv
  obtain ⟨rfl, hsz, hP, hK, hE⟩ := hv
  have hx := B.exec
  have hb := B.bytes
  have hr := B.returns
  have hts := atoms_spec (ws := wsX4_heldOwners) B.pre
  have hown : s.vm.findClass "OwnerLedger" = some m.cls := findClass_of_methodNamed B.named
  have hlocks := B.notSynchronized
  have htb : c.exceptionTable.toList = [] := List.eq_nil_iff_forall_not_mem.mpr hnoh
  subst hsz
  have hA : ∀ q, s.heap.size ≤ q → gh_A G s.heap.size q := fun q h => Or.inr h
  generalize gh_A G s.heap.size = A at hP hE hA ⊢
  have hno : ∀ (pc : Nat), ∀ x ∈ c.exceptionTable.toList, covers x pc = false := by rw [htb]; intro _ _ h; cases h
  have CX : cxX4_heldOwners p s m [.ref t].toArray meth c D AC sa A := ⟨⟨hx, hb, hml, hown, hts⟩, hr, hlocks, htb, hK, hE, hA⟩
  have hS : va_S A s.heap s.heap [] := va_S.rf
  have hl := lv_entry ([.ref t]) (n := 6) (Nat.le_of_ble_eq_true rfl)
  rw [lg_entry_eq]
  generalize (lg_sl ([.ref t]) ++ List.replicate (6 - (lg_sl ([.ref t])).length) Slot.unset).toArray = ls at hl ⊢
  have hl : lv_has ls 6 [(0, .ref t)] := hl
  dsimp only [wX4_heldOwners] at hw
  refine lv_iconst (v := 0) hx hb dX4_heldOwners_0 (by decide) ?_
  refine lv_istore_n (lv' := [(1, .int 0), (0, .ref t)]) hx hb dX4_heldOwners_1 rfl hl (by decide) rfl (fun ls hl => ?_)
  refine lv_aload_n hx hb dX4_heldOwners_2 rfl (lv_at hl 1 rfl) ?_
  obtain ⟨fs1, x4, he2, hv3, hw⟩ := hw
  refine gh_get (ci := 4) (v := .ref x4) (C := "OwnerLedger") (T := TX4) (N := 11) hx hb hts (fun w h => gT_up (inX4 w h)) hown hK hP he2 rfl 0 (by decide) (hts _ (gT_up kw_23)) (fun _ h9 => h9) hv3 dX4_heldOwners_3 ?_
  refine lv_astore_n (lv' := [(2, .ref x4), (1, .int 0), (0, .ref t)]) hx hb dX4_heldOwners_6 rfl hl (by decide) rfl (fun ls hl => ?_)
  refine lv_aload_n hx hb dX4_heldOwners_7 rfl (lv_at hl 0 rfl) ?_
  obtain ⟨k5, n6, he8, hk9, hw⟩ := hw
  obtain ⟨ty9, ht9⟩ := gh_tyat AC hk9
  refine gh_alen hx hb hK hP he8 ht9 rfl dX4_heldOwners_8 ?_
  refine lv_istore_n (lv' := [(3, .int (Int32.ofNat n6.1)), (2, .ref x4), (1, .int 0), (0, .ref t)]) hx hb dX4_heldOwners_9 rfl hl (by decide) rfl (fun ls hl => ?_)
  refine lv_iconst (v := 0) hx hb dX4_heldOwners_10 (by decide) ?_
  refine lv_istore (lv' := [(4, .int 0), (3, .int (Int32.ofNat n6.1)), (2, .ref x4), (1, .int 0), (0, .ref t)]) hx hb dX4_heldOwners_11 hl (by decide) rfl (fun ls hl => ?_)
  have hl := lv_sub (l' := [(1, .int 0), (2, .ref x4), (3, .int (Int32.ofNat n6.1)), (4, .int 0)]) hl [3, 2, 1, 0] rfl
  exact lX4_heldOwners_13 hl0 CX post px _ _ 0 x4 (Int32.ofNat n6.1) 0 _ _ hw hP hS ls hl
