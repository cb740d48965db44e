abbrev rmX5_month : Room := { frames := 0, cells := 0, slots := 0, locals := 0 }
abbrev cxX5_month (p : Program) (s : State) (m : MethodId) (args : Array Value) (meth : Method) (c : Code) (D : va_G) (AC : Nat → ClassId) (sa : gh_SA) (A : Nat → Prop) : Prop := CallFix p m c prog_7_method_14_code 2 s args wsX5_month "OwnerLedgerModel" ∧ meth.sig.returnType = none ∧ meth.locks = false ∧ c.exceptionTable.toList = [] ∧ va_K D vwCl (gh_ty AC) s ∧ gh_En sa A s s.heap ∧ (∀ q, s.heap.size ≤ q → A q)
def wX5_month_20 (post : gh_H → Prop) (px : String → gh_H → Prop) (G : gh_H) (t : Nat) (p0 : Int32) (s0 : Nat) (s1 : Int32) : Prop := ∃ fs1 : List Value, G s0 = some (.inr (5, fs1)) ∧ 0 < fs1.length ∧ (∀ G4 : gh_H, G4 = gh_up G s0 (.inr (5, fs1.set 0 (.int s1))) → ∃ (fs6 : List Value) (x9 : Int32), G4 t = some (.inr (5, fs6)) ∧ fs6[0]? = some (.int x9) ∧ ((¬ x9 = 0 → (post G4)) ∧ (x9 = 0 → (∃ fs11 : List Value, G4 t = some (.inr (5, fs11)) ∧ 1 < fs11.length ∧ (∀ G14 : gh_H, G14 = gh_up G4 t (.inr (5, fs11.set 1 (.int p0))) → post G14)))))
set_option maxRecDepth 100000 in
set_option maxHeartbeats 4000000 in
theorem lX5_month_20 {p : Program} {l : Launch} {e : Env} {s : State} {m : MethodId} {args : Array Value} {below : List Frame} {meth : Method} {c : Code} {D : va_G} {AC : Nat → ClassId} {sa : gh_SA} {A : Nat → Prop} (hl0 : l.stackTraces = false) (CX : cxX5_month p s m args meth c D AC sa A) (post : gh_H → Prop) (px : String → gh_H → Prop) : ∀ (G : gh_H) (t : Nat) (p0 : Int32) (s0 : Nat) (s1 : Int32) (H : Heap) (locs : List Loc), wX5_month_20 post px G t p0 s0 s1 → gh_h D vwCl AC A G H → va_S A s.heap H locs → ∀ ls : Array Slot, lv_has ls 2 [(0, .ref t), (1, .int p0)] → W p l e rmX5_month s m args below meth c H locs 0 0 (vx_MQ below (va_Qv post (gh_B D vwCl AC A) A) (gh_X D vwCl AC px A) args s 0 0 A) (F0 m 20 ls [.int s1, .ref s0]) := by
  obtain ⟨⟨hx, hb, hml, hown, hts⟩, hr, hlocks, htb, hK, hE, hA⟩ := id CX
  have hno : ∀ (pc : Nat), ∀ x ∈ c.exceptionTable.toList, covers x pc = false := by rw [htb]; intro _ _ h; cases h
  intro G t p0 s0 s1 H locs hw hP hS ls hl
  dsimp only [wX5_month_20] at hw
  obtain ⟨fs1, he2, hk3, hw⟩ := hw
  refine gh_put (ci := 5) (v := .int s1) (ty := .int) (C := "OwnerLedgerModel") (T := TX5) (N := 24) hx hb hts (fun w h => gT_up (inX5 w h)) tyX5 tyX5_ok nmX5 hown hK hP hS he2 rfl 0 (by decide) (hts _ (gT_up kw_372)) (fun _ h9 => h9) rfl (by decide +kernel) rfl rfl hk3 dX5_month_20 (fun G4 H locs eG5 hP hS => ?_)
  replace hw := hw G4 eG5
  refine lv_aload_n hx hb dX5_month_23 rfl (lv_at hl 0 rfl) ?_
  obtain ⟨fs6, x9, he7, hv8, hw⟩ := hw
  refine gh_get (ci := 5) (v := .int x9) (C := "OwnerLedgerModel") (T := TX5) (N := 24) hx hb hts (fun w h => gT_up (inX5 w h)) hown hK hP he7 rfl 0 (by decide) (hts _ (gT_up kw_372)) (fun _ h9 => h9) hv8 dX5_month_24 ?_
  refine lv_if_ne (tgt := 35) hx hb dX5_month_27 (by decide) (fun c10 => ?_) (fun c10 => ?_)
  · replace hw := hw.1 c10
    exact gh_vret hx hb hr hlocks hw hP hS (Nat.le_of_ble_eq_true rfl) (Nat.le_of_ble_eq_true rfl) dX5_month_35
  · replace hw := hw.2 c10
    refine lv_aload_n hx hb dX5_month_30 rfl (lv_at hl 0 rfl) ?_
    refine lv_iload_n hx hb dX5_month_31 rfl (lv_at hl 1 rfl) ?_
    obtain ⟨fs11, he12, hk13, hw⟩ := hw
    refine gh_put (ci := 5) (v := .int p0) (ty := .int) (C := "OwnerLedgerModel") (T := TX5) (N := 24) hx hb hts (fun w h => gT_up (inX5 w h)) tyX5 tyX5_ok nmX5 hown hK hP hS he12 rfl 1 (by decide) (hts _ (gT_up kw_373)) (fun _ h9 => h9) rfl (by decide +kernel) rfl rfl hk13 dX5_month_32 (fun G14 H locs eG15 hP hS => ?_)
    replace hw := hw G14 eG15
    exact gh_vret hx hb hr hlocks hw hP hS (Nat.le_of_ble_eq_true rfl) (Nat.le_of_ble_eq_true rfl) dX5_month_35
def wX5_month (post : gh_H → Prop) (px : String → gh_H → Prop) (G : gh_H) (t : Nat) (p0 : Int32) : Prop := ∃ (fs1 : List Value) (x4 : Int32), G t = some (.inr (5, fs1)) ∧ fs1[1]? = some (.int x4) ∧ ((p0 < x4 → (wX5_month_20 post px G t p0 t 1)) ∧ (¬ p0 < x4 → ((p0 ≤ 120 → (wX5_month_20 post px G t p0 t 0)) ∧ (¬ p0 ≤ 120 → (wX5_month_20 post px G t p0 t 1)))))
set_option maxRecDepth 100000 in
set_option maxHeartbeats 4000000 in
theorem mX5_month (l : Launch) (hl0 : l.stackTraces = false) (D : va_G) (AC : Nat → ClassId) (sa : gh_SA) (t : Nat) (p0 : Int32) (post : gh_H → Prop) (px : String → gh_H → Prop) (G : gh_H) (sz : Nat) (hw : wX5_month post px G t p0) : vx_Met l yX5_month wsX5_month rmX5_month (gh_Pc D vwCl AC (gh_ty AC) (gh_En sa) G sz [.ref t, .int p0]) (va_Qv post (gh_B D vwCl AC (gh_A G sz)) (gh_A G sz)) (gh_X D vwCl AC px (gh_A G sz)) 0 0 (gh_A G sz) := by
  refine vx_ofW (cc := prog_7_method_14_code) (maxL := 2) (ret := none) (by decide) rfl ?_
  intro p e s m args below meth c s₁ B hml hnoh hv
  obtain ⟨rfl, hsz, hP, hK, hE⟩ := hv
  have hx := B.exec
  have hb := B.bytes
  have hr := B.returns
  have hts := atoms_spec (ws := wsX5_month) B.pre
  have hown : s.vm.findClass "OwnerLedgerModel" = some m.cls := findClass_of_methodNamed B.named
  have hlocks := B.notSynchronized
  have htb : c.exceptionTable.toList = [] := List.eq_nil_iff_forall_not_mem.mpr hnoh
  subst hsz
  have hA : ∀ q, s.heap.size ≤ q → gh_A G s.heap.size q := fun q h => Or.inr h
  generalize gh_A G s.heap.size = A at hP hE hA ⊢
  have hno : ∀ (pc : Nat), ∀ x ∈ c.exceptionTable.toList, covers x pc = false := by rw [htb]; intro _ _ h; cases h
  have CX : cxX5_month p s m [.ref t, .int p0].toArray meth c D AC sa A := ⟨⟨hx, hb, hml, hown, hts⟩, hr, hlocks, htb, hK, hE, hA⟩
  have hS : va_S A s.heap s.heap [] := va_S.rf
  have hl := lv_entry ([.ref t, .int p0]) (n := 2) (Nat.le_of_ble_eq_true rfl)
  rw [lg_entry_eq]
  generalize (lg_sl ([.ref t, .int p0]) ++ List.replicate (2 - (lg_sl ([.ref t, .int p0])).length) Slot.unset).toArray = ls at hl ⊢
  have hl : lv_has ls 2 [(0, .ref t), (1, .int p0)] := hl
  dsimp only [wX5_month] at hw
  refine lv_aload_n hx hb dX5_month_0 rfl (lv_at hl 0 rfl) ?_
  refine lv_iload_n hx hb dX5_month_1 rfl (lv_at hl 1 rfl) ?_
  refine lv_aload_n hx hb dX5_month_2 rfl (lv_at hl 0 rfl) ?_
  obtain ⟨fs1, x4, he2, hv3, hw⟩ := hw
  refine gh_get (ci := 5) (v := .int x4) (C := "OwnerLedgerModel") (T := TX5) (N := 24) hx hb hts (fun w h => gT_up (inX5 w h)) hown hK hP he2 rfl 1 (by decide) (hts _ (gT_up kw_373)) (fun _ h9 => h9) hv3 dX5_month_3 ?_
  refine lv_icmp_lt (tgt := 15) hx hb dX5_month_6 (by decide) (fun c5 => ?_) (fun c5 => ?_)
  · replace hw := hw.1 c5
    refine lv_iconst (v := 1) hx hb dX5_month_15 (by decide) ?_
    refine lv_goto (tgt := 20) hx hb dX5_month_16 (by decide) ?_
    have hl := lv_sub (l' := [(0, .ref t), (1, .int p0)]) hl [0, 1] rfl
    exact lX5_month_20 hl0 CX post px _ t p0 t 1 _ _ hw hP hS ls hl
  · replace hw := hw.2 c5
    refine lv_iload_n hx hb dX5_month_9 rfl (lv_at hl 1 rfl) ?_
    refine lv_bipush (v := 120) hx hb dX5_month_10 (by decide) ?_
    refine lv_icmp_le (tgt := 19) hx hb dX5_month_12 (by decide) (fun c6 => ?_) (fun c6 => ?_)
    · replace hw := hw.1 c6
      refine lv_iconst (v := 0) hx hb dX5_month_19 (by decide) ?_
      have hl := lv_sub (l' := [(0, .ref t), (1, .int p0)]) hl [0, 1] rfl
      exact lX5_month_20 hl0 CX post px _ t p0 t 0 _ _ hw hP hS ls hl
    · replace hw := hw.2 c6
      refine lv_iconst (v := 1) hx hb dX5_month_15 (by decide) ?_
      refine lv_goto (tgt := 20) hx hb dX5_month_16 (by decide) ?_
      have hl := lv_sub (l' := [(0, .ref t), (1, .int p0)]) hl [0, 1] rfl
      exact lX5_month_20 hl0 CX post px _ t p0 t 1 _ _ hw hP hS ls hl
abbrev rmX5_close : Room := { frames := 1, cells := 0, slots := 0, locals := 25 }
abbrev cxX5_close (p : Program) (s : State) (m : MethodId) (args : Array Value) (meth : Method) (c : Code) (D : va_G) (AC : Nat → ClassId) (sa : gh_SA) (A : Nat → Prop) : Prop := CallFix p m c prog_7_method_15_code 3 s args wsX5_close "OwnerLedgerModel" ∧ meth.sig.returnType = (some .int) ∧ meth.locks = false ∧ c.exceptionTable.toList = [] ∧ va_K D vwCl (gh_ty AC) s ∧ gh_En sa A s s.heap ∧ (∀ q, s.heap.size ≤ q → A q)
def wX5_close_32 (post : Int32 → gh_H → Prop) (px : String → gh_H → Prop) (G : gh_H) (t : Nat) (p0 : Int32) (s0 : Nat) (s1 : Int32) : Prop := ∃ fs1 : List Value, G s0 = some (.inr (5, fs1)) ∧ 0 < fs1.length ∧ (∀ G4 : gh_H, G4 = gh_up G s0 (.inr (5, fs1.set 0 (.int s1))) → ∃ (fs6 : List Value) (x9 : Int32), G4 t = some (.inr (5, fs6)) ∧ fs6[0]? = some (.int x9) ∧ ((x9 = 0 → (∃ (fs11 : List Value) (x14 : Int32), G4 t = some (.inr (5, fs11)) ∧ fs11[2]? = some (.int x14) ∧ (∃ fs15 : List Value, G4 t = some (.inr (5, fs15)) ∧ 2 < fs15.length ∧ (∀ G18 : gh_H, G18 = gh_up G4 t (.inr (5, fs15.set 2 (.int p0))) → post (p0 - x14) G18)))) ∧ (¬ x9 = 0 → (post 0 G4))))
set_option maxRecDepth 100000 in
set_option maxHeartbeats 4000000 in
theorem lX5_close_32 {p : Program} {l : Launch} {e : Env} {s : State} {m : MethodId} {args : Array Value} {below : List Frame} {meth : Method} {c : Code} {D : va_G} {AC : Nat → ClassId} {sa : gh_SA} {A : Nat → Prop} (hl0 : l.stackTraces = false) (CX : cxX5_close p s m args meth c D AC sa A) (post : Int32 → gh_H → Prop) (px : String → gh_H → Prop) : ∀ (G : gh_H) (t : Nat) (p0 : Int32) (s0 : Nat) (s1 : Int32) (H : Heap) (locs : List Loc), wX5_close_32 post px G t p0 s0 s1 → gh_h D vwCl AC A G H → va_S A s.heap H locs → ∀ ls : Array Slot, lv_has ls 3 [(0, .ref t), (1, .int p0)] → W p l e rmX5_close s m args below meth c H locs 0 0 (vx_MQ below (va_Qi post (gh_B D vwCl AC A) A) (gh_X D vwCl AC px A) args s 0 0 A) (F0 m 32 ls [.int s1, .ref s0]) := by
  obtain ⟨⟨hx, hb, hml, hown, hts⟩, hr, hlocks, htb, hK, hE, hA⟩ := id CX
  have hno : ∀ (pc : Nat), ∀ x ∈ c.exceptionTable.toList, covers x pc = false := by rw [htb]; intro _ _ h; cases h
  intro G t p0 s0 s1 H locs hw hP hS ls hl
  dsimp only [wX5_close_32] at hw
  obtain ⟨fs1, he2, hk3, hw⟩ := hw
  refine gh_put (ci := 5) (v := .int s1) (ty := .int) (C := "OwnerLedgerModel") (T := TX5) (N := 24) hx hb hts (fun w h => gT_up (inX5 w h)) tyX5 tyX5_ok nmX5 hown hK hP hS he2 rfl 0 (by decide) (hts _ (gT_up kw_372)) (fun _ h9 => h9) rfl (by decide +kernel) rfl rfl hk3 dX5_close_32 (fun G4 H locs eG5 hP hS => ?_)
  replace hw := hw G4 eG5
  refine lv_aload_n hx hb dX5_close_35 rfl (lv_at hl 0 rfl) ?_
  obtain ⟨fs6, x9, he7, hv8, hw⟩ := hw
  refine gh_get (ci := 5) (v := .int x9) (C := "OwnerLedgerModel") (T := TX5) (N := 24) hx hb hts (fun w h => gT_up (inX5 w h)) hown hK hP he7 rfl 0 (by decide) (hts _ (gT_up kw_372)) (fun _ h9 => h9) hv8 dX5_close_36 ?_
  refine lv_if_eq (tgt := 44) hx hb dX5_close_39 (by decide) (fun c10 => ?_) (fun c10 => ?_)
  · replace hw := hw.1 c10
    refine lv_iload_n hx hb dX5_close_44 rfl (lv_at hl 1 rfl) ?_
    refine lv_aload_n hx hb dX5_close_45 rfl (lv_at hl 0 rfl) ?_
    obtain ⟨fs11, x14, he12, hv13, hw⟩ := hw
    refine gh_get (ci := 5) (v := .int x14) (C := "OwnerLedgerModel") (T := TX5) (N := 24) hx hb hts (fun w h => gT_up (inX5 w h)) hown hK hP he12 rfl 2 (by decide) (hts _ (gT_up kw_374)) (fun _ h9 => h9) hv13 dX5_close_46 ?_
    refine lv_isub hx hb dX5_close_49 ?_
    refine lv_istore_n (lv' := [(2, .int (p0 - x14)), (0, .ref t), (1, .int p0)]) hx hb dX5_close_50 rfl hl (by decide) rfl (fun ls hl => ?_)
    refine lv_aload_n hx hb dX5_close_51 rfl (lv_at hl 1 rfl) ?_
    refine lv_iload_n hx hb dX5_close_52 rfl (lv_at hl 2 rfl) ?_
    obtain ⟨fs15, he16, hk17, hw⟩ := hw
    refine gh_put (ci := 5) (v := .int p0) (ty := .int) (C := "OwnerLedgerModel") (T := TX5) (N := 24) hx hb hts (fun w h => gT_up (inX5 w h)) tyX5 tyX5_ok nmX5 hown hK hP hS he16 rfl 2 (by decide) (hts _ (gT_up kw_374)) (fun _ h9 => h9) rfl (by decide +kernel) rfl rfl hk17 dX5_close_53 (fun G18 H locs eG19 hP hS => ?_)
    replace hw := hw G18 eG19
    refine lv_iload_n hx hb dX5_close_56 rfl (lv_at hl 0 rfl) ?_
    exact gh_iret hx hb hr hlocks hw hP hS (Nat.le_of_ble_eq_true rfl) (Nat.le_of_ble_eq_true rfl) dX5_close_57
  · replace hw := hw.2 c10
    refine lv_iconst (v := 0) hx hb dX5_close_42 (by decide) ?_
    exact gh_iret hx hb hr hlocks hw hP hS (Nat.le_of_ble_eq_true rfl) (Nat.le_of_ble_eq_true rfl) dX5_close_43
def wX5_close (post : Int32 → gh_H → Prop) (px : String → gh_H → Prop) (G : gh_H) (t : Nat) (p0 : Int32) : Prop := ∃ (fs1 : List Value) (x4 : Int32), G t = some (.inr (5, fs1)) ∧ fs1[1]? = some (.int x4) ∧ (wX5_not (fun r5 G6 => (r5 = 0 → (∃ (fs8 : List Value) (x11 : Int32), G6 t = some (.inr (5, fs8)) ∧ fs8[2]? = some (.int x11) ∧ ((x11 ≤ p0 → (wX5_close_32 post px G6 t p0 t 0)) ∧ (¬ x11 ≤ p0 → (wX5_close_32 post px G6 t p0 t 2))))) ∧ (¬ r5 = 0 → (wX5_close_32 post px G6 t p0 t 1))) px G (Int32.toInt64 p0) 0 (Int32.toInt64 x4))
set_option maxRecDepth 100000 in
set_option maxHeartbeats 4000000 in
theorem mX5_close (l : Launch) (hl0 : l.stackTraces = false) (D : va_G) (AC : Nat → ClassId) (sa : gh_SA) (t : Nat) (p0 : Int32) (post : Int32 → gh_H → Prop) (px : String → gh_H → Prop) (G : gh_H) (sz : Nat) (hw : wX5_close post px G t p0) : vx_Met l yX5_close wsX5_close rmX5_close (gh_Pc D vwCl AC (gh_ty AC) (gh_En sa) G sz [.ref t, .int p0]) (va_Qi post (gh_B D vwCl AC (gh_A G sz)) (gh_A G sz)) (gh_X D vwCl AC px (gh_A G sz)) 0 0 (gh_A G sz) := by
  refine vx_ofW (cc := prog_7_method_15_code) (maxL := 3) (ret := (some .int)) (by decide) rfl ?_
  intro p e s m args below meth c s₁ B hml hnoh hv
  obtain ⟨rfl, hsz, hP, hK, hE⟩ := hv
  have hx := B.exec
  have hb := B.bytes
  have hr := B.returns
  have hts := atoms_spec (ws := wsX5_close) B.pre
  have hown : s.vm.findClass "OwnerLedgerModel" = some m.cls := findClass_of_methodNamed B.named
  have hlocks := B.notSynchronized
  have htb : c.exceptionTable.toList = [] := List.eq_nil_iff_forall_not_mem.mpr hnoh
  subst hsz
  have hA : ∀ q, s.heap.size ≤ q → gh_A G s.heap.size q := fun q h => Or.inr h
  generalize gh_A G s.heap.size = A at hP hE hA ⊢
  have hno : ∀ (pc : Nat), ∀ x ∈ c.exceptionTable.toList, covers x pc = false := by rw [htb]; intro _ _ h; cases h
  have CX : cxX5_close p s m [.ref t, .int p0].toArray meth c D AC sa A := ⟨⟨hx, hb, hml, hown, hts⟩, hr, hlocks, htb, hK, hE, hA⟩
  have hS : va_S A s.heap s.heap [] := va_S.rf
  have hl := lv_entry ([.ref t, .int p0]) (n := 3) (Nat.le_of_ble_eq_true rfl)
  rw [lg_entry_eq]
  generalize (lg_sl ([.ref t, .int p0]) ++ List.replicate (3 - (lg_sl ([.ref t, .int p0])).length) Slot.unset).toArray = ls at hl ⊢
  have hl : lv_has ls 3 [(0, .ref t), (1, .int p0)] := hl
  dsimp only [wX5_close] at hw
  refine lv_aload_n hx hb dX5_close_0 rfl (lv_at hl 0 rfl) ?_
  refine lv_iload_n hx hb dX5_close_1 rfl (lv_at hl 1 rfl) ?_
  refine lv_i2l hx hb dX5_close_2 rfl ?_
  refine lv_lconst (v := 0) hx hb dX5_close_3 (by decide) ?_
  refine lv_aload_n hx hb dX5_close_4 rfl (lv_at hl 0 rfl) ?_
  obtain ⟨fs1, x4, he2, hv3, hw⟩ := hw
  refine gh_get (ci := 5) (v := .int x4) (C := "OwnerLedgerModel") (T := TX5) (N := 24) hx hb hts (fun w h => gT_up (inX5 w h)) hown hK hP he2 rfl 1 (by decide) (hts _ (gT_up kw_373)) (fun _ h9 => h9) hv3 dX5_close_5 ?_
  refine lv_i2l hx hb dX5_close_8 rfl ?_
  refine gh_ci hlocks (hno _) (vx_runS (As := [.long (Int32.toInt64 p0), .long 0, .long (Int32.toInt64 x4)]) (rest := [.ref t]) ⟨hx, hb, hml, hown, hts⟩ (mX5_not l hl0 D AC sa _ _ _ _ _ _ _ hw) (va_cwS 3 hts (gS kw_414 kw_415 kw_2 kw_416) rfl rfl rfl (by decide +kernel) ⟨Nat.le_of_ble_eq_true rfl, Nat.le_of_ble_eq_true rfl⟩) (gh_pre gh_En_ok hK hE hP hS hA _) rfl rfl hl.1 rfl (lv_room (Nat.le_of_ble_eq_true rfl)) dX5_close_9 ⟨Nat.le_of_ble_eq_true rfl, Nat.le_of_ble_eq_true rfl⟩) hP hS hA (Nat.le_of_ble_eq_true rfl) (Nat.le_of_ble_eq_true rfl) (fun r5 G6 H locs hw2 hP hS => ?_)
  replace hw := hw2
  clear hw2
  refine lv_if_eq (tgt := 19) hx hb dX5_close_12 (by decide) (fun c7 => ?_) (fun c7 => ?_)
  · replace hw := hw.1 c7
    refine lv_iload_n hx hb dX5_close_19 rfl (lv_at hl 1 rfl) ?_
    refine lv_aload_n hx hb dX5_close_20 rfl (lv_at hl 0 rfl) ?_
    obtain ⟨fs8, x11, he9, hv10, hw⟩ := hw
    refine gh_get (ci := 5) (v := .int x11) (C := "OwnerLedgerModel") (T := TX5) (N := 24) hx hb hts (fun w h => gT_up (inX5 w h)) hown hK hP he9 rfl 2 (by decide) (hts _ (gT_up kw_374)) (fun _ h9 => h9) hv10 dX5_close_21 ?_
    refine lv_icmp_ge (tgt := 31) hx hb dX5_close_24 (by decide) (fun c12 => ?_) (fun c12 => ?_)
    · replace hw := hw.1 c12
      refine lv_iconst (v := 0) hx hb dX5_close_31 (by decide) ?_
      have hl := lv_sub (l' := [(0, .ref t), (1, .int p0)]) hl [0, 1] rfl
      exact lX5_close_32 hl0 CX post px _ t p0 t 0 _ _ hw hP hS ls hl
    · replace hw := hw.2 c12
      refine lv_iconst (v := 2) hx hb dX5_close_27 (by decide) ?_
      refine lv_goto (tgt := 32) hx hb dX5_close_28 (by decide) ?_
      have hl := lv_sub (l' := [(0, .ref t), (1, .int p0)]) hl [0, 1] rfl
      exact lX5_close_32 hl0 CX post px _ t p0 t 2 _ _ hw hP hS ls hl
  · replace hw := hw.2 c7
    refine lv_iconst (v := 1) hx hb dX5_close_15 (by decide) ?_
    refine lv_goto (tgt := 32) hx hb dX5_close_16 (by decide) ?_
    have hl := lv_sub (l' := [(0, .ref t), (1, .int p0)]) hl [0, 1] rfl
    exact lX5_close_32 hl0 CX post px _ t p0 t 1 _ _ hw hP hS ls hl
abbrev rmX5_batch : Room := { frames := 1, cells := 0, slots := 0, locals := 25 }
abbrev cxX5_batch (p : Program) (s : State) (m : MethodId) (args : Array Value) (meth : Method) (c : Code) (D : va_G) (AC : Nat → ClassId) (sa : gh_SA) (A : Nat → Prop) : Prop := CallFix p m c prog_7_method_16_code 2 s args wsX5_batch "OwnerLedgerModel" ∧ meth.sig.returnType = (some .int) ∧ meth.locks = false ∧ c.exceptionTable.toList = [] ∧ va_K D vwCl (gh_ty AC) s ∧ gh_En sa A s s.heap ∧ (∀ q, s.heap.size ≤ q → A q)
def wX5_batch_45 (post : Int32 → gh_H → Prop) (px : String → gh_H → Prop) (G : gh_H) (t : Nat) (p0 : Int32) (s0 : Nat) (s1 : Int32) : Prop := ∃ fs1 : List Value, G s0 = some (.inr (5, fs1)) ∧ 0 < fs1.length ∧ (∀ G4 : gh_H, G4 = gh_up G s0 (.inr (5, fs1.set 0 (.int s1))) → ∃ (fs6 : List Value) (x9 : Int32), G4 t = some (.inr (5, fs6)) ∧ fs6[0]? = some (.int x9) ∧ ((x9 = 0 → (∃ fs13 : List Value, G4 t = some (.inr (5, fs13)) ∧ wX5_newBatch (fun G12 => ∃ (fs15 : List Value) (x18 : Int32), G12 t = some (.inr (5, fs15)) ∧ fs15[8]? = some (.int x18) ∧ (post x18 G12)) px G4 t p0)) ∧ (¬ x9 = 0 → (post 0 G4))))
set_option maxRecDepth 100000 in
set_option maxHeartbeats 4000000 in
theorem lX5_batch_45 {p : Program} {l : Launch} {e : Env} {s : State} {m : MethodId} {args : Array Value} {below : List Frame} {meth : Method} {c : Code} {D : va_G} {AC : Nat → ClassId} {sa : gh_SA} {A : Nat → Prop} (hl0 : l.stackTraces = false) (CX : cxX5_batch p s m args meth c D AC sa A) (post : Int32 → gh_H → Prop) (px : String → gh_H → Prop) : ∀ (G : gh_H) (t : Nat) (p0 : Int32) (s0 : Nat) (s1 : Int32) (H : Heap) (locs : List Loc), wX5_batch_45 post px G t p0 s0 s1 → gh_h D vwCl AC A G H → va_S A s.heap H locs → ∀ ls : Array Slot, lv_has ls 2 [(0, .ref t), (1, .int p0)] → W p l e rmX5_batch s m args below meth c H locs 0 0 (vx_MQ below (va_Qi post (gh_B D vwCl AC A) A) (gh_X D vwCl AC px A) args s 0 0 A) (F0 m 45 ls [.int s1, .ref s0]) := by
  obtain ⟨⟨hx, hb, hml, hown, hts⟩, hr, hlocks, htb, hK, hE, hA⟩ := id CX
  have hno : ∀ (pc : Nat), ∀ x ∈ c.exceptionTable.toList, covers x pc = false := by rw [htb]; intro _ _ h; cases h
  intro G t p0 s0 s1 H locs hw hP hS ls hl
  dsimp only [wX5_batch_45] at hw
  obtain ⟨fs1, he2, hk3, hw⟩ := hw
  refine gh_put (ci := 5) (v := .int s1) (ty := .int) (C := "OwnerLedgerModel") (T := TX5) (N := 24) hx hb hts (fun w h => gT_up (inX5 w h)) tyX5 tyX5_ok nmX5 hown hK hP hS he2 rfl 0 (by decide) (hts _ (gT_up kw_372)) (fun _ h9 => h9) rfl (by decide +kernel) rfl rfl hk3 dX5_batch_45 (fun G4 H locs eG5 hP hS => ?_)
  replace hw := hw G4 eG5
  refine lv_aload_n hx hb dX5_batch_48 rfl (lv_at hl 0 rfl) ?_
  obtain ⟨fs6, x9, he7, hv8, hw⟩ := hw
  refine gh_get (ci := 5) (v := .int x9) (C := "OwnerLedgerModel") (T := TX5) (N := 24) hx hb hts (fun w h => gT_up (inX5 w h)) hown hK hP he7 rfl 0 (by decide) (hts _ (gT_up kw_372)) (fun _ h9 => h9) hv8 dX5_batch_49 ?_
  refine lv_if_eq (tgt := 57) hx hb dX5_batch_52 (by decide) (fun c10 => ?_) (fun c10 => ?_)
  · replace hw := hw.1 c10
    refine lv_aload_n hx hb dX5_batch_57 rfl (lv_at hl 0 rfl) ?_
    refine lv_iload_n hx hb dX5_batch_58 rfl (lv_at hl 1 rfl) ?_
    obtain ⟨fs13, he14, hw⟩ := hw
    refine gh_cv_ hlocks (hno _) (vx_runV (C := "OwnerLedgerModel") (As := [.int p0]) (rest := []) ⟨hx, hb, hml, hown, hts⟩ (mX5_newBatch l hl0 D AC sa _ _ _ _ _ _ hw) (cwV 1 hts (gV kw_429 kw_430 kw_541 kw_2 kw_431) rfl rfl rfl (by decide +kernel) ⟨Nat.le_of_ble_eq_true rfl, Nat.le_of_ble_eq_true rfl⟩) (gh_preV gh_En_ok hK hE hP hS hA he14 rfl _) rfl rfl hl.1 rfl (lv_room (Nat.le_of_ble_eq_true rfl)) dX5_batch_59 ⟨Nat.le_of_ble_eq_true rfl, Nat.le_of_ble_eq_true rfl⟩) hP hS hA (Nat.le_of_ble_eq_true rfl) (Nat.le_of_ble_eq_true rfl) (fun G12 H locs hw2 hP hS => ?_)
    replace hw := hw2
    clear hw2
    refine lv_aload_n hx hb dX5_batch_62 rfl (lv_at hl 0 rfl) ?_
    obtain ⟨fs15, x18, he16, hv17, hw⟩ := hw
    refine gh_get (ci := 5) (v := .int x18) (C := "OwnerLedgerModel") (T := TX5) (N := 24) hx hb hts (fun w h => gT_up (inX5 w h)) hown hK hP he16 rfl 8 (by decide) (hts _ (gT_up kw_380)) (fun _ h9 => h9) hv17 dX5_batch_63 ?_
    exact gh_iret hx hb hr hlocks hw hP hS (Nat.le_of_ble_eq_true rfl) (Nat.le_of_ble_eq_true rfl) dX5_batch_66
  · replace hw := hw.2 c10
    refine lv_iconst (v := 0) hx hb dX5_batch_55 (by decide) ?_
    exact gh_iret hx hb hr hlocks hw hP hS (Nat.le_of_ble_eq_true rfl) (Nat.le_of_ble_eq_true rfl) dX5_batch_56
def wX5_batch (post : Int32 → gh_H → Prop) (px : String → gh_H → Prop) (G : gh_H) (t : Nat) (p0 : Int32) : Prop := ∃ (fs1 : List Value) (x4 : Int32), G t = some (.inr (5, fs1)) ∧ fs1[1]? = some (.int x4) ∧ (wX5_not (fun r5 G6 => (r5 = 0 → (∃ (fs8 : List Value) (x11 : Int32), G6 t = some (.inr (5, fs8)) ∧ fs8[2]? = some (.int x11) ∧ ((x11 ≤ p0 → (∃ (fs13 : List Value) (x16 : Int32), G6 t = some (.inr (5, fs13)) ∧ fs13[8]? = some (.int x16) ∧ ((¬ x16 = 30 → (wX5_batch_45 post px G6 t p0 t 0)) ∧ (x16 = 30 → (wX5_batch_45 post px G6 t p0 t 3))))) ∧ (¬ x11 ≤ p0 → (wX5_batch_45 post px G6 t p0 t 2))))) ∧ (¬ r5 = 0 → (wX5_batch_45 post px G6 t p0 t 1))) px G (Int32.toInt64 p0) 0 (Int32.toInt64 x4))
set_option maxRecDepth 100000 in
set_option maxHeartbeats 4000000 in
theorem mX5_batch (l : Launch) (hl0 : l.stackTraces = false) (D : va_G) (AC : Nat → ClassId) (sa : gh_SA) (t : Nat) (p0 : Int32) (post : Int32 → gh_H → Prop) (px : String → gh_H → Prop) (G : gh_H) (sz : Nat) (hw : wX5_batch post px G t p0) : vx_Met l yX5_batch wsX5_batch rmX5_batch (gh_Pc D vwCl AC (gh_ty AC) (gh_En sa) G sz [.ref t, .int p0]) (va_Qi post (gh_B D vwCl AC (gh_A G sz)) (gh_A G sz)) (gh_X D vwCl AC px (gh_A G sz)) 0 0 (gh_A G sz) := by
  refine vx_ofW (cc := prog_7_method_16_code) (maxL := 2) (ret := (some .int)) (by decide) rfl ?_
  intro p e s m args below meth c s₁ B hml hnoh hv
  obtain ⟨rfl, hsz, hP, hK, hE⟩ := hv
  have hx := B.exec
  have hb := B.bytes
  have hr := B.returns
  have hts := atoms_spec (ws := wsX5_batch) B.pre
  have hown : s.vm.findClass "OwnerLedgerModel" = some m.cls := findClass_of_methodNamed B.named
  have hlocks := B.notSynchronized
  have htb : c.exceptionTable.toList = [] := List.eq_nil_iff_forall_not_mem.mpr hnoh
  subst hsz
  have hA : ∀ q, s.heap.size ≤ q → gh_A G s.heap.size q := fun q h => Or.inr h
  generalize gh_A G s.heap.size = A at hP hE hA ⊢
  have hno : ∀ (pc : Nat), ∀ x ∈ c.exceptionTable.toList, covers x pc = false := by rw [htb]; intro _ _ h; cases h
  have CX : cxX5_batch p s m [.ref t, .int p0].toArray meth c D AC sa A := ⟨⟨hx, hb, hml, hown, hts⟩, hr, hlocks, htb, hK, hE, hA⟩
  have hS : va_S A s.heap s.heap [] := va_S.rf
  have hl := lv_entry ([.ref t, .int p0]) (n := 2) (Nat.le_of_ble_eq_true rfl)
  rw [lg_entry_eq]
  generalize (lg_sl ([.ref t, .int p0]) ++ List.replicate (2 - (lg_sl ([.ref t, .int p0])).length) Slot.unset).toArray = ls at hl ⊢
  have hl : lv_has ls 2 [(0, .ref t), (1, .int p0)] := hl
  dsimp only [wX5_batch] at hw
  refine lv_aload_n hx hb dX5_batch_0 rfl (lv_at hl 0 rfl) ?_
  refine lv_iload_n hx hb dX5_batch_1 rfl (lv_at hl 1 rfl) ?_
  refine lv_i2l hx hb dX5_batch_2 rfl ?_
  refine lv_lconst (v := 0) hx hb dX5_batch_3 (by decide) ?_
  refine lv_aload_n hx hb dX5_batch_4 rfl (lv_at hl 0 rfl) ?_
  obtain ⟨fs1, x4, he2, hv3, hw⟩ := hw
  refine gh_get (ci := 5) (v := .int x4) (C := "OwnerLedgerModel") (T := TX5) (N := 24) hx hb hts (fun w h => gT_up (inX5 w h)) hown hK hP he2 rfl 1 (by decide) (hts _ (gT_up kw_373)) (fun _ h9 => h9) hv3 dX5_batch_5 ?_
  refine lv_i2l hx hb dX5_batch_8 rfl ?_
  refine gh_ci hlocks (hno _) (vx_runS (As := [.long (Int32.toInt64 p0), .long 0, .long (Int32.toInt64 x4)]) (rest := [.ref t]) ⟨hx, hb, hml, hown, hts⟩ (mX5_not l hl0 D AC sa _ _ _ _ _ _ _ hw) (va_cwS 3 hts (gS kw_414 kw_415 kw_2 kw_416) rfl rfl rfl (by decide +kernel) ⟨Nat.le_of_ble_eq_true rfl, Nat.le_of_ble_eq_true rfl⟩) (gh_pre gh_En_ok hK hE hP hS hA _) rfl rfl hl.1 rfl (lv_room (Nat.le_of_ble_eq_true rfl)) dX5_batch_9 ⟨Nat.le_of_ble_eq_true rfl, Nat.le_of_ble_eq_true rfl⟩) hP hS hA (Nat.le_of_ble_eq_true rfl) (Nat.le_of_ble_eq_true rfl) (fun r5 G6 H locs hw2 hP hS => ?_)
  replace hw := hw2
  clear hw2
  refine lv_if_eq (tgt := 19) hx hb dX5_batch_12 (by decide) (fun c7 => ?_) (fun c7 => ?_)
  · replace hw := hw.1 c7
    refine lv_iload_n hx hb dX5_batch_19 rfl (lv_at hl 1 rfl) ?_
    refine lv_aload_n hx hb dX5_batch_20 rfl (lv_at hl 0 rfl) ?_
    obtain ⟨fs8, x11, he9, hv10, hw⟩ := hw
    refine gh_get (ci := 5) (v := .int x11) (C := "OwnerLedgerModel") (T := TX5) (N := 24) hx hb hts (fun w h => gT_up (inX5 w h)) hown hK hP he9 rfl 2 (by decide) (hts _ (gT_up kw_374)) (fun _ h9 => h9) hv10 dX5_batch_21 ?_
    refine lv_icmp_ge (tgt := 31) hx hb dX5_batch_24 (by decide) (fun c12 => ?_) (fun c12 => ?_)
    · replace hw := hw.1 c12
      refine lv_aload_n hx hb dX5_batch_31 rfl (lv_at hl 0 rfl) ?_
      obtain ⟨fs13, x16, he14, hv15, hw⟩ := hw
      refine gh_get (ci := 5) (v := .int x16) (C := "OwnerLedgerModel") (T := TX5) (N := 24) hx hb hts (fun w h => gT_up (inX5 w h)) hown hK hP he14 rfl 8 (by decide) (hts _ (gT_up kw_380)) (fun _ h9 => h9) hv15 dX5_batch_32 ?_
      refine lv_bipush (v := 30) hx hb dX5_batch_35 (by decide) ?_
      refine lv_icmp_ne (tgt := 44) hx hb dX5_batch_37 (by decide) (fun c17 => ?_) (fun c17 => ?_)
      · replace hw := hw.1 c17
        refine lv_iconst (v := 0) hx hb dX5_batch_44 (by decide) ?_
        have hl := lv_sub (l' := [(0, .ref t), (1, .int p0)]) hl [0, 1] rfl
        exact lX5_batch_45 hl0 CX post px _ t p0 t 0 _ _ hw hP hS ls hl
      · replace hw := hw.2 c17
        refine lv_iconst (v := 3) hx hb dX5_batch_40 (by decide) ?_
        refine lv_goto (tgt := 45) hx hb dX5_batch_41 (by decide) ?_
        have hl := lv_sub (l' := [(0, .ref t), (1, .int p0)]) hl [0, 1] rfl
        exact lX5_batch_45 hl0 CX post px _ t p0 t 3 _ _ hw hP hS ls hl
    · replace hw := hw.2 c12
      refine lv_iconst (v := 2) hx hb dX5_batch_27 (by decide) ?_
      refine lv_goto (tgt := 45) hx hb dX5_batch_28 (by decide) ?_
      have hl := lv_sub (l' := [(0, .ref t), (1, .int p0)]) hl [0, 1] rfl
      exact lX5_batch_45 hl0 CX post px _ t p0 t 2 _ _ hw hP hS ls hl
  · replace hw := hw.2 c7
    refine lv_iconst (v := 1) hx hb dX5_batch_15 (by decide) ?_
    refine lv_goto (tgt := 45) hx hb dX5_batch_16 (by decide) ?_
    have hl := lv_sub (l' := [(0, .ref t), (1, .int p0)]) hl [0, 1] rfl
    exact lX5_batch_45 hl0 CX post px _ t p0 t 1 _ _ hw hP hS ls hl
abbrev rmX5_row : Room := { frames := 1, cells := 0, slots := 0, locals := 25 }
abbrev cxX5_row (p : Program) (s : State) (m : MethodId) (args : Array Value) (meth : Method) (c : Code) (D : va_G) (AC : Nat → ClassId) (sa : gh_SA) (A : Nat → Prop) : Prop := CallFix p m c prog_7_method_17_code 6 s args wsX5_row "OwnerLedgerModel" ∧ meth.sig.returnType = (some .int) ∧ meth.locks = false ∧ c.exceptionTable.toList = [] ∧ va_K D vwCl (gh_ty AC) s ∧ gh_En sa A s s.heap ∧ (∀ q, s.heap.size ≤ q → A q)
def wX5_row_81 (post : Int32 → gh_H → Prop) (px : String → gh_H → Prop) (G : gh_H) (t : Nat) (p0 : Int32) (p1 : Int32) (p2 : Int64) (s0 : Nat) (s1 : Int32) : Prop := ∃ fs1 : List Value, G s0 = some (.inr (5, fs1)) ∧ 0 < fs1.length ∧ (∀ G4 : gh_H, G4 = gh_up G s0 (.inr (5, fs1.set 0 (.int s1))) → ∃ (fs6 : List Value) (x9 : Int32), G4 t = some (.inr (5, fs6)) ∧ fs6[0]? = some (.int x9) ∧ ((x9 = 0 → (∃ (fs11 : List Value) (x14 : Nat), G4 t = some (.inr (5, fs11)) ∧ fs11[11]? = some (.ref x14) ∧ (∃ (n15 : Nat) (f16 : Nat → Int32), G4 x14 = some (.inl (0, n15, .inl f16)) ∧ vp_in (p0 - 1) n15 ∧ (∃ (fs19 : List Value) (x22 : Nat), G4 t = some (.inr (5, fs19)) ∧ fs19[14]? = some (.ref x22) ∧ (∃ (n23 : Nat) (f24 : Nat → Int32), G4 x22 = some (.inl (0, n23, .inl f24)) ∧ vp_in ((8 * (p0 - 1)) + (f16 (Int32.toNatClampNeg (p0 - 1)))) n23 ∧ (∀ G28 : gh_H, G28 = gh_up G4 x22 (.inl (0, n23, .inl (upd f24 (Int32.toNatClampNeg ((8 * (p0 - 1)) + (f16 (Int32.toNatClampNeg (p0 - 1))))) p1))) → ∃ (fs29 : List Value) (x32 : Nat), G28 t = some (.inr (5, fs29)) ∧ fs29[15]? = some (.ref x32) ∧ (∃ (n33 : Nat) (f34 : Nat → Int64), G28 x32 = some (.inl (1, n33, .inr (.inl f34))) ∧ vp_in ((8 * (p0 - 1)) + (f16 (Int32.toNatClampNeg (p0 - 1)))) n33 ∧ (∀ G38 : gh_H, G38 = gh_up G28 x32 (.inl (1, n33, .inr (.inl (vp_updL f34 (Int32.toNatClampNeg ((8 * (p0 - 1)) + (f16 (Int32.toNatClampNeg (p0 - 1))))) p2)))) → ∃ (fs39 : List Value) (x42 : Nat), G38 t = some (.inr (5, fs39)) ∧ fs39[16]? = some (.ref x42) ∧ (∃ (n43 : Nat) (f44 : Nat → Int32), G38 x42 = some (.inl (2, n43, .inl f44)) ∧ vp_in ((8 * (p0 - 1)) + (f16 (Int32.toNatClampNeg (p0 - 1)))) n43 ∧ (∀ G48 : gh_H, G48 = gh_up G38 x42 (.inl (2, n43, .inl (upd f44 (Int32.toNatClampNeg ((8 * (p0 - 1)) + (f16 (Int32.toNatClampNeg (p0 - 1))))) (vp_nar .boolean 0)))) → ∃ (fs49 : List Value) (x52 : Nat), G48 t = some (.inr (5, fs49)) ∧ fs49[11]? = some (.ref x52) ∧ (∃ (fs53 : List Value) (x56 : Nat), G48 t = some (.inr (5, fs53)) ∧ fs53[11]? = some (.ref x56) ∧ (∃ (n57 : Nat) (f58 : Nat → Int32), G48 x56 = some (.inl (0, n57, .inl f58)) ∧ vp_in (p0 - 1) n57 ∧ (∃ (n61 : Nat) (f62 : Nat → Int32), G48 x52 = some (.inl (0, n61, .inl f62)) ∧ vp_in (p0 - 1) n61 ∧ (∀ G66 : gh_H, G66 = gh_up G48 x52 (.inl (0, n61, .inl (upd f62 (Int32.toNatClampNeg (p0 - 1)) ((f58 (Int32.toNatClampNeg (p0 - 1))) + 1)))) → ∃ (fs67 : List Value) (x70 : Nat), G66 t = some (.inr (5, fs67)) ∧ fs67[11]? = some (.ref x70) ∧ (∃ (n71 : Nat) (f72 : Nat → Int32), G66 x70 = some (.inl (0, n71, .inl f72)) ∧ vp_in (p0 - 1) n71 ∧ (post (f72 (Int32.toNatClampNeg (p0 - 1))) G66)))))))))))))))) ∧ (¬ x9 = 0 → (post 0 G4))))
set_option maxRecDepth 100000 in
set_option maxHeartbeats 4000000 in
theorem lX5_row_81 {p : Program} {l : Launch} {e : Env} {s : State} {m : MethodId} {args : Array Value} {below : List Frame} {meth : Method} {c : Code} {D : va_G} {AC : Nat → ClassId} {sa : gh_SA} {A : Nat → Prop} (hl0 : l.stackTraces = false) (CX : cxX5_row p s m args meth c D AC sa A) (post : Int32 → gh_H → Prop) (px : String → gh_H → Prop) : ∀ (G : gh_H) (t : Nat) (p0 : Int32) (p1 : Int32) (p2 : Int64) (s0 : Nat) (s1 : Int32) (H : Heap) (locs : List Loc), wX5_row_81 post px G t p0 p1 p2 s0 s1 → gh_h D vwCl AC A G H → va_S A s.heap H locs → ∀ ls : Array Slot, lv_has ls 6 [(0, .ref t), (1, .int p0), (2, .int p1), (3, .long p2)] → W p l e rmX5_row s m args below meth c H locs 0 0 (vx_MQ below (va_Qi post (gh_B D vwCl AC A) A) (gh_X D vwCl AC px A) args s 0 0 A) (F0 m 81 ls [.int s1, .ref s0]) := by
  obtain ⟨⟨hx, hb, hml, hown, hts⟩, hr, hlocks, htb, hK, hE, hA⟩ := id CX
  have hno : ∀ (pc : Nat), ∀ x ∈ c.exceptionTable.toList, covers x pc = false := by rw [htb]; intro _ _ h; cases h
  intro G t p0 p1 p2 s0 s1 H locs hw hP hS ls hl
  dsimp only [wX5_row_81] at hw
  obtain ⟨fs1, he2, hk3, hw⟩ := hw
  refine gh_put (ci := 5) (v := .int s1) (ty := .int) (C := "OwnerLedgerModel") (T := TX5) (N := 24) hx hb hts (fun w h => gT_up (inX5 w h)) tyX5 tyX5_ok nmX5 hown hK hP hS he2 rfl 0 (by decide) (hts _ (gT_up kw_372)) (fun _ h9 => h9) rfl (by decide +kernel) rfl rfl hk3 dX5_row_81 (fun G4 H locs eG5 hP hS => ?_)
  replace hw := hw G4 eG5
  refine lv_aload_n hx hb dX5_row_84 rfl (lv_at hl 0 rfl) ?_
  obtain ⟨fs6, x9, he7, hv8, hw⟩ := hw
  refine gh_get (ci := 5) (v := .int x9) (C := "OwnerLedgerModel") (T := TX5) (N := 24) hx hb hts (fun w h => gT_up (inX5 w h)) hown hK hP he7 rfl 0 (by decide) (hts _ (gT_up kw_372)) (fun _ h9 => h9) hv8 dX5_row_85 ?_
  refine lv_if_eq (tgt := 93) hx hb dX5_row_88 (by decide) (fun c10 => ?_) (fun c10 => ?_)
  · replace hw := hw.1 c10
    refine lv_bipush (v := 8) hx hb dX5_row_93 (by decide) ?_
    refine lv_iload_n hx hb dX5_row_95 rfl (lv_at hl 1 rfl) ?_
    refine lv_iconst (v := 1) hx hb dX5_row_96 (by decide) ?_
    refine lv_isub hx hb dX5_row_97 ?_
    refine lv_imul hx hb dX5_row_98 ?_
    refine lv_aload_n hx hb dX5_row_99 rfl (lv_at hl 0 rfl) ?_
    obtain ⟨fs11, x14, he12, hv13, hw⟩ := hw
    refine gh_get (ci := 5) (v := .ref x14) (C := "OwnerLedgerModel") (T := TX5) (N := 24) hx hb hts (fun w h => gT_up (inX5 w h)) hown hK hP he12 rfl 11 (by decide) (hts _ (gT_up kw_383)) (fun _ h9 => h9) hv13 dX5_row_100 ?_
    refine lv_iload_n hx hb dX5_row_103 rfl (lv_at hl 1 rfl) ?_
    refine lv_iconst (v := 1) hx hb dX5_row_104 (by decide) ?_
    refine lv_isub hx hb dX5_row_105 ?_
    obtain ⟨n15, f16, he17, hi18, hw⟩ := hw
    refine gh_iald hx hb hK hP he17 rfl hi18 dX5_row_106 ?_
    refine lv_iadd hx hb dX5_row_107 ?_
    refine lv_istore (lv' := [(5, .int ((8 * (p0 - 1)) + (f16 (Int32.toNatClampNeg (p0 - 1))))), (0, .ref t), (1, .int p0), (2, .int p1), (3, .long p2)]) hx hb dX5_row_108 hl (by decide) rfl (fun ls hl => ?_)
    refine lv_aload_n hx hb dX5_row_110 rfl (lv_at hl 1 rfl) ?_
    obtain ⟨fs19, x22, he20, hv21, hw⟩ := hw
    refine gh_get (ci := 5) (v := .ref x22) (C := "OwnerLedgerModel") (T := TX5) (N := 24) hx hb hts (fun w h => gT_up (inX5 w h)) hown hK hP he20 rfl 14 (by decide) (hts _ (gT_up kw_386)) (fun _ h9 => h9) hv21 dX5_row_111 ?_
    refine lv_iload hx hb dX5_row_114 (lv_at hl 0 rfl) ?_
    refine lv_iload_n hx hb dX5_row_116 rfl (lv_at hl 3 rfl) ?_
    obtain ⟨n23, f24, he25, hi26, hw⟩ := hw
    refine gh_iast hx hb hK hP hS he25 rfl hi26 dX5_row_117 (fun G28 H locs eG27 hP hS => ?_)
    replace hw := hw G28 eG27
    refine lv_aload_n hx hb dX5_row_118 rfl (lv_at hl 1 rfl) ?_
    obtain ⟨fs29, x32, he30, hv31, hw⟩ := hw
    refine gh_get (ci := 5) (v := .ref x32) (C := "OwnerLedgerModel") (T := TX5) (N := 24) hx hb hts (fun w h => gT_up (inX5 w h)) hown hK hP he30 rfl 15 (by decide) (hts _ (gT_up kw_387)) (fun _ h9 => h9) hv31 dX5_row_119 ?_
    refine lv_iload hx hb dX5_row_122 (lv_at hl 0 rfl) ?_
    refine lv_lload_n hx hb dX5_row_124 rfl (lv_at hl 4 rfl) ?_
    obtain ⟨n33, f34, he35, hi36, hw⟩ := hw
    refine gh_last hx hb hK hP hS he35 rfl hi36 dX5_row_125 (fun G38 H locs eG37 hP hS => ?_)
    replace hw := hw G38 eG37
    refine lv_aload_n hx hb dX5_row_126 rfl (lv_at hl 1 rfl) ?_
    obtain ⟨fs39, x42, he40, hv41, hw⟩ := hw
    refine gh_get (ci := 5) (v := .ref x42) (C := "OwnerLedgerModel") (T := TX5) (N := 24) hx hb hts (fun w h => gT_up (inX5 w h)) hown hK hP he40 rfl 16 (by decide) (hts _ (gT_up kw_388)) (fun _ h9 => h9) hv41 dX5_row_127 ?_
    refine lv_iload hx hb dX5_row_130 (lv_at hl 0 rfl) ?_
    refine lv_iconst (v := 0) hx hb dX5_row_132 (by decide) ?_
    obtain ⟨n43, f44, he45, hi46, hw⟩ := hw
    refine gh_zast hx hb hK hP hS he45 rfl hi46 dX5_row_133 (fun G48 H locs eG47 hP hS => ?_)
    replace hw := hw G48 eG47
    refine lv_aload_n hx hb dX5_row_134 rfl (lv_at hl 1 rfl) ?_
    obtain ⟨fs49, x52, he50, hv51, hw⟩ := hw
    refine gh_get (ci := 5) (v := .ref x52) (C := "OwnerLedgerModel") (T := TX5) (N := 24) hx hb hts (fun w h => gT_up (inX5 w h)) hown hK hP he50 rfl 11 (by decide) (hts _ (gT_up kw_383)) (fun _ h9 => h9) hv51 dX5_row_135 ?_
    refine lv_iload_n hx hb dX5_row_138 rfl (lv_at hl 2 rfl) ?_
    refine lv_iconst (v := 1) hx hb dX5_row_139 (by decide) ?_
    refine lv_isub hx hb dX5_row_140 ?_
    refine lv_aload_n hx hb dX5_row_141 rfl (lv_at hl 1 rfl) ?_
    obtain ⟨fs53, x56, he54, hv55, hw⟩ := hw
    refine gh_get (ci := 5) (v := .ref x56) (C := "OwnerLedgerModel") (T := TX5) (N := 24) hx hb hts (fun w h => gT_up (inX5 w h)) hown hK hP he54 rfl 11 (by decide) (hts _ (gT_up kw_383)) (fun _ h9 => h9) hv55 dX5_row_142 ?_
    refine lv_iload_n hx hb dX5_row_145 rfl (lv_at hl 2 rfl) ?_
    refine lv_iconst (v := 1) hx hb dX5_row_146 (by decide) ?_
    refine lv_isub hx hb dX5_row_147 ?_
    obtain ⟨n57, f58, he59, hi60, hw⟩ := hw
    refine gh_iald hx hb hK hP he59 rfl hi60 dX5_row_148 ?_
    refine lv_iconst (v := 1) hx hb dX5_row_149 (by decide) ?_
    refine lv_iadd hx hb dX5_row_150 ?_
    obtain ⟨n61, f62, he63, hi64, hw⟩ := hw
    refine gh_iast hx hb hK hP hS he63 rfl hi64 dX5_row_151 (fun G66 H locs eG65 hP hS => ?_)
    replace hw := hw G66 eG65
    refine lv_aload_n hx hb dX5_row_152 rfl (lv_at hl 1 rfl) ?_
    obtain ⟨fs67, x70, he68, hv69, hw⟩ := hw
    refine gh_get (ci := 5) (v := .ref x70) (C := "OwnerLedgerModel") (T := TX5) (N := 24) hx hb hts (fun w h => gT_up (inX5 w h)) hown hK hP he68 rfl 11 (by decide) (hts _ (gT_up kw_383)) (fun _ h9 => h9) hv69 dX5_row_153 ?_
    refine lv_iload_n hx hb dX5_row_156 rfl (lv_at hl 2 rfl) ?_
    refine lv_iconst (v := 1) hx hb dX5_row_157 (by decide) ?_
    refine lv_isub hx hb dX5_row_158 ?_
    obtain ⟨n71, f72, he73, hi74, hw⟩ := hw
    refine gh_iald hx hb hK hP he73 rfl hi74 dX5_row_159 ?_
    exact gh_iret hx hb hr hlocks hw hP hS (Nat.le_of_ble_eq_true rfl) (Nat.le_of_ble_eq_true rfl) dX5_row_160
  · replace hw := hw.2 c10
    refine lv_iconst (v := 0) hx hb dX5_row_91 (by decide) ?_
    exact gh_iret hx hb hr hlocks hw hP hS (Nat.le_of_ble_eq_true rfl) (Nat.le_of_ble_eq_true rfl) dX5_row_92
def wX5_row (post : Int32 → gh_H → Prop) (px : String → gh_H → Prop) (G : gh_H) (t : Nat) (p0 : Int32) (p1 : Int32) (p2 : Int64) : Prop := ∃ fs3 : List Value, G t = some (.inr (5, fs3)) ∧ wX5_noBatch (fun r1 G2 => (¬ r1 = 0 → (wX5_row_81 post px G2 t p0 p1 p2 t 1)) ∧ (r1 = 0 → ((p1 < 0 → (wX5_row_81 post px G2 t p0 p1 p2 t 1)) ∧ (¬ p1 < 0 → (∃ (fs7 : List Value) (x10 : Int32), G2 t = some (.inr (5, fs7)) ∧ fs7[6]? = some (.int x10) ∧ ((p1 < x10 → (((lg_cmp p2 0) = 0 → (wX5_row_81 post px G2 t p0 p1 p2 t 2)) ∧ (¬ (lg_cmp p2 0) = 0 → (wX5_not (fun r13 G14 => (r13 = 0 → (∃ (fs16 : List Value) (x19 : Nat), G14 t = some (.inr (5, fs16)) ∧ fs16[9]? = some (.ref x19) ∧ (∃ (n20 : Nat) (f21 : Nat → Int32), G14 x19 = some (.inl (0, n20, .inl f21)) ∧ vp_in (p0 - 1) n20 ∧ (((f21 (Int32.toNatClampNeg (p0 - 1))) = 0 → (∃ (fs25 : List Value) (x28 : Nat), G14 t = some (.inr (5, fs25)) ∧ fs25[11]? = some (.ref x28) ∧ (∃ (n29 : Nat) (f30 : Nat → Int32), G14 x28 = some (.inl (0, n29, .inl f30)) ∧ vp_in (p0 - 1) n29 ∧ ((¬ (f30 (Int32.toNatClampNeg (p0 - 1))) = 8 → (wX5_row_81 post px G14 t p0 p1 p2 t 0)) ∧ ((f30 (Int32.toNatClampNeg (p0 - 1))) = 8 → (wX5_row_81 post px G14 t p0 p1 p2 t 4)))))) ∧ (¬ (f21 (Int32.toNatClampNeg (p0 - 1))) = 0 → (wX5_row_81 post px G14 t p0 p1 p2 t 3)))))) ∧ (¬ r13 = 0 → (wX5_row_81 post px G14 t p0 p1 p2 t 2))) px G2 p2 (-1000000000) 1000000000)))) ∧ (¬ p1 < x10 → (wX5_row_81 post px G2 t p0 p1 p2 t 1)))))))) px G t p0
set_option maxRecDepth 100000 in
set_option maxHeartbeats 4000000 in
theorem mX5_row (l : Launch) (hl0 : l.stackTraces = false) (D : va_G) (AC : Nat → ClassId) (sa : gh_SA) (t : Nat) (p0 : Int32) (p1 : Int32) (p2 : Int64) (post : Int32 → gh_H → Prop) (px : String → gh_H → Prop) (G : gh_H) (sz : Nat) (hw : wX5_row post px G t p0 p1 p2) : vx_Met l yX5_row wsX5_row rmX5_row (gh_Pc D vwCl AC (gh_ty AC) (gh_En sa) G sz [.ref t, .int p0, .int p1, .long p2]) (va_Qi post (gh_B D vwCl AC (gh_A G sz)) (gh_A G sz)) (gh_X D vwCl AC px (gh_A G sz)) 0 0 (gh_A G sz) := by
  refine vx_ofW (cc := prog_7_method_17_code) (maxL := 6) (ret := (some .int)) (by decide) rfl ?_
  intro p e s m args below meth c s₁ B hml hnoh hv
  obtain ⟨rfl, hsz, hP, hK, hE⟩ := hv
  have hx := B.exec
  have hb := B.bytes
  have hr := B.returns
  have hts := atoms_spec (ws := wsX5_row) B.pre
  have hown : s.vm.findClass "OwnerLedgerModel" = some m.cls := findClass_of_methodNamed B.named
  have hlocks := B.notSynchronized
  have htb : c.exceptionTable.toList = [] := List.eq_nil_iff_forall_not_mem.mpr hnoh
  subst hsz
  have hA : ∀ q, s.heap.size ≤ q → gh_A G s.heap.size q := fun q h => Or.inr h
  generalize gh_A G s.heap.size = A at hP hE hA ⊢
  have hno : ∀ (pc : Nat), ∀ x ∈ c.exceptionTable.toList, covers x pc = false := by rw [htb]; intro _ _ h; cases h
  have CX : cxX5_row p s m [.ref t, .int p0, .int p1, .long p2].toArray meth c D AC sa A := ⟨⟨hx, hb, hml, hown, hts⟩, hr, hlocks, htb, hK, hE, hA⟩
  have hS : va_S A s.heap s.heap [] := va_S.rf
  have hl := lv_entry ([.ref t, .int p0, .int p1, .long p2]) (n := 6) (Nat.le_of_ble_eq_true rfl)
  rw [lg_entry_eq]
  generalize (lg_sl ([.ref t, .int p0, .int p1, .long p2]) ++ List.replicate (6 - (lg_sl ([.ref t, .int p0, .int p1, .long p2])).length) Slot.unset).toArray = ls at hl ⊢
  have hl : lv_has ls 6 [(0, .ref t), (1, .int p0), (2, .int p1), (3, .long p2)] := hl
  dsimp only [wX5_row] at hw
  refine lv_aload_n hx hb dX5_row_0 rfl (lv_at hl 0 rfl) ?_
  refine lv_aload_n hx hb dX5_row_1 rfl (lv_at hl 0 rfl) ?_
  refine lv_iload_n hx hb dX5_row_2 rfl (lv_at hl 1 rfl) ?_
  obtain ⟨fs3, he4, hw⟩ := hw
  refine gh_ci hlocks (hno _) (vx_runV (C := "OwnerLedgerModel") (As := [.int p0]) (rest := [.ref t]) ⟨hx, hb, hml, hown, hts⟩ (mX5_noBatch l hl0 D AC sa _ _ _ _ _ _ hw) (cwV 1 hts (gV kw_436 kw_437 kw_542 kw_2 kw_438) rfl rfl rfl (by decide +kernel) ⟨Nat.le_of_ble_eq_true rfl, Nat.le_of_ble_eq_true rfl⟩) (gh_preV gh_En_ok hK hE hP hS hA he4 rfl _) rfl rfl hl.1 rfl (lv_room (Nat.le_of_ble_eq_true rfl)) dX5_row_3 ⟨Nat.le_of_ble_eq_true rfl, Nat.le_of_ble_eq_true rfl⟩) hP hS hA (Nat.le_of_ble_eq_true rfl) (Nat.le_of_ble_eq_true rfl) (fun r1 G2 H locs hw2 hP hS => ?_)
  replace hw := hw2
  clear hw2
  refine lv_if_ne (tgt := 21) hx hb dX5_row_6 (by decide) (fun c5 => ?_) (fun c5 => ?_)
  · replace hw := hw.1 c5
    refine lv_iconst (v := 1) hx hb dX5_row_21 (by decide) ?_
    refine lv_goto (tgt := 81) hx hb dX5_row_22 (by decide) ?_
    have hl := lv_sub (l' := [(0, .ref t), (1, .int p0), (2, .int p1), (3, .long p2)]) hl [0, 1, 2, 3] rfl
    exact lX5_row_81 hl0 CX post px _ t p0 p1 p2 t 1 _ _ hw hP hS ls hl
  · replace hw := hw.2 c5
    refine lv_iload_n hx hb dX5_row_9 rfl (lv_at hl 2 rfl) ?_
    refine lv_if_lt (tgt := 21) hx hb dX5_row_10 (by decide) (fun c6 => ?_) (fun c6 => ?_)
    · replace hw := hw.1 c6
      refine lv_iconst (v := 1) hx hb dX5_row_21 (by decide) ?_
      refine lv_goto (tgt := 81) hx hb dX5_row_22 (by decide) ?_
      have hl := lv_sub (l' := [(0, .ref t), (1, .int p0), (2, .int p1), (3, .long p2)]) hl [0, 1, 2, 3] rfl
      exact lX5_row_81 hl0 CX post px _ t p0 p1 p2 t 1 _ _ hw hP hS ls hl
    · replace hw := hw.2 c6
      refine lv_iload_n hx hb dX5_row_13 rfl (lv_at hl 2 rfl) ?_
      refine lv_aload_n hx hb dX5_row_14 rfl (lv_at hl 0 rfl) ?_
      obtain ⟨fs7, x10, he8, hv9, hw⟩ := hw
      refine gh_get (ci := 5) (v := .int x10) (C := "OwnerLedgerModel") (T := TX5) (N := 24) hx hb hts (fun w h => gT_up (inX5 w h)) hown hK hP he8 rfl 6 (by decide) (hts _ (gT_up kw_378)) (fun _ h9 => h9) hv9 dX5_row_15 ?_
      refine lv_icmp_lt (tgt := 25) hx hb dX5_row_18 (by decide) (fun c11 => ?_) (fun c11 => ?_)
      · replace hw := hw.1 c11
        refine lv_lload_n hx hb dX5_row_25 rfl (lv_at hl 3 rfl) ?_
        refine lv_lconst (v := 0) hx hb dX5_row_26 (by decide) ?_
        refine W.lcmp hx hb dX5_row_27 ?_
        refine lv_if_eq (tgt := 44) hx hb dX5_row_28 (by decide) (fun c12 => ?_) (fun c12 => ?_)
        · replace hw := hw.1 c12
          refine lv_iconst (v := 2) hx hb dX5_row_44 (by decide) ?_
          refine lv_goto (tgt := 81) hx hb dX5_row_45 (by decide) ?_
          have hl := lv_sub (l' := [(0, .ref t), (1, .int p0), (2, .int p1), (3, .long p2)]) hl [0, 1, 2, 3] rfl
          exact lX5_row_81 hl0 CX post px _ t p0 p1 p2 t 2 _ _ hw hP hS ls hl
        · replace hw := hw.2 c12
          refine lv_lload_n hx hb dX5_row_31 rfl (lv_at hl 3 rfl) ?_
          refine lv_ldc2 (v := (-1000000000)) hx hb hown (hts _ (gT_up kw_439)) dX5_row_32 ?_
          refine lv_ldc2 (v := 1000000000) hx hb hown (hts _ (gT_up kw_440)) dX5_row_35 ?_
          refine gh_ci hlocks (hno _) (vx_runS (As := [.long p2, .long (-1000000000), .long 1000000000]) (rest := [.ref t]) ⟨hx, hb, hml, hown, hts⟩ (mX5_not l hl0 D AC sa _ _ _ _ _ _ _ hw) (va_cwS 3 hts (gS kw_414 kw_415 kw_2 kw_416) rfl rfl rfl (by decide +kernel) ⟨Nat.le_of_ble_eq_true rfl, Nat.le_of_ble_eq_true rfl⟩) (gh_pre gh_En_ok hK hE hP hS hA _) rfl rfl hl.1 rfl (lv_room (Nat.le_of_ble_eq_true rfl)) dX5_row_38 ⟨Nat.le_of_ble_eq_true rfl, Nat.le_of_ble_eq_true rfl⟩) hP hS hA (Nat.le_of_ble_eq_true rfl) (Nat.le_of_ble_eq_true rfl) (fun r13 G14 H locs hw2 hP hS => ?_)
          replace hw := hw2
          clear hw2
          refine lv_if_eq (tgt := 48) hx hb dX5_row_41 (by decide) (fun c15 => ?_) (fun c15 => ?_)
          · replace hw := hw.1 c15
            refine lv_aload_n hx hb dX5_row_48 rfl (lv_at hl 0 rfl) ?_
            obtain ⟨fs16, x19, he17, hv18, hw⟩ := hw
            refine gh_get (ci := 5) (v := .ref x19) (C := "OwnerLedgerModel") (T := TX5) (N := 24) hx hb hts (fun w h => gT_up (inX5 w h)) hown hK hP he17 rfl 9 (by decide) (hts _ (gT_up kw_381)) (fun _ h9 => h9) hv18 dX5_row_49 ?_
            refine lv_iload_n hx hb dX5_row_52 rfl (lv_at hl 1 rfl) ?_
            refine lv_iconst (v := 1) hx hb dX5_row_53 (by decide) ?_
            refine lv_isub hx hb dX5_row_54 ?_
            obtain ⟨n20, f21, he22, hi23, hw⟩ := hw
            refine gh_iald hx hb hK hP he22 rfl hi23 dX5_row_55 ?_
            refine lv_if_eq (tgt := 63) hx hb dX5_row_56 (by decide) (fun c24 => ?_) (fun c24 => ?_)
            · replace hw := hw.1 c24
              refine lv_aload_n hx hb dX5_row_63 rfl (lv_at hl 0 rfl) ?_
              obtain ⟨fs25, x28, he26, hv27, hw⟩ := hw
              refine gh_get (ci := 5) (v := .ref x28) (C := "OwnerLedgerModel") (T := TX5) (N := 24) hx hb hts (fun w h => gT_up (inX5 w h)) hown hK hP he26 rfl 11 (by decide) (hts _ (gT_up kw_383)) (fun _ h9 => h9) hv27 dX5_row_64 ?_
              refine lv_iload_n hx hb dX5_row_67 rfl (lv_at hl 1 rfl) ?_
              refine lv_iconst (v := 1) hx hb dX5_row_68 (by decide) ?_
              refine lv_isub hx hb dX5_row_69 ?_
              obtain ⟨n29, f30, he31, hi32, hw⟩ := hw
              refine gh_iald hx hb hK hP he31 rfl hi32 dX5_row_70 ?_
              refine lv_bipush (v := 8) hx hb dX5_row_71 (by decide) ?_
              refine lv_icmp_ne (tgt := 80) hx hb dX5_row_73 (by decide) (fun c33 => ?_) (fun c33 => ?_)
              · replace hw := hw.1 c33
                refine lv_iconst (v := 0) hx hb dX5_row_80 (by decide) ?_
                have hl := lv_sub (l' := [(0, .ref t), (1, .int p0), (2, .int p1), (3, .long p2)]) hl [0, 1, 2, 3] rfl
                exact lX5_row_81 hl0 CX post px _ t p0 p1 p2 t 0 _ _ hw hP hS ls hl
              · replace hw := hw.2 c33
                refine lv_iconst (v := 4) hx hb dX5_row_76 (by decide) ?_
                refine lv_goto (tgt := 81) hx hb dX5_row_77 (by decide) ?_
                have hl := lv_sub (l' := [(0, .ref t), (1, .int p0), (2, .int p1), (3, .long p2)]) hl [0, 1, 2, 3] rfl
                exact lX5_row_81 hl0 CX post px _ t p0 p1 p2 t 4 _ _ hw hP hS ls hl
            · replace hw := hw.2 c24
              refine lv_iconst (v := 3) hx hb dX5_row_59 (by decide) ?_
              refine lv_goto (tgt := 81) hx hb dX5_row_60 (by decide) ?_
              have hl := lv_sub (l' := [(0, .ref t), (1, .int p0), (2, .int p1), (3, .long p2)]) hl [0, 1, 2, 3] rfl
              exact lX5_row_81 hl0 CX post px _ t p0 p1 p2 t 3 _ _ hw hP hS ls hl
          · replace hw := hw.2 c15
            refine lv_iconst (v := 2) hx hb dX5_row_44 (by decide) ?_
            refine lv_goto (tgt := 81) hx hb dX5_row_45 (by decide) ?_
            have hl := lv_sub (l' := [(0, .ref t), (1, .int p0), (2, .int p1), (3, .long p2)]) hl [0, 1, 2, 3] rfl
            exact lX5_row_81 hl0 CX post px _ t p0 p1 p2 t 2 _ _ hw hP hS ls hl
      · replace hw := hw.2 c11
        refine lv_iconst (v := 1) hx hb dX5_row_21 (by decide) ?_
        refine lv_goto (tgt := 81) hx hb dX5_row_22 (by decide) ?_
        have hl := lv_sub (l' := [(0, .ref t), (1, .int p0), (2, .int p1), (3, .long p2)]) hl [0, 1, 2, 3] rfl
        exact lX5_row_81 hl0 CX post px _ t p0 p1 p2 t 1 _ _ hw hP hS ls hl
