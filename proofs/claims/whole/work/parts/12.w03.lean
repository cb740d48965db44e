abbrev rmL_told : Room := { frames := 8, cells := 2, slots := 12, locals := 130 }
abbrev cxL_told (p : Program) (s : State) (m : MethodId) (args : Array Value) (meth : Method) (c : Code) (D : va_G) (AC : Nat → ClassId) (sa : gh_SA) (A : Nat → Prop) : Prop := CallFix p m c method_22_code 5 s args wsL_told "OwnerLedgerLaw" ∧ meth.sig.returnType = (some .int) ∧ meth.locks = false ∧ c.exceptionTable.toList = [⟨0, 10, 13, 19⟩, ⟨0, 10, 17, 21⟩] ∧ va_K D vwCl (gh_ty AC) s ∧ gh_En sa A s s.heap ∧ (∀ q, s.heap.size ≤ q → A q)
def wL_told (post : Int32 → gh_H → Prop) (px : String → gh_H → Prop) (G : gh_H) (p0 : Nat) (p1 : Int32) (p2 : Int32) (p3 : Nat) : Prop := ∃ fs3 : List Value, G p0 = some (.inr (4, fs3)) ∧ wX4_told (fun r1 G2 => ∃ (n8 : Nat) (f9 : Nat → Int64), G2 p3 = some (.inl (1, n8, .inr (.inl f9))) ∧ vp_in 0 n8 ∧ (∀ G13 : gh_H, G13 = gh_up G2 p3 (.inl (1, n8, .inr (.inl (vp_updL f9 (Int32.toNatClampNeg 0) (Int32.toInt64 r1))))) → post 0 G13)) (fun E6 G5 => (E6 = "java/util/NoSuchElementException" ∧ (post 1 G5)) ∨ (E6 = "java/lang/IllegalArgumentException" ∧ (post 2 G5))) G p0 p1 p2
set_option maxRecDepth 100000 in
set_option maxHeartbeats 4000000 in
theorem mL_told (l : Launch) (hl0 : l.stackTraces = false) (D : va_G) (AC : Nat → ClassId) (sa : gh_SA) (p0 : Nat) (p1 : Int32) (p2 : Int32) (p3 : Nat) (post : Int32 → gh_H → Prop) (px : String → gh_H → Prop) (G : gh_H) (sz : Nat) (hw : wL_told post px G p0 p1 p2 p3) : vx_Met l yL_told wsL_told rmL_told (gh_Pc D vwCl AC (gh_ty AC) (gh_En sa) G sz [.ref p0, .int p1, .int p2, .ref p3]) (va_Qi post (gh_B D vwCl AC (gh_A G sz)) (gh_A G sz)) (gh_X D vwCl AC px (gh_A G sz)) 2 12 (gh_A G sz) := by
  refine vx_ofWH (cc := method_22_code) (maxL := 5) (ret := (some .int)) (hh := [(0, 10, 13, 19), (0, 10, 17, 21)]) (by decide) rfl ?_
  intro p e s m args below meth c s₁ B hml hv
  obtain ⟨rfl, hsz, hP, hK, hE⟩ := hv
  have hx := B.exec
  have hb := B.bytes
  have hr := B.returns
  have hts := atoms_spec (ws := wsL_told) B.pre
  have hown : s.vm.findClass "OwnerLedgerLaw" = some m.cls := findClass_of_methodNamed B.named
  have hlocks := B.notSynchronized
  have htb : c.exceptionTable.toList = [⟨0, 10, 13, 19⟩, ⟨0, 10, 17, 21⟩] := vx_table (x := yL_told) B (hts _ List.mem_cons_self)
  subst hsz
  have hA : ∀ q, s.heap.size ≤ q → gh_A G s.heap.size q := fun q h => Or.inr h
  generalize gh_A G s.heap.size = A at hP hE hA ⊢
  have CX : cxL_told p s m [.ref p0, .int p1, .int p2, .ref p3].toArray meth c D AC sa A := ⟨⟨hx, hb, hml, hown, hts⟩, hr, hlocks, htb, hK, hE, hA⟩
  have hS : va_S A s.heap s.heap [] := va_S.rf
  have hl := lv_entry ([.ref p0, .int p1, .int p2, .ref p3]) (n := 5) (Nat.le_of_ble_eq_true rfl)
  rw [lg_entry_eq]
  generalize (lg_sl ([.ref p0, .int p1, .int p2, .ref p3]) ++ List.replicate (5 - (lg_sl ([.ref p0, .int p1, .int p2, .ref p3])).length) Slot.unset).toArray = ls at hl ⊢
  have hl : lv_has ls 5 [(0, .ref p0), (1, .int p1), (2, .int p2), (3, .ref p3)] := hl
  dsimp only [wL_told] at hw
  refine lv_aload_n hx hb dL_told_0 rfl (lv_at hl 3 rfl) ?_
  refine lv_iconst (v := 0) hx hb dL_told_1 (by decide) ?_
  refine lv_aload_n hx hb dL_told_2 rfl (lv_at hl 0 rfl) ?_
  refine lv_iload_n hx hb dL_told_3 rfl (lv_at hl 1 rfl) ?_
  refine lv_iload_n hx hb dL_told_4 rfl (lv_at hl 2 rfl) ?_
  obtain ⟨fs3, he4, hw⟩ := hw
  refine gh_cxi (vx_runV (C := "OwnerLedger") (As := [.int p1, .int p2]) (rest := [.int 0, .ref p3]) ⟨hx, hb, hml, hown, hts⟩ (mX4_told l hl0 D AC sa _ _ _ _ _ _ _ hw) (cwV 2 hts (gV kw_346 kw_347 kw_348 kw_1 kw_349) rfl rfl rfl (by decide +kernel) ⟨Nat.le_of_ble_eq_true rfl, Nat.le_of_ble_eq_true rfl⟩) (gh_preV gh_En_ok hK hE hP hS hA he4 rfl _) rfl rfl hl.1 rfl (lv_room (Nat.le_of_ble_eq_true rfl)) dL_told_5 ⟨Nat.le_of_ble_eq_true rfl, Nat.le_of_ble_eq_true rfl⟩) hP hS hA (fun E6 ce9 q7 G5 H locs hw2 hP hS hce hcv hcl => ?_) (fun r1 G2 H locs hw2 hP hS => ?_)
  · replace hw := hw2
    clear hw2
    rcases hw with ⟨rfl, hw⟩ | ⟨rfl, hw⟩
    · refine vx_catch (own := "OwnerLedgerLaw") (name := "java/util/NoSuchElementException") (E := "java/util/NoSuchElementException") hown [] ⟨0, 10, 13, 19⟩ [⟨0, 10, 17, 21⟩] (by rw [htb]; rfl) (fun z hz => nomatch hz) (by decide) (by decide) (hts _ (gT_up kw_74)) (va_Nw.use rfl (gh_cst hE (by decide))) hce hcv hcl ?_
      refine lv_astore (lv' := [(4, .ref q7), (0, .ref p0), (1, .int p1), (2, .int p2), (3, .ref p3)]) hx hb dL_told_13 hl (by decide) rfl (fun ls hl => ?_)
      refine lv_iconst (v := 1) hx hb dL_told_15 (by decide) ?_
      exact gh_iret hx hb hr hlocks hw hP hS (Nat.le_of_ble_eq_true rfl) (Nat.le_of_ble_eq_true rfl) dL_told_16
    · refine vx_catch (own := "OwnerLedgerLaw") (name := "java/lang/IllegalArgumentException") (E := "java/lang/IllegalArgumentException") hown [⟨0, 10, 13, 19⟩] ⟨0, 10, 17, 21⟩ [] (by rw [htb]; rfl) (by intro z hz; simp only [List.mem_cons, List.not_mem_nil, or_false] at hz; rcases hz with rfl <;> first | exact Or.inr ⟨by decide, "java/util/NoSuchElementException", (hts _ (gT_up kw_74)), gh_ncs hE (by decide)⟩) (by decide) (by decide) (hts _ (gT_up kw_75)) (va_Nw.use rfl (gh_cst hE (by decide))) hce hcv hcl ?_
      refine lv_astore (lv' := [(4, .ref q7), (0, .ref p0), (1, .int p1), (2, .int p2), (3, .ref p3)]) hx hb dL_told_17 hl (by decide) rfl (fun ls hl => ?_)
      refine lv_iconst (v := 2) hx hb dL_told_19 (by decide) ?_
      exact gh_iret hx hb hr hlocks hw hP hS (Nat.le_of_ble_eq_true rfl) (Nat.le_of_ble_eq_true rfl) dL_told_20
  replace hw := hw2
  clear hw2
  refine lv_i2l hx hb dL_told_8 rfl ?_
  obtain ⟨n8, f9, he10, hi11, hw⟩ := hw
  refine gh_last hx hb hK hP hS he10 rfl hi11 dL_told_9 (fun G13 H locs eG12 hP hS => ?_)
  replace hw := hw G13 eG12
  refine lv_goto (tgt := 21) hx hb dL_told_10 (by decide) ?_
  refine lv_iconst (v := 0) hx hb dL_told_21 (by decide) ?_
  exact gh_iret hx hb hr hlocks hw hP hS (Nat.le_of_ble_eq_true rfl) (Nat.le_of_ble_eq_true rfl) dL_told_22
abbrev rmL_known : Room := { frames := 8, cells := 2, slots := 12, locals := 130 }
abbrev cxL_known (p : Program) (s : State) (m : MethodId) (args : Array Value) (meth : Method) (c : Code) (D : va_G) (AC : Nat → ClassId) (sa : gh_SA) (A : Nat → Prop) : Prop := CallFix p m c method_23_code 5 s args wsL_known "OwnerLedgerLaw" ∧ meth.sig.returnType = (some .int) ∧ meth.locks = false ∧ c.exceptionTable.toList = [⟨0, 9, 12, 19⟩, ⟨0, 9, 16, 21⟩] ∧ va_K D vwCl (gh_ty AC) s ∧ gh_En sa A s s.heap ∧ (∀ q, s.heap.size ≤ q → A q)
def wL_known (post : Int32 → gh_H → Prop) (px : String → gh_H → Prop) (G : gh_H) (p0 : Nat) (p1 : Int32) (p2 : Int32) (p3 : Nat) : Prop := ∃ fs3 : List Value, G p0 = some (.inr (4, fs3)) ∧ wX4_known (fun r1 G2 => ∃ (n8 : Nat) (f9 : Nat → Int64), G2 p3 = some (.inl (1, n8, .inr (.inl f9))) ∧ vp_in 0 n8 ∧ (∀ G13 : gh_H, G13 = gh_up G2 p3 (.inl (1, n8, .inr (.inl (vp_updL f9 (Int32.toNatClampNeg 0) r1)))) → post 0 G13)) (fun E6 G5 => (E6 = "java/util/NoSuchElementException" ∧ (post 1 G5)) ∨ (E6 = "java/lang/IllegalArgumentException" ∧ (post 2 G5))) G p0 p1 p2
set_option maxRecDepth 100000 in
set_option maxHeartbeats 4000000 in
theorem mL_known (l : Launch) (hl0 : l.stackTraces = false) (D : va_G) (AC : Nat → ClassId) (sa : gh_SA) (p0 : Nat) (p1 : Int32) (p2 : Int32) (p3 : Nat) (post : Int32 → gh_H → Prop) (px : String → gh_H → Prop) (G : gh_H) (sz : Nat) (hw : wL_known post px G p0 p1 p2 p3) : vx_Met l yL_known wsL_known rmL_known (gh_Pc D vwCl AC (gh_ty AC) (gh_En sa) G sz [.ref p0, .int p1, .int p2, .ref p3]) (va_Qi post (gh_B D vwCl AC (gh_A G sz)) (gh_A G sz)) (gh_X D vwCl AC px (gh_A G sz)) 2 12 (gh_A G sz) := by
  refine vx_ofWH (cc := method_23_code) (maxL := 5) (ret := (some .int)) (hh := [(0, 9, 12, 19), (0, 9, 16, 21)]) (by decide) rfl ?_
  intro p e s m args below meth c s₁ B hml hv
  obtain ⟨rfl, hsz, hP, hK, hE⟩ := hv
  have hx := B.exec
  have hb := B.bytes
  have hr := B.returns
  have hts := atoms_spec (ws := wsL_known) B.pre
  have hown : s.vm.findClass "OwnerLedgerLaw" = some m.cls := findClass_of_methodNamed B.named
  have hlocks := B.notSynchronized
  have htb : c.exceptionTable.toList = [⟨0, 9, 12, 19⟩, ⟨0, 9, 16, 21⟩] := vx_table (x := yL_known) B (hts _ List.mem_cons_self)
  subst hsz
  have hA : ∀ q, s.heap.size ≤ q → gh_A G s.heap.size q := fun q h => Or.inr h
  generalize gh_A G s.heap.size = A at hP hE hA ⊢
  have CX : cxL_known p s m [.ref p0, .int p1, .int p2, .ref p3].toArray meth c D AC sa A := ⟨⟨hx, hb, hml, hown, hts⟩, hr, hlocks, htb, hK, hE, hA⟩
  have hS : va_S A s.heap s.heap [] := va_S.rf
  have hl := lv_entry ([.ref p0, .int p1, .int p2, .ref p3]) (n := 5) (Nat.le_of_ble_eq_true rfl)
  rw [lg_entry_eq]
  generalize (lg_sl ([.ref p0, .int p1, .int p2, .ref p3]) ++ List.replicate (5 - (lg_sl ([.ref p0, .int p1, .int p2, .ref p3])).length) Slot.unset).toArray = ls at hl ⊢
  have hl : lv_has ls 5 [(0, .ref p0), (1, .int p1), (2, .int p2), (3, .ref p3)] := hl
  dsimp only [wL_known] at hw
  refine lv_aload_n hx hb dL_known_0 rfl (lv_at hl 3 rfl) ?_
  refine lv_iconst (v := 0) hx hb dL_known_1 (by decide) ?_
  refine lv_aload_n hx hb dL_known_2 rfl (lv_at hl 0 rfl) ?_
  refine lv_iload_n hx hb dL_known_3 rfl (lv_at hl 1 rfl) ?_
  refine lv_iload_n hx hb dL_known_4 rfl (lv_at hl 2 rfl) ?_
  obtain ⟨fs3, he4, hw⟩ := hw
  refine gh_cxl (vx_runV (C := "OwnerLedger") (As := [.int p1, .int p2]) (rest := [.int 0, .ref p3]) ⟨hx, hb, hml, hown, hts⟩ (mX4_known l hl0 D AC sa _ _ _ _ _ _ _ hw) (cwV 2 hts (gV kw_354 kw_355 kw_356 kw_1 kw_357) rfl rfl rfl (by decide +kernel) ⟨Nat.le_of_ble_eq_true rfl, Nat.le_of_ble_eq_true rfl⟩) (gh_preV gh_En_ok hK hE hP hS hA he4 rfl _) rfl rfl hl.1 rfl (lv_room (Nat.le_of_ble_eq_true rfl)) dL_known_5 ⟨Nat.le_of_ble_eq_true rfl, Nat.le_of_ble_eq_true rfl⟩) hP hS hA (fun E6 ce9 q7 G5 H locs hw2 hP hS hce hcv hcl => ?_) (fun r1 G2 H locs hw2 hP hS => ?_)
  · replace hw := hw2
    clear hw2
    rcases hw with ⟨rfl, hw⟩ | ⟨rfl, hw⟩
    · refine vx_catch (own := "OwnerLedgerLaw") (name := "java/util/NoSuchElementException") (E := "java/util/NoSuchElementException") hown [] ⟨0, 9, 12, 19⟩ [⟨0, 9, 16, 21⟩] (by rw [htb]; rfl) (fun z hz => nomatch hz) (by decide) (by decide) (hts _ (gT_up kw_74)) (va_Nw.use rfl (gh_cst hE (by decide))) hce hcv hcl ?_
      refine lv_astore (lv' := [(4, .ref q7), (0, .ref p0), (1, .int p1), (2, .int p2), (3, .ref p3)]) hx hb dL_known_12 hl (by decide) rfl (fun ls hl => ?_)
      refine lv_iconst (v := 1) hx hb dL_known_14 (by decide) ?_
      exact gh_iret hx hb hr hlocks hw hP hS (Nat.le_of_ble_eq_true rfl) (Nat.le_of_ble_eq_true rfl) dL_known_15
    · refine vx_catch (own := "OwnerLedgerLaw") (name := "java/lang/IllegalArgumentException") (E := "java/lang/IllegalArgumentException") hown [⟨0, 9, 12, 19⟩] ⟨0, 9, 16, 21⟩ [] (by rw [htb]; rfl) (by intro z hz; simp only [List.mem_cons, List.not_mem_nil, or_false] at hz; rcases hz with rfl <;> first | exact Or.inr ⟨by decide, "java/util/NoSuchElementException", (hts _ (gT_up kw_74)), gh_ncs hE (by decide)⟩) (by decide) (by decide) (hts _ (gT_up kw_75)) (va_Nw.use rfl (gh_cst hE (by decide))) hce hcv hcl ?_
      refine lv_astore (lv' := [(4, .ref q7), (0, .ref p0), (1, .int p1), (2, .int p2), (3, .ref p3)]) hx hb dL_known_16 hl (by decide) rfl (fun ls hl => ?_)
      refine lv_iconst (v := 2) hx hb dL_known_18 (by decide) ?_
      exact gh_iret hx hb hr hlocks hw hP hS (Nat.le_of_ble_eq_true rfl) (Nat.le_of_ble_eq_true rfl) dL_known_19
  replace hw := hw2
  clear hw2
  obtain ⟨n8, f9, he10, hi11, hw⟩ := hw
  refine gh_last hx hb hK hP hS he10 rfl hi11 dL_known_8 (fun G13 H locs eG12 hP hS => ?_)
  replace hw := hw G13 eG12
  refine lv_goto (tgt := 20) hx hb dL_known_9 (by decide) ?_
  refine lv_iconst (v := 0) hx hb dL_known_20 (by decide) ?_
  exact gh_iret hx hb hr hlocks hw hP hS (Nat.le_of_ble_eq_true rfl) (Nat.le_of_ble_eq_true rfl) dL_known_21
abbrev rmL_credit : Room := { frames := 8, cells := 1, slots := 6, locals := 125 }
abbrev cxL_credit (p : Program) (s : State) (m : MethodId) (args : Array Value) (meth : Method) (c : Code) (D : va_G) (AC : Nat → ClassId) (sa : gh_SA) (A : Nat → Prop) : Prop := CallFix p m c method_24_code 4 s args wsL_credit "OwnerLedgerLaw" ∧ meth.sig.returnType = (some .int) ∧ meth.locks = false ∧ c.exceptionTable.toList = [⟨0, 8, 11, 19⟩] ∧ va_K D vwCl (gh_ty AC) s ∧ gh_En sa A s s.heap ∧ (∀ q, s.heap.size ≤ q → A q)
def wL_credit (post : Int32 → gh_H → Prop) (px : String → gh_H → Prop) (G : gh_H) (p0 : Nat) (p1 : Int32) (p2 : Nat) : Prop := ∃ fs3 : List Value, G p0 = some (.inr (4, fs3)) ∧ wX4_credit (fun r1 G2 => ∃ (n8 : Nat) (f9 : Nat → Int64), G2 p2 = some (.inl (1, n8, .inr (.inl f9))) ∧ vp_in 0 n8 ∧ (∀ G13 : gh_H, G13 = gh_up G2 p2 (.inl (1, n8, .inr (.inl (vp_updL f9 (Int32.toNatClampNeg 0) r1)))) → post 0 G13)) (fun E6 G5 => (E6 = "java/util/NoSuchElementException" ∧ (post 1 G5))) G p0 p1
set_option maxRecDepth 100000 in
set_option maxHeartbeats 4000000 in
theorem mL_credit (l : Launch) (hl0 : l.stackTraces = false) (D : va_G) (AC : Nat → ClassId) (sa : gh_SA) (p0 : Nat) (p1 : Int32) (p2 : Nat) (post : Int32 → gh_H → Prop) (px : String → gh_H → Prop) (G : gh_H) (sz : Nat) (hw : wL_credit post px G p0 p1 p2) : vx_Met l yL_credit wsL_credit rmL_credit (gh_Pc D vwCl AC (gh_ty AC) (gh_En sa) G sz [.ref p0, .int p1, .ref p2]) (va_Qi post (gh_B D vwCl AC (gh_A G sz)) (gh_A G sz)) (gh_X D vwCl AC px (gh_A G sz)) 1 6 (gh_A G sz) := by
  refine vx_ofWH (cc := method_24_code) (maxL := 4) (ret := (some .int)) (hh := [(0, 8, 11, 19)]) (by decide) rfl ?_
  intro p e s m args below meth c s₁ B hml hv
  obtain ⟨rfl, hsz, hP, hK, hE⟩ := hv
  have hx := B.exec
  have hb := B.bytes
  have hr := B.returns
  have hts := atoms_spec (ws := wsL_credit) B.pre
  have hown : s.vm.findClass "OwnerLedgerLaw" = some m.cls := findClass_of_methodNamed B.named
  have hlocks := B.notSynchronized
  have htb : c.exceptionTable.toList = [⟨0, 8, 11, 19⟩] := vx_table (x := yL_credit) B (hts _ List.mem_cons_self)
  subst hsz
  have hA : ∀ q, s.heap.size ≤ q → gh_A G s.heap.size q := fun q h => Or.inr h
  generalize gh_A G s.heap.size = A at hP hE hA ⊢
  have CX : cxL_credit p s m [.ref p0, .int p1, .ref p2].toArray meth c D AC sa A := ⟨⟨hx, hb, hml, hown, hts⟩, hr, hlocks, htb, hK, hE, hA⟩
  have hS : va_S A s.heap s.heap [] := va_S.rf
  have hl := lv_entry ([.ref p0, .int p1, .ref p2]) (n := 4) (Nat.le_of_ble_eq_true rfl)
  rw [lg_entry_eq]
  generalize (lg_sl ([.ref p0, .int p1, .ref p2]) ++ List.replicate (4 - (lg_sl ([.ref p0, .int p1, .ref p2])).length) Slot.unset).toArray = ls at hl ⊢
  have hl : lv_has ls 4 [(0, .ref p0), (1, .int p1), (2, .ref p2)] := hl
  dsimp only [wL_credit] at hw
  refine lv_aload_n hx hb dL_credit_0 rfl (lv_at hl 2 rfl) ?_
  refine lv_iconst (v := 0) hx hb dL_credit_1 (by decide) ?_
  refine lv_aload_n hx hb dL_credit_2 rfl (lv_at hl 0 rfl) ?_
  refine lv_iload_n hx hb dL_credit_3 rfl (lv_at hl 1 rfl) ?_
  obtain ⟨fs3, he4, hw⟩ := hw
  refine gh_cxl (vx_runV (C := "OwnerLedger") (As := [.int p1]) (rest := [.int 0, .ref p2]) ⟨hx, hb, hml, hown, hts⟩ (mX4_credit l hl0 D AC sa _ _ _ _ _ _ hw) (cwV 1 hts (gV kw_362 kw_363 kw_364 kw_1 kw_365) rfl rfl rfl (by decide +kernel) ⟨Nat.le_of_ble_eq_true rfl, Nat.le_of_ble_eq_true rfl⟩) (gh_preV gh_En_ok hK hE hP hS hA he4 rfl _) rfl rfl hl.1 rfl (lv_room (Nat.le_of_ble_eq_true rfl)) dL_credit_4 ⟨Nat.le_of_ble_eq_true rfl, Nat.le_of_ble_eq_true rfl⟩) hP hS hA (fun E6 ce9 q7 G5 H locs hw2 hP hS hce hcv hcl => ?_) (fun r1 G2 H locs hw2 hP hS => ?_)
  · replace hw := hw2
    clear hw2
    obtain ⟨rfl, hw⟩ := hw
    · refine vx_catch (own := "OwnerLedgerLaw") (name := "java/util/NoSuchElementException") (E := "java/util/NoSuchElementException") hown [] ⟨0, 8, 11, 19⟩ [] (by rw [htb]; rfl) (fun z hz => nomatch hz) (by decide) (by decide) (hts _ (gT_up kw_74)) (va_Nw.use rfl (gh_cst hE (by decide))) hce hcv hcl ?_
      refine lv_astore_n (lv' := [(3, .ref q7), (0, .ref p0), (1, .int p1), (2, .ref p2)]) hx hb dL_credit_11 rfl hl (by decide) rfl (fun ls hl => ?_)
      refine lv_iconst (v := 1) hx hb dL_credit_12 (by decide) ?_
      exact gh_iret hx hb hr hlocks hw hP hS (Nat.le_of_ble_eq_true rfl) (Nat.le_of_ble_eq_true rfl) dL_credit_13
  replace hw := hw2
  clear hw2
  obtain ⟨n8, f9, he10, hi11, hw⟩ := hw
  refine gh_last hx hb hK hP hS he10 rfl hi11 dL_credit_7 (fun G13 H locs eG12 hP hS => ?_)
  replace hw := hw G13 eG12
  refine lv_goto (tgt := 14) hx hb dL_credit_8 (by decide) ?_
  refine lv_iconst (v := 0) hx hb dL_credit_14 (by decide) ?_
  exact gh_iret hx hb hr hlocks hw hP hS (Nat.le_of_ble_eq_true rfl) (Nat.le_of_ble_eq_true rfl) dL_credit_15
