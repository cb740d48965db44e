abbrev rmL_balance : Room := { frames := 8, cells := 2, slots := 12, locals := 135 }
abbrev cxL_balance (p : Program) (s : State) (m : MethodId) (args : Array Value) (meth : Method) (c : Code) (D : va_G) (AC : Nat → ClassId) (sa : gh_SA) (A : Nat → Prop) : Prop := CallFix p m c method_12_code 5 s args wsL_balance "OwnerLedgerLaw" ∧ meth.sig.returnType = (some .int) ∧ meth.locks = false ∧ c.exceptionTable.toList = [⟨0, 9, 12, 19⟩, ⟨0, 9, 16, 21⟩] ∧ va_K D vwCl (gh_ty AC) s ∧ gh_En sa A s s.heap ∧ (∀ q, s.heap.size ≤ q → A q)
def wL_balance (post : Int32 → gh_H → Prop) (px : String → gh_H → Prop) (G : gh_H) (p0 : Nat) (p1 : Int32) (p2 : Int32) (p3 : Nat) : Prop := ∃ fs3 : List Value, G p0 = some (.inr (4, fs3)) ∧ wX4_balance (fun r1 G2 => ∃ (n8 : Nat) (f9 : Nat → Int64), G2 p3 = some (.inl (1, n8, .inr (.inl f9))) ∧ vp_in 0 n8 ∧ (∀ G13 : gh_H, G13 = gh_up G2 p3 (.inl (1, n8, .inr (.inl (vp_updL f9 (Int32.toNatClampNeg 0) r1)))) → post 0 G13)) (fun E6 G5 => (E6 = "java/util/NoSuchElementException" ∧ (post 1 G5)) ∨ (E6 = "java/lang/IllegalArgumentException" ∧ (post 2 G5))) G p0 p1 p2
set_option maxRecDepth 100000 in
set_option maxHeartbeats 4000000 in
theorem mL_balance (l : Launch) (hl0 : l.stackTraces = false) (D : va_G) (AC : Nat → ClassId) (sa : gh_SA) (p0 : Nat) (p1 : Int32) (p2 : Int32) (p3 : Nat) (post : Int32 → gh_H → Prop) (px : String → gh_H → Prop) (G : gh_H) (sz : Nat) (hw : wL_balance post px G p0 p1 p2 p3) : vx_Met l yL_balance wsL_balance rmL_balance (gh_Pc D vwCl AC (gh_ty AC) (gh_En sa) G sz [.ref p0, .int p1, .int p2, .ref p3]) (va_Qi post (gh_B D vwCl AC (gh_A G sz)) (gh_A G sz)) (gh_X D vwCl AC px (gh_A G sz)) 2 12 (gh_A G sz) := by
  refine vx_ofWH (cc := method_12_code) (maxL := 5) (ret := (some .int)) (hh := [(0, 9, 12, 19), (0, 9, 16, 21)]) (by decide) rfl ?_
  intro p e s m args below meth c s₁ B hml hv
  obtain ⟨rfl, hsz, hP, hK, hE⟩ := hv
  have hx := B.exec
  have hb := B.bytes
  have hr := B.returns
  have hts := atoms_spec (ws := wsL_balance) B.pre
  have hown : s.vm.findClass "OwnerLedgerLaw" = some m.cls := findClass_of_methodNamed B.named
  have hlocks := B.notSynchronized
  have htb : c.exceptionTable.toList = [⟨0, 9, 12, 19⟩, ⟨0, 9, 16, 21⟩] := vx_table (x := yL_balance) B (hts _ List.mem_cons_self)
  subst hsz
  have hA : ∀ q, s.heap.size ≤ q → gh_A G s.heap.size q := fun q h => Or.inr h
  generalize gh_A G s.heap.size = A at hP hE hA ⊢
  have CX : cxL_balance p s m [.ref p0, .int p1, .int p2, .ref p3].toArray meth c D AC sa A := ⟨⟨hx, hb, hml, hown, hts⟩, hr, hlocks, htb, hK, hE, hA⟩
  have hS : va_S A s.heap s.heap [] := va_S.rf
  have hl := lv_entry ([.ref p0, .int p1, .int p2, .ref p3]) (n := 5) (Nat.le_of_ble_eq_true rfl)
  rw [lg_entry_eq]
  generalize (lg_sl ([.ref p0, .int p1, .int p2, .ref p3]) ++ List.replicate (5 - (lg_sl ([.ref p0, .int p1, .int p2, .ref p3])).length) Slot.unset).toArray = ls at hl ⊢
  have hl : lv_has ls 5 [(0, .ref p0), (1, .int p1), (2, .int p2), (3, .ref p3)] := hl
  dsimp only [wL_balance] at hw
  refine lv_aload_n hx hb dL_balance_0 rfl (lv_at hl 3 rfl) ?_
  refine lv_iconst (v := 0) hx hb dL_balance_1 (by decide) ?_
  refine lv_aload_n hx hb dL_balance_2 rfl (lv_at hl 0 rfl) ?_
  refine lv_iload_n hx hb dL_balance_3 rfl (lv_at hl 1 rfl) ?_
  refine lv_iload_n hx hb dL_balance_4 rfl (lv_at hl 2 rfl) ?_
  obtain ⟨fs3, he4, hw⟩ := hw
  refine gh_cxl (vx_runV (C := "OwnerLedger") (As := [.int p1, .int p2]) (rest := [.int 0, .ref p3]) ⟨hx, hb, hml, hown, hts⟩ (mX4_balance l hl0 D AC sa _ _ _ _ _ _ _ hw) (cwV 2 hts (gV kw_224 kw_225 kw_226 kw_1 kw_227) rfl rfl rfl (by decide +kernel) ⟨Nat.le_of_ble_eq_true rfl, Nat.le_of_ble_eq_true rfl⟩) (gh_preV gh_En_ok hK hE hP hS hA he4 rfl _) rfl rfl hl.1 rfl (lv_room (Nat.le_of_ble_eq_true rfl)) dL_balance_5 ⟨Nat.le_of_ble_eq_true rfl, Nat.le_of_ble_eq_true rfl⟩) hP hS hA (fun E6 ce9 q7 G5 H locs hw2 hP hS hce hcv hcl => ?_) (fun r1 G2 H locs hw2 hP hS => ?_)
  · replace hw := hw2
    clear hw2
    rcases hw with ⟨rfl, hw⟩ | ⟨rfl, hw⟩
    · refine vx_catch (own := "OwnerLedgerLaw") (name := "java/util/NoSuchElementException") (E := "java/util/NoSuchElementException") hown [] ⟨0, 9, 12, 19⟩ [⟨0, 9, 16, 21⟩] (by rw [htb]; rfl) (fun z hz => nomatch hz) (by decide) (by decide) (hts _ (gT_up kw_74)) (va_Nw.use rfl (gh_cst hE (by decide))) hce hcv hcl ?_
      refine lv_astore (lv' := [(4, .ref q7), (0, .ref p0), (1, .int p1), (2, .int p2), (3, .ref p3)]) hx hb dL_balance_12 hl (by decide) rfl (fun ls hl => ?_)
      refine lv_iconst (v := 1) hx hb dL_balance_14 (by decide) ?_
      exact gh_iret hx hb hr hlocks hw hP hS (Nat.le_of_ble_eq_true rfl) (Nat.le_of_ble_eq_true rfl) dL_balance_15
    · refine vx_catch (own := "OwnerLedgerLaw") (name := "java/lang/IllegalArgumentException") (E := "java/lang/IllegalArgumentException") hown [⟨0, 9, 12, 19⟩] ⟨0, 9, 16, 21⟩ [] (by rw [htb]; rfl) (by intro z hz; simp only [List.mem_cons, List.not_mem_nil, or_false] at hz; rcases hz with rfl <;> first | exact Or.inr ⟨by decide, "java/util/NoSuchElementException", (hts _ (gT_up kw_74)), gh_ncs hE (by decide)⟩) (by decide) (by decide) (hts _ (gT_up kw_75)) (va_Nw.use rfl (gh_cst hE (by decide))) hce hcv hcl ?_
      refine lv_astore (lv' := [(4, .ref q7), (0, .ref p0), (1, .int p1), (2, .int p2), (3, .ref p3)]) hx hb dL_balance_16 hl (by decide) rfl (fun ls hl => ?_)
      refine lv_iconst (v := 2) hx hb dL_balance_18 (by decide) ?_
      exact gh_iret hx hb hr hlocks hw hP hS (Nat.le_of_ble_eq_true rfl) (Nat.le_of_ble_eq_true rfl) dL_balance_19
  replace hw := hw2
  clear hw2
  obtain ⟨n8, f9, he10, hi11, hw⟩ := hw
  refine gh_last hx hb hK hP hS he10 rfl hi11 dL_balance_8 (fun G13 H locs eG12 hP hS => ?_)
  replace hw := hw G13 eG12
  refine lv_goto (tgt := 20) hx hb dL_balance_9 (by decide) ?_
  refine lv_iconst (v := 0) hx hb dL_balance_20 (by decide) ?_
  exact gh_iret hx hb hr hlocks hw hP hS (Nat.le_of_ble_eq_true rfl) (Nat.le_of_ble_eq_true rfl) dL_balance_21
abbrev rmL_all : Room := { frames := 8, cells := 1, slots := 6, locals := 134 }
abbrev cxL_all (p : Program) (s : State) (m : MethodId) (args : Array Value) (meth : Method) (c : Code) (D : va_G) (AC : Nat → ClassId) (sa : gh_SA) (A : Nat → Prop) : Prop := CallFix p m c method_13_code 4 s args wsL_all "OwnerLedgerLaw" ∧ meth.sig.returnType = (some .int) ∧ meth.locks = false ∧ c.exceptionTable.toList = [⟨0, 8, 11, 21⟩] ∧ va_K D vwCl (gh_ty AC) s ∧ gh_En sa A s s.heap ∧ (∀ q, s.heap.size ≤ q → A q)
def wL_all (post : Int32 → gh_H → Prop) (px : String → gh_H → Prop) (G : gh_H) (p0 : Nat) (p1 : Int32) (p2 : Nat) : Prop := ∃ fs3 : List Value, G p0 = some (.inr (4, fs3)) ∧ wX4_all (fun r1 G2 => ∃ (n8 : Nat) (f9 : Nat → Int64), G2 p2 = some (.inl (1, n8, .inr (.inl f9))) ∧ vp_in 0 n8 ∧ (∀ G13 : gh_H, G13 = gh_up G2 p2 (.inl (1, n8, .inr (.inl (vp_updL f9 (Int32.toNatClampNeg 0) r1)))) → post 0 G13)) (fun E6 G5 => (E6 = "java/lang/IllegalArgumentException" ∧ (post 1 G5))) G p0 p1
set_option maxRecDepth 100000 in
set_option maxHeartbeats 4000000 in
theorem mL_all (l : Launch) (hl0 : l.stackTraces = false) (D : va_G) (AC : Nat → ClassId) (sa : gh_SA) (p0 : Nat) (p1 : Int32) (p2 : Nat) (post : Int32 → gh_H → Prop) (px : String → gh_H → Prop) (G : gh_H) (sz : Nat) (hw : wL_all post px G p0 p1 p2) : vx_Met l yL_all wsL_all rmL_all (gh_Pc D vwCl AC (gh_ty AC) (gh_En sa) G sz [.ref p0, .int p1, .ref p2]) (va_Qi post (gh_B D vwCl AC (gh_A G sz)) (gh_A G sz)) (gh_X D vwCl AC px (gh_A G sz)) 1 6 (gh_A G sz) := by
  refine vx_ofWH (cc := method_13_code) (maxL := 4) (ret := (some .int)) (hh := [(0, 8, 11, 21)]) (by decide) rfl ?_
  intro p e s m args below meth c s₁ B hml hv
  obtain ⟨rfl, hsz, hP, hK, hE⟩ := hv
  have hx := B.exec
  have hb := B.bytes
  have hr := B.returns
  have hts := atoms_spec (ws := wsL_all) B.pre
  have hown : s.vm.findClass "OwnerLedgerLaw" = some m.cls := findClass_of_methodNamed B.named
  have hlocks := B.notSynchronized
  have htb : c.exceptionTable.toList = [⟨0, 8, 11, 21⟩] := vx_table (x := yL_all) B (hts _ List.mem_cons_self)
  subst hsz
  have hA : ∀ q, s.heap.size ≤ q → gh_A G s.heap.size q := fun q h => Or.inr h
  generalize gh_A G s.heap.size = A at hP hE hA ⊢
  have CX : cxL_all p s m [.ref p0, .int p1, .ref p2].toArray meth c D AC sa A := ⟨⟨hx, hb, hml, hown, hts⟩, hr, hlocks, htb, hK, hE, hA⟩
  have hS : va_S A s.heap s.heap [] := va_S.rf
  have hl := lv_entry ([.ref p0, .int p1, .ref p2]) (n := 4) (Nat.le_of_ble_eq_true rfl)
  rw [lg_entry_eq]
  generalize (lg_sl ([.ref p0, .int p1, .ref p2]) ++ List.replicate (4 - (lg_sl ([.ref p0, .int p1, .ref p2])).length) Slot.unset).toArray = ls at hl ⊢
  have hl : lv_has ls 4 [(0, .ref p0), (1, .int p1), (2, .ref p2)] := hl
  dsimp only [wL_all] at hw
  refine lv_aload_n hx hb dL_all_0 rfl (lv_at hl 2 rfl) ?_
  refine lv_iconst (v := 0) hx hb dL_all_1 (by decide) ?_
  refine lv_aload_n hx hb dL_all_2 rfl (lv_at hl 0 rfl) ?_
  refine lv_iload_n hx hb dL_all_3 rfl (lv_at hl 1 rfl) ?_
  obtain ⟨fs3, he4, hw⟩ := hw
  refine gh_cxl (vx_runV (C := "OwnerLedger") (As := [.int p1]) (rest := [.int 0, .ref p2]) ⟨hx, hb, hml, hown, hts⟩ (mX4_all l hl0 D AC sa _ _ _ _ _ _ hw) (cwV 1 hts (gV kw_235 kw_236 kw_237 kw_1 kw_238) rfl rfl rfl (by decide +kernel) ⟨Nat.le_of_ble_eq_true rfl, Nat.le_of_ble_eq_true rfl⟩) (gh_preV gh_En_ok hK hE hP hS hA he4 rfl _) rfl rfl hl.1 rfl (lv_room (Nat.le_of_ble_eq_true rfl)) dL_all_4 ⟨Nat.le_of_ble_eq_true rfl, Nat.le_of_ble_eq_true rfl⟩) hP hS hA (fun E6 ce9 q7 G5 H locs hw2 hP hS hce hcv hcl => ?_) (fun r1 G2 H locs hw2 hP hS => ?_)
  · replace hw := hw2
    clear hw2
    obtain ⟨rfl, hw⟩ := hw
    · refine vx_catch (own := "OwnerLedgerLaw") (name := "java/lang/IllegalArgumentException") (E := "java/lang/IllegalArgumentException") hown [] ⟨0, 8, 11, 21⟩ [] (by rw [htb]; rfl) (fun z hz => nomatch hz) (by decide) (by decide) (hts _ (gT_up kw_75)) (va_Nw.use rfl (gh_cst hE (by decide))) hce hcv hcl ?_
      refine lv_astore_n (lv' := [(3, .ref q7), (0, .ref p0), (1, .int p1), (2, .ref p2)]) hx hb dL_all_11 rfl hl (by decide) rfl (fun ls hl => ?_)
      refine lv_iconst (v := 1) hx hb dL_all_12 (by decide) ?_
      exact gh_iret hx hb hr hlocks hw hP hS (Nat.le_of_ble_eq_true rfl) (Nat.le_of_ble_eq_true rfl) dL_all_13
  replace hw := hw2
  clear hw2
  obtain ⟨n8, f9, he10, hi11, hw⟩ := hw
  refine gh_last hx hb hK hP hS he10 rfl hi11 dL_all_7 (fun G13 H locs eG12 hP hS => ?_)
  replace hw := hw G13 eG12
  refine lv_goto (tgt := 14) hx hb dL_all_8 (by decide) ?_
  refine lv_iconst (v := 0) hx hb dL_all_14 (by decide) ?_
  exact gh_iret hx hb hr hlocks hw hP hS (Nat.le_of_ble_eq_true rfl) (Nat.le_of_ble_eq_true rfl) dL_all_15
abbrev rmL_invoice : Room := { frames := 8, cells := 5, slots := 29, locals := 133 }
abbrev cxL_invoice (p : Program) (s : State) (m : MethodId) (args : Array Value) (meth : Method) (c : Code) (D : va_G) (AC : Nat → ClassId) (sa : gh_SA) (A : Nat → Prop) : Prop := CallFix p m c method_14_code 7 s args wsL_invoice "OwnerLedgerLaw" ∧ meth.sig.returnType = (some .int) ∧ meth.locks = false ∧ c.exceptionTable.toList = [⟨0, 13, 16, 19⟩, ⟨0, 13, 20, 21⟩, ⟨0, 13, 24, 31⟩, ⟨0, 13, 28, 13⟩] ∧ va_K D vwCl (gh_ty AC) s ∧ gh_En sa A s s.heap ∧ (∀ q, s.heap.size ≤ q → A q)
def wL_invoice (post : Int32 → gh_H → Prop) (px : String → gh_H → Prop) (G : gh_H) (p0 : Nat) (p1 : Int32) (p2 : Int64) (p3 : Int32) (p4 : Nat) : Prop := ∃ fs3 : List Value, G p0 = some (.inr (4, fs3)) ∧ wX4_invoice (fun r1 G2 => ∃ (n8 : Nat) (f9 : Nat → Int64), G2 p4 = some (.inl (1, n8, .inr (.inl f9))) ∧ vp_in 0 n8 ∧ (∀ G13 : gh_H, G13 = gh_up G2 p4 (.inl (1, n8, .inr (.inl (vp_updL f9 (Int32.toNatClampNeg 0) (Int32.toInt64 r1))))) → post 0 G13)) (fun E6 G5 => (E6 = "java/util/NoSuchElementException" ∧ (post 1 G5)) ∨ (E6 = "java/lang/IllegalArgumentException" ∧ (post 2 G5)) ∨ (E6 = "java/lang/IllegalStateException" ∧ (post 3 G5)) ∨ (E6 = "java/lang/UnsupportedOperationException" ∧ (post 4 G5))) G p0 p1 p2 p3
set_option maxRecDepth 100000 in
set_option maxHeartbeats 4000000 in
theorem mL_invoice (l : Launch) (hl0 : l.stackTraces = false) (D : va_G) (AC : Nat → ClassId) (sa : gh_SA) (p0 : Nat) (p1 : Int32) (p2 : Int64) (p3 : Int32) (p4 : Nat) (post : Int32 → gh_H → Prop) (px : String → gh_H → Prop) (G : gh_H) (sz : Nat) (hw : wL_invoice post px G p0 p1 p2 p3 p4) : vx_Met l yL_invoice wsL_invoice rmL_invoice (gh_Pc D vwCl AC (gh_ty AC) (gh_En sa) G sz [.ref p0, .int p1, .long p2, .int p3, .ref p4]) (va_Qi post (gh_B D vwCl AC (gh_A G sz)) (gh_A G sz)) (gh_X D vwCl AC px (gh_A G sz)) 5 29 (gh_A G sz) := by
  refine vx_ofWH (cc := method_14_code) (maxL := 7) (ret := (some .int)) (hh := [(0, 13, 16, 19), (0, 13, 20, 21), (0, 13, 24, 31), (0, 13, 28, 13)]) (by decide) rfl ?_
  intro p e s m args below meth c s₁ B hml hv
  obtain ⟨rfl, hsz, hP, hK, hE⟩ := hv
  have hx := B.exec
  have hb := B.bytes
  have hr := B.returns
  have hts := atoms_spec (ws := wsL_invoice) B.pre
  have hown : s.vm.findClass "OwnerLedgerLaw" = some m.cls := findClass_of_methodNamed B.named
  have hlocks := B.notSynchronized
  have htb : c.exceptionTable.toList = [⟨0, 13, 16, 19⟩, ⟨0, 13, 20, 21⟩, ⟨0, 13, 24, 31⟩, ⟨0, 13, 28, 13⟩] := vx_table (x := yL_invoice) B (hts _ List.mem_cons_self)
  subst hsz
  have hA : ∀ q, s.heap.size ≤ q → gh_A G s.heap.size q := fun q h => Or.inr h
  generalize gh_A G s.heap.size = A at hP hE hA ⊢
  have CX : cxL_invoice p s m [.ref p0, .int p1, .long p2, .int p3, .ref p4].toArray meth c D AC sa A := ⟨⟨hx, hb, hml, hown, hts⟩, hr, hlocks, htb, hK, hE, hA⟩
  have hS : va_S A s.heap s.heap [] := va_S.rf
  have hl := lv_entry ([.ref p0, .int p1, .long p2, .int p3, .ref p4]) (n := 7) (Nat.le_of_ble_eq_true rfl)
  rw [lg_entry_eq]
  generalize (lg_sl ([.ref p0, .int p1, .long p2, .int p3, .ref p4]) ++ List.replicate (7 - (lg_sl ([.ref p0, .int p1, .long p2, .int p3, .ref p4])).length) Slot.unset).toArray = ls at hl ⊢
  have hl : lv_has ls 7 [(0, .ref p0), (1, .int p1), (2, .long p2), (4, .int p3), (5, .ref p4)] := hl
  dsimp only [wL_invoice] at hw
  refine lv_aload hx hb dL_invoice_0 (lv_at hl 4 rfl) ?_
  refine lv_iconst (v := 0) hx hb dL_invoice_2 (by decide) ?_
  refine lv_aload_n hx hb dL_invoice_3 rfl (lv_at hl 0 rfl) ?_
  refine lv_iload_n hx hb dL_invoice_4 rfl (lv_at hl 1 rfl) ?_
  refine lv_lload_n hx hb dL_invoice_5 rfl (lv_at hl 2 rfl) ?_
  refine lv_iload hx hb dL_invoice_6 (lv_at hl 3 rfl) ?_
  obtain ⟨fs3, he4, hw⟩ := hw
  refine gh_cxi (vx_runV (C := "OwnerLedger") (As := [.int p1, .long p2, .int p3]) (rest := [.int 0, .ref p4]) ⟨hx, hb, hml, hown, hts⟩ (mX4_invoice l hl0 D AC sa _ _ _ _ _ _ _ _ hw) (cwV 3 hts (gV kw_243 kw_244 kw_245 kw_1 kw_246) rfl rfl rfl (by decide +kernel) ⟨Nat.le_of_ble_eq_true rfl, Nat.le_of_ble_eq_true rfl⟩) (gh_preV gh_En_ok hK hE hP hS hA he4 rfl _) rfl rfl hl.1 rfl (lv_room (Nat.le_of_ble_eq_true rfl)) dL_invoice_8 ⟨Nat.le_of_ble_eq_true rfl, Nat.le_of_ble_eq_true rfl⟩) hP hS hA (fun E6 ce9 q7 G5 H locs hw2 hP hS hce hcv hcl => ?_) (fun r1 G2 H locs hw2 hP hS => ?_)
  · replace hw := hw2
    clear hw2
    rcases hw with ⟨rfl, hw⟩ | ⟨rfl, hw⟩ | ⟨rfl, hw⟩ | ⟨rfl, hw⟩
    · refine vx_catch (own := "OwnerLedgerLaw") (name := "java/util/NoSuchElementException") (E := "java/util/NoSuchElementException") hown [] ⟨0, 13, 16, 19⟩ [⟨0, 13, 20, 21⟩, ⟨0, 13, 24, 31⟩, ⟨0, 13, 28, 13⟩] (by rw [htb]; rfl) (fun z hz => nomatch hz) (by decide) (by decide) (hts _ (gT_up kw_74)) (va_Nw.use rfl (gh_cst hE (by decide))) hce hcv hcl ?_
      refine lv_astore (lv' := [(6, .ref q7), (0, .ref p0), (1, .int p1), (2, .long p2), (4, .int p3), (5, .ref p4)]) hx hb dL_invoice_16 hl (by decide) rfl (fun ls hl => ?_)
      refine lv_iconst (v := 1) hx hb dL_invoice_18 (by decide) ?_
      exact gh_iret hx hb hr hlocks hw hP hS (Nat.le_of_ble_eq_true rfl) (Nat.le_of_ble_eq_true rfl) dL_invoice_19
    · refine vx_catch (own := "OwnerLedgerLaw") (name := "java/lang/IllegalArgumentException") (E := "java/lang/IllegalArgumentException") hown [⟨0, 13, 16, 19⟩] ⟨0, 13, 20, 21⟩ [⟨0, 13, 24, 31⟩, ⟨0, 13, 28, 13⟩] (by rw [htb]; rfl) (by intro z hz; simp only [List.mem_cons, List.not_mem_nil, or_false] at hz; rcases hz with rfl <;> first | exact Or.inr ⟨by decide, "java/util/NoSuchElementException", (hts _ (gT_up kw_74)), gh_ncs hE (by decide)⟩) (by decide) (by decide) (hts _ (gT_up kw_75)) (va_Nw.use rfl (gh_cst hE (by decide))) hce hcv hcl ?_
      refine lv_astore (lv' := [(6, .ref q7), (0, .ref p0), (1, .int p1), (2, .long p2), (4, .int p3), (5, .ref p4)]) hx hb dL_invoice_20 hl (by decide) rfl (fun ls hl => ?_)
      refine lv_iconst (v := 2) hx hb dL_invoice_22 (by decide) ?_
      exact gh_iret hx hb hr hlocks hw hP hS (Nat.le_of_ble_eq_true rfl) (Nat.le_of_ble_eq_true rfl) dL_invoice_23
    · refine vx_catch (own := "OwnerLedgerLaw") (name := "java/lang/IllegalStateException") (E := "java/lang/IllegalStateException") hown [⟨0, 13, 16, 19⟩, ⟨0, 13, 20, 21⟩] ⟨0, 13, 24, 31⟩ [⟨0, 13, 28, 13⟩] (by rw [htb]; rfl) (by intro z hz; simp only [List.mem_cons, List.not_mem_nil, or_false] at hz; rcases hz with rfl | rfl <;> first | exact Or.inr ⟨by decide, "java/util/NoSuchElementException", (hts _ (gT_up kw_74)), gh_ncs hE (by decide)⟩ | exact Or.inr ⟨by decide, "java/lang/IllegalArgumentException", (hts _ (gT_up kw_75)), gh_ncs hE (by decide)⟩) (by decide) (by decide) (hts _ (gT_up kw_108)) (va_Nw.use rfl (gh_cst hE (by decide))) hce hcv hcl ?_
      refine lv_astore (lv' := [(6, .ref q7), (0, .ref p0), (1, .int p1), (2, .long p2), (4, .int p3), (5, .ref p4)]) hx hb dL_invoice_24 hl (by decide) rfl (fun ls hl => ?_)
      refine lv_iconst (v := 3) hx hb dL_invoice_26 (by decide) ?_
      exact gh_iret hx hb hr hlocks hw hP hS (Nat.le_of_ble_eq_true rfl) (Nat.le_of_ble_eq_true rfl) dL_invoice_27
    · refine vx_catch (own := "OwnerLedgerLaw") (name := "java/lang/UnsupportedOperationException") (E := "java/lang/UnsupportedOperationException") hown [⟨0, 13, 16, 19⟩, ⟨0, 13, 20, 21⟩, ⟨0, 13, 24, 31⟩] ⟨0, 13, 28, 13⟩ [] (by rw [htb]; rfl) (by intro z hz; simp only [List.mem_cons, List.not_mem_nil, or_false] at hz; rcases hz with rfl | rfl | rfl <;> first | exact Or.inr ⟨by decide, "java/util/NoSuchElementException", (hts _ (gT_up kw_74)), gh_ncs hE (by decide)⟩ | exact Or.inr ⟨by decide, "java/lang/IllegalArgumentException", (hts _ (gT_up kw_75)), gh_ncs hE (by decide)⟩ | exact Or.inr ⟨by decide, "java/lang/IllegalStateException", (hts _ (gT_up kw_108)), gh_ncs hE (by decide)⟩) (by decide) (by decide) (hts _ (gT_up kw_51)) (va_Nw.use rfl (gh_cst hE (by decide))) hce hcv hcl ?_
      refine lv_astore (lv' := [(6, .ref q7), (0, .ref p0), (1, .int p1), (2, .long p2), (4, .int p3), (5, .ref p4)]) hx hb dL_invoice_28 hl (by decide) rfl (fun ls hl => ?_)
      refine lv_iconst (v := 4) hx hb dL_invoice_30 (by decide) ?_
      exact gh_iret hx hb hr hlocks hw hP hS (Nat.le_of_ble_eq_true rfl) (Nat.le_of_ble_eq_true rfl) dL_invoice_31
  replace hw := hw2
  clear hw2
  refine lv_i2l hx hb dL_invoice_11 rfl ?_
  obtain ⟨n8, f9, he10, hi11, hw⟩ := hw
  refine gh_last hx hb hK hP hS he10 rfl hi11 dL_invoice_12 (fun G13 H locs eG12 hP hS => ?_)
  replace hw := hw G13 eG12
  refine lv_goto (tgt := 32) hx hb dL_invoice_13 (by decide) ?_
  refine lv_iconst (v := 0) hx hb dL_invoice_32 (by decide) ?_
  exact gh_iret hx hb hr hlocks hw hP hS (Nat.le_of_ble_eq_true rfl) (Nat.le_of_ble_eq_true rfl) dL_invoice_33
abbrev rmL_pay : Room := { frames := 8, cells := 2, slots := 12, locals := 136 }
abbrev cxL_pay (p : Program) (s : State) (m : MethodId) (args : Array Value) (meth : Method) (c : Code) (D : va_G) (AC : Nat → ClassId) (sa : gh_SA) (A : Nat → Prop) : Prop := CallFix p m c method_15_code 6 s args wsL_pay "OwnerLedgerLaw" ∧ meth.sig.returnType = (some .int) ∧ meth.locks = false ∧ c.exceptionTable.toList = [⟨0, 11, 14, 19⟩, ⟨0, 11, 18, 21⟩] ∧ va_K D vwCl (gh_ty AC) s ∧ gh_En sa A s s.heap ∧ (∀ q, s.heap.size ≤ q → A q)
def wL_pay (post : Int32 → gh_H → Prop) (px : String → gh_H → Prop) (G : gh_H) (p0 : Nat) (p1 : Int32) (p2 : Int64) (p3 : Nat) : Prop := ∃ fs3 : List Value, G p0 = some (.inr (4, fs3)) ∧ wX4_pay (fun r1 G2 => ∃ (n8 : Nat) (f9 : Nat → Int64), G2 p3 = some (.inl (1, n8, .inr (.inl f9))) ∧ vp_in 0 n8 ∧ (∀ G13 : gh_H, G13 = gh_up G2 p3 (.inl (1, n8, .inr (.inl (vp_updL f9 (Int32.toNatClampNeg 0) (Int32.toInt64 r1))))) → post 0 G13)) (fun E6 G5 => (E6 = "java/util/NoSuchElementException" ∧ (post 1 G5)) ∨ (E6 = "java/lang/IllegalArgumentException" ∧ (post 2 G5))) G p0 p1 p2
set_option maxRecDepth 100000 in
set_option maxHeartbeats 4000000 in
theorem mL_pay (l : Launch) (hl0 : l.stackTraces = false) (D : va_G) (AC : Nat → ClassId) (sa : gh_SA) (p0 : Nat) (p1 : Int32) (p2 : Int64) (p3 : Nat) (post : Int32 → gh_H → Prop) (px : String → gh_H → Prop) (G : gh_H) (sz : Nat) (hw : wL_pay post px G p0 p1 p2 p3) : vx_Met l yL_pay wsL_pay rmL_pay (gh_Pc D vwCl AC (gh_ty AC) (gh_En sa) G sz [.ref p0, .int p1, .long p2, .ref p3]) (va_Qi post (gh_B D vwCl AC (gh_A G sz)) (gh_A G sz)) (gh_X D vwCl AC px (gh_A G sz)) 2 12 (gh_A G sz) := by
  refine vx_ofWH (cc := method_15_code) (maxL := 6) (ret := (some .int)) (hh := [(0, 11, 14, 19), (0, 11, 18, 21)]) (by decide) rfl ?_
  intro p e s m args below meth c s₁ B hml hv
  obtain ⟨rfl, hsz, hP, hK, hE⟩ := hv
  have hx := B.exec
  have hb := B.bytes
  have hr := B.returns
  have hts := atoms_spec (ws := wsL_pay) B.pre
  have hown : s.vm.findClass "OwnerLedgerLaw" = some m.cls := findClass_of_methodNamed B.named
  have hlocks := B.notSynchronized
  have htb : c.exceptionTable.toList = [⟨0, 11, 14, 19⟩, ⟨0, 11, 18, 21⟩] := vx_table (x := yL_pay) B (hts _ List.mem_cons_self)
  subst hsz
  have hA : ∀ q, s.heap.size ≤ q → gh_A G s.heap.size q := fun q h => Or.inr h
  generalize gh_A G s.heap.size = A at hP hE hA ⊢
  have CX : cxL_pay p s m [.ref p0, .int p1, .long p2, .ref p3].toArray meth c D AC sa A := ⟨⟨hx, hb, hml, hown, hts⟩, hr, hlocks, htb, hK, hE, hA⟩
  have hS : va_S A s.heap s.heap [] := va_S.rf
  have hl := lv_entry ([.ref p0, .int p1, .long p2, .ref p3]) (n := 6) (Nat.le_of_ble_eq_true rfl)
  rw [lg_entry_eq]
  generalize (lg_sl ([.ref p0, .int p1, .long p2, .ref p3]) ++ List.replicate (6 - (lg_sl ([.ref p0, .int p1, .long p2, .ref p3])).length) Slot.unset).toArray = ls at hl ⊢
  have hl : lv_has ls 6 [(0, .ref p0), (1, .int p1), (2, .long p2), (4, .ref p3)] := hl
  dsimp only [wL_pay] at hw
  refine lv_aload hx hb dL_pay_0 (lv_at hl 3 rfl) ?_
  refine lv_iconst (v := 0) hx hb dL_pay_2 (by decide) ?_
  refine lv_aload_n hx hb dL_pay_3 rfl (lv_at hl 0 rfl) ?_
  refine lv_iload_n hx hb dL_pay_4 rfl (lv_at hl 1 rfl) ?_
  refine lv_lload_n hx hb dL_pay_5 rfl (lv_at hl 2 rfl) ?_
  obtain ⟨fs3, he4, hw⟩ := hw
  refine gh_cxi (vx_runV (C := "OwnerLedger") (As := [.int p1, .long p2]) (rest := [.int 0, .ref p3]) ⟨hx, hb, hml, hown, hts⟩ (mX4_pay l hl0 D AC sa _ _ _ _ _ _ _ hw) (cwV 2 hts (gV kw_271 kw_272 kw_273 kw_1 kw_274) rfl rfl rfl (by decide +kernel) ⟨Nat.le_of_ble_eq_true rfl, Nat.le_of_ble_eq_true rfl⟩) (gh_preV gh_En_ok hK hE hP hS hA he4 rfl _) rfl rfl hl.1 rfl (lv_room (Nat.le_of_ble_eq_true rfl)) dL_pay_6 ⟨Nat.le_of_ble_eq_true rfl, Nat.le_of_ble_eq_true rfl⟩) hP hS hA (fun E6 ce9 q7 G5 H locs hw2 hP hS hce hcv hcl => ?_) (fun r1 G2 H locs hw2 hP hS => ?_)
  · replace hw := hw2
    clear hw2
    rcases hw with ⟨rfl, hw⟩ | ⟨rfl, hw⟩
    · refine vx_catch (own := "OwnerLedgerLaw") (name := "java/util/NoSuchElementException") (E := "java/util/NoSuchElementException") hown [] ⟨0, 11, 14, 19⟩ [⟨0, 11, 18, 21⟩] (by rw [htb]; rfl) (fun z hz => nomatch hz) (by decide) (by decide) (hts _ (gT_up kw_74)) (va_Nw.use rfl (gh_cst hE (by decide))) hce hcv hcl ?_
      refine lv_astore (lv' := [(5, .ref q7), (0, .ref p0), (1, .int p1), (2, .long p2), (4, .ref p3)]) hx hb dL_pay_14 hl (by decide) rfl (fun ls hl => ?_)
      refine lv_iconst (v := 1) hx hb dL_pay_16 (by decide) ?_
      exact gh_iret hx hb hr hlocks hw hP hS (Nat.le_of_ble_eq_true rfl) (Nat.le_of_ble_eq_true rfl) dL_pay_17
    · refine vx_catch (own := "OwnerLedgerLaw") (name := "java/lang/IllegalArgumentException") (E := "java/lang/IllegalArgumentException") hown [⟨0, 11, 14, 19⟩] ⟨0, 11, 18, 21⟩ [] (by rw [htb]; rfl) (by intro z hz; simp only [List.mem_cons, List.not_mem_nil, or_false] at hz; rcases hz with rfl <;> first | exact Or.inr ⟨by decide, "java/util/NoSuchElementException", (hts _ (gT_up kw_74)), gh_ncs hE (by decide)⟩) (by decide) (by decide) (hts _ (gT_up kw_75)) (va_Nw.use rfl (gh_cst hE (by decide))) hce hcv hcl ?_
      refine lv_astore (lv' := [(5, .ref q7), (0, .ref p0), (1, .int p1), (2, .long p2), (4, .ref p3)]) hx hb dL_pay_18 hl (by decide) rfl (fun ls hl => ?_)
      refine lv_iconst (v := 2) hx hb dL_pay_20 (by decide) ?_
      exact gh_iret hx hb hr hlocks hw hP hS (Nat.le_of_ble_eq_true rfl) (Nat.le_of_ble_eq_true rfl) dL_pay_21
  replace hw := hw2
  clear hw2
  refine lv_i2l hx hb dL_pay_9 rfl ?_
  obtain ⟨n8, f9, he10, hi11, hw⟩ := hw
  refine gh_last hx hb hK hP hS he10 rfl hi11 dL_pay_10 (fun G13 H locs eG12 hP hS => ?_)
  replace hw := hw G13 eG12
  refine lv_goto (tgt := 22) hx hb dL_pay_11 (by decide) ?_
  refine lv_iconst (v := 0) hx hb dL_pay_22 (by decide) ?_
  exact gh_iret hx hb hr hlocks hw hP hS (Nat.le_of_ble_eq_true rfl) (Nat.le_of_ble_eq_true rfl) dL_pay_23
abbrev rmL_settle : Room := { frames := 8, cells := 3, slots := 18, locals := 132 }
abbrev cxL_settle (p : Program) (s : State) (m : MethodId) (args : Array Value) (meth : Method) (c : Code) (D : va_G) (AC : Nat → ClassId) (sa : gh_SA) (A : Nat → Prop) : Prop := CallFix p m c method_16_code 6 s args wsL_settle "OwnerLedgerLaw" ∧ meth.sig.returnType = (some .int) ∧ meth.locks = false ∧ c.exceptionTable.toList = [⟨0, 10, 13, 19⟩, ⟨0, 10, 17, 21⟩] ∧ va_K D vwCl (gh_ty AC) s ∧ gh_En sa A s s.heap ∧ (∀ q, s.heap.size ≤ q → A q)
def wL_settle (post : Int32 → gh_H → Prop) (px : String → gh_H → Prop) (G : gh_H) (p0 : Nat) (p1 : Int32) (p2 : Int64) (p3 : Nat) : Prop := ∃ fs3 : List Value, G p0 = some (.inr (4, fs3)) ∧ wX4_settle (fun r1 G2 => ∃ (n8 : Nat) (f9 : Nat → Int64), G2 p3 = some (.inl (1, n8, .inr (.inl f9))) ∧ vp_in 0 n8 ∧ (∀ G13 : gh_H, G13 = gh_up G2 p3 (.inl (1, n8, .inr (.inl (vp_updL f9 (Int32.toNatClampNeg 0) r1)))) → post 0 G13)) (fun E6 G5 => (E6 = "java/util/NoSuchElementException" ∧ (post 1 G5)) ∨ (E6 = "java/lang/IllegalArgumentException" ∧ (post 2 G5))) G p0 p1 p2
set_option maxRecDepth 100000 in
set_option maxHeartbeats 4000000 in
theorem mL_settle (l : Launch) (hl0 : l.stackTraces = false) (D : va_G) (AC : Nat → ClassId) (sa : gh_SA) (p0 : Nat) (p1 : Int32) (p2 : Int64) (p3 : Nat) (post : Int32 → gh_H → Prop) (px : String → gh_H → Prop) (G : gh_H) (sz : Nat) (hw : wL_settle post px G p0 p1 p2 p3) : vx_Met l yL_settle wsL_settle rmL_settle (gh_Pc D vwCl AC (gh_ty AC) (gh_En sa) G sz [.ref p0, .int p1, .long p2, .ref p3]) (va_Qi post (gh_B D vwCl AC (gh_A G sz)) (gh_A G sz)) (gh_X D vwCl AC px (gh_A G sz)) 3 18 (gh_A G sz) := by
  refine vx_ofWH (cc := method_16_code) (maxL := 6) (ret := (some .int)) (hh := [(0, 10, 13, 19), (0, 10, 17, 21)]) (by decide) rfl ?_
  intro p e s m args below meth c s₁ B hml hv
  obtain ⟨rfl, hsz, hP, hK, hE⟩ := hv
  have hx := B.exec
  have hb := B.bytes
  have hr := B.returns
  have hts := atoms_spec (ws := wsL_settle) B.pre
  have hown : s.vm.findClass "OwnerLedgerLaw" = some m.cls := findClass_of_methodNamed B.named
  have hlocks := B.notSynchronized
  have htb : c.exceptionTable.toList = [⟨0, 10, 13, 19⟩, ⟨0, 10, 17, 21⟩] := vx_table (x := yL_settle) B (hts _ List.mem_cons_self)
  subst hsz
  have hA : ∀ q, s.heap.size ≤ q → gh_A G s.heap.size q := fun q h => Or.inr h
  generalize gh_A G s.heap.size = A at hP hE hA ⊢
  have CX : cxL_settle p s m [.ref p0, .int p1, .long p2, .ref p3].toArray meth c D AC sa A := ⟨⟨hx, hb, hml, hown, hts⟩, hr, hlocks, htb, hK, hE, hA⟩
  have hS : va_S A s.heap s.heap [] := va_S.rf
  have hl := lv_entry ([.ref p0, .int p1, .long p2, .ref p3]) (n := 6) (Nat.le_of_ble_eq_true rfl)
  rw [lg_entry_eq]
  generalize (lg_sl ([.ref p0, .int p1, .long p2, .ref p3]) ++ List.replicate (6 - (lg_sl ([.ref p0, .int p1, .long p2, .ref p3])).length) Slot.unset).toArray = ls at hl ⊢
  have hl : lv_has ls 6 [(0, .ref p0), (1, .int p1), (2, .long p2), (4, .ref p3)] := hl
  dsimp only [wL_settle] at hw
  refine lv_aload hx hb dL_settle_0 (lv_at hl 3 rfl) ?_
  refine lv_iconst (v := 0) hx hb dL_settle_2 (by decide) ?_
  refine lv_aload_n hx hb dL_settle_3 rfl (lv_at hl 0 rfl) ?_
  refine lv_iload_n hx hb dL_settle_4 rfl (lv_at hl 1 rfl) ?_
  refine lv_lload_n hx hb dL_settle_5 rfl (lv_at hl 2 rfl) ?_
  obtain ⟨fs3, he4, hw⟩ := hw
  refine gh_cxl (vx_runV (C := "OwnerLedger") (As := [.int p1, .long p2]) (rest := [.int 0, .ref p3]) ⟨hx, hb, hml, hown, hts⟩ (mX4_settle l hl0 D AC sa _ _ _ _ _ _ _ hw) (cwV 2 hts (gV kw_281 kw_282 kw_283 kw_1 kw_284) rfl rfl rfl (by decide +kernel) ⟨Nat.le_of_ble_eq_true rfl, Nat.le_of_ble_eq_true rfl⟩) (gh_preV gh_En_ok hK hE hP hS hA he4 rfl _) rfl rfl hl.1 rfl (lv_room (Nat.le_of_ble_eq_true rfl)) dL_settle_6 ⟨Nat.le_of_ble_eq_true rfl, Nat.le_of_ble_eq_true rfl⟩) hP hS hA (fun E6 ce9 q7 G5 H locs hw2 hP hS hce hcv hcl => ?_) (fun r1 G2 H locs hw2 hP hS => ?_)
  · replace hw := hw2
    clear hw2
    rcases hw with ⟨rfl, hw⟩ | ⟨rfl, hw⟩
    · refine vx_catch (own := "OwnerLedgerLaw") (name := "java/util/NoSuchElementException") (E := "java/util/NoSuchElementException") hown [] ⟨0, 10, 13, 19⟩ [⟨0, 10, 17, 21⟩] (by rw [htb]; rfl) (fun z hz => nomatch hz) (by decide) (by decide) (hts _ (gT_up kw_74)) (va_Nw.use rfl (gh_cst hE (by decide))) hce hcv hcl ?_
      refine lv_astore (lv' := [(5, .ref q7), (0, .ref p0), (1, .int p1), (2, .long p2), (4, .ref p3)]) hx hb dL_settle_13 hl (by decide) rfl (fun ls hl => ?_)
      refine lv_iconst (v := 1) hx hb dL_settle_15 (by decide) ?_
      exact gh_iret hx hb hr hlocks hw hP hS (Nat.le_of_ble_eq_true rfl) (Nat.le_of_ble_eq_true rfl) dL_settle_16
    · refine vx_catch (own := "OwnerLedgerLaw") (name := "java/lang/IllegalArgumentException") (E := "java/lang/IllegalArgumentException") hown [⟨0, 10, 13, 19⟩] ⟨0, 10, 17, 21⟩ [] (by rw [htb]; rfl) (by intro z hz; simp only [List.mem_cons, List.not_mem_nil, or_false] at hz; rcases hz with rfl <;> first | exact Or.inr ⟨by decide, "java/util/NoSuchElementException", (hts _ (gT_up kw_74)), gh_ncs hE (by decide)⟩) (by decide) (by decide) (hts _ (gT_up kw_75)) (va_Nw.use rfl (gh_cst hE (by decide))) hce hcv hcl ?_
      refine lv_astore (lv' := [(5, .ref q7), (0, .ref p0), (1, .int p1), (2, .long p2), (4, .ref p3)]) hx hb dL_settle_17 hl (by decide) rfl (fun ls hl => ?_)
      refine lv_iconst (v := 2) hx hb dL_settle_19 (by decide) ?_
      exact gh_iret hx hb hr hlocks hw hP hS (Nat.le_of_ble_eq_true rfl) (Nat.le_of_ble_eq_true rfl) dL_settle_20
  replace hw := hw2
  clear hw2
  obtain ⟨n8, f9, he10, hi11, hw⟩ := hw
  refine gh_last hx hb hK hP hS he10 rfl hi11 dL_settle_9 (fun G13 H locs eG12 hP hS => ?_)
  replace hw := hw G13 eG12
  refine lv_goto (tgt := 21) hx hb dL_settle_10 (by decide) ?_
  refine lv_iconst (v := 0) hx hb dL_settle_21 (by decide) ?_
  exact gh_iret hx hb hr hlocks hw hP hS (Nat.le_of_ble_eq_true rfl) (Nat.le_of_ble_eq_true rfl) dL_settle_22
abbrev rmL_dispute : Room := { frames := 8, cells := 2, slots := 12, locals := 127 }
abbrev cxL_dispute (p : Program) (s : State) (m : MethodId) (args : Array Value) (meth : Method) (c : Code) (D : va_G) (AC : Nat → ClassId) (sa : gh_SA) (A : Nat → Prop) : Prop := CallFix p m c method_17_code 5 s args wsL_dispute "OwnerLedgerLaw" ∧ meth.sig.returnType = (some .int) ∧ meth.locks = false ∧ c.exceptionTable.toList = [⟨0, 9, 12, 19⟩, ⟨0, 9, 16, 31⟩] ∧ va_K D vwCl (gh_ty AC) s ∧ gh_En sa A s s.heap ∧ (∀ q, s.heap.size ≤ q → A q)
def wL_dispute (post : Int32 → gh_H → Prop) (px : String → gh_H → Prop) (G : gh_H) (p0 : Nat) (p1 : Int32) (p2 : Int32) (p3 : Nat) : Prop := ∃ fs3 : List Value, G p0 = some (.inr (4, fs3)) ∧ wX4_dispute (fun r1 G2 => ∃ (n8 : Nat) (f9 : Nat → Int64), G2 p3 = some (.inl (1, n8, .inr (.inl f9))) ∧ vp_in 0 n8 ∧ (∀ G13 : gh_H, G13 = gh_up G2 p3 (.inl (1, n8, .inr (.inl (vp_updL f9 (Int32.toNatClampNeg 0) r1)))) → post 0 G13)) (fun E6 G5 => (E6 = "java/util/NoSuchElementException" ∧ (post 1 G5)) ∨ (E6 = "java/lang/IllegalStateException" ∧ (post 2 G5))) G p0 p1 p2
set_option maxRecDepth 100000 in
set_option maxHeartbeats 4000000 in
theorem mL_dispute (l : Launch) (hl0 : l.stackTraces = false) (D : va_G) (AC : Nat → ClassId) (sa : gh_SA) (p0 : Nat) (p1 : Int32) (p2 : Int32) (p3 : Nat) (post : Int32 → gh_H → Prop) (px : String → gh_H → Prop) (G : gh_H) (sz : Nat) (hw : wL_dispute post px G p0 p1 p2 p3) : vx_Met l yL_dispute wsL_dispute rmL_dispute (gh_Pc D vwCl AC (gh_ty AC) (gh_En sa) G sz [.ref p0, .int p1, .int p2, .ref p3]) (va_Qi post (gh_B D vwCl AC (gh_A G sz)) (gh_A G sz)) (gh_X D vwCl AC px (gh_A G sz)) 2 12 (gh_A G sz) := by
  refine vx_ofWH (cc := method_17_code) (maxL := 5) (ret := (some .int)) (hh := [(0, 9, 12, 19), (0, 9, 16, 31)]) (by decide) rfl ?_
  intro p e s m args below meth c s₁ B hml hv
  obtain ⟨rfl, hsz, hP, hK, hE⟩ := hv
  have hx := B.exec
  have hb := B.bytes
  have hr := B.returns
  have hts := atoms_spec (ws := wsL_dispute) B.pre
  have hown : s.vm.findClass "OwnerLedgerLaw" = some m.cls := findClass_of_methodNamed B.named
  have hlocks := B.notSynchronized
  have htb : c.exceptionTable.toList = [⟨0, 9, 12, 19⟩, ⟨0, 9, 16, 31⟩] := vx_table (x := yL_dispute) B (hts _ List.mem_cons_self)
  subst hsz
  have hA : ∀ q, s.heap.size ≤ q → gh_A G s.heap.size q := fun q h => Or.inr h
  generalize gh_A G s.heap.size = A at hP hE hA ⊢
  have CX : cxL_dispute p s m [.ref p0, .int p1, .int p2, .ref p3].toArray meth c D AC sa A := ⟨⟨hx, hb, hml, hown, hts⟩, hr, hlocks, htb, hK, hE, hA⟩
  have hS : va_S A s.heap s.heap [] := va_S.rf
  have hl := lv_entry ([.ref p0, .int p1, .int p2, .ref p3]) (n := 5) (Nat.le_of_ble_eq_true rfl)
  rw [lg_entry_eq]
  generalize (lg_sl ([.ref p0, .int p1, .int p2, .ref p3]) ++ List.replicate (5 - (lg_sl ([.ref p0, .int p1, .int p2, .ref p3])).length) Slot.unset).toArray = ls at hl ⊢
  have hl : lv_has ls 5 [(0, .ref p0), (1, .int p1), (2, .int p2), (3, .ref p3)] := hl
  dsimp only [wL_dispute] at hw
  refine lv_aload_n hx hb dL_dispute_0 rfl (lv_at hl 3 rfl) ?_
  refine lv_iconst (v := 0) hx hb dL_dispute_1 (by decide) ?_
  refine lv_aload_n hx hb dL_dispute_2 rfl (lv_at hl 0 rfl) ?_
  refine lv_iload_n hx hb dL_dispute_3 rfl (lv_at hl 1 rfl) ?_
  refine lv_iload_n hx hb dL_dispute_4 rfl (lv_at hl 2 rfl) ?_
  obtain ⟨fs3, he4, hw⟩ := hw
  refine gh_cxl (vx_runV (C := "OwnerLedger") (As := [.int p1, .int p2]) (rest := [.int 0, .ref p3]) ⟨hx, hb, hml, hown, hts⟩ (mX4_dispute l hl0 D AC sa _ _ _ _ _ _ _ hw) (cwV 2 hts (gV kw_291 kw_292 kw_293 kw_1 kw_294) rfl rfl rfl (by decide +kernel) ⟨Nat.le_of_ble_eq_true rfl, Nat.le_of_ble_eq_true rfl⟩) (gh_preV gh_En_ok hK hE hP hS hA he4 rfl _) rfl rfl hl.1 rfl (lv_room (Nat.le_of_ble_eq_true rfl)) dL_dispute_5 ⟨Nat.le_of_ble_eq_true rfl, Nat.le_of_ble_eq_true rfl⟩) hP hS hA (fun E6 ce9 q7 G5 H locs hw2 hP hS hce hcv hcl => ?_) (fun r1 G2 H locs hw2 hP hS => ?_)
  · replace hw := hw2
    clear hw2
    rcases hw with ⟨rfl, hw⟩ | ⟨rfl, hw⟩
    · refine vx_catch (own := "OwnerLedgerLaw") (name := "java/util/NoSuchElementException") (E := "java/util/NoSuchElementException") hown [] ⟨0, 9, 12, 19⟩ [⟨0, 9, 16, 31⟩] (by rw [htb]; rfl) (fun z hz => nomatch hz) (by decide) (by decide) (hts _ (gT_up kw_74)) (va_Nw.use rfl (gh_cst hE (by decide))) hce hcv hcl ?_
      refine lv_astore (lv' := [(4, .ref q7), (0, .ref p0), (1, .int p1), (2, .int p2), (3, .ref p3)]) hx hb dL_dispute_12 hl (by decide) rfl (fun ls hl => ?_)
      refine lv_iconst (v := 1) hx hb dL_dispute_14 (by decide) ?_
      exact gh_iret hx hb hr hlocks hw hP hS (Nat.le_of_ble_eq_true rfl) (Nat.le_of_ble_eq_true rfl) dL_dispute_15
    · refine vx_catch (own := "OwnerLedgerLaw") (name := "java/lang/IllegalStateException") (E := "java/lang/IllegalStateException") hown [⟨0, 9, 12, 19⟩] ⟨0, 9, 16, 31⟩ [] (by rw [htb]; rfl) (by intro z hz; simp only [List.mem_cons, List.not_mem_nil, or_false] at hz; rcases hz with rfl <;> first | exact Or.inr ⟨by decide, "java/util/NoSuchElementException", (hts _ (gT_up kw_74)), gh_ncs hE (by decide)⟩) (by decide) (by decide) (hts _ (gT_up kw_108)) (va_Nw.use rfl (gh_cst hE (by decide))) hce hcv hcl ?_
      refine lv_astore (lv' := [(4, .ref q7), (0, .ref p0), (1, .int p1), (2, .int p2), (3, .ref p3)]) hx hb dL_dispute_16 hl (by decide) rfl (fun ls hl => ?_)
      refine lv_iconst (v := 2) hx hb dL_dispute_18 (by decide) ?_
      exact gh_iret hx hb hr hlocks hw hP hS (Nat.le_of_ble_eq_true rfl) (Nat.le_of_ble_eq_true rfl) dL_dispute_19
  replace hw := hw2
  clear hw2
  obtain ⟨n8, f9, he10, hi11, hw⟩ := hw
  refine gh_last hx hb hK hP hS he10 rfl hi11 dL_dispute_8 (fun G13 H locs eG12 hP hS => ?_)
  replace hw := hw G13 eG12
  refine lv_goto (tgt := 20) hx hb dL_dispute_9 (by decide) ?_
  refine lv_iconst (v := 0) hx hb dL_dispute_20 (by decide) ?_
  exact gh_iret hx hb hr hlocks hw hP hS (Nat.le_of_ble_eq_true rfl) (Nat.le_of_ble_eq_true rfl) dL_dispute_21
abbrev rmL_dun : Room := { frames := 8, cells := 2, slots := 12, locals := 126 }
abbrev cxL_dun (p : Program) (s : State) (m : MethodId) (args : Array Value) (meth : Method) (c : Code) (D : va_G) (AC : Nat → ClassId) (sa : gh_SA) (A : Nat → Prop) : Prop := CallFix p m c method_18_code 4 s args wsL_dun "OwnerLedgerLaw" ∧ meth.sig.returnType = (some .int) ∧ meth.locks = false ∧ c.exceptionTable.toList = [⟨0, 9, 12, 19⟩, ⟨0, 9, 15, 31⟩] ∧ va_K D vwCl (gh_ty AC) s ∧ gh_En sa A s s.heap ∧ (∀ q, s.heap.size ≤ q → A q)
def wL_dun (post : Int32 → gh_H → Prop) (px : String → gh_H → Prop) (G : gh_H) (p0 : Nat) (p1 : Int32) (p2 : Nat) : Prop := ∃ fs3 : List Value, G p0 = some (.inr (4, fs3)) ∧ wX4_dun (fun r1 G2 => ∃ (n8 : Nat) (f9 : Nat → Int64), G2 p2 = some (.inl (1, n8, .inr (.inl f9))) ∧ vp_in 0 n8 ∧ (∀ G13 : gh_H, G13 = gh_up G2 p2 (.inl (1, n8, .inr (.inl (vp_updL f9 (Int32.toNatClampNeg 0) (Int32.toInt64 r1))))) → post 0 G13)) (fun E6 G5 => (E6 = "java/util/NoSuchElementException" ∧ (post 1 G5)) ∨ (E6 = "java/lang/IllegalStateException" ∧ (post 2 G5))) G p0 p1
set_option maxRecDepth 100000 in
set_option maxHeartbeats 4000000 in
theorem mL_dun (l : Launch) (hl0 : l.stackTraces = false) (D : va_G) (AC : Nat → ClassId) (sa : gh_SA) (p0 : Nat) (p1 : Int32) (p2 : Nat) (post : Int32 → gh_H → Prop) (px : String → gh_H → Prop) (G : gh_H) (sz : Nat) (hw : wL_dun post px G p0 p1 p2) : vx_Met l yL_dun wsL_dun rmL_dun (gh_Pc D vwCl AC (gh_ty AC) (gh_En sa) G sz [.ref p0, .int p1, .ref p2]) (va_Qi post (gh_B D vwCl AC (gh_A G sz)) (gh_A G sz)) (gh_X D vwCl AC px (gh_A G sz)) 2 12 (gh_A G sz) := by
  refine vx_ofWH (cc := method_18_code) (maxL := 4) (ret := (some .int)) (hh := [(0, 9, 12, 19), (0, 9, 15, 31)]) (by decide) rfl ?_
  intro p e s m args below meth c s₁ B hml hv
  obtain ⟨rfl, hsz, hP, hK, hE⟩ := hv
  have hx := B.exec
  have hb := B.bytes
  have hr := B.returns
  have hts := atoms_spec (ws := wsL_dun) B.pre
  have hown : s.vm.findClass "OwnerLedgerLaw" = some m.cls := findClass_of_methodNamed B.named
  have hlocks := B.notSynchronized
  have htb : c.exceptionTable.toList = [⟨0, 9, 12, 19⟩, ⟨0, 9, 15, 31⟩] := vx_table (x := yL_dun) B (hts _ List.mem_cons_self)
  subst hsz
  have hA : ∀ q, s.heap.size ≤ q → gh_A G s.heap.size q := fun q h => Or.inr h
  generalize gh_A G s.heap.size = A at hP hE hA ⊢
  have CX : cxL_dun p s m [.ref p0, .int p1, .ref p2].toArray meth c D AC sa A := ⟨⟨hx, hb, hml, hown, hts⟩, hr, hlocks, htb, hK, hE, hA⟩
  have hS : va_S A s.heap s.heap [] := va_S.rf
  have hl := lv_entry ([.ref p0, .int p1, .ref p2]) (n := 4) (Nat.le_of_ble_eq_true rfl)
  rw [lg_entry_eq]
  generalize (lg_sl ([.ref p0, .int p1, .ref p2]) ++ List.replicate (4 - (lg_sl ([.ref p0, .int p1, .ref p2])).length) Slot.unset).toArray = ls at hl ⊢
  have hl : lv_has ls 4 [(0, .ref p0), (1, .int p1), (2, .ref p2)] := hl
  dsimp only [wL_dun] at hw
  refine lv_aload_n hx hb dL_dun_0 rfl (lv_at hl 2 rfl) ?_
  refine lv_iconst (v := 0) hx hb dL_dun_1 (by decide) ?_
  refine lv_aload_n hx hb dL_dun_2 rfl (lv_at hl 0 rfl) ?_
  refine lv_iload_n hx hb dL_dun_3 rfl (lv_at hl 1 rfl) ?_
  obtain ⟨fs3, he4, hw⟩ := hw
  refine gh_cxi (vx_runV (C := "OwnerLedger") (As := [.int p1]) (rest := [.int 0, .ref p2]) ⟨hx, hb, hml, hown, hts⟩ (mX4_dun l hl0 D AC sa _ _ _ _ _ _ hw) (cwV 1 hts (gV kw_298 kw_299 kw_300 kw_1 kw_301) rfl rfl rfl (by decide +kernel) ⟨Nat.le_of_ble_eq_true rfl, Nat.le_of_ble_eq_true rfl⟩) (gh_preV gh_En_ok hK hE hP hS hA he4 rfl _) rfl rfl hl.1 rfl (lv_room (Nat.le_of_ble_eq_true rfl)) dL_dun_4 ⟨Nat.le_of_ble_eq_true rfl, Nat.le_of_ble_eq_true rfl⟩) hP hS hA (fun E6 ce9 q7 G5 H locs hw2 hP hS hce hcv hcl => ?_) (fun r1 G2 H locs hw2 hP hS => ?_)
  · replace hw := hw2
    clear hw2
    rcases hw with ⟨rfl, hw⟩ | ⟨rfl, hw⟩
    · refine vx_catch (own := "OwnerLedgerLaw") (name := "java/util/NoSuchElementException") (E := "java/util/NoSuchElementException") hown [] ⟨0, 9, 12, 19⟩ [⟨0, 9, 15, 31⟩] (by rw [htb]; rfl) (fun z hz => nomatch hz) (by decide) (by decide) (hts _ (gT_up kw_74)) (va_Nw.use rfl (gh_cst hE (by decide))) hce hcv hcl ?_
      refine lv_astore_n (lv' := [(3, .ref q7), (0, .ref p0), (1, .int p1), (2, .ref p2)]) hx hb dL_dun_12 rfl hl (by decide) rfl (fun ls hl => ?_)
      refine lv_iconst (v := 1) hx hb dL_dun_13 (by decide) ?_
      exact gh_iret hx hb hr hlocks hw hP hS (Nat.le_of_ble_eq_true rfl) (Nat.le_of_ble_eq_true rfl) dL_dun_14
    · refine vx_catch (own := "OwnerLedgerLaw") (name := "java/lang/IllegalStateException") (E := "java/lang/IllegalStateException") hown [⟨0, 9, 12, 19⟩] ⟨0, 9, 15, 31⟩ [] (by rw [htb]; rfl) (by intro z hz; simp only [List.mem_cons, List.not_mem_nil, or_false] at hz; rcases hz with rfl <;> first | exact Or.inr ⟨by decide, "java/util/NoSuchElementException", (hts _ (gT_up kw_74)), gh_ncs hE (by decide)⟩) (by decide) (by decide) (hts _ (gT_up kw_108)) (va_Nw.use rfl (gh_cst hE (by decide))) hce hcv hcl ?_
      refine lv_astore_n (lv' := [(3, .ref q7), (0, .ref p0), (1, .int p1), (2, .ref p2)]) hx hb dL_dun_15 rfl hl (by decide) rfl (fun ls hl => ?_)
      refine lv_iconst (v := 2) hx hb dL_dun_16 (by decide) ?_
      exact gh_iret hx hb hr hlocks hw hP hS (Nat.le_of_ble_eq_true rfl) (Nat.le_of_ble_eq_true rfl) dL_dun_17
  replace hw := hw2
  clear hw2
  refine lv_i2l hx hb dL_dun_7 rfl ?_
  obtain ⟨n8, f9, he10, hi11, hw⟩ := hw
  refine gh_last hx hb hK hP hS he10 rfl hi11 dL_dun_8 (fun G13 H locs eG12 hP hS => ?_)
  replace hw := hw G13 eG12
  refine lv_goto (tgt := 18) hx hb dL_dun_9 (by decide) ?_
  refine lv_iconst (v := 0) hx hb dL_dun_18 (by decide) ?_
  exact gh_iret hx hb hr hlocks hw hP hS (Nat.le_of_ble_eq_true rfl) (Nat.le_of_ble_eq_true rfl) dL_dun_19
abbrev rmL_rate : Room := { frames := 8, cells := 1, slots := 6, locals := 128 }
abbrev cxL_rate (p : Program) (s : State) (m : MethodId) (args : Array Value) (meth : Method) (c : Code) (D : va_G) (AC : Nat → ClassId) (sa : gh_SA) (A : Nat → Prop) : Prop := CallFix p m c method_19_code 3 s args wsL_rate "OwnerLedgerLaw" ∧ meth.sig.returnType = (some .int) ∧ meth.locks = false ∧ c.exceptionTable.toList = [⟨0, 5, 8, 21⟩] ∧ va_K D vwCl (gh_ty AC) s ∧ gh_En sa A s s.heap ∧ (∀ q, s.heap.size ≤ q → A q)
def wL_rate (post : Int32 → gh_H → Prop) (px : String → gh_H → Prop) (G : gh_H) (p0 : Nat) (p1 : Int32) : Prop := ∃ fs3 : List Value, G p0 = some (.inr (4, fs3)) ∧ wX4_rate (fun G2 => post 0 G2) (fun E6 G5 => (E6 = "java/lang/IllegalArgumentException" ∧ (post 1 G5))) G p0 p1
set_option maxRecDepth 100000 in
set_option maxHeartbeats 4000000 in
theorem mL_rate (l : Launch) (hl0 : l.stackTraces = false) (D : va_G) (AC : Nat → ClassId) (sa : gh_SA) (p0 : Nat) (p1 : Int32) (post : Int32 → gh_H → Prop) (px : String → gh_H → Prop) (G : gh_H) (sz : Nat) (hw : wL_rate post px G p0 p1) : vx_Met l yL_rate wsL_rate rmL_rate (gh_Pc D vwCl AC (gh_ty AC) (gh_En sa) G sz [.ref p0, .int p1]) (va_Qi post (gh_B D vwCl AC (gh_A G sz)) (gh_A G sz)) (gh_X D vwCl AC px (gh_A G sz)) 1 6 (gh_A G sz) := by
  refine vx_ofWH (cc := method_19_code) (maxL := 3) (ret := (some .int)) (hh := [(0, 5, 8, 21)]) (by decide) rfl ?_
  intro p e s m args below meth c s₁ B hml hv
  obtain ⟨rfl, hsz, hP, hK, hE⟩ := hv
  have hx := B.exec
  have hb := B.bytes
  have hr := B.returns
  have hts := atoms_spec (ws := wsL_rate) B.pre
  have hown : s.vm.findClass "OwnerLedgerLaw" = some m.cls := findClass_of_methodNamed B.named
  have hlocks := B.notSynchronized
  have htb : c.exceptionTable.toList = [⟨0, 5, 8, 21⟩] := vx_table (x := yL_rate) B (hts _ List.mem_cons_self)
  subst hsz
  have hA : ∀ q, s.heap.size ≤ q → gh_A G s.heap.size q := fun q h => Or.inr h
  generalize gh_A G s.heap.size = A at hP hE hA ⊢
  have CX : cxL_rate p s m [.ref p0, .int p1].toArray meth c D AC sa A := ⟨⟨hx, hb, hml, hown, hts⟩, hr, hlocks, htb, hK, hE, hA⟩
  have hS : va_S A s.heap s.heap [] := va_S.rf
  have hl := lv_entry ([.ref p0, .int p1]) (n := 3) (Nat.le_of_ble_eq_true rfl)
  rw [lg_entry_eq]
  generalize (lg_sl ([.ref p0, .int p1]) ++ List.replicate (3 - (lg_sl ([.ref p0, .int p1])).length) Slot.unset).toArray = ls at hl ⊢
  have hl : lv_has ls 3 [(0, .ref p0), (1, .int p1)] := hl
  dsimp only [wL_rate] at hw
  refine lv_aload_n hx hb dL_rate_0 rfl (lv_at hl 0 rfl) ?_
  refine lv_iload_n hx hb dL_rate_1 rfl (lv_at hl 1 rfl) ?_
  obtain ⟨fs3, he4, hw⟩ := hw
  refine gh_cxv (vx_runV (C := "OwnerLedger") (As := [.int p1]) (rest := []) ⟨hx, hb, hml, hown, hts⟩ (mX4_rate l hl0 D AC sa _ _ _ _ _ _ hw) (cwV 1 hts (gV kw_309 kw_310 kw_311 kw_1 kw_312) rfl rfl rfl (by decide +kernel) ⟨Nat.le_of_ble_eq_true rfl, Nat.le_of_ble_eq_true rfl⟩) (gh_preV gh_En_ok hK hE hP hS hA he4 rfl _) rfl rfl hl.1 rfl (lv_room (Nat.le_of_ble_eq_true rfl)) dL_rate_2 ⟨Nat.le_of_ble_eq_true rfl, Nat.le_of_ble_eq_true rfl⟩) hP hS hA (fun E6 ce9 q7 G5 H locs hw2 hP hS hce hcv hcl => ?_) (fun G2 H locs hw2 hP hS => ?_)
  · replace hw := hw2
    clear hw2
    obtain ⟨rfl, hw⟩ := hw
    · refine vx_catch (own := "OwnerLedgerLaw") (name := "java/lang/IllegalArgumentException") (E := "java/lang/IllegalArgumentException") hown [] ⟨0, 5, 8, 21⟩ [] (by rw [htb]; rfl) (fun z hz => nomatch hz) (by decide) (by decide) (hts _ (gT_up kw_75)) (va_Nw.use rfl (gh_cst hE (by decide))) hce hcv hcl ?_
      refine lv_astore_n (lv' := [(2, .ref q7), (0, .ref p0), (1, .int p1)]) hx hb dL_rate_8 rfl hl (by decide) rfl (fun ls hl => ?_)
      refine lv_iconst (v := 1) hx hb dL_rate_9 (by decide) ?_
      exact gh_iret hx hb hr hlocks hw hP hS (Nat.le_of_ble_eq_true rfl) (Nat.le_of_ble_eq_true rfl) dL_rate_10
  replace hw := hw2
  clear hw2
  refine lv_goto (tgt := 11) hx hb dL_rate_5 (by decide) ?_
  refine lv_iconst (v := 0) hx hb dL_rate_11 (by decide) ?_
  exact gh_iret hx hb hr hlocks hw hP hS (Nat.le_of_ble_eq_true rfl) (Nat.le_of_ble_eq_true rfl) dL_rate_12
abbrev rmL_interest : Room := { frames := 8, cells := 2, slots := 12, locals := 134 }
abbrev cxL_interest (p : Program) (s : State) (m : MethodId) (args : Array Value) (meth : Method) (c : Code) (D : va_G) (AC : Nat → ClassId) (sa : gh_SA) (A : Nat → Prop) : Prop := CallFix p m c method_20_code 5 s args wsL_interest "OwnerLedgerLaw" ∧ meth.sig.returnType = (some .int) ∧ meth.locks = false ∧ c.exceptionTable.toList = [⟨0, 9, 12, 19⟩, ⟨0, 9, 16, 21⟩] ∧ va_K D vwCl (gh_ty AC) s ∧ gh_En sa A s s.heap ∧ (∀ q, s.heap.size ≤ q → A q)
def wL_interest (post : Int32 → gh_H → Prop) (px : String → gh_H → Prop) (G : gh_H) (p0 : Nat) (p1 : Int32) (p2 : Int32) (p3 : Nat) : Prop := ∃ fs3 : List Value, G p0 = some (.inr (4, fs3)) ∧ wX4_interest (fun r1 G2 => ∃ (n8 : Nat) (f9 : Nat → Int64), G2 p3 = some (.inl (1, n8, .inr (.inl f9))) ∧ vp_in 0 n8 ∧ (∀ G13 : gh_H, G13 = gh_up G2 p3 (.inl (1, n8, .inr (.inl (vp_updL f9 (Int32.toNatClampNeg 0) r1)))) → post 0 G13)) (fun E6 G5 => (E6 = "java/util/NoSuchElementException" ∧ (post 1 G5)) ∨ (E6 = "java/lang/IllegalArgumentException" ∧ (post 2 G5))) G p0 p1 p2
set_option maxRecDepth 100000 in
set_option maxHeartbeats 4000000 in
theorem mL_interest (l : Launch) (hl0 : l.stackTraces = false) (D : va_G) (AC : Nat → ClassId) (sa : gh_SA) (p0 : Nat) (p1 : Int32) (p2 : Int32) (p3 : Nat) (post : Int32 → gh_H → Prop) (px : String → gh_H → Prop) (G : gh_H) (sz : Nat) (hw : wL_interest post px G p0 p1 p2 p3) : vx_Met l yL_interest wsL_interest rmL_interest (gh_Pc D vwCl AC (gh_ty AC) (gh_En sa) G sz [.ref p0, .int p1, .int p2, .ref p3]) (va_Qi post (gh_B D vwCl AC (gh_A G sz)) (gh_A G sz)) (gh_X D vwCl AC px (gh_A G sz)) 2 12 (gh_A G sz) := by
  refine vx_ofWH (cc := method_20_code) (maxL := 5) (ret := (some .int)) (hh := [(0, 9, 12, 19), (0, 9, 16, 21)]) (by decide) rfl ?_
  intro p e s m args below meth c s₁ B hml hv
  obtain ⟨rfl, hsz, hP, hK, hE⟩ := hv
  have hx := B.exec
  have hb := B.bytes
  have hr := B.returns
  have hts := atoms_spec (ws := wsL_interest) B.pre
  have hown : s.vm.findClass "OwnerLedgerLaw" = some m.cls := findClass_of_methodNamed B.named
  have hlocks := B.notSynchronized
  have htb : c.exceptionTable.toList = [⟨0, 9, 12, 19⟩, ⟨0, 9, 16, 21⟩] := vx_table (x := yL_interest) B (hts _ List.mem_cons_self)
  subst hsz
  have hA : ∀ q, s.heap.size ≤ q → gh_A G s.heap.size q := fun q h => Or.inr h
  generalize gh_A G s.heap.size = A at hP hE hA ⊢
  have CX : cxL_interest p s m [.ref p0, .int p1, .int p2, .ref p3].toArray meth c D AC sa A := ⟨⟨hx, hb, hml, hown, hts⟩, hr, hlocks, htb, hK, hE, hA⟩
  have hS : va_S A s.heap s.heap [] := va_S.rf
  have hl := lv_entry ([.ref p0, .int p1, .int p2, .ref p3]) (n := 5) (Nat.le_of_ble_eq_true rfl)
  rw [lg_entry_eq]
  generalize (lg_sl ([.ref p0, .int p1, .int p2, .ref p3]) ++ List.replicate (5 - (lg_sl ([.ref p0, .int p1, .int p2, .ref p3])).length) Slot.unset).toArray = ls at hl ⊢
  have hl : lv_has ls 5 [(0, .ref p0), (1, .int p1), (2, .int p2), (3, .ref p3)] := hl
  dsimp only [wL_interest] at hw
  refine lv_aload_n hx hb dL_interest_0 rfl (lv_at hl 3 rfl) ?_
  refine lv_iconst (v := 0) hx hb dL_interest_1 (by decide) ?_
  refine lv_aload_n hx hb dL_interest_2 rfl (lv_at hl 0 rfl) ?_
  refine lv_iload_n hx hb dL_interest_3 rfl (lv_at hl 1 rfl) ?_
  refine lv_iload_n hx hb dL_interest_4 rfl (lv_at hl 2 rfl) ?_
  obtain ⟨fs3, he4, hw⟩ := hw
  refine gh_cxl (vx_runV (C := "OwnerLedger") (As := [.int p1, .int p2]) (rest := [.int 0, .ref p3]) ⟨hx, hb, hml, hown, hts⟩ (mX4_interest l hl0 D AC sa _ _ _ _ _ _ _ hw) (cwV 2 hts (gV kw_317 kw_318 kw_319 kw_1 kw_320) rfl rfl rfl (by decide +kernel) ⟨Nat.le_of_ble_eq_true rfl, Nat.le_of_ble_eq_true rfl⟩) (gh_preV gh_En_ok hK hE hP hS hA he4 rfl _) rfl rfl hl.1 rfl (lv_room (Nat.le_of_ble_eq_true rfl)) dL_interest_5 ⟨Nat.le_of_ble_eq_true rfl, Nat.le_of_ble_eq_true rfl⟩) hP hS hA (fun E6 ce9 q7 G5 H locs hw2 hP hS hce hcv hcl => ?_) (fun r1 G2 H locs hw2 hP hS => ?_)
  · replace hw := hw2
    clear hw2
    rcases hw with ⟨rfl, hw⟩ | ⟨rfl, hw⟩
    · refine vx_catch (own := "OwnerLedgerLaw") (name := "java/util/NoSuchElementException") (E := "java/util/NoSuchElementException") hown [] ⟨0, 9, 12, 19⟩ [⟨0, 9, 16, 21⟩] (by rw [htb]; rfl) (fun z hz => nomatch hz) (by decide) (by decide) (hts _ (gT_up kw_74)) (va_Nw.use rfl (gh_cst hE (by decide))) hce hcv hcl ?_
      refine lv_astore (lv' := [(4, .ref q7), (0, .ref p0), (1, .int p1), (2, .int p2), (3, .ref p3)]) hx hb dL_interest_12 hl (by decide) rfl (fun ls hl => ?_)
      refine lv_iconst (v := 1) hx hb dL_interest_14 (by decide) ?_
      exact gh_iret hx hb hr hlocks hw hP hS (Nat.le_of_ble_eq_true rfl) (Nat.le_of_ble_eq_true rfl) dL_interest_15
    · refine vx_catch (own := "OwnerLedgerLaw") (name := "java/lang/IllegalArgumentException") (E := "java/lang/IllegalArgumentException") hown [⟨0, 9, 12, 19⟩] ⟨0, 9, 16, 21⟩ [] (by rw [htb]; rfl) (by intro z hz; simp only [List.mem_cons, List.not_mem_nil, or_false] at hz; rcases hz with rfl <;> first | exact Or.inr ⟨by decide, "java/util/NoSuchElementException", (hts _ (gT_up kw_74)), gh_ncs hE (by decide)⟩) (by decide) (by decide) (hts _ (gT_up kw_75)) (va_Nw.use rfl (gh_cst hE (by decide))) hce hcv hcl ?_
      refine lv_astore (lv' := [(4, .ref q7), (0, .ref p0), (1, .int p1), (2, .int p2), (3, .ref p3)]) hx hb dL_interest_16 hl (by decide) rfl (fun ls hl => ?_)
      refine lv_iconst (v := 2) hx hb dL_interest_18 (by decide) ?_
      exact gh_iret hx hb hr hlocks hw hP hS (Nat.le_of_ble_eq_true rfl) (Nat.le_of_ble_eq_true rfl) dL_interest_19
  replace hw := hw2
  clear hw2
  obtain ⟨n8, f9, he10, hi11, hw⟩ := hw
  refine gh_last hx hb hK hP hS he10 rfl hi11 dL_interest_8 (fun G13 H locs eG12 hP hS => ?_)
  replace hw := hw G13 eG12
  refine lv_goto (tgt := 20) hx hb dL_interest_9 (by decide) ?_
  refine lv_iconst (v := 0) hx hb dL_interest_20 (by decide) ?_
  exact gh_iret hx hb hr hlocks hw hP hS (Nat.le_of_ble_eq_true rfl) (Nat.le_of_ble_eq_true rfl) dL_interest_21
abbrev rmL_hold : Room := { frames := 8, cells := 2, slots := 12, locals := 127 }
abbrev cxL_hold (p : Program) (s : State) (m : MethodId) (args : Array Value) (meth : Method) (c : Code) (D : va_G) (AC : Nat → ClassId) (sa : gh_SA) (A : Nat → Prop) : Prop := CallFix p m c method_21_code 5 s args wsL_hold "OwnerLedgerLaw" ∧ meth.sig.returnType = (some .int) ∧ meth.locks = false ∧ c.exceptionTable.toList = [⟨0, 10, 13, 19⟩, ⟨0, 10, 17, 31⟩] ∧ va_K D vwCl (gh_ty AC) s ∧ gh_En sa A s s.heap ∧ (∀ q, s.heap.size ≤ q → A q)
def wL_hold (post : Int32 → gh_H → Prop) (px : String → gh_H → Prop) (G : gh_H) (p0 : Nat) (p1 : Int32) (p2 : Int32) (p3 : Nat) : Prop := ∃ fs3 : List Value, G p0 = some (.inr (4, fs3)) ∧ wX4_hold (fun r1 G2 => ∃ (n8 : Nat) (f9 : Nat → Int64), G2 p3 = some (.inl (1, n8, .inr (.inl f9))) ∧ vp_in 0 n8 ∧ (∀ G13 : gh_H, G13 = gh_up G2 p3 (.inl (1, n8, .inr (.inl (vp_updL f9 (Int32.toNatClampNeg 0) (Int32.toInt64 r1))))) → post 0 G13)) (fun E6 G5 => (E6 = "java/util/NoSuchElementException" ∧ (post 1 G5)) ∨ (E6 = "java/lang/IllegalStateException" ∧ (post 2 G5))) G p0 p1 p2
set_option maxRecDepth 100000 in
set_option maxHeartbeats 4000000 in
theorem mL_hold (l : Launch) (hl0 : l.stackTraces = false) (D : va_G) (AC : Nat → ClassId) (sa : gh_SA) (p0 : Nat) (p1 : Int32) (p2 : Int32) (p3 : Nat) (post : Int32 → gh_H → Prop) (px : String → gh_H → Prop) (G : gh_H) (sz : Nat) (hw : wL_hold post px G p0 p1 p2 p3) : vx_Met l yL_hold wsL_hold rmL_hold (gh_Pc D vwCl AC (gh_ty AC) (gh_En sa) G sz [.ref p0, .int p1, .int p2, .ref p3]) (va_Qi post (gh_B D vwCl AC (gh_A G sz)) (gh_A G sz)) (gh_X D vwCl AC px (gh_A G sz)) 2 12 (gh_A G sz) := by
  refine vx_ofWH (cc := method_21_code) (maxL := 5) (ret := (some .int)) (hh := [(0, 10, 13, 19), (0, 10, 17, 31)]) (by decide) rfl ?_
  intro p e s m args below meth c s₁ B hml hv
  obtain ⟨rfl, hsz, hP, hK, hE⟩ := hv
  have hx := B.exec
  have hb := B.bytes
  have hr := B.returns
  have hts := atoms_spec (ws := wsL_hold) B.pre
  have hown : s.vm.findClass "OwnerLedgerLaw" = some m.cls := findClass_of_methodNamed B.named
  have hlocks := B.notSynchronized
  have htb : c.exceptionTable.toList = [⟨0, 10, 13, 19⟩, ⟨0, 10, 17, 31⟩] := vx_table (x := yL_hold) B (hts _ List.mem_cons_self)
  subst hsz
  have hA : ∀ q, s.heap.size ≤ q → gh_A G s.heap.size q := fun q h => Or.inr h
  generalize gh_A G s.heap.size = A at hP hE hA ⊢
  have CX : cxL_hold p s m [.ref p0, .int p1, .int p2, .ref p3].toArray meth c D AC sa A := ⟨⟨hx, hb, hml, hown, hts⟩, hr, hlocks, htb, hK, hE, hA⟩
  have hS : va_S A s.heap s.heap [] := va_S.rf
  have hl := lv_entry ([.ref p0, .int p1, .int p2, .ref p3]) (n := 5) (Nat.le_of_ble_eq_true rfl)
  rw [lg_entry_eq]
  generalize (lg_sl ([.ref p0, .int p1, .int p2, .ref p3]) ++ List.replicate (5 - (lg_sl ([.ref p0, .int p1, .int p2, .ref p3])).length) Slot.unset).toArray = ls at hl ⊢
  have hl : lv_has ls 5 [(0, .ref p0), (1, .int p1), (2, .int p2), (3, .ref p3)] := hl
  dsimp only [wL_hold] at hw
  refine lv_aload_n hx hb dL_hold_0 rfl (lv_at hl 3 rfl) ?_
  refine lv_iconst (v := 0) hx hb dL_hold_1 (by decide) ?_
  refine lv_aload_n hx hb dL_hold_2 rfl (lv_at hl 0 rfl) ?_
  refine lv_iload_n hx hb dL_hold_3 rfl (lv_at hl 1 rfl) ?_
  refine lv_iload_n hx hb dL_hold_4 rfl (lv_at hl 2 rfl) ?_
  obtain ⟨fs3, he4, hw⟩ := hw
  refine gh_cxi (vx_runV (C := "OwnerLedger") (As := [.int p1, .int p2]) (rest := [.int 0, .ref p3]) ⟨hx, hb, hml, hown, hts⟩ (mX4_hold l hl0 D AC sa _ _ _ _ _ _ _ hw) (cwV 2 hts (gV kw_336 kw_337 kw_338 kw_1 kw_339) rfl rfl rfl (by decide +kernel) ⟨Nat.le_of_ble_eq_true rfl, Nat.le_of_ble_eq_true rfl⟩) (gh_preV gh_En_ok hK hE hP hS hA he4 rfl _) rfl rfl hl.1 rfl (lv_room (Nat.le_of_ble_eq_true rfl)) dL_hold_5 ⟨Nat.le_of_ble_eq_true rfl, Nat.le_of_ble_eq_true rfl⟩) hP hS hA (fun E6 ce9 q7 G5 H locs hw2 hP hS hce hcv hcl => ?_) (fun r1 G2 H locs hw2 hP hS => ?_)
  · replace hw := hw2
    clear hw2
    rcases hw with ⟨rfl, hw⟩ | ⟨rfl, hw⟩
    · refine vx_catch (own := "OwnerLedgerLaw") (name := "java/util/NoSuchElementException") (E := "java/util/NoSuchElementException") hown [] ⟨0, 10, 13, 19⟩ [⟨0, 10, 17, 31⟩] (by rw [htb]; rfl) (fun z hz => nomatch hz) (by decide) (by decide) (hts _ (gT_up kw_74)) (va_Nw.use rfl (gh_cst hE (by decide))) hce hcv hcl ?_
      refine lv_astore (lv' := [(4, .ref q7), (0, .ref p0), (1, .int p1), (2, .int p2), (3, .ref p3)]) hx hb dL_hold_13 hl (by decide) rfl (fun ls hl => ?_)
      refine lv_iconst (v := 1) hx hb dL_hold_15 (by decide) ?_
      exact gh_iret hx hb hr hlocks hw hP hS (Nat.le_of_ble_eq_true rfl) (Nat.le_of_ble_eq_true rfl) dL_hold_16
    · refine vx_catch (own := "OwnerLedgerLaw") (name := "java/lang/IllegalStateException") (E := "java/lang/IllegalStateException") hown [⟨0, 10, 13, 19⟩] ⟨0, 10, 17, 31⟩ [] (by rw [htb]; rfl) (by intro z hz; simp only [List.mem_cons, List.not_mem_nil, or_false] at hz; rcases hz with rfl <;> first | exact Or.inr ⟨by decide, "java/util/NoSuchElementException", (hts _ (gT_up kw_74)), gh_ncs hE (by decide)⟩) (by decide) (by decide) (hts _ (gT_up kw_108)) (va_Nw.use rfl (gh_cst hE (by decide))) hce hcv hcl ?_
      refine lv_astore (lv' := [(4, .ref q7), (0, .ref p0), (1, .int p1), (2, .int p2), (3, .ref p3)]) hx hb dL_hold_17 hl (by decide) rfl (fun ls hl => ?_)
      refine lv_iconst (v := 2) hx hb dL_hold_19 (by decide) ?_
      exact gh_iret hx hb hr hlocks hw hP hS (Nat.le_of_ble_eq_true rfl) (Nat.le_of_ble_eq_true rfl) dL_hold_20
  replace hw := hw2
  clear hw2
  refine lv_i2l hx hb dL_hold_8 rfl ?_
  obtain ⟨n8, f9, he10, hi11, hw⟩ := hw
  refine gh_last hx hb hK hP hS he10 rfl hi11 dL_hold_9 (fun G13 H locs eG12 hP hS => ?_)
  replace hw := hw G13 eG12
  refine lv_goto (tgt := 21) hx hb dL_hold_10 (by decide) ?_
  refine lv_iconst (v := 0) hx hb dL_hold_21 (by decide) ?_
  exact gh_iret hx hb hr hlocks hw hP hS (Nat.le_of_ble_eq_true rfl) (Nat.le_of_ble_eq_true rfl) dL_hold_22
