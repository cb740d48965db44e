abbrev rmL_owner : Room := { frames := 8, cells := 2, slots := 8, locals := 124 }
abbrev cxL_owner (p : Program) (s : State) (m : MethodId) (args : Array Value) (meth : Method) (c : Code) (D : va_G) (AC : Nat → ClassId) (sa : gh_SA) (A : Nat → Prop) : Prop := CallFix p m c method_3_code 3 s args wsL_owner "OwnerLedgerLaw" ∧ meth.sig.returnType = (some .int) ∧ meth.locks = false ∧ c.exceptionTable.toList = [⟨0, 8, 11, 13⟩] ∧ va_K D vwCl (gh_ty AC) s ∧ gh_En sa A s s.heap ∧ (∀ q, s.heap.size ≤ q → A q)
def wL_owner (post : Int32 → gh_H → Prop) (px : String → gh_H → Prop) (G : gh_H) (p0 : Nat) (p1 : Nat) : Prop := ∃ fs3 : List Value, G p0 = some (.inr (4, fs3)) ∧ wX4_owner (fun r1 G2 => ∃ (n8 : Nat) (f9 : Nat → Int64), G2 p1 = some (.inl (1, n8, .inr (.inl f9))) ∧ vp_in 0 n8 ∧ (∀ G13 : gh_H, G13 = gh_up G2 p1 (.inl (1, n8, .inr (.inl (vp_updL f9 (Int32.toNatClampNeg 0) (Int32.toInt64 r1))))) → post 0 G13)) (fun E6 G5 => (E6 = "java/lang/UnsupportedOperationException" ∧ (post 1 G5))) G p0
set_option maxRecDepth 100000 in
set_option maxHeartbeats 4000000 in
theorem mL_owner (l : Launch) (hl0 : l.stackTraces = false) (D : va_G) (AC : Nat → ClassId) (sa : gh_SA) (p0 : Nat) (p1 : Nat) (post : Int32 → gh_H → Prop) (px : String → gh_H → Prop) (G : gh_H) (sz : Nat) (hw : wL_owner post px G p0 p1) : vx_Met l yL_owner wsL_owner rmL_owner (gh_Pc D vwCl AC (gh_ty AC) (gh_En sa) G sz [.ref p0, .ref p1]) (va_Qi post (gh_B D vwCl AC (gh_A G sz)) (gh_A G sz)) (gh_X D vwCl AC px (gh_A G sz)) 2 8 (gh_A G sz) := by
  refine vx_ofWH (cc := method_3_code) (maxL := 3) (ret := (some .int)) (hh := [(0, 8, 11, 13)]) (by decide) rfl ?_
  intro p e s m args below meth c s₁ B hml hv
  obtain ⟨rfl, hsz, hP, hK, hE⟩ := hv
  have hx := B.exec
  have hb := B.bytes
  have hr := B.returns
  have hts := atoms_spec (ws := wsL_owner) B.pre
  have hown : s.vm.findClass "OwnerLedgerLaw" = some m.cls := findClass_of_methodNamed B.named
  have hlocks := B.notSynchronized
  have htb : c.exceptionTable.toList = [⟨0, 8, 11, 13⟩] := vx_table (x := yL_owner) B (hts _ List.mem_cons_self)
  subst hsz
  have hA : ∀ q, s.heap.size ≤ q → gh_A G s.heap.size q := fun q h => Or.inr h
  generalize gh_A G s.heap.size = A at hP hE hA ⊢
  have CX : cxL_owner p s m [.ref p0, .ref p1].toArray meth c D AC sa A := ⟨⟨hx, hb, hml, hown, hts⟩, hr, hlocks, htb, hK, hE, hA⟩
  have hS : va_S A s.heap s.heap [] := va_S.rf
  have hl := lv_entry ([.ref p0, .ref p1]) (n := 3) (Nat.le_of_ble_eq_true rfl)
  rw [lg_entry_eq]
  generalize (lg_sl ([.ref p0, .ref p1]) ++ List.replicate (3 - (lg_sl ([.ref p0, .ref p1])).length) Slot.unset).toArray = ls at hl ⊢
  have hl : lv_has ls 3 [(0, .ref p0), (1, .ref p1)] := hl
  dsimp only [wL_owner] at hw
  refine lv_aload_n hx hb dL_owner_0 rfl (lv_at hl 1 rfl) ?_
  refine lv_iconst (v := 0) hx hb dL_owner_1 (by decide) ?_
  refine lv_aload_n hx hb dL_owner_2 rfl (lv_at hl 0 rfl) ?_
  obtain ⟨fs3, he4, hw⟩ := hw
  refine gh_cxi (vx_runV (C := "OwnerLedger") (As := []) (rest := [.int 0, .ref p1]) ⟨hx, hb, hml, hown, hts⟩ (mX4_owner l hl0 D AC sa _ _ _ _ _ hw) (cwV 0 hts (gV kw_52 kw_53 kw_54 kw_1 kw_55) rfl rfl rfl (by decide +kernel) ⟨Nat.le_of_ble_eq_true rfl, Nat.le_of_ble_eq_true rfl⟩) (gh_preV gh_En_ok hK hE hP hS hA he4 rfl _) rfl rfl hl.1 rfl (lv_room (Nat.le_of_ble_eq_true rfl)) dL_owner_3 ⟨Nat.le_of_ble_eq_true rfl, Nat.le_of_ble_eq_true rfl⟩) hP hS hA (fun E6 ce9 q7 G5 H locs hw2 hP hS hce hcv hcl => ?_) (fun r1 G2 H locs hw2 hP hS => ?_)
  · replace hw := hw2
    clear hw2
    obtain ⟨rfl, hw⟩ := hw
    · refine vx_catch (own := "OwnerLedgerLaw") (name := "java/lang/UnsupportedOperationException") (E := "java/lang/UnsupportedOperationException") hown [] ⟨0, 8, 11, 13⟩ [] (by rw [htb]; rfl) (fun z hz => nomatch hz) (by decide) (by decide) (hts _ (gT_up kw_51)) (va_Nw.use rfl (gh_cst hE (by decide))) hce hcv hcl ?_
      refine lv_astore_n (lv' := [(2, .ref q7), (0, .ref p0), (1, .ref p1)]) hx hb dL_owner_11 rfl hl (by decide) rfl (fun ls hl => ?_)
      refine lv_iconst (v := 1) hx hb dL_owner_12 (by decide) ?_
      exact gh_iret hx hb hr hlocks hw hP hS (Nat.le_of_ble_eq_true rfl) (Nat.le_of_ble_eq_true rfl) dL_owner_13
  replace hw := hw2
  clear hw2
  refine lv_i2l hx hb dL_owner_6 rfl ?_
  obtain ⟨n8, f9, he10, hi11, hw⟩ := hw
  refine gh_last hx hb hK hP hS he10 rfl hi11 dL_owner_7 (fun G13 H locs eG12 hP hS => ?_)
  replace hw := hw G13 eG12
  refine lv_goto (tgt := 14) hx hb dL_owner_8 (by decide) ?_
  refine lv_iconst (v := 0) hx hb dL_owner_14 (by decide) ?_
  exact gh_iret hx hb hr hlocks hw hP hS (Nat.le_of_ble_eq_true rfl) (Nat.le_of_ble_eq_true rfl) dL_owner_15
abbrev rmL_account : Room := { frames := 8, cells := 3, slots := 18, locals := 130 }
abbrev cxL_account (p : Program) (s : State) (m : MethodId) (args : Array Value) (meth : Method) (c : Code) (D : va_G) (AC : Nat → ClassId) (sa : gh_SA) (A : Nat → Prop) : Prop := CallFix p m c method_4_code 5 s args wsL_account "OwnerLedgerLaw" ∧ meth.sig.returnType = (some .int) ∧ meth.locks = false ∧ c.exceptionTable.toList = [⟨0, 10, 13, 19⟩, ⟨0, 10, 17, 21⟩, ⟨0, 10, 21, 13⟩] ∧ va_K D vwCl (gh_ty AC) s ∧ gh_En sa A s s.heap ∧ (∀ q, s.heap.size ≤ q → A q)
def wL_account (post : Int32 → gh_H → Prop) (px : String → gh_H → Prop) (G : gh_H) (p0 : Nat) (p1 : Int32) (p2 : Int32) (p3 : Nat) : Prop := ∃ fs3 : List Value, G p0 = some (.inr (4, fs3)) ∧ wX4_account (fun r1 G2 => ∃ (n8 : Nat) (f9 : Nat → Int64), G2 p3 = some (.inl (1, n8, .inr (.inl f9))) ∧ vp_in 0 n8 ∧ (∀ G13 : gh_H, G13 = gh_up G2 p3 (.inl (1, n8, .inr (.inl (vp_updL f9 (Int32.toNatClampNeg 0) (Int32.toInt64 r1))))) → post 0 G13)) (fun E6 G5 => (E6 = "java/util/NoSuchElementException" ∧ (post 1 G5)) ∨ (E6 = "java/lang/IllegalArgumentException" ∧ (post 2 G5)) ∨ (E6 = "java/lang/UnsupportedOperationException" ∧ (post 3 G5))) G p0 p1 p2
set_option maxRecDepth 100000 in
set_option maxHeartbeats 4000000 in
theorem mL_account (l : Launch) (hl0 : l.stackTraces = false) (D : va_G) (AC : Nat → ClassId) (sa : gh_SA) (p0 : Nat) (p1 : Int32) (p2 : Int32) (p3 : Nat) (post : Int32 → gh_H → Prop) (px : String → gh_H → Prop) (G : gh_H) (sz : Nat) (hw : wL_account post px G p0 p1 p2 p3) : vx_Met l yL_account wsL_account rmL_account (gh_Pc D vwCl AC (gh_ty AC) (gh_En sa) G sz [.ref p0, .int p1, .int p2, .ref p3]) (va_Qi post (gh_B D vwCl AC (gh_A G sz)) (gh_A G sz)) (gh_X D vwCl AC px (gh_A G sz)) 3 18 (gh_A G sz) := by
  refine vx_ofWH (cc := method_4_code) (maxL := 5) (ret := (some .int)) (hh := [(0, 10, 13, 19), (0, 10, 17, 21), (0, 10, 21, 13)]) (by decide) rfl ?_
  intro p e s m args below meth c s₁ B hml hv
  obtain ⟨rfl, hsz, hP, hK, hE⟩ := hv
  have hx := B.exec
  have hb := B.bytes
  have hr := B.returns
  have hts := atoms_spec (ws := wsL_account) B.pre
  have hown : s.vm.findClass "OwnerLedgerLaw" = some m.cls := findClass_of_methodNamed B.named
  have hlocks := B.notSynchronized
  have htb : c.exceptionTable.toList = [⟨0, 10, 13, 19⟩, ⟨0, 10, 17, 21⟩, ⟨0, 10, 21, 13⟩] := vx_table (x := yL_account) B (hts _ List.mem_cons_self)
  subst hsz
  have hA : ∀ q, s.heap.size ≤ q → gh_A G s.heap.size q := fun q h => Or.inr h
  generalize gh_A G s.heap.size = A at hP hE hA ⊢
  have CX : cxL_account p s m [.ref p0, .int p1, .int p2, .ref p3].toArray meth c D AC sa A := ⟨⟨hx, hb, hml, hown, hts⟩, hr, hlocks, htb, hK, hE, hA⟩
  have hS : va_S A s.heap s.heap [] := va_S.rf
  have hl := lv_entry ([.ref p0, .int p1, .int p2, .ref p3]) (n := 5) (Nat.le_of_ble_eq_true rfl)
  rw [lg_entry_eq]
  generalize (lg_sl ([.ref p0, .int p1, .int p2, .ref p3]) ++ List.replicate (5 - (lg_sl ([.ref p0, .int p1, .int p2, .ref p3])).length) Slot.unset).toArray = ls at hl ⊢
  have hl : lv_has ls 5 [(0, .ref p0), (1, .int p1), (2, .int p2), (3, .ref p3)] := hl
  dsimp only [wL_account] at hw
  refine lv_aload_n hx hb dL_account_0 rfl (lv_at hl 3 rfl) ?_
  refine lv_iconst (v := 0) hx hb dL_account_1 (by decide) ?_
  refine lv_aload_n hx hb dL_account_2 rfl (lv_at hl 0 rfl) ?_
  refine lv_iload_n hx hb dL_account_3 rfl (lv_at hl 1 rfl) ?_
  refine lv_iload_n hx hb dL_account_4 rfl (lv_at hl 2 rfl) ?_
  obtain ⟨fs3, he4, hw⟩ := hw
  refine gh_cxi (vx_runV (C := "OwnerLedger") (As := [.int p1, .int p2]) (rest := [.int 0, .ref p3]) ⟨hx, hb, hml, hown, hts⟩ (mX4_account l hl0 D AC sa _ _ _ _ _ _ _ hw) (cwV 2 hts (gV kw_76 kw_77 kw_78 kw_1 kw_79) rfl rfl rfl (by decide +kernel) ⟨Nat.le_of_ble_eq_true rfl, Nat.le_of_ble_eq_true rfl⟩) (gh_preV gh_En_ok hK hE hP hS hA he4 rfl _) rfl rfl hl.1 rfl (lv_room (Nat.le_of_ble_eq_true rfl)) dL_account_5 ⟨Nat.le_of_ble_eq_true rfl, Nat.le_of_ble_eq_true rfl⟩) hP hS hA (fun E6 ce9 q7 G5 H locs hw2 hP hS hce hcv hcl => ?_) (fun r1 G2 H locs hw2 hP hS => ?_)
  · replace hw := hw2
    clear hw2
    rcases hw with ⟨rfl, hw⟩ | ⟨rfl, hw⟩ | ⟨rfl, hw⟩
    · refine vx_catch (own := "OwnerLedgerLaw") (name := "java/util/NoSuchElementException") (E := "java/util/NoSuchElementException") hown [] ⟨0, 10, 13, 19⟩ [⟨0, 10, 17, 21⟩, ⟨0, 10, 21, 13⟩] (by rw [htb]; rfl) (fun z hz => nomatch hz) (by decide) (by decide) (hts _ (gT_up kw_74)) (va_Nw.use rfl (gh_cst hE (by decide))) hce hcv hcl ?_
      refine lv_astore (lv' := [(4, .ref q7), (0, .ref p0), (1, .int p1), (2, .int p2), (3, .ref p3)]) hx hb dL_account_13 hl (by decide) rfl (fun ls hl => ?_)
      refine lv_iconst (v := 1) hx hb dL_account_15 (by decide) ?_
      exact gh_iret hx hb hr hlocks hw hP hS (Nat.le_of_ble_eq_true rfl) (Nat.le_of_ble_eq_true rfl) dL_account_16
    · refine vx_catch (own := "OwnerLedgerLaw") (name := "java/lang/IllegalArgumentException") (E := "java/lang/IllegalArgumentException") hown [⟨0, 10, 13, 19⟩] ⟨0, 10, 17, 21⟩ [⟨0, 10, 21, 13⟩] (by rw [htb]; rfl) (by intro z hz; simp only [List.mem_cons, List.not_mem_nil, or_false] at hz; rcases hz with rfl <;> first | exact Or.inr ⟨by decide, "java/util/NoSuchElementException", (hts _ (gT_up kw_74)), gh_ncs hE (by decide)⟩) (by decide) (by decide) (hts _ (gT_up kw_75)) (va_Nw.use rfl (gh_cst hE (by decide))) hce hcv hcl ?_
      refine lv_astore (lv' := [(4, .ref q7), (0, .ref p0), (1, .int p1), (2, .int p2), (3, .ref p3)]) hx hb dL_account_17 hl (by decide) rfl (fun ls hl => ?_)
      refine lv_iconst (v := 2) hx hb dL_account_19 (by decide) ?_
      exact gh_iret hx hb hr hlocks hw hP hS (Nat.le_of_ble_eq_true rfl) (Nat.le_of_ble_eq_true rfl) dL_account_20
    · refine vx_catch (own := "OwnerLedgerLaw") (name := "java/lang/UnsupportedOperationException") (E := "java/lang/UnsupportedOperationException") hown [⟨0, 10, 13, 19⟩, ⟨0, 10, 17, 21⟩] ⟨0, 10, 21, 13⟩ [] (by rw [htb]; rfl) (by intro z hz; simp only [List.mem_cons, List.not_mem_nil, or_false] at hz; rcases hz with rfl | rfl <;> first | exact Or.inr ⟨by decide, "java/util/NoSuchElementException", (hts _ (gT_up kw_74)), gh_ncs hE (by decide)⟩ | exact Or.inr ⟨by decide, "java/lang/IllegalArgumentException", (hts _ (gT_up kw_75)), gh_ncs hE (by decide)⟩) (by decide) (by decide) (hts _ (gT_up kw_51)) (va_Nw.use rfl (gh_cst hE (by decide))) hce hcv hcl ?_
      refine lv_astore (lv' := [(4, .ref q7), (0, .ref p0), (1, .int p1), (2, .int p2), (3, .ref p3)]) hx hb dL_account_21 hl (by decide) rfl (fun ls hl => ?_)
      refine lv_iconst (v := 3) hx hb dL_account_23 (by decide) ?_
      exact gh_iret hx hb hr hlocks hw hP hS (Nat.le_of_ble_eq_true rfl) (Nat.le_of_ble_eq_true rfl) dL_account_24
  replace hw := hw2
  clear hw2
  refine lv_i2l hx hb dL_account_8 rfl ?_
  obtain ⟨n8, f9, he10, hi11, hw⟩ := hw
  refine gh_last hx hb hK hP hS he10 rfl hi11 dL_account_9 (fun G13 H locs eG12 hP hS => ?_)
  replace hw := hw G13 eG12
  refine lv_goto (tgt := 25) hx hb dL_account_10 (by decide) ?_
  refine lv_iconst (v := 0) hx hb dL_account_25 (by decide) ?_
  exact gh_iret hx hb hr hlocks hw hP hS (Nat.le_of_ble_eq_true rfl) (Nat.le_of_ble_eq_true rfl) dL_account_26
abbrev rmL_month : Room := { frames := 8, cells := 1, slots := 6, locals := 128 }
abbrev cxL_month (p : Program) (s : State) (m : MethodId) (args : Array Value) (meth : Method) (c : Code) (D : va_G) (AC : Nat → ClassId) (sa : gh_SA) (A : Nat → Prop) : Prop := CallFix p m c method_5_code 3 s args wsL_month "OwnerLedgerLaw" ∧ meth.sig.returnType = (some .int) ∧ meth.locks = false ∧ c.exceptionTable.toList = [⟨0, 5, 8, 21⟩] ∧ va_K D vwCl (gh_ty AC) s ∧ gh_En sa A s s.heap ∧ (∀ q, s.heap.size ≤ q → A q)
def wL_month (post : Int32 → gh_H → Prop) (px : String → gh_H → Prop) (G : gh_H) (p0 : Nat) (p1 : Int32) : Prop := ∃ fs3 : List Value, G p0 = some (.inr (4, fs3)) ∧ wX4_month (fun G2 => post 0 G2) (fun E6 G5 => (E6 = "java/lang/IllegalArgumentException" ∧ (post 1 G5))) G p0 p1
set_option maxRecDepth 100000 in
set_option maxHeartbeats 4000000 in
theorem mL_month (l : Launch) (hl0 : l.stackTraces = false) (D : va_G) (AC : Nat → ClassId) (sa : gh_SA) (p0 : Nat) (p1 : Int32) (post : Int32 → gh_H → Prop) (px : String → gh_H → Prop) (G : gh_H) (sz : Nat) (hw : wL_month post px G p0 p1) : vx_Met l yL_month wsL_month rmL_month (gh_Pc D vwCl AC (gh_ty AC) (gh_En sa) G sz [.ref p0, .int p1]) (va_Qi post (gh_B D vwCl AC (gh_A G sz)) (gh_A G sz)) (gh_X D vwCl AC px (gh_A G sz)) 1 6 (gh_A G sz) := by
  refine vx_ofWH (cc := method_5_code) (maxL := 3) (ret := (some .int)) (hh := [(0, 5, 8, 21)]) (by decide) rfl ?_
  intro p e s m args below meth c s₁ B hml hv
  obtain ⟨rfl, hsz, hP, hK, hE⟩ := hv
  have hx := B.exec
  have hb := B.bytes
  have hr := B.returns
  have hts := atoms_spec (ws := wsL_month) B.pre
  have hown : s.vm.findClass "OwnerLedgerLaw" = some m.cls := findClass_of_methodNamed B.named
  have hlocks := B.notSynchronized
  have htb : c.exceptionTable.toList = [⟨0, 5, 8, 21⟩] := vx_table (x := yL_month) B (hts _ List.mem_cons_self)
  subst hsz
  have hA : ∀ q, s.heap.size ≤ q → gh_A G s.heap.size q := fun q h => Or.inr h
  generalize gh_A G s.heap.size = A at hP hE hA ⊢
  have CX : cxL_month p s m [.ref p0, .int p1].toArray meth c D AC sa A := ⟨⟨hx, hb, hml, hown, hts⟩, hr, hlocks, htb, hK, hE, hA⟩
  have hS : va_S A s.heap s.heap [] := va_S.rf
  have hl := lv_entry ([.ref p0, .int p1]) (n := 3) (Nat.le_of_ble_eq_true rfl)
  rw [lg_entry_eq]
  generalize (lg_sl ([.ref p0, .int p1]) ++ List.replicate (3 - (lg_sl ([.ref p0, .int p1])).length) Slot.unset).toArray = ls at hl ⊢
  have hl : lv_has ls 3 [(0, .ref p0), (1, .int p1)] := hl
  dsimp only [wL_month] at hw
  refine lv_aload_n hx hb dL_month_0 rfl (lv_at hl 0 rfl) ?_
  refine lv_iload_n hx hb dL_month_1 rfl (lv_at hl 1 rfl) ?_
  obtain ⟨fs3, he4, hw⟩ := hw
  refine gh_cxv (vx_runV (C := "OwnerLedger") (As := [.int p1]) (rest := []) ⟨hx, hb, hml, hown, hts⟩ (mX4_month l hl0 D AC sa _ _ _ _ _ _ hw) (cwV 1 hts (gV kw_100 kw_101 kw_102 kw_1 kw_103) rfl rfl rfl (by decide +kernel) ⟨Nat.le_of_ble_eq_true rfl, Nat.le_of_ble_eq_true rfl⟩) (gh_preV gh_En_ok hK hE hP hS hA he4 rfl _) rfl rfl hl.1 rfl (lv_room (Nat.le_of_ble_eq_true rfl)) dL_month_2 ⟨Nat.le_of_ble_eq_true rfl, Nat.le_of_ble_eq_true rfl⟩) hP hS hA (fun E6 ce9 q7 G5 H locs hw2 hP hS hce hcv hcl => ?_) (fun G2 H locs hw2 hP hS => ?_)
  · replace hw := hw2
    clear hw2
    obtain ⟨rfl, hw⟩ := hw
    · refine vx_catch (own := "OwnerLedgerLaw") (name := "java/lang/IllegalArgumentException") (E := "java/lang/IllegalArgumentException") hown [] ⟨0, 5, 8, 21⟩ [] (by rw [htb]; rfl) (fun z hz => nomatch hz) (by decide) (by decide) (hts _ (gT_up kw_75)) (va_Nw.use rfl (gh_cst hE (by decide))) hce hcv hcl ?_
      refine lv_astore_n (lv' := [(2, .ref q7), (0, .ref p0), (1, .int p1)]) hx hb dL_month_8 rfl hl (by decide) rfl (fun ls hl => ?_)
      refine lv_iconst (v := 1) hx hb dL_month_9 (by decide) ?_
      exact gh_iret hx hb hr hlocks hw hP hS (Nat.le_of_ble_eq_true rfl) (Nat.le_of_ble_eq_true rfl) dL_month_10
  replace hw := hw2
  clear hw2
  refine lv_goto (tgt := 11) hx hb dL_month_5 (by decide) ?_
  refine lv_iconst (v := 0) hx hb dL_month_11 (by decide) ?_
  exact gh_iret hx hb hr hlocks hw hP hS (Nat.le_of_ble_eq_true rfl) (Nat.le_of_ble_eq_true rfl) dL_month_12
abbrev rmL_close : Room := { frames := 8, cells := 2, slots := 12, locals := 129 }
abbrev cxL_close (p : Program) (s : State) (m : MethodId) (args : Array Value) (meth : Method) (c : Code) (D : va_G) (AC : Nat → ClassId) (sa : gh_SA) (A : Nat → Prop) : Prop := CallFix p m c method_6_code 4 s args wsL_close "OwnerLedgerLaw" ∧ meth.sig.returnType = (some .int) ∧ meth.locks = false ∧ c.exceptionTable.toList = [⟨0, 9, 12, 21⟩, ⟨0, 9, 15, 31⟩] ∧ va_K D vwCl (gh_ty AC) s ∧ gh_En sa A s s.heap ∧ (∀ q, s.heap.size ≤ q → A q)
def wL_close (post : Int32 → gh_H → Prop) (px : String → gh_H → Prop) (G : gh_H) (p0 : Nat) (p1 : Int32) (p2 : Nat) : Prop := ∃ fs3 : List Value, G p0 = some (.inr (4, fs3)) ∧ wX4_close (fun r1 G2 => ∃ (n8 : Nat) (f9 : Nat → Int64), G2 p2 = some (.inl (1, n8, .inr (.inl f9))) ∧ vp_in 0 n8 ∧ (∀ G13 : gh_H, G13 = gh_up G2 p2 (.inl (1, n8, .inr (.inl (vp_updL f9 (Int32.toNatClampNeg 0) (Int32.toInt64 r1))))) → post 0 G13)) (fun E6 G5 => (E6 = "java/lang/IllegalArgumentException" ∧ (post 1 G5)) ∨ (E6 = "java/lang/IllegalStateException" ∧ (post 2 G5))) G p0 p1
set_option maxRecDepth 100000 in
set_option maxHeartbeats 4000000 in
theorem mL_close (l : Launch) (hl0 : l.stackTraces = false) (D : va_G) (AC : Nat → ClassId) (sa : gh_SA) (p0 : Nat) (p1 : Int32) (p2 : Nat) (post : Int32 → gh_H → Prop) (px : String → gh_H → Prop) (G : gh_H) (sz : Nat) (hw : wL_close post px G p0 p1 p2) : vx_Met l yL_close wsL_close rmL_close (gh_Pc D vwCl AC (gh_ty AC) (gh_En sa) G sz [.ref p0, .int p1, .ref p2]) (va_Qi post (gh_B D vwCl AC (gh_A G sz)) (gh_A G sz)) (gh_X D vwCl AC px (gh_A G sz)) 2 12 (gh_A G sz) := by
  refine vx_ofWH (cc := method_6_code) (maxL := 4) (ret := (some .int)) (hh := [(0, 9, 12, 21), (0, 9, 15, 31)]) (by decide) rfl ?_
  intro p e s m args below meth c s₁ B hml hv
  obtain ⟨rfl, hsz, hP, hK, hE⟩ := hv
  have hx := B.exec
  have hb := B.bytes
  have hr := B.returns
  have hts := atoms_spec (ws := wsL_close) B.pre
  have hown : s.vm.findClass "OwnerLedgerLaw" = some m.cls := findClass_of_methodNamed B.named
  have hlocks := B.notSynchronized
  have htb : c.exceptionTable.toList = [⟨0, 9, 12, 21⟩, ⟨0, 9, 15, 31⟩] := vx_table (x := yL_close) B (hts _ List.mem_cons_self)
  subst hsz
  have hA : ∀ q, s.heap.size ≤ q → gh_A G s.heap.size q := fun q h => Or.inr h
  generalize gh_A G s.heap.size = A at hP hE hA ⊢
  have CX : cxL_close p s m [.ref p0, .int p1, .ref p2].toArray meth c D AC sa A := ⟨⟨hx, hb, hml, hown, hts⟩, hr, hlocks, htb, hK, hE, hA⟩
  have hS : va_S A s.heap s.heap [] := va_S.rf
  have hl := lv_entry ([.ref p0, .int p1, .ref p2]) (n := 4) (Nat.le_of_ble_eq_true rfl)
  rw [lg_entry_eq]
  generalize (lg_sl ([.ref p0, .int p1, .ref p2]) ++ List.replicate (4 - (lg_sl ([.ref p0, .int p1, .ref p2])).length) Slot.unset).toArray = ls at hl ⊢
  have hl : lv_has ls 4 [(0, .ref p0), (1, .int p1), (2, .ref p2)] := hl
  dsimp only [wL_close] at hw
  refine lv_aload_n hx hb dL_close_0 rfl (lv_at hl 2 rfl) ?_
  refine lv_iconst (v := 0) hx hb dL_close_1 (by decide) ?_
  refine lv_aload_n hx hb dL_close_2 rfl (lv_at hl 0 rfl) ?_
  refine lv_iload_n hx hb dL_close_3 rfl (lv_at hl 1 rfl) ?_
  obtain ⟨fs3, he4, hw⟩ := hw
  refine gh_cxi (vx_runV (C := "OwnerLedger") (As := [.int p1]) (rest := [.int 0, .ref p2]) ⟨hx, hb, hml, hown, hts⟩ (mX4_close l hl0 D AC sa _ _ _ _ _ _ hw) (cwV 1 hts (gV kw_109 kw_110 kw_111 kw_1 kw_112) rfl rfl rfl (by decide +kernel) ⟨Nat.le_of_ble_eq_true rfl, Nat.le_of_ble_eq_true rfl⟩) (gh_preV gh_En_ok hK hE hP hS hA he4 rfl _) rfl rfl hl.1 rfl (lv_room (Nat.le_of_ble_eq_true rfl)) dL_close_4 ⟨Nat.le_of_ble_eq_true rfl, Nat.le_of_ble_eq_true rfl⟩) hP hS hA (fun E6 ce9 q7 G5 H locs hw2 hP hS hce hcv hcl => ?_) (fun r1 G2 H locs hw2 hP hS => ?_)
  · replace hw := hw2
    clear hw2
    rcases hw with ⟨rfl, hw⟩ | ⟨rfl, hw⟩
    · refine vx_catch (own := "OwnerLedgerLaw") (name := "java/lang/IllegalArgumentException") (E := "java/lang/IllegalArgumentException") hown [] ⟨0, 9, 12, 21⟩ [⟨0, 9, 15, 31⟩] (by rw [htb]; rfl) (fun z hz => nomatch hz) (by decide) (by decide) (hts _ (gT_up kw_75)) (va_Nw.use rfl (gh_cst hE (by decide))) hce hcv hcl ?_
      refine lv_astore_n (lv' := [(3, .ref q7), (0, .ref p0), (1, .int p1), (2, .ref p2)]) hx hb dL_close_12 rfl hl (by decide) rfl (fun ls hl => ?_)
      refine lv_iconst (v := 1) hx hb dL_close_13 (by decide) ?_
      exact gh_iret hx hb hr hlocks hw hP hS (Nat.le_of_ble_eq_true rfl) (Nat.le_of_ble_eq_true rfl) dL_close_14
    · refine vx_catch (own := "OwnerLedgerLaw") (name := "java/lang/IllegalStateException") (E := "java/lang/IllegalStateException") hown [⟨0, 9, 12, 21⟩] ⟨0, 9, 15, 31⟩ [] (by rw [htb]; rfl) (by intro z hz; simp only [List.mem_cons, List.not_mem_nil, or_false] at hz; rcases hz with rfl <;> first | exact Or.inr ⟨by decide, "java/lang/IllegalArgumentException", (hts _ (gT_up kw_75)), gh_ncs hE (by decide)⟩) (by decide) (by decide) (hts _ (gT_up kw_108)) (va_Nw.use rfl (gh_cst hE (by decide))) hce hcv hcl ?_
      refine lv_astore_n (lv' := [(3, .ref q7), (0, .ref p0), (1, .int p1), (2, .ref p2)]) hx hb dL_close_15 rfl hl (by decide) rfl (fun ls hl => ?_)
      refine lv_iconst (v := 2) hx hb dL_close_16 (by decide) ?_
      exact gh_iret hx hb hr hlocks hw hP hS (Nat.le_of_ble_eq_true rfl) (Nat.le_of_ble_eq_true rfl) dL_close_17
  replace hw := hw2
  clear hw2
  refine lv_i2l hx hb dL_close_7 rfl ?_
  obtain ⟨n8, f9, he10, hi11, hw⟩ := hw
  refine gh_last hx hb hK hP hS he10 rfl hi11 dL_close_8 (fun G13 H locs eG12 hP hS => ?_)
  replace hw := hw G13 eG12
  refine lv_goto (tgt := 18) hx hb dL_close_9 (by decide) ?_
  refine lv_iconst (v := 0) hx hb dL_close_18 (by decide) ?_
  exact gh_iret hx hb hr hlocks hw hP hS (Nat.le_of_ble_eq_true rfl) (Nat.le_of_ble_eq_true rfl) dL_close_19
abbrev rmL_batch : Room := { frames := 9, cells := 4, slots := 26, locals := 145 }
abbrev cxL_batch (p : Program) (s : State) (m : MethodId) (args : Array Value) (meth : Method) (c : Code) (D : va_G) (AC : Nat → ClassId) (sa : gh_SA) (A : Nat → Prop) : Prop := CallFix p m c method_7_code 4 s args wsL_batch "OwnerLedgerLaw" ∧ meth.sig.returnType = (some .int) ∧ meth.locks = false ∧ c.exceptionTable.toList = [⟨0, 9, 12, 21⟩, ⟨0, 9, 15, 31⟩, ⟨0, 9, 18, 13⟩] ∧ va_K D vwCl (gh_ty AC) s ∧ gh_En sa A s s.heap ∧ (∀ q, s.heap.size ≤ q → A q)
def wL_batch (post : Int32 → gh_H → Prop) (px : String → gh_H → Prop) (G : gh_H) (p0 : Nat) (p1 : Int32) (p2 : Nat) : Prop := ∃ fs3 : List Value, G p0 = some (.inr (4, fs3)) ∧ wX4_batch (fun r1 G2 => ∃ (n8 : Nat) (f9 : Nat → Int64), G2 p2 = some (.inl (1, n8, .inr (.inl f9))) ∧ vp_in 0 n8 ∧ (∀ G13 : gh_H, G13 = gh_up G2 p2 (.inl (1, n8, .inr (.inl (vp_updL f9 (Int32.toNatClampNeg 0) (Int32.toInt64 r1))))) → post 0 G13)) (fun E6 G5 => (E6 = "java/lang/IllegalArgumentException" ∧ (post 1 G5)) ∨ (E6 = "java/lang/IllegalStateException" ∧ (post 2 G5)) ∨ (E6 = "java/lang/UnsupportedOperationException" ∧ (post 3 G5))) G p0 p1
set_option maxRecDepth 100000 in
set_option maxHeartbeats 4000000 in
theorem mL_batch (l : Launch) (hl0 : l.stackTraces = false) (D : va_G) (AC : Nat → ClassId) (sa : gh_SA) (p0 : Nat) (p1 : Int32) (p2 : Nat) (post : Int32 → gh_H → Prop) (px : String → gh_H → Prop) (G : gh_H) (sz : Nat) (hw : wL_batch post px G p0 p1 p2) : vx_Met l yL_batch wsL_batch rmL_batch (gh_Pc D vwCl AC (gh_ty AC) (gh_En sa) G sz [.ref p0, .int p1, .ref p2]) (va_Qi post (gh_B D vwCl AC (gh_A G sz)) (gh_A G sz)) (gh_X D vwCl AC px (gh_A G sz)) 4 26 (gh_A G sz) := by
  refine vx_ofWH (cc := method_7_code) (maxL := 4) (ret := (some .int)) (hh := [(0, 9, 12, 21), (0, 9, 15, 31), (0, 9, 18, 13)]) (by decide) rfl ?_
  intro p e s m args below meth c s₁ B hml hv
  obtain ⟨rfl, hsz, hP, hK, hE⟩ := hv
  have hx := B.exec
  have hb := B.bytes
  have hr := B.returns
  have hts := atoms_spec (ws := wsL_batch) B.pre
  have hown : s.vm.findClass "OwnerLedgerLaw" = some m.cls := findClass_of_methodNamed B.named
  have hlocks := B.notSynchronized
  have htb : c.exceptionTable.toList = [⟨0, 9, 12, 21⟩, ⟨0, 9, 15, 31⟩, ⟨0, 9, 18, 13⟩] := vx_table (x := yL_batch) B (hts _ List.mem_cons_self)
  subst hsz
  have hA : ∀ q, s.heap.size ≤ q → gh_A G s.heap.size q := fun q h => Or.inr h
  generalize gh_A G s.heap.size = A at hP hE hA ⊢
  have CX : cxL_batch p s m [.ref p0, .int p1, .ref p2].toArray meth c D AC sa A := ⟨⟨hx, hb, hml, hown, hts⟩, hr, hlocks, htb, hK, hE, hA⟩
  have hS : va_S A s.heap s.heap [] := va_S.rf
  have hl := lv_entry ([.ref p0, .int p1, .ref p2]) (n := 4) (Nat.le_of_ble_eq_true rfl)
  rw [lg_entry_eq]
  generalize (lg_sl ([.ref p0, .int p1, .ref p2]) ++ List.replicate (4 - (lg_sl ([.ref p0, .int p1, .ref p2])).length) Slot.unset).toArray = ls at hl ⊢
  have hl : lv_has ls 4 [(0, .ref p0), (1, .int p1), (2, .ref p2)] := hl
  dsimp only [wL_batch] at hw
  refine lv_aload_n hx hb dL_batch_0 rfl (lv_at hl 2 rfl) ?_
  refine lv_iconst (v := 0) hx hb dL_batch_1 (by decide) ?_
  refine lv_aload_n hx hb dL_batch_2 rfl (lv_at hl 0 rfl) ?_
  refine lv_iload_n hx hb dL_batch_3 rfl (lv_at hl 1 rfl) ?_
  obtain ⟨fs3, he4, hw⟩ := hw
  refine gh_cxi (vx_runV (C := "OwnerLedger") (As := [.int p1]) (rest := [.int 0, .ref p2]) ⟨hx, hb, hml, hown, hts⟩ (mX4_batch l hl0 D AC sa _ _ _ _ _ _ hw) (cwV 1 hts (gV kw_121 kw_122 kw_123 kw_1 kw_124) rfl rfl rfl (by decide +kernel) ⟨Nat.le_of_ble_eq_true rfl, Nat.le_of_ble_eq_true rfl⟩) (gh_preV gh_En_ok hK hE hP hS hA he4 rfl _) rfl rfl hl.1 rfl (lv_room (Nat.le_of_ble_eq_true rfl)) dL_batch_4 ⟨Nat.le_of_ble_eq_true rfl, Nat.le_of_ble_eq_true rfl⟩) hP hS hA (fun E6 ce9 q7 G5 H locs hw2 hP hS hce hcv hcl => ?_) (fun r1 G2 H locs hw2 hP hS => ?_)
  · replace hw := hw2
    clear hw2
    rcases hw with ⟨rfl, hw⟩ | ⟨rfl, hw⟩ | ⟨rfl, hw⟩
    · refine vx_catch (own := "OwnerLedgerLaw") (name := "java/lang/IllegalArgumentException") (E := "java/lang/IllegalArgumentException") hown [] ⟨0, 9, 12, 21⟩ [⟨0, 9, 15, 31⟩, ⟨0, 9, 18, 13⟩] (by rw [htb]; rfl) (fun z hz => nomatch hz) (by decide) (by decide) (hts _ (gT_up kw_75)) (va_Nw.use rfl (gh_cst hE (by decide))) hce hcv hcl ?_
      refine lv_astore_n (lv' := [(3, .ref q7), (0, .ref p0), (1, .int p1), (2, .ref p2)]) hx hb dL_batch_12 rfl hl (by decide) rfl (fun ls hl => ?_)
      refine lv_iconst (v := 1) hx hb dL_batch_13 (by decide) ?_
      exact gh_iret hx hb hr hlocks hw hP hS (Nat.le_of_ble_eq_true rfl) (Nat.le_of_ble_eq_true rfl) dL_batch_14
    · refine vx_catch (own := "OwnerLedgerLaw") (name := "java/lang/IllegalStateException") (E := "java/lang/IllegalStateException") hown [⟨0, 9, 12, 21⟩] ⟨0, 9, 15, 31⟩ [⟨0, 9, 18, 13⟩] (by rw [htb]; rfl) (by intro z hz; simp only [List.mem_cons, List.not_mem_nil, or_false] at hz; rcases hz with rfl <;> first | exact Or.inr ⟨by decide, "java/lang/IllegalArgumentException", (hts _ (gT_up kw_75)), gh_ncs hE (by decide)⟩) (by decide) (by decide) (hts _ (gT_up kw_108)) (va_Nw.use rfl (gh_cst hE (by decide))) hce hcv hcl ?_
      refine lv_astore_n (lv' := [(3, .ref q7), (0, .ref p0), (1, .int p1), (2, .ref p2)]) hx hb dL_batch_15 rfl hl (by decide) rfl (fun ls hl => ?_)
      refine lv_iconst (v := 2) hx hb dL_batch_16 (by decide) ?_
      exact gh_iret hx hb hr hlocks hw hP hS (Nat.le_of_ble_eq_true rfl) (Nat.le_of_ble_eq_true rfl) dL_batch_17
    · refine vx_catch (own := "OwnerLedgerLaw") (name := "java/lang/UnsupportedOperationException") (E := "java/lang/UnsupportedOperationException") hown [⟨0, 9, 12, 21⟩, ⟨0, 9, 15, 31⟩] ⟨0, 9, 18, 13⟩ [] (by rw [htb]; rfl) (by intro z hz; simp only [List.mem_cons, List.not_mem_nil, or_false] at hz; rcases hz with rfl | rfl <;> first | exact Or.inr ⟨by decide, "java/lang/IllegalArgumentException", (hts _ (gT_up kw_75)), gh_ncs hE (by decide)⟩ | exact Or.inr ⟨by decide, "java/lang/IllegalStateException", (hts _ (gT_up kw_108)), gh_ncs hE (by decide)⟩) (by decide) (by decide) (hts _ (gT_up kw_51)) (va_Nw.use rfl (gh_cst hE (by decide))) hce hcv hcl ?_
      refine lv_astore_n (lv' := [(3, .ref q7), (0, .ref p0), (1, .int p1), (2, .ref p2)]) hx hb dL_batch_18 rfl hl (by decide) rfl (fun ls hl => ?_)
      refine lv_iconst (v := 3) hx hb dL_batch_19 (by decide) ?_
      exact gh_iret hx hb hr hlocks hw hP hS (Nat.le_of_ble_eq_true rfl) (Nat.le_of_ble_eq_true rfl) dL_batch_20
  replace hw := hw2
  clear hw2
  refine lv_i2l hx hb dL_batch_7 rfl ?_
  obtain ⟨n8, f9, he10, hi11, hw⟩ := hw
  refine gh_last hx hb hK hP hS he10 rfl hi11 dL_batch_8 (fun G13 H locs eG12 hP hS => ?_)
  replace hw := hw G13 eG12
  refine lv_goto (tgt := 21) hx hb dL_batch_9 (by decide) ?_
  refine lv_iconst (v := 0) hx hb dL_batch_21 (by decide) ?_
  exact gh_iret hx hb hr hlocks hw hP hS (Nat.le_of_ble_eq_true rfl) (Nat.le_of_ble_eq_true rfl) dL_batch_22
abbrev rmL_row : Room := { frames := 9, cells := 6, slots := 34, locals := 150 }
abbrev cxL_row (p : Program) (s : State) (m : MethodId) (args : Array Value) (meth : Method) (c : Code) (D : va_G) (AC : Nat → ClassId) (sa : gh_SA) (A : Nat → Prop) : Prop := CallFix p m c method_8_code 7 s args wsL_row "OwnerLedgerLaw" ∧ meth.sig.returnType = (some .int) ∧ meth.locks = false ∧ c.exceptionTable.toList = [⟨0, 12, 15, 19⟩, ⟨0, 12, 19, 21⟩, ⟨0, 12, 23, 31⟩, ⟨0, 12, 27, 13⟩] ∧ va_K D vwCl (gh_ty AC) s ∧ gh_En sa A s s.heap ∧ (∀ q, s.heap.size ≤ q → A q)
def wL_row (post : Int32 → gh_H → Prop) (px : String → gh_H → Prop) (G : gh_H) (p0 : Nat) (p1 : Int32) (p2 : Int32) (p3 : Int64) (p4 : Nat) : Prop := ∃ fs3 : List Value, G p0 = some (.inr (4, fs3)) ∧ wX4_row (fun r1 G2 => ∃ (n8 : Nat) (f9 : Nat → Int64), G2 p4 = some (.inl (1, n8, .inr (.inl f9))) ∧ vp_in 0 n8 ∧ (∀ G13 : gh_H, G13 = gh_up G2 p4 (.inl (1, n8, .inr (.inl (vp_updL f9 (Int32.toNatClampNeg 0) (Int32.toInt64 r1))))) → post 0 G13)) (fun E6 G5 => (E6 = "java/util/NoSuchElementException" ∧ (post 1 G5)) ∨ (E6 = "java/lang/IllegalArgumentException" ∧ (post 2 G5)) ∨ (E6 = "java/lang/IllegalStateException" ∧ (post 3 G5)) ∨ (E6 = "java/lang/UnsupportedOperationException" ∧ (post 4 G5))) G p0 p1 p2 p3
set_option maxRecDepth 100000 in
set_option maxHeartbeats 4000000 in
theorem mL_row (l : Launch) (hl0 : l.stackTraces = false) (D : va_G) (AC : Nat → ClassId) (sa : gh_SA) (p0 : Nat) (p1 : Int32) (p2 : Int32) (p3 : Int64) (p4 : Nat) (post : Int32 → gh_H → Prop) (px : String → gh_H → Prop) (G : gh_H) (sz : Nat) (hw : wL_row post px G p0 p1 p2 p3 p4) : vx_Met l yL_row wsL_row rmL_row (gh_Pc D vwCl AC (gh_ty AC) (gh_En sa) G sz [.ref p0, .int p1, .int p2, .long p3, .ref p4]) (va_Qi post (gh_B D vwCl AC (gh_A G sz)) (gh_A G sz)) (gh_X D vwCl AC px (gh_A G sz)) 6 34 (gh_A G sz) := by
  refine vx_ofWH (cc := method_8_code) (maxL := 7) (ret := (some .int)) (hh := [(0, 12, 15, 19), (0, 12, 19, 21), (0, 12, 23, 31), (0, 12, 27, 13)]) (by decide) rfl ?_
  intro p e s m args below meth c s₁ B hml hv
  obtain ⟨rfl, hsz, hP, hK, hE⟩ := hv
  have hx := B.exec
  have hb := B.bytes
  have hr := B.returns
  have hts := atoms_spec (ws := wsL_row) B.pre
  have hown : s.vm.findClass "OwnerLedgerLaw" = some m.cls := findClass_of_methodNamed B.named
  have hlocks := B.notSynchronized
  have htb : c.exceptionTable.toList = [⟨0, 12, 15, 19⟩, ⟨0, 12, 19, 21⟩, ⟨0, 12, 23, 31⟩, ⟨0, 12, 27, 13⟩] := vx_table (x := yL_row) B (hts _ List.mem_cons_self)
  subst hsz
  have hA : ∀ q, s.heap.size ≤ q → gh_A G s.heap.size q := fun q h => Or.inr h
  generalize gh_A G s.heap.size = A at hP hE hA ⊢
  have CX : cxL_row p s m [.ref p0, .int p1, .int p2, .long p3, .ref p4].toArray meth c D AC sa A := ⟨⟨hx, hb, hml, hown, hts⟩, hr, hlocks, htb, hK, hE, hA⟩
  have hS : va_S A s.heap s.heap [] := va_S.rf
  have hl := lv_entry ([.ref p0, .int p1, .int p2, .long p3, .ref p4]) (n := 7) (Nat.le_of_ble_eq_true rfl)
  rw [lg_entry_eq]
  generalize (lg_sl ([.ref p0, .int p1, .int p2, .long p3, .ref p4]) ++ List.replicate (7 - (lg_sl ([.ref p0, .int p1, .int p2, .long p3, .ref p4])).length) Slot.unset).toArray = ls at hl ⊢
  have hl : lv_has ls 7 [(0, .ref p0), (1, .int p1), (2, .int p2), (3, .long p3), (5, .ref p4)] := hl
  dsimp only [wL_row] at hw
  refine lv_aload hx hb dL_row_0 (lv_at hl 4 rfl) ?_
  refine lv_iconst (v := 0) hx hb dL_row_2 (by decide) ?_
  refine lv_aload_n hx hb dL_row_3 rfl (lv_at hl 0 rfl) ?_
  refine lv_iload_n hx hb dL_row_4 rfl (lv_at hl 1 rfl) ?_
  refine lv_iload_n hx hb dL_row_5 rfl (lv_at hl 2 rfl) ?_
  refine lv_lload_n hx hb dL_row_6 rfl (lv_at hl 3 rfl) ?_
  obtain ⟨fs3, he4, hw⟩ := hw
  refine gh_cxi (vx_runV (C := "OwnerLedger") (As := [.int p1, .int p2, .long p3]) (rest := [.int 0, .ref p4]) ⟨hx, hb, hml, hown, hts⟩ (mX4_row l hl0 D AC sa _ _ _ _ _ _ _ _ hw) (cwV 3 hts (gV kw_147 kw_148 kw_149 kw_1 kw_150) rfl rfl rfl (by decide +kernel) ⟨Nat.le_of_ble_eq_true rfl, Nat.le_of_ble_eq_true rfl⟩) (gh_preV gh_En_ok hK hE hP hS hA he4 rfl _) rfl rfl hl.1 rfl (lv_room (Nat.le_of_ble_eq_true rfl)) dL_row_7 ⟨Nat.le_of_ble_eq_true rfl, Nat.le_of_ble_eq_true rfl⟩) hP hS hA (fun E6 ce9 q7 G5 H locs hw2 hP hS hce hcv hcl => ?_) (fun r1 G2 H locs hw2 hP hS => ?_)
  · replace hw := hw2
    clear hw2
    rcases hw with ⟨rfl, hw⟩ | ⟨rfl, hw⟩ | ⟨rfl, hw⟩ | ⟨rfl, hw⟩
    · refine vx_catch (own := "OwnerLedgerLaw") (name := "java/util/NoSuchElementException") (E := "java/util/NoSuchElementException") hown [] ⟨0, 12, 15, 19⟩ [⟨0, 12, 19, 21⟩, ⟨0, 12, 23, 31⟩, ⟨0, 12, 27, 13⟩] (by rw [htb]; rfl) (fun z hz => nomatch hz) (by decide) (by decide) (hts _ (gT_up kw_74)) (va_Nw.use rfl (gh_cst hE (by decide))) hce hcv hcl ?_
      refine lv_astore (lv' := [(6, .ref q7), (0, .ref p0), (1, .int p1), (2, .int p2), (3, .long p3), (5, .ref p4)]) hx hb dL_row_15 hl (by decide) rfl (fun ls hl => ?_)
      refine lv_iconst (v := 1) hx hb dL_row_17 (by decide) ?_
      exact gh_iret hx hb hr hlocks hw hP hS (Nat.le_of_ble_eq_true rfl) (Nat.le_of_ble_eq_true rfl) dL_row_18
    · refine vx_catch (own := "OwnerLedgerLaw") (name := "java/lang/IllegalArgumentException") (E := "java/lang/IllegalArgumentException") hown [⟨0, 12, 15, 19⟩] ⟨0, 12, 19, 21⟩ [⟨0, 12, 23, 31⟩, ⟨0, 12, 27, 13⟩] (by rw [htb]; rfl) (by intro z hz; simp only [List.mem_cons, List.not_mem_nil, or_false] at hz; rcases hz with rfl <;> first | exact Or.inr ⟨by decide, "java/util/NoSuchElementException", (hts _ (gT_up kw_74)), gh_ncs hE (by decide)⟩) (by decide) (by decide) (hts _ (gT_up kw_75)) (va_Nw.use rfl (gh_cst hE (by decide))) hce hcv hcl ?_
      refine lv_astore (lv' := [(6, .ref q7), (0, .ref p0), (1, .int p1), (2, .int p2), (3, .long p3), (5, .ref p4)]) hx hb dL_row_19 hl (by decide) rfl (fun ls hl => ?_)
      refine lv_iconst (v := 2) hx hb dL_row_21 (by decide) ?_
      exact gh_iret hx hb hr hlocks hw hP hS (Nat.le_of_ble_eq_true rfl) (Nat.le_of_ble_eq_true rfl) dL_row_22
    · refine vx_catch (own := "OwnerLedgerLaw") (name := "java/lang/IllegalStateException") (E := "java/lang/IllegalStateException") hown [⟨0, 12, 15, 19⟩, ⟨0, 12, 19, 21⟩] ⟨0, 12, 23, 31⟩ [⟨0, 12, 27, 13⟩] (by rw [htb]; rfl) (by intro z hz; simp only [List.mem_cons, List.not_mem_nil, or_false] at hz; rcases hz with rfl | rfl <;> first | exact Or.inr ⟨by decide, "java/util/NoSuchElementException", (hts _ (gT_up kw_74)), gh_ncs hE (by decide)⟩ | exact Or.inr ⟨by decide, "java/lang/IllegalArgumentException", (hts _ (gT_up kw_75)), gh_ncs hE (by decide)⟩) (by decide) (by decide) (hts _ (gT_up kw_108)) (va_Nw.use rfl (gh_cst hE (by decide))) hce hcv hcl ?_
      refine lv_astore (lv' := [(6, .ref q7), (0, .ref p0), (1, .int p1), (2, .int p2), (3, .long p3), (5, .ref p4)]) hx hb dL_row_23 hl (by decide) rfl (fun ls hl => ?_)
      refine lv_iconst (v := 3) hx hb dL_row_25 (by decide) ?_
      exact gh_iret hx hb hr hlocks hw hP hS (Nat.le_of_ble_eq_true rfl) (Nat.le_of_ble_eq_true rfl) dL_row_26
    · refine vx_catch (own := "OwnerLedgerLaw") (name := "java/lang/UnsupportedOperationException") (E := "java/lang/UnsupportedOperationException") hown [⟨0, 12, 15, 19⟩, ⟨0, 12, 19, 21⟩, ⟨0, 12, 23, 31⟩] ⟨0, 12, 27, 13⟩ [] (by rw [htb]; rfl) (by intro z hz; simp only [List.mem_cons, List.not_mem_nil, or_false] at hz; rcases hz with rfl | rfl | rfl <;> first | exact Or.inr ⟨by decide, "java/util/NoSuchElementException", (hts _ (gT_up kw_74)), gh_ncs hE (by decide)⟩ | exact Or.inr ⟨by decide, "java/lang/IllegalArgumentException", (hts _ (gT_up kw_75)), gh_ncs hE (by decide)⟩ | exact Or.inr ⟨by decide, "java/lang/IllegalStateException", (hts _ (gT_up kw_108)), gh_ncs hE (by decide)⟩) (by decide) (by decide) (hts _ (gT_up kw_51)) (va_Nw.use rfl (gh_cst hE (by decide))) hce hcv hcl ?_
      refine lv_astore (lv' := [(6, .ref q7), (0, .ref p0), (1, .int p1), (2, .int p2), (3, .long p3), (5, .ref p4)]) hx hb dL_row_27 hl (by decide) rfl (fun ls hl => ?_)
      refine lv_iconst (v := 4) hx hb dL_row_29 (by decide) ?_
      exact gh_iret hx hb hr hlocks hw hP hS (Nat.le_of_ble_eq_true rfl) (Nat.le_of_ble_eq_true rfl) dL_row_30
  replace hw := hw2
  clear hw2
  refine lv_i2l hx hb dL_row_10 rfl ?_
  obtain ⟨n8, f9, he10, hi11, hw⟩ := hw
  refine gh_last hx hb hK hP hS he10 rfl hi11 dL_row_11 (fun G13 H locs eG12 hP hS => ?_)
  replace hw := hw G13 eG12
  refine lv_goto (tgt := 31) hx hb dL_row_12 (by decide) ?_
  refine lv_iconst (v := 0) hx hb dL_row_31 (by decide) ?_
  exact gh_iret hx hb hr hlocks hw hP hS (Nat.le_of_ble_eq_true rfl) (Nat.le_of_ble_eq_true rfl) dL_row_32
abbrev rmL_breaks : Room := { frames := 8, cells := 3, slots := 18, locals := 129 }
abbrev cxL_breaks (p : Program) (s : State) (m : MethodId) (args : Array Value) (meth : Method) (c : Code) (D : va_G) (AC : Nat → ClassId) (sa : gh_SA) (A : Nat → Prop) : Prop := CallFix p m c method_9_code 5 s args wsL_breaks "OwnerLedgerLaw" ∧ meth.sig.returnType = (some .int) ∧ meth.locks = false ∧ c.exceptionTable.toList = [⟨0, 7, 10, 19⟩, ⟨0, 7, 14, 31⟩] ∧ va_K D vwCl (gh_ty AC) s ∧ gh_En sa A s s.heap ∧ (∀ q, s.heap.size ≤ q → A q)
def wL_breaks (post : Int32 → gh_H → Prop) (px : String → gh_H → Prop) (G : gh_H) (p0 : Nat) (p1 : Int32) (p2 : Int32) (p3 : Int32) : Prop := ∃ fs3 : List Value, G p0 = some (.inr (4, fs3)) ∧ wX4_breaks (fun G2 => post 0 G2) (fun E6 G5 => (E6 = "java/util/NoSuchElementException" ∧ (post 1 G5)) ∨ (E6 = "java/lang/IllegalStateException" ∧ (post 2 G5))) G p0 p1 p2 p3
set_option maxRecDepth 100000 in
set_option maxHeartbeats 4000000 in
theorem mL_breaks (l : Launch) (hl0 : l.stackTraces = false) (D : va_G) (AC : Nat → ClassId) (sa : gh_SA) (p0 : Nat) (p1 : Int32) (p2 : Int32) (p3 : Int32) (post : Int32 → gh_H → Prop) (px : String → gh_H → Prop) (G : gh_H) (sz : Nat) (hw : wL_breaks post px G p0 p1 p2 p3) : vx_Met l yL_breaks wsL_breaks rmL_breaks (gh_Pc D vwCl AC (gh_ty AC) (gh_En sa) G sz [.ref p0, .int p1, .int p2, .int p3]) (va_Qi post (gh_B D vwCl AC (gh_A G sz)) (gh_A G sz)) (gh_X D vwCl AC px (gh_A G sz)) 3 18 (gh_A G sz) := by
  refine vx_ofWH (cc := method_9_code) (maxL := 5) (ret := (some .int)) (hh := [(0, 7, 10, 19), (0, 7, 14, 31)]) (by decide) rfl ?_
  intro p e s m args below meth c s₁ B hml hv
  obtain ⟨rfl, hsz, hP, hK, hE⟩ := hv
  have hx := B.exec
  have hb := B.bytes
  have hr := B.returns
  have hts := atoms_spec (ws := wsL_breaks) B.pre
  have hown : s.vm.findClass "OwnerLedgerLaw" = some m.cls := findClass_of_methodNamed B.named
  have hlocks := B.notSynchronized
  have htb : c.exceptionTable.toList = [⟨0, 7, 10, 19⟩, ⟨0, 7, 14, 31⟩] := vx_table (x := yL_breaks) B (hts _ List.mem_cons_self)
  subst hsz
  have hA : ∀ q, s.heap.size ≤ q → gh_A G s.heap.size q := fun q h => Or.inr h
  generalize gh_A G s.heap.size = A at hP hE hA ⊢
  have CX : cxL_breaks p s m [.ref p0, .int p1, .int p2, .int p3].toArray meth c D AC sa A := ⟨⟨hx, hb, hml, hown, hts⟩, hr, hlocks, htb, hK, hE, hA⟩
  have hS : va_S A s.heap s.heap [] := va_S.rf
  have hl := lv_entry ([.ref p0, .int p1, .int p2, .int p3]) (n := 5) (Nat.le_of_ble_eq_true rfl)
  rw [lg_entry_eq]
  generalize (lg_sl ([.ref p0, .int p1, .int p2, .int p3]) ++ List.replicate (5 - (lg_sl ([.ref p0, .int p1, .int p2, .int p3])).length) Slot.unset).toArray = ls at hl ⊢
  have hl : lv_has ls 5 [(0, .ref p0), (1, .int p1), (2, .int p2), (3, .int p3)] := hl
  dsimp only [wL_breaks] at hw
  refine lv_aload_n hx hb dL_breaks_0 rfl (lv_at hl 0 rfl) ?_
  refine lv_iload_n hx hb dL_breaks_1 rfl (lv_at hl 1 rfl) ?_
  refine lv_iload_n hx hb dL_breaks_2 rfl (lv_at hl 2 rfl) ?_
  refine lv_iload_n hx hb dL_breaks_3 rfl (lv_at hl 3 rfl) ?_
  obtain ⟨fs3, he4, hw⟩ := hw
  refine gh_cxv (vx_runV (C := "OwnerLedger") (As := [.int p1, .int p2, .int p3]) (rest := []) ⟨hx, hb, hml, hown, hts⟩ (mX4_breaks l hl0 D AC sa _ _ _ _ _ _ _ _ hw) (cwV 3 hts (gV kw_183 kw_184 kw_185 kw_1 kw_186) rfl rfl rfl (by decide +kernel) ⟨Nat.le_of_ble_eq_true rfl, Nat.le_of_ble_eq_true rfl⟩) (gh_preV gh_En_ok hK hE hP hS hA he4 rfl _) rfl rfl hl.1 rfl (lv_room (Nat.le_of_ble_eq_true rfl)) dL_breaks_4 ⟨Nat.le_of_ble_eq_true rfl, Nat.le_of_ble_eq_true rfl⟩) hP hS hA (fun E6 ce9 q7 G5 H locs hw2 hP hS hce hcv hcl => ?_) (fun G2 H locs hw2 hP hS => ?_)
  · replace hw := hw2
    clear hw2
    rcases hw with ⟨rfl, hw⟩ | ⟨rfl, hw⟩
    · refine vx_catch (own := "OwnerLedgerLaw") (name := "java/util/NoSuchElementException") (E := "java/util/NoSuchElementException") hown [] ⟨0, 7, 10, 19⟩ [⟨0, 7, 14, 31⟩] (by rw [htb]; rfl) (fun z hz => nomatch hz) (by decide) (by decide) (hts _ (gT_up kw_74)) (va_Nw.use rfl (gh_cst hE (by decide))) hce hcv hcl ?_
      refine lv_astore (lv' := [(4, .ref q7), (0, .ref p0), (1, .int p1), (2, .int p2), (3, .int p3)]) hx hb dL_breaks_10 hl (by decide) rfl (fun ls hl => ?_)
      refine lv_iconst (v := 1) hx hb dL_breaks_12 (by decide) ?_
      exact gh_iret hx hb hr hlocks hw hP hS (Nat.le_of_ble_eq_true rfl) (Nat.le_of_ble_eq_true rfl) dL_breaks_13
    · refine vx_catch (own := "OwnerLedgerLaw") (name := "java/lang/IllegalStateException") (E := "java/lang/IllegalStateException") hown [⟨0, 7, 10, 19⟩] ⟨0, 7, 14, 31⟩ [] (by rw [htb]; rfl) (by intro z hz; simp only [List.mem_cons, List.not_mem_nil, or_false] at hz; rcases hz with rfl <;> first | exact Or.inr ⟨by decide, "java/util/NoSuchElementException", (hts _ (gT_up kw_74)), gh_ncs hE (by decide)⟩) (by decide) (by decide) (hts _ (gT_up kw_108)) (va_Nw.use rfl (gh_cst hE (by decide))) hce hcv hcl ?_
      refine lv_astore (lv' := [(4, .ref q7), (0, .ref p0), (1, .int p1), (2, .int p2), (3, .int p3)]) hx hb dL_breaks_14 hl (by decide) rfl (fun ls hl => ?_)
      refine lv_iconst (v := 2) hx hb dL_breaks_16 (by decide) ?_
      exact gh_iret hx hb hr hlocks hw hP hS (Nat.le_of_ble_eq_true rfl) (Nat.le_of_ble_eq_true rfl) dL_breaks_17
  replace hw := hw2
  clear hw2
  refine lv_goto (tgt := 18) hx hb dL_breaks_7 (by decide) ?_
  refine lv_iconst (v := 0) hx hb dL_breaks_18 (by decide) ?_
  exact gh_iret hx hb hr hlocks hw hP hS (Nat.le_of_ble_eq_true rfl) (Nat.le_of_ble_eq_true rfl) dL_breaks_19
abbrev rmL_post : Room := { frames := 8, cells := 3, slots := 18, locals := 128 }
abbrev cxL_post (p : Program) (s : State) (m : MethodId) (args : Array Value) (meth : Method) (c : Code) (D : va_G) (AC : Nat → ClassId) (sa : gh_SA) (A : Nat → Prop) : Prop := CallFix p m c method_10_code 4 s args wsL_post "OwnerLedgerLaw" ∧ meth.sig.returnType = (some .int) ∧ meth.locks = false ∧ c.exceptionTable.toList = [⟨0, 9, 12, 19⟩, ⟨0, 9, 15, 31⟩] ∧ va_K D vwCl (gh_ty AC) s ∧ gh_En sa A s s.heap ∧ (∀ q, s.heap.size ≤ q → A q)
def wL_post (post : Int32 → gh_H → Prop) (px : String → gh_H → Prop) (G : gh_H) (p0 : Nat) (p1 : Int32) (p2 : Nat) : Prop := ∃ fs3 : List Value, G p0 = some (.inr (4, fs3)) ∧ wX4_post (fun r1 G2 => ∃ (n8 : Nat) (f9 : Nat → Int64), G2 p2 = some (.inl (1, n8, .inr (.inl f9))) ∧ vp_in 0 n8 ∧ (∀ G13 : gh_H, G13 = gh_up G2 p2 (.inl (1, n8, .inr (.inl (vp_updL f9 (Int32.toNatClampNeg 0) (Int32.toInt64 r1))))) → post 0 G13)) (fun E6 G5 => (E6 = "java/util/NoSuchElementException" ∧ (post 1 G5)) ∨ (E6 = "java/lang/IllegalStateException" ∧ (post 2 G5))) G p0 p1
set_option maxRecDepth 100000 in
set_option maxHeartbeats 4000000 in
theorem mL_post (l : Launch) (hl0 : l.stackTraces = false) (D : va_G) (AC : Nat → ClassId) (sa : gh_SA) (p0 : Nat) (p1 : Int32) (p2 : Nat) (post : Int32 → gh_H → Prop) (px : String → gh_H → Prop) (G : gh_H) (sz : Nat) (hw : wL_post post px G p0 p1 p2) : vx_Met l yL_post wsL_post rmL_post (gh_Pc D vwCl AC (gh_ty AC) (gh_En sa) G sz [.ref p0, .int p1, .ref p2]) (va_Qi post (gh_B D vwCl AC (gh_A G sz)) (gh_A G sz)) (gh_X D vwCl AC px (gh_A G sz)) 3 18 (gh_A G sz) := by
  refine vx_ofWH (cc := method_10_code) (maxL := 4) (ret := (some .int)) (hh := [(0, 9, 12, 19), (0, 9, 15, 31)]) (by decide) rfl ?_
  intro p e s m args below meth c s₁ B hml hv
  obtain ⟨rfl, hsz, hP, hK, hE⟩ := hv
  have hx := B.exec
  have hb := B.bytes
  have hr := B.returns
  have hts := atoms_spec (ws := wsL_post) B.pre
  have hown : s.vm.findClass "OwnerLedgerLaw" = some m.cls := findClass_of_methodNamed B.named
  have hlocks := B.notSynchronized
  have htb : c.exceptionTable.toList = [⟨0, 9, 12, 19⟩, ⟨0, 9, 15, 31⟩] := vx_table (x := yL_post) B (hts _ List.mem_cons_self)
  subst hsz
  have hA : ∀ q, s.heap.size ≤ q → gh_A G s.heap.size q := fun q h => Or.inr h
  generalize gh_A G s.heap.size = A at hP hE hA ⊢
  have CX : cxL_post p s m [.ref p0, .int p1, .ref p2].toArray meth c D AC sa A := ⟨⟨hx, hb, hml, hown, hts⟩, hr, hlocks, htb, hK, hE, hA⟩
  have hS : va_S A s.heap s.heap [] := va_S.rf
  have hl := lv_entry ([.ref p0, .int p1, .ref p2]) (n := 4) (Nat.le_of_ble_eq_true rfl)
  rw [lg_entry_eq]
  generalize (lg_sl ([.ref p0, .int p1, .ref p2]) ++ List.replicate (4 - (lg_sl ([.ref p0, .int p1, .ref p2])).length) Slot.unset).toArray = ls at hl ⊢
  have hl : lv_has ls 4 [(0, .ref p0), (1, .int p1), (2, .ref p2)] := hl
  dsimp only [wL_post] at hw
  refine lv_aload_n hx hb dL_post_0 rfl (lv_at hl 2 rfl) ?_
  refine lv_iconst (v := 0) hx hb dL_post_1 (by decide) ?_
  refine lv_aload_n hx hb dL_post_2 rfl (lv_at hl 0 rfl) ?_
  refine lv_iload_n hx hb dL_post_3 rfl (lv_at hl 1 rfl) ?_
  obtain ⟨fs3, he4, hw⟩ := hw
  refine gh_cxi (vx_runV (C := "OwnerLedger") (As := [.int p1]) (rest := [.int 0, .ref p2]) ⟨hx, hb, hml, hown, hts⟩ (mX4_post l hl0 D AC sa _ _ _ _ _ _ hw) (cwV 1 hts (gV kw_193 kw_194 kw_195 kw_1 kw_196) rfl rfl rfl (by decide +kernel) ⟨Nat.le_of_ble_eq_true rfl, Nat.le_of_ble_eq_true rfl⟩) (gh_preV gh_En_ok hK hE hP hS hA he4 rfl _) rfl rfl hl.1 rfl (lv_room (Nat.le_of_ble_eq_true rfl)) dL_post_4 ⟨Nat.le_of_ble_eq_true rfl, Nat.le_of_ble_eq_true rfl⟩) hP hS hA (fun E6 ce9 q7 G5 H locs hw2 hP hS hce hcv hcl => ?_) (fun r1 G2 H locs hw2 hP hS => ?_)
  · replace hw := hw2
    clear hw2
    rcases hw with ⟨rfl, hw⟩ | ⟨rfl, hw⟩
    · refine vx_catch (own := "OwnerLedgerLaw") (name := "java/util/NoSuchElementException") (E := "java/util/NoSuchElementException") hown [] ⟨0, 9, 12, 19⟩ [⟨0, 9, 15, 31⟩] (by rw [htb]; rfl) (fun z hz => nomatch hz) (by decide) (by decide) (hts _ (gT_up kw_74)) (va_Nw.use rfl (gh_cst hE (by decide))) hce hcv hcl ?_
      refine lv_astore_n (lv' := [(3, .ref q7), (0, .ref p0), (1, .int p1), (2, .ref p2)]) hx hb dL_post_12 rfl hl (by decide) rfl (fun ls hl => ?_)
      refine lv_iconst (v := 1) hx hb dL_post_13 (by decide) ?_
      exact gh_iret hx hb hr hlocks hw hP hS (Nat.le_of_ble_eq_true rfl) (Nat.le_of_ble_eq_true rfl) dL_post_14
    · refine vx_catch (own := "OwnerLedgerLaw") (name := "java/lang/IllegalStateException") (E := "java/lang/IllegalStateException") hown [⟨0, 9, 12, 19⟩] ⟨0, 9, 15, 31⟩ [] (by rw [htb]; rfl) (by intro z hz; simp only [List.mem_cons, List.not_mem_nil, or_false] at hz; rcases hz with rfl <;> first | exact Or.inr ⟨by decide, "java/util/NoSuchElementException", (hts _ (gT_up kw_74)), gh_ncs hE (by decide)⟩) (by decide) (by decide) (hts _ (gT_up kw_108)) (va_Nw.use rfl (gh_cst hE (by decide))) hce hcv hcl ?_
      refine lv_astore_n (lv' := [(3, .ref q7), (0, .ref p0), (1, .int p1), (2, .ref p2)]) hx hb dL_post_15 rfl hl (by decide) rfl (fun ls hl => ?_)
      refine lv_iconst (v := 2) hx hb dL_post_16 (by decide) ?_
      exact gh_iret hx hb hr hlocks hw hP hS (Nat.le_of_ble_eq_true rfl) (Nat.le_of_ble_eq_true rfl) dL_post_17
  replace hw := hw2
  clear hw2
  refine lv_i2l hx hb dL_post_7 rfl ?_
  obtain ⟨n8, f9, he10, hi11, hw⟩ := hw
  refine gh_last hx hb hK hP hS he10 rfl hi11 dL_post_8 (fun G13 H locs eG12 hP hS => ?_)
  replace hw := hw G13 eG12
  refine lv_goto (tgt := 18) hx hb dL_post_9 (by decide) ?_
  refine lv_iconst (v := 0) hx hb dL_post_18 (by decide) ?_
  exact gh_iret hx hb hr hlocks hw hP hS (Nat.le_of_ble_eq_true rfl) (Nat.le_of_ble_eq_true rfl) dL_post_19
abbrev rmL_reverse : Room := { frames := 9, cells := 12, slots := 58, locals := 147 }
abbrev cxL_reverse (p : Program) (s : State) (m : MethodId) (args : Array Value) (meth : Method) (c : Code) (D : va_G) (AC : Nat → ClassId) (sa : gh_SA) (A : Nat → Prop) : Prop := CallFix p m c method_11_code 4 s args wsL_reverse "OwnerLedgerLaw" ∧ meth.sig.returnType = (some .int) ∧ meth.locks = false ∧ c.exceptionTable.toList = [⟨0, 9, 12, 19⟩, ⟨0, 9, 15, 31⟩, ⟨0, 9, 18, 13⟩] ∧ va_K D vwCl (gh_ty AC) s ∧ gh_En sa A s s.heap ∧ (∀ q, s.heap.size ≤ q → A q)
def wL_reverse (post : Int32 → gh_H → Prop) (px : String → gh_H → Prop) (G : gh_H) (p0 : Nat) (p1 : Int32) (p2 : Nat) : Prop := ∃ fs3 : List Value, G p0 = some (.inr (4, fs3)) ∧ wX4_reverse (fun r1 G2 => ∃ (n8 : Nat) (f9 : Nat → Int64), G2 p2 = some (.inl (1, n8, .inr (.inl f9))) ∧ vp_in 0 n8 ∧ (∀ G13 : gh_H, G13 = gh_up G2 p2 (.inl (1, n8, .inr (.inl (vp_updL f9 (Int32.toNatClampNeg 0) (Int32.toInt64 r1))))) → post 0 G13)) (fun E6 G5 => (E6 = "java/util/NoSuchElementException" ∧ (post 1 G5)) ∨ (E6 = "java/lang/IllegalStateException" ∧ (post 2 G5)) ∨ (E6 = "java/lang/UnsupportedOperationException" ∧ (post 3 G5))) G p0 p1
set_option maxRecDepth 100000 in
set_option maxHeartbeats 4000000 in
theorem mL_reverse (l : Launch) (hl0 : l.stackTraces = false) (D : va_G) (AC : Nat → ClassId) (sa : gh_SA) (p0 : Nat) (p1 : Int32) (p2 : Nat) (post : Int32 → gh_H → Prop) (px : String → gh_H → Prop) (G : gh_H) (sz : Nat) (hw : wL_reverse post px G p0 p1 p2) : vx_Met l yL_reverse wsL_reverse rmL_reverse (gh_Pc D vwCl AC (gh_ty AC) (gh_En sa) G sz [.ref p0, .int p1, .ref p2]) (va_Qi post (gh_B D vwCl AC (gh_A G sz)) (gh_A G sz)) (gh_X D vwCl AC px (gh_A G sz)) 12 58 (gh_A G sz) := by
  refine vx_ofWH (cc := method_11_code) (maxL := 4) (ret := (some .int)) (hh := [(0, 9, 12, 19), (0, 9, 15, 31), (0, 9, 18, 13)]) (by decide) rfl ?_
  intro p e s m args below meth c s₁ B hml hv
  obtain ⟨rfl, hsz, hP, hK, hE⟩ := hv
  have hx := B.exec
  have hb := B.bytes
  have hr := B.returns
  have hts := atoms_spec (ws := wsL_reverse) B.pre
  have hown : s.vm.findClass "OwnerLedgerLaw" = some m.cls := findClass_of_methodNamed B.named
  have hlocks := B.notSynchronized
  have htb : c.exceptionTable.toList = [⟨0, 9, 12, 19⟩, ⟨0, 9, 15, 31⟩, ⟨0, 9, 18, 13⟩] := vx_table (x := yL_reverse) B (hts _ List.mem_cons_self)
  subst hsz
  have hA : ∀ q, s.heap.size ≤ q → gh_A G s.heap.size q := fun q h => Or.inr h
  generalize gh_A G s.heap.size = A at hP hE hA ⊢
  have CX : cxL_reverse p s m [.ref p0, .int p1, .ref p2].toArray meth c D AC sa A := ⟨⟨hx, hb, hml, hown, hts⟩, hr, hlocks, htb, hK, hE, hA⟩
  have hS : va_S A s.heap s.heap [] := va_S.rf
  have hl := lv_entry ([.ref p0, .int p1, .ref p2]) (n := 4) (Nat.le_of_ble_eq_true rfl)
  rw [lg_entry_eq]
  generalize (lg_sl ([.ref p0, .int p1, .ref p2]) ++ List.replicate (4 - (lg_sl ([.ref p0, .int p1, .ref p2])).length) Slot.unset).toArray = ls at hl ⊢
  have hl : lv_has ls 4 [(0, .ref p0), (1, .int p1), (2, .ref p2)] := hl
  dsimp only [wL_reverse] at hw
  refine lv_aload_n hx hb dL_reverse_0 rfl (lv_at hl 2 rfl) ?_
  refine lv_iconst (v := 0) hx hb dL_reverse_1 (by decide) ?_
  refine lv_aload_n hx hb dL_reverse_2 rfl (lv_at hl 0 rfl) ?_
  refine lv_iload_n hx hb dL_reverse_3 rfl (lv_at hl 1 rfl) ?_
  obtain ⟨fs3, he4, hw⟩ := hw
  refine gh_cxi (vx_runV (C := "OwnerLedger") (As := [.int p1]) (rest := [.int 0, .ref p2]) ⟨hx, hb, hml, hown, hts⟩ (mX4_reverse l hl0 D AC sa _ _ _ _ _ _ hw) (cwV 1 hts (gV kw_212 kw_213 kw_214 kw_1 kw_215) rfl rfl rfl (by decide +kernel) ⟨Nat.le_of_ble_eq_true rfl, Nat.le_of_ble_eq_true rfl⟩) (gh_preV gh_En_ok hK hE hP hS hA he4 rfl _) rfl rfl hl.1 rfl (lv_room (Nat.le_of_ble_eq_true rfl)) dL_reverse_4 ⟨Nat.le_of_ble_eq_true rfl, Nat.le_of_ble_eq_true rfl⟩) hP hS hA (fun E6 ce9 q7 G5 H locs hw2 hP hS hce hcv hcl => ?_) (fun r1 G2 H locs hw2 hP hS => ?_)
  · replace hw := hw2
    clear hw2
    rcases hw with ⟨rfl, hw⟩ | ⟨rfl, hw⟩ | ⟨rfl, hw⟩
    · refine vx_catch (own := "OwnerLedgerLaw") (name := "java/util/NoSuchElementException") (E := "java/util/NoSuchElementException") hown [] ⟨0, 9, 12, 19⟩ [⟨0, 9, 15, 31⟩, ⟨0, 9, 18, 13⟩] (by rw [htb]; rfl) (fun z hz => nomatch hz) (by decide) (by decide) (hts _ (gT_up kw_74)) (va_Nw.use rfl (gh_cst hE (by decide))) hce hcv hcl ?_
      refine lv_astore_n (lv' := [(3, .ref q7), (0, .ref p0), (1, .int p1), (2, .ref p2)]) hx hb dL_reverse_12 rfl hl (by decide) rfl (fun ls hl => ?_)
      refine lv_iconst (v := 1) hx hb dL_reverse_13 (by decide) ?_
      exact gh_iret hx hb hr hlocks hw hP hS (Nat.le_of_ble_eq_true rfl) (Nat.le_of_ble_eq_true rfl) dL_reverse_14
    · refine vx_catch (own := "OwnerLedgerLaw") (name := "java/lang/IllegalStateException") (E := "java/lang/IllegalStateException") hown [⟨0, 9, 12, 19⟩] ⟨0, 9, 15, 31⟩ [⟨0, 9, 18, 13⟩] (by rw [htb]; rfl) (by intro z hz; simp only [List.mem_cons, List.not_mem_nil, or_false] at hz; rcases hz with rfl <;> first | exact Or.inr ⟨by decide, "java/util/NoSuchElementException", (hts _ (gT_up kw_74)), gh_ncs hE (by decide)⟩) (by decide) (by decide) (hts _ (gT_up kw_108)) (va_Nw.use rfl (gh_cst hE (by decide))) hce hcv hcl ?_
      refine lv_astore_n (lv' := [(3, .ref q7), (0, .ref p0), (1, .int p1), (2, .ref p2)]) hx hb dL_reverse_15 rfl hl (by decide) rfl (fun ls hl => ?_)
      refine lv_iconst (v := 2) hx hb dL_reverse_16 (by decide) ?_
      exact gh_iret hx hb hr hlocks hw hP hS (Nat.le_of_ble_eq_true rfl) (Nat.le_of_ble_eq_true rfl) dL_reverse_17
    · refine vx_catch (own := "OwnerLedgerLaw") (name := "java/lang/UnsupportedOperationException") (E := "java/lang/UnsupportedOperationException") hown [⟨0, 9, 12, 19⟩, ⟨0, 9, 15, 31⟩] ⟨0, 9, 18, 13⟩ [] (by rw [htb]; rfl) (by intro z hz; simp only [List.mem_cons, List.not_mem_nil, or_false] at hz; rcases hz with rfl | rfl <;> first | exact Or.inr ⟨by decide, "java/util/NoSuchElementException", (hts _ (gT_up kw_74)), gh_ncs hE (by decide)⟩ | exact Or.inr ⟨by decide, "java/lang/IllegalStateException", (hts _ (gT_up kw_108)), gh_ncs hE (by decide)⟩) (by decide) (by decide) (hts _ (gT_up kw_51)) (va_Nw.use rfl (gh_cst hE (by decide))) hce hcv hcl ?_
      refine lv_astore_n (lv' := [(3, .ref q7), (0, .ref p0), (1, .int p1), (2, .ref p2)]) hx hb dL_reverse_18 rfl hl (by decide) rfl (fun ls hl => ?_)
      refine lv_iconst (v := 3) hx hb dL_reverse_19 (by decide) ?_
      exact gh_iret hx hb hr hlocks hw hP hS (Nat.le_of_ble_eq_true rfl) (Nat.le_of_ble_eq_true rfl) dL_reverse_20
  replace hw := hw2
  clear hw2
  refine lv_i2l hx hb dL_reverse_7 rfl ?_
  obtain ⟨n8, f9, he10, hi11, hw⟩ := hw
  refine gh_last hx hb hK hP hS he10 rfl hi11 dL_reverse_8 (fun G13 H locs eG12 hP hS => ?_)
  replace hw := hw G13 eG12
  refine lv_goto (tgt := 21) hx hb dL_reverse_9 (by decide) ?_
  refine lv_iconst (v := 0) hx hb dL_reverse_21 (by decide) ?_
  exact gh_iret hx hb hr hlocks hw hP hS (Nat.le_of_ble_eq_true rfl) (Nat.le_of_ble_eq_true rfl) dL_reverse_22
