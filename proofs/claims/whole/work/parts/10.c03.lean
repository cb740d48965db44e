abbrev rmX4_owner : Room := { frames := 7, cells := 2, slots := 8, locals := 103 }
abbrev cxX4_owner (p : Program) (s : State) (m : MethodId) (args : Array Value) (meth : Method) (c : Code) (D : va_G) (AC : Nat → ClassId) (sa : gh_SA) (A : Nat → Prop) : Prop := CallFix p m c prog_1_method_2_code 2 s args wsX4_owner "OwnerLedger" ∧ meth.sig.returnType = (some .int) ∧ meth.locks = false ∧ c.exceptionTable.toList = [] ∧ va_K D vwCl (gh_ty AC) s ∧ gh_En sa A s s.heap ∧ (∀ q, s.heap.size ≤ q → A q)
def wX4_owner (post : Int32 → gh_H → Prop) (px : String → gh_H → Prop) (G : gh_H) (t : Nat) : Prop := ∃ (fs1 : List Value) (x4 : Int32), G t = some (.inr (4, fs1)) ∧ fs1[4]? = some (.int x4) ∧ (∃ (fs5 : List Value) (x8 : Nat), G t = some (.inr (4, fs5)) ∧ fs5[0]? = some (.ref x8) ∧ (∃ (k9 : Nat) (n10 : vp_A), G x8 = some (.inl (k9, n10)) ∧ k9 < 7 ∧ (wX4_requireRoom (fun G15 => ∃ (fs16 : List Value) (x19 : Int32), G15 t = some (.inr (4, fs16)) ∧ fs16[4]? = some (.int x19) ∧ (∃ (fs20 : List Value) (x23 : Nat), G15 t = some (.inr (4, fs20)) ∧ fs20[0]? = some (.ref x23) ∧ (∀ q24 : Nat, G15 q24 = none → ∀ G25 : gh_H, G25 = gh_up G15 q24 (.inr (2, [.long 0, .int 0])) → wX2_init (fun G29 => ∃ (k35 n30 j36 : Nat) (f31 : Nat → Option Nat) (fs37 : List Value), G29 x23 = some (.inl (k35, n30, .inr (.inr (.inr (.inr f31))))) ∧ G29 q24 = some (.inr (j36, fs37)) ∧ gh_elk k35 j36 = true ∧ vp_in x19 n30 ∧ (∀ G40 : gh_H, G40 = gh_up G29 x23 (.inl (k35, n30, .inr (.inr (.inr (.inr (va_up f31 (Int32.toNatClampNeg x19) (some q24))))))) → ∃ (fs41 : List Value) (x44 : Int32), G40 t = some (.inr (4, fs41)) ∧ fs41[4]? = some (.int x44) ∧ (∃ fs45 : List Value, G40 t = some (.inr (4, fs45)) ∧ 4 < fs45.length ∧ (∀ G48 : gh_H, G48 = gh_up G40 t (.inr (4, fs45.set 4 (.int (x44 + 1)))) → post x19 G48)))) px G25 q24))) px G x4 (Int32.ofNat n10.1))))
set_option maxRecDepth 100000 in
set_option maxHeartbeats 4000000 in
theorem mX4_owner (l : Launch) (hl0 : l.stackTraces = false) (D : va_G) (AC : Nat → ClassId) (sa : gh_SA) (t : Nat) (post : Int32 → gh_H → Prop) (px : String → gh_H → Prop) (G : gh_H) (sz : Nat) (hw : wX4_owner post px G t) : vx_Met l yX4_owner wsX4_owner rmX4_owner (gh_Pc D vwCl AC (gh_ty AC) (gh_En sa) G sz [.ref t]) (va_Qi post (gh_B D vwCl AC (gh_A G sz)) (gh_A G sz)) (gh_X D vwCl AC px (gh_A G sz)) 2 8 (gh_A G sz) := by
  refine vx_ofW (cc := prog_1_method_2_code) (maxL := 2) (ret := (some .int)) (by decide) rfl ?_
  intro p e s m args below meth c s₁ B hml hnoh hv
  obtain ⟨rfl, hsz, hP, hK, hE⟩ := hv
  have hx := B.exec
  have hb := B.bytes
  have hr := B.returns
  have hts := atoms_spec (ws := wsX4_owner) B.pre
  have hown : s.vm.findClass "OwnerLedger" = some m.cls := findClass_of_methodNamed B.named
  have hlocks := B.notSynchronized
  have htb : c.exceptionTable.toList = [] := List.eq_nil_iff_forall_not_mem.mpr hnoh
  subst hsz
  have hA : ∀ q, s.heap.size ≤ q → gh_A G s.heap.size q := fun q h => Or.inr h
  generalize gh_A G s.heap.size = A at hP hE hA ⊢
  have hno : ∀ (pc : Nat), ∀ x ∈ c.exceptionTable.toList, covers x pc = false := by rw [htb]; intro _ _ h; cases h
  have CX : cxX4_owner p s m [.ref t].toArray meth c D AC sa A := ⟨⟨hx, hb, hml, hown, hts⟩, hr, hlocks, htb, hK, hE, hA⟩
  have hS : va_S A s.heap s.heap [] := va_S.rf
  have hl := lv_entry ([.ref t]) (n := 2) (Nat.le_of_ble_eq_true rfl)
  rw [lg_entry_eq]
  generalize (lg_sl ([.ref t]) ++ List.replicate (2 - (lg_sl ([.ref t])).length) Slot.unset).toArray = ls at hl ⊢
  have hl : lv_has ls 2 [(0, .ref t)] := hl
  dsimp only [wX4_owner] at hw
  refine lv_aload_n hx hb dX4_owner_0 rfl (lv_at hl 0 rfl) ?_
  obtain ⟨fs1, x4, he2, hv3, hw⟩ := hw
  refine gh_get (ci := 4) (v := .int x4) (C := "OwnerLedger") (T := TX4) (N := 11) hx hb hts (fun w h => gT_up (inX4 w h)) hown hK hP he2 rfl 4 (by decide) (hts _ (gT_up kw_27)) (fun _ h9 => h9) hv3 dX4_owner_1 ?_
  refine lv_aload_n hx hb dX4_owner_4 rfl (lv_at hl 0 rfl) ?_
  obtain ⟨fs5, x8, he6, hv7, hw⟩ := hw
  refine gh_get (ci := 4) (v := .ref x8) (C := "OwnerLedger") (T := TX4) (N := 11) hx hb hts (fun w h => gT_up (inX4 w h)) hown hK hP he6 rfl 0 (by decide) (hts _ (gT_up kw_23)) (fun _ h9 => h9) hv7 dX4_owner_5 ?_
  obtain ⟨k9, n10, he12, hk13, hw⟩ := hw
  obtain ⟨ty9, ht9⟩ := gh_tyat AC hk13
  refine gh_alen hx hb hK hP he12 ht9 rfl dX4_owner_8 ?_
  refine gh_cv_ hlocks (hno _) (vx_runS (As := [.int x4, .int (Int32.ofNat n10.1)]) (rest := []) ⟨hx, hb, hml, hown, hts⟩ (mX4_requireRoom l hl0 D AC sa _ _ _ _ _ _ hw) (va_cwS 2 hts (gS kw_56 kw_57 kw_1 kw_58) rfl rfl rfl (by decide +kernel) ⟨Nat.le_of_ble_eq_true rfl, Nat.le_of_ble_eq_true rfl⟩) (gh_pre gh_En_ok hK hE hP hS hA _) rfl rfl hl.1 rfl (lv_room (Nat.le_of_ble_eq_true rfl)) dX4_owner_9 ⟨Nat.le_of_ble_eq_true rfl, Nat.le_of_ble_eq_true rfl⟩) hP hS hA (Nat.le_of_ble_eq_true rfl) (Nat.le_of_ble_eq_true rfl) (fun G15 H locs hw2 hP hS => ?_)
  replace hw := hw2
  clear hw2
  refine lv_aload_n hx hb dX4_owner_12 rfl (lv_at hl 0 rfl) ?_
  obtain ⟨fs16, x19, he17, hv18, hw⟩ := hw
  refine gh_get (ci := 4) (v := .int x19) (C := "OwnerLedger") (T := TX4) (N := 11) hx hb hts (fun w h => gT_up (inX4 w h)) hown hK hP he17 rfl 4 (by decide) (hts _ (gT_up kw_27)) (fun _ h9 => h9) hv18 dX4_owner_13 ?_
  refine lv_istore_n (lv' := [(1, .int x19), (0, .ref t)]) hx hb dX4_owner_16 rfl hl (by decide) rfl (fun ls hl => ?_)
  refine lv_aload_n hx hb dX4_owner_17 rfl (lv_at hl 1 rfl) ?_
  obtain ⟨fs20, x23, he21, hv22, hw⟩ := hw
  refine gh_get (ci := 4) (v := .ref x23) (C := "OwnerLedger") (T := TX4) (N := 11) hx hb hts (fun w h => gT_up (inX4 w h)) hown hK hP he21 rfl 0 (by decide) (hts _ (gT_up kw_23)) (fun _ h9 => h9) hv22 dX4_owner_18 ?_
  refine lv_iload_n hx hb dX4_owner_21 rfl (lv_at hl 0 rfl) ?_
  refine gh_new (ci := 2) (fs := [.long 0, .int 0]) (C := "OwnerLedger$Owner") (T := TX2) (N := 2) hx hb hts (fun w h => gT_up (inX2 w h)) tyX2 tyX2_ok hown (hts _ (gT_up kw_20)) (hts _ (gT_up kw_65)) (hts _ (gT_up kw_4)) hK hP hS hA rfl (fun j hj => by rcases (show j = 0 ∨ j = 1 by omega) with rfl | rfl <;> rfl) (Nat.le_of_ble_eq_true rfl) (Nat.le_of_ble_eq_true rfl) dX4_owner_22 (fun q24 G25 H hq27 eG26 hP hS => ?_)
  replace hw := hw q24 hq27 G25 eG26
  refine lv_dup hx hb dX4_owner_25 rfl ?_
  refine gh_cM (va_runIN (As := []) (rest := [.ref q24, .int x19, .ref x23]) ⟨hx, hb, hml, hown, hts⟩ (mX2_init l hl0 D AC sa _ _ _ _ _ hw) ⟨va_cnB (host := "OwnerLedger") 0 hts (gG kw_67) rfl rfl rfl (gh_nst hE (by decide)) (hts _ (gT_up kw_4)) (by decide +kernel) ⟨Nat.le_of_ble_eq_true rfl, Nat.le_of_ble_eq_true rfl⟩, rfl, (hts _ (gT_up kw_66))⟩ (gh_pre gh_En_ok hK hE hP hS hA _) rfl rfl hl.1 rfl (lv_room (Nat.le_of_ble_eq_true rfl)) dX4_owner_26 ⟨Nat.le_of_ble_eq_true rfl, Nat.le_of_ble_eq_true rfl⟩) hP hS hA (fun G29 H locs hw2 hP hS => ?_)
  replace hw := hw2
  clear hw2
  obtain ⟨k35, n30, j36, f31, fs37, he32, hv38, hk39, hi33, hw⟩ := hw
  obtain ⟨r9, hc9, ht9⟩ := gh_tyel AC hk39
  refine gh_aast hx hb hK hP hS he32 ht9 hv38 hc9 hi33 dX4_owner_29 (fun G40 H locs eG34 hP hS => ?_)
  replace hw := hw G40 eG34
  refine lv_aload_n hx hb dX4_owner_30 rfl (lv_at hl 1 rfl) ?_
  refine lv_dup hx hb dX4_owner_31 rfl ?_
  obtain ⟨fs41, x44, he42, hv43, hw⟩ := hw
  refine gh_get (ci := 4) (v := .int x44) (C := "OwnerLedger") (T := TX4) (N := 11) hx hb hts (fun w h => gT_up (inX4 w h)) hown hK hP he42 rfl 4 (by decide) (hts _ (gT_up kw_27)) (fun _ h9 => h9) hv43 dX4_owner_32 ?_
  refine lv_iconst (v := 1) hx hb dX4_owner_35 (by decide) ?_
  refine lv_iadd hx hb dX4_owner_36 ?_
  obtain ⟨fs45, he46, hk47, hw⟩ := hw
  refine gh_put (ci := 4) (v := .int (x44 + 1)) (ty := .int) (C := "OwnerLedger") (T := TX4) (N := 11) hx hb hts (fun w h => gT_up (inX4 w h)) tyX4 tyX4_ok nmX4 hown hK hP hS he46 rfl 4 (by decide) (hts _ (gT_up kw_27)) (fun _ h9 => h9) rfl (by decide +kernel) rfl rfl hk47 dX4_owner_37 (fun G48 H locs eG49 hP hS => ?_)
  replace hw := hw G48 eG49
  refine lv_iload_n hx hb dX4_owner_40 rfl (lv_at hl 0 rfl) ?_
  exact gh_iret hx hb hr hlocks hw hP hS (Nat.le_of_ble_eq_true rfl) (Nat.le_of_ble_eq_true rfl) dX4_owner_41
abbrev rmX4_findOwner : Room := { frames := 6, cells := 1, slots := 6, locals := 82 }
abbrev cxX4_findOwner (p : Program) (s : State) (m : MethodId) (args : Array Value) (meth : Method) (c : Code) (D : va_G) (AC : Nat → ClassId) (sa : gh_SA) (A : Nat → Prop) : Prop := CallFix p m c prog_1_method_28_code 3 s args wsX4_findOwner "OwnerLedger" ∧ meth.sig.returnType = (some (.object "OwnerLedger$Owner")) ∧ meth.locks = false ∧ c.exceptionTable.toList = [] ∧ va_K D vwCl (gh_ty AC) s ∧ gh_En sa A s s.heap ∧ (∀ q, s.heap.size ≤ q → A q)
def wX4_findOwner_23 (post : Option Nat → gh_H → Prop) (px : String → gh_H → Prop) (G : gh_H) (s0 : Option Nat) : Prop := (s0 = none → (px "java/util/NoSuchElementException" G)) ∧ (∀ a1 : Nat, s0 = some a1 → (post (some a1) G))
set_option maxRecDepth 100000 in
set_option maxHeartbeats 4000000 in
theorem lX4_findOwner_23 {p : Program} {l : Launch} {e : Env} {s : State} {m : MethodId} {args : Array Value} {below : List Frame} {meth : Method} {c : Code} {D : va_G} {AC : Nat → ClassId} {sa : gh_SA} {A : Nat → Prop} (hl0 : l.stackTraces = false) (CX : cxX4_findOwner p s m args meth c D AC sa A) (post : Option Nat → gh_H → Prop) (px : String → gh_H → Prop) : ∀ (G : gh_H) (s0 : Option Nat) (H : Heap) (locs : List Loc), wX4_findOwner_23 post px G s0 → gh_h D vwCl AC A G H → va_S A s.heap H locs → ∀ ls : Array Slot, lv_has ls 3 [] → W p l e rmX4_findOwner s m args below meth c H locs 0 0 (vx_MQ below (va_Qq post (gh_B D vwCl AC A) A) (gh_X D vwCl AC px A) args s 1 6 A) (F0 m 23 ls [va_rf s0]) := by
  obtain ⟨⟨hx, hb, hml, hown, hts⟩, hr, hlocks, htb, hK, hE, hA⟩ := id CX
  have hno : ∀ (pc : Nat), ∀ x ∈ c.exceptionTable.toList, covers x pc = false := by rw [htb]; intro _ _ h; cases h
  intro G s0 H locs hw hP hS ls hl
  dsimp only [wX4_findOwner_23] at hw
  refine gh_astore_n (lv' := [(2, va_rf s0)]) hx hb dX4_findOwner_23 rfl hl (by decide) rfl (fun ls hl => ?_)
  refine gh_aload_n hx hb dX4_findOwner_24 rfl (lv_at hl 0 rfl) ?_
  rcases s0 with _ | a1
  · replace hw := hw.1 rfl
    have hl : lv_has ls 3 [(2, .null)] := hl
    refine lv_ifnonnullN hx hb dX4_findOwner_25 ?_
    exact gx_throwSX (own := "OwnerLedger") (cls := "java/util/NoSuchElementException") (names := ["java/lang/RuntimeException", "java/lang/Exception"]) hx hb hl0 gx_n0 gx_n1 gx_n2 gx_n5 hown (by decide +kernel) (by decide +kernel) (hts _ (gT_up kw_83)) (hts _ (gT_up kw_5)) (gh_str hE (own := "OwnerLedger") (k := 255) (tx := "there is no such owner") (by decide)) (gh_hat1 hts hE) gh_got1 hE.1 hE.2.1 hS (hl.1.trans hml.symm) dX4_findOwner_28 dX4_findOwner_31 dX4_findOwner_32 dX4_findOwner_34 dX4_findOwner_37 (hno _) (Nat.le_of_ble_eq_true rfl) (Nat.le_of_ble_eq_true rfl) (Nat.le_of_ble_eq_true rfl) (Nat.le_of_ble_eq_true rfl) hlocks (gh_thrown hP hS hw) hS.2.2 (Nat.le_of_ble_eq_true rfl) (Nat.le_of_ble_eq_true rfl)
  · replace hw := hw.2 a1 rfl
    have hl : lv_has ls 3 [(2, .ref a1)] := hl
    refine lv_ifnonnull (tgt := 38) hx hb dX4_findOwner_25 (by decide) ?_
    refine lv_aload_n hx hb dX4_findOwner_38 rfl (lv_at hl 0 rfl) ?_
    exact gh_aret (o := (some a1)) hx hb hr hlocks hw hP hS (Nat.le_of_ble_eq_true rfl) (Nat.le_of_ble_eq_true rfl) dX4_findOwner_39
def wX4_findOwner (post : Option Nat → gh_H → Prop) (px : String → gh_H → Prop) (G : gh_H) (t : Nat) (p0 : Int32) : Prop := (p0 < 0 → (wX4_findOwner_23 post px G none)) ∧ (¬ p0 < 0 → (∃ (fs2 : List Value) (x5 : Nat), G t = some (.inr (4, fs2)) ∧ fs2[0]? = some (.ref x5) ∧ (∃ (k6 : Nat) (n7 : vp_A), G x5 = some (.inl (k6, n7)) ∧ k6 < 7 ∧ ((p0 < (Int32.ofNat n7.1) → (∃ (fs12 : List Value) (x15 : Nat), G t = some (.inr (4, fs12)) ∧ fs12[0]? = some (.ref x15) ∧ (∃ (k20 n16 : Nat) (f17 : Nat → Option Nat), G x15 = some (.inl (k20, n16, .inr (.inr (.inr (.inr f17))))) ∧ gh_isq k20 = true ∧ vp_in p0 n16 ∧ (∀ o22 : Option Nat, o22 = f17 p0.toNatClampNeg → wX4_findOwner_23 post px G o22)))) ∧ (¬ p0 < (Int32.ofNat n7.1) → (wX4_findOwner_23 post px G none))))))
set_option maxRecDepth 100000 in
set_option maxHeartbeats 4000000 in
theorem mX4_findOwner (l : Launch) (hl0 : l.stackTraces = false) (D : va_G) (AC : Nat → ClassId) (sa : gh_SA) (t : Nat) (p0 : Int32) (post : Option Nat → gh_H → Prop) (px : String → gh_H → Prop) (G : gh_H) (sz : Nat) (hw : wX4_findOwner post px G t p0) : vx_Met l yX4_findOwner wsX4_findOwner rmX4_findOwner (gh_Pc D vwCl AC (gh_ty AC) (gh_En sa) G sz [.ref t, .int p0]) (va_Qq post (gh_B D vwCl AC (gh_A G sz)) (gh_A G sz)) (gh_X D vwCl AC px (gh_A G sz)) 1 6 (gh_A G sz) := by
  refine vx_ofW (cc := prog_1_method_28_code) (maxL := 3) (ret := (some (.object "OwnerLedger$Owner"))) (by decide) rfl ?_
  intro p e s m args below meth c s₁ B hml hnoh hv
  obtain ⟨rfl, hsz, hP, hK, hE⟩ := hv
  have hx := B.exec
  have hb := B.bytes
  have hr := B.returns
  have hts := atoms_spec (ws := wsX4_findOwner) B.pre
  have hown : s.vm.findClass "OwnerLedger" = some m.cls := findClass_of_methodNamed B.named
  have hlocks := B.notSynchronized
  have htb : c.exceptionTable.toList = [] := List.eq_nil_iff_forall_not_mem.mpr hnoh
  subst hsz
  have hA : ∀ q, s.heap.size ≤ q → gh_A G s.heap.size q := fun q h => Or.inr h
  generalize gh_A G s.heap.size = A at hP hE hA ⊢
  have hno : ∀ (pc : Nat), ∀ x ∈ c.exceptionTable.toList, covers x pc = false := by rw [htb]; intro _ _ h; cases h
  have CX : cxX4_findOwner p s m [.ref t, .int p0].toArray meth c D AC sa A := ⟨⟨hx, hb, hml, hown, hts⟩, hr, hlocks, htb, hK, hE, hA⟩
  have hS : va_S A s.heap s.heap [] := va_S.rf
  have hl := lv_entry ([.ref t, .int p0]) (n := 3) (Nat.le_of_ble_eq_true rfl)
  rw [lg_entry_eq]
  generalize (lg_sl ([.ref t, .int p0]) ++ List.replicate (3 - (lg_sl ([.ref t, .int p0])).length) Slot.unset).toArray = ls at hl ⊢
  have hl : lv_has ls 3 [(0, .ref t), (1, .int p0)] := hl
  dsimp only [wX4_findOwner] at hw
  refine lv_iload_n hx hb dX4_findOwner_0 rfl (lv_at hl 1 rfl) ?_
  refine lv_if_lt (tgt := 13) hx hb dX4_findOwner_1 (by decide) (fun c1 => ?_) (fun c1 => ?_)
  · replace hw := hw.1 c1
    refine lv_null hx hb dX4_findOwner_13 ?_
    refine lv_goto (tgt := 23) hx hb dX4_findOwner_14 (by decide) ?_
    have hl := lv_sub (l' := []) hl [] rfl
    exact lX4_findOwner_23 hl0 CX post px _ none _ _ hw hP hS ls hl
  · replace hw := hw.2 c1
    refine lv_iload_n hx hb dX4_findOwner_4 rfl (lv_at hl 1 rfl) ?_
    refine lv_aload_n hx hb dX4_findOwner_5 rfl (lv_at hl 0 rfl) ?_
    obtain ⟨fs2, x5, he3, hv4, hw⟩ := hw
    refine gh_get (ci := 4) (v := .ref x5) (C := "OwnerLedger") (T := TX4) (N := 11) hx hb hts (fun w h => gT_up (inX4 w h)) hown hK hP he3 rfl 0 (by decide) (hts _ (gT_up kw_23)) (fun _ h9 => h9) hv4 dX4_findOwner_6 ?_
    obtain ⟨k6, n7, he9, hk10, hw⟩ := hw
    obtain ⟨ty9, ht9⟩ := gh_tyat AC hk10
    refine gh_alen hx hb hK hP he9 ht9 rfl dX4_findOwner_9 ?_
    refine lv_icmp_lt (tgt := 17) hx hb dX4_findOwner_10 (by decide) (fun c11 => ?_) (fun c11 => ?_)
    · replace hw := hw.1 c11
      refine lv_aload_n hx hb dX4_findOwner_17 rfl (lv_at hl 0 rfl) ?_
      obtain ⟨fs12, x15, he13, hv14, hw⟩ := hw
      refine gh_get (ci := 4) (v := .ref x15) (C := "OwnerLedger") (T := TX4) (N := 11) hx hb hts (fun w h => gT_up (inX4 w h)) hown hK hP he13 rfl 0 (by decide) (hts _ (gT_up kw_23)) (fun _ h9 => h9) hv14 dX4_findOwner_18 ?_
      refine lv_iload_n hx hb dX4_findOwner_21 rfl (lv_at hl 1 rfl) ?_
      obtain ⟨k20, n16, f17, he18, hk21, hi19, hw⟩ := hw
      obtain ⟨C9, ht9⟩ := gh_tyq AC hk21
      refine gh_aald hx hb hK hP he18 ht9 hi19 dX4_findOwner_22 ?_
      obtain ⟨o22, eo23⟩ : ∃ z : Option Nat, z = f17 (Int32.toNatClampNeg p0) := ⟨_, rfl⟩
      rw [← eo23]
      replace hw := hw o22 eo23
      have hl := lv_sub (l' := []) hl [] rfl
      exact lX4_findOwner_23 hl0 CX post px _ o22 _ _ hw hP hS ls hl
    · replace hw := hw.2 c11
      refine lv_null hx hb dX4_findOwner_13 ?_
      refine lv_goto (tgt := 23) hx hb dX4_findOwner_14 (by decide) ?_
      have hl := lv_sub (l' := []) hl [] rfl
      exact lX4_findOwner_23 hl0 CX post px _ none _ _ hw hP hS ls hl
abbrev rmX4_requireRange : Room := { frames := 6, cells := 1, slots := 6, locals := 82 }
abbrev cxX4_requireRange (p : Program) (s : State) (m : MethodId) (args : Array Value) (meth : Method) (c : Code) (D : va_G) (AC : Nat → ClassId) (sa : gh_SA) (A : Nat → Prop) : Prop := CallFix p m c prog_1_method_25_code 6 s args wsX4_requireRange "OwnerLedger" ∧ meth.sig.returnType = none ∧ meth.locks = false ∧ c.exceptionTable.toList = [] ∧ va_K D vwCl (gh_ty AC) s ∧ gh_En sa A s s.heap ∧ (∀ q, s.heap.size ≤ q → A q)
def wX4_requireRange (post : gh_H → Prop) (px : String → gh_H → Prop) (G : gh_H) (p0 : Int64) (p1 : Int64) (p2 : Int64) : Prop := ((lg_cmp p0 p1) < 0 → (px "java/lang/IllegalArgumentException" G)) ∧ (¬ (lg_cmp p0 p1) < 0 → (((lg_cmp p0 p2) ≤ 0 → (post G)) ∧ (¬ (lg_cmp p0 p2) ≤ 0 → (px "java/lang/IllegalArgumentException" G))))
set_option maxRecDepth 100000 in
set_option maxHeartbeats 4000000 in
theorem mX4_requireRange (l : Launch) (hl0 : l.stackTraces = false) (D : va_G) (AC : Nat → ClassId) (sa : gh_SA) (p0 : Int64) (p1 : Int64) (p2 : Int64) (post : gh_H → Prop) (px : String → gh_H → Prop) (G : gh_H) (sz : Nat) (hw : wX4_requireRange post px G p0 p1 p2) : vx_Met l yX4_requireRange wsX4_requireRange rmX4_requireRange (gh_Pc D vwCl AC (gh_ty AC) (gh_En sa) G sz [.long p0, .long p1, .long p2]) (va_Qv post (gh_B D vwCl AC (gh_A G sz)) (gh_A G sz)) (gh_X D vwCl AC px (gh_A G sz)) 1 6 (gh_A G sz) := by
  refine vx_ofW (cc := prog_1_method_25_code) (maxL := 6) (ret := none) (by decide) rfl ?_
  intro p e s m args below meth c s₁ B hml hnoh hv
  obtain ⟨rfl, hsz, hP, hK, hE⟩ := hv
  have hx := B.exec
  have hb := B.bytes
  have hr := B.returns
  have hts := atoms_spec (ws := wsX4_requireRange) B.pre
  have hown : s.vm.findClass "OwnerLedger" = some m.cls := findClass_of_methodNamed B.named
  have hlocks := B.notSynchronized
  have htb : c.exceptionTable.toList = [] := List.eq_nil_iff_forall_not_mem.mpr hnoh
  subst hsz
  have hA : ∀ q, s.heap.size ≤ q → gh_A G s.heap.size q := fun q h => Or.inr h
  generalize gh_A G s.heap.size = A at hP hE hA ⊢
  have hno : ∀ (pc : Nat), ∀ x ∈ c.exceptionTable.toList, covers x pc = false := by rw [htb]; intro _ _ h; cases h
  have CX : cxX4_requireRange p s m [.long p0, .long p1, .long p2].toArray meth c D AC sa A := ⟨⟨hx, hb, hml, hown, hts⟩, hr, hlocks, htb, hK, hE, hA⟩
  have hS : va_S A s.heap s.heap [] := va_S.rf
  have hl := lv_entry ([.long p0, .long p1, .long p2]) (n := 6) (Nat.le_of_ble_eq_true rfl)
  rw [lg_entry_eq]
  generalize (lg_sl ([.long p0, .long p1, .long p2]) ++ List.replicate (6 - (lg_sl ([.long p0, .long p1, .long p2])).length) Slot.unset).toArray = ls at hl ⊢
  have hl : lv_has ls 6 [(0, .long p0), (2, .long p1), (4, .long p2)] := hl
  dsimp only [wX4_requireRange] at hw
  refine lv_lload_n hx hb dX4_requireRange_0 rfl (lv_at hl 0 rfl) ?_
  refine lv_lload_n hx hb dX4_requireRange_1 rfl (lv_at hl 1 rfl) ?_
  refine W.lcmp hx hb dX4_requireRange_2 ?_
  refine lv_if_lt (tgt := 13) hx hb dX4_requireRange_3 (by decide) (fun c1 => ?_) (fun c1 => ?_)
  · replace hw := hw.1 c1
    exact vx_throwS (own := "OwnerLedger") (cls := "java/lang/IllegalArgumentException") (names := ["java/lang/RuntimeException", "java/lang/Exception"]) hx hb hl0 hown (by decide +kernel) (by decide +kernel) (hts _ (gT_up kw_92)) (hts _ (gT_up kw_6)) (gh_str hE (own := "OwnerLedger") (k := 244) (tx := "a number is outside its range") (by decide)) (gh_hat2 hts hE) gh_got2 hE.1 hE.2.1 hS (hl.1.trans hml.symm) dX4_requireRange_13 dX4_requireRange_16 dX4_requireRange_17 dX4_requireRange_19 dX4_requireRange_22 (hno _) (Nat.le_of_ble_eq_true rfl) (Nat.le_of_ble_eq_true rfl) (Nat.le_of_ble_eq_true rfl) (Nat.le_of_ble_eq_true rfl) hlocks (gh_thrown hP hS hw) hS.2.2 (Nat.le_of_ble_eq_true rfl) (Nat.le_of_ble_eq_true rfl)
  · replace hw := hw.2 c1
    refine lv_lload_n hx hb dX4_requireRange_6 rfl (lv_at hl 0 rfl) ?_
    refine lv_lload hx hb dX4_requireRange_7 (lv_at hl 2 rfl) ?_
    refine W.lcmp hx hb dX4_requireRange_9 ?_
    refine lv_if_le (tgt := 23) hx hb dX4_requireRange_10 (by decide) (fun c2 => ?_) (fun c2 => ?_)
    · replace hw := hw.1 c2
      exact gh_vret hx hb hr hlocks hw hP hS (Nat.le_of_ble_eq_true rfl) (Nat.le_of_ble_eq_true rfl) dX4_requireRange_23
    · replace hw := hw.2 c2
      exact vx_throwS (own := "OwnerLedger") (cls := "java/lang/IllegalArgumentException") (names := ["java/lang/RuntimeException", "java/lang/Exception"]) hx hb hl0 hown (by decide +kernel) (by decide +kernel) (hts _ (gT_up kw_92)) (hts _ (gT_up kw_6)) (gh_str hE (own := "OwnerLedger") (k := 244) (tx := "a number is outside its range") (by decide)) (gh_hat2 hts hE) gh_got2 hE.1 hE.2.1 hS (hl.1.trans hml.symm) dX4_requireRange_13 dX4_requireRange_16 dX4_requireRange_17 dX4_requireRange_19 dX4_requireRange_22 (hno _) (Nat.le_of_ble_eq_true rfl) (Nat.le_of_ble_eq_true rfl) (Nat.le_of_ble_eq_true rfl) (Nat.le_of_ble_eq_true rfl) hlocks (gh_thrown hP hS hw) hS.2.2 (Nat.le_of_ble_eq_true rfl) (Nat.le_of_ble_eq_true rfl)
abbrev rmX4_account : Room := { frames := 7, cells := 3, slots := 18, locals := 107 }
abbrev cxX4_account (p : Program) (s : State) (m : MethodId) (args : Array Value) (meth : Method) (c : Code) (D : va_G) (AC : Nat → ClassId) (sa : gh_SA) (A : Nat → Prop) : Prop := CallFix p m c prog_1_method_3_code 4 s args wsX4_account "OwnerLedger" ∧ meth.sig.returnType = (some .int) ∧ meth.locks = false ∧ c.exceptionTable.toList = [] ∧ va_K D vwCl (gh_ty AC) s ∧ gh_En sa A s s.heap ∧ (∀ q, s.heap.size ≤ q → A q)
def wX4_account (post : Int32 → gh_H → Prop) (px : String → gh_H → Prop) (G : gh_H) (t : Nat) (p0 : Int32) (p1 : Int32) : Prop := ∃ fs3 : List Value, G t = some (.inr (4, fs3)) ∧ wX4_findOwner (fun r1 G2 => wX4_requireRange (fun G6 => ∃ (fs7 : List Value) (x10 : Int32), G6 t = some (.inr (4, fs7)) ∧ fs7[5]? = some (.int x10) ∧ (∃ (fs11 : List Value) (x14 : Nat), G6 t = some (.inr (4, fs11)) ∧ fs11[1]? = some (.ref x14) ∧ (∃ (k15 : Nat) (n16 : vp_A), G6 x14 = some (.inl (k15, n16)) ∧ k15 < 7 ∧ (wX4_requireRoom (fun G21 => ∃ (fs22 : List Value) (x25 : Int32), G21 t = some (.inr (4, fs22)) ∧ fs22[5]? = some (.int x25) ∧ (∃ (fs26 : List Value) (x29 : Nat), G21 t = some (.inr (4, fs26)) ∧ fs26[1]? = some (.ref x29) ∧ (∃ (n30 : Nat) (f31 : Nat → Int32), G21 x29 = some (.inl (0, n30, .inl f31)) ∧ vp_in x25 n30 ∧ (∀ G35 : gh_H, G35 = gh_up G21 x29 (.inl (0, n30, .inl (upd f31 (Int32.toNatClampNeg x25) p1))) → ∃ (fs36 : List Value) (x39 : Int32), G35 t = some (.inr (4, fs36)) ∧ fs36[5]? = some (.int x39) ∧ (∃ fs40 : List Value, G35 t = some (.inr (4, fs40)) ∧ 5 < fs40.length ∧ (∀ G43 : gh_H, G43 = gh_up G35 t (.inr (4, fs40.set 5 (.int (x39 + 1)))) → post x25 G43)))))) px G6 x10 (Int32.ofNat n16.1))))) px G2 (Int32.toInt64 p1) 0 2) px G t p0
set_option maxRecDepth 100000 in
set_option maxHeartbeats 4000000 in
theorem mX4_account (l : Launch) (hl0 : l.stackTraces = false) (D : va_G) (AC : Nat → ClassId) (sa : gh_SA) (t : Nat) (p0 : Int32) (p1 : Int32) (post : Int32 → gh_H → Prop) (px : String → gh_H → Prop) (G : gh_H) (sz : Nat) (hw : wX4_account post px G t p0 p1) : vx_Met l yX4_account wsX4_account rmX4_account (gh_Pc D vwCl AC (gh_ty AC) (gh_En sa) G sz [.ref t, .int p0, .int p1]) (va_Qi post (gh_B D vwCl AC (gh_A G sz)) (gh_A G sz)) (gh_X D vwCl AC px (gh_A G sz)) 3 18 (gh_A G sz) := by
  refine vx_ofW (cc := prog_1_method_3_code) (maxL := 4) (ret := (some .int)) (by decide) rfl ?_
  intro p e s m args below meth c s₁ B hml hnoh hv
  obtain ⟨rfl, hsz, hP, hK, hE⟩ := hv
  have hx := B.exec
  have hb := B.bytes
  have hr := B.returns
  have hts := atoms_spec (ws := wsX4_account) B.pre
  have hown : s.vm.findClass "OwnerLedger" = some m.cls := findClass_of_methodNamed B.named
  have hlocks := B.notSynchronized
  have htb : c.exceptionTable.toList = [] := List.eq_nil_iff_forall_not_mem.mpr hnoh
  subst hsz
  have hA : ∀ q, s.heap.size ≤ q → gh_A G s.heap.size q := fun q h => Or.inr h
  generalize gh_A G s.heap.size = A at hP hE hA ⊢
  have hno : ∀ (pc : Nat), ∀ x ∈ c.exceptionTable.toList, covers x pc = false := by rw [htb]; intro _ _ h; cases h
  have CX : cxX4_account p s m [.ref t, .int p0, .int p1].toArray meth c D AC sa A := ⟨⟨hx, hb, hml, hown, hts⟩, hr, hlocks, htb, hK, hE, hA⟩
  have hS : va_S A s.heap s.heap [] := va_S.rf
  have hl := lv_entry ([.ref t, .int p0, .int p1]) (n := 4) (Nat.le_of_ble_eq_true rfl)
  rw [lg_entry_eq]
  generalize (lg_sl ([.ref t, .int p0, .int p1]) ++ List.replicate (4 - (lg_sl ([.ref t, .int p0, .int p1])).length) Slot.unset).toArray = ls at hl ⊢
  have hl : lv_has ls 4 [(0, .ref t), (1, .int p0), (2, .int p1)] := hl
  dsimp only [wX4_account] at hw
  refine lv_aload_n hx hb dX4_account_0 rfl (lv_at hl 0 rfl) ?_
  refine lv_iload_n hx hb dX4_account_1 rfl (lv_at hl 1 rfl) ?_
  obtain ⟨fs3, he4, hw⟩ := hw
  refine gh_cq hlocks (hno _) (vx_runV (C := "OwnerLedger") (As := [.int p0]) (rest := []) ⟨hx, hb, hml, hown, hts⟩ (mX4_findOwner l hl0 D AC sa _ _ _ _ _ _ hw) (cwV 1 hts (gV kw_80 kw_81 kw_533 kw_1 kw_82) rfl rfl rfl (by decide +kernel) ⟨Nat.le_of_ble_eq_true rfl, Nat.le_of_ble_eq_true rfl⟩) (gh_preV gh_En_ok hK hE hP hS hA he4 rfl _) rfl rfl hl.1 rfl (lv_room (Nat.le_of_ble_eq_true rfl)) dX4_account_2 ⟨Nat.le_of_ble_eq_true rfl, Nat.le_of_ble_eq_true rfl⟩) hP hS hA (Nat.le_of_ble_eq_true rfl) (Nat.le_of_ble_eq_true rfl) (fun r1 G2 H locs hw2 hP hS => ?_)
  replace hw := hw2
  clear hw2
  refine lv_pop hx hb dX4_account_5 (gh_cat _) ?_
  refine lv_iload_n hx hb dX4_account_6 rfl (lv_at hl 2 rfl) ?_
  refine lv_i2l hx hb dX4_account_7 rfl ?_
  refine lv_lconst (v := 0) hx hb dX4_account_8 (by decide) ?_
  refine lv_ldc2 (v := 2) hx hb hown (hts _ (gT_up kw_88)) dX4_account_9 ?_
  refine gh_cv_ hlocks (hno _) (vx_runS (As := [.long (Int32.toInt64 p1), .long 0, .long 2]) (rest := []) ⟨hx, hb, hml, hown, hts⟩ (mX4_requireRange l hl0 D AC sa _ _ _ _ _ _ _ hw) (va_cwS 3 hts (gS kw_89 kw_90 kw_1 kw_91) rfl rfl rfl (by decide +kernel) ⟨Nat.le_of_ble_eq_true rfl, Nat.le_of_ble_eq_true rfl⟩) (gh_pre gh_En_ok hK hE hP hS hA _) rfl rfl hl.1 rfl (lv_room (Nat.le_of_ble_eq_true rfl)) dX4_account_12 ⟨Nat.le_of_ble_eq_true rfl, Nat.le_of_ble_eq_true rfl⟩) hP hS hA (Nat.le_of_ble_eq_true rfl) (Nat.le_of_ble_eq_true rfl) (fun G6 H locs hw2 hP hS => ?_)
  replace hw := hw2
  clear hw2
  refine lv_aload_n hx hb dX4_account_15 rfl (lv_at hl 0 rfl) ?_
  obtain ⟨fs7, x10, he8, hv9, hw⟩ := hw
  refine gh_get (ci := 4) (v := .int x10) (C := "OwnerLedger") (T := TX4) (N := 11) hx hb hts (fun w h => gT_up (inX4 w h)) hown hK hP he8 rfl 5 (by decide) (hts _ (gT_up kw_28)) (fun _ h9 => h9) hv9 dX4_account_16 ?_
  refine lv_aload_n hx hb dX4_account_19 rfl (lv_at hl 0 rfl) ?_
  obtain ⟨fs11, x14, he12, hv13, hw⟩ := hw
  refine gh_get (ci := 4) (v := .ref x14) (C := "OwnerLedger") (T := TX4) (N := 11) hx hb hts (fun w h => gT_up (inX4 w h)) hown hK hP he12 rfl 1 (by decide) (hts _ (gT_up kw_24)) (fun _ h9 => h9) hv13 dX4_account_20 ?_
  obtain ⟨k15, n16, he18, hk19, hw⟩ := hw
  obtain ⟨ty9, ht9⟩ := gh_tyat AC hk19
  refine gh_alen hx hb hK hP he18 ht9 rfl dX4_account_23 ?_
  refine gh_cv_ hlocks (hno _) (vx_runS (As := [.int x10, .int (Int32.ofNat n16.1)]) (rest := []) ⟨hx, hb, hml, hown, hts⟩ (mX4_requireRoom l hl0 D AC sa _ _ _ _ _ _ hw) (va_cwS 2 hts (gS kw_56 kw_57 kw_1 kw_58) rfl rfl rfl (by decide +kernel) ⟨Nat.le_of_ble_eq_true rfl, Nat.le_of_ble_eq_true rfl⟩) (gh_pre gh_En_ok hK hE hP hS hA _) rfl rfl hl.1 rfl (lv_room (Nat.le_of_ble_eq_true rfl)) dX4_account_24 ⟨Nat.le_of_ble_eq_true rfl, Nat.le_of_ble_eq_true rfl⟩) hP hS hA (Nat.le_of_ble_eq_true rfl) (Nat.le_of_ble_eq_true rfl) (fun G21 H locs hw2 hP hS => ?_)
  replace hw := hw2
  clear hw2
  refine lv_aload_n hx hb dX4_account_27 rfl (lv_at hl 0 rfl) ?_
  obtain ⟨fs22, x25, he23, hv24, hw⟩ := hw
  refine gh_get (ci := 4) (v := .int x25) (C := "OwnerLedger") (T := TX4) (N := 11) hx hb hts (fun w h => gT_up (inX4 w h)) hown hK hP he23 rfl 5 (by decide) (hts _ (gT_up kw_28)) (fun _ h9 => h9) hv24 dX4_account_28 ?_
  refine lv_istore_n (lv' := [(3, .int x25), (0, .ref t), (1, .int p0), (2, .int p1)]) hx hb dX4_account_31 rfl hl (by decide) rfl (fun ls hl => ?_)
  refine lv_aload_n hx hb dX4_account_32 rfl (lv_at hl 1 rfl) ?_
  obtain ⟨fs26, x29, he27, hv28, hw⟩ := hw
  refine gh_get (ci := 4) (v := .ref x29) (C := "OwnerLedger") (T := TX4) (N := 11) hx hb hts (fun w h => gT_up (inX4 w h)) hown hK hP he27 rfl 1 (by decide) (hts _ (gT_up kw_24)) (fun _ h9 => h9) hv28 dX4_account_33 ?_
  refine lv_iload_n hx hb dX4_account_36 rfl (lv_at hl 0 rfl) ?_
  refine lv_iload_n hx hb dX4_account_37 rfl (lv_at hl 3 rfl) ?_
  obtain ⟨n30, f31, he32, hi33, hw⟩ := hw
  refine gh_iast hx hb hK hP hS he32 rfl hi33 dX4_account_38 (fun G35 H locs eG34 hP hS => ?_)
  replace hw := hw G35 eG34
  refine lv_aload_n hx hb dX4_account_39 rfl (lv_at hl 1 rfl) ?_
  refine lv_dup hx hb dX4_account_40 rfl ?_
  obtain ⟨fs36, x39, he37, hv38, hw⟩ := hw
  refine gh_get (ci := 4) (v := .int x39) (C := "OwnerLedger") (T := TX4) (N := 11) hx hb hts (fun w h => gT_up (inX4 w h)) hown hK hP he37 rfl 5 (by decide) (hts _ (gT_up kw_28)) (fun _ h9 => h9) hv38 dX4_account_41 ?_
  refine lv_iconst (v := 1) hx hb dX4_account_44 (by decide) ?_
  refine lv_iadd hx hb dX4_account_45 ?_
  obtain ⟨fs40, he41, hk42, hw⟩ := hw
  refine gh_put (ci := 4) (v := .int (x39 + 1)) (ty := .int) (C := "OwnerLedger") (T := TX4) (N := 11) hx hb hts (fun w h => gT_up (inX4 w h)) tyX4 tyX4_ok nmX4 hown hK hP hS he41 rfl 5 (by decide) (hts _ (gT_up kw_28)) (fun _ h9 => h9) rfl (by decide +kernel) rfl rfl hk42 dX4_account_46 (fun G43 H locs eG44 hP hS => ?_)
  replace hw := hw G43 eG44
  refine lv_iload_n hx hb dX4_account_49 rfl (lv_at hl 0 rfl) ?_
  exact gh_iret hx hb hr hlocks hw hP hS (Nat.le_of_ble_eq_true rfl) (Nat.le_of_ble_eq_true rfl) dX4_account_50
abbrev rmX4_month : Room := { frames := 7, cells := 1, slots := 6, locals := 107 }
abbrev cxX4_month (p : Program) (s : State) (m : MethodId) (args : Array Value) (meth : Method) (c : Code) (D : va_G) (AC : Nat → ClassId) (sa : gh_SA) (A : Nat → Prop) : Prop := CallFix p m c prog_1_method_4_code 2 s args wsX4_month "OwnerLedger" ∧ meth.sig.returnType = none ∧ meth.locks = false ∧ c.exceptionTable.toList = [] ∧ va_K D vwCl (gh_ty AC) s ∧ gh_En sa A s s.heap ∧ (∀ q, s.heap.size ≤ q → A q)
def wX4_month (post : gh_H → Prop) (px : String → gh_H → Prop) (G : gh_H) (t : Nat) (p0 : Int32) : Prop := ∃ (fs1 : List Value) (x4 : Int32), G t = some (.inr (4, fs1)) ∧ fs1[8]? = some (.int x4) ∧ (wX4_requireRange (fun G6 => ∃ fs7 : List Value, G6 t = some (.inr (4, fs7)) ∧ 8 < fs7.length ∧ (∀ G10 : gh_H, G10 = gh_up G6 t (.inr (4, fs7.set 8 (.int p0))) → post G10)) px G (Int32.toInt64 p0) (Int32.toInt64 x4) 120)
set_option maxRecDepth 100000 in
set_option maxHeartbeats 4000000 in
theorem mX4_month (l : Launch) (hl0 : l.stackTraces = false) (D : va_G) (AC : Nat → ClassId) (sa : gh_SA) (t : Nat) (p0 : Int32) (post : gh_H → Prop) (px : String → gh_H → Prop) (G : gh_H) (sz : Nat) (hw : wX4_month post px G t p0) : vx_Met l yX4_month wsX4_month rmX4_month (gh_Pc D vwCl AC (gh_ty AC) (gh_En sa) G sz [.ref t, .int p0]) (va_Qv post (gh_B D vwCl AC (gh_A G sz)) (gh_A G sz)) (gh_X D vwCl AC px (gh_A G sz)) 1 6 (gh_A G sz) := by
  refine vx_ofW (cc := prog_1_method_4_code) (maxL := 2) (ret := none) (by decide) rfl ?_
  intro p e s m args below meth c s₁ B hml hnoh hv
  obtain ⟨rfl, hsz, hP, hK, hE⟩ := hv
  have hx := B.exec
  have hb := B.bytes
  have hr := B.returns
  have hts := atoms_spec (ws := wsX4_month) B.pre
  have hown : s.vm.findClass "OwnerLedger" = some m.cls := findClass_of_methodNamed B.named
  have hlocks := B.notSynchronized
  have htb : c.exceptionTable.toList = [] := List.eq_nil_iff_forall_not_mem.mpr hnoh
  subst hsz
  have hA : ∀ q, s.heap.size ≤ q → gh_A G s.heap.size q := fun q h => Or.inr h
  generalize gh_A G s.heap.size = A at hP hE hA ⊢
  have hno : ∀ (pc : Nat), ∀ x ∈ c.exceptionTable.toList, covers x pc = false := by rw [htb]; intro _ _ h; cases h
  have CX : cxX4_month p s m [.ref t, .int p0].toArray meth c D AC sa A := ⟨⟨hx, hb, hml, hown, hts⟩, hr, hlocks, htb, hK, hE, hA⟩
  have hS : va_S A s.heap s.heap [] := va_S.rf
  have hl := lv_entry ([.ref t, .int p0]) (n := 2) (Nat.le_of_ble_eq_true rfl)
  rw [lg_entry_eq]
  generalize (lg_sl ([.ref t, .int p0]) ++ List.replicate (2 - (lg_sl ([.ref t, .int p0])).length) Slot.unset).toArray = ls at hl ⊢
  have hl : lv_has ls 2 [(0, .ref t), (1, .int p0)] := hl
  dsimp only [wX4_month] at hw
  refine lv_iload_n hx hb dX4_month_0 rfl (lv_at hl 1 rfl) ?_
  refine lv_i2l hx hb dX4_month_1 rfl ?_
  refine lv_aload_n hx hb dX4_month_2 rfl (lv_at hl 0 rfl) ?_
  obtain ⟨fs1, x4, he2, hv3, hw⟩ := hw
  refine gh_get (ci := 4) (v := .int x4) (C := "OwnerLedger") (T := TX4) (N := 11) hx hb hts (fun w h => gT_up (inX4 w h)) hown hK hP he2 rfl 8 (by decide) (hts _ (gT_up kw_31)) (fun _ h9 => h9) hv3 dX4_month_3 ?_
  refine lv_i2l hx hb dX4_month_6 rfl ?_
  refine lv_ldc2 (v := 120) hx hb hown (hts _ (gT_up kw_104)) dX4_month_7 ?_
  refine gh_cv_ hlocks (hno _) (vx_runS (As := [.long (Int32.toInt64 p0), .long (Int32.toInt64 x4), .long 120]) (rest := []) ⟨hx, hb, hml, hown, hts⟩ (mX4_requireRange l hl0 D AC sa _ _ _ _ _ _ _ hw) (va_cwS 3 hts (gS kw_89 kw_90 kw_1 kw_91) rfl rfl rfl (by decide +kernel) ⟨Nat.le_of_ble_eq_true rfl, Nat.le_of_ble_eq_true rfl⟩) (gh_pre gh_En_ok hK hE hP hS hA _) rfl rfl hl.1 rfl (lv_room (Nat.le_of_ble_eq_true rfl)) dX4_month_10 ⟨Nat.le_of_ble_eq_true rfl, Nat.le_of_ble_eq_true rfl⟩) hP hS hA (Nat.le_of_ble_eq_true rfl) (Nat.le_of_ble_eq_true rfl) (fun G6 H locs hw2 hP hS => ?_)
  replace hw := hw2
  clear hw2
  refine lv_aload_n hx hb dX4_month_13 rfl (lv_at hl 0 rfl) ?_
  refine lv_iload_n hx hb dX4_month_14 rfl (lv_at hl 1 rfl) ?_
  obtain ⟨fs7, he8, hk9, hw⟩ := hw
  refine gh_put (ci := 4) (v := .int p0) (ty := .int) (C := "OwnerLedger") (T := TX4) (N := 11) hx hb hts (fun w h => gT_up (inX4 w h)) tyX4 tyX4_ok nmX4 hown hK hP hS he8 rfl 8 (by decide) (hts _ (gT_up kw_31)) (fun _ h9 => h9) rfl (by decide +kernel) rfl rfl hk9 dX4_month_15 (fun G10 H locs eG11 hP hS => ?_)
  replace hw := hw G10 eG11
  exact gh_vret hx hb hr hlocks hw hP hS (Nat.le_of_ble_eq_true rfl) (Nat.le_of_ble_eq_true rfl) dX4_month_18
abbrev rmX4_close : Room := { frames := 7, cells := 2, slots := 12, locals := 107 }
abbrev cxX4_close (p : Program) (s : State) (m : MethodId) (args : Array Value) (meth : Method) (c : Code) (D : va_G) (AC : Nat → ClassId) (sa : gh_SA) (A : Nat → Prop) : Prop := CallFix p m c prog_1_method_5_code 3 s args wsX4_close "OwnerLedger" ∧ meth.sig.returnType = (some .int) ∧ meth.locks = false ∧ c.exceptionTable.toList = [] ∧ va_K D vwCl (gh_ty AC) s ∧ gh_En sa A s s.heap ∧ (∀ q, s.heap.size ≤ q → A q)
def wX4_close (post : Int32 → gh_H → Prop) (px : String → gh_H → Prop) (G : gh_H) (t : Nat) (p0 : Int32) : Prop := ∃ (fs1 : List Value) (x4 : Int32), G t = some (.inr (4, fs1)) ∧ fs1[8]? = some (.int x4) ∧ (wX4_requireRange (fun G6 => ∃ (fs7 : List Value) (x10 : Int32), G6 t = some (.inr (4, fs7)) ∧ fs7[9]? = some (.int x10) ∧ ((x10 ≤ p0 → (∃ (fs12 : List Value) (x15 : Int32), G6 t = some (.inr (4, fs12)) ∧ fs12[9]? = some (.int x15) ∧ (∃ fs16 : List Value, G6 t = some (.inr (4, fs16)) ∧ 9 < fs16.length ∧ (∀ G19 : gh_H, G19 = gh_up G6 t (.inr (4, fs16.set 9 (.int p0))) → post (p0 - x15) G19)))) ∧ (¬ x10 ≤ p0 → (px "java/lang/IllegalStateException" G6)))) px G (Int32.toInt64 p0) 0 (Int32.toInt64 x4))
set_option maxRecDepth 100000 in
set_option maxHeartbeats 4000000 in
theorem mX4_close (l : Launch) (hl0 : l.stackTraces = false) (D : va_G) (AC : Nat → ClassId) (sa : gh_SA) (t : Nat) (p0 : Int32) (post : Int32 → gh_H → Prop) (px : String → gh_H → Prop) (G : gh_H) (sz : Nat) (hw : wX4_close post px G t p0) : vx_Met l yX4_close wsX4_close rmX4_close (gh_Pc D vwCl AC (gh_ty AC) (gh_En sa) G sz [.ref t, .int p0]) (va_Qi post (gh_B D vwCl AC (gh_A G sz)) (gh_A G sz)) (gh_X D vwCl AC px (gh_A G sz)) 2 12 (gh_A G sz) := by
  refine vx_ofW (cc := prog_1_method_5_code) (maxL := 3) (ret := (some .int)) (by decide) rfl ?_
  intro p e s m args below meth c s₁ B hml hnoh hv
  obtain ⟨rfl, hsz, hP, hK, hE⟩ := hv
  have hx := B.exec
  have hb := B.bytes
  have hr := B.returns
  have hts := atoms_spec (ws := wsX4_close) B.pre
  have hown : s.vm.findClass "OwnerLedger" = some m.cls := findClass_of_methodNamed B.named
  have hlocks := B.notSynchronized
  have htb : c.exceptionTable.toList = [] := List.eq_nil_iff_forall_not_mem.mpr hnoh
  subst hsz
  have hA : ∀ q, s.heap.size ≤ q → gh_A G s.heap.size q := fun q h => Or.inr h
  generalize gh_A G s.heap.size = A at hP hE hA ⊢
  have hno : ∀ (pc : Nat), ∀ x ∈ c.exceptionTable.toList, covers x pc = false := by rw [htb]; intro _ _ h; cases h
  have CX : cxX4_close p s m [.ref t, .int p0].toArray meth c D AC sa A := ⟨⟨hx, hb, hml, hown, hts⟩, hr, hlocks, htb, hK, hE, hA⟩
  have hS : va_S A s.heap s.heap [] := va_S.rf
  have hl := lv_entry ([.ref t, .int p0]) (n := 3) (Nat.le_of_ble_eq_true rfl)
  rw [lg_entry_eq]
  generalize (lg_sl ([.ref t, .int p0]) ++ List.replicate (3 - (lg_sl ([.ref t, .int p0])).length) Slot.unset).toArray = ls at hl ⊢
  have hl : lv_has ls 3 [(0, .ref t), (1, .int p0)] := hl
  dsimp only [wX4_close] at hw
  refine lv_iload_n hx hb dX4_close_0 rfl (lv_at hl 1 rfl) ?_
  refine lv_i2l hx hb dX4_close_1 rfl ?_
  refine lv_lconst (v := 0) hx hb dX4_close_2 (by decide) ?_
  refine lv_aload_n hx hb dX4_close_3 rfl (lv_at hl 0 rfl) ?_
  obtain ⟨fs1, x4, he2, hv3, hw⟩ := hw
  refine gh_get (ci := 4) (v := .int x4) (C := "OwnerLedger") (T := TX4) (N := 11) hx hb hts (fun w h => gT_up (inX4 w h)) hown hK hP he2 rfl 8 (by decide) (hts _ (gT_up kw_31)) (fun _ h9 => h9) hv3 dX4_close_4 ?_
  refine lv_i2l hx hb dX4_close_7 rfl ?_
  refine gh_cv_ hlocks (hno _) (vx_runS (As := [.long (Int32.toInt64 p0), .long 0, .long (Int32.toInt64 x4)]) (rest := []) ⟨hx, hb, hml, hown, hts⟩ (mX4_requireRange l hl0 D AC sa _ _ _ _ _ _ _ hw) (va_cwS 3 hts (gS kw_89 kw_90 kw_1 kw_91) rfl rfl rfl (by decide +kernel) ⟨Nat.le_of_ble_eq_true rfl, Nat.le_of_ble_eq_true rfl⟩) (gh_pre gh_En_ok hK hE hP hS hA _) rfl rfl hl.1 rfl (lv_room (Nat.le_of_ble_eq_true rfl)) dX4_close_8 ⟨Nat.le_of_ble_eq_true rfl, Nat.le_of_ble_eq_true rfl⟩) hP hS hA (Nat.le_of_ble_eq_true rfl) (Nat.le_of_ble_eq_true rfl) (fun G6 H locs hw2 hP hS => ?_)
  replace hw := hw2
  clear hw2
  refine lv_iload_n hx hb dX4_close_11 rfl (lv_at hl 1 rfl) ?_
  refine lv_aload_n hx hb dX4_close_12 rfl (lv_at hl 0 rfl) ?_
  obtain ⟨fs7, x10, he8, hv9, hw⟩ := hw
  refine gh_get (ci := 4) (v := .int x10) (C := "OwnerLedger") (T := TX4) (N := 11) hx hb hts (fun w h => gT_up (inX4 w h)) hown hK hP he8 rfl 9 (by decide) (hts _ (gT_up kw_32)) (fun _ h9 => h9) hv9 dX4_close_13 ?_
  refine lv_icmp_ge (tgt := 29) hx hb dX4_close_16 (by decide) (fun c11 => ?_) (fun c11 => ?_)
  · replace hw := hw.1 c11
    refine lv_iload_n hx hb dX4_close_29 rfl (lv_at hl 1 rfl) ?_
    refine lv_aload_n hx hb dX4_close_30 rfl (lv_at hl 0 rfl) ?_
    obtain ⟨fs12, x15, he13, hv14, hw⟩ := hw
    refine gh_get (ci := 4) (v := .int x15) (C := "OwnerLedger") (T := TX4) (N := 11) hx hb hts (fun w h => gT_up (inX4 w h)) hown hK hP he13 rfl 9 (by decide) (hts _ (gT_up kw_32)) (fun _ h9 => h9) hv14 dX4_close_31 ?_
    refine lv_isub hx hb dX4_close_34 ?_
    refine lv_istore_n (lv' := [(2, .int (p0 - x15)), (0, .ref t), (1, .int p0)]) hx hb dX4_close_35 rfl hl (by decide) rfl (fun ls hl => ?_)
    refine lv_aload_n hx hb dX4_close_36 rfl (lv_at hl 1 rfl) ?_
    refine lv_iload_n hx hb dX4_close_37 rfl (lv_at hl 2 rfl) ?_
    obtain ⟨fs16, he17, hk18, hw⟩ := hw
    refine gh_put (ci := 4) (v := .int p0) (ty := .int) (C := "OwnerLedger") (T := TX4) (N := 11) hx hb hts (fun w h => gT_up (inX4 w h)) tyX4 tyX4_ok nmX4 hown hK hP hS he17 rfl 9 (by decide) (hts _ (gT_up kw_32)) (fun _ h9 => h9) rfl (by decide +kernel) rfl rfl hk18 dX4_close_38 (fun G19 H locs eG20 hP hS => ?_)
    replace hw := hw G19 eG20
    refine lv_iload_n hx hb dX4_close_41 rfl (lv_at hl 0 rfl) ?_
    exact gh_iret hx hb hr hlocks hw hP hS (Nat.le_of_ble_eq_true rfl) (Nat.le_of_ble_eq_true rfl) dX4_close_42
  · replace hw := hw.2 c11
    exact vx_throwS (own := "OwnerLedger") (cls := "java/lang/IllegalStateException") (names := ["java/lang/RuntimeException", "java/lang/Exception"]) hx hb hl0 hown (by decide +kernel) (by decide +kernel) (hts _ (gT_up kw_113)) (hts _ (gT_up kw_7)) (gh_str hE (own := "OwnerLedger") (k := 63) (tx := "closed months do not open again") (by decide)) (gh_hat3 hts hE) gh_got3 hE.1 hE.2.1 hS (hl.1.trans hml.symm) dX4_close_19 dX4_close_22 dX4_close_23 dX4_close_25 dX4_close_28 (hno _) (Nat.le_of_ble_eq_true rfl) (Nat.le_of_ble_eq_true rfl) (Nat.le_of_ble_eq_true rfl) (Nat.le_of_ble_eq_true rfl) hlocks (gh_thrown hP hS hw) hS.2.2 (Nat.le_of_ble_eq_true rfl) (Nat.le_of_ble_eq_true rfl)
abbrev rmX4_keepBatch : Room := { frames := 7, cells := 1, slots := 6, locals := 103 }
abbrev cxX4_keepBatch (p : Program) (s : State) (m : MethodId) (args : Array Value) (meth : Method) (c : Code) (D : va_G) (AC : Nat → ClassId) (sa : gh_SA) (A : Nat → Prop) : Prop := CallFix p m c prog_1_method_33_code 2 s args wsX4_keepBatch "OwnerLedger" ∧ meth.sig.returnType = (some .int) ∧ meth.locks = false ∧ c.exceptionTable.toList = [] ∧ va_K D vwCl (gh_ty AC) s ∧ gh_En sa A s s.heap ∧ (∀ q, s.heap.size ≤ q → A q)
def wX4_keepBatch (post : Int32 → gh_H → Prop) (px : String → gh_H → Prop) (G : gh_H) (t : Nat) (p0 : Nat) : Prop := ∃ (fs1 : List Value) (x4 : Int32), G t = some (.inr (4, fs1)) ∧ fs1[6]? = some (.int x4) ∧ (∃ (fs5 : List Value) (x8 : Nat), G t = some (.inr (4, fs5)) ∧ fs5[2]? = some (.ref x8) ∧ (∃ (k9 : Nat) (n10 : vp_A), G x8 = some (.inl (k9, n10)) ∧ k9 < 7 ∧ (wX4_requireRoom (fun G15 => ∃ (fs16 : List Value) (x19 : Nat), G15 t = some (.inr (4, fs16)) ∧ fs16[2]? = some (.ref x19) ∧ (∃ (fs20 : List Value) (x23 : Int32), G15 t = some (.inr (4, fs20)) ∧ fs20[6]? = some (.int x23) ∧ (∃ (k29 n24 j30 : Nat) (f25 : Nat → Option Nat) (fs31 : List Value), G15 x19 = some (.inl (k29, n24, .inr (.inr (.inr (.inr f25))))) ∧ G15 p0 = some (.inr (j30, fs31)) ∧ gh_elk k29 j30 = true ∧ vp_in x23 n24 ∧ (∀ G34 : gh_H, G34 = gh_up G15 x19 (.inl (k29, n24, .inr (.inr (.inr (.inr (va_up f25 (Int32.toNatClampNeg x23) (some p0))))))) → ∃ (fs35 : List Value) (x38 : Int32), G34 t = some (.inr (4, fs35)) ∧ fs35[6]? = some (.int x38) ∧ (∃ fs39 : List Value, G34 t = some (.inr (4, fs39)) ∧ 6 < fs39.length ∧ (∀ G42 : gh_H, G42 = gh_up G34 t (.inr (4, fs39.set 6 (.int (x38 + 1)))) → ∃ (fs44 : List Value) (x47 : Int32), G42 t = some (.inr (4, fs44)) ∧ fs44[6]? = some (.int x47) ∧ (post x47 G42))))))) px G x4 (Int32.ofNat n10.1))))
set_option maxRecDepth 100000 in
set_option maxHeartbeats 4000000 in
theorem mX4_keepBatch (l : Launch) (hl0 : l.stackTraces = false) (D : va_G) (AC : Nat → ClassId) (sa : gh_SA) (t : Nat) (p0 : Nat) (post : Int32 → gh_H → Prop) (px : String → gh_H → Prop) (G : gh_H) (sz : Nat) (hw : wX4_keepBatch post px G t p0) : vx_Met l yX4_keepBatch wsX4_keepBatch rmX4_keepBatch (gh_Pc D vwCl AC (gh_ty AC) (gh_En sa) G sz [.ref t, .ref p0]) (va_Qi post (gh_B D vwCl AC (gh_A G sz)) (gh_A G sz)) (gh_X D vwCl AC px (gh_A G sz)) 1 6 (gh_A G sz) := by
  refine vx_ofW (cc := prog_1_method_33_code) (maxL := 2) (ret := (some .int)) (by decide) rfl ?_
  intro p e s m args below meth c s₁ B hml hnoh hv
  obtain ⟨rfl, hsz, hP, hK, hE⟩ := hv
  have hx := B.exec
  have hb := B.bytes
  have hr := B.returns
  have hts := atoms_spec (ws := wsX4_keepBatch) B.pre
  have hown : s.vm.findClass "OwnerLedger" = some m.cls := findClass_of_methodNamed B.named
  have hlocks := B.notSynchronized
  have htb : c.exceptionTable.toList = [] := List.eq_nil_iff_forall_not_mem.mpr hnoh
  subst hsz
  have hA : ∀ q, s.heap.size ≤ q → gh_A G s.heap.size q := fun q h => Or.inr h
  generalize gh_A G s.heap.size = A at hP hE hA ⊢
  have hno : ∀ (pc : Nat), ∀ x ∈ c.exceptionTable.toList, covers x pc = false := by rw [htb]; intro _ _ h; cases h
  have CX : cxX4_keepBatch p s m [.ref t, .ref p0].toArray meth c D AC sa A := ⟨⟨hx, hb, hml, hown, hts⟩, hr, hlocks, htb, hK, hE, hA⟩
  have hS : va_S A s.heap s.heap [] := va_S.rf
  have hl := lv_entry ([.ref t, .ref p0]) (n := 2) (Nat.le_of_ble_eq_true rfl)
  rw [lg_entry_eq]
  generalize (lg_sl ([.ref t, .ref p0]) ++ List.replicate (2 - (lg_sl ([.ref t, .ref p0])).length) Slot.unset).toArray = ls at hl ⊢
  have hl : lv_has ls 2 [(0, .ref t), (1, .ref p0)] := hl
  dsimp only [wX4_keepBatch] at hw
  refine lv_aload_n hx hb dX4_keepBatch_0 rfl (lv_at hl 0 rfl) ?_
  obtain ⟨fs1, x4, he2, hv3, hw⟩ := hw
  refine gh_get (ci := 4) (v := .int x4) (C := "OwnerLedger") (T := TX4) (N := 11) hx hb hts (fun w h => gT_up (inX4 w h)) hown hK hP he2 rfl 6 (by decide) (hts _ (gT_up kw_29)) (fun _ h9 => h9) hv3 dX4_keepBatch_1 ?_
  refine lv_aload_n hx hb dX4_keepBatch_4 rfl (lv_at hl 0 rfl) ?_
  obtain ⟨fs5, x8, he6, hv7, hw⟩ := hw
  refine gh_get (ci := 4) (v := .ref x8) (C := "OwnerLedger") (T := TX4) (N := 11) hx hb hts (fun w h => gT_up (inX4 w h)) hown hK hP he6 rfl 2 (by decide) (hts _ (gT_up kw_25)) (fun _ h9 => h9) hv7 dX4_keepBatch_5 ?_
  obtain ⟨k9, n10, he12, hk13, hw⟩ := hw
  obtain ⟨ty9, ht9⟩ := gh_tyat AC hk13
  refine gh_alen hx hb hK hP he12 ht9 rfl dX4_keepBatch_8 ?_
  refine gh_cv_ hlocks (hno _) (vx_runS (As := [.int x4, .int (Int32.ofNat n10.1)]) (rest := []) ⟨hx, hb, hml, hown, hts⟩ (mX4_requireRoom l hl0 D AC sa _ _ _ _ _ _ hw) (va_cwS 2 hts (gS kw_56 kw_57 kw_1 kw_58) rfl rfl rfl (by decide +kernel) ⟨Nat.le_of_ble_eq_true rfl, Nat.le_of_ble_eq_true rfl⟩) (gh_pre gh_En_ok hK hE hP hS hA _) rfl rfl hl.1 rfl (lv_room (Nat.le_of_ble_eq_true rfl)) dX4_keepBatch_9 ⟨Nat.le_of_ble_eq_true rfl, Nat.le_of_ble_eq_true rfl⟩) hP hS hA (Nat.le_of_ble_eq_true rfl) (Nat.le_of_ble_eq_true rfl) (fun G15 H locs hw2 hP hS => ?_)
  replace hw := hw2
  clear hw2
  refine lv_aload_n hx hb dX4_keepBatch_12 rfl (lv_at hl 0 rfl) ?_
  obtain ⟨fs16, x19, he17, hv18, hw⟩ := hw
  refine gh_get (ci := 4) (v := .ref x19) (C := "OwnerLedger") (T := TX4) (N := 11) hx hb hts (fun w h => gT_up (inX4 w h)) hown hK hP he17 rfl 2 (by decide) (hts _ (gT_up kw_25)) (fun _ h9 => h9) hv18 dX4_keepBatch_13 ?_
  refine lv_aload_n hx hb dX4_keepBatch_16 rfl (lv_at hl 0 rfl) ?_
  obtain ⟨fs20, x23, he21, hv22, hw⟩ := hw
  refine gh_get (ci := 4) (v := .int x23) (C := "OwnerLedger") (T := TX4) (N := 11) hx hb hts (fun w h => gT_up (inX4 w h)) hown hK hP he21 rfl 6 (by decide) (hts _ (gT_up kw_29)) (fun _ h9 => h9) hv22 dX4_keepBatch_17 ?_
  refine lv_aload_n hx hb dX4_keepBatch_20 rfl (lv_at hl 1 rfl) ?_
  obtain ⟨k29, n24, j30, f25, fs31, he26, hv32, hk33, hi27, hw⟩ := hw
  obtain ⟨r9, hc9, ht9⟩ := gh_tyel AC hk33
  refine gh_aast hx hb hK hP hS he26 ht9 hv32 hc9 hi27 dX4_keepBatch_21 (fun G34 H locs eG28 hP hS => ?_)
  replace hw := hw G34 eG28
  refine lv_aload_n hx hb dX4_keepBatch_22 rfl (lv_at hl 0 rfl) ?_
  refine lv_dup hx hb dX4_keepBatch_23 rfl ?_
  obtain ⟨fs35, x38, he36, hv37, hw⟩ := hw
  refine gh_get (ci := 4) (v := .int x38) (C := "OwnerLedger") (T := TX4) (N := 11) hx hb hts (fun w h => gT_up (inX4 w h)) hown hK hP he36 rfl 6 (by decide) (hts _ (gT_up kw_29)) (fun _ h9 => h9) hv37 dX4_keepBatch_24 ?_
  refine lv_iconst (v := 1) hx hb dX4_keepBatch_27 (by decide) ?_
  refine lv_iadd hx hb dX4_keepBatch_28 ?_
  obtain ⟨fs39, he40, hk41, hw⟩ := hw
  refine gh_put (ci := 4) (v := .int (x38 + 1)) (ty := .int) (C := "OwnerLedger") (T := TX4) (N := 11) hx hb hts (fun w h => gT_up (inX4 w h)) tyX4 tyX4_ok nmX4 hown hK hP hS he40 rfl 6 (by decide) (hts _ (gT_up kw_29)) (fun _ h9 => h9) rfl (by decide +kernel) rfl rfl hk41 dX4_keepBatch_29 (fun G42 H locs eG43 hP hS => ?_)
  replace hw := hw G42 eG43
  refine lv_aload_n hx hb dX4_keepBatch_32 rfl (lv_at hl 0 rfl) ?_
  obtain ⟨fs44, x47, he45, hv46, hw⟩ := hw
  refine gh_get (ci := 4) (v := .int x47) (C := "OwnerLedger") (T := TX4) (N := 11) hx hb hts (fun w h => gT_up (inX4 w h)) hown hK hP he45 rfl 6 (by decide) (hts _ (gT_up kw_29)) (fun _ h9 => h9) hv46 dX4_keepBatch_33 ?_
  exact gh_iret hx hb hr hlocks hw hP hS (Nat.le_of_ble_eq_true rfl) (Nat.le_of_ble_eq_true rfl) dX4_keepBatch_36
abbrev rmX4_batch : Room := { frames := 8, cells := 4, slots := 26, locals := 124 }
abbrev cxX4_batch (p : Program) (s : State) (m : MethodId) (args : Array Value) (meth : Method) (c : Code) (D : va_G) (AC : Nat → ClassId) (sa : gh_SA) (A : Nat → Prop) : Prop := CallFix p m c prog_1_method_6_code 2 s args wsX4_batch "OwnerLedger" ∧ meth.sig.returnType = (some .int) ∧ meth.locks = false ∧ c.exceptionTable.toList = [] ∧ va_K D vwCl (gh_ty AC) s ∧ gh_En sa A s s.heap ∧ (∀ q, s.heap.size ≤ q → A q)
def wX4_batch (post : Int32 → gh_H → Prop) (px : String → gh_H → Prop) (G : gh_H) (t : Nat) (p0 : Int32) : Prop := ∃ (fs1 : List Value) (x4 : Int32), G t = some (.inr (4, fs1)) ∧ fs1[8]? = some (.int x4) ∧ (wX4_requireRange (fun G6 => ∃ (fs7 : List Value) (x10 : Int32), G6 t = some (.inr (4, fs7)) ∧ fs7[9]? = some (.int x10) ∧ ((x10 ≤ p0 → (∀ q12 : Nat, G6 q12 = none → ∀ G13 : gh_H, G13 = gh_up G6 q12 (.inr (0, [.int 0, .null, .int 0, .int 0, .int 0, .int 0])) → wX0_init (fun G17 => ∃ fs20 : List Value, G17 t = some (.inr (4, fs20)) ∧ wX4_keepBatch (fun r18 G19 => post r18 G19) px G17 t q12) px G13 q12 p0)) ∧ (¬ x10 ≤ p0 → (px "java/lang/IllegalStateException" G6)))) px G (Int32.toInt64 p0) 0 (Int32.toInt64 x4))
set_option maxRecDepth 100000 in
set_option maxHeartbeats 4000000 in
theorem mX4_batch (l : Launch) (hl0 : l.stackTraces = false) (D : va_G) (AC : Nat → ClassId) (sa : gh_SA) (t : Nat) (p0 : Int32) (post : Int32 → gh_H → Prop) (px : String → gh_H → Prop) (G : gh_H) (sz : Nat) (hw : wX4_batch post px G t p0) : vx_Met l yX4_batch wsX4_batch rmX4_batch (gh_Pc D vwCl AC (gh_ty AC) (gh_En sa) G sz [.ref t, .int p0]) (va_Qi post (gh_B D vwCl AC (gh_A G sz)) (gh_A G sz)) (gh_X D vwCl AC px (gh_A G sz)) 4 26 (gh_A G sz) := by
  refine vx_ofW (cc := prog_1_method_6_code) (maxL := 2) (ret := (some .int)) (by decide) rfl ?_
  intro p e s m args below meth c s₁ B hml hnoh hv
  obtain ⟨rfl, hsz, hP, hK, hE⟩ := hv
  have hx := B.exec
  have hb := B.bytes
  have hr := B.returns
  have hts := atoms_spec (ws := wsX4_batch) B.pre
  have hown : s.vm.findClass "OwnerLedger" = some m.cls := findClass_of_methodNamed B.named
  have hlocks := B.notSynchronized
  have htb : c.exceptionTable.toList = [] := List.eq_nil_iff_forall_not_mem.mpr hnoh
  subst hsz
  have hA : ∀ q, s.heap.size ≤ q → gh_A G s.heap.size q := fun q h => Or.inr h
  generalize gh_A G s.heap.size = A at hP hE hA ⊢
  have hno : ∀ (pc : Nat), ∀ x ∈ c.exceptionTable.toList, covers x pc = false := by rw [htb]; intro _ _ h; cases h
  have CX : cxX4_batch p s m [.ref t, .int p0].toArray meth c D AC sa A := ⟨⟨hx, hb, hml, hown, hts⟩, hr, hlocks, htb, hK, hE, hA⟩
  have hS : va_S A s.heap s.heap [] := va_S.rf
  have hl := lv_entry ([.ref t, .int p0]) (n := 2) (Nat.le_of_ble_eq_true rfl)
  rw [lg_entry_eq]
  generalize (lg_sl ([.ref t, .int p0]) ++ List.replicate (2 - (lg_sl ([.ref t, .int p0])).length) Slot.unset).toArray = ls at hl ⊢
  have hl : lv_has ls 2 [(0, .ref t), (1, .int p0)] := hl
  dsimp only [wX4_batch] at hw
  refine lv_iload_n hx hb dX4_batch_0 rfl (lv_at hl 1 rfl) ?_
  refine lv_i2l hx hb dX4_batch_1 rfl ?_
  refine lv_lconst (v := 0) hx hb dX4_batch_2 (by decide) ?_
  refine lv_aload_n hx hb dX4_batch_3 rfl (lv_at hl 0 rfl) ?_
  obtain ⟨fs1, x4, he2, hv3, hw⟩ := hw
  refine gh_get (ci := 4) (v := .int x4) (C := "OwnerLedger") (T := TX4) (N := 11) hx hb hts (fun w h => gT_up (inX4 w h)) hown hK hP he2 rfl 8 (by decide) (hts _ (gT_up kw_31)) (fun _ h9 => h9) hv3 dX4_batch_4 ?_
  refine lv_i2l hx hb dX4_batch_7 rfl ?_
  refine gh_cv_ hlocks (hno _) (vx_runS (As := [.long (Int32.toInt64 p0), .long 0, .long (Int32.toInt64 x4)]) (rest := []) ⟨hx, hb, hml, hown, hts⟩ (mX4_requireRange l hl0 D AC sa _ _ _ _ _ _ _ hw) (va_cwS 3 hts (gS kw_89 kw_90 kw_1 kw_91) rfl rfl rfl (by decide +kernel) ⟨Nat.le_of_ble_eq_true rfl, Nat.le_of_ble_eq_true rfl⟩) (gh_pre gh_En_ok hK hE hP hS hA _) rfl rfl hl.1 rfl (lv_room (Nat.le_of_ble_eq_true rfl)) dX4_batch_8 ⟨Nat.le_of_ble_eq_true rfl, Nat.le_of_ble_eq_true rfl⟩) hP hS hA (Nat.le_of_ble_eq_true rfl) (Nat.le_of_ble_eq_true rfl) (fun G6 H locs hw2 hP hS => ?_)
  replace hw := hw2
  clear hw2
  refine lv_iload_n hx hb dX4_batch_11 rfl (lv_at hl 1 rfl) ?_
  refine lv_aload_n hx hb dX4_batch_12 rfl (lv_at hl 0 rfl) ?_
  obtain ⟨fs7, x10, he8, hv9, hw⟩ := hw
  refine gh_get (ci := 4) (v := .int x10) (C := "OwnerLedger") (T := TX4) (N := 11) hx hb hts (fun w h => gT_up (inX4 w h)) hown hK hP he8 rfl 9 (by decide) (hts _ (gT_up kw_32)) (fun _ h9 => h9) hv9 dX4_batch_13 ?_
  refine lv_icmp_ge (tgt := 29) hx hb dX4_batch_16 (by decide) (fun c11 => ?_) (fun c11 => ?_)
  · replace hw := hw.1 c11
    refine lv_aload_n hx hb dX4_batch_29 rfl (lv_at hl 0 rfl) ?_
    refine gh_new (ci := 0) (fs := [.int 0, .null, .int 0, .int 0, .int 0, .int 0]) (C := "OwnerLedger$Batch") (T := TX0) (N := 6) hx hb hts (fun w h => gT_up (inX0 w h)) tyX0 tyX0_ok hown (hts _ (gT_up kw_21)) (hts _ (gT_up kw_125)) (hts _ (gT_up kw_8)) hK hP hS hA rfl (fun j hj => by rcases (show j = 0 ∨ j = 1 ∨ j = 2 ∨ j = 3 ∨ j = 4 ∨ j = 5 by omega) with rfl | rfl | rfl | rfl | rfl | rfl <;> rfl) (Nat.le_of_ble_eq_true rfl) (Nat.le_of_ble_eq_true rfl) dX4_batch_30 (fun q12 G13 H hq15 eG14 hP hS => ?_)
    replace hw := hw q12 hq15 G13 eG14
    refine lv_dup hx hb dX4_batch_33 rfl ?_
    refine lv_iload_n hx hb dX4_batch_34 rfl (lv_at hl 1 rfl) ?_
    refine gh_cM (va_runI (As := [.int p0]) (rest := [.ref q12, .ref t]) ⟨hx, hb, hml, hown, hts⟩ (mX0_init l hl0 D AC sa _ _ _ _ _ _ hw) (cwI 1 hts (gG kw_128) rfl rfl rfl (hts _ (gT_up kw_8)) (hts _ (gT_up kw_126)) (hts _ (gT_up kw_127)) rfl (by decide +kernel) ⟨Nat.le_of_ble_eq_true rfl, Nat.le_of_ble_eq_true rfl⟩) (gh_pre gh_En_ok hK hE hP hS hA _) rfl rfl hl.1 rfl (lv_room (Nat.le_of_ble_eq_true rfl)) dX4_batch_35 ⟨Nat.le_of_ble_eq_true rfl, Nat.le_of_ble_eq_true rfl⟩) hP hS hA (fun G17 H locs hw2 hP hS => ?_)
    replace hw := hw2
    clear hw2
    obtain ⟨fs20, he21, hw⟩ := hw
    refine gh_ci hlocks (hno _) (vx_runV (C := "OwnerLedger") (As := [.ref q12]) (rest := []) ⟨hx, hb, hml, hown, hts⟩ (mX4_keepBatch l hl0 D AC sa _ _ _ _ _ _ hw) (cwV 1 hts (gV kw_141 kw_142 kw_534 kw_1 kw_143) rfl rfl rfl (by decide +kernel) ⟨Nat.le_of_ble_eq_true rfl, Nat.le_of_ble_eq_true rfl⟩) (gh_preV gh_En_ok hK hE hP hS hA he21 rfl _) rfl rfl hl.1 rfl (lv_room (Nat.le_of_ble_eq_true rfl)) dX4_batch_38 ⟨Nat.le_of_ble_eq_true rfl, Nat.le_of_ble_eq_true rfl⟩) hP hS hA (Nat.le_of_ble_eq_true rfl) (Nat.le_of_ble_eq_true rfl) (fun r18 G19 H locs hw2 hP hS => ?_)
    replace hw := hw2
    clear hw2
    exact gh_iret hx hb hr hlocks hw hP hS (Nat.le_of_ble_eq_true rfl) (Nat.le_of_ble_eq_true rfl) dX4_batch_41
  · replace hw := hw.2 c11
    exact vx_throwS (own := "OwnerLedger") (cls := "java/lang/IllegalStateException") (names := ["java/lang/RuntimeException", "java/lang/Exception"]) hx hb hl0 hown (by decide +kernel) (by decide +kernel) (hts _ (gT_up kw_113)) (hts _ (gT_up kw_7)) (gh_str hE (own := "OwnerLedger") (k := 68) (tx := "the month is closed") (by decide)) (gh_hat3 hts hE) gh_got3 hE.1 hE.2.1 hS (hl.1.trans hml.symm) dX4_batch_19 dX4_batch_22 dX4_batch_23 dX4_batch_25 dX4_batch_28 (hno _) (Nat.le_of_ble_eq_true rfl) (Nat.le_of_ble_eq_true rfl) (Nat.le_of_ble_eq_true rfl) (Nat.le_of_ble_eq_true rfl) hlocks (gh_thrown hP hS hw) hS.2.2 (Nat.le_of_ble_eq_true rfl) (Nat.le_of_ble_eq_true rfl)
