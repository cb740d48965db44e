abbrev rmX4_reverse : Room := { frames := 8, cells := 12, slots := 58, locals := 124 }
abbrev cxX4_reverse (p : Program) (s : State) (m : MethodId) (args : Array Value) (meth : Method) (c : Code) (D : va_G) (AC : Nat → ClassId) (sa : gh_SA) (A : Nat → Prop) : Prop := CallFix p m c prog_1_method_10_code 4 s args wsX4_reverse "OwnerLedger" ∧ meth.sig.returnType = (some .int) ∧ meth.locks = false ∧ c.exceptionTable.toList = [] ∧ va_K D vwCl (gh_ty AC) s ∧ gh_En sa A s s.heap ∧ (∀ q, s.heap.size ≤ q → A q)
def wX4_reverse (post : Int32 → gh_H → Prop) (px : String → gh_H → Prop) (G : gh_H) (t : Nat) (p0 : Int32) : Prop := ∃ fs3 : List Value, G t = some (.inr (4, fs3)) ∧ wX4_findBatch (fun r1 G2 => ∃ a5 : Nat, r1 = some a5 ∧ ∃ (fs6 : List Value) (x9 : Int32), G2 a5 = some (.inr (0, fs6)) ∧ fs6[3]? = some (.int x9) ∧ ((x9 = 1 → (∃ (fs11 : List Value) (x14 : Int32), G2 a5 = some (.inr (0, fs11)) ∧ fs11[4]? = some (.int x14) ∧ ((x14 = 0 → (∃ (fs16 : List Value) (x19 : Int32), G2 a5 = some (.inr (0, fs16)) ∧ fs16[5]? = some (.int x19) ∧ ((x19 = 0 → (∀ q21 : Nat, G2 q21 = none → ∀ G22 : gh_H, G22 = gh_up G2 q21 (.inr (0, [.int 0, .null, .int 0, .int 0, .int 0, .int 0])) → ∃ (fs25 : List Value) (x28 : Int32), G22 t = some (.inr (4, fs25)) ∧ fs25[8]? = some (.int x28) ∧ (wX0_init (fun G30 => ∃ fs33 : List Value, G30 q21 = some (.inr (0, fs33)) ∧ wX0_copyOpposites (fun G32 => ∃ fs35 : List Value, G32 q21 = some (.inr (0, fs35)) ∧ 3 < fs35.length ∧ (∀ G38 : gh_H, G38 = gh_up G32 q21 (.inr (0, fs35.set 3 (.int 1))) → ∃ fs40 : List Value, G38 q21 = some (.inr (0, fs40)) ∧ 5 < fs40.length ∧ (∀ G43 : gh_H, G43 = gh_up G38 q21 (.inr (0, fs40.set 5 (.int p0))) → ∃ fs47 : List Value, G43 t = some (.inr (4, fs47)) ∧ wX4_keepBatch (fun r45 G46 => ∃ fs49 : List Value, G46 a5 = some (.inr (0, fs49)) ∧ 4 < fs49.length ∧ (∀ G52 : gh_H, G52 = gh_up G46 a5 (.inr (0, fs49.set 4 (.int r45))) → ∃ (fs54 : List Value) (x57 : Int32), G52 a5 = some (.inr (0, fs54)) ∧ fs54[4]? = some (.int x57) ∧ (post x57 G52))) px G43 t q21))) px G30 q21 a5) px G22 q21 x28))) ∧ (¬ x19 = 0 → (px "java/lang/IllegalStateException" G2))))) ∧ (¬ x14 = 0 → (px "java/lang/IllegalStateException" G2))))) ∧ (¬ x9 = 1 → (px "java/lang/IllegalStateException" G2)))) px G t p0
set_option maxRecDepth 100000 in
set_option maxHeartbeats 4000000 in
theorem mX4_reverse (l : Launch) (hl0 : l.stackTraces = false) (D : va_G) (AC : Nat → ClassId) (sa : gh_SA) (t : Nat) (p0 : Int32) (post : Int32 → gh_H → Prop) (px : String → gh_H → Prop) (G : gh_H) (sz : Nat) (hw : wX4_reverse post px G t p0) : vx_Met l yX4_reverse wsX4_reverse rmX4_reverse (gh_Pc D vwCl AC (gh_ty AC) (gh_En sa) G sz [.ref t, .int p0]) (va_Qi post (gh_B D vwCl AC (gh_A G sz)) (gh_A G sz)) (gh_X D vwCl AC px (gh_A G sz)) 12 58 (gh_A G sz) := by
  refine vx_ofW (cc := prog_1_method_10_code) (maxL := 4) (ret := (some .int)) (by decide) rfl ?_
  intro p e s m args below meth c s₁ B hml hnoh hv
  obtain ⟨rfl, hsz, hP, hK, hE⟩ := hv
  have hx := B.exec
  have hb := B.bytes
  have hr := B.returns
  have hts := atoms_spec (ws := wsX4_reverse) B.pre
  have hown : s.vm.findClass "OwnerLedger" = some m.cls := findClass_of_methodNamed B.named
  have hlocks := B.notSynchronized
  have htb : c.exceptionTable.toList = [] := List.eq_nil_iff_forall_not_mem.mpr hnoh
  subst hsz
  have hA : ∀ q, s.heap.size ≤ q → gh_A G s.heap.size q := fun q h => Or.inr h
  generalize gh_A G s.heap.size = A at hP hE hA ⊢
  have hno : ∀ (pc : Nat), ∀ x ∈ c.exceptionTable.toList, covers x pc = false := by rw [htb]; intro _ _ h; cases h
  have CX : cxX4_reverse p s m [.ref t, .int p0].toArray meth c D AC sa A := ⟨⟨hx, hb, hml, hown, hts⟩, hr, hlocks, htb, hK, hE, hA⟩
  have hS : va_S A s.heap s.heap [] := va_S.rf
  have hl := lv_entry ([.ref t, .int p0]) (n := 4) (Nat.le_of_ble_eq_true rfl)
  rw [lg_entry_eq]
  generalize (lg_sl ([.ref t, .int p0]) ++ List.replicate (4 - (lg_sl ([.ref t, .int p0])).length) Slot.unset).toArray = ls at hl ⊢
  have hl : lv_has ls 4 [(0, .ref t), (1, .int p0)] := hl
  dsimp only [wX4_reverse] at hw
  refine lv_aload_n hx hb dX4_reverse_0 rfl (lv_at hl 0 rfl) ?_
  refine lv_iload_n hx hb dX4_reverse_1 rfl (lv_at hl 1 rfl) ?_
  obtain ⟨fs3, he4, hw⟩ := hw
  refine gh_cq hlocks (hno _) (vx_runV (C := "OwnerLedger") (As := [.int p0]) (rest := []) ⟨hx, hb, hml, hown, hts⟩ (mX4_findBatch l hl0 D AC sa _ _ _ _ _ _ hw) (cwV 1 hts (gV kw_151 kw_152 kw_535 kw_1 kw_153) rfl rfl rfl (by decide +kernel) ⟨Nat.le_of_ble_eq_true rfl, Nat.le_of_ble_eq_true rfl⟩) (gh_preV gh_En_ok hK hE hP hS hA he4 rfl _) rfl rfl hl.1 rfl (lv_room (Nat.le_of_ble_eq_true rfl)) dX4_reverse_2 ⟨Nat.le_of_ble_eq_true rfl, Nat.le_of_ble_eq_true rfl⟩) hP hS hA (Nat.le_of_ble_eq_true rfl) (Nat.le_of_ble_eq_true rfl) (fun r1 G2 H locs hw2 hP hS => ?_)
  replace hw := hw2
  clear hw2
  refine gh_astore_n (lv' := [(2, va_rf r1), (0, .ref t), (1, .int p0)]) hx hb dX4_reverse_5 rfl hl (by decide) rfl (fun ls hl => ?_)
  refine gh_aload_n hx hb dX4_reverse_6 rfl (lv_at hl 0 rfl) ?_
  obtain ⟨a5, ea5, hw⟩ := hw
  subst ea5
  have hl : lv_has ls 4 [(2, .ref a5), (0, .ref t), (1, .int p0)] := hl
  obtain ⟨fs6, x9, he7, hv8, hw⟩ := hw
  refine gh_get (ci := 0) (v := .int x9) (C := "OwnerLedger$Batch") (T := TX0) (N := 6) hx hb hts (fun w h => gT_up (inX0 w h)) hown hK hP he7 rfl 3 (by decide) (hts _ (gT_up kw_138)) (fun _ h9 => h9) hv8 dX4_reverse_7 ?_
  refine lv_iconst (v := 1) hx hb dX4_reverse_10 (by decide) ?_
  refine lv_icmp_eq (tgt := 24) hx hb dX4_reverse_11 (by decide) (fun c10 => ?_) (fun c10 => ?_)
  · replace hw := hw.1 c10
    refine lv_aload_n hx hb dX4_reverse_24 rfl (lv_at hl 0 rfl) ?_
    obtain ⟨fs11, x14, he12, hv13, hw⟩ := hw
    refine gh_get (ci := 0) (v := .int x14) (C := "OwnerLedger$Batch") (T := TX0) (N := 6) hx hb hts (fun w h => gT_up (inX0 w h)) hown hK hP he12 rfl 4 (by decide) (hts _ (gT_up kw_139)) (fun _ h9 => h9) hv13 dX4_reverse_25 ?_
    refine lv_if_eq (tgt := 41) hx hb dX4_reverse_28 (by decide) (fun c15 => ?_) (fun c15 => ?_)
    · replace hw := hw.1 c15
      refine lv_aload_n hx hb dX4_reverse_41 rfl (lv_at hl 0 rfl) ?_
      obtain ⟨fs16, x19, he17, hv18, hw⟩ := hw
      refine gh_get (ci := 0) (v := .int x19) (C := "OwnerLedger$Batch") (T := TX0) (N := 6) hx hb hts (fun w h => gT_up (inX0 w h)) hown hK hP he17 rfl 5 (by decide) (hts _ (gT_up kw_140)) (fun _ h9 => h9) hv18 dX4_reverse_42 ?_
      refine lv_if_eq (tgt := 58) hx hb dX4_reverse_45 (by decide) (fun c20 => ?_) (fun c20 => ?_)
      · replace hw := hw.1 c20
        refine gh_new (ci := 0) (fs := [.int 0, .null, .int 0, .int 0, .int 0, .int 0]) (C := "OwnerLedger$Batch") (T := TX0) (N := 6) hx hb hts (fun w h => gT_up (inX0 w h)) tyX0 tyX0_ok hown (hts _ (gT_up kw_21)) (hts _ (gT_up kw_125)) (hts _ (gT_up kw_8)) hK hP hS hA rfl (fun j hj => by rcases (show j = 0 ∨ j = 1 ∨ j = 2 ∨ j = 3 ∨ j = 4 ∨ j = 5 by omega) with rfl | rfl | rfl | rfl | rfl | rfl <;> rfl) (Nat.le_of_ble_eq_true rfl) (Nat.le_of_ble_eq_true rfl) dX4_reverse_58 (fun q21 G22 H hq24 eG23 hP hS => ?_)
        replace hw := hw q21 hq24 G22 eG23
        refine lv_dup hx hb dX4_reverse_61 rfl ?_
        refine lv_aload_n hx hb dX4_reverse_62 rfl (lv_at hl 1 rfl) ?_
        obtain ⟨fs25, x28, he26, hv27, hw⟩ := hw
        refine gh_get (ci := 4) (v := .int x28) (C := "OwnerLedger") (T := TX4) (N := 11) hx hb hts (fun w h => gT_up (inX4 w h)) hown hK hP he26 rfl 8 (by decide) (hts _ (gT_up kw_31)) (fun _ h9 => h9) hv27 dX4_reverse_63 ?_
        refine gh_cM (va_runI (As := [.int x28]) (rest := [.ref q21]) ⟨hx, hb, hml, hown, hts⟩ (mX0_init l hl0 D AC sa _ _ _ _ _ _ hw) (cwI 1 hts (gG kw_128) rfl rfl rfl (hts _ (gT_up kw_8)) (hts _ (gT_up kw_126)) (hts _ (gT_up kw_127)) rfl (by decide +kernel) ⟨Nat.le_of_ble_eq_true rfl, Nat.le_of_ble_eq_true rfl⟩) (gh_pre gh_En_ok hK hE hP hS hA _) rfl rfl hl.1 rfl (lv_room (Nat.le_of_ble_eq_true rfl)) dX4_reverse_66 ⟨Nat.le_of_ble_eq_true rfl, Nat.le_of_ble_eq_true rfl⟩) hP hS hA (fun G30 H locs hw2 hP hS => ?_)
        replace hw := hw2
        clear hw2
        refine lv_astore_n (lv' := [(3, .ref q21), (2, .ref a5), (0, .ref t), (1, .int p0)]) hx hb dX4_reverse_69 rfl hl (by decide) rfl (fun ls hl => ?_)
        refine lv_aload_n hx hb dX4_reverse_70 rfl (lv_at hl 0 rfl) ?_
        refine lv_aload_n hx hb dX4_reverse_71 rfl (lv_at hl 1 rfl) ?_
        obtain ⟨fs33, he34, hw⟩ := hw
        refine gh_cv_ hlocks (hno _) (vx_runV (C := "OwnerLedger$Batch") (As := [.ref a5]) (rest := []) ⟨hx, hb, hml, hown, hts⟩ (mX0_copyOpposites l hl0 D AC sa _ _ _ _ _ _ hw) (cwV 1 hts (gV kw_216 kw_217 kw_218 kw_8 kw_219) rfl rfl rfl (by decide +kernel) ⟨Nat.le_of_ble_eq_true rfl, Nat.le_of_ble_eq_true rfl⟩) (gh_preV gh_En_ok hK hE hP hS hA he34 rfl _) rfl rfl hl.1 rfl (lv_room (Nat.le_of_ble_eq_true rfl)) dX4_reverse_72 ⟨Nat.le_of_ble_eq_true rfl, Nat.le_of_ble_eq_true rfl⟩) hP hS hA (Nat.le_of_ble_eq_true rfl) (Nat.le_of_ble_eq_true rfl) (fun G32 H locs hw2 hP hS => ?_)
        replace hw := hw2
        clear hw2
        refine lv_aload_n hx hb dX4_reverse_75 rfl (lv_at hl 0 rfl) ?_
        refine lv_iconst (v := 1) hx hb dX4_reverse_76 (by decide) ?_
        obtain ⟨fs35, he36, hk37, hw⟩ := hw
        refine gh_put (ci := 0) (v := .int 1) (ty := .int) (C := "OwnerLedger$Batch") (T := TX0) (N := 6) hx hb hts (fun w h => gT_up (inX0 w h)) tyX0 tyX0_ok nmX0 hown hK hP hS he36 rfl 3 (by decide) (hts _ (gT_up kw_138)) (fun _ h9 => h9) rfl (by decide +kernel) rfl rfl hk37 dX4_reverse_77 (fun G38 H locs eG39 hP hS => ?_)
        replace hw := hw G38 eG39
        refine lv_aload_n hx hb dX4_reverse_80 rfl (lv_at hl 0 rfl) ?_
        refine lv_iload_n hx hb dX4_reverse_81 rfl (lv_at hl 3 rfl) ?_
        obtain ⟨fs40, he41, hk42, hw⟩ := hw
        refine gh_put (ci := 0) (v := .int p0) (ty := .int) (C := "OwnerLedger$Batch") (T := TX0) (N := 6) hx hb hts (fun w h => gT_up (inX0 w h)) tyX0 tyX0_ok nmX0 hown hK hP hS he41 rfl 5 (by decide) (hts _ (gT_up kw_140)) (fun _ h9 => h9) rfl (by decide +kernel) rfl rfl hk42 dX4_reverse_82 (fun G43 H locs eG44 hP hS => ?_)
        replace hw := hw G43 eG44
        refine lv_aload_n hx hb dX4_reverse_85 rfl (lv_at hl 1 rfl) ?_
        refine lv_aload_n hx hb dX4_reverse_86 rfl (lv_at hl 2 rfl) ?_
        refine lv_aload_n hx hb dX4_reverse_87 rfl (lv_at hl 0 rfl) ?_
        obtain ⟨fs47, he48, hw⟩ := hw
        refine gh_ci hlocks (hno _) (vx_runV (C := "OwnerLedger") (As := [.ref q21]) (rest := [.ref a5]) ⟨hx, hb, hml, hown, hts⟩ (mX4_keepBatch l hl0 D AC sa _ _ _ _ _ _ hw) (cwV 1 hts (gV kw_141 kw_142 kw_534 kw_1 kw_143) rfl rfl rfl (by decide +kernel) ⟨Nat.le_of_ble_eq_true rfl, Nat.le_of_ble_eq_true rfl⟩) (gh_preV gh_En_ok hK hE hP hS hA he48 rfl _) rfl rfl hl.1 rfl (lv_room (Nat.le_of_ble_eq_true rfl)) dX4_reverse_88 ⟨Nat.le_of_ble_eq_true rfl, Nat.le_of_ble_eq_true rfl⟩) hP hS hA (Nat.le_of_ble_eq_true rfl) (Nat.le_of_ble_eq_true rfl) (fun r45 G46 H locs hw2 hP hS => ?_)
        replace hw := hw2
        clear hw2
        obtain ⟨fs49, he50, hk51, hw⟩ := hw
        refine gh_put (ci := 0) (v := .int r45) (ty := .int) (C := "OwnerLedger$Batch") (T := TX0) (N := 6) hx hb hts (fun w h => gT_up (inX0 w h)) tyX0 tyX0_ok nmX0 hown hK hP hS he50 rfl 4 (by decide) (hts _ (gT_up kw_139)) (fun _ h9 => h9) rfl (by decide +kernel) rfl rfl hk51 dX4_reverse_91 (fun G52 H locs eG53 hP hS => ?_)
        replace hw := hw G52 eG53
        refine lv_aload_n hx hb dX4_reverse_94 rfl (lv_at hl 1 rfl) ?_
        obtain ⟨fs54, x57, he55, hv56, hw⟩ := hw
        refine gh_get (ci := 0) (v := .int x57) (C := "OwnerLedger$Batch") (T := TX0) (N := 6) hx hb hts (fun w h => gT_up (inX0 w h)) hown hK hP he55 rfl 4 (by decide) (hts _ (gT_up kw_139)) (fun _ h9 => h9) hv56 dX4_reverse_95 ?_
        exact gh_iret hx hb hr hlocks hw hP hS (Nat.le_of_ble_eq_true rfl) (Nat.le_of_ble_eq_true rfl) dX4_reverse_98
      · replace hw := hw.2 c20
        exact vx_throwS (own := "OwnerLedger") (cls := "java/lang/IllegalStateException") (names := ["java/lang/RuntimeException", "java/lang/Exception"]) hx hb hl0 hown (by decide +kernel) (by decide +kernel) (hts _ (gT_up kw_113)) (hts _ (gT_up kw_7)) (gh_str hE (own := "OwnerLedger") (k := 146) (tx := "the batch is a reversal") (by decide)) (gh_hat3 hts hE) gh_got3 hE.1 hE.2.1 hS (hl.1.trans hml.symm) dX4_reverse_48 dX4_reverse_51 dX4_reverse_52 dX4_reverse_54 dX4_reverse_57 (hno _) (Nat.le_of_ble_eq_true rfl) (Nat.le_of_ble_eq_true rfl) (Nat.le_of_ble_eq_true rfl) (Nat.le_of_ble_eq_true rfl) hlocks (gh_thrown hP hS hw) hS.2.2 (Nat.le_of_ble_eq_true rfl) (Nat.le_of_ble_eq_true rfl)
    · replace hw := hw.2 c15
      exact vx_throwS (own := "OwnerLedger") (cls := "java/lang/IllegalStateException") (names := ["java/lang/RuntimeException", "java/lang/Exception"]) hx hb hl0 hown (by decide +kernel) (by decide +kernel) (hts _ (gT_up kw_113)) (hts _ (gT_up kw_7)) (gh_str hE (own := "OwnerLedger") (k := 141) (tx := "the batch was reversed") (by decide)) (gh_hat3 hts hE) gh_got3 hE.1 hE.2.1 hS (hl.1.trans hml.symm) dX4_reverse_31 dX4_reverse_34 dX4_reverse_35 dX4_reverse_37 dX4_reverse_40 (hno _) (Nat.le_of_ble_eq_true rfl) (Nat.le_of_ble_eq_true rfl) (Nat.le_of_ble_eq_true rfl) (Nat.le_of_ble_eq_true rfl) hlocks (gh_thrown hP hS hw) hS.2.2 (Nat.le_of_ble_eq_true rfl) (Nat.le_of_ble_eq_true rfl)
  · replace hw := hw.2 c10
    exact vx_throwS (own := "OwnerLedger") (cls := "java/lang/IllegalStateException") (names := ["java/lang/RuntimeException", "java/lang/Exception"]) hx hb hl0 hown (by decide +kernel) (by decide +kernel) (hts _ (gT_up kw_113)) (hts _ (gT_up kw_7)) (gh_str hE (own := "OwnerLedger") (k := 136) (tx := "the batch is not posted") (by decide)) (gh_hat3 hts hE) gh_got3 hE.1 hE.2.1 hS (hl.1.trans hml.symm) dX4_reverse_14 dX4_reverse_17 dX4_reverse_18 dX4_reverse_20 dX4_reverse_23 (hno _) (Nat.le_of_ble_eq_true rfl) (Nat.le_of_ble_eq_true rfl) (Nat.le_of_ble_eq_true rfl) (Nat.le_of_ble_eq_true rfl) hlocks (gh_thrown hP hS hw) hS.2.2 (Nat.le_of_ble_eq_true rfl) (Nat.le_of_ble_eq_true rfl)
abbrev rmX4_balance : Room := { frames := 7, cells := 2, slots := 12, locals := 107 }
abbrev cxX4_balance (p : Program) (s : State) (m : MethodId) (args : Array Value) (meth : Method) (c : Code) (D : va_G) (AC : Nat → ClassId) (sa : gh_SA) (A : Nat → Prop) : Prop := CallFix p m c prog_1_method_11_code 9 s args wsX4_balance "OwnerLedger" ∧ meth.sig.returnType = (some .long) ∧ meth.locks = false ∧ c.exceptionTable.toList = [] ∧ va_K D vwCl (gh_ty AC) s ∧ gh_En sa A s s.heap ∧ (∀ q, s.heap.size ≤ q → A q)
def wX4_balance_31 (post : Int64 → gh_H → Prop) (px : String → gh_H → Prop) : Nat → gh_H → Int32 → Int32 → Int64 → Nat → Int32 → Int32 → Prop
  | 0 => fun _ _ _ _ _ _ _ => False
  | n + 1 => fun G p0 p1 v3 v5 v6 v7 => (v6 ≤ v7 → (post v3 G)) ∧ (¬ v6 ≤ v7 → (∃ (k6 n2 : Nat) (f3 : Nat → Option Nat), G v5 = some (.inl (k6, n2, .inr (.inr (.inr (.inr f3))))) ∧ gh_isq k6 = true ∧ vp_in v7 n2 ∧ (∀ o8 : Option Nat, o8 = f3 v7.toNatClampNeg → (o8 = none → (wX4_balance_31 post px n G p0 p1 v3 v5 v6 (v7 + 1))) ∧ (∀ a10 : Nat, o8 = some a10 → (∃ (fs11 : List Value) (x14 : Int32), G a10 = some (.inr (0, fs11)) ∧ fs11[3]? = some (.int x14) ∧ ((¬ x14 = 1 → (wX4_balance_31 post px n G p0 p1 v3 v5 v6 (v7 + 1))) ∧ (x14 = 1 → (∃ (fs16 : List Value) (x19 : Int32), G a10 = some (.inr (0, fs16)) ∧ fs16[0]? = some (.int x19) ∧ ((p1 < x19 → (wX4_balance_31 post px n G p0 p1 v3 v5 v6 (v7 + 1))) ∧ (¬ p1 < x19 → (∃ fs23 : List Value, G a10 = some (.inr (0, fs23)) ∧ wX0_sumOfAccount (fun r21 G22 => wX4_balance_31 post px n G22 p0 p1 (v3 + r21) v5 v6 (v7 + 1)) px G a10 p0)))))))))))
set_option maxRecDepth 100000 in
set_option maxHeartbeats 4000000 in
theorem lX4_balance_31 {p : Program} {l : Launch} {e : Env} {s : State} {m : MethodId} {args : Array Value} {below : List Frame} {meth : Method} {c : Code} {D : va_G} {AC : Nat → ClassId} {sa : gh_SA} {A : Nat → Prop} (hl0 : l.stackTraces = false) (CX : cxX4_balance p s m args meth c D AC sa A) (post : Int64 → gh_H → Prop) (px : String → gh_H → Prop) : ∀ n : Nat, ∀ (G : gh_H) (p0 : Int32) (p1 : Int32) (v3 : Int64) (v5 : Nat) (v6 : Int32) (v7 : Int32) (H : Heap) (locs : List Loc), wX4_balance_31 post px n G p0 p1 v3 v5 v6 v7 → gh_h D vwCl AC A G H → va_S A s.heap H locs → ∀ ls : Array Slot, lv_has ls 9 [(1, .int p0), (2, .int p1), (3, .long v3), (5, .ref v5), (6, .int v6), (7, .int v7)] → W p l e rmX4_balance s m args below meth c H locs 2 12 (vx_MQ below (va_Ql post (gh_B D vwCl AC A) A) (gh_X D vwCl AC px A) args s 2 12 A) (F0 m 31 ls []) := by
  obtain ⟨⟨hx, hb, hml, hown, hts⟩, hr, hlocks, htb, hK, hE, hA⟩ := id CX
  have hno : ∀ (pc : Nat), ∀ x ∈ c.exceptionTable.toList, covers x pc = false := by rw [htb]; intro _ _ h; cases h
  intro n
  induction n with
  | zero =>
    intro G p0 p1 v3 v5 v6 v7 H locs hw
    exact False.elim hw
  | succ n ih =>
    intro G p0 p1 v3 v5 v6 v7 H locs hw hP hS ls hl
    dsimp only [wX4_balance_31] at hw
    refine lv_iload hx hb dX4_balance_31 (lv_at hl 5 rfl) ?_
    refine lv_iload hx hb dX4_balance_33 (lv_at hl 4 rfl) ?_
    refine lv_icmp_ge (tgt := 83) hx hb dX4_balance_35 (by decide) (fun c1 => ?_) (fun c1 => ?_)
    · replace hw := hw.1 c1
      refine lv_lload_n hx hb dX4_balance_83 rfl (lv_at hl 2 rfl) ?_
      exact gh_lret hx hb hr hlocks hw hP hS (Nat.le_of_ble_eq_true rfl) (Nat.le_of_ble_eq_true rfl) dX4_balance_84
    · replace hw := hw.2 c1
      refine lv_aload hx hb dX4_balance_38 (lv_at hl 3 rfl) ?_
      refine lv_iload hx hb dX4_balance_40 (lv_at hl 5 rfl) ?_
      obtain ⟨k6, n2, f3, he4, hk7, hi5, hw⟩ := hw
      obtain ⟨C9, ht9⟩ := gh_tyq AC hk7
      refine gh_aald hx hb hK hP he4 ht9 hi5 dX4_balance_42 ?_
      obtain ⟨o8, eo9⟩ : ∃ z : Option Nat, z = f3 (Int32.toNatClampNeg v7) := ⟨_, rfl⟩
      rw [← eo9]
      replace hw := hw o8 eo9
      refine gh_astore (lv' := [(8, va_rf o8), (1, .int p0), (2, .int p1), (3, .long v3), (5, .ref v5), (6, .int v6), (7, .int v7)]) hx hb dX4_balance_43 hl (by decide) rfl (fun ls hl => ?_)
      refine gh_aload hx hb dX4_balance_45 (lv_at hl 0 rfl) ?_
      rcases o8 with _ | a10
      · replace hw := hw.1 rfl
        have hl : lv_has ls 9 [(8, .null), (1, .int p0), (2, .int p1), (3, .long v3), (5, .ref v5), (6, .int v6), (7, .int v7)] := hl
        refine lv_ifnullN (tgt := 77) hx hb dX4_balance_47 (by decide) ?_
        refine lv_iinc (v := (v7 + 1)) (lv' := [(7, .int (v7 + 1)), (8, .null), (1, .int p0), (2, .int p1), (3, .long v3), (5, .ref v5), (6, .int v6)]) hx hb dX4_balance_77 hl (k := 6) rfl rfl (by decide) rfl (fun ls hl => ?_)
        refine lv_goto (tgt := 31) hx hb dX4_balance_80 (by decide) ?_
        have hl := lv_sub (l' := [(1, .int p0), (2, .int p1), (3, .long v3), (5, .ref v5), (6, .int v6), (7, .int (v7 + 1))]) hl [2, 3, 4, 5, 6, 0] rfl
        exact ih _ p0 p1 v3 v5 v6 (v7 + 1) _ _ hw hP hS ls hl
      · replace hw := hw.2 a10 rfl
        have hl : lv_has ls 9 [(8, .ref a10), (1, .int p0), (2, .int p1), (3, .long v3), (5, .ref v5), (6, .int v6), (7, .int v7)] := hl
        refine lv_ifnull hx hb dX4_balance_47 ?_
        refine lv_aload hx hb dX4_balance_50 (lv_at hl 0 rfl) ?_
        obtain ⟨fs11, x14, he12, hv13, hw⟩ := hw
        refine gh_get (ci := 0) (v := .int x14) (C := "OwnerLedger$Batch") (T := TX0) (N := 6) hx hb hts (fun w h => gT_up (inX0 w h)) hown hK hP he12 rfl 3 (by decide) (hts _ (gT_up kw_138)) (fun _ h9 => h9) hv13 dX4_balance_52 ?_
        refine lv_iconst (v := 1) hx hb dX4_balance_55 (by decide) ?_
        refine lv_icmp_ne (tgt := 77) hx hb dX4_balance_56 (by decide) (fun c15 => ?_) (fun c15 => ?_)
        · replace hw := hw.1 c15
          refine lv_iinc (v := (v7 + 1)) (lv' := [(7, .int (v7 + 1)), (8, .ref a10), (1, .int p0), (2, .int p1), (3, .long v3), (5, .ref v5), (6, .int v6)]) hx hb dX4_balance_77 hl (k := 6) rfl rfl (by decide) rfl (fun ls hl => ?_)
          refine lv_goto (tgt := 31) hx hb dX4_balance_80 (by decide) ?_
          have hl := lv_sub (l' := [(1, .int p0), (2, .int p1), (3, .long v3), (5, .ref v5), (6, .int v6), (7, .int (v7 + 1))]) hl [2, 3, 4, 5, 6, 0] rfl
          exact ih _ p0 p1 v3 v5 v6 (v7 + 1) _ _ hw hP hS ls hl
        · replace hw := hw.2 c15
          refine lv_aload hx hb dX4_balance_59 (lv_at hl 0 rfl) ?_
          obtain ⟨fs16, x19, he17, hv18, hw⟩ := hw
          refine gh_get (ci := 0) (v := .int x19) (C := "OwnerLedger$Batch") (T := TX0) (N := 6) hx hb hts (fun w h => gT_up (inX0 w h)) hown hK hP he17 rfl 0 (by decide) (hts _ (gT_up kw_132)) (fun _ h9 => h9) hv18 dX4_balance_61 ?_
          refine lv_iload_n hx hb dX4_balance_64 rfl (lv_at hl 2 rfl) ?_
          refine lv_icmp_gt (tgt := 77) hx hb dX4_balance_65 (by decide) (fun c20 => ?_) (fun c20 => ?_)
          · replace hw := hw.1 c20
            refine lv_iinc (v := (v7 + 1)) (lv' := [(7, .int (v7 + 1)), (8, .ref a10), (1, .int p0), (2, .int p1), (3, .long v3), (5, .ref v5), (6, .int v6)]) hx hb dX4_balance_77 hl (k := 6) rfl rfl (by decide) rfl (fun ls hl => ?_)
            refine lv_goto (tgt := 31) hx hb dX4_balance_80 (by decide) ?_
            have hl := lv_sub (l' := [(1, .int p0), (2, .int p1), (3, .long v3), (5, .ref v5), (6, .int v6), (7, .int (v7 + 1))]) hl [2, 3, 4, 5, 6, 0] rfl
            exact ih _ p0 p1 v3 v5 v6 (v7 + 1) _ _ hw hP hS ls hl
          · replace hw := hw.2 c20
            refine lv_lload_n hx hb dX4_balance_68 rfl (lv_at hl 3 rfl) ?_
            refine lv_aload hx hb dX4_balance_69 (lv_at hl 0 rfl) ?_
            refine lv_iload_n hx hb dX4_balance_71 rfl (lv_at hl 1 rfl) ?_
            obtain ⟨fs23, he24, hw⟩ := hw
            refine gh_cl hlocks (hno _) (vx_runV (C := "OwnerLedger$Batch") (As := [.int p0]) (rest := [.long v3]) ⟨hx, hb, hml, hown, hts⟩ (mX0_sumOfAccount l hl0 D AC sa _ _ _ _ _ _ hw) (cwV 1 hts (gV kw_228 kw_229 kw_230 kw_8 kw_231) rfl rfl rfl (by decide +kernel) ⟨Nat.le_of_ble_eq_true rfl, Nat.le_of_ble_eq_true rfl⟩) (gh_preV gh_En_ok hK hE hP hS hA he24 rfl _) rfl rfl hl.1 rfl (lv_room (Nat.le_of_ble_eq_true rfl)) dX4_balance_72 ⟨Nat.le_of_ble_eq_true rfl, Nat.le_of_ble_eq_true rfl⟩) hP hS hA (Nat.le_of_ble_eq_true rfl) (Nat.le_of_ble_eq_true rfl) (fun r21 G22 H locs hw2 hP hS => ?_)
            replace hw := hw2
            clear hw2
            refine lv_ladd hx hb dX4_balance_75 ?_
            refine lv_lstore_n (lv' := [(3, .long (v3 + r21)), (8, .ref a10), (1, .int p0), (2, .int p1), (5, .ref v5), (6, .int v6), (7, .int v7)]) hx hb dX4_balance_76 rfl hl (by decide) rfl (fun ls hl => ?_)
            refine lv_iinc (v := (v7 + 1)) (lv' := [(7, .int (v7 + 1)), (3, .long (v3 + r21)), (8, .ref a10), (1, .int p0), (2, .int p1), (5, .ref v5), (6, .int v6)]) hx hb dX4_balance_77 hl (k := 6) rfl rfl (by decide) rfl (fun ls hl => ?_)
            refine lv_goto (tgt := 31) hx hb dX4_balance_80 (by decide) ?_
            have hl := lv_sub (l' := [(1, .int p0), (2, .int p1), (3, .long (v3 + r21)), (5, .ref v5), (6, .int v6), (7, .int (v7 + 1))]) hl [3, 4, 1, 5, 6, 0] rfl
            exact ih _ p0 p1 (v3 + r21) v5 v6 (v7 + 1) _ _ hw hP hS ls hl
def wX4_balance (post : Int64 → gh_H → Prop) (px : String → gh_H → Prop) (G : gh_H) (t : Nat) (p0 : Int32) (p1 : Int32) : Prop := ∃ fs3 : List Value, G t = some (.inr (4, fs3)) ∧ wX4_currencyOf (fun r1 G2 => wX4_requireRange (fun G6 => ∃ (fs7 : List Value) (x10 : Nat), G6 t = some (.inr (4, fs7)) ∧ fs7[2]? = some (.ref x10) ∧ (∃ (k11 : Nat) (n12 : vp_A), G6 x10 = some (.inl (k11, n12)) ∧ k11 < 7 ∧ (wX4_balance_31 post px 300 G6 p0 p1 0 x10 (Int32.ofNat n12.1) 0))) px G2 (Int32.toInt64 p1) 0 120) px G t p0
set_option maxRecDepth 100000 in
set_option maxHeartbeats 4000000 in
theorem mX4_balance (l : Launch) (hl0 : l.stackTraces = false) (D : va_G) (AC : Nat → ClassId) (sa : gh_SA) (t : Nat) (p0 : Int32) (p1 : Int32) (post : Int64 → gh_H → Prop) (px : String → gh_H → Prop) (G : gh_H) (sz : Nat) (hw : wX4_balance post px G t p0 p1) : vx_Met l yX4_balance wsX4_balance rmX4_balance (gh_Pc D vwCl AC (gh_ty AC) (gh_En sa) G sz [.ref t, .int p0, .int p1]) (va_Ql post (gh_B D vwCl AC (gh_A G sz)) (gh_A G sz)) (gh_X D vwCl AC px (gh_A G sz)) 2 12 (gh_A G sz) := by
  refine vx_ofW (cc := prog_1_method_11_code) (maxL := 9) (ret := (some .long)) (by decide) rfl ?_
  intro p e s m args below meth c s₁ B hml hnoh hv
  obtain ⟨rfl, hsz, hP, hK, hE⟩ := hv
  have hx := B.exec
  have hb := B.bytes
  have hr := B.returns
  have hts := atoms_spec (ws := wsX4_balance) B.pre
  have hown : s.vm.findClass "OwnerLedger" = some m.cls := findClass_of_methodNamed B.named
  have hlocks := B.notSynchronized
  have htb : c.exceptionTable.toList = [] := List.eq_nil_iff_forall_not_mem.mpr hnoh
  subst hsz
  have hA : ∀ q, s.heap.size ≤ q → gh_A G s.heap.size q := fun q h => Or.inr h
  generalize gh_A G s.heap.size = A at hP hE hA ⊢
  have hno : ∀ (pc : Nat), ∀ x ∈ c.exceptionTable.toList, covers x pc = false := by rw [htb]; intro _ _ h; cases h
  have CX : cxX4_balance p s m [.ref t, .int p0, .int p1].toArray meth c D AC sa A := ⟨⟨hx, hb, hml, hown, hts⟩, hr, hlocks, htb, hK, hE, hA⟩
  have hS : va_S A s.heap s.heap [] := va_S.rf
  have hl := lv_entry ([.ref t, .int p0, .int p1]) (n := 9) (Nat.le_of_ble_eq_true rfl)
  rw [lg_entry_eq]
  generalize (lg_sl ([.ref t, .int p0, .int p1]) ++ List.replicate (9 - (lg_sl ([.ref t, .int p0, .int p1])).length) Slot.unset).toArray = ls at hl ⊢
  have hl : lv_has ls 9 [(0, .ref t), (1, .int p0), (2, .int p1)] := hl
  dsimp only [wX4_balance] at hw
  refine lv_aload_n hx hb dX4_balance_0 rfl (lv_at hl 0 rfl) ?_
  refine lv_iload_n hx hb dX4_balance_1 rfl (lv_at hl 1 rfl) ?_
  obtain ⟨fs3, he4, hw⟩ := hw
  refine gh_ci hlocks (hno _) (vx_runV (C := "OwnerLedger") (As := [.int p0]) (rest := []) ⟨hx, hb, hml, hown, hts⟩ (mX4_currencyOf l hl0 D AC sa _ _ _ _ _ _ hw) (cwV 1 hts (gV kw_154 kw_155 kw_536 kw_1 kw_156) rfl rfl rfl (by decide +kernel) ⟨Nat.le_of_ble_eq_true rfl, Nat.le_of_ble_eq_true rfl⟩) (gh_preV gh_En_ok hK hE hP hS hA he4 rfl _) rfl rfl hl.1 rfl (lv_room (Nat.le_of_ble_eq_true rfl)) dX4_balance_2 ⟨Nat.le_of_ble_eq_true rfl, Nat.le_of_ble_eq_true rfl⟩) hP hS hA (Nat.le_of_ble_eq_true rfl) (Nat.le_of_ble_eq_true rfl) (fun r1 G2 H locs hw2 hP hS => ?_)
  replace hw := hw2
  clear hw2
  refine lv_pop hx hb dX4_balance_5 rfl ?_
  refine lv_iload_n hx hb dX4_balance_6 rfl (lv_at hl 2 rfl) ?_
  refine lv_i2l hx hb dX4_balance_7 rfl ?_
  refine lv_lconst (v := 0) hx hb dX4_balance_8 (by decide) ?_
  refine lv_ldc2 (v := 120) hx hb hown (hts _ (gT_up kw_104)) dX4_balance_9 ?_
  refine gh_cv_ hlocks (hno _) (vx_runS (As := [.long (Int32.toInt64 p1), .long 0, .long 120]) (rest := []) ⟨hx, hb, hml, hown, hts⟩ (mX4_requireRange l hl0 D AC sa _ _ _ _ _ _ _ hw) (va_cwS 3 hts (gS kw_89 kw_90 kw_1 kw_91) rfl rfl rfl (by decide +kernel) ⟨Nat.le_of_ble_eq_true rfl, Nat.le_of_ble_eq_true rfl⟩) (gh_pre gh_En_ok hK hE hP hS hA _) rfl rfl hl.1 rfl (lv_room (Nat.le_of_ble_eq_true rfl)) dX4_balance_12 ⟨Nat.le_of_ble_eq_true rfl, Nat.le_of_ble_eq_true rfl⟩) hP hS hA (Nat.le_of_ble_eq_true rfl) (Nat.le_of_ble_eq_true rfl) (fun G6 H locs hw2 hP hS => ?_)
  replace hw := hw2
  clear hw2
  refine lv_lconst (v := 0) hx hb dX4_balance_15 (by decide) ?_
  refine lv_lstore_n (lv' := [(3, .long 0), (0, .ref t), (1, .int p0), (2, .int p1)]) hx hb dX4_balance_16 rfl hl (by decide) rfl (fun ls hl => ?_)
  refine lv_aload_n hx hb dX4_balance_17 rfl (lv_at hl 1 rfl) ?_
  obtain ⟨fs7, x10, he8, hv9, hw⟩ := hw
  refine gh_get (ci := 4) (v := .ref x10) (C := "OwnerLedger") (T := TX4) (N := 11) hx hb hts (fun w h => gT_up (inX4 w h)) hown hK hP he8 rfl 2 (by decide) (hts _ (gT_up kw_25)) (fun _ h9 => h9) hv9 dX4_balance_18 ?_
  refine lv_astore (lv' := [(5, .ref x10), (3, .long 0), (0, .ref t), (1, .int p0), (2, .int p1)]) hx hb dX4_balance_21 hl (by decide) rfl (fun ls hl => ?_)
  refine lv_aload hx hb dX4_balance_23 (lv_at hl 0 rfl) ?_
  obtain ⟨k11, n12, he14, hk15, hw⟩ := hw
  obtain ⟨ty9, ht9⟩ := gh_tyat AC hk15
  refine gh_alen hx hb hK hP he14 ht9 rfl dX4_balance_25 ?_
  refine lv_istore (lv' := [(6, .int (Int32.ofNat n12.1)), (5, .ref x10), (3, .long 0), (0, .ref t), (1, .int p0), (2, .int p1)]) hx hb dX4_balance_26 hl (by decide) rfl (fun ls hl => ?_)
  refine lv_iconst (v := 0) hx hb dX4_balance_28 (by decide) ?_
  refine lv_istore (lv' := [(7, .int 0), (6, .int (Int32.ofNat n12.1)), (5, .ref x10), (3, .long 0), (0, .ref t), (1, .int p0), (2, .int p1)]) hx hb dX4_balance_29 hl (by decide) rfl (fun ls hl => ?_)
  have hl := lv_sub (l' := [(1, .int p0), (2, .int p1), (3, .long 0), (5, .ref x10), (6, .int (Int32.ofNat n12.1)), (7, .int 0)]) hl [5, 6, 3, 2, 1, 0] rfl
  exact lX4_balance_31 hl0 CX post px _ _ p0 p1 0 x10 (Int32.ofNat n12.1) 0 _ _ hw hP hS ls hl
abbrev rmX4_all : Room := { frames := 7, cells := 1, slots := 6, locals := 107 }
abbrev cxX4_all (p : Program) (s : State) (m : MethodId) (args : Array Value) (meth : Method) (c : Code) (D : va_G) (AC : Nat → ClassId) (sa : gh_SA) (A : Nat → Prop) : Prop := CallFix p m c prog_1_method_12_code 8 s args wsX4_all "OwnerLedger" ∧ meth.sig.returnType = (some .long) ∧ meth.locks = false ∧ c.exceptionTable.toList = [] ∧ va_K D vwCl (gh_ty AC) s ∧ gh_En sa A s s.heap ∧ (∀ q, s.heap.size ≤ q → A q)
def wX4_all_25 (post : Int64 → gh_H → Prop) (px : String → gh_H → Prop) : Nat → gh_H → Int32 → Int64 → Nat → Int32 → Int32 → Prop
  | 0 => fun _ _ _ _ _ _ => False
  | n + 1 => fun G p0 v2 v4 v5 v6 => (v5 ≤ v6 → (post v2 G)) ∧ (¬ v5 ≤ v6 → (∃ (k6 n2 : Nat) (f3 : Nat → Option Nat), G v4 = some (.inl (k6, n2, .inr (.inr (.inr (.inr f3))))) ∧ gh_isq k6 = true ∧ vp_in v6 n2 ∧ (∀ o8 : Option Nat, o8 = f3 v6.toNatClampNeg → (o8 = none → (wX4_all_25 post px n G p0 v2 v4 v5 (v6 + 1))) ∧ (∀ a10 : Nat, o8 = some a10 → (∃ (fs11 : List Value) (x14 : Int32), G a10 = some (.inr (0, fs11)) ∧ fs11[3]? = some (.int x14) ∧ ((¬ x14 = 1 → (wX4_all_25 post px n G p0 v2 v4 v5 (v6 + 1))) ∧ (x14 = 1 → (∃ fs18 : List Value, G a10 = some (.inr (0, fs18)) ∧ wX0_sumOfCurrency (fun r16 G17 => wX4_all_25 post px n G17 p0 (v2 + r16) v4 v5 (v6 + 1)) px G a10 p0))))))))
set_option maxRecDepth 100000 in
set_option maxHeartbeats 4000000 in
theorem lX4_all_25 {p : Program} {l : Launch} {e : Env} {s : State} {m : MethodId} {args : Array Value} {below : List Frame} {meth : Method} {c : Code} {D : va_G} {AC : Nat → ClassId} {sa : gh_SA} {A : Nat → Prop} (hl0 : l.stackTraces = false) (CX : cxX4_all p s m args meth c D AC sa A) (post : Int64 → gh_H → Prop) (px : String → gh_H → Prop) : ∀ n : Nat, ∀ (G : gh_H) (p0 : Int32) (v2 : Int64) (v4 : Nat) (v5 : Int32) (v6 : Int32) (H : Heap) (locs : List Loc), wX4_all_25 post px n G p0 v2 v4 v5 v6 → gh_h D vwCl AC A G H → va_S A s.heap H locs → ∀ ls : Array Slot, lv_has ls 8 [(1, .int p0), (2, .long v2), (4, .ref v4), (5, .int v5), (6, .int v6)] → W p l e rmX4_all s m args below meth c H locs 1 6 (vx_MQ below (va_Ql post (gh_B D vwCl AC A) A) (gh_X D vwCl AC px A) args s 1 6 A) (F0 m 25 ls []) := by
  obtain ⟨⟨hx, hb, hml, hown, hts⟩, hr, hlocks, htb, hK, hE, hA⟩ := id CX
  have hno : ∀ (pc : Nat), ∀ x ∈ c.exceptionTable.toList, covers x pc = false := by rw [htb]; intro _ _ h; cases h
  intro n
  induction n with
  | zero =>
    intro G p0 v2 v4 v5 v6 H locs hw
    exact False.elim hw
  | succ n ih =>
    intro G p0 v2 v4 v5 v6 H locs hw hP hS ls hl
    dsimp only [wX4_all_25] at hw
    refine lv_iload hx hb dX4_all_25 (lv_at hl 4 rfl) ?_
    refine lv_iload hx hb dX4_all_27 (lv_at hl 3 rfl) ?_
    refine lv_icmp_ge (tgt := 68) hx hb dX4_all_29 (by decide) (fun c1 => ?_) (fun c1 => ?_)
    · replace hw := hw.1 c1
      refine lv_lload_n hx hb dX4_all_68 rfl (lv_at hl 1 rfl) ?_
      exact gh_lret hx hb hr hlocks hw hP hS (Nat.le_of_ble_eq_true rfl) (Nat.le_of_ble_eq_true rfl) dX4_all_69
    · replace hw := hw.2 c1
      refine lv_aload hx hb dX4_all_32 (lv_at hl 2 rfl) ?_
      refine lv_iload hx hb dX4_all_34 (lv_at hl 4 rfl) ?_
      obtain ⟨k6, n2, f3, he4, hk7, hi5, hw⟩ := hw
      obtain ⟨C9, ht9⟩ := gh_tyq AC hk7
      refine gh_aald hx hb hK hP he4 ht9 hi5 dX4_all_36 ?_
      obtain ⟨o8, eo9⟩ : ∃ z : Option Nat, z = f3 (Int32.toNatClampNeg v6) := ⟨_, rfl⟩
      rw [← eo9]
      replace hw := hw o8 eo9
      refine gh_astore (lv' := [(7, va_rf o8), (1, .int p0), (2, .long v2), (4, .ref v4), (5, .int v5), (6, .int v6)]) hx hb dX4_all_37 hl (by decide) rfl (fun ls hl => ?_)
      refine gh_aload hx hb dX4_all_39 (lv_at hl 0 rfl) ?_
      rcases o8 with _ | a10
      · replace hw := hw.1 rfl
        have hl : lv_has ls 8 [(7, .null), (1, .int p0), (2, .long v2), (4, .ref v4), (5, .int v5), (6, .int v6)] := hl
        refine lv_ifnullN (tgt := 62) hx hb dX4_all_41 (by decide) ?_
        refine lv_iinc (v := (v6 + 1)) (lv' := [(6, .int (v6 + 1)), (7, .null), (1, .int p0), (2, .long v2), (4, .ref v4), (5, .int v5)]) hx hb dX4_all_62 hl (k := 5) rfl rfl (by decide) rfl (fun ls hl => ?_)
        refine lv_goto (tgt := 25) hx hb dX4_all_65 (by decide) ?_
        have hl := lv_sub (l' := [(1, .int p0), (2, .long v2), (4, .ref v4), (5, .int v5), (6, .int (v6 + 1))]) hl [2, 3, 4, 5, 0] rfl
        exact ih _ p0 v2 v4 v5 (v6 + 1) _ _ hw hP hS ls hl
      · replace hw := hw.2 a10 rfl
        have hl : lv_has ls 8 [(7, .ref a10), (1, .int p0), (2, .long v2), (4, .ref v4), (5, .int v5), (6, .int v6)] := hl
        refine lv_ifnull hx hb dX4_all_41 ?_
        refine lv_aload hx hb dX4_all_44 (lv_at hl 0 rfl) ?_
        obtain ⟨fs11, x14, he12, hv13, hw⟩ := hw
        refine gh_get (ci := 0) (v := .int x14) (C := "OwnerLedger$Batch") (T := TX0) (N := 6) hx hb hts (fun w h => gT_up (inX0 w h)) hown hK hP he12 rfl 3 (by decide) (hts _ (gT_up kw_138)) (fun _ h9 => h9) hv13 dX4_all_46 ?_
        refine lv_iconst (v := 1) hx hb dX4_all_49 (by decide) ?_
        refine lv_icmp_ne (tgt := 62) hx hb dX4_all_50 (by decide) (fun c15 => ?_) (fun c15 => ?_)
        · replace hw := hw.1 c15
          refine lv_iinc (v := (v6 + 1)) (lv' := [(6, .int (v6 + 1)), (7, .ref a10), (1, .int p0), (2, .long v2), (4, .ref v4), (5, .int v5)]) hx hb dX4_all_62 hl (k := 5) rfl rfl (by decide) rfl (fun ls hl => ?_)
          refine lv_goto (tgt := 25) hx hb dX4_all_65 (by decide) ?_
          have hl := lv_sub (l' := [(1, .int p0), (2, .long v2), (4, .ref v4), (5, .int v5), (6, .int (v6 + 1))]) hl [2, 3, 4, 5, 0] rfl
          exact ih _ p0 v2 v4 v5 (v6 + 1) _ _ hw hP hS ls hl
        · replace hw := hw.2 c15
          refine lv_lload_n hx hb dX4_all_53 rfl (lv_at hl 2 rfl) ?_
          refine lv_aload hx hb dX4_all_54 (lv_at hl 0 rfl) ?_
          refine lv_iload_n hx hb dX4_all_56 rfl (lv_at hl 1 rfl) ?_
          obtain ⟨fs18, he19, hw⟩ := hw
          refine gh_cl hlocks (hno _) (vx_runV (C := "OwnerLedger$Batch") (As := [.int p0]) (rest := [.long v2]) ⟨hx, hb, hml, hown, hts⟩ (mX0_sumOfCurrency l hl0 D AC sa _ _ _ _ _ _ hw) (cwV 1 hts (gV kw_239 kw_206 kw_207 kw_8 kw_208) rfl rfl rfl (by decide +kernel) ⟨Nat.le_of_ble_eq_true rfl, Nat.le_of_ble_eq_true rfl⟩) (gh_preV gh_En_ok hK hE hP hS hA he19 rfl _) rfl rfl hl.1 rfl (lv_room (Nat.le_of_ble_eq_true rfl)) dX4_all_57 ⟨Nat.le_of_ble_eq_true rfl, Nat.le_of_ble_eq_true rfl⟩) hP hS hA (Nat.le_of_ble_eq_true rfl) (Nat.le_of_ble_eq_true rfl) (fun r16 G17 H locs hw2 hP hS => ?_)
          replace hw := hw2
          clear hw2
          refine lv_ladd hx hb dX4_all_60 ?_
          refine lv_lstore_n (lv' := [(2, .long (v2 + r16)), (7, .ref a10), (1, .int p0), (4, .ref v4), (5, .int v5), (6, .int v6)]) hx hb dX4_all_61 rfl hl (by decide) rfl (fun ls hl => ?_)
          refine lv_iinc (v := (v6 + 1)) (lv' := [(6, .int (v6 + 1)), (2, .long (v2 + r16)), (7, .ref a10), (1, .int p0), (4, .ref v4), (5, .int v5)]) hx hb dX4_all_62 hl (k := 5) rfl rfl (by decide) rfl (fun ls hl => ?_)
          refine lv_goto (tgt := 25) hx hb dX4_all_65 (by decide) ?_
          have hl := lv_sub (l' := [(1, .int p0), (2, .long (v2 + r16)), (4, .ref v4), (5, .int v5), (6, .int (v6 + 1))]) hl [3, 1, 4, 5, 0] rfl
          exact ih _ p0 (v2 + r16) v4 v5 (v6 + 1) _ _ hw hP hS ls hl
def wX4_all (post : Int64 → gh_H → Prop) (px : String → gh_H → Prop) (G : gh_H) (t : Nat) (p0 : Int32) : Prop := wX4_requireRange (fun G2 => ∃ (fs3 : List Value) (x6 : Nat), G2 t = some (.inr (4, fs3)) ∧ fs3[2]? = some (.ref x6) ∧ (∃ (k7 : Nat) (n8 : vp_A), G2 x6 = some (.inl (k7, n8)) ∧ k7 < 7 ∧ (wX4_all_25 post px 300 G2 p0 0 x6 (Int32.ofNat n8.1) 0))) px G (Int32.toInt64 p0) 0 2
set_option maxRecDepth 100000 in
set_option maxHeartbeats 4000000 in
theorem mX4_all (l : Launch) (hl0 : l.stackTraces = false) (D : va_G) (AC : Nat → ClassId) (sa : gh_SA) (t : Nat) (p0 : Int32) (post : Int64 → gh_H → Prop) (px : String → gh_H → Prop) (G : gh_H) (sz : Nat) (hw : wX4_all post px G t p0) : vx_Met l yX4_all wsX4_all rmX4_all (gh_Pc D vwCl AC (gh_ty AC) (gh_En sa) G sz [.ref t, .int p0]) (va_Ql post (gh_B D vwCl AC (gh_A G sz)) (gh_A G sz)) (gh_X D vwCl AC px (gh_A G sz)) 1 6 (gh_A G sz) := by
  refine vx_ofW (cc := prog_1_method_12_code) (maxL := 8) (ret := (some .long)) (by decide) rfl ?_
  intro p e s m args below meth c s₁ B hml hnoh hv
  obtain ⟨rfl, hsz, hP, hK, hE⟩ := hv
  have hx := B.exec
  have hb := B.bytes
  have hr := B.returns
  have hts := atoms_spec (ws := wsX4_all) B.pre
  have hown : s.vm.findClass "OwnerLedger" = some m.cls := findClass_of_methodNamed B.named
  have hlocks := B.notSynchronized
  have htb : c.exceptionTable.toList = [] := List.eq_nil_iff_forall_not_mem.mpr hnoh
  subst hsz
  have hA : ∀ q, s.heap.size ≤ q → gh_A G s.heap.size q := fun q h => Or.inr h
  generalize gh_A G s.heap.size = A at hP hE hA ⊢
  have hno : ∀ (pc : Nat), ∀ x ∈ c.exceptionTable.toList, covers x pc = false := by rw [htb]; intro _ _ h; cases h
  have CX : cxX4_all p s m [.ref t, .int p0].toArray meth c D AC sa A := ⟨⟨hx, hb, hml, hown, hts⟩, hr, hlocks, htb, hK, hE, hA⟩
  have hS : va_S A s.heap s.heap [] := va_S.rf
  have hl := lv_entry ([.ref t, .int p0]) (n := 8) (Nat.le_of_ble_eq_true rfl)
  rw [lg_entry_eq]
  generalize (lg_sl ([.ref t, .int p0]) ++ List.replicate (8 - (lg_sl ([.ref t, .int p0])).length) Slot.unset).toArray = ls at hl ⊢
  have hl : lv_has ls 8 [(0, .ref t), (1, .int p0)] := hl
  dsimp only [wX4_all] at hw
  refine lv_iload_n hx hb dX4_all_0 rfl (lv_at hl 1 rfl) ?_
  refine lv_i2l hx hb dX4_all_1 rfl ?_
  refine lv_lconst (v := 0) hx hb dX4_all_2 (by decide) ?_
  refine lv_ldc2 (v := 2) hx hb hown (hts _ (gT_up kw_88)) dX4_all_3 ?_
  refine gh_cv_ hlocks (hno _) (vx_runS (As := [.long (Int32.toInt64 p0), .long 0, .long 2]) (rest := []) ⟨hx, hb, hml, hown, hts⟩ (mX4_requireRange l hl0 D AC sa _ _ _ _ _ _ _ hw) (va_cwS 3 hts (gS kw_89 kw_90 kw_1 kw_91) rfl rfl rfl (by decide +kernel) ⟨Nat.le_of_ble_eq_true rfl, Nat.le_of_ble_eq_true rfl⟩) (gh_pre gh_En_ok hK hE hP hS hA _) rfl rfl hl.1 rfl (lv_room (Nat.le_of_ble_eq_true rfl)) dX4_all_6 ⟨Nat.le_of_ble_eq_true rfl, Nat.le_of_ble_eq_true rfl⟩) hP hS hA (Nat.le_of_ble_eq_true rfl) (Nat.le_of_ble_eq_true rfl) (fun G2 H locs hw2 hP hS => ?_)
  replace hw := hw2
  clear hw2
  refine lv_lconst (v := 0) hx hb dX4_all_9 (by decide) ?_
  refine lv_lstore_n (lv' := [(2, .long 0), (0, .ref t), (1, .int p0)]) hx hb dX4_all_10 rfl hl (by decide) rfl (fun ls hl => ?_)
  refine lv_aload_n hx hb dX4_all_11 rfl (lv_at hl 1 rfl) ?_
  obtain ⟨fs3, x6, he4, hv5, hw⟩ := hw
  refine gh_get (ci := 4) (v := .ref x6) (C := "OwnerLedger") (T := TX4) (N := 11) hx hb hts (fun w h => gT_up (inX4 w h)) hown hK hP he4 rfl 2 (by decide) (hts _ (gT_up kw_25)) (fun _ h9 => h9) hv5 dX4_all_12 ?_
  refine lv_astore (lv' := [(4, .ref x6), (2, .long 0), (0, .ref t), (1, .int p0)]) hx hb dX4_all_15 hl (by decide) rfl (fun ls hl => ?_)
  refine lv_aload hx hb dX4_all_17 (lv_at hl 0 rfl) ?_
  obtain ⟨k7, n8, he10, hk11, hw⟩ := hw
  obtain ⟨ty9, ht9⟩ := gh_tyat AC hk11
  refine gh_alen hx hb hK hP he10 ht9 rfl dX4_all_19 ?_
  refine lv_istore (lv' := [(5, .int (Int32.ofNat n8.1)), (4, .ref x6), (2, .long 0), (0, .ref t), (1, .int p0)]) hx hb dX4_all_20 hl (by decide) rfl (fun ls hl => ?_)
  refine lv_iconst (v := 0) hx hb dX4_all_22 (by decide) ?_
  refine lv_istore (lv' := [(6, .int 0), (5, .int (Int32.ofNat n8.1)), (4, .ref x6), (2, .long 0), (0, .ref t), (1, .int p0)]) hx hb dX4_all_23 hl (by decide) rfl (fun ls hl => ?_)
  have hl := lv_sub (l' := [(1, .int p0), (2, .long 0), (4, .ref x6), (5, .int (Int32.ofNat n8.1)), (6, .int 0)]) hl [5, 3, 2, 1, 0] rfl
  exact lX4_all_25 hl0 CX post px _ _ p0 0 x6 (Int32.ofNat n8.1) 0 _ _ hw hP hS ls hl
abbrev rmX4_invoice : Room := { frames := 7, cells := 5, slots := 29, locals := 107 }
abbrev cxX4_invoice (p : Program) (s : State) (m : MethodId) (args : Array Value) (meth : Method) (c : Code) (D : va_G) (AC : Nat → ClassId) (sa : gh_SA) (A : Nat → Prop) : Prop := CallFix p m c prog_1_method_13_code 7 s args wsX4_invoice "OwnerLedger" ∧ meth.sig.returnType = (some .int) ∧ meth.locks = false ∧ c.exceptionTable.toList = [] ∧ va_K D vwCl (gh_ty AC) s ∧ gh_En sa A s s.heap ∧ (∀ q, s.heap.size ≤ q → A q)
def wX4_invoice (post : Int32 → gh_H → Prop) (px : String → gh_H → Prop) (G : gh_H) (t : Nat) (p0 : Int32) (p1 : Int64) (p2 : Int32) : Prop := ∃ fs3 : List Value, G t = some (.inr (4, fs3)) ∧ wX4_findOwner (fun r1 G2 => wX4_requireRange (fun G6 => wX4_requireRange (fun G8 => ∃ a9 : Nat, r1 = some a9 ∧ ∃ (fs10 : List Value) (x13 : Int32), G8 a9 = some (.inr (2, fs10)) ∧ fs10[1]? = some (.int x13) ∧ ((x13 = 0 → (∃ (fs15 : List Value) (x18 : Int32), G8 t = some (.inr (4, fs15)) ∧ fs15[7]? = some (.int x18) ∧ (∃ (fs19 : List Value) (x22 : Nat), G8 t = some (.inr (4, fs19)) ∧ fs19[3]? = some (.ref x22) ∧ (∃ (k23 : Nat) (n24 : vp_A), G8 x22 = some (.inl (k23, n24)) ∧ k23 < 7 ∧ (wX4_requireRoom (fun G29 => ∀ q30 : Nat, G29 q30 = none → ∀ G31 : gh_H, G31 = gh_up G29 q30 (.inr (1, [.int 0, .int 0, .long 0, .int 0, .int 0])) → wX1_init (fun G35 => ∃ (fs36 : List Value) (x39 : Int64), G35 a9 = some (.inr (2, fs36)) ∧ fs36[0]? = some (.long x39) ∧ (∃ fs42 : List Value, G35 q30 = some (.inr (1, fs42)) ∧ wX1_takeFrom (fun r40 G41 => ∃ fs44 : List Value, G41 a9 = some (.inr (2, fs44)) ∧ 0 < fs44.length ∧ (∀ G47 : gh_H, G47 = gh_up G41 a9 (.inr (2, fs44.set 0 (.long r40))) → ∃ (fs49 : List Value) (x52 : Nat), G47 t = some (.inr (4, fs49)) ∧ fs49[3]? = some (.ref x52) ∧ (∃ (fs53 : List Value) (x56 : Int32), G47 t = some (.inr (4, fs53)) ∧ fs53[7]? = some (.int x56) ∧ (∃ (k62 n57 j63 : Nat) (f58 : Nat → Option Nat) (fs64 : List Value), G47 x52 = some (.inl (k62, n57, .inr (.inr (.inr (.inr f58))))) ∧ G47 q30 = some (.inr (j63, fs64)) ∧ gh_elk k62 j63 = true ∧ vp_in x56 n57 ∧ (∀ G67 : gh_H, G67 = gh_up G47 x52 (.inl (k62, n57, .inr (.inr (.inr (.inr (va_up f58 (Int32.toNatClampNeg x56) (some q30))))))) → ∃ (fs68 : List Value) (x71 : Int32), G67 t = some (.inr (4, fs68)) ∧ fs68[7]? = some (.int x71) ∧ (∃ fs72 : List Value, G67 t = some (.inr (4, fs72)) ∧ 7 < fs72.length ∧ (∀ G75 : gh_H, G75 = gh_up G67 t (.inr (4, fs72.set 7 (.int (x71 + 1)))) → ∃ (fs77 : List Value) (x80 : Int32), G75 t = some (.inr (4, fs77)) ∧ fs77[7]? = some (.int x80) ∧ (post x80 G75)))))))) px G35 q30 x39)) px G31 q30 p0 p1 p2) px G8 x18 (Int32.ofNat n24.1)))))) ∧ (¬ x13 = 0 → (px "java/lang/IllegalStateException" G8)))) px G6 (Int32.toInt64 p2) 0 120) px G2 p1 1 1000000000) px G t p0
set_option maxRecDepth 100000 in
set_option maxHeartbeats 4000000 in
theorem mX4_invoice (l : Launch) (hl0 : l.stackTraces = false) (D : va_G) (AC : Nat → ClassId) (sa : gh_SA) (t : Nat) (p0 : Int32) (p1 : Int64) (p2 : Int32) (post : Int32 → gh_H → Prop) (px : String → gh_H → Prop) (G : gh_H) (sz : Nat) (hw : wX4_invoice post px G t p0 p1 p2) : vx_Met l yX4_invoice wsX4_invoice rmX4_invoice (gh_Pc D vwCl AC (gh_ty AC) (gh_En sa) G sz [.ref t, .int p0, .long p1, .int p2]) (va_Qi post (gh_B D vwCl AC (gh_A G sz)) (gh_A G sz)) (gh_X D vwCl AC px (gh_A G sz)) 5 29 (gh_A G sz) := by
  refine vx_ofW (cc := prog_1_method_13_code) (maxL := 7) (ret := (some .int)) (by decide) rfl ?_
  intro p e s m args below meth c s₁ B hml hnoh hv
  obtain ⟨rfl, hsz, hP, hK, hE⟩ := hv
  have hx := B.exec
  have hb := B.bytes
  have hr := B.returns
  have hts := atoms_spec (ws := wsX4_invoice) B.pre
  have hown : s.vm.findClass "OwnerLedger" = some m.cls := findClass_of_methodNamed B.named
  have hlocks := B.notSynchronized
  have htb : c.exceptionTable.toList = [] := List.eq_nil_iff_forall_not_mem.mpr hnoh
  subst hsz
  have hA : ∀ q, s.heap.size ≤ q → gh_A G s.heap.size q := fun q h => Or.inr h
  generalize gh_A G s.heap.size = A at hP hE hA ⊢
  have hno : ∀ (pc : Nat), ∀ x ∈ c.exceptionTable.toList, covers x pc = false := by rw [htb]; intro _ _ h; cases h
  have CX : cxX4_invoice p s m [.ref t, .int p0, .long p1, .int p2].toArray meth c D AC sa A := ⟨⟨hx, hb, hml, hown, hts⟩, hr, hlocks, htb, hK, hE, hA⟩
  have hS : va_S A s.heap s.heap [] := va_S.rf
  have hl := lv_entry ([.ref t, .int p0, .long p1, .int p2]) (n := 7) (Nat.le_of_ble_eq_true rfl)
  rw [lg_entry_eq]
  generalize (lg_sl ([.ref t, .int p0, .long p1, .int p2]) ++ List.replicate (7 - (lg_sl ([.ref t, .int p0, .long p1, .int p2])).length) Slot.unset).toArray = ls at hl ⊢
  have hl : lv_has ls 7 [(0, .ref t), (1, .int p0), (2, .long p1), (4, .int p2)] := hl
  dsimp only [wX4_invoice] at hw
  refine lv_aload_n hx hb dX4_invoice_0 rfl (lv_at hl 0 rfl) ?_
  refine lv_iload_n hx hb dX4_invoice_1 rfl (lv_at hl 1 rfl) ?_
  obtain ⟨fs3, he4, hw⟩ := hw
  refine gh_cq hlocks (hno _) (vx_runV (C := "OwnerLedger") (As := [.int p0]) (rest := []) ⟨hx, hb, hml, hown, hts⟩ (mX4_findOwner l hl0 D AC sa _ _ _ _ _ _ hw) (cwV 1 hts (gV kw_80 kw_81 kw_533 kw_1 kw_82) rfl rfl rfl (by decide +kernel) ⟨Nat.le_of_ble_eq_true rfl, Nat.le_of_ble_eq_true rfl⟩) (gh_preV gh_En_ok hK hE hP hS hA he4 rfl _) rfl rfl hl.1 rfl (lv_room (Nat.le_of_ble_eq_true rfl)) dX4_invoice_2 ⟨Nat.le_of_ble_eq_true rfl, Nat.le_of_ble_eq_true rfl⟩) hP hS hA (Nat.le_of_ble_eq_true rfl) (Nat.le_of_ble_eq_true rfl) (fun r1 G2 H locs hw2 hP hS => ?_)
  replace hw := hw2
  clear hw2
  refine gh_astore (lv' := [(5, va_rf r1), (0, .ref t), (1, .int p0), (2, .long p1), (4, .int p2)]) hx hb dX4_invoice_5 hl (by decide) rfl (fun ls hl => ?_)
  refine lv_lload_n hx hb dX4_invoice_7 rfl (lv_at hl 3 rfl) ?_
  refine lv_lconst (v := 1) hx hb dX4_invoice_8 (by decide) ?_
  refine lv_ldc2 (v := 1000000000) hx hb hown (hts _ (gT_up kw_158)) dX4_invoice_9 ?_
  refine gh_cv_ hlocks (hno _) (vx_runS (As := [.long p1, .long 1, .long 1000000000]) (rest := []) ⟨hx, hb, hml, hown, hts⟩ (mX4_requireRange l hl0 D AC sa _ _ _ _ _ _ _ hw) (va_cwS 3 hts (gS kw_89 kw_90 kw_1 kw_91) rfl rfl rfl (by decide +kernel) ⟨Nat.le_of_ble_eq_true rfl, Nat.le_of_ble_eq_true rfl⟩) (gh_pre gh_En_ok hK hE hP hS hA _) rfl rfl hl.1 rfl (lv_room (Nat.le_of_ble_eq_true rfl)) dX4_invoice_12 ⟨Nat.le_of_ble_eq_true rfl, Nat.le_of_ble_eq_true rfl⟩) hP hS hA (Nat.le_of_ble_eq_true rfl) (Nat.le_of_ble_eq_true rfl) (fun G6 H locs hw2 hP hS => ?_)
  replace hw := hw2
  clear hw2
  refine lv_iload hx hb dX4_invoice_15 (lv_at hl 4 rfl) ?_
  refine lv_i2l hx hb dX4_invoice_17 rfl ?_
  refine lv_lconst (v := 0) hx hb dX4_invoice_18 (by decide) ?_
  refine lv_ldc2 (v := 120) hx hb hown (hts _ (gT_up kw_104)) dX4_invoice_19 ?_
  refine gh_cv_ hlocks (hno _) (vx_runS (As := [.long (Int32.toInt64 p2), .long 0, .long 120]) (rest := []) ⟨hx, hb, hml, hown, hts⟩ (mX4_requireRange l hl0 D AC sa _ _ _ _ _ _ _ hw) (va_cwS 3 hts (gS kw_89 kw_90 kw_1 kw_91) rfl rfl rfl (by decide +kernel) ⟨Nat.le_of_ble_eq_true rfl, Nat.le_of_ble_eq_true rfl⟩) (gh_pre gh_En_ok hK hE hP hS hA _) rfl rfl hl.1 rfl (lv_room (Nat.le_of_ble_eq_true rfl)) dX4_invoice_22 ⟨Nat.le_of_ble_eq_true rfl, Nat.le_of_ble_eq_true rfl⟩) hP hS hA (Nat.le_of_ble_eq_true rfl) (Nat.le_of_ble_eq_true rfl) (fun G8 H locs hw2 hP hS => ?_)
  replace hw := hw2
  clear hw2
  refine gh_aload hx hb dX4_invoice_25 (lv_at hl 0 rfl) ?_
  obtain ⟨a9, ea9, hw⟩ := hw
  subst ea9
  have hl : lv_has ls 7 [(5, .ref a9), (0, .ref t), (1, .int p0), (2, .long p1), (4, .int p2)] := hl
  obtain ⟨fs10, x13, he11, hv12, hw⟩ := hw
  refine gh_get (ci := 2) (v := .int x13) (C := "OwnerLedger$Owner") (T := TX2) (N := 2) hx hb hts (fun w h => gT_up (inX2 w h)) hown hK hP he11 rfl 1 (by decide) (hts _ (gT_up kw_70)) (fun _ h9 => h9) hv12 dX4_invoice_27 ?_
  refine lv_if_eq (tgt := 43) hx hb dX4_invoice_30 (by decide) (fun c14 => ?_) (fun c14 => ?_)
  · replace hw := hw.1 c14
    refine lv_aload_n hx hb dX4_invoice_43 rfl (lv_at hl 1 rfl) ?_
    obtain ⟨fs15, x18, he16, hv17, hw⟩ := hw
    refine gh_get (ci := 4) (v := .int x18) (C := "OwnerLedger") (T := TX4) (N := 11) hx hb hts (fun w h => gT_up (inX4 w h)) hown hK hP he16 rfl 7 (by decide) (hts _ (gT_up kw_30)) (fun _ h9 => h9) hv17 dX4_invoice_44 ?_
    refine lv_aload_n hx hb dX4_invoice_47 rfl (lv_at hl 1 rfl) ?_
    obtain ⟨fs19, x22, he20, hv21, hw⟩ := hw
    refine gh_get (ci := 4) (v := .ref x22) (C := "OwnerLedger") (T := TX4) (N := 11) hx hb hts (fun w h => gT_up (inX4 w h)) hown hK hP he20 rfl 3 (by decide) (hts _ (gT_up kw_26)) (fun _ h9 => h9) hv21 dX4_invoice_48 ?_
    obtain ⟨k23, n24, he26, hk27, hw⟩ := hw
    obtain ⟨ty9, ht9⟩ := gh_tyat AC hk27
    refine gh_alen hx hb hK hP he26 ht9 rfl dX4_invoice_51 ?_
    refine gh_cv_ hlocks (hno _) (vx_runS (As := [.int x18, .int (Int32.ofNat n24.1)]) (rest := []) ⟨hx, hb, hml, hown, hts⟩ (mX4_requireRoom l hl0 D AC sa _ _ _ _ _ _ hw) (va_cwS 2 hts (gS kw_56 kw_57 kw_1 kw_58) rfl rfl rfl (by decide +kernel) ⟨Nat.le_of_ble_eq_true rfl, Nat.le_of_ble_eq_true rfl⟩) (gh_pre gh_En_ok hK hE hP hS hA _) rfl rfl hl.1 rfl (lv_room (Nat.le_of_ble_eq_true rfl)) dX4_invoice_52 ⟨Nat.le_of_ble_eq_true rfl, Nat.le_of_ble_eq_true rfl⟩) hP hS hA (Nat.le_of_ble_eq_true rfl) (Nat.le_of_ble_eq_true rfl) (fun G29 H locs hw2 hP hS => ?_)
    replace hw := hw2
    clear hw2
    refine gh_new (ci := 1) (fs := [.int 0, .int 0, .long 0, .int 0, .int 0]) (C := "OwnerLedger$Invoice") (T := TX1) (N := 5) hx hb hts (fun w h => gT_up (inX1 w h)) tyX1 tyX1_ok hown (hts _ (gT_up kw_22)) (hts _ (gT_up kw_247)) (hts _ (gT_up kw_10)) hK hP hS hA rfl (fun j hj => by rcases (show j = 0 ∨ j = 1 ∨ j = 2 ∨ j = 3 ∨ j = 4 by omega) with rfl | rfl | rfl | rfl | rfl <;> rfl) (Nat.le_of_ble_eq_true rfl) (Nat.le_of_ble_eq_true rfl) dX4_invoice_55 (fun q30 G31 H hq33 eG32 hP hS => ?_)
    replace hw := hw q30 hq33 G31 eG32
    refine lv_dup hx hb dX4_invoice_58 rfl ?_
    refine lv_iload_n hx hb dX4_invoice_59 rfl (lv_at hl 2 rfl) ?_
    refine lv_lload_n hx hb dX4_invoice_60 rfl (lv_at hl 3 rfl) ?_
    refine lv_iload hx hb dX4_invoice_61 (lv_at hl 4 rfl) ?_
    refine gh_cM (va_runI (As := [.int p0, .long p1, .int p2]) (rest := [.ref q30]) ⟨hx, hb, hml, hown, hts⟩ (mX1_init l hl0 D AC sa _ _ _ _ _ _ _ _ hw) (cwI 3 hts (gG kw_250) rfl rfl rfl (hts _ (gT_up kw_10)) (hts _ (gT_up kw_248)) (hts _ (gT_up kw_249)) rfl (by decide +kernel) ⟨Nat.le_of_ble_eq_true rfl, Nat.le_of_ble_eq_true rfl⟩) (gh_pre gh_En_ok hK hE hP hS hA _) rfl rfl hl.1 rfl (lv_room (Nat.le_of_ble_eq_true rfl)) dX4_invoice_63 ⟨Nat.le_of_ble_eq_true rfl, Nat.le_of_ble_eq_true rfl⟩) hP hS hA (fun G35 H locs hw2 hP hS => ?_)
    replace hw := hw2
    clear hw2
    refine lv_astore (lv' := [(6, .ref q30), (5, .ref a9), (0, .ref t), (1, .int p0), (2, .long p1), (4, .int p2)]) hx hb dX4_invoice_66 hl (by decide) rfl (fun ls hl => ?_)
    refine lv_aload hx hb dX4_invoice_68 (lv_at hl 1 rfl) ?_
    refine lv_aload hx hb dX4_invoice_70 (lv_at hl 0 rfl) ?_
    refine lv_aload hx hb dX4_invoice_72 (lv_at hl 1 rfl) ?_
    obtain ⟨fs36, x39, he37, hv38, hw⟩ := hw
    refine gh_get (ci := 2) (v := .long x39) (C := "OwnerLedger$Owner") (T := TX2) (N := 2) hx hb hts (fun w h => gT_up (inX2 w h)) hown hK hP he37 rfl 0 (by decide) (hts _ (gT_up kw_69)) (fun _ h9 => h9) hv38 dX4_invoice_74 ?_
    obtain ⟨fs42, he43, hw⟩ := hw
    refine gh_cl hlocks (hno _) (vx_runV (C := "OwnerLedger$Invoice") (As := [.long x39]) (rest := [.ref a9]) ⟨hx, hb, hml, hown, hts⟩ (mX1_takeFrom l hl0 D AC sa _ _ _ _ _ _ hw) (cwV 1 hts (gV kw_261 kw_262 kw_263 kw_10 kw_264) rfl rfl rfl (by decide +kernel) ⟨Nat.le_of_ble_eq_true rfl, Nat.le_of_ble_eq_true rfl⟩) (gh_preV gh_En_ok hK hE hP hS hA he43 rfl _) rfl rfl hl.1 rfl (lv_room (Nat.le_of_ble_eq_true rfl)) dX4_invoice_77 ⟨Nat.le_of_ble_eq_true rfl, Nat.le_of_ble_eq_true rfl⟩) hP hS hA (Nat.le_of_ble_eq_true rfl) (Nat.le_of_ble_eq_true rfl) (fun r40 G41 H locs hw2 hP hS => ?_)
    replace hw := hw2
    clear hw2
    obtain ⟨fs44, he45, hk46, hw⟩ := hw
    refine gh_put (ci := 2) (v := .long r40) (ty := .long) (C := "OwnerLedger$Owner") (T := TX2) (N := 2) hx hb hts (fun w h => gT_up (inX2 w h)) tyX2 tyX2_ok nmX2 hown hK hP hS he45 rfl 0 (by decide) (hts _ (gT_up kw_69)) (fun _ h9 => h9) rfl (by decide +kernel) rfl rfl hk46 dX4_invoice_80 (fun G47 H locs eG48 hP hS => ?_)
    replace hw := hw G47 eG48
    refine lv_aload_n hx hb dX4_invoice_83 rfl (lv_at hl 2 rfl) ?_
    obtain ⟨fs49, x52, he50, hv51, hw⟩ := hw
    refine gh_get (ci := 4) (v := .ref x52) (C := "OwnerLedger") (T := TX4) (N := 11) hx hb hts (fun w h => gT_up (inX4 w h)) hown hK hP he50 rfl 3 (by decide) (hts _ (gT_up kw_26)) (fun _ h9 => h9) hv51 dX4_invoice_84 ?_
    refine lv_aload_n hx hb dX4_invoice_87 rfl (lv_at hl 2 rfl) ?_
    obtain ⟨fs53, x56, he54, hv55, hw⟩ := hw
    refine gh_get (ci := 4) (v := .int x56) (C := "OwnerLedger") (T := TX4) (N := 11) hx hb hts (fun w h => gT_up (inX4 w h)) hown hK hP he54 rfl 7 (by decide) (hts _ (gT_up kw_30)) (fun _ h9 => h9) hv55 dX4_invoice_88 ?_
    refine lv_aload hx hb dX4_invoice_91 (lv_at hl 0 rfl) ?_
    obtain ⟨k62, n57, j63, f58, fs64, he59, hv65, hk66, hi60, hw⟩ := hw
    obtain ⟨r9, hc9, ht9⟩ := gh_tyel AC hk66
    refine gh_aast hx hb hK hP hS he59 ht9 hv65 hc9 hi60 dX4_invoice_93 (fun G67 H locs eG61 hP hS => ?_)
    replace hw := hw G67 eG61
    refine lv_aload_n hx hb dX4_invoice_94 rfl (lv_at hl 2 rfl) ?_
    refine lv_dup hx hb dX4_invoice_95 rfl ?_
    obtain ⟨fs68, x71, he69, hv70, hw⟩ := hw
    refine gh_get (ci := 4) (v := .int x71) (C := "OwnerLedger") (T := TX4) (N := 11) hx hb hts (fun w h => gT_up (inX4 w h)) hown hK hP he69 rfl 7 (by decide) (hts _ (gT_up kw_30)) (fun _ h9 => h9) hv70 dX4_invoice_96 ?_
    refine lv_iconst (v := 1) hx hb dX4_invoice_99 (by decide) ?_
    refine lv_iadd hx hb dX4_invoice_100 ?_
    obtain ⟨fs72, he73, hk74, hw⟩ := hw
    refine gh_put (ci := 4) (v := .int (x71 + 1)) (ty := .int) (C := "OwnerLedger") (T := TX4) (N := 11) hx hb hts (fun w h => gT_up (inX4 w h)) tyX4 tyX4_ok nmX4 hown hK hP hS he73 rfl 7 (by decide) (hts _ (gT_up kw_30)) (fun _ h9 => h9) rfl (by decide +kernel) rfl rfl hk74 dX4_invoice_101 (fun G75 H locs eG76 hP hS => ?_)
    replace hw := hw G75 eG76
    refine lv_aload_n hx hb dX4_invoice_104 rfl (lv_at hl 2 rfl) ?_
    obtain ⟨fs77, x80, he78, hv79, hw⟩ := hw
    refine gh_get (ci := 4) (v := .int x80) (C := "OwnerLedger") (T := TX4) (N := 11) hx hb hts (fun w h => gT_up (inX4 w h)) hown hK hP he78 rfl 7 (by decide) (hts _ (gT_up kw_30)) (fun _ h9 => h9) hv79 dX4_invoice_105 ?_
    exact gh_iret hx hb hr hlocks hw hP hS (Nat.le_of_ble_eq_true rfl) (Nat.le_of_ble_eq_true rfl) dX4_invoice_108
  · replace hw := hw.2 c14
    exact vx_throwS (own := "OwnerLedger") (cls := "java/lang/IllegalStateException") (names := ["java/lang/RuntimeException", "java/lang/Exception"]) hx hb hl0 hown (by decide +kernel) (by decide +kernel) (hts _ (gT_up kw_113)) (hts _ (gT_up kw_7)) (gh_str hE (own := "OwnerLedger") (k := 161) (tx := "the owner is held") (by decide)) (gh_hat3 hts hE) gh_got3 hE.1 hE.2.1 hS (hl.1.trans hml.symm) dX4_invoice_33 dX4_invoice_36 dX4_invoice_37 dX4_invoice_39 dX4_invoice_42 (hno _) (Nat.le_of_ble_eq_true rfl) (Nat.le_of_ble_eq_true rfl) (Nat.le_of_ble_eq_true rfl) (Nat.le_of_ble_eq_true rfl) hlocks (gh_thrown hP hS hw) hS.2.2 (Nat.le_of_ble_eq_true rfl) (Nat.le_of_ble_eq_true rfl)
