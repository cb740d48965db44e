abbrev rmX4_findBatch : Room := { frames := 6, cells := 1, slots := 6, locals := 82 }
abbrev cxX4_findBatch (p : Program) (s : State) (m : MethodId) (args : Array Value) (meth : Method) (c : Code) (D : va_G) (AC : Nat → ClassId) (sa : gh_SA) (A : Nat → Prop) : Prop := CallFix p m c prog_1_method_30_code 3 s args wsX4_findBatch "OwnerLedger" ∧ meth.sig.returnType = (some (.object "OwnerLedger$Batch")) ∧ meth.locks = false ∧ c.exceptionTable.toList = [] ∧ va_K D vwCl (gh_ty AC) s ∧ gh_En sa A s s.heap ∧ (∀ q, s.heap.size ≤ q → A q)
def wX4_findBatch_26 (post : Option Nat → gh_H → Prop) (px : String → gh_H → Prop) (G : gh_H) (s0 : Option Nat) : Prop := (s0 = none → (px "java/util/NoSuchElementException" G)) ∧ (∀ a1 : Nat, s0 = some a1 → (post (some a1) G))
set_option maxRecDepth 100000 in
set_option maxHeartbeats 4000000 in
theorem lX4_findBatch_26 {p : Program} {l : Launch} {e : Env} {s : State} {m : MethodId} {args : Array Value} {below : List Frame} {meth : Method} {c : Code} {D : va_G} {AC : Nat → ClassId} {sa : gh_SA} {A : Nat → Prop} (hl0 : l.stackTraces = false) (CX : cxX4_findBatch p s m args meth c D AC sa A) (post : Option Nat → gh_H → Prop) (px : String → gh_H → Prop) : ∀ (G : gh_H) (s0 : Option Nat) (H : Heap) (locs : List Loc), wX4_findBatch_26 post px G s0 → gh_h D vwCl AC A G H → va_S A s.heap H locs → ∀ ls : Array Slot, lv_has ls 3 [] → W p l e rmX4_findBatch s m args below meth c H locs 0 0 (vx_MQ below (va_Qq post (gh_B D vwCl AC A) A) (gh_X D vwCl AC px A) args s 1 6 A) (F0 m 26 ls [va_rf s0]) := by
  obtain ⟨⟨hx, hb, hml, hown, hts⟩, hr, hlocks, htb, hK, hE, hA⟩ := id CX
  have hno : ∀ (pc : Nat), ∀ x ∈ c.exceptionTable.toList, covers x pc = false := by rw [htb]; intro _ _ h; cases h
  intro G s0 H locs hw hP hS ls hl
  dsimp only [wX4_findBatch_26] at hw
  refine gh_astore_n (lv' := [(2, va_rf s0)]) hx hb dX4_findBatch_26 rfl hl (by decide) rfl (fun ls hl => ?_)
  refine gh_aload_n hx hb dX4_findBatch_27 rfl (lv_at hl 0 rfl) ?_
  rcases s0 with _ | a1
  · replace hw := hw.1 rfl
    have hl : lv_has ls 3 [(2, .null)] := hl
    refine lv_ifnonnullN hx hb dX4_findBatch_28 ?_
    exact gx_throwSXW (own := "OwnerLedger") (cls := "java/util/NoSuchElementException") (names := ["java/lang/RuntimeException", "java/lang/Exception"]) hx hb hl0 gx_n0 gx_n1 gx_n2 gx_n5 hown (by decide +kernel) (by decide +kernel) (hts _ (gT_up kw_83)) (hts _ (gT_up kw_5)) (gh_str hE (own := "OwnerLedger") (k := 260) (tx := "there is no such batch") (by decide)) (gh_hat1 hts hE) gh_got1 hE.1 hE.2.1 hS (hl.1.trans hml.symm) dX4_findBatch_31 dX4_findBatch_34 dX4_findBatch_35 dX4_findBatch_38 dX4_findBatch_41 (hno _) (Nat.le_of_ble_eq_true rfl) (Nat.le_of_ble_eq_true rfl) (Nat.le_of_ble_eq_true rfl) (Nat.le_of_ble_eq_true rfl) hlocks (gh_thrown hP hS hw) hS.2.2 (Nat.le_of_ble_eq_true rfl) (Nat.le_of_ble_eq_true rfl)
  · replace hw := hw.2 a1 rfl
    have hl : lv_has ls 3 [(2, .ref a1)] := hl
    refine lv_ifnonnull (tgt := 42) hx hb dX4_findBatch_28 (by decide) ?_
    refine lv_aload_n hx hb dX4_findBatch_42 rfl (lv_at hl 0 rfl) ?_
    exact gh_aret (o := (some a1)) hx hb hr hlocks hw hP hS (Nat.le_of_ble_eq_true rfl) (Nat.le_of_ble_eq_true rfl) dX4_findBatch_43
def wX4_findBatch (post : Option Nat → gh_H → Prop) (px : String → gh_H → Prop) (G : gh_H) (t : Nat) (p0 : Int32) : Prop := (p0 < 1 → (wX4_findBatch_26 post px G none)) ∧ (¬ p0 < 1 → (∃ (fs2 : List Value) (x5 : Nat), G t = some (.inr (4, fs2)) ∧ fs2[2]? = some (.ref x5) ∧ (∃ (k6 : Nat) (n7 : vp_A), G x5 = some (.inl (k6, n7)) ∧ k6 < 7 ∧ ((p0 ≤ (Int32.ofNat n7.1) → (∃ (fs12 : List Value) (x15 : Nat), G t = some (.inr (4, fs12)) ∧ fs12[2]? = some (.ref x15) ∧ (∃ (k20 n16 : Nat) (f17 : Nat → Option Nat), G x15 = some (.inl (k20, n16, .inr (.inr (.inr (.inr f17))))) ∧ gh_isq k20 = true ∧ vp_in (p0 - 1) n16 ∧ (∀ o22 : Option Nat, o22 = f17 (Int32.toNatClampNeg (p0 - 1)) → wX4_findBatch_26 post px G o22)))) ∧ (¬ p0 ≤ (Int32.ofNat n7.1) → (wX4_findBatch_26 post px G none))))))
set_option maxRecDepth 100000 in
set_option maxHeartbeats 4000000 in
theorem mX4_findBatch (l : Launch) (hl0 : l.stackTraces = false) (D : va_G) (AC : Nat → ClassId) (sa : gh_SA) (t : Nat) (p0 : Int32) (post : Option Nat → gh_H → Prop) (px : String → gh_H → Prop) (G : gh_H) (sz : Nat) (hw : wX4_findBatch post px G t p0) : vx_Met l yX4_findBatch wsX4_findBatch rmX4_findBatch (gh_Pc D vwCl AC (gh_ty AC) (gh_En sa) G sz [.ref t, .int p0]) (va_Qq post (gh_B D vwCl AC (gh_A G sz)) (gh_A G sz)) (gh_X D vwCl AC px (gh_A G sz)) 1 6 (gh_A G sz) := by
  refine vx_ofW (cc := prog_1_method_30_code) (maxL := 3) (ret := (some (.object "OwnerLedger$Batch"))) (by decide) rfl ?_
  intro p e s m args below meth c s₁ B hml hnoh hv
  obtain ⟨rfl, hsz, hP, hK, hE⟩ := hv
  have hx := B.exec
  have hb := B.bytes
  have hr := B.returns
  have hts := atoms_spec (ws := wsX4_findBatch) B.pre
  have hown : s.vm.findClass "OwnerLedger" = some m.cls := findClass_of_methodNamed B.named
  have hlocks := B.notSynchronized
  have htb : c.exceptionTable.toList = [] := List.eq_nil_iff_forall_not_mem.mpr hnoh
  subst hsz
  have hA : ∀ q, s.heap.size ≤ q → gh_A G s.heap.size q := fun q h => Or.inr h
  generalize gh_A G s.heap.size = A at hP hE hA ⊢
  have hno : ∀ (pc : Nat), ∀ x ∈ c.exceptionTable.toList, covers x pc = false := by rw [htb]; intro _ _ h; cases h
  have CX : cxX4_findBatch p s m [.ref t, .int p0].toArray meth c D AC sa A := ⟨⟨hx, hb, hml, hown, hts⟩, hr, hlocks, htb, hK, hE, hA⟩
  have hS : va_S A s.heap s.heap [] := va_S.rf
  have hl := lv_entry ([.ref t, .int p0]) (n := 3) (Nat.le_of_ble_eq_true rfl)
  rw [lg_entry_eq]
  generalize (lg_sl ([.ref t, .int p0]) ++ List.replicate (3 - (lg_sl ([.ref t, .int p0])).length) Slot.unset).toArray = ls at hl ⊢
  have hl : lv_has ls 3 [(0, .ref t), (1, .int p0)] := hl
  dsimp only [wX4_findBatch] at hw
  refine lv_iload_n hx hb dX4_findBatch_0 rfl (lv_at hl 1 rfl) ?_
  refine lv_iconst (v := 1) hx hb dX4_findBatch_1 (by decide) ?_
  refine lv_icmp_lt (tgt := 14) hx hb dX4_findBatch_2 (by decide) (fun c1 => ?_) (fun c1 => ?_)
  · replace hw := hw.1 c1
    refine lv_null hx hb dX4_findBatch_14 ?_
    refine lv_goto (tgt := 26) hx hb dX4_findBatch_15 (by decide) ?_
    have hl := lv_sub (l' := []) hl [] rfl
    exact lX4_findBatch_26 hl0 CX post px _ none _ _ hw hP hS ls hl
  · replace hw := hw.2 c1
    refine lv_iload_n hx hb dX4_findBatch_5 rfl (lv_at hl 1 rfl) ?_
    refine lv_aload_n hx hb dX4_findBatch_6 rfl (lv_at hl 0 rfl) ?_
    obtain ⟨fs2, x5, he3, hv4, hw⟩ := hw
    refine gh_get (ci := 4) (v := .ref x5) (C := "OwnerLedger") (T := TX4) (N := 11) hx hb hts (fun w h => gT_up (inX4 w h)) hown hK hP he3 rfl 2 (by decide) (hts _ (gT_up kw_25)) (fun _ h9 => h9) hv4 dX4_findBatch_7 ?_
    obtain ⟨k6, n7, he9, hk10, hw⟩ := hw
    obtain ⟨ty9, ht9⟩ := gh_tyat AC hk10
    refine gh_alen hx hb hK hP he9 ht9 rfl dX4_findBatch_10 ?_
    refine lv_icmp_le (tgt := 18) hx hb dX4_findBatch_11 (by decide) (fun c11 => ?_) (fun c11 => ?_)
    · replace hw := hw.1 c11
      refine lv_aload_n hx hb dX4_findBatch_18 rfl (lv_at hl 0 rfl) ?_
      obtain ⟨fs12, x15, he13, hv14, hw⟩ := hw
      refine gh_get (ci := 4) (v := .ref x15) (C := "OwnerLedger") (T := TX4) (N := 11) hx hb hts (fun w h => gT_up (inX4 w h)) hown hK hP he13 rfl 2 (by decide) (hts _ (gT_up kw_25)) (fun _ h9 => h9) hv14 dX4_findBatch_19 ?_
      refine lv_iload_n hx hb dX4_findBatch_22 rfl (lv_at hl 1 rfl) ?_
      refine lv_iconst (v := 1) hx hb dX4_findBatch_23 (by decide) ?_
      refine lv_isub hx hb dX4_findBatch_24 ?_
      obtain ⟨k20, n16, f17, he18, hk21, hi19, hw⟩ := hw
      obtain ⟨C9, ht9⟩ := gh_tyq AC hk21
      refine gh_aald hx hb hK hP he18 ht9 hi19 dX4_findBatch_25 ?_
      obtain ⟨o22, eo23⟩ : ∃ z : Option Nat, z = f17 (Int32.toNatClampNeg (p0 - 1)) := ⟨_, rfl⟩
      rw [← eo23]
      replace hw := hw o22 eo23
      have hl := lv_sub (l' := []) hl [] rfl
      exact lX4_findBatch_26 hl0 CX post px _ o22 _ _ hw hP hS ls hl
    · replace hw := hw.2 c11
      refine lv_null hx hb dX4_findBatch_14 ?_
      refine lv_goto (tgt := 26) hx hb dX4_findBatch_15 (by decide) ?_
      have hl := lv_sub (l' := []) hl [] rfl
      exact lX4_findBatch_26 hl0 CX post px _ none _ _ hw hP hS ls hl
abbrev rmX4_currencyOf : Room := { frames := 6, cells := 1, slots := 6, locals := 82 }
abbrev cxX4_currencyOf (p : Program) (s : State) (m : MethodId) (args : Array Value) (meth : Method) (c : Code) (D : va_G) (AC : Nat → ClassId) (sa : gh_SA) (A : Nat → Prop) : Prop := CallFix p m c prog_1_method_29_code 2 s args wsX4_currencyOf "OwnerLedger" ∧ meth.sig.returnType = (some .int) ∧ meth.locks = false ∧ c.exceptionTable.toList = [] ∧ va_K D vwCl (gh_ty AC) s ∧ gh_En sa A s s.heap ∧ (∀ q, s.heap.size ≤ q → A q)
def wX4_currencyOf (post : Int32 → gh_H → Prop) (px : String → gh_H → Prop) (G : gh_H) (t : Nat) (p0 : Int32) : Prop := (p0 < 0 → (px "java/util/NoSuchElementException" G)) ∧ (¬ p0 < 0 → (∃ (fs2 : List Value) (x5 : Int32), G t = some (.inr (4, fs2)) ∧ fs2[5]? = some (.int x5) ∧ ((x5 ≤ p0 → (px "java/util/NoSuchElementException" G)) ∧ (¬ x5 ≤ p0 → (∃ (fs7 : List Value) (x10 : Nat), G t = some (.inr (4, fs7)) ∧ fs7[1]? = some (.ref x10) ∧ (∃ (k11 : Nat) (n12 : vp_A), G x10 = some (.inl (k11, n12)) ∧ k11 < 7 ∧ ((p0 < (Int32.ofNat n12.1) → (∃ (fs17 : List Value) (x20 : Nat), G t = some (.inr (4, fs17)) ∧ fs17[1]? = some (.ref x20) ∧ (∃ (n21 : Nat) (f22 : Nat → Int32), G x20 = some (.inl (0, n21, .inl f22)) ∧ vp_in p0 n21 ∧ (post (f22 (Int32.toNatClampNeg p0)) G)))) ∧ (¬ p0 < (Int32.ofNat n12.1) → (px "java/util/NoSuchElementException" G)))))))))
set_option maxRecDepth 100000 in
set_option maxHeartbeats 4000000 in
theorem mX4_currencyOf (l : Launch) (hl0 : l.stackTraces = false) (D : va_G) (AC : Nat → ClassId) (sa : gh_SA) (t : Nat) (p0 : Int32) (post : Int32 → gh_H → Prop) (px : String → gh_H → Prop) (G : gh_H) (sz : Nat) (hw : wX4_currencyOf post px G t p0) : vx_Met l yX4_currencyOf wsX4_currencyOf rmX4_currencyOf (gh_Pc D vwCl AC (gh_ty AC) (gh_En sa) G sz [.ref t, .int p0]) (va_Qi post (gh_B D vwCl AC (gh_A G sz)) (gh_A G sz)) (gh_X D vwCl AC px (gh_A G sz)) 1 6 (gh_A G sz) := by
  refine vx_ofW (cc := prog_1_method_29_code) (maxL := 2) (ret := (some .int)) (by decide) rfl ?_
  intro p e s m args below meth c s₁ B hml hnoh hv
  obtain ⟨rfl, hsz, hP, hK, hE⟩ := hv
  have hx := B.exec
  have hb := B.bytes
  have hr := B.returns
  have hts := atoms_spec (ws := wsX4_currencyOf) B.pre
  have hown : s.vm.findClass "OwnerLedger" = some m.cls := findClass_of_methodNamed B.named
  have hlocks := B.notSynchronized
  have htb : c.exceptionTable.toList = [] := List.eq_nil_iff_forall_not_mem.mpr hnoh
  subst hsz
  have hA : ∀ q, s.heap.size ≤ q → gh_A G s.heap.size q := fun q h => Or.inr h
  generalize gh_A G s.heap.size = A at hP hE hA ⊢
  have hno : ∀ (pc : Nat), ∀ x ∈ c.exceptionTable.toList, covers x pc = false := by rw [htb]; intro _ _ h; cases h
  have CX : cxX4_currencyOf p s m [.ref t, .int p0].toArray meth c D AC sa A := ⟨⟨hx, hb, hml, hown, hts⟩, hr, hlocks, htb, hK, hE, hA⟩
  have hS : va_S A s.heap s.heap [] := va_S.rf
  have hl := lv_entry ([.ref t, .int p0]) (n := 2) (Nat.le_of_ble_eq_true rfl)
  rw [lg_entry_eq]
  generalize (lg_sl ([.ref t, .int p0]) ++ List.replicate (2 - (lg_sl ([.ref t, .int p0])).length) Slot.unset).toArray = ls at hl ⊢
  have hl : lv_has ls 2 [(0, .ref t), (1, .int p0)] := hl
  dsimp only [wX4_currencyOf] at hw
  refine lv_iload_n hx hb dX4_currencyOf_0 rfl (lv_at hl 1 rfl) ?_
  refine lv_if_lt (tgt := 21) hx hb dX4_currencyOf_1 (by decide) (fun c1 => ?_) (fun c1 => ?_)
  · replace hw := hw.1 c1
    exact gx_throwSXW (own := "OwnerLedger") (cls := "java/util/NoSuchElementException") (names := ["java/lang/RuntimeException", "java/lang/Exception"]) hx hb hl0 gx_n0 gx_n1 gx_n2 gx_n5 hown (by decide +kernel) (by decide +kernel) (hts _ (gT_up kw_83)) (hts _ (gT_up kw_5)) (gh_str hE (own := "OwnerLedger") (k := 258) (tx := "there is no such account") (by decide)) (gh_hat1 hts hE) gh_got1 hE.1 hE.2.1 hS (hl.1.trans hml.symm) dX4_currencyOf_21 dX4_currencyOf_24 dX4_currencyOf_25 dX4_currencyOf_28 dX4_currencyOf_31 (hno _) (Nat.le_of_ble_eq_true rfl) (Nat.le_of_ble_eq_true rfl) (Nat.le_of_ble_eq_true rfl) (Nat.le_of_ble_eq_true rfl) hlocks (gh_thrown hP hS hw) hS.2.2 (Nat.le_of_ble_eq_true rfl) (Nat.le_of_ble_eq_true rfl)
  · replace hw := hw.2 c1
    refine lv_iload_n hx hb dX4_currencyOf_4 rfl (lv_at hl 1 rfl) ?_
    refine lv_aload_n hx hb dX4_currencyOf_5 rfl (lv_at hl 0 rfl) ?_
    obtain ⟨fs2, x5, he3, hv4, hw⟩ := hw
    refine gh_get (ci := 4) (v := .int x5) (C := "OwnerLedger") (T := TX4) (N := 11) hx hb hts (fun w h => gT_up (inX4 w h)) hown hK hP he3 rfl 5 (by decide) (hts _ (gT_up kw_28)) (fun _ h9 => h9) hv4 dX4_currencyOf_6 ?_
    refine lv_icmp_ge (tgt := 21) hx hb dX4_currencyOf_9 (by decide) (fun c6 => ?_) (fun c6 => ?_)
    · replace hw := hw.1 c6
      exact gx_throwSXW (own := "OwnerLedger") (cls := "java/util/NoSuchElementException") (names := ["java/lang/RuntimeException", "java/lang/Exception"]) hx hb hl0 gx_n0 gx_n1 gx_n2 gx_n5 hown (by decide +kernel) (by decide +kernel) (hts _ (gT_up kw_83)) (hts _ (gT_up kw_5)) (gh_str hE (own := "OwnerLedger") (k := 258) (tx := "there is no such account") (by decide)) (gh_hat1 hts hE) gh_got1 hE.1 hE.2.1 hS (hl.1.trans hml.symm) dX4_currencyOf_21 dX4_currencyOf_24 dX4_currencyOf_25 dX4_currencyOf_28 dX4_currencyOf_31 (hno _) (Nat.le_of_ble_eq_true rfl) (Nat.le_of_ble_eq_true rfl) (Nat.le_of_ble_eq_true rfl) (Nat.le_of_ble_eq_true rfl) hlocks (gh_thrown hP hS hw) hS.2.2 (Nat.le_of_ble_eq_true rfl) (Nat.le_of_ble_eq_true rfl)
    · replace hw := hw.2 c6
      refine lv_iload_n hx hb dX4_currencyOf_12 rfl (lv_at hl 1 rfl) ?_
      refine lv_aload_n hx hb dX4_currencyOf_13 rfl (lv_at hl 0 rfl) ?_
      obtain ⟨fs7, x10, he8, hv9, hw⟩ := hw
      refine gh_get (ci := 4) (v := .ref x10) (C := "OwnerLedger") (T := TX4) (N := 11) hx hb hts (fun w h => gT_up (inX4 w h)) hown hK hP he8 rfl 1 (by decide) (hts _ (gT_up kw_24)) (fun _ h9 => h9) hv9 dX4_currencyOf_14 ?_
      obtain ⟨k11, n12, he14, hk15, hw⟩ := hw
      obtain ⟨ty9, ht9⟩ := gh_tyat AC hk15
      refine gh_alen hx hb hK hP he14 ht9 rfl dX4_currencyOf_17 ?_
      refine lv_icmp_lt (tgt := 32) hx hb dX4_currencyOf_18 (by decide) (fun c16 => ?_) (fun c16 => ?_)
      · replace hw := hw.1 c16
        refine lv_aload_n hx hb dX4_currencyOf_32 rfl (lv_at hl 0 rfl) ?_
        obtain ⟨fs17, x20, he18, hv19, hw⟩ := hw
        refine gh_get (ci := 4) (v := .ref x20) (C := "OwnerLedger") (T := TX4) (N := 11) hx hb hts (fun w h => gT_up (inX4 w h)) hown hK hP he18 rfl 1 (by decide) (hts _ (gT_up kw_24)) (fun _ h9 => h9) hv19 dX4_currencyOf_33 ?_
        refine lv_iload_n hx hb dX4_currencyOf_36 rfl (lv_at hl 1 rfl) ?_
        obtain ⟨n21, f22, he23, hi24, hw⟩ := hw
        refine gh_iald hx hb hK hP he23 rfl hi24 dX4_currencyOf_37 ?_
        exact gh_iret hx hb hr hlocks hw hP hS (Nat.le_of_ble_eq_true rfl) (Nat.le_of_ble_eq_true rfl) dX4_currencyOf_38
      · replace hw := hw.2 c16
        exact gx_throwSXW (own := "OwnerLedger") (cls := "java/util/NoSuchElementException") (names := ["java/lang/RuntimeException", "java/lang/Exception"]) hx hb hl0 gx_n0 gx_n1 gx_n2 gx_n5 hown (by decide +kernel) (by decide +kernel) (hts _ (gT_up kw_83)) (hts _ (gT_up kw_5)) (gh_str hE (own := "OwnerLedger") (k := 258) (tx := "there is no such account") (by decide)) (gh_hat1 hts hE) gh_got1 hE.1 hE.2.1 hS (hl.1.trans hml.symm) dX4_currencyOf_21 dX4_currencyOf_24 dX4_currencyOf_25 dX4_currencyOf_28 dX4_currencyOf_31 (hno _) (Nat.le_of_ble_eq_true rfl) (Nat.le_of_ble_eq_true rfl) (Nat.le_of_ble_eq_true rfl) (Nat.le_of_ble_eq_true rfl) hlocks (gh_thrown hP hS hw) hS.2.2 (Nat.le_of_ble_eq_true rfl) (Nat.le_of_ble_eq_true rfl)
abbrev rmX4_requireOpen : Room := { frames := 6, cells := 1, slots := 6, locals := 82 }
abbrev cxX4_requireOpen (p : Program) (s : State) (m : MethodId) (args : Array Value) (meth : Method) (c : Code) (D : va_G) (AC : Nat → ClassId) (sa : gh_SA) (A : Nat → Prop) : Prop := CallFix p m c prog_1_method_27_code 1 s args wsX4_requireOpen "OwnerLedger" ∧ meth.sig.returnType = none ∧ meth.locks = false ∧ c.exceptionTable.toList = [] ∧ va_K D vwCl (gh_ty AC) s ∧ gh_En sa A s s.heap ∧ (∀ q, s.heap.size ≤ q → A q)
def wX4_requireOpen (post : gh_H → Prop) (px : String → gh_H → Prop) (G : gh_H) (p0 : Nat) : Prop := ∃ (fs1 : List Value) (x4 : Int32), G p0 = some (.inr (0, fs1)) ∧ fs1[3]? = some (.int x4) ∧ ((x4 = 0 → (post G)) ∧ (¬ x4 = 0 → (px "java/lang/IllegalStateException" G)))
set_option maxRecDepth 100000 in
set_option maxHeartbeats 4000000 in
theorem mX4_requireOpen (l : Launch) (hl0 : l.stackTraces = false) (D : va_G) (AC : Nat → ClassId) (sa : gh_SA) (p0 : Nat) (post : gh_H → Prop) (px : String → gh_H → Prop) (G : gh_H) (sz : Nat) (hw : wX4_requireOpen post px G p0) : vx_Met l yX4_requireOpen wsX4_requireOpen rmX4_requireOpen (gh_Pc D vwCl AC (gh_ty AC) (gh_En sa) G sz [.ref p0]) (va_Qv post (gh_B D vwCl AC (gh_A G sz)) (gh_A G sz)) (gh_X D vwCl AC px (gh_A G sz)) 1 6 (gh_A G sz) := by
  refine vx_ofW (cc := prog_1_method_27_code) (maxL := 1) (ret := none) (by decide) rfl ?_
  intro p e s m args below meth c s₁ B hml hnoh hv
  obtain ⟨rfl, hsz, hP, hK, hE⟩ := hv
  have hx := B.exec
  have hb := B.bytes
  have hr := B.returns
  have hts := atoms_spec (ws := wsX4_requireOpen) B.pre
  have hown : s.vm.findClass "OwnerLedger" = some m.cls := findClass_of_methodNamed B.named
  have hlocks := B.notSynchronized
  have htb : c.exceptionTable.toList = [] := List.eq_nil_iff_forall_not_mem.mpr hnoh
  subst hsz
  have hA : ∀ q, s.heap.size ≤ q → gh_A G s.heap.size q := fun q h => Or.inr h
  generalize gh_A G s.heap.size = A at hP hE hA ⊢
  have hno : ∀ (pc : Nat), ∀ x ∈ c.exceptionTable.toList, covers x pc = false := by rw [htb]; intro _ _ h; cases h
  have CX : cxX4_requireOpen p s m [.ref p0].toArray meth c D AC sa A := ⟨⟨hx, hb, hml, hown, hts⟩, hr, hlocks, htb, hK, hE, hA⟩
  have hS : va_S A s.heap s.heap [] := va_S.rf
  have hl := lv_entry ([.ref p0]) (n := 1) (Nat.le_of_ble_eq_true rfl)
  rw [lg_entry_eq]
  generalize (lg_sl ([.ref p0]) ++ List.replicate (1 - (lg_sl ([.ref p0])).length) Slot.unset).toArray = ls at hl ⊢
  have hl : lv_has ls 1 [(0, .ref p0)] := hl
  dsimp only [wX4_requireOpen] at hw
  refine lv_aload_n hx hb dX4_requireOpen_0 rfl (lv_at hl 0 rfl) ?_
  obtain ⟨fs1, x4, he2, hv3, hw⟩ := hw
  refine gh_get (ci := 0) (v := .int x4) (C := "OwnerLedger$Batch") (T := TX0) (N := 6) hx hb hts (fun w h => gT_up (inX0 w h)) hown hK hP he2 rfl 3 (by decide) (hts _ (gT_up kw_138)) (fun _ h9 => h9) hv3 dX4_requireOpen_1 ?_
  refine lv_if_eq (tgt := 17) hx hb dX4_requireOpen_4 (by decide) (fun c5 => ?_) (fun c5 => ?_)
  · replace hw := hw.1 c5
    exact gh_vret hx hb hr hlocks hw hP hS (Nat.le_of_ble_eq_true rfl) (Nat.le_of_ble_eq_true rfl) dX4_requireOpen_17
  · replace hw := hw.2 c5
    exact vx_throwS (own := "OwnerLedger") (cls := "java/lang/IllegalStateException") (names := ["java/lang/RuntimeException", "java/lang/Exception"]) hx hb hl0 hown (by decide +kernel) (by decide +kernel) (hts _ (gT_up kw_113)) (hts _ (gT_up kw_7)) (gh_str hE (own := "OwnerLedger") (k := 251) (tx := "the batch is not open") (by decide)) (gh_hat3 hts hE) gh_got3 hE.1 hE.2.1 hS (hl.1.trans hml.symm) dX4_requireOpen_7 dX4_requireOpen_10 dX4_requireOpen_11 dX4_requireOpen_13 dX4_requireOpen_16 (hno _) (Nat.le_of_ble_eq_true rfl) (Nat.le_of_ble_eq_true rfl) (Nat.le_of_ble_eq_true rfl) (Nat.le_of_ble_eq_true rfl) hlocks (gh_thrown hP hS hw) hS.2.2 (Nat.le_of_ble_eq_true rfl) (Nat.le_of_ble_eq_true rfl)
abbrev rmX4_row : Room := { frames := 8, cells := 6, slots := 34, locals := 124 }
abbrev cxX4_row (p : Program) (s : State) (m : MethodId) (args : Array Value) (meth : Method) (c : Code) (D : va_G) (AC : Nat → ClassId) (sa : gh_SA) (A : Nat → Prop) : Prop := CallFix p m c prog_1_method_7_code 7 s args wsX4_row "OwnerLedger" ∧ meth.sig.returnType = (some .int) ∧ meth.locks = false ∧ c.exceptionTable.toList = [] ∧ va_K D vwCl (gh_ty AC) s ∧ gh_En sa A s s.heap ∧ (∀ q, s.heap.size ≤ q → A q)
def wX4_row (post : Int32 → gh_H → Prop) (px : String → gh_H → Prop) (G : gh_H) (t : Nat) (p0 : Int32) (p1 : Int32) (p2 : Int64) : Prop := ∃ fs3 : List Value, G t = some (.inr (4, fs3)) ∧ wX4_findBatch (fun r1 G2 => ∃ fs7 : List Value, G2 t = some (.inr (4, fs7)) ∧ wX4_currencyOf (fun r5 G6 => wX4_requireRange (fun G10 => (¬ (lg_cmp p2 0) = 0 → (∃ a12 : Nat, r1 = some a12 ∧ wX4_requireOpen (fun G14 => ∀ q15 : Nat, G14 q15 = none → ∀ G16 : gh_H, G16 = gh_up G14 q15 (.inr (3, [.int 0, .int 0, .long 0, .int 0])) → wX3_init (fun G20 => ∃ fs23 : List Value, G20 a12 = some (.inr (0, fs23)) ∧ wX0_addRow (fun G22 => ∃ (fs25 : List Value) (x28 : Int32), G22 a12 = some (.inr (0, fs25)) ∧ fs25[2]? = some (.int x28) ∧ (post x28 G22)) px G20 a12 q15) px G16 q15 p1 r5 p2) px G10 a12)) ∧ ((lg_cmp p2 0) = 0 → (px "java/lang/IllegalArgumentException" G10))) px G6 p2 (-1000000000) 1000000000) px G2 t p1) px G t p0
set_option maxRecDepth 100000 in
set_option maxHeartbeats 4000000 in
theorem mX4_row (l : Launch) (hl0 : l.stackTraces = false) (D : va_G) (AC : Nat → ClassId) (sa : gh_SA) (t : Nat) (p0 : Int32) (p1 : Int32) (p2 : Int64) (post : Int32 → gh_H → Prop) (px : String → gh_H → Prop) (G : gh_H) (sz : Nat) (hw : wX4_row post px G t p0 p1 p2) : vx_Met l yX4_row wsX4_row rmX4_row (gh_Pc D vwCl AC (gh_ty AC) (gh_En sa) G sz [.ref t, .int p0, .int p1, .long p2]) (va_Qi post (gh_B D vwCl AC (gh_A G sz)) (gh_A G sz)) (gh_X D vwCl AC px (gh_A G sz)) 6 34 (gh_A G sz) := by
  refine vx_ofW (cc := prog_1_method_7_code) (maxL := 7) (ret := (some .int)) (by decide) rfl ?_
  intro p e s m args below meth c s₁ B hml hnoh hv
  obtain ⟨rfl, hsz, hP, hK, hE⟩ := hv
  have hx := B.exec
  have hb := B.bytes
  have hr := B.returns
  have hts := atoms_spec (ws := wsX4_row) B.pre
  have hown : s.vm.findClass "OwnerLedger" = some m.cls := findClass_of_methodNamed B.named
  have hlocks := B.notSynchronized
  have htb : c.exceptionTable.toList = [] := List.eq_nil_iff_forall_not_mem.mpr hnoh
  subst hsz
  have hA : ∀ q, s.heap.size ≤ q → gh_A G s.heap.size q := fun q h => Or.inr h
  generalize gh_A G s.heap.size = A at hP hE hA ⊢
  have hno : ∀ (pc : Nat), ∀ x ∈ c.exceptionTable.toList, covers x pc = false := by rw [htb]; intro _ _ h; cases h
  have CX : cxX4_row p s m [.ref t, .int p0, .int p1, .long p2].toArray meth c D AC sa A := ⟨⟨hx, hb, hml, hown, hts⟩, hr, hlocks, htb, hK, hE, hA⟩
  have hS : va_S A s.heap s.heap [] := va_S.rf
  have hl := lv_entry ([.ref t, .int p0, .int p1, .long p2]) (n := 7) (Nat.le_of_ble_eq_true rfl)
  rw [lg_entry_eq]
  generalize (lg_sl ([.ref t, .int p0, .int p1, .long p2]) ++ List.replicate (7 - (lg_sl ([.ref t, .int p0, .int p1, .long p2])).length) Slot.unset).toArray = ls at hl ⊢
  have hl : lv_has ls 7 [(0, .ref t), (1, .int p0), (2, .int p1), (3, .long p2)] := hl
  dsimp only [wX4_row] at hw
  refine lv_aload_n hx hb dX4_row_0 rfl (lv_at hl 0 rfl) ?_
  refine lv_iload_n hx hb dX4_row_1 rfl (lv_at hl 1 rfl) ?_
  obtain ⟨fs3, he4, hw⟩ := hw
  refine gh_cq hlocks (hno _) (vx_runV (C := "OwnerLedger") (As := [.int p0]) (rest := []) ⟨hx, hb, hml, hown, hts⟩ (mX4_findBatch l hl0 D AC sa _ _ _ _ _ _ hw) (cwV 1 hts (gV kw_151 kw_152 kw_535 kw_1 kw_153) rfl rfl rfl (by decide +kernel) ⟨Nat.le_of_ble_eq_true rfl, Nat.le_of_ble_eq_true rfl⟩) (gh_preV gh_En_ok hK hE hP hS hA he4 rfl _) rfl rfl hl.1 rfl (lv_room (Nat.le_of_ble_eq_true rfl)) dX4_row_2 ⟨Nat.le_of_ble_eq_true rfl, Nat.le_of_ble_eq_true rfl⟩) hP hS hA (Nat.le_of_ble_eq_true rfl) (Nat.le_of_ble_eq_true rfl) (fun r1 G2 H locs hw2 hP hS => ?_)
  replace hw := hw2
  clear hw2
  refine gh_astore (lv' := [(5, va_rf r1), (0, .ref t), (1, .int p0), (2, .int p1), (3, .long p2)]) hx hb dX4_row_5 hl (by decide) rfl (fun ls hl => ?_)
  refine lv_aload_n hx hb dX4_row_7 rfl (lv_at hl 1 rfl) ?_
  refine lv_iload_n hx hb dX4_row_8 rfl (lv_at hl 3 rfl) ?_
  obtain ⟨fs7, he8, hw⟩ := hw
  refine gh_ci hlocks (hno _) (vx_runV (C := "OwnerLedger") (As := [.int p1]) (rest := []) ⟨hx, hb, hml, hown, hts⟩ (mX4_currencyOf l hl0 D AC sa _ _ _ _ _ _ hw) (cwV 1 hts (gV kw_154 kw_155 kw_536 kw_1 kw_156) rfl rfl rfl (by decide +kernel) ⟨Nat.le_of_ble_eq_true rfl, Nat.le_of_ble_eq_true rfl⟩) (gh_preV gh_En_ok hK hE hP hS hA he8 rfl _) rfl rfl hl.1 rfl (lv_room (Nat.le_of_ble_eq_true rfl)) dX4_row_9 ⟨Nat.le_of_ble_eq_true rfl, Nat.le_of_ble_eq_true rfl⟩) hP hS hA (Nat.le_of_ble_eq_true rfl) (Nat.le_of_ble_eq_true rfl) (fun r5 G6 H locs hw2 hP hS => ?_)
  replace hw := hw2
  clear hw2
  refine lv_istore (lv' := [(6, .int r5), (5, va_rf r1), (0, .ref t), (1, .int p0), (2, .int p1), (3, .long p2)]) hx hb dX4_row_12 hl (by decide) (by cases r1 <;> rfl) (fun ls hl => ?_)
  refine lv_lload_n hx hb dX4_row_14 rfl (lv_at hl 5 rfl) ?_
  refine lv_ldc2 (v := (-1000000000)) hx hb hown (hts _ (gT_up kw_157)) dX4_row_15 ?_
  refine lv_ldc2 (v := 1000000000) hx hb hown (hts _ (gT_up kw_158)) dX4_row_18 ?_
  refine gh_cv_ hlocks (hno _) (vx_runS (As := [.long p2, .long (-1000000000), .long 1000000000]) (rest := []) ⟨hx, hb, hml, hown, hts⟩ (mX4_requireRange l hl0 D AC sa _ _ _ _ _ _ _ hw) (va_cwS 3 hts (gS kw_89 kw_90 kw_1 kw_91) rfl rfl rfl (by decide +kernel) ⟨Nat.le_of_ble_eq_true rfl, Nat.le_of_ble_eq_true rfl⟩) (gh_pre gh_En_ok hK hE hP hS hA _) rfl rfl hl.1 rfl (lv_room (Nat.le_of_ble_eq_true rfl)) dX4_row_21 ⟨Nat.le_of_ble_eq_true rfl, Nat.le_of_ble_eq_true rfl⟩) hP hS hA (Nat.le_of_ble_eq_true rfl) (Nat.le_of_ble_eq_true rfl) (fun G10 H locs hw2 hP hS => ?_)
  replace hw := hw2
  clear hw2
  refine lv_lload_n hx hb dX4_row_24 rfl (lv_at hl 5 rfl) ?_
  refine lv_lconst (v := 0) hx hb dX4_row_25 (by decide) ?_
  refine W.lcmp hx hb dX4_row_26 ?_
  refine lv_if_ne (tgt := 40) hx hb dX4_row_27 (by decide) (fun c11 => ?_) (fun c11 => ?_)
  · replace hw := hw.1 c11
    refine gh_aload hx hb dX4_row_40 (lv_at hl 1 rfl) ?_
    obtain ⟨a12, ea12, hw⟩ := hw
    subst ea12
    have hl : lv_has ls 7 [(6, .int r5), (5, .ref a12), (0, .ref t), (1, .int p0), (2, .int p1), (3, .long p2)] := hl
    refine gh_cv_ hlocks (hno _) (vx_runS (As := [.ref a12]) (rest := []) ⟨hx, hb, hml, hown, hts⟩ (mX4_requireOpen l hl0 D AC sa _ _ _ _ _ hw) (va_cwS 1 hts (gS kw_159 kw_160 kw_1 kw_161) rfl rfl rfl (by decide +kernel) ⟨Nat.le_of_ble_eq_true rfl, Nat.le_of_ble_eq_true rfl⟩) (gh_pre gh_En_ok hK hE hP hS hA _) rfl rfl hl.1 rfl (lv_room (Nat.le_of_ble_eq_true rfl)) dX4_row_42 ⟨Nat.le_of_ble_eq_true rfl, Nat.le_of_ble_eq_true rfl⟩) hP hS hA (Nat.le_of_ble_eq_true rfl) (Nat.le_of_ble_eq_true rfl) (fun G14 H locs hw2 hP hS => ?_)
    replace hw := hw2
    clear hw2
    refine lv_aload hx hb dX4_row_45 (lv_at hl 1 rfl) ?_
    refine gh_new (ci := 3) (fs := [.int 0, .int 0, .long 0, .int 0]) (C := "OwnerLedger$Row") (T := TX3) (N := 4) hx hb hts (fun w h => gT_up (inX3 w h)) tyX3 tyX3_ok hown (hts _ (gT_up kw_162)) (hts _ (gT_up kw_163)) (hts _ (gT_up kw_9)) hK hP hS hA rfl (fun j hj => by rcases (show j = 0 ∨ j = 1 ∨ j = 2 ∨ j = 3 by omega) with rfl | rfl | rfl | rfl <;> rfl) (Nat.le_of_ble_eq_true rfl) (Nat.le_of_ble_eq_true rfl) dX4_row_47 (fun q15 G16 H hq18 eG17 hP hS => ?_)
    replace hw := hw q15 hq18 G16 eG17
    refine lv_dup hx hb dX4_row_50 rfl ?_
    refine lv_iload_n hx hb dX4_row_51 rfl (lv_at hl 4 rfl) ?_
    refine lv_iload hx hb dX4_row_52 (lv_at hl 0 rfl) ?_
    refine lv_lload_n hx hb dX4_row_54 rfl (lv_at hl 5 rfl) ?_
    refine gh_cM (va_runI (As := [.int p1, .int r5, .long p2]) (rest := [.ref q15, .ref a12]) ⟨hx, hb, hml, hown, hts⟩ (mX3_init l hl0 D AC sa _ _ _ _ _ _ _ _ hw) (cwI 3 hts (gG kw_166) rfl rfl rfl (hts _ (gT_up kw_9)) (hts _ (gT_up kw_164)) (hts _ (gT_up kw_165)) rfl (by decide +kernel) ⟨Nat.le_of_ble_eq_true rfl, Nat.le_of_ble_eq_true rfl⟩) (gh_pre gh_En_ok hK hE hP hS hA _) rfl rfl hl.1 rfl (lv_room (Nat.le_of_ble_eq_true rfl)) dX4_row_55 ⟨Nat.le_of_ble_eq_true rfl, Nat.le_of_ble_eq_true rfl⟩) hP hS hA (fun G20 H locs hw2 hP hS => ?_)
    replace hw := hw2
    clear hw2
    obtain ⟨fs23, he24, hw⟩ := hw
    refine gh_cv_ hlocks (hno _) (vx_runV (C := "OwnerLedger$Batch") (As := [.ref q15]) (rest := []) ⟨hx, hb, hml, hown, hts⟩ (mX0_addRow l hl0 D AC sa _ _ _ _ _ _ hw) (cwV 1 hts (gV kw_176 kw_177 kw_178 kw_8 kw_179) rfl rfl rfl (by decide +kernel) ⟨Nat.le_of_ble_eq_true rfl, Nat.le_of_ble_eq_true rfl⟩) (gh_preV gh_En_ok hK hE hP hS hA he24 rfl _) rfl rfl hl.1 rfl (lv_room (Nat.le_of_ble_eq_true rfl)) dX4_row_58 ⟨Nat.le_of_ble_eq_true rfl, Nat.le_of_ble_eq_true rfl⟩) hP hS hA (Nat.le_of_ble_eq_true rfl) (Nat.le_of_ble_eq_true rfl) (fun G22 H locs hw2 hP hS => ?_)
    replace hw := hw2
    clear hw2
    refine lv_aload hx hb dX4_row_61 (lv_at hl 1 rfl) ?_
    obtain ⟨fs25, x28, he26, hv27, hw⟩ := hw
    refine gh_get (ci := 0) (v := .int x28) (C := "OwnerLedger$Batch") (T := TX0) (N := 6) hx hb hts (fun w h => gT_up (inX0 w h)) hown hK hP he26 rfl 2 (by decide) (hts _ (gT_up kw_136)) (fun _ h9 => h9) hv27 dX4_row_63 ?_
    exact gh_iret hx hb hr hlocks hw hP hS (Nat.le_of_ble_eq_true rfl) (Nat.le_of_ble_eq_true rfl) dX4_row_66
  · replace hw := hw.2 c11
    exact vx_throwS (own := "OwnerLedger") (cls := "java/lang/IllegalArgumentException") (names := ["java/lang/RuntimeException", "java/lang/Exception"]) hx hb hl0 hown (by decide +kernel) (by decide +kernel) (hts _ (gT_up kw_92)) (hts _ (gT_up kw_6)) (gh_str hE (own := "OwnerLedger") (k := 91) (tx := "a row of no cents") (by decide)) (gh_hat2 hts hE) gh_got2 hE.1 hE.2.1 hS (hl.1.trans hml.symm) dX4_row_30 dX4_row_33 dX4_row_34 dX4_row_36 dX4_row_39 (hno _) (Nat.le_of_ble_eq_true rfl) (Nat.le_of_ble_eq_true rfl) (Nat.le_of_ble_eq_true rfl) (Nat.le_of_ble_eq_true rfl) hlocks (gh_thrown hP hS hw) hS.2.2 (Nat.le_of_ble_eq_true rfl) (Nat.le_of_ble_eq_true rfl)
abbrev rmX4_findRow : Room := { frames := 6, cells := 1, slots := 6, locals := 82 }
abbrev cxX4_findRow (p : Program) (s : State) (m : MethodId) (args : Array Value) (meth : Method) (c : Code) (D : va_G) (AC : Nat → ClassId) (sa : gh_SA) (A : Nat → Prop) : Prop := CallFix p m c prog_1_method_31_code 3 s args wsX4_findRow "OwnerLedger" ∧ meth.sig.returnType = (some (.object "OwnerLedger$Row")) ∧ meth.locks = false ∧ c.exceptionTable.toList = [] ∧ va_K D vwCl (gh_ty AC) s ∧ gh_En sa A s s.heap ∧ (∀ q, s.heap.size ≤ q → A q)
def wX4_findRow_23 (post : Option Nat → gh_H → Prop) (px : String → gh_H → Prop) (G : gh_H) (s0 : Option Nat) : Prop := (s0 = none → (px "java/util/NoSuchElementException" G)) ∧ (∀ a1 : Nat, s0 = some a1 → (post (some a1) G))
set_option maxRecDepth 100000 in
set_option maxHeartbeats 4000000 in
theorem lX4_findRow_23 {p : Program} {l : Launch} {e : Env} {s : State} {m : MethodId} {args : Array Value} {below : List Frame} {meth : Method} {c : Code} {D : va_G} {AC : Nat → ClassId} {sa : gh_SA} {A : Nat → Prop} (hl0 : l.stackTraces = false) (CX : cxX4_findRow p s m args meth c D AC sa A) (post : Option Nat → gh_H → Prop) (px : String → gh_H → Prop) : ∀ (G : gh_H) (s0 : Option Nat) (H : Heap) (locs : List Loc), wX4_findRow_23 post px G s0 → gh_h D vwCl AC A G H → va_S A s.heap H locs → ∀ ls : Array Slot, lv_has ls 3 [] → W p l e rmX4_findRow s m args below meth c H locs 0 0 (vx_MQ below (va_Qq post (gh_B D vwCl AC A) A) (gh_X D vwCl AC px A) args s 1 6 A) (F0 m 23 ls [va_rf s0]) := by
  obtain ⟨⟨hx, hb, hml, hown, hts⟩, hr, hlocks, htb, hK, hE, hA⟩ := id CX
  have hno : ∀ (pc : Nat), ∀ x ∈ c.exceptionTable.toList, covers x pc = false := by rw [htb]; intro _ _ h; cases h
  intro G s0 H locs hw hP hS ls hl
  dsimp only [wX4_findRow_23] at hw
  refine gh_astore_n (lv' := [(2, va_rf s0)]) hx hb dX4_findRow_23 rfl hl (by decide) rfl (fun ls hl => ?_)
  refine gh_aload_n hx hb dX4_findRow_24 rfl (lv_at hl 0 rfl) ?_
  rcases s0 with _ | a1
  · replace hw := hw.1 rfl
    have hl : lv_has ls 3 [(2, .null)] := hl
    refine lv_ifnonnullN hx hb dX4_findRow_25 ?_
    exact gx_throwSXW (own := "OwnerLedger") (cls := "java/util/NoSuchElementException") (names := ["java/lang/RuntimeException", "java/lang/Exception"]) hx hb hl0 gx_n0 gx_n1 gx_n2 gx_n5 hown (by decide +kernel) (by decide +kernel) (hts _ (gT_up kw_83)) (hts _ (gT_up kw_5)) (gh_str hE (own := "OwnerLedger") (k := 266) (tx := "there is no such row") (by decide)) (gh_hat1 hts hE) gh_got1 hE.1 hE.2.1 hS (hl.1.trans hml.symm) dX4_findRow_28 dX4_findRow_31 dX4_findRow_32 dX4_findRow_35 dX4_findRow_38 (hno _) (Nat.le_of_ble_eq_true rfl) (Nat.le_of_ble_eq_true rfl) (Nat.le_of_ble_eq_true rfl) (Nat.le_of_ble_eq_true rfl) hlocks (gh_thrown hP hS hw) hS.2.2 (Nat.le_of_ble_eq_true rfl) (Nat.le_of_ble_eq_true rfl)
  · replace hw := hw.2 a1 rfl
    have hl : lv_has ls 3 [(2, .ref a1)] := hl
    refine lv_ifnonnull (tgt := 39) hx hb dX4_findRow_25 (by decide) ?_
    refine lv_aload_n hx hb dX4_findRow_39 rfl (lv_at hl 0 rfl) ?_
    exact gh_aret (o := (some a1)) hx hb hr hlocks hw hP hS (Nat.le_of_ble_eq_true rfl) (Nat.le_of_ble_eq_true rfl) dX4_findRow_40
def wX4_findRow (post : Option Nat → gh_H → Prop) (px : String → gh_H → Prop) (G : gh_H) (p0 : Nat) (p1 : Int32) : Prop := (p1 < 0 → (wX4_findRow_23 post px G none)) ∧ (¬ p1 < 0 → (∃ (fs2 : List Value) (x5 : Nat), G p0 = some (.inr (0, fs2)) ∧ fs2[1]? = some (.ref x5) ∧ (∃ (k6 : Nat) (n7 : vp_A), G x5 = some (.inl (k6, n7)) ∧ k6 < 7 ∧ ((p1 < (Int32.ofNat n7.1) → (∃ (fs12 : List Value) (x15 : Nat), G p0 = some (.inr (0, fs12)) ∧ fs12[1]? = some (.ref x15) ∧ (∃ (k20 n16 : Nat) (f17 : Nat → Option Nat), G x15 = some (.inl (k20, n16, .inr (.inr (.inr (.inr f17))))) ∧ gh_isq k20 = true ∧ vp_in p1 n16 ∧ (∀ o22 : Option Nat, o22 = f17 p1.toNatClampNeg → wX4_findRow_23 post px G o22)))) ∧ (¬ p1 < (Int32.ofNat n7.1) → (wX4_findRow_23 post px G none))))))
set_option maxRecDepth 100000 in
set_option maxHeartbeats 4000000 in
theorem mX4_findRow (l : Launch) (hl0 : l.stackTraces = false) (D : va_G) (AC : Nat → ClassId) (sa : gh_SA) (p0 : Nat) (p1 : Int32) (post : Option Nat → gh_H → Prop) (px : String → gh_H → Prop) (G : gh_H) (sz : Nat) (hw : wX4_findRow post px G p0 p1) : vx_Met l yX4_findRow wsX4_findRow rmX4_findRow (gh_Pc D vwCl AC (gh_ty AC) (gh_En sa) G sz [.ref p0, .int p1]) (va_Qq post (gh_B D vwCl AC (gh_A G sz)) (gh_A G sz)) (gh_X D vwCl AC px (gh_A G sz)) 1 6 (gh_A G sz) := by
  refine vx_ofW (cc := prog_1_method_31_code) (maxL := 3) (ret := (some (.object "OwnerLedger$Row"))) (by decide) rfl ?_
  intro p e s m args below meth c s₁ B hml hnoh hv
  obtain ⟨rfl, hsz, hP, hK, hE⟩ := hv
  have hx := B.exec
  have hb := B.bytes
  have hr := B.returns
  have hts := atoms_spec (ws := wsX4_findRow) B.pre
  have hown : s.vm.findClass "OwnerLedger" = some m.cls := findClass_of_methodNamed B.named
  have hlocks := B.notSynchronized
  have htb : c.exceptionTable.toList = [] := List.eq_nil_iff_forall_not_mem.mpr hnoh
  subst hsz
  have hA : ∀ q, s.heap.size ≤ q → gh_A G s.heap.size q := fun q h => Or.inr h
  generalize gh_A G s.heap.size = A at hP hE hA ⊢
  have hno : ∀ (pc : Nat), ∀ x ∈ c.exceptionTable.toList, covers x pc = false := by rw [htb]; intro _ _ h; cases h
  have CX : cxX4_findRow p s m [.ref p0, .int p1].toArray meth c D AC sa A := ⟨⟨hx, hb, hml, hown, hts⟩, hr, hlocks, htb, hK, hE, hA⟩
  have hS : va_S A s.heap s.heap [] := va_S.rf
  have hl := lv_entry ([.ref p0, .int p1]) (n := 3) (Nat.le_of_ble_eq_true rfl)
  rw [lg_entry_eq]
  generalize (lg_sl ([.ref p0, .int p1]) ++ List.replicate (3 - (lg_sl ([.ref p0, .int p1])).length) Slot.unset).toArray = ls at hl ⊢
  have hl : lv_has ls 3 [(0, .ref p0), (1, .int p1)] := hl
  dsimp only [wX4_findRow] at hw
  refine lv_iload_n hx hb dX4_findRow_0 rfl (lv_at hl 1 rfl) ?_
  refine lv_if_lt (tgt := 13) hx hb dX4_findRow_1 (by decide) (fun c1 => ?_) (fun c1 => ?_)
  · replace hw := hw.1 c1
    refine lv_null hx hb dX4_findRow_13 ?_
    refine lv_goto (tgt := 23) hx hb dX4_findRow_14 (by decide) ?_
    have hl := lv_sub (l' := []) hl [] rfl
    exact lX4_findRow_23 hl0 CX post px _ none _ _ hw hP hS ls hl
  · replace hw := hw.2 c1
    refine lv_iload_n hx hb dX4_findRow_4 rfl (lv_at hl 1 rfl) ?_
    refine lv_aload_n hx hb dX4_findRow_5 rfl (lv_at hl 0 rfl) ?_
    obtain ⟨fs2, x5, he3, hv4, hw⟩ := hw
    refine gh_get (ci := 0) (v := .ref x5) (C := "OwnerLedger$Batch") (T := TX0) (N := 6) hx hb hts (fun w h => gT_up (inX0 w h)) hown hK hP he3 rfl 1 (by decide) (hts _ (gT_up kw_134)) (fun _ h9 => h9) hv4 dX4_findRow_6 ?_
    obtain ⟨k6, n7, he9, hk10, hw⟩ := hw
    obtain ⟨ty9, ht9⟩ := gh_tyat AC hk10
    refine gh_alen hx hb hK hP he9 ht9 rfl dX4_findRow_9 ?_
    refine lv_icmp_lt (tgt := 17) hx hb dX4_findRow_10 (by decide) (fun c11 => ?_) (fun c11 => ?_)
    · replace hw := hw.1 c11
      refine lv_aload_n hx hb dX4_findRow_17 rfl (lv_at hl 0 rfl) ?_
      obtain ⟨fs12, x15, he13, hv14, hw⟩ := hw
      refine gh_get (ci := 0) (v := .ref x15) (C := "OwnerLedger$Batch") (T := TX0) (N := 6) hx hb hts (fun w h => gT_up (inX0 w h)) hown hK hP he13 rfl 1 (by decide) (hts _ (gT_up kw_134)) (fun _ h9 => h9) hv14 dX4_findRow_18 ?_
      refine lv_iload_n hx hb dX4_findRow_21 rfl (lv_at hl 1 rfl) ?_
      obtain ⟨k20, n16, f17, he18, hk21, hi19, hw⟩ := hw
      obtain ⟨C9, ht9⟩ := gh_tyq AC hk21
      refine gh_aald hx hb hK hP he18 ht9 hi19 dX4_findRow_22 ?_
      obtain ⟨o22, eo23⟩ : ∃ z : Option Nat, z = f17 (Int32.toNatClampNeg p1) := ⟨_, rfl⟩
      rw [← eo23]
      replace hw := hw o22 eo23
      have hl := lv_sub (l' := []) hl [] rfl
      exact lX4_findRow_23 hl0 CX post px _ o22 _ _ hw hP hS ls hl
    · replace hw := hw.2 c11
      refine lv_null hx hb dX4_findRow_13 ?_
      refine lv_goto (tgt := 23) hx hb dX4_findRow_14 (by decide) ?_
      have hl := lv_sub (l' := []) hl [] rfl
      exact lX4_findRow_23 hl0 CX post px _ none _ _ hw hP hS ls hl
abbrev rmX4_breaks : Room := { frames := 7, cells := 3, slots := 18, locals := 104 }
abbrev cxX4_breaks (p : Program) (s : State) (m : MethodId) (args : Array Value) (meth : Method) (c : Code) (D : va_G) (AC : Nat → ClassId) (sa : gh_SA) (A : Nat → Prop) : Prop := CallFix p m c prog_1_method_8_code 6 s args wsX4_breaks "OwnerLedger" ∧ meth.sig.returnType = none ∧ meth.locks = false ∧ c.exceptionTable.toList = [] ∧ va_K D vwCl (gh_ty AC) s ∧ gh_En sa A s s.heap ∧ (∀ q, s.heap.size ≤ q → A q)
def wX4_breaks (post : gh_H → Prop) (px : String → gh_H → Prop) (G : gh_H) (t : Nat) (p0 : Int32) (p1 : Int32) (p2 : Int32) : Prop := ∃ fs3 : List Value, G t = some (.inr (4, fs3)) ∧ wX4_findBatch (fun r1 G2 => ∃ a5 : Nat, r1 = some a5 ∧ wX4_findRow (fun r6 G7 => wX4_requireOpen (fun G9 => ∃ a10 : Nat, r6 = some a10 ∧ ∃ fs11 : List Value, G9 a10 = some (.inr (3, fs11)) ∧ 3 < fs11.length ∧ narrow .boolean (.int p2) = .int p2 ∧ fits .boolean (.int p2) = true ∧ (∀ G16 : gh_H, G16 = gh_up G9 a10 (.inr (3, fs11.set 3 (.int p2))) → post G16)) px G7 a5) px G2 a5 p1) px G t p0
set_option maxRecDepth 100000 in
set_option maxHeartbeats 4000000 in
theorem mX4_breaks (l : Launch) (hl0 : l.stackTraces = false) (D : va_G) (AC : Nat → ClassId) (sa : gh_SA) (t : Nat) (p0 : Int32) (p1 : Int32) (p2 : Int32) (post : gh_H → Prop) (px : String → gh_H → Prop) (G : gh_H) (sz : Nat) (hw : wX4_breaks post px G t p0 p1 p2) : vx_Met l yX4_breaks wsX4_breaks rmX4_breaks (gh_Pc D vwCl AC (gh_ty AC) (gh_En sa) G sz [.ref t, .int p0, .int p1, .int p2]) (va_Qv post (gh_B D vwCl AC (gh_A G sz)) (gh_A G sz)) (gh_X D vwCl AC px (gh_A G sz)) 3 18 (gh_A G sz) := by
  refine vx_ofW (cc := prog_1_method_8_code) (maxL := 6) (ret := none) (by decide) rfl ?_
  intro p e s m args below meth c s₁ B hml hnoh hv
  obtain ⟨rfl, hsz, hP, hK, hE⟩ := hv
  have hx := B.exec
  have hb := B.bytes
  have hr := B.returns
  have hts := atoms_spec (ws := wsX4_breaks) B.pre
  have hown : s.vm.findClass "OwnerLedger" = some m.cls := findClass_of_methodNamed B.named
  have hlocks := B.notSynchronized
  have htb : c.exceptionTable.toList = [] := List.eq_nil_iff_forall_not_mem.mpr hnoh
  subst hsz
  have hA : ∀ q, s.heap.size ≤ q → gh_A G s.heap.size q := fun q h => Or.inr h
  generalize gh_A G s.heap.size = A at hP hE hA ⊢
  have hno : ∀ (pc : Nat), ∀ x ∈ c.exceptionTable.toList, covers x pc = false := by rw [htb]; intro _ _ h; cases h
  have CX : cxX4_breaks p s m [.ref t, .int p0, .int p1, .int p2].toArray meth c D AC sa A := ⟨⟨hx, hb, hml, hown, hts⟩, hr, hlocks, htb, hK, hE, hA⟩
  have hS : va_S A s.heap s.heap [] := va_S.rf
  have hl := lv_entry ([.ref t, .int p0, .int p1, .int p2]) (n := 6) (Nat.le_of_ble_eq_true rfl)
  rw [lg_entry_eq]
  generalize (lg_sl ([.ref t, .int p0, .int p1, .int p2]) ++ List.replicate (6 - (lg_sl ([.ref t, .int p0, .int p1, .int p2])).length) Slot.unset).toArray = ls at hl ⊢
  have hl : lv_has ls 6 [(0, .ref t), (1, .int p0), (2, .int p1), (3, .int p2)] := hl
  dsimp only [wX4_breaks] at hw
  refine lv_aload_n hx hb dX4_breaks_0 rfl (lv_at hl 0 rfl) ?_
  refine lv_iload_n hx hb dX4_breaks_1 rfl (lv_at hl 1 rfl) ?_
  obtain ⟨fs3, he4, hw⟩ := hw
  refine gh_cq hlocks (hno _) (vx_runV (C := "OwnerLedger") (As := [.int p0]) (rest := []) ⟨hx, hb, hml, hown, hts⟩ (mX4_findBatch l hl0 D AC sa _ _ _ _ _ _ hw) (cwV 1 hts (gV kw_151 kw_152 kw_535 kw_1 kw_153) rfl rfl rfl (by decide +kernel) ⟨Nat.le_of_ble_eq_true rfl, Nat.le_of_ble_eq_true rfl⟩) (gh_preV gh_En_ok hK hE hP hS hA he4 rfl _) rfl rfl hl.1 rfl (lv_room (Nat.le_of_ble_eq_true rfl)) dX4_breaks_2 ⟨Nat.le_of_ble_eq_true rfl, Nat.le_of_ble_eq_true rfl⟩) hP hS hA (Nat.le_of_ble_eq_true rfl) (Nat.le_of_ble_eq_true rfl) (fun r1 G2 H locs hw2 hP hS => ?_)
  replace hw := hw2
  clear hw2
  refine gh_astore (lv' := [(4, va_rf r1), (0, .ref t), (1, .int p0), (2, .int p1), (3, .int p2)]) hx hb dX4_breaks_5 hl (by decide) rfl (fun ls hl => ?_)
  refine gh_aload hx hb dX4_breaks_7 (lv_at hl 0 rfl) ?_
  refine lv_iload_n hx hb dX4_breaks_9 rfl (lv_at hl 3 rfl) ?_
  obtain ⟨a5, ea5, hw⟩ := hw
  subst ea5
  have hl : lv_has ls 6 [(4, .ref a5), (0, .ref t), (1, .int p0), (2, .int p1), (3, .int p2)] := hl
  refine gh_cq hlocks (hno _) (vx_runS (As := [.ref a5, .int p1]) (rest := []) ⟨hx, hb, hml, hown, hts⟩ (mX4_findRow l hl0 D AC sa _ _ _ _ _ _ hw) (va_cwS 2 hts (gS kw_187 kw_188 kw_1 kw_189) rfl rfl rfl (by decide +kernel) ⟨Nat.le_of_ble_eq_true rfl, Nat.le_of_ble_eq_true rfl⟩) (gh_pre gh_En_ok hK hE hP hS hA _) rfl rfl hl.1 rfl (lv_room (Nat.le_of_ble_eq_true rfl)) dX4_breaks_10 ⟨Nat.le_of_ble_eq_true rfl, Nat.le_of_ble_eq_true rfl⟩) hP hS hA (Nat.le_of_ble_eq_true rfl) (Nat.le_of_ble_eq_true rfl) (fun r6 G7 H locs hw2 hP hS => ?_)
  replace hw := hw2
  clear hw2
  refine gh_astore (lv' := [(5, va_rf r6), (4, .ref a5), (0, .ref t), (1, .int p0), (2, .int p1), (3, .int p2)]) hx hb dX4_breaks_13 hl (by decide) rfl (fun ls hl => ?_)
  refine lv_aload hx hb dX4_breaks_15 (lv_at hl 1 rfl) ?_
  refine gh_cv_ hlocks (hno _) (vx_runS (As := [.ref a5]) (rest := []) ⟨hx, hb, hml, hown, hts⟩ (mX4_requireOpen l hl0 D AC sa _ _ _ _ _ hw) (va_cwS 1 hts (gS kw_159 kw_160 kw_1 kw_161) rfl rfl rfl (by decide +kernel) ⟨Nat.le_of_ble_eq_true rfl, Nat.le_of_ble_eq_true rfl⟩) (gh_pre gh_En_ok hK hE hP hS hA _) rfl rfl hl.1 rfl (lv_room (Nat.le_of_ble_eq_true rfl)) dX4_breaks_17 ⟨Nat.le_of_ble_eq_true rfl, Nat.le_of_ble_eq_true rfl⟩) hP hS hA (Nat.le_of_ble_eq_true rfl) (Nat.le_of_ble_eq_true rfl) (fun G9 H locs hw2 hP hS => ?_)
  replace hw := hw2
  clear hw2
  refine gh_aload hx hb dX4_breaks_20 (lv_at hl 0 rfl) ?_
  refine lv_iload_n hx hb dX4_breaks_22 rfl (lv_at hl 5 rfl) ?_
  obtain ⟨a10, ea10, hw⟩ := hw
  subst ea10
  have hl : lv_has ls 6 [(5, .ref a10), (4, .ref a5), (0, .ref t), (1, .int p0), (2, .int p1), (3, .int p2)] := hl
  obtain ⟨fs11, he12, hk13, hn14, hf15, hw⟩ := hw
  refine gh_put (ci := 3) (v := .int p2) (ty := .boolean) (C := "OwnerLedger$Row") (T := TX3) (N := 4) hx hb hts (fun w h => gT_up (inX3 w h)) tyX3 tyX3_ok nmX3 hown hK hP hS he12 rfl 3 (by decide) (hts _ (gT_up kw_175)) (fun _ h9 => h9) rfl (by decide +kernel) hn14 hf15 hk13 dX4_breaks_23 (fun G16 H locs eG17 hP hS => ?_)
  replace hw := hw G16 eG17
  exact gh_vret hx hb hr hlocks hw hP hS (Nat.le_of_ble_eq_true rfl) (Nat.le_of_ble_eq_true rfl) dX4_breaks_26
abbrev rmX4_post : Room := { frames := 7, cells := 3, slots := 18, locals := 104 }
abbrev cxX4_post (p : Program) (s : State) (m : MethodId) (args : Array Value) (meth : Method) (c : Code) (D : va_G) (AC : Nat → ClassId) (sa : gh_SA) (A : Nat → Prop) : Prop := CallFix p m c prog_1_method_9_code 5 s args wsX4_post "OwnerLedger" ∧ meth.sig.returnType = (some .int) ∧ meth.locks = false ∧ c.exceptionTable.toList = [] ∧ va_K D vwCl (gh_ty AC) s ∧ gh_En sa A s s.heap ∧ (∀ q, s.heap.size ≤ q → A q)
def wX4_post_83 (post : Int32 → gh_H → Prop) (px : String → gh_H → Prop) (G : gh_H) (v3 : Int32) (v4 : Int32) (s0 : Nat) (s1 : Int32) : Prop := ∃ fs1 : List Value, G s0 = some (.inr (0, fs1)) ∧ 3 < fs1.length ∧ (∀ G4 : gh_H, G4 = gh_up G s0 (.inr (0, fs1.set 3 (.int s1))) → (v4 = 0 → ((¬ v3 = (-1) → (post ((-1) - v3) G4)) ∧ (v3 = (-1) → (post (-9) G4)))) ∧ (¬ v4 = 0 → (post 1 G4)))
set_option maxRecDepth 100000 in
set_option maxHeartbeats 4000000 in
theorem lX4_post_83 {p : Program} {l : Launch} {e : Env} {s : State} {m : MethodId} {args : Array Value} {below : List Frame} {meth : Method} {c : Code} {D : va_G} {AC : Nat → ClassId} {sa : gh_SA} {A : Nat → Prop} (hl0 : l.stackTraces = false) (CX : cxX4_post p s m args meth c D AC sa A) (post : Int32 → gh_H → Prop) (px : String → gh_H → Prop) : ∀ (G : gh_H) (v3 : Int32) (v4 : Int32) (s0 : Nat) (s1 : Int32) (H : Heap) (locs : List Loc), wX4_post_83 post px G v3 v4 s0 s1 → gh_h D vwCl AC A G H → va_S A s.heap H locs → ∀ ls : Array Slot, lv_has ls 5 [(3, .int v3), (4, .int v4)] → W p l e rmX4_post s m args below meth c H locs 2 12 (vx_MQ below (va_Qi post (gh_B D vwCl AC A) A) (gh_X D vwCl AC px A) args s 3 18 A) (F0 m 83 ls [.int s1, .ref s0]) := by
  obtain ⟨⟨hx, hb, hml, hown, hts⟩, hr, hlocks, htb, hK, hE, hA⟩ := id CX
  have hno : ∀ (pc : Nat), ∀ x ∈ c.exceptionTable.toList, covers x pc = false := by rw [htb]; intro _ _ h; cases h
  intro G v3 v4 s0 s1 H locs hw hP hS ls hl
  dsimp only [wX4_post_83] at hw
  obtain ⟨fs1, he2, hk3, hw⟩ := hw
  refine gh_put (ci := 0) (v := .int s1) (ty := .int) (C := "OwnerLedger$Batch") (T := TX0) (N := 6) hx hb hts (fun w h => gT_up (inX0 w h)) tyX0 tyX0_ok nmX0 hown hK hP hS he2 rfl 3 (by decide) (hts _ (gT_up kw_138)) (fun _ h9 => h9) rfl (by decide +kernel) rfl rfl hk3 dX4_post_83 (fun G4 H locs eG5 hP hS => ?_)
  replace hw := hw G4 eG5
  refine lv_iload hx hb dX4_post_86 (lv_at hl 1 rfl) ?_
  refine lv_if_eq (tgt := 93) hx hb dX4_post_88 (by decide) (fun c6 => ?_) (fun c6 => ?_)
  · replace hw := hw.1 c6
    refine lv_iload_n hx hb dX4_post_93 rfl (lv_at hl 0 rfl) ?_
    refine lv_iconst (v := (-1)) hx hb dX4_post_94 (by decide) ?_
    refine lv_icmp_ne (tgt := 103) hx hb dX4_post_95 (by decide) (fun c7 => ?_) (fun c7 => ?_)
    · replace hw := hw.1 c7
      refine lv_iconst (v := (-1)) hx hb dX4_post_103 (by decide) ?_
      refine lv_iload_n hx hb dX4_post_104 rfl (lv_at hl 0 rfl) ?_
      refine lv_isub hx hb dX4_post_105 ?_
      exact gh_iret hx hb hr hlocks hw hP hS (Nat.le_of_ble_eq_true rfl) (Nat.le_of_ble_eq_true rfl) dX4_post_106
    · replace hw := hw.2 c7
      refine lv_bipush (v := (-9)) hx hb dX4_post_98 (by decide) ?_
      refine lv_goto (tgt := 106) hx hb dX4_post_100 (by decide) ?_
      exact gh_iret hx hb hr hlocks hw hP hS (Nat.le_of_ble_eq_true rfl) (Nat.le_of_ble_eq_true rfl) dX4_post_106
  · replace hw := hw.2 c6
    refine lv_iconst (v := 1) hx hb dX4_post_91 (by decide) ?_
    exact gh_iret hx hb hr hlocks hw hP hS (Nat.le_of_ble_eq_true rfl) (Nat.le_of_ble_eq_true rfl) dX4_post_92
def wX4_post_70 (post : Int32 → gh_H → Prop) (px : String → gh_H → Prop) (G : gh_H) (v2 : Nat) (v3 : Int32) (s0 : Int32) : Prop := (s0 = 0 → (wX4_post_83 post px G v3 s0 v2 2)) ∧ (¬ s0 = 0 → (wX4_post_83 post px G v3 s0 v2 1))
set_option maxRecDepth 100000 in
set_option maxHeartbeats 4000000 in
theorem lX4_post_70 {p : Program} {l : Launch} {e : Env} {s : State} {m : MethodId} {args : Array Value} {below : List Frame} {meth : Method} {c : Code} {D : va_G} {AC : Nat → ClassId} {sa : gh_SA} {A : Nat → Prop} (hl0 : l.stackTraces = false) (CX : cxX4_post p s m args meth c D AC sa A) (post : Int32 → gh_H → Prop) (px : String → gh_H → Prop) : ∀ (G : gh_H) (v2 : Nat) (v3 : Int32) (s0 : Int32) (H : Heap) (locs : List Loc), wX4_post_70 post px G v2 v3 s0 → gh_h D vwCl AC A G H → va_S A s.heap H locs → ∀ ls : Array Slot, lv_has ls 5 [(2, .ref v2), (3, .int v3)] → W p l e rmX4_post s m args below meth c H locs 2 12 (vx_MQ below (va_Qi post (gh_B D vwCl AC A) A) (gh_X D vwCl AC px A) args s 3 18 A) (F0 m 70 ls [.int s0]) := by
  obtain ⟨⟨hx, hb, hml, hown, hts⟩, hr, hlocks, htb, hK, hE, hA⟩ := id CX
  have hno : ∀ (pc : Nat), ∀ x ∈ c.exceptionTable.toList, covers x pc = false := by rw [htb]; intro _ _ h; cases h
  intro G v2 v3 s0 H locs hw hP hS ls hl
  dsimp only [wX4_post_70] at hw
  refine lv_istore (lv' := [(4, .int s0), (2, .ref v2), (3, .int v3)]) hx hb dX4_post_70 hl (by decide) rfl (fun ls hl => ?_)
  refine lv_aload_n hx hb dX4_post_72 rfl (lv_at hl 1 rfl) ?_
  refine lv_iload hx hb dX4_post_73 (lv_at hl 0 rfl) ?_
  refine lv_if_eq (tgt := 82) hx hb dX4_post_75 (by decide) (fun c1 => ?_) (fun c1 => ?_)
  · replace hw := hw.1 c1
    refine lv_iconst (v := 2) hx hb dX4_post_82 (by decide) ?_
    have hl := lv_sub (l' := [(3, .int v3), (4, .int s0)]) hl [2, 0] rfl
    exact lX4_post_83 hl0 CX post px _ v3 s0 v2 2 _ _ hw hP hS ls hl
  · replace hw := hw.2 c1
    refine lv_iconst (v := 1) hx hb dX4_post_78 (by decide) ?_
    refine lv_goto (tgt := 83) hx hb dX4_post_79 (by decide) ?_
    have hl := lv_sub (l' := [(3, .int v3), (4, .int s0)]) hl [2, 0] rfl
    exact lX4_post_83 hl0 CX post px _ v3 s0 v2 1 _ _ hw hP hS ls hl
def wX4_post (post : Int32 → gh_H → Prop) (px : String → gh_H → Prop) (G : gh_H) (t : Nat) (p0 : Int32) : Prop := ∃ fs3 : List Value, G t = some (.inr (4, fs3)) ∧ wX4_findBatch (fun r1 G2 => ∃ a5 : Nat, r1 = some a5 ∧ wX4_requireOpen (fun G7 => ∃ (fs8 : List Value) (x11 : Int32), G7 a5 = some (.inr (0, fs8)) ∧ fs8[0]? = some (.int x11) ∧ (∃ (fs12 : List Value) (x15 : Int32), G7 t = some (.inr (4, fs12)) ∧ fs12[9]? = some (.int x15) ∧ ((x15 ≤ x11 → (∃ (fs17 : List Value) (x20 : Int32), G7 a5 = some (.inr (0, fs17)) ∧ fs17[2]? = some (.int x20) ∧ ((¬ x20 = 0 → (∃ fs24 : List Value, G7 a5 = some (.inr (0, fs24)) ∧ wX0_firstBreaking (fun r22 G23 => (¬ r22 = (-1) → (wX4_post_70 post px G23 a5 r22 0)) ∧ (r22 = (-1) → (∃ fs29 : List Value, G23 a5 = some (.inr (0, fs29)) ∧ wX0_sumsToZero (fun r27 G28 => (r27 = 0 → (wX4_post_70 post px G28 a5 r22 0)) ∧ (¬ r27 = 0 → (wX4_post_70 post px G28 a5 r22 1))) px G23 a5))) px G7 a5)) ∧ (x20 = 0 → (px "java/lang/IllegalStateException" G7))))) ∧ (¬ x15 ≤ x11 → (px "java/lang/IllegalStateException" G7))))) px G2 a5) px G t p0
set_option maxRecDepth 100000 in
set_option maxHeartbeats 4000000 in
theorem mX4_post (l : Launch) (hl0 : l.stackTraces = false) (D : va_G) (AC : Nat → ClassId) (sa : gh_SA) (t : Nat) (p0 : Int32) (post : Int32 → gh_H → Prop) (px : String → gh_H → Prop) (G : gh_H) (sz : Nat) (hw : wX4_post post px G t p0) : vx_Met l yX4_post wsX4_post rmX4_post (gh_Pc D vwCl AC (gh_ty AC) (gh_En sa) G sz [.ref t, .int p0]) (va_Qi post (gh_B D vwCl AC (gh_A G sz)) (gh_A G sz)) (gh_X D vwCl AC px (gh_A G sz)) 3 18 (gh_A G sz) := by
  refine vx_ofW (cc := prog_1_method_9_code) (maxL := 5) (ret := (some .int)) (by decide) rfl ?_
  intro p e s m args below meth c s₁ B hml hnoh hv
  obtain ⟨rfl, hsz, hP, hK, hE⟩ := hv
  have hx := B.exec
  have hb := B.bytes
  have hr := B.returns
  have hts := atoms_spec (ws := wsX4_post) B.pre
  have hown : s.vm.findClass "OwnerLedger" = some m.cls := findClass_of_methodNamed B.named
  have hlocks := B.notSynchronized
  have htb : c.exceptionTable.toList = [] := List.eq_nil_iff_forall_not_mem.mpr hnoh
  subst hsz
  have hA : ∀ q, s.heap.size ≤ q → gh_A G s.heap.size q := fun q h => Or.inr h
  generalize gh_A G s.heap.size = A at hP hE hA ⊢
  have hno : ∀ (pc : Nat), ∀ x ∈ c.exceptionTable.toList, covers x pc = false := by rw [htb]; intro _ _ h; cases h
  have CX : cxX4_post p s m [.ref t, .int p0].toArray meth c D AC sa A := ⟨⟨hx, hb, hml, hown, hts⟩, hr, hlocks, htb, hK, hE, hA⟩
  have hS : va_S A s.heap s.heap [] := va_S.rf
  have hl := lv_entry ([.ref t, .int p0]) (n := 5) (Nat.le_of_ble_eq_true rfl)
  rw [lg_entry_eq]
  generalize (lg_sl ([.ref t, .int p0]) ++ List.replicate (5 - (lg_sl ([.ref t, .int p0])).length) Slot.unset).toArray = ls at hl ⊢
  have hl : lv_has ls 5 [(0, .ref t), (1, .int p0)] := hl
  dsimp only [wX4_post] at hw
  refine lv_aload_n hx hb dX4_post_0 rfl (lv_at hl 0 rfl) ?_
  refine lv_iload_n hx hb dX4_post_1 rfl (lv_at hl 1 rfl) ?_
  obtain ⟨fs3, he4, hw⟩ := hw
  refine gh_cq hlocks (hno _) (vx_runV (C := "OwnerLedger") (As := [.int p0]) (rest := []) ⟨hx, hb, hml, hown, hts⟩ (mX4_findBatch l hl0 D AC sa _ _ _ _ _ _ hw) (cwV 1 hts (gV kw_151 kw_152 kw_535 kw_1 kw_153) rfl rfl rfl (by decide +kernel) ⟨Nat.le_of_ble_eq_true rfl, Nat.le_of_ble_eq_true rfl⟩) (gh_preV gh_En_ok hK hE hP hS hA he4 rfl _) rfl rfl hl.1 rfl (lv_room (Nat.le_of_ble_eq_true rfl)) dX4_post_2 ⟨Nat.le_of_ble_eq_true rfl, Nat.le_of_ble_eq_true rfl⟩) hP hS hA (Nat.le_of_ble_eq_true rfl) (Nat.le_of_ble_eq_true rfl) (fun r1 G2 H locs hw2 hP hS => ?_)
  replace hw := hw2
  clear hw2
  refine gh_astore_n (lv' := [(2, va_rf r1), (0, .ref t), (1, .int p0)]) hx hb dX4_post_5 rfl hl (by decide) rfl (fun ls hl => ?_)
  refine gh_aload_n hx hb dX4_post_6 rfl (lv_at hl 0 rfl) ?_
  obtain ⟨a5, ea5, hw⟩ := hw
  subst ea5
  have hl : lv_has ls 5 [(2, .ref a5), (0, .ref t), (1, .int p0)] := hl
  refine gh_cv_ hlocks (hno _) (vx_runS (As := [.ref a5]) (rest := []) ⟨hx, hb, hml, hown, hts⟩ (mX4_requireOpen l hl0 D AC sa _ _ _ _ _ hw) (va_cwS 1 hts (gS kw_159 kw_160 kw_1 kw_161) rfl rfl rfl (by decide +kernel) ⟨Nat.le_of_ble_eq_true rfl, Nat.le_of_ble_eq_true rfl⟩) (gh_pre gh_En_ok hK hE hP hS hA _) rfl rfl hl.1 rfl (lv_room (Nat.le_of_ble_eq_true rfl)) dX4_post_7 ⟨Nat.le_of_ble_eq_true rfl, Nat.le_of_ble_eq_true rfl⟩) hP hS hA (Nat.le_of_ble_eq_true rfl) (Nat.le_of_ble_eq_true rfl) (fun G7 H locs hw2 hP hS => ?_)
  replace hw := hw2
  clear hw2
  refine lv_aload_n hx hb dX4_post_10 rfl (lv_at hl 0 rfl) ?_
  obtain ⟨fs8, x11, he9, hv10, hw⟩ := hw
  refine gh_get (ci := 0) (v := .int x11) (C := "OwnerLedger$Batch") (T := TX0) (N := 6) hx hb hts (fun w h => gT_up (inX0 w h)) hown hK hP he9 rfl 0 (by decide) (hts _ (gT_up kw_132)) (fun _ h9 => h9) hv10 dX4_post_11 ?_
  refine lv_aload_n hx hb dX4_post_14 rfl (lv_at hl 1 rfl) ?_
  obtain ⟨fs12, x15, he13, hv14, hw⟩ := hw
  refine gh_get (ci := 4) (v := .int x15) (C := "OwnerLedger") (T := TX4) (N := 11) hx hb hts (fun w h => gT_up (inX4 w h)) hown hK hP he13 rfl 9 (by decide) (hts _ (gT_up kw_32)) (fun _ h9 => h9) hv14 dX4_post_15 ?_
  refine lv_icmp_ge (tgt := 31) hx hb dX4_post_18 (by decide) (fun c16 => ?_) (fun c16 => ?_)
  · replace hw := hw.1 c16
    refine lv_aload_n hx hb dX4_post_31 rfl (lv_at hl 0 rfl) ?_
    obtain ⟨fs17, x20, he18, hv19, hw⟩ := hw
    refine gh_get (ci := 0) (v := .int x20) (C := "OwnerLedger$Batch") (T := TX0) (N := 6) hx hb hts (fun w h => gT_up (inX0 w h)) hown hK hP he18 rfl 2 (by decide) (hts _ (gT_up kw_136)) (fun _ h9 => h9) hv19 dX4_post_32 ?_
    refine lv_if_ne (tgt := 48) hx hb dX4_post_35 (by decide) (fun c21 => ?_) (fun c21 => ?_)
    · replace hw := hw.1 c21
      refine lv_aload_n hx hb dX4_post_48 rfl (lv_at hl 0 rfl) ?_
      obtain ⟨fs24, he25, hw⟩ := hw
      refine gh_ci hlocks (hno _) (vx_runV (C := "OwnerLedger$Batch") (As := []) (rest := []) ⟨hx, hb, hml, hown, hts⟩ (mX0_firstBreaking l hl0 D AC sa _ _ _ _ _ hw) (cwV 0 hts (gV kw_197 kw_198 kw_199 kw_8 kw_200) rfl rfl rfl (by decide +kernel) ⟨Nat.le_of_ble_eq_true rfl, Nat.le_of_ble_eq_true rfl⟩) (gh_preV gh_En_ok hK hE hP hS hA he25 rfl _) rfl rfl hl.1 rfl (lv_room (Nat.le_of_ble_eq_true rfl)) dX4_post_49 ⟨Nat.le_of_ble_eq_true rfl, Nat.le_of_ble_eq_true rfl⟩) hP hS hA (Nat.le_of_ble_eq_true rfl) (Nat.le_of_ble_eq_true rfl) (fun r22 G23 H locs hw2 hP hS => ?_)
      replace hw := hw2
      clear hw2
      refine lv_istore_n (lv' := [(3, .int r22), (2, .ref a5), (0, .ref t), (1, .int p0)]) hx hb dX4_post_52 rfl hl (by decide) rfl (fun ls hl => ?_)
      refine lv_iload_n hx hb dX4_post_53 rfl (lv_at hl 0 rfl) ?_
      refine lv_iconst (v := (-1)) hx hb dX4_post_54 (by decide) ?_
      refine lv_icmp_ne (tgt := 69) hx hb dX4_post_55 (by decide) (fun c26 => ?_) (fun c26 => ?_)
      · replace hw := hw.1 c26
        refine lv_iconst (v := 0) hx hb dX4_post_69 (by decide) ?_
        have hl := lv_sub (l' := [(2, .ref a5), (3, .int r22)]) hl [1, 0] rfl
        exact lX4_post_70 hl0 CX post px _ a5 r22 0 _ _ hw hP hS ls hl
      · replace hw := hw.2 c26
        refine lv_aload_n hx hb dX4_post_58 rfl (lv_at hl 1 rfl) ?_
        obtain ⟨fs29, he30, hw⟩ := hw
        refine gh_ci hlocks (hno _) (vx_runV (C := "OwnerLedger$Batch") (As := []) (rest := []) ⟨hx, hb, hml, hown, hts⟩ (mX0_sumsToZero l hl0 D AC sa _ _ _ _ _ hw) (cwV 0 hts (gV kw_201 kw_202 kw_203 kw_8 kw_204) rfl rfl rfl (by decide +kernel) ⟨Nat.le_of_ble_eq_true rfl, Nat.le_of_ble_eq_true rfl⟩) (gh_preV gh_En_ok hK hE hP hS hA he30 rfl _) rfl rfl hl.1 rfl (lv_room (Nat.le_of_ble_eq_true rfl)) dX4_post_59 ⟨Nat.le_of_ble_eq_true rfl, Nat.le_of_ble_eq_true rfl⟩) hP hS hA (Nat.le_of_ble_eq_true rfl) (Nat.le_of_ble_eq_true rfl) (fun r27 G28 H locs hw2 hP hS => ?_)
        replace hw := hw2
        clear hw2
        refine lv_if_eq (tgt := 69) hx hb dX4_post_62 (by decide) (fun c31 => ?_) (fun c31 => ?_)
        · replace hw := hw.1 c31
          refine lv_iconst (v := 0) hx hb dX4_post_69 (by decide) ?_
          have hl := lv_sub (l' := [(2, .ref a5), (3, .int r22)]) hl [1, 0] rfl
          exact lX4_post_70 hl0 CX post px _ a5 r22 0 _ _ hw hP hS ls hl
        · replace hw := hw.2 c31
          refine lv_iconst (v := 1) hx hb dX4_post_65 (by decide) ?_
          refine lv_goto (tgt := 70) hx hb dX4_post_66 (by decide) ?_
          have hl := lv_sub (l' := [(2, .ref a5), (3, .int r22)]) hl [1, 0] rfl
          exact lX4_post_70 hl0 CX post px _ a5 r22 1 _ _ hw hP hS ls hl
    · replace hw := hw.2 c21
      exact vx_throwS (own := "OwnerLedger") (cls := "java/lang/IllegalStateException") (names := ["java/lang/RuntimeException", "java/lang/Exception"]) hx hb hl0 hown (by decide +kernel) (by decide +kernel) (hts _ (gT_up kw_113)) (hts _ (gT_up kw_7)) (gh_str hE (own := "OwnerLedger") (k := 123) (tx := "the batch has no rows") (by decide)) (gh_hat3 hts hE) gh_got3 hE.1 hE.2.1 hS (hl.1.trans hml.symm) dX4_post_38 dX4_post_41 dX4_post_42 dX4_post_44 dX4_post_47 (hno _) (Nat.le_of_ble_eq_true rfl) (Nat.le_of_ble_eq_true rfl) (Nat.le_of_ble_eq_true rfl) (Nat.le_of_ble_eq_true rfl) hlocks (gh_thrown hP hS hw) hS.2.2 (Nat.le_of_ble_eq_true rfl) (Nat.le_of_ble_eq_true rfl)
  · replace hw := hw.2 c16
    exact vx_throwS (own := "OwnerLedger") (cls := "java/lang/IllegalStateException") (names := ["java/lang/RuntimeException", "java/lang/Exception"]) hx hb hl0 hown (by decide +kernel) (by decide +kernel) (hts _ (gT_up kw_113)) (hts _ (gT_up kw_7)) (gh_str hE (own := "OwnerLedger") (k := 121) (tx := "the month of the batch is closed by now") (by decide)) (gh_hat3 hts hE) gh_got3 hE.1 hE.2.1 hS (hl.1.trans hml.symm) dX4_post_21 dX4_post_24 dX4_post_25 dX4_post_27 dX4_post_30 (hno _) (Nat.le_of_ble_eq_true rfl) (Nat.le_of_ble_eq_true rfl) (Nat.le_of_ble_eq_true rfl) (Nat.le_of_ble_eq_true rfl) hlocks (gh_thrown hP hS hw) hS.2.2 (Nat.le_of_ble_eq_true rfl) (Nat.le_of_ble_eq_true rfl)
