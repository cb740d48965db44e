abbrev rmX0_sumOfCurrency : Room := { frames := 0, cells := 0, slots := 0, locals := 0 }
abbrev cxX0_sumOfCurrency (p : Program) (s : State) (m : MethodId) (args : Array Value) (meth : Method) (c : Code) (D : va_G) (AC : Nat → ClassId) (sa : gh_SA) (A : Nat → Prop) : Prop := CallFix p m c prog_2_method_6_code 8 s args wsX0_sumOfCurrency "OwnerLedger$Batch" ∧ meth.sig.returnType = (some .long) ∧ meth.locks = false ∧ c.exceptionTable.toList = [] ∧ va_K D vwCl (gh_ty AC) s ∧ gh_En sa A s s.heap ∧ (∀ q, s.heap.size ≤ q → A q)
def wX0_sumOfCurrency_16 (post : Int64 → gh_H → Prop) (px : String → gh_H → Prop) : Nat → gh_H → Int32 → Int64 → Nat → Int32 → Int32 → Prop
  | 0 => fun _ _ _ _ _ _ => False
  | n + 1 => fun G p0 v2 v4 v5 v6 => (v5 ≤ v6 → (post v2 G)) ∧ (¬ v5 ≤ v6 → (∃ (k6 n2 : Nat) (f3 : Nat → Option Nat), G v4 = some (.inl (k6, n2, .inr (.inr (.inr (.inr f3))))) ∧ gh_isq k6 = true ∧ vp_in v6 n2 ∧ (∀ o8 : Option Nat, o8 = f3 v6.toNatClampNeg → (o8 = none → (wX0_sumOfCurrency_16 post px n G p0 v2 v4 v5 (v6 + 1))) ∧ (∀ a10 : Nat, o8 = some a10 → (∃ (fs11 : List Value) (x14 : Int32), G a10 = some (.inr (3, fs11)) ∧ fs11[1]? = some (.int x14) ∧ ((¬ x14 = p0 → (wX0_sumOfCurrency_16 post px n G p0 v2 v4 v5 (v6 + 1))) ∧ (x14 = p0 → (∃ (fs16 : List Value) (x19 : Int64), G a10 = some (.inr (3, fs16)) ∧ fs16[2]? = some (.long x19) ∧ (wX0_sumOfCurrency_16 post px n G p0 (v2 + x19) v4 v5 (v6 + 1))))))))))
set_option maxRecDepth 100000 in
set_option maxHeartbeats 4000000 in
theorem lX0_sumOfCurrency_16 {p : Program} {l : Launch} {e : Env} {s : State} {m : MethodId} {args : Array Value} {below : List Frame} {meth : Method} {c : Code} {D : va_G} {AC : Nat → ClassId} {sa : gh_SA} {A : Nat → Prop} (hl0 : l.stackTraces = false) (CX : cxX0_sumOfCurrency p s m args meth c D AC sa A) (post : Int64 → gh_H → Prop) (px : String → gh_H → Prop) : ∀ n : Nat, ∀ (G : gh_H) (p0 : Int32) (v2 : Int64) (v4 : Nat) (v5 : Int32) (v6 : Int32) (H : Heap) (locs : List Loc), wX0_sumOfCurrency_16 post px n G p0 v2 v4 v5 v6 → gh_h D vwCl AC A G H → va_S A s.heap H locs → ∀ ls : Array Slot, lv_has ls 8 [(1, .int p0), (2, .long v2), (4, .ref v4), (5, .int v5), (6, .int v6)] → W p l e rmX0_sumOfCurrency s m args below meth c H locs 0 0 (vx_MQ below (va_Ql post (gh_B D vwCl AC A) A) (gh_X D vwCl AC px A) args s 0 0 A) (F0 m 16 ls []) := by
  obtain ⟨⟨hx, hb, hml, hown, hts⟩, hr, hlocks, htb, hK, hE, hA⟩ := id CX
  have hno : ∀ (pc : Nat), ∀ x ∈ c.exceptionTable.toList, covers x pc = false := by rw [htb]; intro _ _ h; cases h
  intro n
  induction n with
  | zero =>
    intro G p0 v2 v4 v5 v6 H locs hw
    exact False.elim hw
  | succ n ih =>
    intro G p0 v2 v4 v5 v6 H locs hw hP hS ls hl
    dsimp only [wX0_sumOfCurrency_16] at hw
    refine lv_iload hx hb dX0_sumOfCurrency_16 (lv_at hl 4 rfl) ?_
    refine lv_iload hx hb dX0_sumOfCurrency_18 (lv_at hl 3 rfl) ?_
    refine lv_icmp_ge (tgt := 58) hx hb dX0_sumOfCurrency_20 (by decide) (fun c1 => ?_) (fun c1 => ?_)
    · replace hw := hw.1 c1
      refine lv_lload_n hx hb dX0_sumOfCurrency_58 rfl (lv_at hl 1 rfl) ?_
      exact gh_lret hx hb hr hlocks hw hP hS (Nat.le_of_ble_eq_true rfl) (Nat.le_of_ble_eq_true rfl) dX0_sumOfCurrency_59
    · replace hw := hw.2 c1
      refine lv_aload hx hb dX0_sumOfCurrency_23 (lv_at hl 2 rfl) ?_
      refine lv_iload hx hb dX0_sumOfCurrency_25 (lv_at hl 4 rfl) ?_
      obtain ⟨k6, n2, f3, he4, hk7, hi5, hw⟩ := hw
      obtain ⟨C9, ht9⟩ := gh_tyq AC hk7
      refine gh_aald hx hb hK hP he4 ht9 hi5 dX0_sumOfCurrency_27 ?_
      obtain ⟨o8, eo9⟩ : ∃ z : Option Nat, z = f3 (Int32.toNatClampNeg v6) := ⟨_, rfl⟩
      rw [← eo9]
      replace hw := hw o8 eo9
      refine gh_astore (lv' := [(7, va_rf o8), (1, .int p0), (2, .long v2), (4, .ref v4), (5, .int v5), (6, .int v6)]) hx hb dX0_sumOfCurrency_28 hl (by decide) rfl (fun ls hl => ?_)
      refine gh_aload hx hb dX0_sumOfCurrency_30 (lv_at hl 0 rfl) ?_
      rcases o8 with _ | a10
      · replace hw := hw.1 rfl
        have hl : lv_has ls 8 [(7, .null), (1, .int p0), (2, .long v2), (4, .ref v4), (5, .int v5), (6, .int v6)] := hl
        refine lv_ifnullN (tgt := 52) hx hb dX0_sumOfCurrency_32 (by decide) ?_
        refine lv_iinc (v := (v6 + 1)) (lv' := [(6, .int (v6 + 1)), (7, .null), (1, .int p0), (2, .long v2), (4, .ref v4), (5, .int v5)]) hx hb dX0_sumOfCurrency_52 hl (k := 5) rfl rfl (by decide) rfl (fun ls hl => ?_)
        refine lv_goto (tgt := 16) hx hb dX0_sumOfCurrency_55 (by decide) ?_
        have hl := lv_sub (l' := [(1, .int p0), (2, .long v2), (4, .ref v4), (5, .int v5), (6, .int (v6 + 1))]) hl [2, 3, 4, 5, 0] rfl
        exact ih _ p0 v2 v4 v5 (v6 + 1) _ _ hw hP hS ls hl
      · replace hw := hw.2 a10 rfl
        have hl : lv_has ls 8 [(7, .ref a10), (1, .int p0), (2, .long v2), (4, .ref v4), (5, .int v5), (6, .int v6)] := hl
        refine lv_ifnull hx hb dX0_sumOfCurrency_32 ?_
        refine lv_aload hx hb dX0_sumOfCurrency_35 (lv_at hl 0 rfl) ?_
        obtain ⟨fs11, x14, he12, hv13, hw⟩ := hw
        refine gh_get (ci := 3) (v := .int x14) (C := "OwnerLedger$Row") (T := TX3) (N := 4) hx hb hts (fun w h => gT_up (inX3 w h)) hown hK hP he12 rfl 1 (by decide) (hts _ (gT_up kw_171)) (fun _ h9 => h9) hv13 dX0_sumOfCurrency_37 ?_
        refine lv_iload_n hx hb dX0_sumOfCurrency_40 rfl (lv_at hl 1 rfl) ?_
        refine lv_icmp_ne (tgt := 52) hx hb dX0_sumOfCurrency_41 (by decide) (fun c15 => ?_) (fun c15 => ?_)
        · replace hw := hw.1 c15
          refine lv_iinc (v := (v6 + 1)) (lv' := [(6, .int (v6 + 1)), (7, .ref a10), (1, .int p0), (2, .long v2), (4, .ref v4), (5, .int v5)]) hx hb dX0_sumOfCurrency_52 hl (k := 5) rfl rfl (by decide) rfl (fun ls hl => ?_)
          refine lv_goto (tgt := 16) hx hb dX0_sumOfCurrency_55 (by decide) ?_
          have hl := lv_sub (l' := [(1, .int p0), (2, .long v2), (4, .ref v4), (5, .int v5), (6, .int (v6 + 1))]) hl [2, 3, 4, 5, 0] rfl
          exact ih _ p0 v2 v4 v5 (v6 + 1) _ _ hw hP hS ls hl
        · replace hw := hw.2 c15
          refine lv_lload_n hx hb dX0_sumOfCurrency_44 rfl (lv_at hl 2 rfl) ?_
          refine lv_aload hx hb dX0_sumOfCurrency_45 (lv_at hl 0 rfl) ?_
          obtain ⟨fs16, x19, he17, hv18, hw⟩ := hw
          refine gh_get (ci := 3) (v := .long x19) (C := "OwnerLedger$Row") (T := TX3) (N := 4) hx hb hts (fun w h => gT_up (inX3 w h)) hown hK hP he17 rfl 2 (by decide) (hts _ (gT_up kw_173)) (fun _ h9 => h9) hv18 dX0_sumOfCurrency_47 ?_
          refine lv_ladd hx hb dX0_sumOfCurrency_50 ?_
          refine lv_lstore_n (lv' := [(2, .long (v2 + x19)), (7, .ref a10), (1, .int p0), (4, .ref v4), (5, .int v5), (6, .int v6)]) hx hb dX0_sumOfCurrency_51 rfl hl (by decide) rfl (fun ls hl => ?_)
          refine lv_iinc (v := (v6 + 1)) (lv' := [(6, .int (v6 + 1)), (2, .long (v2 + x19)), (7, .ref a10), (1, .int p0), (4, .ref v4), (5, .int v5)]) hx hb dX0_sumOfCurrency_52 hl (k := 5) rfl rfl (by decide) rfl (fun ls hl => ?_)
          refine lv_goto (tgt := 16) hx hb dX0_sumOfCurrency_55 (by decide) ?_
          have hl := lv_sub (l' := [(1, .int p0), (2, .long (v2 + x19)), (4, .ref v4), (5, .int v5), (6, .int (v6 + 1))]) hl [3, 1, 4, 5, 0] rfl
          exact ih _ p0 (v2 + x19) v4 v5 (v6 + 1) _ _ hw hP hS ls hl
def wX0_sumOfCurrency (post : Int64 → gh_H → Prop) (px : String → gh_H → Prop) (G : gh_H) (t : Nat) (p0 : Int32) : Prop := ∃ (fs1 : List Value) (x4 : Nat), G t = some (.inr (0, fs1)) ∧ fs1[1]? = some (.ref x4) ∧ (∃ (k5 : Nat) (n6 : vp_A), G x4 = some (.inl (k5, n6)) ∧ k5 < 7 ∧ (wX0_sumOfCurrency_16 post px 300 G p0 0 x4 (Int32.ofNat n6.1) 0))
set_option maxRecDepth 100000 in
set_option maxHeartbeats 4000000 in
theorem mX0_sumOfCurrency (l : Launch) (hl0 : l.stackTraces = false) (D : va_G) (AC : Nat → ClassId) (sa : gh_SA) (t : Nat) (p0 : Int32) (post : Int64 → gh_H → Prop) (px : String → gh_H → Prop) (G : gh_H) (sz : Nat) (hw : wX0_sumOfCurrency post px G t p0) : vx_Met l yX0_sumOfCurrency wsX0_sumOfCurrency rmX0_sumOfCurrency (gh_Pc D vwCl AC (gh_ty AC) (gh_En sa) G sz [.ref t, .int p0]) (va_Ql post (gh_B D vwCl AC (gh_A G sz)) (gh_A G sz)) (gh_X D vwCl AC px (gh_A G sz)) 0 0 (gh_A G sz) := by
  refine vx_ofW (cc := prog_2_method_6_code) (maxL := 8) (ret := (some .long)) (by decide) rfl ?_
  intro p e s m args below meth c s₁ B hml hnoh hv
  obtain ⟨rfl, hsz, hP, hK, hE⟩ := hv
  have hx := B.exec
  have hb := B.bytes
  have hr := B.returns
  have hts := atoms_spec (ws := wsX0_sumOfCurrency) B.pre
  have hown : s.vm.findClass "OwnerLedger$Batch" = some m.cls := findClass_of_methodNamed B.named
  have hlocks := B.notSynchronized
  have htb : c.exceptionTable.toList = [] := List.eq_nil_iff_forall_not_mem.mpr hnoh
  subst hsz
  have hA : ∀ q, s.heap.size ≤ q → gh_A G s.heap.size q := fun q h => Or.inr h
  generalize gh_A G s.heap.size = A at hP hE hA ⊢
  have hno : ∀ (pc : Nat), ∀ x ∈ c.exceptionTable.toList, covers x pc = false := by rw [htb]; intro _ _ h; cases h
  have CX : cxX0_sumOfCurrency p s m [.ref t, .int p0].toArray meth c D AC sa A := ⟨⟨hx, hb, hml, hown, hts⟩, hr, hlocks, htb, hK, hE, hA⟩
  have hS : va_S A s.heap s.heap [] := va_S.rf
  have hl := lv_entry ([.ref t, .int p0]) (n := 8) (Nat.le_of_ble_eq_true rfl)
  rw [lg_entry_eq]
  generalize (lg_sl ([.ref t, .int p0]) ++ List.replicate (8 - (lg_sl ([.ref t, .int p0])).length) Slot.unset).toArray = ls at hl ⊢
  have hl : lv_has ls 8 [(0, .ref t), (1, .int p0)] := hl
  dsimp only [wX0_sumOfCurrency] at hw
  refine lv_lconst (v := 0) hx hb dX0_sumOfCurrency_0 (by decide) ?_
  refine lv_lstore_n (lv' := [(2, .long 0), (0, .ref t), (1, .int p0)]) hx hb dX0_sumOfCurrency_1 rfl hl (by decide) rfl (fun ls hl => ?_)
  refine lv_aload_n hx hb dX0_sumOfCurrency_2 rfl (lv_at hl 1 rfl) ?_
  obtain ⟨fs1, x4, he2, hv3, hw⟩ := hw
  refine gh_get (ci := 0) (v := .ref x4) (C := "OwnerLedger$Batch") (T := TX0) (N := 6) hx hb hts (fun w h => gT_up (inX0 w h)) hown hK hP he2 rfl 1 (by decide) (hts _ (gT_up kw_133)) (fun _ h9 => h9) hv3 dX0_sumOfCurrency_3 ?_
  refine lv_astore (lv' := [(4, .ref x4), (2, .long 0), (0, .ref t), (1, .int p0)]) hx hb dX0_sumOfCurrency_6 hl (by decide) rfl (fun ls hl => ?_)
  refine lv_aload hx hb dX0_sumOfCurrency_8 (lv_at hl 0 rfl) ?_
  obtain ⟨k5, n6, he8, hk9, hw⟩ := hw
  obtain ⟨ty9, ht9⟩ := gh_tyat AC hk9
  refine gh_alen hx hb hK hP he8 ht9 rfl dX0_sumOfCurrency_10 ?_
  refine lv_istore (lv' := [(5, .int (Int32.ofNat n6.1)), (4, .ref x4), (2, .long 0), (0, .ref t), (1, .int p0)]) hx hb dX0_sumOfCurrency_11 hl (by decide) rfl (fun ls hl => ?_)
  refine lv_iconst (v := 0) hx hb dX0_sumOfCurrency_13 (by decide) ?_
  refine lv_istore (lv' := [(6, .int 0), (5, .int (Int32.ofNat n6.1)), (4, .ref x4), (2, .long 0), (0, .ref t), (1, .int p0)]) hx hb dX0_sumOfCurrency_14 hl (by decide) rfl (fun ls hl => ?_)
  have hl := lv_sub (l' := [(1, .int p0), (2, .long 0), (4, .ref x4), (5, .int (Int32.ofNat n6.1)), (6, .int 0)]) hl [5, 3, 2, 1, 0] rfl
  exact lX0_sumOfCurrency_16 hl0 CX post px _ _ p0 0 x4 (Int32.ofNat n6.1) 0 _ _ hw hP hS ls hl
abbrev rmX0_sumsToZero : Room := { frames := 1, cells := 0, slots := 0, locals := 27 }
abbrev cxX0_sumsToZero (p : Program) (s : State) (m : MethodId) (args : Array Value) (meth : Method) (c : Code) (D : va_G) (AC : Nat → ClassId) (sa : gh_SA) (A : Nat → Prop) : Prop := CallFix p m c prog_2_method_5_code 2 s args wsX0_sumsToZero "OwnerLedger$Batch" ∧ meth.sig.returnType = (some .boolean) ∧ meth.locks = false ∧ c.exceptionTable.toList = [] ∧ va_K D vwCl (gh_ty AC) s ∧ gh_En sa A s s.heap ∧ (∀ q, s.heap.size ≤ q → A q)
def wX0_sumsToZero_2 (post : Int32 → gh_H → Prop) (px : String → gh_H → Prop) : Nat → gh_H → Nat → Int32 → Prop
  | 0 => fun _ _ _ => False
  | n + 1 => fun G t v1 => (3 ≤ v1 → (post 1 G)) ∧ (¬ 3 ≤ v1 → (∃ fs4 : List Value, G t = some (.inr (0, fs4)) ∧ wX0_sumOfCurrency (fun r2 G3 => ((lg_cmp r2 0) = 0 → (wX0_sumsToZero_2 post px n G3 t (v1 + 1))) ∧ (¬ (lg_cmp r2 0) = 0 → (post 0 G3))) px G t v1))
set_option maxRecDepth 100000 in
set_option maxHeartbeats 4000000 in
theorem lX0_sumsToZero_2 {p : Program} {l : Launch} {e : Env} {s : State} {m : MethodId} {args : Array Value} {below : List Frame} {meth : Method} {c : Code} {D : va_G} {AC : Nat → ClassId} {sa : gh_SA} {A : Nat → Prop} (hl0 : l.stackTraces = false) (CX : cxX0_sumsToZero p s m args meth c D AC sa A) (post : Int32 → gh_H → Prop) (px : String → gh_H → Prop) : ∀ n : Nat, ∀ (G : gh_H) (t : Nat) (v1 : Int32) (H : Heap) (locs : List Loc), wX0_sumsToZero_2 post px n G t v1 → gh_h D vwCl AC A G H → va_S A s.heap H locs → ∀ ls : Array Slot, lv_has ls 2 [(0, .ref t), (1, .int v1)] → W p l e rmX0_sumsToZero s m args below meth c H locs 0 0 (vx_MQ below (va_Qi post (gh_B D vwCl AC A) A) (gh_X D vwCl AC px A) args s 0 0 A) (F0 m 2 ls []) := by
  obtain ⟨⟨hx, hb, hml, hown, hts⟩, hr, hlocks, htb, hK, hE, hA⟩ := id CX
  have hno : ∀ (pc : Nat), ∀ x ∈ c.exceptionTable.toList, covers x pc = false := by rw [htb]; intro _ _ h; cases h
  intro n
  induction n with
  | zero =>
    intro G t v1 H locs hw
    exact False.elim hw
  | succ n ih =>
    intro G t v1 H locs hw hP hS ls hl
    dsimp only [wX0_sumsToZero_2] at hw
    refine lv_iload_n hx hb dX0_sumsToZero_2 rfl (lv_at hl 1 rfl) ?_
    refine lv_iconst (v := 3) hx hb dX0_sumsToZero_3 (by decide) ?_
    refine lv_icmp_ge (tgt := 25) hx hb dX0_sumsToZero_4 (by decide) (fun c1 => ?_) (fun c1 => ?_)
    · replace hw := hw.1 c1
      refine lv_iconst (v := 1) hx hb dX0_sumsToZero_25 (by decide) ?_
      exact gh_zret hx hb hr hlocks (by decide) hw hP hS (Nat.le_of_ble_eq_true rfl) (Nat.le_of_ble_eq_true rfl) dX0_sumsToZero_26
    · replace hw := hw.2 c1
      refine lv_aload_n hx hb dX0_sumsToZero_7 rfl (lv_at hl 0 rfl) ?_
      refine lv_iload_n hx hb dX0_sumsToZero_8 rfl (lv_at hl 1 rfl) ?_
      obtain ⟨fs4, he5, hw⟩ := hw
      refine gh_cl hlocks (hno _) (vx_runV (C := "OwnerLedger$Batch") (As := [.int v1]) (rest := []) ⟨hx, hb, hml, hown, hts⟩ (mX0_sumOfCurrency l hl0 D AC sa _ _ _ _ _ _ hw) (cwV 1 hts (gV kw_205 kw_206 kw_207 kw_8 kw_208) rfl rfl rfl (by decide +kernel) ⟨Nat.le_of_ble_eq_true rfl, Nat.le_of_ble_eq_true rfl⟩) (gh_preV gh_En_ok hK hE hP hS hA he5 rfl _) rfl rfl hl.1 rfl (lv_room (Nat.le_of_ble_eq_true rfl)) dX0_sumsToZero_9 ⟨Nat.le_of_ble_eq_true rfl, Nat.le_of_ble_eq_true rfl⟩) hP hS hA (Nat.le_of_ble_eq_true rfl) (Nat.le_of_ble_eq_true rfl) (fun r2 G3 H locs hw2 hP hS => ?_)
      replace hw := hw2
      clear hw2
      refine lv_lconst (v := 0) hx hb dX0_sumsToZero_12 (by decide) ?_
      refine W.lcmp hx hb dX0_sumsToZero_13 ?_
      refine lv_if_eq (tgt := 19) hx hb dX0_sumsToZero_14 (by decide) (fun c6 => ?_) (fun c6 => ?_)
      · replace hw := hw.1 c6
        refine lv_iinc (v := (v1 + 1)) (lv' := [(1, .int (v1 + 1)), (0, .ref t)]) hx hb dX0_sumsToZero_19 hl (k := 1) rfl rfl (by decide) rfl (fun ls hl => ?_)
        refine lv_goto (tgt := 2) hx hb dX0_sumsToZero_22 (by decide) ?_
        have hl := lv_sub (l' := [(0, .ref t), (1, .int (v1 + 1))]) hl [1, 0] rfl
        exact ih _ t (v1 + 1) _ _ hw hP hS ls hl
      · replace hw := hw.2 c6
        refine lv_iconst (v := 0) hx hb dX0_sumsToZero_17 (by decide) ?_
        exact gh_zret hx hb hr hlocks (by decide) hw hP hS (Nat.le_of_ble_eq_true rfl) (Nat.le_of_ble_eq_true rfl) dX0_sumsToZero_18
def wX0_sumsToZero (post : Int32 → gh_H → Prop) (px : String → gh_H → Prop) (G : gh_H) (t : Nat) : Prop := wX0_sumsToZero_2 post px 300 G t 0
set_option maxRecDepth 100000 in
set_option maxHeartbeats 4000000 in
theorem mX0_sumsToZero (l : Launch) (hl0 : l.stackTraces = false) (D : va_G) (AC : Nat → ClassId) (sa : gh_SA) (t : Nat) (post : Int32 → gh_H → Prop) (px : String → gh_H → Prop) (G : gh_H) (sz : Nat) (hw : wX0_sumsToZero post px G t) : vx_Met l yX0_sumsToZero wsX0_sumsToZero rmX0_sumsToZero (gh_Pc D vwCl AC (gh_ty AC) (gh_En sa) G sz [.ref t]) (va_Qi post (gh_B D vwCl AC (gh_A G sz)) (gh_A G sz)) (gh_X D vwCl AC px (gh_A G sz)) 0 0 (gh_A G sz) := by
  refine vx_ofW (cc := prog_2_method_5_code) (maxL := 2) (ret := (some .boolean)) (by decide) rfl ?_
  intro p e s m args below meth c s₁ B hml hnoh hv
  obtain ⟨rfl, hsz, hP, hK, hE⟩ := hv
  have hx := B.exec
  have hb := B.bytes
  have hr := B.returns
  have hts := atoms_spec (ws := wsX0_sumsToZero) B.pre
  have hown : s.vm.findClass "OwnerLedger$Batch" = some m.cls := findClass_of_methodNamed B.named
  have hlocks := B.notSynchronized
  have htb : c.exceptionTable.toList = [] := List.eq_nil_iff_forall_not_mem.mpr hnoh
  subst hsz
  have hA : ∀ q, s.heap.size ≤ q → gh_A G s.heap.size q := fun q h => Or.inr h
  generalize gh_A G s.heap.size = A at hP hE hA ⊢
  have hno : ∀ (pc : Nat), ∀ x ∈ c.exceptionTable.toList, covers x pc = false := by rw [htb]; intro _ _ h; cases h
  have CX : cxX0_sumsToZero p s m [.ref t].toArray meth c D AC sa A := ⟨⟨hx, hb, hml, hown, hts⟩, hr, hlocks, htb, hK, hE, hA⟩
  have hS : va_S A s.heap s.heap [] := va_S.rf
  have hl := lv_entry ([.ref t]) (n := 2) (Nat.le_of_ble_eq_true rfl)
  rw [lg_entry_eq]
  generalize (lg_sl ([.ref t]) ++ List.replicate (2 - (lg_sl ([.ref t])).length) Slot.unset).toArray = ls at hl ⊢
  have hl : lv_has ls 2 [(0, .ref t)] := hl
  dsimp only [wX0_sumsToZero] at hw
  refine lv_iconst (v := 0) hx hb dX0_sumsToZero_0 (by decide) ?_
  refine lv_istore_n (lv' := [(1, .int 0), (0, .ref t)]) hx hb dX0_sumsToZero_1 rfl hl (by decide) rfl (fun ls hl => ?_)
  have hl := lv_sub (l' := [(0, .ref t), (1, .int 0)]) hl [1, 0] rfl
  exact lX0_sumsToZero_2 hl0 CX post px _ _ t 0 _ _ hw hP hS ls hl
abbrev rmX0_sumOfAccount : Room := { frames := 0, cells := 0, slots := 0, locals := 0 }
abbrev cxX0_sumOfAccount (p : Program) (s : State) (m : MethodId) (args : Array Value) (meth : Method) (c : Code) (D : va_G) (AC : Nat → ClassId) (sa : gh_SA) (A : Nat → Prop) : Prop := CallFix p m c prog_2_method_7_code 8 s args wsX0_sumOfAccount "OwnerLedger$Batch" ∧ meth.sig.returnType = (some .long) ∧ meth.locks = false ∧ c.exceptionTable.toList = [] ∧ va_K D vwCl (gh_ty AC) s ∧ gh_En sa A s s.heap ∧ (∀ q, s.heap.size ≤ q → A q)
def wX0_sumOfAccount_16 (post : Int64 → gh_H → Prop) (px : String → gh_H → Prop) : Nat → gh_H → Int32 → Int64 → Nat → Int32 → Int32 → Prop
  | 0 => fun _ _ _ _ _ _ => False
  | n + 1 => fun G p0 v2 v4 v5 v6 => (v5 ≤ v6 → (post v2 G)) ∧ (¬ v5 ≤ v6 → (∃ (k6 n2 : Nat) (f3 : Nat → Option Nat), G v4 = some (.inl (k6, n2, .inr (.inr (.inr (.inr f3))))) ∧ gh_isq k6 = true ∧ vp_in v6 n2 ∧ (∀ o8 : Option Nat, o8 = f3 v6.toNatClampNeg → (o8 = none → (wX0_sumOfAccount_16 post px n G p0 v2 v4 v5 (v6 + 1))) ∧ (∀ a10 : Nat, o8 = some a10 → (∃ (fs11 : List Value) (x14 : Int32), G a10 = some (.inr (3, fs11)) ∧ fs11[0]? = some (.int x14) ∧ ((¬ x14 = p0 → (wX0_sumOfAccount_16 post px n G p0 v2 v4 v5 (v6 + 1))) ∧ (x14 = p0 → (∃ (fs16 : List Value) (x19 : Int64), G a10 = some (.inr (3, fs16)) ∧ fs16[2]? = some (.long x19) ∧ (wX0_sumOfAccount_16 post px n G p0 (v2 + x19) v4 v5 (v6 + 1))))))))))
set_option maxRecDepth 100000 in
set_option maxHeartbeats 4000000 in
theorem lX0_sumOfAccount_16 {p : Program} {l : Launch} {e : Env} {s : State} {m : MethodId} {args : Array Value} {below : List Frame} {meth : Method} {c : Code} {D : va_G} {AC : Nat → ClassId} {sa : gh_SA} {A : Nat → Prop} (hl0 : l.stackTraces = false) (CX : cxX0_sumOfAccount p s m args meth c D AC sa A) (post : Int64 → gh_H → Prop) (px : String → gh_H → Prop) : ∀ n : Nat, ∀ (G : gh_H) (p0 : Int32) (v2 : Int64) (v4 : Nat) (v5 : Int32) (v6 : Int32) (H : Heap) (locs : List Loc), wX0_sumOfAccount_16 post px n G p0 v2 v4 v5 v6 → gh_h D vwCl AC A G H → va_S A s.heap H locs → ∀ ls : Array Slot, lv_has ls 8 [(1, .int p0), (2, .long v2), (4, .ref v4), (5, .int v5), (6, .int v6)] → W p l e rmX0_sumOfAccount s m args below meth c H locs 0 0 (vx_MQ below (va_Ql post (gh_B D vwCl AC A) A) (gh_X D vwCl AC px A) args s 0 0 A) (F0 m 16 ls []) := by
  obtain ⟨⟨hx, hb, hml, hown, hts⟩, hr, hlocks, htb, hK, hE, hA⟩ := id CX
  have hno : ∀ (pc : Nat), ∀ x ∈ c.exceptionTable.toList, covers x pc = false := by rw [htb]; intro _ _ h; cases h
  intro n
  induction n with
  | zero =>
    intro G p0 v2 v4 v5 v6 H locs hw
    exact False.elim hw
  | succ n ih =>
    intro G p0 v2 v4 v5 v6 H locs hw hP hS ls hl
    dsimp only [wX0_sumOfAccount_16] at hw
    refine lv_iload hx hb dX0_sumOfAccount_16 (lv_at hl 4 rfl) ?_
    refine lv_iload hx hb dX0_sumOfAccount_18 (lv_at hl 3 rfl) ?_
    refine lv_icmp_ge (tgt := 58) hx hb dX0_sumOfAccount_20 (by decide) (fun c1 => ?_) (fun c1 => ?_)
    · replace hw := hw.1 c1
      refine lv_lload_n hx hb dX0_sumOfAccount_58 rfl (lv_at hl 1 rfl) ?_
      exact gh_lret hx hb hr hlocks hw hP hS (Nat.le_of_ble_eq_true rfl) (Nat.le_of_ble_eq_true rfl) dX0_sumOfAccount_59
    · replace hw := hw.2 c1
      refine lv_aload hx hb dX0_sumOfAccount_23 (lv_at hl 2 rfl) ?_
      refine lv_iload hx hb dX0_sumOfAccount_25 (lv_at hl 4 rfl) ?_
      obtain ⟨k6, n2, f3, he4, hk7, hi5, hw⟩ := hw
      obtain ⟨C9, ht9⟩ := gh_tyq AC hk7
      refine gh_aald hx hb hK hP he4 ht9 hi5 dX0_sumOfAccount_27 ?_
      obtain ⟨o8, eo9⟩ : ∃ z : Option Nat, z = f3 (Int32.toNatClampNeg v6) := ⟨_, rfl⟩
      rw [← eo9]
      replace hw := hw o8 eo9
      refine gh_astore (lv' := [(7, va_rf o8), (1, .int p0), (2, .long v2), (4, .ref v4), (5, .int v5), (6, .int v6)]) hx hb dX0_sumOfAccount_28 hl (by decide) rfl (fun ls hl => ?_)
      refine gh_aload hx hb dX0_sumOfAccount_30 (lv_at hl 0 rfl) ?_
      rcases o8 with _ | a10
      · replace hw := hw.1 rfl
        have hl : lv_has ls 8 [(7, .null), (1, .int p0), (2, .long v2), (4, .ref v4), (5, .int v5), (6, .int v6)] := hl
        refine lv_ifnullN (tgt := 52) hx hb dX0_sumOfAccount_32 (by decide) ?_
        refine lv_iinc (v := (v6 + 1)) (lv' := [(6, .int (v6 + 1)), (7, .null), (1, .int p0), (2, .long v2), (4, .ref v4), (5, .int v5)]) hx hb dX0_sumOfAccount_52 hl (k := 5) rfl rfl (by decide) rfl (fun ls hl => ?_)
        refine lv_goto (tgt := 16) hx hb dX0_sumOfAccount_55 (by decide) ?_
        have hl := lv_sub (l' := [(1, .int p0), (2, .long v2), (4, .ref v4), (5, .int v5), (6, .int (v6 + 1))]) hl [2, 3, 4, 5, 0] rfl
        exact ih _ p0 v2 v4 v5 (v6 + 1) _ _ hw hP hS ls hl
      · replace hw := hw.2 a10 rfl
        have hl : lv_has ls 8 [(7, .ref a10), (1, .int p0), (2, .long v2), (4, .ref v4), (5, .int v5), (6, .int v6)] := hl
        refine lv_ifnull hx hb dX0_sumOfAccount_32 ?_
        refine lv_aload hx hb dX0_sumOfAccount_35 (lv_at hl 0 rfl) ?_
        obtain ⟨fs11, x14, he12, hv13, hw⟩ := hw
        refine gh_get (ci := 3) (v := .int x14) (C := "OwnerLedger$Row") (T := TX3) (N := 4) hx hb hts (fun w h => gT_up (inX3 w h)) hown hK hP he12 rfl 0 (by decide) (hts _ (gT_up kw_169)) (fun _ h9 => h9) hv13 dX0_sumOfAccount_37 ?_
        refine lv_iload_n hx hb dX0_sumOfAccount_40 rfl (lv_at hl 1 rfl) ?_
        refine lv_icmp_ne (tgt := 52) hx hb dX0_sumOfAccount_41 (by decide) (fun c15 => ?_) (fun c15 => ?_)
        · replace hw := hw.1 c15
          refine lv_iinc (v := (v6 + 1)) (lv' := [(6, .int (v6 + 1)), (7, .ref a10), (1, .int p0), (2, .long v2), (4, .ref v4), (5, .int v5)]) hx hb dX0_sumOfAccount_52 hl (k := 5) rfl rfl (by decide) rfl (fun ls hl => ?_)
          refine lv_goto (tgt := 16) hx hb dX0_sumOfAccount_55 (by decide) ?_
          have hl := lv_sub (l' := [(1, .int p0), (2, .long v2), (4, .ref v4), (5, .int v5), (6, .int (v6 + 1))]) hl [2, 3, 4, 5, 0] rfl
          exact ih _ p0 v2 v4 v5 (v6 + 1) _ _ hw hP hS ls hl
        · replace hw := hw.2 c15
          refine lv_lload_n hx hb dX0_sumOfAccount_44 rfl (lv_at hl 2 rfl) ?_
          refine lv_aload hx hb dX0_sumOfAccount_45 (lv_at hl 0 rfl) ?_
          obtain ⟨fs16, x19, he17, hv18, hw⟩ := hw
          refine gh_get (ci := 3) (v := .long x19) (C := "OwnerLedger$Row") (T := TX3) (N := 4) hx hb hts (fun w h => gT_up (inX3 w h)) hown hK hP he17 rfl 2 (by decide) (hts _ (gT_up kw_173)) (fun _ h9 => h9) hv18 dX0_sumOfAccount_47 ?_
          refine lv_ladd hx hb dX0_sumOfAccount_50 ?_
          refine lv_lstore_n (lv' := [(2, .long (v2 + x19)), (7, .ref a10), (1, .int p0), (4, .ref v4), (5, .int v5), (6, .int v6)]) hx hb dX0_sumOfAccount_51 rfl hl (by decide) rfl (fun ls hl => ?_)
          refine lv_iinc (v := (v6 + 1)) (lv' := [(6, .int (v6 + 1)), (2, .long (v2 + x19)), (7, .ref a10), (1, .int p0), (4, .ref v4), (5, .int v5)]) hx hb dX0_sumOfAccount_52 hl (k := 5) rfl rfl (by decide) rfl (fun ls hl => ?_)
          refine lv_goto (tgt := 16) hx hb dX0_sumOfAccount_55 (by decide) ?_
          have hl := lv_sub (l' := [(1, .int p0), (2, .long (v2 + x19)), (4, .ref v4), (5, .int v5), (6, .int (v6 + 1))]) hl [3, 1, 4, 5, 0] rfl
          exact ih _ p0 (v2 + x19) v4 v5 (v6 + 1) _ _ hw hP hS ls hl
def wX0_sumOfAccount (post : Int64 → gh_H → Prop) (px : String → gh_H → Prop) (G : gh_H) (t : Nat) (p0 : Int32) : Prop := ∃ (fs1 : List Value) (x4 : Nat), G t = some (.inr (0, fs1)) ∧ fs1[1]? = some (.ref x4) ∧ (∃ (k5 : Nat) (n6 : vp_A), G x4 = some (.inl (k5, n6)) ∧ k5 < 7 ∧ (wX0_sumOfAccount_16 post px 300 G p0 0 x4 (Int32.ofNat n6.1) 0))
set_option maxRecDepth 100000 in
set_option maxHeartbeats 4000000 in
theorem mX0_sumOfAccount (l : Launch) (hl0 : l.stackTraces = false) (D : va_G) (AC : Nat → ClassId) (sa : gh_SA) (t : Nat) (p0 : Int32) (post : Int64 → gh_H → Prop) (px : String → gh_H → Prop) (G : gh_H) (sz : Nat) (hw : wX0_sumOfAccount post px G t p0) : vx_Met l yX0_sumOfAccount wsX0_sumOfAccount rmX0_sumOfAccount (gh_Pc D vwCl AC (gh_ty AC) (gh_En sa) G sz [.ref t, .int p0]) (va_Ql post (gh_B D vwCl AC (gh_A G sz)) (gh_A G sz)) (gh_X D vwCl AC px (gh_A G sz)) 0 0 (gh_A G sz) := by
  refine vx_ofW (cc := prog_2_method_7_code) (maxL := 8) (ret := (some .long)) (by decide) rfl ?_
  intro p e s m args below meth c s₁ B hml hnoh hv
  obtain ⟨rfl, hsz, hP, hK, hE⟩ := hv
  have hx := B.exec
  have hb := B.bytes
  have hr := B.returns
  have hts := atoms_spec (ws := wsX0_sumOfAccount) B.pre
  have hown : s.vm.findClass "OwnerLedger$Batch" = some m.cls := findClass_of_methodNamed B.named
  have hlocks := B.notSynchronized
  have htb : c.exceptionTable.toList = [] := List.eq_nil_iff_forall_not_mem.mpr hnoh
  subst hsz
  have hA : ∀ q, s.heap.size ≤ q → gh_A G s.heap.size q := fun q h => Or.inr h
  generalize gh_A G s.heap.size = A at hP hE hA ⊢
  have hno : ∀ (pc : Nat), ∀ x ∈ c.exceptionTable.toList, covers x pc = false := by rw [htb]; intro _ _ h; cases h
  have CX : cxX0_sumOfAccount p s m [.ref t, .int p0].toArray meth c D AC sa A := ⟨⟨hx, hb, hml, hown, hts⟩, hr, hlocks, htb, hK, hE, hA⟩
  have hS : va_S A s.heap s.heap [] := va_S.rf
  have hl := lv_entry ([.ref t, .int p0]) (n := 8) (Nat.le_of_ble_eq_true rfl)
  rw [lg_entry_eq]
  generalize (lg_sl ([.ref t, .int p0]) ++ List.replicate (8 - (lg_sl ([.ref t, .int p0])).length) Slot.unset).toArray = ls at hl ⊢
  have hl : lv_has ls 8 [(0, .ref t), (1, .int p0)] := hl
  dsimp only [wX0_sumOfAccount] at hw
  refine lv_lconst (v := 0) hx hb dX0_sumOfAccount_0 (by decide) ?_
  refine lv_lstore_n (lv' := [(2, .long 0), (0, .ref t), (1, .int p0)]) hx hb dX0_sumOfAccount_1 rfl hl (by decide) rfl (fun ls hl => ?_)
  refine lv_aload_n hx hb dX0_sumOfAccount_2 rfl (lv_at hl 1 rfl) ?_
  obtain ⟨fs1, x4, he2, hv3, hw⟩ := hw
  refine gh_get (ci := 0) (v := .ref x4) (C := "OwnerLedger$Batch") (T := TX0) (N := 6) hx hb hts (fun w h => gT_up (inX0 w h)) hown hK hP he2 rfl 1 (by decide) (hts _ (gT_up kw_133)) (fun _ h9 => h9) hv3 dX0_sumOfAccount_3 ?_
  refine lv_astore (lv' := [(4, .ref x4), (2, .long 0), (0, .ref t), (1, .int p0)]) hx hb dX0_sumOfAccount_6 hl (by decide) rfl (fun ls hl => ?_)
  refine lv_aload hx hb dX0_sumOfAccount_8 (lv_at hl 0 rfl) ?_
  obtain ⟨k5, n6, he8, hk9, hw⟩ := hw
  obtain ⟨ty9, ht9⟩ := gh_tyat AC hk9
  refine gh_alen hx hb hK hP he8 ht9 rfl dX0_sumOfAccount_10 ?_
  refine lv_istore (lv' := [(5, .int (Int32.ofNat n6.1)), (4, .ref x4), (2, .long 0), (0, .ref t), (1, .int p0)]) hx hb dX0_sumOfAccount_11 hl (by decide) rfl (fun ls hl => ?_)
  refine lv_iconst (v := 0) hx hb dX0_sumOfAccount_13 (by decide) ?_
  refine lv_istore (lv' := [(6, .int 0), (5, .int (Int32.ofNat n6.1)), (4, .ref x4), (2, .long 0), (0, .ref t), (1, .int p0)]) hx hb dX0_sumOfAccount_14 hl (by decide) rfl (fun ls hl => ?_)
  have hl := lv_sub (l' := [(1, .int p0), (2, .long 0), (4, .ref x4), (5, .int (Int32.ofNat n6.1)), (6, .int 0)]) hl [5, 3, 2, 1, 0] rfl
  exact lX0_sumOfAccount_16 hl0 CX post px _ _ p0 0 x4 (Int32.ofNat n6.1) 0 _ _ hw hP hS ls hl
abbrev rmX1_init : Room := { frames := 1, cells := 0, slots := 0, locals := 12 }
abbrev cxX1_init (p : Program) (s : State) (m : MethodId) (args : Array Value) (meth : Method) (c : Code) (D : va_G) (AC : Nat → ClassId) (sa : gh_SA) (A : Nat → Prop) : Prop := CallFix p m c prog_3_method_1_code 5 s args wsX1_init "OwnerLedger$Invoice" ∧ meth.sig.returnType = none ∧ meth.locks = false ∧ c.exceptionTable.toList = [] ∧ va_K D vwCl (gh_ty AC) s ∧ gh_En sa A s s.heap ∧ (∀ q, s.heap.size ≤ q → A q) ∧ meth.name = "<init>"
def wX1_init (post : gh_H → Prop) (px : String → gh_H → Prop) (G : gh_H) (t : Nat) (p0 : Int32) (p1 : Int64) (p2 : Int32) : Prop := ∃ fs1 : List Value, G t = some (.inr (1, fs1)) ∧ 0 < fs1.length ∧ (∀ G4 : gh_H, G4 = gh_up G t (.inr (1, fs1.set 0 (.int p0))) → ∃ fs6 : List Value, G4 t = some (.inr (1, fs6)) ∧ 2 < fs6.length ∧ (∀ G9 : gh_H, G9 = gh_up G4 t (.inr (1, fs6.set 2 (.long p1))) → ∃ fs11 : List Value, G9 t = some (.inr (1, fs11)) ∧ 1 < fs11.length ∧ (∀ G14 : gh_H, G14 = gh_up G9 t (.inr (1, fs11.set 1 (.int p2))) → post G14)))
set_option maxRecDepth 100000 in
set_option maxHeartbeats 4000000 in
theorem mX1_init (l : Launch) (hl0 : l.stackTraces = false) (D : va_G) (AC : Nat → ClassId) (sa : gh_SA) (t : Nat) (p0 : Int32) (p1 : Int64) (p2 : Int32) (post : gh_H → Prop) (px : String → gh_H → Prop) (G : gh_H) (sz : Nat) (hw : wX1_init post px G t p0 p1 p2) : Met l yX1_init wsX1_init rmX1_init (gh_Pc D vwCl AC (gh_ty AC) (gh_En sa) G sz [.ref t, .int p0, .long p1, .int p2]) (va_Qv post (gh_B D vwCl AC (gh_A G sz)) (gh_A G sz)) 0 0 (gh_A G sz) := by
  refine Met.ofW (cc := prog_3_method_1_code) (maxL := 5) (ret := none) (by decide) rfl ?_
  intro p e s m args below meth c s₁ B hml hv
  obtain ⟨rfl, hsz, hP, hK, hE⟩ := hv
  have hx := B.exec
  have hb := B.bytes
  have hr := B.returns
  have hts := atoms_spec (ws := wsX1_init) B.pre
  have hown : s.vm.findClass "OwnerLedger$Invoice" = some m.cls := findClass_of_methodNamed B.named
  have hlocks := B.notSynchronized
  have hin : meth.name = "<init>" := (name_of_methodNamed B.named B.method).1
  have htb : c.exceptionTable.toList = [] := gh_notab B (hts _ List.mem_cons_self)
  subst hsz
  have hA : ∀ q, s.heap.size ≤ q → gh_A G s.heap.size q := fun q h => Or.inr h
  generalize gh_A G s.heap.size = A at hP hE hA ⊢
  have hno : ∀ (pc : Nat), ∀ x ∈ c.exceptionTable.toList, covers x pc = false := by rw [htb]; intro _ _ h; cases h
  have CX : cxX1_init p s m [.ref t, .int p0, .long p1, .int p2].toArray meth c D AC sa A := ⟨⟨hx, hb, hml, hown, hts⟩, hr, hlocks, htb, hK, hE, hA, hin⟩
  have hS : va_S A s.heap s.heap [] := va_S.rf
  have hl := lv_entry ([.ref t, .int p0, .long p1, .int p2]) (n := 5) (Nat.le_of_ble_eq_true rfl)
  rw [lg_entry_eq]
  generalize (lg_sl ([.ref t, .int p0, .long p1, .int p2]) ++ List.replicate (5 - (lg_sl ([.ref t, .int p0, .long p1, .int p2])).length) Slot.unset).toArray = ls at hl ⊢
  have hl : lv_has ls 5 [(0, .ref t), (1, .int p0), (2, .long p1), (4, .int p2)] := hl
  dsimp only [wX1_init] at hw
  refine lv_aload_n hx hb dX1_init_0 rfl (lv_at hl 0 rfl) ?_
  refine W.objInit hx hb hown (hts _ (gT_up kw_251)) (hts _ (gT_up kw_18)) (hts _ (gT_up kw_19)) rfl (by rw [hml]; exact hl.1) rfl dX1_init_1 (Nat.le_of_ble_eq_true rfl) (Nat.le_of_ble_eq_true rfl) ?_
  refine W.eq (g2 := F0 m 4 ls []) rfl ?_
  refine lv_aload_n hx hb dX1_init_4 rfl (lv_at hl 0 rfl) ?_
  refine lv_iload_n hx hb dX1_init_5 rfl (lv_at hl 1 rfl) ?_
  obtain ⟨fs1, he2, hk3, hw⟩ := hw
  refine gh_putF (ci := 1) (v := .int p0) (ty := .int) (C := "OwnerLedger$Invoice") (T := TX1) (N := 5) hx hb hts (fun w h => gT_up (inX1 w h)) tyX1 tyX1_ok nmX1 hown hK hP hS he2 rfl 0 (by decide) (hts _ (gT_up kw_252)) (fun _ h9 => h9) rfl hin rfl (by decide +kernel) rfl rfl hk3 dX1_init_6 (fun G4 H locs eG5 hP hS => ?_)
  replace hw := hw G4 eG5
  refine lv_aload_n hx hb dX1_init_9 rfl (lv_at hl 0 rfl) ?_
  refine lv_lload_n hx hb dX1_init_10 rfl (lv_at hl 2 rfl) ?_
  obtain ⟨fs6, he7, hk8, hw⟩ := hw
  refine gh_put (ci := 1) (v := .long p1) (ty := .long) (C := "OwnerLedger$Invoice") (T := TX1) (N := 5) hx hb hts (fun w h => gT_up (inX1 w h)) tyX1 tyX1_ok nmX1 hown hK hP hS he7 rfl 2 (by decide) (hts _ (gT_up kw_256)) (fun _ h9 => h9) rfl (by decide +kernel) rfl rfl hk8 dX1_init_11 (fun G9 H locs eG10 hP hS => ?_)
  replace hw := hw G9 eG10
  refine lv_aload_n hx hb dX1_init_14 rfl (lv_at hl 0 rfl) ?_
  refine lv_iload hx hb dX1_init_15 (lv_at hl 3 rfl) ?_
  obtain ⟨fs11, he12, hk13, hw⟩ := hw
  refine gh_putF (ci := 1) (v := .int p2) (ty := .int) (C := "OwnerLedger$Invoice") (T := TX1) (N := 5) hx hb hts (fun w h => gT_up (inX1 w h)) tyX1 tyX1_ok nmX1 hown hK hP hS he12 rfl 1 (by decide) (hts _ (gT_up kw_254)) (fun _ h9 => h9) rfl hin rfl (by decide +kernel) rfl rfl hk13 dX1_init_17 (fun G14 H locs eG15 hP hS => ?_)
  replace hw := hw G14 eG15
  exact gh_vretM hx hb hr hlocks hw hP hS (Nat.le_of_ble_eq_true rfl) (Nat.le_of_ble_eq_true rfl) dX1_init_20
abbrev rmX1_takeFrom : Room := { frames := 1, cells := 0, slots := 0, locals := 15 }
abbrev cxX1_takeFrom (p : Program) (s : State) (m : MethodId) (args : Array Value) (meth : Method) (c : Code) (D : va_G) (AC : Nat → ClassId) (sa : gh_SA) (A : Nat → Prop) : Prop := CallFix p m c prog_3_method_2_code 5 s args wsX1_takeFrom "OwnerLedger$Invoice" ∧ meth.sig.returnType = (some .long) ∧ meth.locks = false ∧ c.exceptionTable.toList = [] ∧ va_K D vwCl (gh_ty AC) s ∧ gh_En sa A s s.heap ∧ (∀ q, s.heap.size ≤ q → A q)
def wX1_takeFrom (post : Int64 → gh_H → Prop) (px : String → gh_H → Prop) (G : gh_H) (t : Nat) (p0 : Int64) : Prop := ∃ (fs1 : List Value) (x4 : Int64), G t = some (.inr (1, fs1)) ∧ fs1[2]? = some (.long x4) ∧ (∃ (fs5 : List Value) (x8 : Int64), G t = some (.inr (1, fs5)) ∧ fs5[2]? = some (.long x8) ∧ (∃ fs9 : List Value, G t = some (.inr (1, fs9)) ∧ 2 < fs9.length ∧ (∀ G12 : gh_H, G12 = gh_up G t (.inr (1, fs9.set 2 (.long (x8 - (if p0 < x4 then p0 else x4))))) → post (p0 - (if p0 < x4 then p0 else x4)) G12)))
set_option maxRecDepth 100000 in
set_option maxHeartbeats 4000000 in
theorem mX1_takeFrom (l : Launch) (hl0 : l.stackTraces = false) (D : va_G) (AC : Nat → ClassId) (sa : gh_SA) (t : Nat) (p0 : Int64) (post : Int64 → gh_H → Prop) (px : String → gh_H → Prop) (G : gh_H) (sz : Nat) (hw : wX1_takeFrom post px G t p0) : vx_Met l yX1_takeFrom wsX1_takeFrom rmX1_takeFrom (gh_Pc D vwCl AC (gh_ty AC) (gh_En sa) G sz [.ref t, .long p0]) (va_Ql post (gh_B D vwCl AC (gh_A G sz)) (gh_A G sz)) (gh_X D vwCl AC px (gh_A G sz)) 0 0 (gh_A G sz) := by
  refine vx_ofW (cc := prog_3_method_2_code) (maxL := 5) (ret := (some .long)) (by decide) rfl ?_
  intro p e s m args below meth c s₁ B hml hnoh hv
  obtain ⟨rfl, hsz, hP, hK, hE⟩ := hv
  have hx := B.exec
  have hb := B.bytes
  have hr := B.returns
  have hts := atoms_spec (ws := wsX1_takeFrom) B.pre
  have hown : s.vm.findClass "OwnerLedger$Invoice" = some m.cls := findClass_of_methodNamed B.named
  have hlocks := B.notSynchronized
  have htb : c.exceptionTable.toList = [] := List.eq_nil_iff_forall_not_mem.mpr hnoh
  subst hsz
  have hA : ∀ q, s.heap.size ≤ q → gh_A G s.heap.size q := fun q h => Or.inr h
  generalize gh_A G s.heap.size = A at hP hE hA ⊢
  have hno : ∀ (pc : Nat), ∀ x ∈ c.exceptionTable.toList, covers x pc = false := by rw [htb]; intro _ _ h; cases h
  have CX : cxX1_takeFrom p s m [.ref t, .long p0].toArray meth c D AC sa A := ⟨⟨hx, hb, hml, hown, hts⟩, hr, hlocks, htb, hK, hE, hA⟩
  have hS : va_S A s.heap s.heap [] := va_S.rf
  have hl := lv_entry ([.ref t, .long p0]) (n := 5) (Nat.le_of_ble_eq_true rfl)
  rw [lg_entry_eq]
  generalize (lg_sl ([.ref t, .long p0]) ++ List.replicate (5 - (lg_sl ([.ref t, .long p0])).length) Slot.unset).toArray = ls at hl ⊢
  have hl : lv_has ls 5 [(0, .ref t), (1, .long p0)] := hl
  dsimp only [wX1_takeFrom] at hw
  refine lv_aload_n hx hb dX1_takeFrom_0 rfl (lv_at hl 0 rfl) ?_
  obtain ⟨fs1, x4, he2, hv3, hw⟩ := hw
  refine gh_get (ci := 1) (v := .long x4) (C := "OwnerLedger$Invoice") (T := TX1) (N := 5) hx hb hts (fun w h => gT_up (inX1 w h)) hown hK hP he2 rfl 2 (by decide) (hts _ (gT_up kw_256)) (fun _ h9 => h9) hv3 dX1_takeFrom_1 ?_
  refine lv_lload_n hx hb dX1_takeFrom_4 rfl (lv_at hl 1 rfl) ?_
  refine va_mmin_long hx hb (hml.trans hl.1.symm) hown (hts _ (gT_up kw_265)) (hts _ (gT_up kw_266)) (hts _ (gT_up kw_11)) (hts _ (gT_up kw_267)) (Nat.le_of_ble_eq_true rfl) (Nat.le_of_ble_eq_true rfl) (Nat.le_of_ble_eq_true rfl) (Nat.le_of_ble_eq_true rfl) dX1_takeFrom_5 ?_
  refine lv_lstore_n (lv' := [(3, .long (if p0 < x4 then p0 else x4)), (0, .ref t), (1, .long p0)]) hx hb dX1_takeFrom_8 rfl hl (by decide) rfl (fun ls hl => ?_)
  refine lv_aload_n hx hb dX1_takeFrom_9 rfl (lv_at hl 1 rfl) ?_
  refine lv_dup hx hb dX1_takeFrom_10 rfl ?_
  obtain ⟨fs5, x8, he6, hv7, hw⟩ := hw
  refine gh_get (ci := 1) (v := .long x8) (C := "OwnerLedger$Invoice") (T := TX1) (N := 5) hx hb hts (fun w h => gT_up (inX1 w h)) hown hK hP he6 rfl 2 (by decide) (hts _ (gT_up kw_256)) (fun _ h9 => h9) hv7 dX1_takeFrom_11 ?_
  refine lv_lload_n hx hb dX1_takeFrom_14 rfl (lv_at hl 0 rfl) ?_
  refine lv_lsub hx hb dX1_takeFrom_15 ?_
  obtain ⟨fs9, he10, hk11, hw⟩ := hw
  refine gh_put (ci := 1) (v := .long (x8 - (if p0 < x4 then p0 else x4))) (ty := .long) (C := "OwnerLedger$Invoice") (T := TX1) (N := 5) hx hb hts (fun w h => gT_up (inX1 w h)) tyX1 tyX1_ok nmX1 hown hK hP hS he10 rfl 2 (by decide) (hts _ (gT_up kw_256)) (fun _ h9 => h9) rfl (by decide +kernel) rfl rfl hk11 dX1_takeFrom_16 (fun G12 H locs eG13 hP hS => ?_)
  replace hw := hw G12 eG13
  refine lv_lload_n hx hb dX1_takeFrom_19 rfl (lv_at hl 2 rfl) ?_
  refine lv_lload_n hx hb dX1_takeFrom_20 rfl (lv_at hl 0 rfl) ?_
  refine lv_lsub hx hb dX1_takeFrom_21 ?_
  exact gh_lret hx hb hr hlocks hw hP hS (Nat.le_of_ble_eq_true rfl) (Nat.le_of_ble_eq_true rfl) dX1_takeFrom_22
abbrev rmX1_isOverdue : Room := { frames := 0, cells := 0, slots := 0, locals := 0 }
abbrev cxX1_isOverdue (p : Program) (s : State) (m : MethodId) (args : Array Value) (meth : Method) (c : Code) (D : va_G) (AC : Nat → ClassId) (sa : gh_SA) (A : Nat → Prop) : Prop := CallFix p m c prog_3_method_3_code 2 s args wsX1_isOverdue "OwnerLedger$Invoice" ∧ meth.sig.returnType = (some .boolean) ∧ meth.locks = false ∧ c.exceptionTable.toList = [] ∧ va_K D vwCl (gh_ty AC) s ∧ gh_En sa A s s.heap ∧ (∀ q, s.heap.size ≤ q → A q)
def wX1_isOverdue (post : Int32 → gh_H → Prop) (px : String → gh_H → Prop) (G : gh_H) (t : Nat) (p0 : Int32) : Prop := ∃ (fs1 : List Value) (x4 : Int64), G t = some (.inr (1, fs1)) ∧ fs1[2]? = some (.long x4) ∧ (((lg_cmp x4 0) ≤ 0 → (post 0 G)) ∧ (¬ (lg_cmp x4 0) ≤ 0 → (∃ (fs6 : List Value) (x9 : Int32), G t = some (.inr (1, fs6)) ∧ fs6[4]? = some (.int x9) ∧ ((¬ x9 = 0 → (post 0 G)) ∧ (x9 = 0 → (∃ (fs11 : List Value) (x14 : Int32), G t = some (.inr (1, fs11)) ∧ fs11[1]? = some (.int x14) ∧ ((p0 ≤ x14 → (post 0 G)) ∧ (¬ p0 ≤ x14 → (post 1 G)))))))))
set_option maxRecDepth 100000 in
set_option maxHeartbeats 4000000 in
theorem mX1_isOverdue (l : Launch) (hl0 : l.stackTraces = false) (D : va_G) (AC : Nat → ClassId) (sa : gh_SA) (t : Nat) (p0 : Int32) (post : Int32 → gh_H → Prop) (px : String → gh_H → Prop) (G : gh_H) (sz : Nat) (hw : wX1_isOverdue post px G t p0) : vx_Met l yX1_isOverdue wsX1_isOverdue rmX1_isOverdue (gh_Pc D vwCl AC (gh_ty AC) (gh_En sa) G sz [.ref t, .int p0]) (va_Qi post (gh_B D vwCl AC (gh_A G sz)) (gh_A G sz)) (gh_X D vwCl AC px (gh_A G sz)) 0 0 (gh_A G sz) := by
  refine vx_ofW (cc := prog_3_method_3_code) (maxL := 2) (ret := (some .boolean)) (by decide) rfl ?_
  intro p e s m args below meth c s₁ B hml hnoh hv
  obtain ⟨rfl, hsz, hP, hK, hE⟩ := hv
  have hx := B.exec
  have hb := B.bytes
  have hr := B.returns
  have hts := atoms_spec (ws := wsX1_isOverdue) B.pre
  have hown : s.vm.findClass "OwnerLedger$Invoice" = some m.cls := findClass_of_methodNamed B.named
  have hlocks := B.notSynchronized
  have htb : c.exceptionTable.toList = [] := List.eq_nil_iff_forall_not_mem.mpr hnoh
  subst hsz
  have hA : ∀ q, s.heap.size ≤ q → gh_A G s.heap.size q := fun q h => Or.inr h
  generalize gh_A G s.heap.size = A at hP hE hA ⊢
  have hno : ∀ (pc : Nat), ∀ x ∈ c.exceptionTable.toList, covers x pc = false := by rw [htb]; intro _ _ h; cases h
  have CX : cxX1_isOverdue p s m [.ref t, .int p0].toArray meth c D AC sa A := ⟨⟨hx, hb, hml, hown, hts⟩, hr, hlocks, htb, hK, hE, hA⟩
  have hS : va_S A s.heap s.heap [] := va_S.rf
  have hl := lv_entry ([.ref t, .int p0]) (n := 2) (Nat.le_of_ble_eq_true rfl)
  rw [lg_entry_eq]
  generalize (lg_sl ([.ref t, .int p0]) ++ List.replicate (2 - (lg_sl ([.ref t, .int p0])).length) Slot.unset).toArray = ls at hl ⊢
  have hl : lv_has ls 2 [(0, .ref t), (1, .int p0)] := hl
  dsimp only [wX1_isOverdue] at hw
  refine lv_aload_n hx hb dX1_isOverdue_0 rfl (lv_at hl 0 rfl) ?_
  obtain ⟨fs1, x4, he2, hv3, hw⟩ := hw
  refine gh_get (ci := 1) (v := .long x4) (C := "OwnerLedger$Invoice") (T := TX1) (N := 5) hx hb hts (fun w h => gT_up (inX1 w h)) hown hK hP he2 rfl 2 (by decide) (hts _ (gT_up kw_256)) (fun _ h9 => h9) hv3 dX1_isOverdue_1 ?_
  refine lv_lconst (v := 0) hx hb dX1_isOverdue_4 (by decide) ?_
  refine W.lcmp hx hb dX1_isOverdue_5 ?_
  refine lv_if_le (tgt := 28) hx hb dX1_isOverdue_6 (by decide) (fun c5 => ?_) (fun c5 => ?_)
  · replace hw := hw.1 c5
    refine lv_iconst (v := 0) hx hb dX1_isOverdue_28 (by decide) ?_
    exact gh_zret hx hb hr hlocks (by decide) hw hP hS (Nat.le_of_ble_eq_true rfl) (Nat.le_of_ble_eq_true rfl) dX1_isOverdue_29
  · replace hw := hw.2 c5
    refine lv_aload_n hx hb dX1_isOverdue_9 rfl (lv_at hl 0 rfl) ?_
    obtain ⟨fs6, x9, he7, hv8, hw⟩ := hw
    refine gh_get (ci := 1) (v := .int x9) (C := "OwnerLedger$Invoice") (T := TX1) (N := 5) hx hb hts (fun w h => gT_up (inX1 w h)) hown hK hP he7 rfl 4 (by decide) (hts _ (gT_up kw_259)) (fun _ h9 => h9) hv8 dX1_isOverdue_10 ?_
    refine lv_if_ne (tgt := 28) hx hb dX1_isOverdue_13 (by decide) (fun c10 => ?_) (fun c10 => ?_)
    · replace hw := hw.1 c10
      refine lv_iconst (v := 0) hx hb dX1_isOverdue_28 (by decide) ?_
      exact gh_zret hx hb hr hlocks (by decide) hw hP hS (Nat.le_of_ble_eq_true rfl) (Nat.le_of_ble_eq_true rfl) dX1_isOverdue_29
    · replace hw := hw.2 c10
      refine lv_iload_n hx hb dX1_isOverdue_16 rfl (lv_at hl 1 rfl) ?_
      refine lv_aload_n hx hb dX1_isOverdue_17 rfl (lv_at hl 0 rfl) ?_
      obtain ⟨fs11, x14, he12, hv13, hw⟩ := hw
      refine gh_get (ci := 1) (v := .int x14) (C := "OwnerLedger$Invoice") (T := TX1) (N := 5) hx hb hts (fun w h => gT_up (inX1 w h)) hown hK hP he12 rfl 1 (by decide) (hts _ (gT_up kw_254)) (fun _ h9 => h9) hv13 dX1_isOverdue_18 ?_
      refine lv_icmp_le (tgt := 28) hx hb dX1_isOverdue_21 (by decide) (fun c15 => ?_) (fun c15 => ?_)
      · replace hw := hw.1 c15
        refine lv_iconst (v := 0) hx hb dX1_isOverdue_28 (by decide) ?_
        exact gh_zret hx hb hr hlocks (by decide) hw hP hS (Nat.le_of_ble_eq_true rfl) (Nat.le_of_ble_eq_true rfl) dX1_isOverdue_29
      · replace hw := hw.2 c15
        refine lv_iconst (v := 1) hx hb dX1_isOverdue_24 (by decide) ?_
        refine lv_goto (tgt := 29) hx hb dX1_isOverdue_25 (by decide) ?_
        exact gh_zret hx hb hr hlocks (by decide) hw hP hS (Nat.le_of_ble_eq_true rfl) (Nat.le_of_ble_eq_true rfl) dX1_isOverdue_29
abbrev rmX1_monthsOverdue : Room := { frames := 1, cells := 0, slots := 0, locals := 21 }
abbrev cxX1_monthsOverdue (p : Program) (s : State) (m : MethodId) (args : Array Value) (meth : Method) (c : Code) (D : va_G) (AC : Nat → ClassId) (sa : gh_SA) (A : Nat → Prop) : Prop := CallFix p m c prog_3_method_4_code 2 s args wsX1_monthsOverdue "OwnerLedger$Invoice" ∧ meth.sig.returnType = (some .int) ∧ meth.locks = false ∧ c.exceptionTable.toList = [] ∧ va_K D vwCl (gh_ty AC) s ∧ gh_En sa A s s.heap ∧ (∀ q, s.heap.size ≤ q → A q)
def wX1_monthsOverdue (post : Int32 → gh_H → Prop) (px : String → gh_H → Prop) (G : gh_H) (t : Nat) (p0 : Int32) : Prop := ∃ fs3 : List Value, G t = some (.inr (1, fs3)) ∧ wX1_isOverdue (fun r1 G2 => (r1 = 0 → (post 0 G2)) ∧ (¬ r1 = 0 → (∃ (fs6 : List Value) (x9 : Int32), G2 t = some (.inr (1, fs6)) ∧ fs6[1]? = some (.int x9) ∧ (post (p0 - x9) G2)))) px G t p0
set_option maxRecDepth 100000 in
set_option maxHeartbeats 4000000 in
theorem mX1_monthsOverdue (l : Launch) (hl0 : l.stackTraces = false) (D : va_G) (AC : Nat → ClassId) (sa : gh_SA) (t : Nat) (p0 : Int32) (post : Int32 → gh_H → Prop) (px : String → gh_H → Prop) (G : gh_H) (sz : Nat) (hw : wX1_monthsOverdue post px G t p0) : vx_Met l yX1_monthsOverdue wsX1_monthsOverdue rmX1_monthsOverdue (gh_Pc D vwCl AC (gh_ty AC) (gh_En sa) G sz [.ref t, .int p0]) (va_Qi post (gh_B D vwCl AC (gh_A G sz)) (gh_A G sz)) (gh_X D vwCl AC px (gh_A G sz)) 0 0 (gh_A G sz) := by
  refine vx_ofW (cc := prog_3_method_4_code) (maxL := 2) (ret := (some .int)) (by decide) rfl ?_
  intro p e s m args below meth c s₁ B hml hnoh hv
  obtain ⟨rfl, hsz, hP, hK, hE⟩ := hv
  have hx := B.exec
  have hb := B.bytes
  have hr := B.returns
  have hts := atoms_spec (ws := wsX1_monthsOverdue) B.pre
  have hown : s.vm.findClass "OwnerLedger$Invoice" = some m.cls := findClass_of_methodNamed B.named
  have hlocks := B.notSynchronized
  have htb : c.exceptionTable.toList = [] := List.eq_nil_iff_forall_not_mem.mpr hnoh
  subst hsz
  have hA : ∀ q, s.heap.size ≤ q → gh_A G s.heap.size q := fun q h => Or.inr h
  generalize gh_A G s.heap.size = A at hP hE hA ⊢
  have hno : ∀ (pc : Nat), ∀ x ∈ c.exceptionTable.toList, covers x pc = false := by rw [htb]; intro _ _ h; cases h
  have CX : cxX1_monthsOverdue p s m [.ref t, .int p0].toArray meth c D AC sa A := ⟨⟨hx, hb, hml, hown, hts⟩, hr, hlocks, htb, hK, hE, hA⟩
  have hS : va_S A s.heap s.heap [] := va_S.rf
  have hl := lv_entry ([.ref t, .int p0]) (n := 2) (Nat.le_of_ble_eq_true rfl)
  rw [lg_entry_eq]
  generalize (lg_sl ([.ref t, .int p0]) ++ List.replicate (2 - (lg_sl ([.ref t, .int p0])).length) Slot.unset).toArray = ls at hl ⊢
  have hl : lv_has ls 2 [(0, .ref t), (1, .int p0)] := hl
  dsimp only [wX1_monthsOverdue] at hw
  refine lv_aload_n hx hb dX1_monthsOverdue_0 rfl (lv_at hl 0 rfl) ?_
  refine lv_iload_n hx hb dX1_monthsOverdue_1 rfl (lv_at hl 1 rfl) ?_
  obtain ⟨fs3, he4, hw⟩ := hw
  refine gh_ci hlocks (hno _) (vx_runV (C := "OwnerLedger$Invoice") (As := [.int p0]) (rest := []) ⟨hx, hb, hml, hown, hts⟩ (mX1_isOverdue l hl0 D AC sa _ _ _ _ _ _ hw) (cwV 1 hts (gV kw_325 kw_303 kw_304 kw_10 kw_305) rfl rfl rfl (by decide +kernel) ⟨Nat.le_of_ble_eq_true rfl, Nat.le_of_ble_eq_true rfl⟩) (gh_preV gh_En_ok hK hE hP hS hA he4 rfl _) rfl rfl hl.1 rfl (lv_room (Nat.le_of_ble_eq_true rfl)) dX1_monthsOverdue_2 ⟨Nat.le_of_ble_eq_true rfl, Nat.le_of_ble_eq_true rfl⟩) hP hS hA (Nat.le_of_ble_eq_true rfl) (Nat.le_of_ble_eq_true rfl) (fun r1 G2 H locs hw2 hP hS => ?_)
  replace hw := hw2
  clear hw2
  refine lv_if_eq (tgt := 17) hx hb dX1_monthsOverdue_5 (by decide) (fun c5 => ?_) (fun c5 => ?_)
  · replace hw := hw.1 c5
    refine lv_iconst (v := 0) hx hb dX1_monthsOverdue_17 (by decide) ?_
    exact gh_iret hx hb hr hlocks hw hP hS (Nat.le_of_ble_eq_true rfl) (Nat.le_of_ble_eq_true rfl) dX1_monthsOverdue_18
  · replace hw := hw.2 c5
    refine lv_iload_n hx hb dX1_monthsOverdue_8 rfl (lv_at hl 1 rfl) ?_
    refine lv_aload_n hx hb dX1_monthsOverdue_9 rfl (lv_at hl 0 rfl) ?_
    obtain ⟨fs6, x9, he7, hv8, hw⟩ := hw
    refine gh_get (ci := 1) (v := .int x9) (C := "OwnerLedger$Invoice") (T := TX1) (N := 5) hx hb hts (fun w h => gT_up (inX1 w h)) hown hK hP he7 rfl 1 (by decide) (hts _ (gT_up kw_254)) (fun _ h9 => h9) hv8 dX1_monthsOverdue_10 ?_
    refine lv_isub hx hb dX1_monthsOverdue_13 ?_
    refine lv_goto (tgt := 18) hx hb dX1_monthsOverdue_14 (by decide) ?_
    exact gh_iret hx hb hr hlocks hw hP hS (Nat.le_of_ble_eq_true rfl) (Nat.le_of_ble_eq_true rfl) dX1_monthsOverdue_18
abbrev rmX2_init : Room := { frames := 1, cells := 0, slots := 0, locals := 12 }
abbrev cxX2_init (p : Program) (s : State) (m : MethodId) (args : Array Value) (meth : Method) (c : Code) (D : va_G) (AC : Nat → ClassId) (sa : gh_SA) (A : Nat → Prop) : Prop := CallFix p m c prog_4_method_1_code 1 s args wsX2_init "OwnerLedger$Owner" ∧ meth.sig.returnType = none ∧ meth.locks = false ∧ c.exceptionTable.toList = [] ∧ va_K D vwCl (gh_ty AC) s ∧ gh_En sa A s s.heap ∧ (∀ q, s.heap.size ≤ q → A q) ∧ meth.name = "<init>"
def wX2_init (post : gh_H → Prop) (px : String → gh_H → Prop) (G : gh_H) (t : Nat) : Prop := post G
set_option maxRecDepth 100000 in
set_option maxHeartbeats 4000000 in
theorem mX2_init (l : Launch) (hl0 : l.stackTraces = false) (D : va_G) (AC : Nat → ClassId) (sa : gh_SA) (t : Nat) (post : gh_H → Prop) (px : String → gh_H → Prop) (G : gh_H) (sz : Nat) (hw : wX2_init post px G t) : Met l yX2_init wsX2_init rmX2_init (gh_Pc D vwCl AC (gh_ty AC) (gh_En sa) G sz [.ref t]) (va_Qv post (gh_B D vwCl AC (gh_A G sz)) (gh_A G sz)) 0 0 (gh_A G sz) := by
  refine Met.ofW (cc := prog_4_method_1_code) (maxL := 1) (ret := none) (by decide) rfl ?_
  intro p e s m args below meth c s₁ B hml hv
  obtain ⟨rfl, hsz, hP, hK, hE⟩ := hv
  have hx := B.exec
  have hb := B.bytes
  have hr := B.returns
  have hts := atoms_spec (ws := wsX2_init) B.pre
  have hown : s.vm.findClass "OwnerLedger$Owner" = some m.cls := findClass_of_methodNamed B.named
  have hlocks := B.notSynchronized
  have hin : meth.name = "<init>" := (name_of_methodNamed B.named B.method).1
  have htb : c.exceptionTable.toList = [] := gh_notab B (hts _ List.mem_cons_self)
  subst hsz
  have hA : ∀ q, s.heap.size ≤ q → gh_A G s.heap.size q := fun q h => Or.inr h
  generalize gh_A G s.heap.size = A at hP hE hA ⊢
  have hno : ∀ (pc : Nat), ∀ x ∈ c.exceptionTable.toList, covers x pc = false := by rw [htb]; intro _ _ h; cases h
  have CX : cxX2_init p s m [.ref t].toArray meth c D AC sa A := ⟨⟨hx, hb, hml, hown, hts⟩, hr, hlocks, htb, hK, hE, hA, hin⟩
  have hS : va_S A s.heap s.heap [] := va_S.rf
  have hl := lv_entry ([.ref t]) (n := 1) (Nat.le_of_ble_eq_true rfl)
  rw [lg_entry_eq]
  generalize (lg_sl ([.ref t]) ++ List.replicate (1 - (lg_sl ([.ref t])).length) Slot.unset).toArray = ls at hl ⊢
  have hl : lv_has ls 1 [(0, .ref t)] := hl
  dsimp only [wX2_init] at hw
  refine lv_aload_n hx hb dX2_init_0 rfl (lv_at hl 0 rfl) ?_
  refine W.objInit hx hb hown (hts _ (gT_up kw_68)) (hts _ (gT_up kw_18)) (hts _ (gT_up kw_19)) rfl (by rw [hml]; exact hl.1) rfl dX2_init_1 (Nat.le_of_ble_eq_true rfl) (Nat.le_of_ble_eq_true rfl) ?_
  refine W.eq (g2 := F0 m 4 ls []) rfl ?_
  exact gh_vretM hx hb hr hlocks hw hP hS (Nat.le_of_ble_eq_true rfl) (Nat.le_of_ble_eq_true rfl) dX2_init_4
abbrev rmX4_init : Room := { frames := 1, cells := 4, slots := 76, locals := 12 }
abbrev cxX4_init (p : Program) (s : State) (m : MethodId) (args : Array Value) (meth : Method) (c : Code) (D : va_G) (AC : Nat → ClassId) (sa : gh_SA) (A : Nat → Prop) : Prop := CallFix p m c prog_1_method_1_code 1 s args wsX4_init "OwnerLedger" ∧ meth.sig.returnType = none ∧ meth.locks = false ∧ c.exceptionTable.toList = [] ∧ va_K D vwCl (gh_ty AC) s ∧ gh_En sa A s s.heap ∧ (∀ q, s.heap.size ≤ q → A q) ∧ meth.name = "<init>"
def wX4_init (post : gh_H → Prop) (px : String → gh_H → Prop) (G : gh_H) (t : Nat) : Prop := ∀ q1 : Nat, G q1 = none → ∀ G2 : gh_H, G2 = gh_up G q1 (.inl (3, 6, .inr (.inr (.inr (.inr (fun _ => none)))))) → ∃ fs5 : List Value, G2 t = some (.inr (4, fs5)) ∧ 0 < fs5.length ∧ (∀ G8 : gh_H, G8 = gh_up G2 t (.inr (4, fs5.set 0 (.ref q1))) → ∀ q10 : Nat, G8 q10 = none → ∀ G11 : gh_H, G11 = gh_up G8 q10 (.inl (0, 20, .inl (fun _ => 0))) → ∃ fs14 : List Value, G11 t = some (.inr (4, fs14)) ∧ 1 < fs14.length ∧ (∀ G17 : gh_H, G17 = gh_up G11 t (.inr (4, fs14.set 1 (.ref q10))) → ∀ q19 : Nat, G17 q19 = none → ∀ G20 : gh_H, G20 = gh_up G17 q19 (.inl (4, 30, .inr (.inr (.inr (.inr (fun _ => none)))))) → ∃ fs23 : List Value, G20 t = some (.inr (4, fs23)) ∧ 2 < fs23.length ∧ (∀ G26 : gh_H, G26 = gh_up G20 t (.inr (4, fs23.set 2 (.ref q19))) → ∀ q28 : Nat, G26 q28 = none → ∀ G29 : gh_H, G29 = gh_up G26 q28 (.inl (5, 20, .inr (.inr (.inr (.inr (fun _ => none)))))) → ∃ fs32 : List Value, G29 t = some (.inr (4, fs32)) ∧ 3 < fs32.length ∧ (∀ G35 : gh_H, G35 = gh_up G29 t (.inr (4, fs32.set 3 (.ref q28))) → post G35))))
set_option maxRecDepth 100000 in
set_option maxHeartbeats 4000000 in
theorem mX4_init (l : Launch) (hl0 : l.stackTraces = false) (D : va_G) (AC : Nat → ClassId) (sa : gh_SA) (t : Nat) (post : gh_H → Prop) (px : String → gh_H → Prop) (G : gh_H) (sz : Nat) (hw : wX4_init post px G t) : Met l yX4_init wsX4_init rmX4_init (gh_Pc D vwCl AC (gh_ty AC) (gh_En sa) G sz [.ref t]) (va_Qv post (gh_B D vwCl AC (gh_A G sz)) (gh_A G sz)) 4 76 (gh_A G sz) := by
  refine Met.ofW (cc := prog_1_method_1_code) (maxL := 1) (ret := none) (by decide) rfl ?_
  intro p e s m args below meth c s₁ B hml hv
  obtain ⟨rfl, hsz, hP, hK, hE⟩ := hv
  have hx := B.exec
  have hb := B.bytes
  have hr := B.returns
  have hts := atoms_spec (ws := wsX4_init) B.pre
  have hown : s.vm.findClass "OwnerLedger" = some m.cls := findClass_of_methodNamed B.named
  have hlocks := B.notSynchronized
  have hin : meth.name = "<init>" := (name_of_methodNamed B.named B.method).1
  have htb : c.exceptionTable.toList = [] := gh_notab B (hts _ List.mem_cons_self)
  subst hsz
  have hA : ∀ q, s.heap.size ≤ q → gh_A G s.heap.size q := fun q h => Or.inr h
  generalize gh_A G s.heap.size = A at hP hE hA ⊢
  have hno : ∀ (pc : Nat), ∀ x ∈ c.exceptionTable.toList, covers x pc = false := by rw [htb]; intro _ _ h; cases h
  have CX : cxX4_init p s m [.ref t].toArray meth c D AC sa A := ⟨⟨hx, hb, hml, hown, hts⟩, hr, hlocks, htb, hK, hE, hA, hin⟩
  have hS : va_S A s.heap s.heap [] := va_S.rf
  have hl := lv_entry ([.ref t]) (n := 1) (Nat.le_of_ble_eq_true rfl)
  rw [lg_entry_eq]
  generalize (lg_sl ([.ref t]) ++ List.replicate (1 - (lg_sl ([.ref t])).length) Slot.unset).toArray = ls at hl ⊢
  have hl : lv_has ls 1 [(0, .ref t)] := hl
  dsimp only [wX4_init] at hw
  refine lv_aload_n hx hb dX4_init_0 rfl (lv_at hl 0 rfl) ?_
  refine W.objInit hx hb hown (hts _ (gT_up kw_17)) (hts _ (gT_up kw_18)) (hts _ (gT_up kw_19)) rfl (by rw [hml]; exact hl.1) rfl dX4_init_1 (Nat.le_of_ble_eq_true rfl) (Nat.le_of_ble_eq_true rfl) ?_
  refine W.eq (g2 := F0 m 4 ls []) rfl ?_
  refine lv_aload_n hx hb dX4_init_4 rfl (lv_at hl 0 rfl) ?_
  refine lv_bipush (v := 6) hx hb dX4_init_5 (by decide) ?_
  refine gh_newq (k := 3) (C := "OwnerLedger$Owner") hx hb hown (hts _ (gT_up kw_20)) (gh_ao hE (by decide)) hK rfl hP hS hA (n := 6) (N' := 6) (by decide) (by decide) (by decide) (Nat.le_of_ble_eq_true rfl) (Nat.le_of_ble_eq_true rfl) dX4_init_7 (fun q1 G2 H hq4 eG3 hP hS => ?_)
  replace hw := hw q1 hq4 G2 eG3
  obtain ⟨fs5, he6, hk7, hw⟩ := hw
  refine gh_putF (ci := 4) (v := .ref q1) (ty := (.array (.object "OwnerLedger$Owner"))) (C := "OwnerLedger") (T := TX4) (N := 11) hx hb hts (fun w h => gT_up (inX4 w h)) tyX4 tyX4_ok nmX4 hown hK hP hS he6 rfl 0 (by decide) (hts _ (gT_up kw_23)) (fun _ h9 => h9) rfl hin rfl (by decide +kernel) rfl rfl hk7 dX4_init_10 (fun G8 H locs eG9 hP hS => ?_)
  replace hw := hw G8 eG9
  refine lv_aload_n hx hb dX4_init_13 rfl (lv_at hl 0 rfl) ?_
  refine lv_bipush (v := 20) hx hb dX4_init_14 (by decide) ?_
  refine gh_newi (k := 0) hx hb (hts _ (gT_up kw_34)) hK rfl hP hS hA (n := 20) (N' := 20) (by decide) (by decide) (by decide) (Nat.le_of_ble_eq_true rfl) (Nat.le_of_ble_eq_true rfl) dX4_init_16 (fun q10 G11 H hq13 eG12 hP hS => ?_)
  replace hw := hw q10 hq13 G11 eG12
  obtain ⟨fs14, he15, hk16, hw⟩ := hw
  refine gh_putF (ci := 4) (v := .ref q10) (ty := (.array .int)) (C := "OwnerLedger") (T := TX4) (N := 11) hx hb hts (fun w h => gT_up (inX4 w h)) tyX4 tyX4_ok nmX4 hown hK hP hS he15 rfl 1 (by decide) (hts _ (gT_up kw_24)) (fun _ h9 => h9) rfl hin rfl (by decide +kernel) rfl rfl hk16 dX4_init_18 (fun G17 H locs eG18 hP hS => ?_)
  replace hw := hw G17 eG18
  refine lv_aload_n hx hb dX4_init_21 rfl (lv_at hl 0 rfl) ?_
  refine lv_bipush (v := 30) hx hb dX4_init_22 (by decide) ?_
  refine gh_newq (k := 4) (C := "OwnerLedger$Batch") hx hb hown (hts _ (gT_up kw_21)) (gh_ao hE (by decide)) hK rfl hP hS hA (n := 30) (N' := 30) (by decide) (by decide) (by decide) (Nat.le_of_ble_eq_true rfl) (Nat.le_of_ble_eq_true rfl) dX4_init_24 (fun q19 G20 H hq22 eG21 hP hS => ?_)
  replace hw := hw q19 hq22 G20 eG21
  obtain ⟨fs23, he24, hk25, hw⟩ := hw
  refine gh_putF (ci := 4) (v := .ref q19) (ty := (.array (.object "OwnerLedger$Batch"))) (C := "OwnerLedger") (T := TX4) (N := 11) hx hb hts (fun w h => gT_up (inX4 w h)) tyX4 tyX4_ok nmX4 hown hK hP hS he24 rfl 2 (by decide) (hts _ (gT_up kw_25)) (fun _ h9 => h9) rfl hin rfl (by decide +kernel) rfl rfl hk25 dX4_init_27 (fun G26 H locs eG27 hP hS => ?_)
  replace hw := hw G26 eG27
  refine lv_aload_n hx hb dX4_init_30 rfl (lv_at hl 0 rfl) ?_
  refine lv_bipush (v := 20) hx hb dX4_init_31 (by decide) ?_
  refine gh_newq (k := 5) (C := "OwnerLedger$Invoice") hx hb hown (hts _ (gT_up kw_22)) (gh_ao hE (by decide)) hK rfl hP hS hA (n := 20) (N' := 20) (by decide) (by decide) (by decide) (Nat.le_of_ble_eq_true rfl) (Nat.le_of_ble_eq_true rfl) dX4_init_33 (fun q28 G29 H hq31 eG30 hP hS => ?_)
  replace hw := hw q28 hq31 G29 eG30
  obtain ⟨fs32, he33, hk34, hw⟩ := hw
  refine gh_putF (ci := 4) (v := .ref q28) (ty := (.array (.object "OwnerLedger$Invoice"))) (C := "OwnerLedger") (T := TX4) (N := 11) hx hb hts (fun w h => gT_up (inX4 w h)) tyX4 tyX4_ok nmX4 hown hK hP hS he33 rfl 3 (by decide) (hts _ (gT_up kw_26)) (fun _ h9 => h9) rfl hin rfl (by decide +kernel) rfl rfl hk34 dX4_init_36 (fun G35 H locs eG36 hP hS => ?_)
  replace hw := hw G35 eG36
  exact gh_vretM hx hb hr hlocks hw hP hS (Nat.le_of_ble_eq_true rfl) (Nat.le_of_ble_eq_true rfl) dX4_init_39
