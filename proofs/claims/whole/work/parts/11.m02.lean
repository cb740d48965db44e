abbrev rmX5_sumOf : Room := { frames := 0, cells := 0, slots := 0, locals := 0 }
abbrev cxX5_sumOf (p : Program) (s : State) (m : MethodId) (args : Array Value) (meth : Method) (c : Code) (D : va_G) (AC : Nat → ClassId) (sa : gh_SA) (A : Nat → Prop) : Prop := CallFix p m c prog_7_method_8_code 6 s args wsX5_sumOf "OwnerLedgerModel" ∧ meth.sig.returnType = (some .long) ∧ meth.locks = false ∧ c.exceptionTable.toList = [] ∧ va_K D vwCl (gh_ty AC) s ∧ gh_En sa A s s.heap ∧ (∀ q, s.heap.size ≤ q → A q)
def wX5_sumOf_52 (post : Int64 → gh_H → Prop) (px : String → gh_H → Prop) (J8 : gh_H → Nat → Int32 → Int32 → Int64 → Int32 → Prop) (G : gh_H) (t : Nat) (p0 : Int32) (p1 : Int32) (v5 : Int32) (s0 : Int64) (s1 : Int64) : Prop := J8 G t p0 p1 (s0 + s1) (v5 + 1)
set_option maxRecDepth 100000 in
set_option maxHeartbeats 4000000 in
theorem lX5_sumOf_52 {p : Program} {l : Launch} {e : Env} {s : State} {m : MethodId} {args : Array Value} {below : List Frame} {meth : Method} {c : Code} {D : va_G} {AC : Nat → ClassId} {sa : gh_SA} {A : Nat → Prop} (hl0 : l.stackTraces = false) (CX : cxX5_sumOf p s m args meth c D AC sa A) (post : Int64 → gh_H → Prop) (px : String → gh_H → Prop) (J8 : gh_H → Nat → Int32 → Int32 → Int64 → Int32 → Prop) (hJ8 : ∀ (G : gh_H) (t : Nat) (p0 : Int32) (p1 : Int32) (v3 : Int64) (v5 : Int32) (H : Heap) (locs : List Loc), J8 G t p0 p1 v3 v5 → gh_h D vwCl AC A G H → va_S A s.heap H locs → ∀ ls : Array Slot, lv_has ls 6 [(0, .ref t), (1, .int p0), (2, .int p1), (3, .long v3), (5, .int v5)] → W p l e rmX5_sumOf s m args below meth c H locs 0 0 (vx_MQ below (va_Ql post (gh_B D vwCl AC A) A) (gh_X D vwCl AC px A) args s 0 0 A) (F0 m 8 ls [])) : ∀ (G : gh_H) (t : Nat) (p0 : Int32) (p1 : Int32) (v5 : Int32) (s0 : Int64) (s1 : Int64) (H : Heap) (locs : List Loc), wX5_sumOf_52 post px J8 G t p0 p1 v5 s0 s1 → gh_h D vwCl AC A G H → va_S A s.heap H locs → ∀ ls : Array Slot, lv_has ls 6 [(0, .ref t), (1, .int p0), (2, .int p1), (5, .int v5)] → W p l e rmX5_sumOf s m args below meth c H locs 0 0 (vx_MQ below (va_Ql post (gh_B D vwCl AC A) A) (gh_X D vwCl AC px A) args s 0 0 A) (F0 m 52 ls [.long s1, .long s0]) := by
  obtain ⟨⟨hx, hb, hml, hown, hts⟩, hr, hlocks, htb, hK, hE, hA⟩ := id CX
  have hno : ∀ (pc : Nat), ∀ x ∈ c.exceptionTable.toList, covers x pc = false := by rw [htb]; intro _ _ h; cases h
  intro G t p0 p1 v5 s0 s1 H locs hw hP hS ls hl
  dsimp only [wX5_sumOf_52] at hw
  refine lv_ladd hx hb dX5_sumOf_52 ?_
  refine lv_lstore_n (lv' := [(3, .long (s0 + s1)), (0, .ref t), (1, .int p0), (2, .int p1), (5, .int v5)]) hx hb dX5_sumOf_53 rfl hl (by decide) rfl (fun ls hl => ?_)
  refine lv_iinc (v := (v5 + 1)) (lv' := [(5, .int (v5 + 1)), (3, .long (s0 + s1)), (0, .ref t), (1, .int p0), (2, .int p1)]) hx hb dX5_sumOf_54 hl (k := 4) rfl rfl (by decide) rfl (fun ls hl => ?_)
  refine lv_goto (tgt := 8) hx hb dX5_sumOf_57 (by decide) ?_
  have hl := lv_sub (l' := [(0, .ref t), (1, .int p0), (2, .int p1), (3, .long (s0 + s1)), (5, .int (v5 + 1))]) hl [2, 3, 4, 1, 0] rfl
  exact hJ8 _ t p0 p1 (s0 + s1) (v5 + 1) _ _ hw hP hS ls hl
def wX5_sumOf_8 (post : Int64 → gh_H → Prop) (px : String → gh_H → Prop) : Nat → gh_H → Nat → Int32 → Int32 → Int64 → Int32 → Prop
  | 0 => fun _ _ _ _ _ _ => False
  | n + 1 => fun G t p0 p1 v3 v5 => ∃ (fs1 : List Value) (x4 : Nat), G t = some (.inr (5, fs1)) ∧ fs1[11]? = some (.ref x4) ∧ (∃ (n5 : Nat) (f6 : Nat → Int32), G x4 = some (.inl (0, n5, .inl f6)) ∧ vp_in p0 n5 ∧ ((((8 * p0) + (f6 (Int32.toNatClampNeg p0))) ≤ v5 → (post v3 G)) ∧ (¬ ((8 * p0) + (f6 (Int32.toNatClampNeg p0))) ≤ v5 → (∃ (fs10 : List Value) (x13 : Nat), G t = some (.inr (5, fs10)) ∧ fs10[7]? = some (.ref x13) ∧ (∃ (fs14 : List Value) (x17 : Nat), G t = some (.inr (5, fs14)) ∧ fs14[14]? = some (.ref x17) ∧ (∃ (n18 : Nat) (f19 : Nat → Int32), G x17 = some (.inl (0, n18, .inl f19)) ∧ vp_in v5 n18 ∧ (∃ (n22 : Nat) (f23 : Nat → Int32), G x13 = some (.inl (0, n22, .inl f23)) ∧ vp_in (f19 (Int32.toNatClampNeg v5)) n22 ∧ ((¬ (f23 (Int32.toNatClampNeg (f19 (Int32.toNatClampNeg v5)))) = p1 → (wX5_sumOf_52 post px (wX5_sumOf_8 post px n) G t p0 p1 v5 v3 0)) ∧ ((f23 (Int32.toNatClampNeg (f19 (Int32.toNatClampNeg v5)))) = p1 → (∃ (fs27 : List Value) (x30 : Nat), G t = some (.inr (5, fs27)) ∧ fs27[15]? = some (.ref x30) ∧ (∃ (n31 : Nat) (f32 : Nat → Int64), G x30 = some (.inl (1, n31, .inr (.inl f32))) ∧ vp_in v5 n31 ∧ (wX5_sumOf_52 post px (wX5_sumOf_8 post px n) G t p0 p1 v5 v3 (f32 (Int32.toNatClampNeg v5))))))))))))))
set_option maxRecDepth 100000 in
set_option maxHeartbeats 4000000 in
theorem lX5_sumOf_8 {p : Program} {l : Launch} {e : Env} {s : State} {m : MethodId} {args : Array Value} {below : List Frame} {meth : Method} {c : Code} {D : va_G} {AC : Nat → ClassId} {sa : gh_SA} {A : Nat → Prop} (hl0 : l.stackTraces = false) (CX : cxX5_sumOf p s m args meth c D AC sa A) (post : Int64 → gh_H → Prop) (px : String → gh_H → Prop) : ∀ n : Nat, ∀ (G : gh_H) (t : Nat) (p0 : Int32) (p1 : Int32) (v3 : Int64) (v5 : Int32) (H : Heap) (locs : List Loc), wX5_sumOf_8 post px n G t p0 p1 v3 v5 → gh_h D vwCl AC A G H → va_S A s.heap H locs → ∀ ls : Array Slot, lv_has ls 6 [(0, .ref t), (1, .int p0), (2, .int p1), (3, .long v3), (5, .int v5)] → W p l e rmX5_sumOf s m args below meth c H locs 0 0 (vx_MQ below (va_Ql post (gh_B D vwCl AC A) A) (gh_X D vwCl AC px A) args s 0 0 A) (F0 m 8 ls []) := by
  obtain ⟨⟨hx, hb, hml, hown, hts⟩, hr, hlocks, htb, hK, hE, hA⟩ := id CX
  have hno : ∀ (pc : Nat), ∀ x ∈ c.exceptionTable.toList, covers x pc = false := by rw [htb]; intro _ _ h; cases h
  intro n
  induction n with
  | zero =>
    intro G t p0 p1 v3 v5 H locs hw
    exact False.elim hw
  | succ n ih =>
    intro G t p0 p1 v3 v5 H locs hw hP hS ls hl
    dsimp only [wX5_sumOf_8] at hw
    refine lv_iload hx hb dX5_sumOf_8 (lv_at hl 4 rfl) ?_
    refine lv_bipush (v := 8) hx hb dX5_sumOf_10 (by decide) ?_
    refine lv_iload_n hx hb dX5_sumOf_12 rfl (lv_at hl 1 rfl) ?_
    refine lv_imul hx hb dX5_sumOf_13 ?_
    refine lv_aload_n hx hb dX5_sumOf_14 rfl (lv_at hl 0 rfl) ?_
    obtain ⟨fs1, x4, he2, hv3, hw⟩ := hw
    refine gh_get (ci := 5) (v := .ref x4) (C := "OwnerLedgerModel") (T := TX5) (N := 24) hx hb hts (fun w h => gT_up (inX5 w h)) hown hK hP he2 rfl 11 (by decide) (hts _ (gT_up kw_383)) (fun _ h9 => h9) hv3 dX5_sumOf_15 ?_
    refine lv_iload_n hx hb dX5_sumOf_18 rfl (lv_at hl 1 rfl) ?_
    obtain ⟨n5, f6, he7, hi8, hw⟩ := hw
    refine gh_iald hx hb hK hP he7 rfl hi8 dX5_sumOf_19 ?_
    refine lv_iadd hx hb dX5_sumOf_20 ?_
    refine lv_icmp_ge (tgt := 60) hx hb dX5_sumOf_21 (by decide) (fun c9 => ?_) (fun c9 => ?_)
    · replace hw := hw.1 c9
      refine lv_lload_n hx hb dX5_sumOf_60 rfl (lv_at hl 3 rfl) ?_
      exact gh_lret hx hb hr hlocks hw hP hS (Nat.le_of_ble_eq_true rfl) (Nat.le_of_ble_eq_true rfl) dX5_sumOf_61
    · replace hw := hw.2 c9
      refine lv_lload_n hx hb dX5_sumOf_24 rfl (lv_at hl 3 rfl) ?_
      refine lv_aload_n hx hb dX5_sumOf_25 rfl (lv_at hl 0 rfl) ?_
      obtain ⟨fs10, x13, he11, hv12, hw⟩ := hw
      refine gh_get (ci := 5) (v := .ref x13) (C := "OwnerLedgerModel") (T := TX5) (N := 24) hx hb hts (fun w h => gT_up (inX5 w h)) hown hK hP he11 rfl 7 (by decide) (hts _ (gT_up kw_379)) (fun _ h9 => h9) hv12 dX5_sumOf_26 ?_
      refine lv_aload_n hx hb dX5_sumOf_29 rfl (lv_at hl 0 rfl) ?_
      obtain ⟨fs14, x17, he15, hv16, hw⟩ := hw
      refine gh_get (ci := 5) (v := .ref x17) (C := "OwnerLedgerModel") (T := TX5) (N := 24) hx hb hts (fun w h => gT_up (inX5 w h)) hown hK hP he15 rfl 14 (by decide) (hts _ (gT_up kw_386)) (fun _ h9 => h9) hv16 dX5_sumOf_30 ?_
      refine lv_iload hx hb dX5_sumOf_33 (lv_at hl 4 rfl) ?_
      obtain ⟨n18, f19, he20, hi21, hw⟩ := hw
      refine gh_iald hx hb hK hP he20 rfl hi21 dX5_sumOf_35 ?_
      obtain ⟨n22, f23, he24, hi25, hw⟩ := hw
      refine gh_iald hx hb hK hP he24 rfl hi25 dX5_sumOf_36 ?_
      refine lv_iload_n hx hb dX5_sumOf_37 rfl (lv_at hl 2 rfl) ?_
      refine lv_icmp_ne (tgt := 51) hx hb dX5_sumOf_38 (by decide) (fun c26 => ?_) (fun c26 => ?_)
      · replace hw := hw.1 c26
        refine lv_lconst (v := 0) hx hb dX5_sumOf_51 (by decide) ?_
        have hl := lv_sub (l' := [(0, .ref t), (1, .int p0), (2, .int p1), (5, .int v5)]) hl [0, 1, 2, 4] rfl
        exact lX5_sumOf_52 hl0 CX post px (wX5_sumOf_8 post px n) (fun G9 t9 p09 p19 v39 v59 H9 locs9 hw9 hP9 hS9 ls9 hl9 => ih G9 t9 p09 p19 v39 v59 H9 locs9 hw9 hP9 hS9 ls9 hl9) _ t p0 p1 v5 v3 0 _ _ hw hP hS ls hl
      · replace hw := hw.2 c26
        refine lv_aload_n hx hb dX5_sumOf_41 rfl (lv_at hl 0 rfl) ?_
        obtain ⟨fs27, x30, he28, hv29, hw⟩ := hw
        refine gh_get (ci := 5) (v := .ref x30) (C := "OwnerLedgerModel") (T := TX5) (N := 24) hx hb hts (fun w h => gT_up (inX5 w h)) hown hK hP he28 rfl 15 (by decide) (hts _ (gT_up kw_387)) (fun _ h9 => h9) hv29 dX5_sumOf_42 ?_
        refine lv_iload hx hb dX5_sumOf_45 (lv_at hl 4 rfl) ?_
        obtain ⟨n31, f32, he33, hi34, hw⟩ := hw
        refine gh_lald hx hb hK hP he33 rfl hi34 dX5_sumOf_47 ?_
        refine lv_goto (tgt := 52) hx hb dX5_sumOf_48 (by decide) ?_
        have hl := lv_sub (l' := [(0, .ref t), (1, .int p0), (2, .int p1), (5, .int v5)]) hl [0, 1, 2, 4] rfl
        exact lX5_sumOf_52 hl0 CX post px (wX5_sumOf_8 post px n) (fun G9 t9 p09 p19 v39 v59 H9 locs9 hw9 hP9 hS9 ls9 hl9 => ih G9 t9 p09 p19 v39 v59 H9 locs9 hw9 hP9 hS9 ls9 hl9) _ t p0 p1 v5 v3 (f32 (Int32.toNatClampNeg v5)) _ _ hw hP hS ls hl
def wX5_sumOf (post : Int64 → gh_H → Prop) (px : String → gh_H → Prop) (G : gh_H) (t : Nat) (p0 : Int32) (p1 : Int32) : Prop := wX5_sumOf_8 post px 300 G t p0 p1 0 (8 * p0)
set_option maxRecDepth 100000 in
set_option maxHeartbeats 4000000 in
theorem mX5_sumOf (l : Launch) (hl0 : l.stackTraces = false) (D : va_G) (AC : Nat → ClassId) (sa : gh_SA) (t : Nat) (p0 : Int32) (p1 : Int32) (post : Int64 → gh_H → Prop) (px : String → gh_H → Prop) (G : gh_H) (sz : Nat) (hw : wX5_sumOf post px G t p0 p1) : vx_Met l yX5_sumOf wsX5_sumOf rmX5_sumOf (gh_Pc D vwCl AC (gh_ty AC) (gh_En sa) G sz [.ref t, .int p0, .int p1]) (va_Ql post (gh_B D vwCl AC (gh_A G sz)) (gh_A G sz)) (gh_X D vwCl AC px (gh_A G sz)) 0 0 (gh_A G sz) := by
  refine vx_ofW (cc := prog_7_method_8_code) (maxL := 6) (ret := (some .long)) (by decide) rfl ?_
  intro p e s m args below meth c s₁ B hml hnoh hv
  obtain ⟨rfl, hsz, hP, hK, hE⟩ := hv
  have hx := B.exec
  have hb := B.bytes
  have hr := B.returns
  have hts := atoms_spec (ws := wsX5_sumOf) B.pre
  have hown : s.vm.findClass "OwnerLedgerModel" = some m.cls := findClass_of_methodNamed B.named
  have hlocks := B.notSynchronized
  have htb : c.exceptionTable.toList = [] := List.eq_nil_iff_forall_not_mem.mpr hnoh
  subst hsz
  have hA : ∀ q, s.heap.size ≤ q → gh_A G s.heap.size q := fun q h => Or.inr h
  generalize gh_A G s.heap.size = A at hP hE hA ⊢
  have hno : ∀ (pc : Nat), ∀ x ∈ c.exceptionTable.toList, covers x pc = false := by rw [htb]; intro _ _ h; cases h
  have CX : cxX5_sumOf p s m [.ref t, .int p0, .int p1].toArray meth c D AC sa A := ⟨⟨hx, hb, hml, hown, hts⟩, hr, hlocks, htb, hK, hE, hA⟩
  have hS : va_S A s.heap s.heap [] := va_S.rf
  have hl := lv_entry ([.ref t, .int p0, .int p1]) (n := 6) (Nat.le_of_ble_eq_true rfl)
  rw [lg_entry_eq]
  generalize (lg_sl ([.ref t, .int p0, .int p1]) ++ List.replicate (6 - (lg_sl ([.ref t, .int p0, .int p1])).length) Slot.unset).toArray = ls at hl ⊢
  have hl : lv_has ls 6 [(0, .ref t), (1, .int p0), (2, .int p1)] := hl
  dsimp only [wX5_sumOf] at hw
  refine lv_lconst (v := 0) hx hb dX5_sumOf_0 (by decide) ?_
  refine lv_lstore_n (lv' := [(3, .long 0), (0, .ref t), (1, .int p0), (2, .int p1)]) hx hb dX5_sumOf_1 rfl hl (by decide) rfl (fun ls hl => ?_)
  refine lv_bipush (v := 8) hx hb dX5_sumOf_2 (by decide) ?_
  refine lv_iload_n hx hb dX5_sumOf_4 rfl (lv_at hl 2 rfl) ?_
  refine lv_imul hx hb dX5_sumOf_5 ?_
  refine lv_istore (lv' := [(5, .int (8 * p0)), (3, .long 0), (0, .ref t), (1, .int p0), (2, .int p1)]) hx hb dX5_sumOf_6 hl (by decide) rfl (fun ls hl => ?_)
  have hl := lv_sub (l' := [(0, .ref t), (1, .int p0), (2, .int p1), (3, .long 0), (5, .int (8 * p0))]) hl [2, 3, 4, 1, 0] rfl
  exact lX5_sumOf_8 hl0 CX post px _ _ t p0 p1 0 (8 * p0) _ _ hw hP hS ls hl
abbrev rmX5_newBatch : Room := { frames := 0, cells := 0, slots := 0, locals := 0 }
abbrev cxX5_newBatch (p : Program) (s : State) (m : MethodId) (args : Array Value) (meth : Method) (c : Code) (D : va_G) (AC : Nat → ClassId) (sa : gh_SA) (A : Nat → Prop) : Prop := CallFix p m c prog_7_method_9_code 2 s args wsX5_newBatch "OwnerLedgerModel" ∧ meth.sig.returnType = none ∧ meth.locks = false ∧ c.exceptionTable.toList = [] ∧ va_K D vwCl (gh_ty AC) s ∧ gh_En sa A s s.heap ∧ (∀ q, s.heap.size ≤ q → A q)
def wX5_newBatch (post : gh_H → Prop) (px : String → gh_H → Prop) (G : gh_H) (t : Nat) (p0 : Int32) : Prop := ∃ (fs1 : List Value) (x4 : Nat), G t = some (.inr (5, fs1)) ∧ fs1[10]? = some (.ref x4) ∧ (∃ (fs5 : List Value) (x8 : Int32), G t = some (.inr (5, fs5)) ∧ fs5[8]? = some (.int x8) ∧ (∃ (n9 : Nat) (f10 : Nat → Int32), G x4 = some (.inl (0, n9, .inl f10)) ∧ vp_in x8 n9 ∧ (∀ G14 : gh_H, G14 = gh_up G x4 (.inl (0, n9, .inl (upd f10 (Int32.toNatClampNeg x8) p0))) → ∃ (fs15 : List Value) (x18 : Nat), G14 t = some (.inr (5, fs15)) ∧ fs15[9]? = some (.ref x18) ∧ (∃ (fs19 : List Value) (x22 : Int32), G14 t = some (.inr (5, fs19)) ∧ fs19[8]? = some (.int x22) ∧ (∃ (n23 : Nat) (f24 : Nat → Int32), G14 x18 = some (.inl (0, n23, .inl f24)) ∧ vp_in x22 n23 ∧ (∀ G28 : gh_H, G28 = gh_up G14 x18 (.inl (0, n23, .inl (upd f24 (Int32.toNatClampNeg x22) 0))) → ∃ (fs29 : List Value) (x32 : Nat), G28 t = some (.inr (5, fs29)) ∧ fs29[11]? = some (.ref x32) ∧ (∃ (fs33 : List Value) (x36 : Int32), G28 t = some (.inr (5, fs33)) ∧ fs33[8]? = some (.int x36) ∧ (∃ (n37 : Nat) (f38 : Nat → Int32), G28 x32 = some (.inl (0, n37, .inl f38)) ∧ vp_in x36 n37 ∧ (∀ G42 : gh_H, G42 = gh_up G28 x32 (.inl (0, n37, .inl (upd f38 (Int32.toNatClampNeg x36) 0))) → ∃ (fs43 : List Value) (x46 : Nat), G42 t = some (.inr (5, fs43)) ∧ fs43[12]? = some (.ref x46) ∧ (∃ (fs47 : List Value) (x50 : Int32), G42 t = some (.inr (5, fs47)) ∧ fs47[8]? = some (.int x50) ∧ (∃ (n51 : Nat) (f52 : Nat → Int32), G42 x46 = some (.inl (0, n51, .inl f52)) ∧ vp_in x50 n51 ∧ (∀ G56 : gh_H, G56 = gh_up G42 x46 (.inl (0, n51, .inl (upd f52 (Int32.toNatClampNeg x50) 0))) → ∃ (fs57 : List Value) (x60 : Nat), G56 t = some (.inr (5, fs57)) ∧ fs57[13]? = some (.ref x60) ∧ (∃ (fs61 : List Value) (x64 : Int32), G56 t = some (.inr (5, fs61)) ∧ fs61[8]? = some (.int x64) ∧ (∃ (n65 : Nat) (f66 : Nat → Int32), G56 x60 = some (.inl (0, n65, .inl f66)) ∧ vp_in x64 n65 ∧ (∀ G70 : gh_H, G70 = gh_up G56 x60 (.inl (0, n65, .inl (upd f66 (Int32.toNatClampNeg x64) 0))) → ∃ (fs71 : List Value) (x74 : Int32), G70 t = some (.inr (5, fs71)) ∧ fs71[8]? = some (.int x74) ∧ (∃ fs75 : List Value, G70 t = some (.inr (5, fs75)) ∧ 8 < fs75.length ∧ (∀ G78 : gh_H, G78 = gh_up G70 t (.inr (5, fs75.set 8 (.int (x74 + 1)))) → post G78)))))))))))))))))
set_option maxRecDepth 100000 in
set_option maxHeartbeats 4000000 in
theorem mX5_newBatch (l : Launch) (hl0 : l.stackTraces = false) (D : va_G) (AC : Nat → ClassId) (sa : gh_SA) (t : Nat) (p0 : Int32) (post : gh_H → Prop) (px : String → gh_H → Prop) (G : gh_H) (sz : Nat) (hw : wX5_newBatch post px G t p0) : vx_Met l yX5_newBatch wsX5_newBatch rmX5_newBatch (gh_Pc D vwCl AC (gh_ty AC) (gh_En sa) G sz [.ref t, .int p0]) (va_Qv post (gh_B D vwCl AC (gh_A G sz)) (gh_A G sz)) (gh_X D vwCl AC px (gh_A G sz)) 0 0 (gh_A G sz) := by
  refine vx_ofW (cc := prog_7_method_9_code) (maxL := 2) (ret := none) (by decide) rfl ?_
  intro p e s m args below meth c s₁ B hml hnoh hv
  obtain ⟨rfl, hsz, hP, hK, hE⟩ := hv
  have hx := B.exec
  have hb := B.bytes
  have hr := B.returns
  have hts := atoms_spec (ws := wsX5_newBatch) B.pre
  have hown : s.vm.findClass "OwnerLedgerModel" = some m.cls := findClass_of_methodNamed B.named
  have hlocks := B.notSynchronized
  have htb : c.exceptionTable.toList = [] := List.eq_nil_iff_forall_not_mem.mpr hnoh
  subst hsz
  have hA : ∀ q, s.heap.size ≤ q → gh_A G s.heap.size q := fun q h => Or.inr h
  generalize gh_A G s.heap.size = A at hP hE hA ⊢
  have hno : ∀ (pc : Nat), ∀ x ∈ c.exceptionTable.toList, covers x pc = false := by rw [htb]; intro _ _ h; cases h
  have CX : cxX5_newBatch p s m [.ref t, .int p0].toArray meth c D AC sa A := ⟨⟨hx, hb, hml, hown, hts⟩, hr, hlocks, htb, hK, hE, hA⟩
  have hS : va_S A s.heap s.heap [] := va_S.rf
  have hl := lv_entry ([.ref t, .int p0]) (n := 2) (Nat.le_of_ble_eq_true rfl)
  rw [lg_entry_eq]
  generalize (lg_sl ([.ref t, .int p0]) ++ List.replicate (2 - (lg_sl ([.ref t, .int p0])).length) Slot.unset).toArray = ls at hl ⊢
  have hl : lv_has ls 2 [(0, .ref t), (1, .int p0)] := hl
  dsimp only [wX5_newBatch] at hw
  refine lv_aload_n hx hb dX5_newBatch_0 rfl (lv_at hl 0 rfl) ?_
  obtain ⟨fs1, x4, he2, hv3, hw⟩ := hw
  refine gh_get (ci := 5) (v := .ref x4) (C := "OwnerLedgerModel") (T := TX5) (N := 24) hx hb hts (fun w h => gT_up (inX5 w h)) hown hK hP he2 rfl 10 (by decide) (hts _ (gT_up kw_382)) (fun _ h9 => h9) hv3 dX5_newBatch_1 ?_
  refine lv_aload_n hx hb dX5_newBatch_4 rfl (lv_at hl 0 rfl) ?_
  obtain ⟨fs5, x8, he6, hv7, hw⟩ := hw
  refine gh_get (ci := 5) (v := .int x8) (C := "OwnerLedgerModel") (T := TX5) (N := 24) hx hb hts (fun w h => gT_up (inX5 w h)) hown hK hP he6 rfl 8 (by decide) (hts _ (gT_up kw_380)) (fun _ h9 => h9) hv7 dX5_newBatch_5 ?_
  refine lv_iload_n hx hb dX5_newBatch_8 rfl (lv_at hl 1 rfl) ?_
  obtain ⟨n9, f10, he11, hi12, hw⟩ := hw
  refine gh_iast hx hb hK hP hS he11 rfl hi12 dX5_newBatch_9 (fun G14 H locs eG13 hP hS => ?_)
  replace hw := hw G14 eG13
  refine lv_aload_n hx hb dX5_newBatch_10 rfl (lv_at hl 0 rfl) ?_
  obtain ⟨fs15, x18, he16, hv17, hw⟩ := hw
  refine gh_get (ci := 5) (v := .ref x18) (C := "OwnerLedgerModel") (T := TX5) (N := 24) hx hb hts (fun w h => gT_up (inX5 w h)) hown hK hP he16 rfl 9 (by decide) (hts _ (gT_up kw_381)) (fun _ h9 => h9) hv17 dX5_newBatch_11 ?_
  refine lv_aload_n hx hb dX5_newBatch_14 rfl (lv_at hl 0 rfl) ?_
  obtain ⟨fs19, x22, he20, hv21, hw⟩ := hw
  refine gh_get (ci := 5) (v := .int x22) (C := "OwnerLedgerModel") (T := TX5) (N := 24) hx hb hts (fun w h => gT_up (inX5 w h)) hown hK hP he20 rfl 8 (by decide) (hts _ (gT_up kw_380)) (fun _ h9 => h9) hv21 dX5_newBatch_15 ?_
  refine lv_iconst (v := 0) hx hb dX5_newBatch_18 (by decide) ?_
  obtain ⟨n23, f24, he25, hi26, hw⟩ := hw
  refine gh_iast hx hb hK hP hS he25 rfl hi26 dX5_newBatch_19 (fun G28 H locs eG27 hP hS => ?_)
  replace hw := hw G28 eG27
  refine lv_aload_n hx hb dX5_newBatch_20 rfl (lv_at hl 0 rfl) ?_
  obtain ⟨fs29, x32, he30, hv31, hw⟩ := hw
  refine gh_get (ci := 5) (v := .ref x32) (C := "OwnerLedgerModel") (T := TX5) (N := 24) hx hb hts (fun w h => gT_up (inX5 w h)) hown hK hP he30 rfl 11 (by decide) (hts _ (gT_up kw_383)) (fun _ h9 => h9) hv31 dX5_newBatch_21 ?_
  refine lv_aload_n hx hb dX5_newBatch_24 rfl (lv_at hl 0 rfl) ?_
  obtain ⟨fs33, x36, he34, hv35, hw⟩ := hw
  refine gh_get (ci := 5) (v := .int x36) (C := "OwnerLedgerModel") (T := TX5) (N := 24) hx hb hts (fun w h => gT_up (inX5 w h)) hown hK hP he34 rfl 8 (by decide) (hts _ (gT_up kw_380)) (fun _ h9 => h9) hv35 dX5_newBatch_25 ?_
  refine lv_iconst (v := 0) hx hb dX5_newBatch_28 (by decide) ?_
  obtain ⟨n37, f38, he39, hi40, hw⟩ := hw
  refine gh_iast hx hb hK hP hS he39 rfl hi40 dX5_newBatch_29 (fun G42 H locs eG41 hP hS => ?_)
  replace hw := hw G42 eG41
  refine lv_aload_n hx hb dX5_newBatch_30 rfl (lv_at hl 0 rfl) ?_
  obtain ⟨fs43, x46, he44, hv45, hw⟩ := hw
  refine gh_get (ci := 5) (v := .ref x46) (C := "OwnerLedgerModel") (T := TX5) (N := 24) hx hb hts (fun w h => gT_up (inX5 w h)) hown hK hP he44 rfl 12 (by decide) (hts _ (gT_up kw_384)) (fun _ h9 => h9) hv45 dX5_newBatch_31 ?_
  refine lv_aload_n hx hb dX5_newBatch_34 rfl (lv_at hl 0 rfl) ?_
  obtain ⟨fs47, x50, he48, hv49, hw⟩ := hw
  refine gh_get (ci := 5) (v := .int x50) (C := "OwnerLedgerModel") (T := TX5) (N := 24) hx hb hts (fun w h => gT_up (inX5 w h)) hown hK hP he48 rfl 8 (by decide) (hts _ (gT_up kw_380)) (fun _ h9 => h9) hv49 dX5_newBatch_35 ?_
  refine lv_iconst (v := 0) hx hb dX5_newBatch_38 (by decide) ?_
  obtain ⟨n51, f52, he53, hi54, hw⟩ := hw
  refine gh_iast hx hb hK hP hS he53 rfl hi54 dX5_newBatch_39 (fun G56 H locs eG55 hP hS => ?_)
  replace hw := hw G56 eG55
  refine lv_aload_n hx hb dX5_newBatch_40 rfl (lv_at hl 0 rfl) ?_
  obtain ⟨fs57, x60, he58, hv59, hw⟩ := hw
  refine gh_get (ci := 5) (v := .ref x60) (C := "OwnerLedgerModel") (T := TX5) (N := 24) hx hb hts (fun w h => gT_up (inX5 w h)) hown hK hP he58 rfl 13 (by decide) (hts _ (gT_up kw_385)) (fun _ h9 => h9) hv59 dX5_newBatch_41 ?_
  refine lv_aload_n hx hb dX5_newBatch_44 rfl (lv_at hl 0 rfl) ?_
  obtain ⟨fs61, x64, he62, hv63, hw⟩ := hw
  refine gh_get (ci := 5) (v := .int x64) (C := "OwnerLedgerModel") (T := TX5) (N := 24) hx hb hts (fun w h => gT_up (inX5 w h)) hown hK hP he62 rfl 8 (by decide) (hts _ (gT_up kw_380)) (fun _ h9 => h9) hv63 dX5_newBatch_45 ?_
  refine lv_iconst (v := 0) hx hb dX5_newBatch_48 (by decide) ?_
  obtain ⟨n65, f66, he67, hi68, hw⟩ := hw
  refine gh_iast hx hb hK hP hS he67 rfl hi68 dX5_newBatch_49 (fun G70 H locs eG69 hP hS => ?_)
  replace hw := hw G70 eG69
  refine lv_aload_n hx hb dX5_newBatch_50 rfl (lv_at hl 0 rfl) ?_
  refine lv_dup hx hb dX5_newBatch_51 rfl ?_
  obtain ⟨fs71, x74, he72, hv73, hw⟩ := hw
  refine gh_get (ci := 5) (v := .int x74) (C := "OwnerLedgerModel") (T := TX5) (N := 24) hx hb hts (fun w h => gT_up (inX5 w h)) hown hK hP he72 rfl 8 (by decide) (hts _ (gT_up kw_380)) (fun _ h9 => h9) hv73 dX5_newBatch_52 ?_
  refine lv_iconst (v := 1) hx hb dX5_newBatch_55 (by decide) ?_
  refine lv_iadd hx hb dX5_newBatch_56 ?_
  obtain ⟨fs75, he76, hk77, hw⟩ := hw
  refine gh_put (ci := 5) (v := .int (x74 + 1)) (ty := .int) (C := "OwnerLedgerModel") (T := TX5) (N := 24) hx hb hts (fun w h => gT_up (inX5 w h)) tyX5 tyX5_ok nmX5 hown hK hP hS he76 rfl 8 (by decide) (hts _ (gT_up kw_380)) (fun _ h9 => h9) rfl (by decide +kernel) rfl rfl hk77 dX5_newBatch_57 (fun G78 H locs eG79 hP hS => ?_)
  replace hw := hw G78 eG79
  exact gh_vret hx hb hr hlocks hw hP hS (Nat.le_of_ble_eq_true rfl) (Nat.le_of_ble_eq_true rfl) dX5_newBatch_60
abbrev rmX5_meet : Room := { frames := 0, cells := 0, slots := 0, locals := 0 }
abbrev cxX5_meet (p : Program) (s : State) (m : MethodId) (args : Array Value) (meth : Method) (c : Code) (D : va_G) (AC : Nat → ClassId) (sa : gh_SA) (A : Nat → Prop) : Prop := CallFix p m c prog_7_method_10_code 6 s args wsX5_meet "OwnerLedgerModel" ∧ meth.sig.returnType = (some .long) ∧ meth.locks = false ∧ c.exceptionTable.toList = [] ∧ va_K D vwCl (gh_ty AC) s ∧ gh_En sa A s s.heap ∧ (∀ q, s.heap.size ≤ q → A q)
def wX5_meet_21 (post : Int64 → gh_H → Prop) (px : String → gh_H → Prop) (G : gh_H) (t : Nat) (p0 : Int32) (p1 : Int64) (s0 : Int64) : Prop := ∃ (fs1 : List Value) (x4 : Nat), G t = some (.inr (5, fs1)) ∧ fs1[19]? = some (.ref x4) ∧ (∃ (fs5 : List Value) (x8 : Nat), G t = some (.inr (5, fs5)) ∧ fs5[19]? = some (.ref x8) ∧ (∃ (n9 : Nat) (f10 : Nat → Int64), G x8 = some (.inl (1, n9, .inr (.inl f10))) ∧ vp_in p0 n9 ∧ (∃ (n13 : Nat) (f14 : Nat → Int64), G x4 = some (.inl (1, n13, .inr (.inl f14))) ∧ vp_in p0 n13 ∧ (∀ G18 : gh_H, G18 = gh_up G x4 (.inl (1, n13, .inr (.inl (vp_updL f14 (Int32.toNatClampNeg p0) ((f10 (Int32.toNatClampNeg p0)) - s0))))) → post (p1 - s0) G18))))
set_option maxRecDepth 100000 in
set_option maxHeartbeats 4000000 in
theorem lX5_meet_21 {p : Program} {l : Launch} {e : Env} {s : State} {m : MethodId} {args : Array Value} {below : List Frame} {meth : Method} {c : Code} {D : va_G} {AC : Nat → ClassId} {sa : gh_SA} {A : Nat → Prop} (hl0 : l.stackTraces = false) (CX : cxX5_meet p s m args meth c D AC sa A) (post : Int64 → gh_H → Prop) (px : String → gh_H → Prop) : ∀ (G : gh_H) (t : Nat) (p0 : Int32) (p1 : Int64) (s0 : Int64) (H : Heap) (locs : List Loc), wX5_meet_21 post px G t p0 p1 s0 → gh_h D vwCl AC A G H → va_S A s.heap H locs → ∀ ls : Array Slot, lv_has ls 6 [(0, .ref t), (1, .int p0), (2, .long p1)] → W p l e rmX5_meet s m args below meth c H locs 0 0 (vx_MQ below (va_Ql post (gh_B D vwCl AC A) A) (gh_X D vwCl AC px A) args s 0 0 A) (F0 m 21 ls [.long s0]) := by
  obtain ⟨⟨hx, hb, hml, hown, hts⟩, hr, hlocks, htb, hK, hE, hA⟩ := id CX
  have hno : ∀ (pc : Nat), ∀ x ∈ c.exceptionTable.toList, covers x pc = false := by rw [htb]; intro _ _ h; cases h
  intro G t p0 p1 s0 H locs hw hP hS ls hl
  dsimp only [wX5_meet_21] at hw
  refine lv_lstore (lv' := [(4, .long s0), (0, .ref t), (1, .int p0), (2, .long p1)]) hx hb dX5_meet_21 hl (by decide) rfl (fun ls hl => ?_)
  refine lv_aload_n hx hb dX5_meet_23 rfl (lv_at hl 1 rfl) ?_
  obtain ⟨fs1, x4, he2, hv3, hw⟩ := hw
  refine gh_get (ci := 5) (v := .ref x4) (C := "OwnerLedgerModel") (T := TX5) (N := 24) hx hb hts (fun w h => gT_up (inX5 w h)) hown hK hP he2 rfl 19 (by decide) (hts _ (gT_up kw_391)) (fun _ h9 => h9) hv3 dX5_meet_24 ?_
  refine lv_iload_n hx hb dX5_meet_27 rfl (lv_at hl 2 rfl) ?_
  refine lv_aload_n hx hb dX5_meet_28 rfl (lv_at hl 1 rfl) ?_
  obtain ⟨fs5, x8, he6, hv7, hw⟩ := hw
  refine gh_get (ci := 5) (v := .ref x8) (C := "OwnerLedgerModel") (T := TX5) (N := 24) hx hb hts (fun w h => gT_up (inX5 w h)) hown hK hP he6 rfl 19 (by decide) (hts _ (gT_up kw_391)) (fun _ h9 => h9) hv7 dX5_meet_29 ?_
  refine lv_iload_n hx hb dX5_meet_32 rfl (lv_at hl 2 rfl) ?_
  obtain ⟨n9, f10, he11, hi12, hw⟩ := hw
  refine gh_lald hx hb hK hP he11 rfl hi12 dX5_meet_33 ?_
  refine lv_lload hx hb dX5_meet_34 (lv_at hl 0 rfl) ?_
  refine lv_lsub hx hb dX5_meet_36 ?_
  obtain ⟨n13, f14, he15, hi16, hw⟩ := hw
  refine gh_last hx hb hK hP hS he15 rfl hi16 dX5_meet_37 (fun G18 H locs eG17 hP hS => ?_)
  replace hw := hw G18 eG17
  refine lv_lload_n hx hb dX5_meet_38 rfl (lv_at hl 3 rfl) ?_
  refine lv_lload hx hb dX5_meet_39 (lv_at hl 0 rfl) ?_
  refine lv_lsub hx hb dX5_meet_41 ?_
  exact gh_lret hx hb hr hlocks hw hP hS (Nat.le_of_ble_eq_true rfl) (Nat.le_of_ble_eq_true rfl) dX5_meet_42
def wX5_meet (post : Int64 → gh_H → Prop) (px : String → gh_H → Prop) (G : gh_H) (t : Nat) (p0 : Int32) (p1 : Int64) : Prop := ∃ (fs1 : List Value) (x4 : Nat), G t = some (.inr (5, fs1)) ∧ fs1[19]? = some (.ref x4) ∧ (∃ (n5 : Nat) (f6 : Nat → Int64), G x4 = some (.inl (1, n5, .inr (.inl f6))) ∧ vp_in p0 n5 ∧ ((0 ≤ (lg_cmp (f6 (Int32.toNatClampNeg p0)) p1) → (wX5_meet_21 post px G t p0 p1 p1)) ∧ (¬ 0 ≤ (lg_cmp (f6 (Int32.toNatClampNeg p0)) p1) → (∃ (fs10 : List Value) (x13 : Nat), G t = some (.inr (5, fs10)) ∧ fs10[19]? = some (.ref x13) ∧ (∃ (n14 : Nat) (f15 : Nat → Int64), G x13 = some (.inl (1, n14, .inr (.inl f15))) ∧ vp_in p0 n14 ∧ (wX5_meet_21 post px G t p0 p1 (f15 (Int32.toNatClampNeg p0))))))))
set_option maxRecDepth 100000 in
set_option maxHeartbeats 4000000 in
theorem mX5_meet (l : Launch) (hl0 : l.stackTraces = false) (D : va_G) (AC : Nat → ClassId) (sa : gh_SA) (t : Nat) (p0 : Int32) (p1 : Int64) (post : Int64 → gh_H → Prop) (px : String → gh_H → Prop) (G : gh_H) (sz : Nat) (hw : wX5_meet post px G t p0 p1) : vx_Met l yX5_meet wsX5_meet rmX5_meet (gh_Pc D vwCl AC (gh_ty AC) (gh_En sa) G sz [.ref t, .int p0, .long p1]) (va_Ql post (gh_B D vwCl AC (gh_A G sz)) (gh_A G sz)) (gh_X D vwCl AC px (gh_A G sz)) 0 0 (gh_A G sz) := by
  refine vx_ofW (cc := prog_7_method_10_code) (maxL := 6) (ret := (some .long)) (by decide) rfl ?_
  intro p e s m args below meth c s₁ B hml hnoh hv
  obtain ⟨rfl, hsz, hP, hK, hE⟩ := hv
  have hx := B.exec
  have hb := B.bytes
  have hr := B.returns
  have hts := atoms_spec (ws := wsX5_meet) B.pre
  have hown : s.vm.findClass "OwnerLedgerModel" = some m.cls := findClass_of_methodNamed B.named
  have hlocks := B.notSynchronized
  have htb : c.exceptionTable.toList = [] := List.eq_nil_iff_forall_not_mem.mpr hnoh
  subst hsz
  have hA : ∀ q, s.heap.size ≤ q → gh_A G s.heap.size q := fun q h => Or.inr h
  generalize gh_A G s.heap.size = A at hP hE hA ⊢
  have hno : ∀ (pc : Nat), ∀ x ∈ c.exceptionTable.toList, covers x pc = false := by rw [htb]; intro _ _ h; cases h
  have CX : cxX5_meet p s m [.ref t, .int p0, .long p1].toArray meth c D AC sa A := ⟨⟨hx, hb, hml, hown, hts⟩, hr, hlocks, htb, hK, hE, hA⟩
  have hS : va_S A s.heap s.heap [] := va_S.rf
  have hl := lv_entry ([.ref t, .int p0, .long p1]) (n := 6) (Nat.le_of_ble_eq_true rfl)
  rw [lg_entry_eq]
  generalize (lg_sl ([.ref t, .int p0, .long p1]) ++ List.replicate (6 - (lg_sl ([.ref t, .int p0, .long p1])).length) Slot.unset).toArray = ls at hl ⊢
  have hl : lv_has ls 6 [(0, .ref t), (1, .int p0), (2, .long p1)] := hl
  dsimp only [wX5_meet] at hw
  refine lv_aload_n hx hb dX5_meet_0 rfl (lv_at hl 0 rfl) ?_
  obtain ⟨fs1, x4, he2, hv3, hw⟩ := hw
  refine gh_get (ci := 5) (v := .ref x4) (C := "OwnerLedgerModel") (T := TX5) (N := 24) hx hb hts (fun w h => gT_up (inX5 w h)) hown hK hP he2 rfl 19 (by decide) (hts _ (gT_up kw_391)) (fun _ h9 => h9) hv3 dX5_meet_1 ?_
  refine lv_iload_n hx hb dX5_meet_4 rfl (lv_at hl 1 rfl) ?_
  obtain ⟨n5, f6, he7, hi8, hw⟩ := hw
  refine gh_lald hx hb hK hP he7 rfl hi8 dX5_meet_5 ?_
  refine lv_lload_n hx hb dX5_meet_6 rfl (lv_at hl 2 rfl) ?_
  refine W.lcmp hx hb dX5_meet_7 ?_
  refine lv_if_ge (tgt := 20) hx hb dX5_meet_8 (by decide) (fun c9 => ?_) (fun c9 => ?_)
  · replace hw := hw.1 c9
    refine lv_lload_n hx hb dX5_meet_20 rfl (lv_at hl 2 rfl) ?_
    have hl := lv_sub (l' := [(0, .ref t), (1, .int p0), (2, .long p1)]) hl [0, 1, 2] rfl
    exact lX5_meet_21 hl0 CX post px _ t p0 p1 p1 _ _ hw hP hS ls hl
  · replace hw := hw.2 c9
    refine lv_aload_n hx hb dX5_meet_11 rfl (lv_at hl 0 rfl) ?_
    obtain ⟨fs10, x13, he11, hv12, hw⟩ := hw
    refine gh_get (ci := 5) (v := .ref x13) (C := "OwnerLedgerModel") (T := TX5) (N := 24) hx hb hts (fun w h => gT_up (inX5 w h)) hown hK hP he11 rfl 19 (by decide) (hts _ (gT_up kw_391)) (fun _ h9 => h9) hv12 dX5_meet_12 ?_
    refine lv_iload_n hx hb dX5_meet_15 rfl (lv_at hl 1 rfl) ?_
    obtain ⟨n14, f15, he16, hi17, hw⟩ := hw
    refine gh_lald hx hb hK hP he16 rfl hi17 dX5_meet_16 ?_
    refine lv_goto (tgt := 21) hx hb dX5_meet_17 (by decide) ?_
    have hl := lv_sub (l' := [(0, .ref t), (1, .int p0), (2, .long p1)]) hl [0, 1, 2] rfl
    exact lX5_meet_21 hl0 CX post px _ t p0 p1 (f15 (Int32.toNatClampNeg p0)) _ _ hw hP hS ls hl
abbrev rmX5_thrown : Room := { frames := 0, cells := 0, slots := 0, locals := 0 }
abbrev cxX5_thrown (p : Program) (s : State) (m : MethodId) (args : Array Value) (meth : Method) (c : Code) (D : va_G) (AC : Nat → ClassId) (sa : gh_SA) (A : Nat → Prop) : Prop := CallFix p m c prog_7_method_11_code 1 s args wsX5_thrown "OwnerLedgerModel" ∧ meth.sig.returnType = (some .int) ∧ meth.locks = false ∧ c.exceptionTable.toList = [] ∧ va_K D vwCl (gh_ty AC) s ∧ gh_En sa A s s.heap ∧ (∀ q, s.heap.size ≤ q → A q)
def wX5_thrown (post : Int32 → gh_H → Prop) (px : String → gh_H → Prop) (G : gh_H) (t : Nat) : Prop := ∃ (fs1 : List Value) (x4 : Int32), G t = some (.inr (5, fs1)) ∧ fs1[0]? = some (.int x4) ∧ (post x4 G)
set_option maxRecDepth 100000 in
set_option maxHeartbeats 4000000 in
theorem mX5_thrown (l : Launch) (hl0 : l.stackTraces = false) (D : va_G) (AC : Nat → ClassId) (sa : gh_SA) (t : Nat) (post : Int32 → gh_H → Prop) (px : String → gh_H → Prop) (G : gh_H) (sz : Nat) (hw : wX5_thrown post px G t) : vx_Met l yX5_thrown wsX5_thrown rmX5_thrown (gh_Pc D vwCl AC (gh_ty AC) (gh_En sa) G sz [.ref t]) (va_Qi post (gh_B D vwCl AC (gh_A G sz)) (gh_A G sz)) (gh_X D vwCl AC px (gh_A G sz)) 0 0 (gh_A G sz) := by
  refine vx_ofW (cc := prog_7_method_11_code) (maxL := 1) (ret := (some .int)) (by decide) rfl ?_
  intro p e s m args below meth c s₁ B hml hnoh hv
  obtain ⟨rfl, hsz, hP, hK, hE⟩ := hv
  have hx := B.exec
  have hb := B.bytes
  have hr := B.returns
  have hts := atoms_spec (ws := wsX5_thrown) B.pre
  have hown : s.vm.findClass "OwnerLedgerModel" = some m.cls := findClass_of_methodNamed B.named
  have hlocks := B.notSynchronized
  have htb : c.exceptionTable.toList = [] := List.eq_nil_iff_forall_not_mem.mpr hnoh
  subst hsz
  have hA : ∀ q, s.heap.size ≤ q → gh_A G s.heap.size q := fun q h => Or.inr h
  generalize gh_A G s.heap.size = A at hP hE hA ⊢
  have hno : ∀ (pc : Nat), ∀ x ∈ c.exceptionTable.toList, covers x pc = false := by rw [htb]; intro _ _ h; cases h
  have CX : cxX5_thrown p s m [.ref t].toArray meth c D AC sa A := ⟨⟨hx, hb, hml, hown, hts⟩, hr, hlocks, htb, hK, hE, hA⟩
  have hS : va_S A s.heap s.heap [] := va_S.rf
  have hl := lv_entry ([.ref t]) (n := 1) (Nat.le_of_ble_eq_true rfl)
  rw [lg_entry_eq]
  generalize (lg_sl ([.ref t]) ++ List.replicate (1 - (lg_sl ([.ref t])).length) Slot.unset).toArray = ls at hl ⊢
  have hl : lv_has ls 1 [(0, .ref t)] := hl
  dsimp only [wX5_thrown] at hw
  refine lv_aload_n hx hb dX5_thrown_0 rfl (lv_at hl 0 rfl) ?_
  obtain ⟨fs1, x4, he2, hv3, hw⟩ := hw
  refine gh_get (ci := 5) (v := .int x4) (C := "OwnerLedgerModel") (T := TX5) (N := 24) hx hb hts (fun w h => gT_up (inX5 w h)) hown hK hP he2 rfl 0 (by decide) (hts _ (gT_up kw_372)) (fun _ h9 => h9) hv3 dX5_thrown_1 ?_
  exact gh_iret hx hb hr hlocks hw hP hS (Nat.le_of_ble_eq_true rfl) (Nat.le_of_ble_eq_true rfl) dX5_thrown_4
abbrev rmX5_owner : Room := { frames := 0, cells := 0, slots := 0, locals := 0 }
abbrev cxX5_owner (p : Program) (s : State) (m : MethodId) (args : Array Value) (meth : Method) (c : Code) (D : va_G) (AC : Nat → ClassId) (sa : gh_SA) (A : Nat → Prop) : Prop := CallFix p m c prog_7_method_12_code 1 s args wsX5_owner "OwnerLedgerModel" ∧ meth.sig.returnType = (some .int) ∧ meth.locks = false ∧ c.exceptionTable.toList = [] ∧ va_K D vwCl (gh_ty AC) s ∧ gh_En sa A s s.heap ∧ (∀ q, s.heap.size ≤ q → A q)
def wX5_owner_15 (post : Int32 → gh_H → Prop) (px : String → gh_H → Prop) (G : gh_H) (t : Nat) (s0 : Nat) (s1 : Int32) : Prop := ∃ fs1 : List Value, G s0 = some (.inr (5, fs1)) ∧ 0 < fs1.length ∧ (∀ G4 : gh_H, G4 = gh_up G s0 (.inr (5, fs1.set 0 (.int s1))) → ∃ (fs6 : List Value) (x9 : Int32), G4 t = some (.inr (5, fs6)) ∧ fs6[0]? = some (.int x9) ∧ ((x9 = 0 → (∃ (fs11 : List Value) (x14 : Int32), G4 t = some (.inr (5, fs11)) ∧ fs11[3]? = some (.int x14) ∧ (∃ fs15 : List Value, G4 t = some (.inr (5, fs15)) ∧ 3 < fs15.length ∧ (∀ G18 : gh_H, G18 = gh_up G4 t (.inr (5, fs15.set 3 (.int (x14 + 1)))) → ∃ (fs20 : List Value) (x23 : Int32), G18 t = some (.inr (5, fs20)) ∧ fs20[3]? = some (.int x23) ∧ (post (x23 - 1) G18))))) ∧ (¬ x9 = 0 → (post 0 G4))))
set_option maxRecDepth 100000 in
set_option maxHeartbeats 4000000 in
theorem lX5_owner_15 {p : Program} {l : Launch} {e : Env} {s : State} {m : MethodId} {args : Array Value} {below : List Frame} {meth : Method} {c : Code} {D : va_G} {AC : Nat → ClassId} {sa : gh_SA} {A : Nat → Prop} (hl0 : l.stackTraces = false) (CX : cxX5_owner p s m args meth c D AC sa A) (post : Int32 → gh_H → Prop) (px : String → gh_H → Prop) : ∀ (G : gh_H) (t : Nat) (s0 : Nat) (s1 : Int32) (H : Heap) (locs : List Loc), wX5_owner_15 post px G t s0 s1 → gh_h D vwCl AC A G H → va_S A s.heap H locs → ∀ ls : Array Slot, lv_has ls 1 [(0, .ref t)] → W p l e rmX5_owner s m args below meth c H locs 0 0 (vx_MQ below (va_Qi post (gh_B D vwCl AC A) A) (gh_X D vwCl AC px A) args s 0 0 A) (F0 m 15 ls [.int s1, .ref s0]) := by
  obtain ⟨⟨hx, hb, hml, hown, hts⟩, hr, hlocks, htb, hK, hE, hA⟩ := id CX
  have hno : ∀ (pc : Nat), ∀ x ∈ c.exceptionTable.toList, covers x pc = false := by rw [htb]; intro _ _ h; cases h
  intro G t s0 s1 H locs hw hP hS ls hl
  dsimp only [wX5_owner_15] at hw
  obtain ⟨fs1, he2, hk3, hw⟩ := hw
  refine gh_put (ci := 5) (v := .int s1) (ty := .int) (C := "OwnerLedgerModel") (T := TX5) (N := 24) hx hb hts (fun w h => gT_up (inX5 w h)) tyX5 tyX5_ok nmX5 hown hK hP hS he2 rfl 0 (by decide) (hts _ (gT_up kw_372)) (fun _ h9 => h9) rfl (by decide +kernel) rfl rfl hk3 dX5_owner_15 (fun G4 H locs eG5 hP hS => ?_)
  replace hw := hw G4 eG5
  refine lv_aload_n hx hb dX5_owner_18 rfl (lv_at hl 0 rfl) ?_
  obtain ⟨fs6, x9, he7, hv8, hw⟩ := hw
  refine gh_get (ci := 5) (v := .int x9) (C := "OwnerLedgerModel") (T := TX5) (N := 24) hx hb hts (fun w h => gT_up (inX5 w h)) hown hK hP he7 rfl 0 (by decide) (hts _ (gT_up kw_372)) (fun _ h9 => h9) hv8 dX5_owner_19 ?_
  refine lv_if_eq (tgt := 27) hx hb dX5_owner_22 (by decide) (fun c10 => ?_) (fun c10 => ?_)
  · replace hw := hw.1 c10
    refine lv_aload_n hx hb dX5_owner_27 rfl (lv_at hl 0 rfl) ?_
    refine lv_dup hx hb dX5_owner_28 rfl ?_
    obtain ⟨fs11, x14, he12, hv13, hw⟩ := hw
    refine gh_get (ci := 5) (v := .int x14) (C := "OwnerLedgerModel") (T := TX5) (N := 24) hx hb hts (fun w h => gT_up (inX5 w h)) hown hK hP he12 rfl 3 (by decide) (hts _ (gT_up kw_375)) (fun _ h9 => h9) hv13 dX5_owner_29 ?_
    refine lv_iconst (v := 1) hx hb dX5_owner_32 (by decide) ?_
    refine lv_iadd hx hb dX5_owner_33 ?_
    obtain ⟨fs15, he16, hk17, hw⟩ := hw
    refine gh_put (ci := 5) (v := .int (x14 + 1)) (ty := .int) (C := "OwnerLedgerModel") (T := TX5) (N := 24) hx hb hts (fun w h => gT_up (inX5 w h)) tyX5 tyX5_ok nmX5 hown hK hP hS he16 rfl 3 (by decide) (hts _ (gT_up kw_375)) (fun _ h9 => h9) rfl (by decide +kernel) rfl rfl hk17 dX5_owner_34 (fun G18 H locs eG19 hP hS => ?_)
    replace hw := hw G18 eG19
    refine lv_aload_n hx hb dX5_owner_37 rfl (lv_at hl 0 rfl) ?_
    obtain ⟨fs20, x23, he21, hv22, hw⟩ := hw
    refine gh_get (ci := 5) (v := .int x23) (C := "OwnerLedgerModel") (T := TX5) (N := 24) hx hb hts (fun w h => gT_up (inX5 w h)) hown hK hP he21 rfl 3 (by decide) (hts _ (gT_up kw_375)) (fun _ h9 => h9) hv22 dX5_owner_38 ?_
    refine lv_iconst (v := 1) hx hb dX5_owner_41 (by decide) ?_
    refine lv_isub hx hb dX5_owner_42 ?_
    exact gh_iret hx hb hr hlocks hw hP hS (Nat.le_of_ble_eq_true rfl) (Nat.le_of_ble_eq_true rfl) dX5_owner_43
  · replace hw := hw.2 c10
    refine lv_iconst (v := 0) hx hb dX5_owner_25 (by decide) ?_
    exact gh_iret hx hb hr hlocks hw hP hS (Nat.le_of_ble_eq_true rfl) (Nat.le_of_ble_eq_true rfl) dX5_owner_26
def wX5_owner (post : Int32 → gh_H → Prop) (px : String → gh_H → Prop) (G : gh_H) (t : Nat) : Prop := ∃ (fs1 : List Value) (x4 : Int32), G t = some (.inr (5, fs1)) ∧ fs1[3]? = some (.int x4) ∧ ((¬ x4 = 6 → (wX5_owner_15 post px G t t 0)) ∧ (x4 = 6 → (wX5_owner_15 post px G t t 1)))
set_option maxRecDepth 100000 in
set_option maxHeartbeats 4000000 in
theorem mX5_owner (l : Launch) (hl0 : l.stackTraces = false) (D : va_G) (AC : Nat → ClassId) (sa : gh_SA) (t : Nat) (post : Int32 → gh_H → Prop) (px : String → gh_H → Prop) (G : gh_H) (sz : Nat) (hw : wX5_owner post px G t) : vx_Met l yX5_owner wsX5_owner rmX5_owner (gh_Pc D vwCl AC (gh_ty AC) (gh_En sa) G sz [.ref t]) (va_Qi post (gh_B D vwCl AC (gh_A G sz)) (gh_A G sz)) (gh_X D vwCl AC px (gh_A G sz)) 0 0 (gh_A G sz) := by
  refine vx_ofW (cc := prog_7_method_12_code) (maxL := 1) (ret := (some .int)) (by decide) rfl ?_
  intro p e s m args below meth c s₁ B hml hnoh hv
  obtain ⟨rfl, hsz, hP, hK, hE⟩ := hv
  have hx := B.exec
  have hb := B.bytes
  have hr := B.returns
  have hts := atoms_spec (ws := wsX5_owner) B.pre
  have hown : s.vm.findClass "OwnerLedgerModel" = some m.cls := findClass_of_methodNamed B.named
  have hlocks := B.notSynchronized
  have htb : c.exceptionTable.toList = [] := List.eq_nil_iff_forall_not_mem.mpr hnoh
  subst hsz
  have hA : ∀ q, s.heap.size ≤ q → gh_A G s.heap.size q := fun q h => Or.inr h
  generalize gh_A G s.heap.size = A at hP hE hA ⊢
  have hno : ∀ (pc : Nat), ∀ x ∈ c.exceptionTable.toList, covers x pc = false := by rw [htb]; intro _ _ h; cases h
  have CX : cxX5_owner p s m [.ref t].toArray meth c D AC sa A := ⟨⟨hx, hb, hml, hown, hts⟩, hr, hlocks, htb, hK, hE, hA⟩
  have hS : va_S A s.heap s.heap [] := va_S.rf
  have hl := lv_entry ([.ref t]) (n := 1) (Nat.le_of_ble_eq_true rfl)
  rw [lg_entry_eq]
  generalize (lg_sl ([.ref t]) ++ List.replicate (1 - (lg_sl ([.ref t])).length) Slot.unset).toArray = ls at hl ⊢
  have hl : lv_has ls 1 [(0, .ref t)] := hl
  dsimp only [wX5_owner] at hw
  refine lv_aload_n hx hb dX5_owner_0 rfl (lv_at hl 0 rfl) ?_
  refine lv_aload_n hx hb dX5_owner_1 rfl (lv_at hl 0 rfl) ?_
  obtain ⟨fs1, x4, he2, hv3, hw⟩ := hw
  refine gh_get (ci := 5) (v := .int x4) (C := "OwnerLedgerModel") (T := TX5) (N := 24) hx hb hts (fun w h => gT_up (inX5 w h)) hown hK hP he2 rfl 3 (by decide) (hts _ (gT_up kw_375)) (fun _ h9 => h9) hv3 dX5_owner_2 ?_
  refine lv_bipush (v := 6) hx hb dX5_owner_5 (by decide) ?_
  refine lv_icmp_ne (tgt := 14) hx hb dX5_owner_7 (by decide) (fun c5 => ?_) (fun c5 => ?_)
  · replace hw := hw.1 c5
    refine lv_iconst (v := 0) hx hb dX5_owner_14 (by decide) ?_
    have hl := lv_sub (l' := [(0, .ref t)]) hl [0] rfl
    exact lX5_owner_15 hl0 CX post px _ t t 0 _ _ hw hP hS ls hl
  · replace hw := hw.2 c5
    refine lv_iconst (v := 1) hx hb dX5_owner_10 (by decide) ?_
    refine lv_goto (tgt := 15) hx hb dX5_owner_11 (by decide) ?_
    have hl := lv_sub (l' := [(0, .ref t)]) hl [0] rfl
    exact lX5_owner_15 hl0 CX post px _ t t 1 _ _ hw hP hS ls hl
abbrev rmX5_account : Room := { frames := 1, cells := 0, slots := 0, locals := 25 }
abbrev cxX5_account (p : Program) (s : State) (m : MethodId) (args : Array Value) (meth : Method) (c : Code) (D : va_G) (AC : Nat → ClassId) (sa : gh_SA) (A : Nat → Prop) : Prop := CallFix p m c prog_7_method_13_code 3 s args wsX5_account "OwnerLedgerModel" ∧ meth.sig.returnType = (some .int) ∧ meth.locks = false ∧ c.exceptionTable.toList = [] ∧ va_K D vwCl (gh_ty AC) s ∧ gh_En sa A s s.heap ∧ (∀ q, s.heap.size ≤ q → A q)
def wX5_account_43 (post : Int32 → gh_H → Prop) (px : String → gh_H → Prop) (G : gh_H) (t : Nat) (p1 : Int32) (s0 : Nat) (s1 : Int32) : Prop := ∃ fs1 : List Value, G s0 = some (.inr (5, fs1)) ∧ 0 < fs1.length ∧ (∀ G4 : gh_H, G4 = gh_up G s0 (.inr (5, fs1.set 0 (.int s1))) → ∃ (fs6 : List Value) (x9 : Int32), G4 t = some (.inr (5, fs6)) ∧ fs6[0]? = some (.int x9) ∧ ((x9 = 0 → (∃ (fs11 : List Value) (x14 : Nat), G4 t = some (.inr (5, fs11)) ∧ fs11[7]? = some (.ref x14) ∧ (∃ (fs15 : List Value) (x18 : Int32), G4 t = some (.inr (5, fs15)) ∧ fs15[6]? = some (.int x18) ∧ (∃ (n19 : Nat) (f20 : Nat → Int32), G4 x14 = some (.inl (0, n19, .inl f20)) ∧ vp_in x18 n19 ∧ (∀ G24 : gh_H, G24 = gh_up G4 x14 (.inl (0, n19, .inl (upd f20 (Int32.toNatClampNeg x18) p1))) → ∃ (fs25 : List Value) (x28 : Int32), G24 t = some (.inr (5, fs25)) ∧ fs25[6]? = some (.int x28) ∧ (∃ fs29 : List Value, G24 t = some (.inr (5, fs29)) ∧ 6 < fs29.length ∧ (∀ G32 : gh_H, G32 = gh_up G24 t (.inr (5, fs29.set 6 (.int (x28 + 1)))) → ∃ (fs34 : List Value) (x37 : Int32), G32 t = some (.inr (5, fs34)) ∧ fs34[6]? = some (.int x37) ∧ (post (x37 - 1) G32)))))))) ∧ (¬ x9 = 0 → (post 0 G4))))
set_option maxRecDepth 100000 in
set_option maxHeartbeats 4000000 in
theorem lX5_account_43 {p : Program} {l : Launch} {e : Env} {s : State} {m : MethodId} {args : Array Value} {below : List Frame} {meth : Method} {c : Code} {D : va_G} {AC : Nat → ClassId} {sa : gh_SA} {A : Nat → Prop} (hl0 : l.stackTraces = false) (CX : cxX5_account p s m args meth c D AC sa A) (post : Int32 → gh_H → Prop) (px : String → gh_H → Prop) : ∀ (G : gh_H) (t : Nat) (p1 : Int32) (s0 : Nat) (s1 : Int32) (H : Heap) (locs : List Loc), wX5_account_43 post px G t p1 s0 s1 → gh_h D vwCl AC A G H → va_S A s.heap H locs → ∀ ls : Array Slot, lv_has ls 3 [(0, .ref t), (2, .int p1)] → W p l e rmX5_account s m args below meth c H locs 0 0 (vx_MQ below (va_Qi post (gh_B D vwCl AC A) A) (gh_X D vwCl AC px A) args s 0 0 A) (F0 m 43 ls [.int s1, .ref s0]) := by
  obtain ⟨⟨hx, hb, hml, hown, hts⟩, hr, hlocks, htb, hK, hE, hA⟩ := id CX
  have hno : ∀ (pc : Nat), ∀ x ∈ c.exceptionTable.toList, covers x pc = false := by rw [htb]; intro _ _ h; cases h
  intro G t p1 s0 s1 H locs hw hP hS ls hl
  dsimp only [wX5_account_43] at hw
  obtain ⟨fs1, he2, hk3, hw⟩ := hw
  refine gh_put (ci := 5) (v := .int s1) (ty := .int) (C := "OwnerLedgerModel") (T := TX5) (N := 24) hx hb hts (fun w h => gT_up (inX5 w h)) tyX5 tyX5_ok nmX5 hown hK hP hS he2 rfl 0 (by decide) (hts _ (gT_up kw_372)) (fun _ h9 => h9) rfl (by decide +kernel) rfl rfl hk3 dX5_account_43 (fun G4 H locs eG5 hP hS => ?_)
  replace hw := hw G4 eG5
  refine lv_aload_n hx hb dX5_account_46 rfl (lv_at hl 0 rfl) ?_
  obtain ⟨fs6, x9, he7, hv8, hw⟩ := hw
  refine gh_get (ci := 5) (v := .int x9) (C := "OwnerLedgerModel") (T := TX5) (N := 24) hx hb hts (fun w h => gT_up (inX5 w h)) hown hK hP he7 rfl 0 (by decide) (hts _ (gT_up kw_372)) (fun _ h9 => h9) hv8 dX5_account_47 ?_
  refine lv_if_eq (tgt := 55) hx hb dX5_account_50 (by decide) (fun c10 => ?_) (fun c10 => ?_)
  · replace hw := hw.1 c10
    refine lv_aload_n hx hb dX5_account_55 rfl (lv_at hl 0 rfl) ?_
    obtain ⟨fs11, x14, he12, hv13, hw⟩ := hw
    refine gh_get (ci := 5) (v := .ref x14) (C := "OwnerLedgerModel") (T := TX5) (N := 24) hx hb hts (fun w h => gT_up (inX5 w h)) hown hK hP he12 rfl 7 (by decide) (hts _ (gT_up kw_379)) (fun _ h9 => h9) hv13 dX5_account_56 ?_
    refine lv_aload_n hx hb dX5_account_59 rfl (lv_at hl 0 rfl) ?_
    obtain ⟨fs15, x18, he16, hv17, hw⟩ := hw
    refine gh_get (ci := 5) (v := .int x18) (C := "OwnerLedgerModel") (T := TX5) (N := 24) hx hb hts (fun w h => gT_up (inX5 w h)) hown hK hP he16 rfl 6 (by decide) (hts _ (gT_up kw_378)) (fun _ h9 => h9) hv17 dX5_account_60 ?_
    refine lv_iload_n hx hb dX5_account_63 rfl (lv_at hl 1 rfl) ?_
    obtain ⟨n19, f20, he21, hi22, hw⟩ := hw
    refine gh_iast hx hb hK hP hS he21 rfl hi22 dX5_account_64 (fun G24 H locs eG23 hP hS => ?_)
    replace hw := hw G24 eG23
    refine lv_aload_n hx hb dX5_account_65 rfl (lv_at hl 0 rfl) ?_
    refine lv_dup hx hb dX5_account_66 rfl ?_
    obtain ⟨fs25, x28, he26, hv27, hw⟩ := hw
    refine gh_get (ci := 5) (v := .int x28) (C := "OwnerLedgerModel") (T := TX5) (N := 24) hx hb hts (fun w h => gT_up (inX5 w h)) hown hK hP he26 rfl 6 (by decide) (hts _ (gT_up kw_378)) (fun _ h9 => h9) hv27 dX5_account_67 ?_
    refine lv_iconst (v := 1) hx hb dX5_account_70 (by decide) ?_
    refine lv_iadd hx hb dX5_account_71 ?_
    obtain ⟨fs29, he30, hk31, hw⟩ := hw
    refine gh_put (ci := 5) (v := .int (x28 + 1)) (ty := .int) (C := "OwnerLedgerModel") (T := TX5) (N := 24) hx hb hts (fun w h => gT_up (inX5 w h)) tyX5 tyX5_ok nmX5 hown hK hP hS he30 rfl 6 (by decide) (hts _ (gT_up kw_378)) (fun _ h9 => h9) rfl (by decide +kernel) rfl rfl hk31 dX5_account_72 (fun G32 H locs eG33 hP hS => ?_)
    replace hw := hw G32 eG33
    refine lv_aload_n hx hb dX5_account_75 rfl (lv_at hl 0 rfl) ?_
    obtain ⟨fs34, x37, he35, hv36, hw⟩ := hw
    refine gh_get (ci := 5) (v := .int x37) (C := "OwnerLedgerModel") (T := TX5) (N := 24) hx hb hts (fun w h => gT_up (inX5 w h)) hown hK hP he35 rfl 6 (by decide) (hts _ (gT_up kw_378)) (fun _ h9 => h9) hv36 dX5_account_76 ?_
    refine lv_iconst (v := 1) hx hb dX5_account_79 (by decide) ?_
    refine lv_isub hx hb dX5_account_80 ?_
    exact gh_iret hx hb hr hlocks hw hP hS (Nat.le_of_ble_eq_true rfl) (Nat.le_of_ble_eq_true rfl) dX5_account_81
  · replace hw := hw.2 c10
    refine lv_iconst (v := 0) hx hb dX5_account_53 (by decide) ?_
    exact gh_iret hx hb hr hlocks hw hP hS (Nat.le_of_ble_eq_true rfl) (Nat.le_of_ble_eq_true rfl) dX5_account_54
def wX5_account (post : Int32 → gh_H → Prop) (px : String → gh_H → Prop) (G : gh_H) (t : Nat) (p0 : Int32) (p1 : Int32) : Prop := ∃ fs3 : List Value, G t = some (.inr (5, fs3)) ∧ wX5_noOwner (fun r1 G2 => (r1 = 0 → (wX5_not (fun r6 G7 => (r6 = 0 → (∃ (fs9 : List Value) (x12 : Int32), G7 t = some (.inr (5, fs9)) ∧ fs9[6]? = some (.int x12) ∧ ((¬ x12 = 20 → (wX5_account_43 post px G7 t p1 t 0)) ∧ (x12 = 20 → (wX5_account_43 post px G7 t p1 t 3))))) ∧ (¬ r6 = 0 → (wX5_account_43 post px G7 t p1 t 2))) px G2 (Int32.toInt64 p1) 0 2)) ∧ (¬ r1 = 0 → (wX5_account_43 post px G2 t p1 t 1))) px G t p0
set_option maxRecDepth 100000 in
set_option maxHeartbeats 4000000 in
theorem mX5_account (l : Launch) (hl0 : l.stackTraces = false) (D : va_G) (AC : Nat → ClassId) (sa : gh_SA) (t : Nat) (p0 : Int32) (p1 : Int32) (post : Int32 → gh_H → Prop) (px : String → gh_H → Prop) (G : gh_H) (sz : Nat) (hw : wX5_account post px G t p0 p1) : vx_Met l yX5_account wsX5_account rmX5_account (gh_Pc D vwCl AC (gh_ty AC) (gh_En sa) G sz [.ref t, .int p0, .int p1]) (va_Qi post (gh_B D vwCl AC (gh_A G sz)) (gh_A G sz)) (gh_X D vwCl AC px (gh_A G sz)) 0 0 (gh_A G sz) := by
  refine vx_ofW (cc := prog_7_method_13_code) (maxL := 3) (ret := (some .int)) (by decide) rfl ?_
  intro p e s m args below meth c s₁ B hml hnoh hv
  obtain ⟨rfl, hsz, hP, hK, hE⟩ := hv
  have hx := B.exec
  have hb := B.bytes
  have hr := B.returns
  have hts := atoms_spec (ws := wsX5_account) B.pre
  have hown : s.vm.findClass "OwnerLedgerModel" = some m.cls := findClass_of_methodNamed B.named
  have hlocks := B.notSynchronized
  have htb : c.exceptionTable.toList = [] := List.eq_nil_iff_forall_not_mem.mpr hnoh
  subst hsz
  have hA : ∀ q, s.heap.size ≤ q → gh_A G s.heap.size q := fun q h => Or.inr h
  generalize gh_A G s.heap.size = A at hP hE hA ⊢
  have hno : ∀ (pc : Nat), ∀ x ∈ c.exceptionTable.toList, covers x pc = false := by rw [htb]; intro _ _ h; cases h
  have CX : cxX5_account p s m [.ref t, .int p0, .int p1].toArray meth c D AC sa A := ⟨⟨hx, hb, hml, hown, hts⟩, hr, hlocks, htb, hK, hE, hA⟩
  have hS : va_S A s.heap s.heap [] := va_S.rf
  have hl := lv_entry ([.ref t, .int p0, .int p1]) (n := 3) (Nat.le_of_ble_eq_true rfl)
  rw [lg_entry_eq]
  generalize (lg_sl ([.ref t, .int p0, .int p1]) ++ List.replicate (3 - (lg_sl ([.ref t, .int p0, .int p1])).length) Slot.unset).toArray = ls at hl ⊢
  have hl : lv_has ls 3 [(0, .ref t), (1, .int p0), (2, .int p1)] := hl
  dsimp only [wX5_account] at hw
  refine lv_aload_n hx hb dX5_account_0 rfl (lv_at hl 0 rfl) ?_
  refine lv_aload_n hx hb dX5_account_1 rfl (lv_at hl 0 rfl) ?_
  refine lv_iload_n hx hb dX5_account_2 rfl (lv_at hl 1 rfl) ?_
  obtain ⟨fs3, he4, hw⟩ := hw
  refine gh_ci hlocks (hno _) (vx_runV (C := "OwnerLedgerModel") (As := [.int p0]) (rest := [.ref t]) ⟨hx, hb, hml, hown, hts⟩ (mX5_noOwner l hl0 D AC sa _ _ _ _ _ _ hw) (cwV 1 hts (gV kw_410 kw_411 kw_540 kw_2 kw_412) rfl rfl rfl (by decide +kernel) ⟨Nat.le_of_ble_eq_true rfl, Nat.le_of_ble_eq_true rfl⟩) (gh_preV gh_En_ok hK hE hP hS hA he4 rfl _) rfl rfl hl.1 rfl (lv_room (Nat.le_of_ble_eq_true rfl)) dX5_account_3 ⟨Nat.le_of_ble_eq_true rfl, Nat.le_of_ble_eq_true rfl⟩) hP hS hA (Nat.le_of_ble_eq_true rfl) (Nat.le_of_ble_eq_true rfl) (fun r1 G2 H locs hw2 hP hS => ?_)
  replace hw := hw2
  clear hw2
  refine lv_if_eq (tgt := 13) hx hb dX5_account_6 (by decide) (fun c5 => ?_) (fun c5 => ?_)
  · replace hw := hw.1 c5
    refine lv_iload_n hx hb dX5_account_13 rfl (lv_at hl 2 rfl) ?_
    refine lv_i2l hx hb dX5_account_14 rfl ?_
    refine lv_lconst (v := 0) hx hb dX5_account_15 (by decide) ?_
    refine lv_ldc2 (v := 2) hx hb hown (hts _ (gT_up kw_413)) dX5_account_16 ?_
    refine gh_ci hlocks (hno _) (vx_runS (As := [.long (Int32.toInt64 p1), .long 0, .long 2]) (rest := [.ref t]) ⟨hx, hb, hml, hown, hts⟩ (mX5_not l hl0 D AC sa _ _ _ _ _ _ _ hw) (va_cwS 3 hts (gS kw_414 kw_415 kw_2 kw_416) rfl rfl rfl (by decide +kernel) ⟨Nat.le_of_ble_eq_true rfl, Nat.le_of_ble_eq_true rfl⟩) (gh_pre gh_En_ok hK hE hP hS hA _) rfl rfl hl.1 rfl (lv_room (Nat.le_of_ble_eq_true rfl)) dX5_account_19 ⟨Nat.le_of_ble_eq_true rfl, Nat.le_of_ble_eq_true rfl⟩) hP hS hA (Nat.le_of_ble_eq_true rfl) (Nat.le_of_ble_eq_true rfl) (fun r6 G7 H locs hw2 hP hS => ?_)
    replace hw := hw2
    clear hw2
    refine lv_if_eq (tgt := 29) hx hb dX5_account_22 (by decide) (fun c8 => ?_) (fun c8 => ?_)
    · replace hw := hw.1 c8
      refine lv_aload_n hx hb dX5_account_29 rfl (lv_at hl 0 rfl) ?_
      obtain ⟨fs9, x12, he10, hv11, hw⟩ := hw
      refine gh_get (ci := 5) (v := .int x12) (C := "OwnerLedgerModel") (T := TX5) (N := 24) hx hb hts (fun w h => gT_up (inX5 w h)) hown hK hP he10 rfl 6 (by decide) (hts _ (gT_up kw_378)) (fun _ h9 => h9) hv11 dX5_account_30 ?_
      refine lv_bipush (v := 20) hx hb dX5_account_33 (by decide) ?_
      refine lv_icmp_ne (tgt := 42) hx hb dX5_account_35 (by decide) (fun c13 => ?_) (fun c13 => ?_)
      · replace hw := hw.1 c13
        refine lv_iconst (v := 0) hx hb dX5_account_42 (by decide) ?_
        have hl := lv_sub (l' := [(0, .ref t), (2, .int p1)]) hl [0, 2] rfl
        exact lX5_account_43 hl0 CX post px _ t p1 t 0 _ _ hw hP hS ls hl
      · replace hw := hw.2 c13
        refine lv_iconst (v := 3) hx hb dX5_account_38 (by decide) ?_
        refine lv_goto (tgt := 43) hx hb dX5_account_39 (by decide) ?_
        have hl := lv_sub (l' := [(0, .ref t), (2, .int p1)]) hl [0, 2] rfl
        exact lX5_account_43 hl0 CX post px _ t p1 t 3 _ _ hw hP hS ls hl
    · replace hw := hw.2 c8
      refine lv_iconst (v := 2) hx hb dX5_account_25 (by decide) ?_
      refine lv_goto (tgt := 43) hx hb dX5_account_26 (by decide) ?_
      have hl := lv_sub (l' := [(0, .ref t), (2, .int p1)]) hl [0, 2] rfl
      exact lX5_account_43 hl0 CX post px _ t p1 t 2 _ _ hw hP hS ls hl
  · replace hw := hw.2 c5
    refine lv_iconst (v := 1) hx hb dX5_account_9 (by decide) ?_
    refine lv_goto (tgt := 43) hx hb dX5_account_10 (by decide) ?_
    have hl := lv_sub (l' := [(0, .ref t), (2, .int p1)]) hl [0, 2] rfl
    exact lX5_account_43 hl0 CX post px _ t p1 t 1 _ _ hw hP hS ls hl
