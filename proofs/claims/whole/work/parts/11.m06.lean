abbrev rmX5_all : Room := { frames := 1, cells := 0, slots := 0, locals := 25 }
abbrev cxX5_all (p : Program) (s : State) (m : MethodId) (args : Array Value) (meth : Method) (c : Code) (D : va_G) (AC : Nat → ClassId) (sa : gh_SA) (A : Nat → Prop) : Prop := CallFix p m c prog_7_method_22_code 5 s args wsX5_all "OwnerLedgerModel" ∧ meth.sig.returnType = (some .long) ∧ meth.locks = false ∧ c.exceptionTable.toList = [] ∧ va_K D vwCl (gh_ty AC) s ∧ gh_En sa A s s.heap ∧ (∀ q, s.heap.size ≤ q → A q)
def wX5_all_67 (post : Int64 → gh_H → Prop) (px : String → gh_H → Prop) (J35 : gh_H → Nat → Int32 → Int64 → Int32 → Prop) (G : gh_H) (t : Nat) (p0 : Int32) (v4 : Int32) (s0 : Int64) (s1 : Int64) : Prop := J35 G t p0 (s0 + s1) (v4 + 1)
set_option maxRecDepth 100000 in
set_option maxHeartbeats 4000000 in
theorem lX5_all_67 {p : Program} {l : Launch} {e : Env} {s : State} {m : MethodId} {args : Array Value} {below : List Frame} {meth : Method} {c : Code} {D : va_G} {AC : Nat → ClassId} {sa : gh_SA} {A : Nat → Prop} (hl0 : l.stackTraces = false) (CX : cxX5_all p s m args meth c D AC sa A) (post : Int64 → gh_H → Prop) (px : String → gh_H → Prop) (J35 : gh_H → Nat → Int32 → Int64 → Int32 → Prop) (hJ35 : ∀ (G : gh_H) (t : Nat) (p0 : Int32) (v2 : Int64) (v4 : Int32) (H : Heap) (locs : List Loc), J35 G t p0 v2 v4 → gh_h D vwCl AC A G H → va_S A s.heap H locs → ∀ ls : Array Slot, lv_has ls 5 [(0, .ref t), (1, .int p0), (2, .long v2), (4, .int v4)] → W p l e rmX5_all s m args below meth c H locs 0 0 (vx_MQ below (va_Ql post (gh_B D vwCl AC A) A) (gh_X D vwCl AC px A) args s 0 0 A) (F0 m 35 ls [])) : ∀ (G : gh_H) (t : Nat) (p0 : Int32) (v4 : Int32) (s0 : Int64) (s1 : Int64) (H : Heap) (locs : List Loc), wX5_all_67 post px J35 G t p0 v4 s0 s1 → gh_h D vwCl AC A G H → va_S A s.heap H locs → ∀ ls : Array Slot, lv_has ls 5 [(0, .ref t), (1, .int p0), (4, .int v4)] → W p l e rmX5_all s m args below meth c H locs 0 0 (vx_MQ below (va_Ql post (gh_B D vwCl AC A) A) (gh_X D vwCl AC px A) args s 0 0 A) (F0 m 67 ls [.long s1, .long s0]) := by
  obtain ⟨⟨hx, hb, hml, hown, hts⟩, hr, hlocks, htb, hK, hE, hA⟩ := id CX
  have hno : ∀ (pc : Nat), ∀ x ∈ c.exceptionTable.toList, covers x pc = false := by rw [htb]; intro _ _ h; cases h
  intro G t p0 v4 s0 s1 H locs hw hP hS ls hl
  dsimp only [wX5_all_67] at hw
  refine lv_ladd hx hb dX5_all_67 ?_
  refine lv_lstore_n (lv' := [(2, .long (s0 + s1)), (0, .ref t), (1, .int p0), (4, .int v4)]) hx hb dX5_all_68 rfl hl (by decide) rfl (fun ls hl => ?_)
  refine lv_iinc (v := (v4 + 1)) (lv' := [(4, .int (v4 + 1)), (2, .long (s0 + s1)), (0, .ref t), (1, .int p0)]) hx hb dX5_all_69 hl (k := 3) rfl rfl (by decide) rfl (fun ls hl => ?_)
  refine lv_goto (tgt := 35) hx hb dX5_all_72 (by decide) ?_
  have hl := lv_sub (l' := [(0, .ref t), (1, .int p0), (2, .long (s0 + s1)), (4, .int (v4 + 1))]) hl [2, 3, 1, 0] rfl
  exact hJ35 _ t p0 (s0 + s1) (v4 + 1) _ _ hw hP hS ls hl
def wX5_all_35 (post : Int64 → gh_H → Prop) (px : String → gh_H → Prop) : Nat → gh_H → Nat → Int32 → Int64 → Int32 → Prop
  | 0 => fun _ _ _ _ _ => False
  | n + 1 => fun G t p0 v2 v4 => ∃ (fs1 : List Value) (x4 : Int32), G t = some (.inr (5, fs1)) ∧ fs1[8]? = some (.int x4) ∧ ((x4 ≤ v4 → (post v2 G)) ∧ (¬ x4 ≤ v4 → (∃ (fs6 : List Value) (x9 : Nat), G t = some (.inr (5, fs6)) ∧ fs6[9]? = some (.ref x9) ∧ (∃ (n10 : Nat) (f11 : Nat → Int32), G x9 = some (.inl (0, n10, .inl f11)) ∧ vp_in v4 n10 ∧ ((¬ (f11 (Int32.toNatClampNeg v4)) = 1 → (wX5_all_67 post px (wX5_all_35 post px n) G t p0 v4 v2 0)) ∧ ((f11 (Int32.toNatClampNeg v4)) = 1 → (∃ fs17 : List Value, G t = some (.inr (5, fs17)) ∧ wX5_sumOf (fun r15 G16 => wX5_all_67 post px (wX5_all_35 post px n) G16 t p0 v4 v2 r15) px G t v4 p0)))))))
set_option maxRecDepth 100000 in
set_option maxHeartbeats 4000000 in
theorem lX5_all_35 {p : Program} {l : Launch} {e : Env} {s : State} {m : MethodId} {args : Array Value} {below : List Frame} {meth : Method} {c : Code} {D : va_G} {AC : Nat → ClassId} {sa : gh_SA} {A : Nat → Prop} (hl0 : l.stackTraces = false) (CX : cxX5_all p s m args meth c D AC sa A) (post : Int64 → gh_H → Prop) (px : String → gh_H → Prop) : ∀ n : Nat, ∀ (G : gh_H) (t : Nat) (p0 : Int32) (v2 : Int64) (v4 : Int32) (H : Heap) (locs : List Loc), wX5_all_35 post px n G t p0 v2 v4 → gh_h D vwCl AC A G H → va_S A s.heap H locs → ∀ ls : Array Slot, lv_has ls 5 [(0, .ref t), (1, .int p0), (2, .long v2), (4, .int v4)] → W p l e rmX5_all s m args below meth c H locs 0 0 (vx_MQ below (va_Ql post (gh_B D vwCl AC A) A) (gh_X D vwCl AC px A) args s 0 0 A) (F0 m 35 ls []) := by
  obtain ⟨⟨hx, hb, hml, hown, hts⟩, hr, hlocks, htb, hK, hE, hA⟩ := id CX
  have hno : ∀ (pc : Nat), ∀ x ∈ c.exceptionTable.toList, covers x pc = false := by rw [htb]; intro _ _ h; cases h
  intro n
  induction n with
  | zero =>
    intro G t p0 v2 v4 H locs hw
    exact False.elim hw
  | succ n ih =>
    intro G t p0 v2 v4 H locs hw hP hS ls hl
    dsimp only [wX5_all_35] at hw
    refine lv_iload hx hb dX5_all_35 (lv_at hl 3 rfl) ?_
    refine lv_aload_n hx hb dX5_all_37 rfl (lv_at hl 0 rfl) ?_
    obtain ⟨fs1, x4, he2, hv3, hw⟩ := hw
    refine gh_get (ci := 5) (v := .int x4) (C := "OwnerLedgerModel") (T := TX5) (N := 24) hx hb hts (fun w h => gT_up (inX5 w h)) hown hK hP he2 rfl 8 (by decide) (hts _ (gT_up kw_380)) (fun _ h9 => h9) hv3 dX5_all_38 ?_
    refine lv_icmp_ge (tgt := 75) hx hb dX5_all_41 (by decide) (fun c5 => ?_) (fun c5 => ?_)
    · replace hw := hw.1 c5
      refine lv_lload_n hx hb dX5_all_75 rfl (lv_at hl 2 rfl) ?_
      exact gh_lret hx hb hr hlocks hw hP hS (Nat.le_of_ble_eq_true rfl) (Nat.le_of_ble_eq_true rfl) dX5_all_76
    · replace hw := hw.2 c5
      refine lv_lload_n hx hb dX5_all_44 rfl (lv_at hl 2 rfl) ?_
      refine lv_aload_n hx hb dX5_all_45 rfl (lv_at hl 0 rfl) ?_
      obtain ⟨fs6, x9, he7, hv8, hw⟩ := hw
      refine gh_get (ci := 5) (v := .ref x9) (C := "OwnerLedgerModel") (T := TX5) (N := 24) hx hb hts (fun w h => gT_up (inX5 w h)) hown hK hP he7 rfl 9 (by decide) (hts _ (gT_up kw_381)) (fun _ h9 => h9) hv8 dX5_all_46 ?_
      refine lv_iload hx hb dX5_all_49 (lv_at hl 3 rfl) ?_
      obtain ⟨n10, f11, he12, hi13, hw⟩ := hw
      refine gh_iald hx hb hK hP he12 rfl hi13 dX5_all_51 ?_
      refine lv_iconst (v := 1) hx hb dX5_all_52 (by decide) ?_
      refine lv_icmp_ne (tgt := 66) hx hb dX5_all_53 (by decide) (fun c14 => ?_) (fun c14 => ?_)
      · replace hw := hw.1 c14
        refine lv_lconst (v := 0) hx hb dX5_all_66 (by decide) ?_
        have hl := lv_sub (l' := [(0, .ref t), (1, .int p0), (4, .int v4)]) hl [0, 1, 3] rfl
        exact lX5_all_67 hl0 CX post px (wX5_all_35 post px n) (fun G9 t9 p09 v29 v49 H9 locs9 hw9 hP9 hS9 ls9 hl9 => ih G9 t9 p09 v29 v49 H9 locs9 hw9 hP9 hS9 ls9 hl9) _ t p0 v4 v2 0 _ _ hw hP hS ls hl
      · replace hw := hw.2 c14
        refine lv_aload_n hx hb dX5_all_56 rfl (lv_at hl 0 rfl) ?_
        refine lv_iload hx hb dX5_all_57 (lv_at hl 3 rfl) ?_
        refine lv_iload_n hx hb dX5_all_59 rfl (lv_at hl 1 rfl) ?_
        obtain ⟨fs17, he18, hw⟩ := hw
        refine gh_cl hlocks (hno _) (vx_runV (C := "OwnerLedgerModel") (As := [.int v4, .int p0]) (rest := [.long v2]) ⟨hx, hb, hml, hown, hts⟩ (mX5_sumOf l hl0 D AC sa _ _ _ _ _ _ _ hw) (cwV 2 hts (gV kw_449 kw_450 kw_543 kw_2 kw_451) rfl rfl rfl (by decide +kernel) ⟨Nat.le_of_ble_eq_true rfl, Nat.le_of_ble_eq_true rfl⟩) (gh_preV gh_En_ok hK hE hP hS hA he18 rfl _) rfl rfl hl.1 rfl (lv_room (Nat.le_of_ble_eq_true rfl)) dX5_all_60 ⟨Nat.le_of_ble_eq_true rfl, Nat.le_of_ble_eq_true rfl⟩) hP hS hA (Nat.le_of_ble_eq_true rfl) (Nat.le_of_ble_eq_true rfl) (fun r15 G16 H locs hw2 hP hS => ?_)
        replace hw := hw2
        clear hw2
        refine lv_goto (tgt := 67) hx hb dX5_all_63 (by decide) ?_
        have hl := lv_sub (l' := [(0, .ref t), (1, .int p0), (4, .int v4)]) hl [0, 1, 3] rfl
        exact lX5_all_67 hl0 CX post px (wX5_all_35 post px n) (fun G9 t9 p09 v29 v49 H9 locs9 hw9 hP9 hS9 ls9 hl9 => ih G9 t9 p09 v29 v49 H9 locs9 hw9 hP9 hS9 ls9 hl9) _ t p0 v4 v2 r15 _ _ hw hP hS ls hl
def wX5_all_18 (post : Int64 → gh_H → Prop) (px : String → gh_H → Prop) (G : gh_H) (t : Nat) (p0 : Int32) (s0 : Nat) (s1 : Int32) : Prop := ∃ fs1 : List Value, G s0 = some (.inr (5, fs1)) ∧ 0 < fs1.length ∧ (∀ G4 : gh_H, G4 = gh_up G s0 (.inr (5, fs1.set 0 (.int s1))) → ∃ (fs6 : List Value) (x9 : Int32), G4 t = some (.inr (5, fs6)) ∧ fs6[0]? = some (.int x9) ∧ ((x9 = 0 → (wX5_all_35 post px 300 G4 t p0 0 0)) ∧ (¬ x9 = 0 → (post 0 G4))))
set_option maxRecDepth 100000 in
set_option maxHeartbeats 4000000 in
theorem lX5_all_18 {p : Program} {l : Launch} {e : Env} {s : State} {m : MethodId} {args : Array Value} {below : List Frame} {meth : Method} {c : Code} {D : va_G} {AC : Nat → ClassId} {sa : gh_SA} {A : Nat → Prop} (hl0 : l.stackTraces = false) (CX : cxX5_all p s m args meth c D AC sa A) (post : Int64 → gh_H → Prop) (px : String → gh_H → Prop) : ∀ (G : gh_H) (t : Nat) (p0 : Int32) (s0 : Nat) (s1 : Int32) (H : Heap) (locs : List Loc), wX5_all_18 post px G t p0 s0 s1 → gh_h D vwCl AC A G H → va_S A s.heap H locs → ∀ ls : Array Slot, lv_has ls 5 [(0, .ref t), (1, .int p0)] → W p l e rmX5_all s m args below meth c H locs 0 0 (vx_MQ below (va_Ql post (gh_B D vwCl AC A) A) (gh_X D vwCl AC px A) args s 0 0 A) (F0 m 18 ls [.int s1, .ref s0]) := by
  obtain ⟨⟨hx, hb, hml, hown, hts⟩, hr, hlocks, htb, hK, hE, hA⟩ := id CX
  have hno : ∀ (pc : Nat), ∀ x ∈ c.exceptionTable.toList, covers x pc = false := by rw [htb]; intro _ _ h; cases h
  intro G t p0 s0 s1 H locs hw hP hS ls hl
  dsimp only [wX5_all_18] at hw
  obtain ⟨fs1, he2, hk3, hw⟩ := hw
  refine gh_put (ci := 5) (v := .int s1) (ty := .int) (C := "OwnerLedgerModel") (T := TX5) (N := 24) hx hb hts (fun w h => gT_up (inX5 w h)) tyX5 tyX5_ok nmX5 hown hK hP hS he2 rfl 0 (by decide) (hts _ (gT_up kw_372)) (fun _ h9 => h9) rfl (by decide +kernel) rfl rfl hk3 dX5_all_18 (fun G4 H locs eG5 hP hS => ?_)
  replace hw := hw G4 eG5
  refine lv_aload_n hx hb dX5_all_21 rfl (lv_at hl 0 rfl) ?_
  obtain ⟨fs6, x9, he7, hv8, hw⟩ := hw
  refine gh_get (ci := 5) (v := .int x9) (C := "OwnerLedgerModel") (T := TX5) (N := 24) hx hb hts (fun w h => gT_up (inX5 w h)) hown hK hP he7 rfl 0 (by decide) (hts _ (gT_up kw_372)) (fun _ h9 => h9) hv8 dX5_all_22 ?_
  refine lv_if_eq (tgt := 30) hx hb dX5_all_25 (by decide) (fun c10 => ?_) (fun c10 => ?_)
  · replace hw := hw.1 c10
    refine lv_lconst (v := 0) hx hb dX5_all_30 (by decide) ?_
    refine lv_lstore_n (lv' := [(2, .long 0), (0, .ref t), (1, .int p0)]) hx hb dX5_all_31 rfl hl (by decide) rfl (fun ls hl => ?_)
    refine lv_iconst (v := 0) hx hb dX5_all_32 (by decide) ?_
    refine lv_istore (lv' := [(4, .int 0), (2, .long 0), (0, .ref t), (1, .int p0)]) hx hb dX5_all_33 hl (by decide) rfl (fun ls hl => ?_)
    have hl := lv_sub (l' := [(0, .ref t), (1, .int p0), (2, .long 0), (4, .int 0)]) hl [2, 3, 1, 0] rfl
    exact lX5_all_35 hl0 CX post px _ _ t p0 0 0 _ _ hw hP hS ls hl
  · replace hw := hw.2 c10
    refine lv_lconst (v := 0) hx hb dX5_all_28 (by decide) ?_
    exact gh_lret hx hb hr hlocks hw hP hS (Nat.le_of_ble_eq_true rfl) (Nat.le_of_ble_eq_true rfl) dX5_all_29
def wX5_all (post : Int64 → gh_H → Prop) (px : String → gh_H → Prop) (G : gh_H) (t : Nat) (p0 : Int32) : Prop := wX5_not (fun r1 G2 => (r1 = 0 → (wX5_all_18 post px G2 t p0 t 0)) ∧ (¬ r1 = 0 → (wX5_all_18 post px G2 t p0 t 1))) px G (Int32.toInt64 p0) 0 2
set_option maxRecDepth 100000 in
set_option maxHeartbeats 4000000 in
theorem mX5_all (l : Launch) (hl0 : l.stackTraces = false) (D : va_G) (AC : Nat → ClassId) (sa : gh_SA) (t : Nat) (p0 : Int32) (post : Int64 → gh_H → Prop) (px : String → gh_H → Prop) (G : gh_H) (sz : Nat) (hw : wX5_all post px G t p0) : vx_Met l yX5_all wsX5_all rmX5_all (gh_Pc D vwCl AC (gh_ty AC) (gh_En sa) G sz [.ref t, .int p0]) (va_Ql post (gh_B D vwCl AC (gh_A G sz)) (gh_A G sz)) (gh_X D vwCl AC px (gh_A G sz)) 0 0 (gh_A G sz) := by
  refine vx_ofW (cc := prog_7_method_22_code) (maxL := 5) (ret := (some .long)) (by decide) rfl ?_
  intro p e s m args below meth c s₁ B hml hnoh hv
  obtain ⟨rfl, hsz, hP, hK, hE⟩ := hv
  have hx := B.exec
  have hb := B.bytes
  have hr := B.returns
  have hts := atoms_spec (ws := wsX5_all) B.pre
  have hown : s.vm.findClass "OwnerLedgerModel" = some m.cls := findClass_of_methodNamed B.named
  have hlocks := B.notSynchronized
  have htb : c.exceptionTable.toList = [] := List.eq_nil_iff_forall_not_mem.mpr hnoh
  subst hsz
  have hA : ∀ q, s.heap.size ≤ q → gh_A G s.heap.size q := fun q h => Or.inr h
  generalize gh_A G s.heap.size = A at hP hE hA ⊢
  have hno : ∀ (pc : Nat), ∀ x ∈ c.exceptionTable.toList, covers x pc = false := by rw [htb]; intro _ _ h; cases h
  have CX : cxX5_all p s m [.ref t, .int p0].toArray meth c D AC sa A := ⟨⟨hx, hb, hml, hown, hts⟩, hr, hlocks, htb, hK, hE, hA⟩
  have hS : va_S A s.heap s.heap [] := va_S.rf
  have hl := lv_entry ([.ref t, .int p0]) (n := 5) (Nat.le_of_ble_eq_true rfl)
  rw [lg_entry_eq]
  generalize (lg_sl ([.ref t, .int p0]) ++ List.replicate (5 - (lg_sl ([.ref t, .int p0])).length) Slot.unset).toArray = ls at hl ⊢
  have hl : lv_has ls 5 [(0, .ref t), (1, .int p0)] := hl
  dsimp only [wX5_all] at hw
  refine lv_aload_n hx hb dX5_all_0 rfl (lv_at hl 0 rfl) ?_
  refine lv_iload_n hx hb dX5_all_1 rfl (lv_at hl 1 rfl) ?_
  refine lv_i2l hx hb dX5_all_2 rfl ?_
  refine lv_lconst (v := 0) hx hb dX5_all_3 (by decide) ?_
  refine lv_ldc2 (v := 2) hx hb hown (hts _ (gT_up kw_413)) dX5_all_4 ?_
  refine gh_ci hlocks (hno _) (vx_runS (As := [.long (Int32.toInt64 p0), .long 0, .long 2]) (rest := [.ref t]) ⟨hx, hb, hml, hown, hts⟩ (mX5_not l hl0 D AC sa _ _ _ _ _ _ _ hw) (va_cwS 3 hts (gS kw_414 kw_415 kw_2 kw_416) rfl rfl rfl (by decide +kernel) ⟨Nat.le_of_ble_eq_true rfl, Nat.le_of_ble_eq_true rfl⟩) (gh_pre gh_En_ok hK hE hP hS hA _) rfl rfl hl.1 rfl (lv_room (Nat.le_of_ble_eq_true rfl)) dX5_all_7 ⟨Nat.le_of_ble_eq_true rfl, Nat.le_of_ble_eq_true rfl⟩) hP hS hA (Nat.le_of_ble_eq_true rfl) (Nat.le_of_ble_eq_true rfl) (fun r1 G2 H locs hw2 hP hS => ?_)
  replace hw := hw2
  clear hw2
  refine lv_if_eq (tgt := 17) hx hb dX5_all_10 (by decide) (fun c3 => ?_) (fun c3 => ?_)
  · replace hw := hw.1 c3
    refine lv_iconst (v := 0) hx hb dX5_all_17 (by decide) ?_
    have hl := lv_sub (l' := [(0, .ref t), (1, .int p0)]) hl [0, 1] rfl
    exact lX5_all_18 hl0 CX post px _ t p0 t 0 _ _ hw hP hS ls hl
  · replace hw := hw.2 c3
    refine lv_iconst (v := 1) hx hb dX5_all_13 (by decide) ?_
    refine lv_goto (tgt := 18) hx hb dX5_all_14 (by decide) ?_
    have hl := lv_sub (l' := [(0, .ref t), (1, .int p0)]) hl [0, 1] rfl
    exact lX5_all_18 hl0 CX post px _ t p0 t 1 _ _ hw hP hS ls hl
abbrev rmX5_invoice : Room := { frames := 1, cells := 0, slots := 0, locals := 25 }
abbrev cxX5_invoice (p : Program) (s : State) (m : MethodId) (args : Array Value) (meth : Method) (c : Code) (D : va_G) (AC : Nat → ClassId) (sa : gh_SA) (A : Nat → Prop) : Prop := CallFix p m c prog_7_method_23_code 5 s args wsX5_invoice "OwnerLedgerModel" ∧ meth.sig.returnType = (some .int) ∧ meth.locks = false ∧ c.exceptionTable.toList = [] ∧ va_K D vwCl (gh_ty AC) s ∧ gh_En sa A s s.heap ∧ (∀ q, s.heap.size ≤ q → A q)
def wX5_invoice_68 (post : Int32 → gh_H → Prop) (px : String → gh_H → Prop) (G : gh_H) (t : Nat) (p0 : Int32) (p1 : Int64) (p2 : Int32) (s0 : Nat) (s1 : Int32) : Prop := ∃ fs1 : List Value, G s0 = some (.inr (5, fs1)) ∧ 0 < fs1.length ∧ (∀ G4 : gh_H, G4 = gh_up G s0 (.inr (5, fs1.set 0 (.int s1))) → ∃ (fs6 : List Value) (x9 : Int32), G4 t = some (.inr (5, fs6)) ∧ fs6[0]? = some (.int x9) ∧ ((x9 = 0 → (∃ (fs11 : List Value) (x14 : Nat), G4 t = some (.inr (5, fs11)) ∧ fs11[18]? = some (.ref x14) ∧ (∃ (fs15 : List Value) (x18 : Int32), G4 t = some (.inr (5, fs15)) ∧ fs15[17]? = some (.int x18) ∧ (∃ (n19 : Nat) (f20 : Nat → Int32), G4 x14 = some (.inl (0, n19, .inl f20)) ∧ vp_in x18 n19 ∧ (∀ G24 : gh_H, G24 = gh_up G4 x14 (.inl (0, n19, .inl (upd f20 (Int32.toNatClampNeg x18) p0))) → ∃ (fs25 : List Value) (x28 : Nat), G24 t = some (.inr (5, fs25)) ∧ fs25[19]? = some (.ref x28) ∧ (∃ (fs29 : List Value) (x32 : Int32), G24 t = some (.inr (5, fs29)) ∧ fs29[17]? = some (.int x32) ∧ (∃ (n33 : Nat) (f34 : Nat → Int64), G24 x28 = some (.inl (1, n33, .inr (.inl f34))) ∧ vp_in x32 n33 ∧ (∀ G38 : gh_H, G38 = gh_up G24 x28 (.inl (1, n33, .inr (.inl (vp_updL f34 (Int32.toNatClampNeg x32) p1)))) → ∃ (fs39 : List Value) (x42 : Nat), G38 t = some (.inr (5, fs39)) ∧ fs39[20]? = some (.ref x42) ∧ (∃ (fs43 : List Value) (x46 : Int32), G38 t = some (.inr (5, fs43)) ∧ fs43[17]? = some (.int x46) ∧ (∃ (n47 : Nat) (f48 : Nat → Int32), G38 x42 = some (.inl (0, n47, .inl f48)) ∧ vp_in x46 n47 ∧ (∀ G52 : gh_H, G52 = gh_up G38 x42 (.inl (0, n47, .inl (upd f48 (Int32.toNatClampNeg x46) p2))) → ∃ (fs53 : List Value) (x56 : Nat), G52 t = some (.inr (5, fs53)) ∧ fs53[5]? = some (.ref x56) ∧ (∃ (fs57 : List Value) (x60 : Int32), G52 t = some (.inr (5, fs57)) ∧ fs57[17]? = some (.int x60) ∧ (∃ (fs61 : List Value) (x64 : Nat), G52 t = some (.inr (5, fs61)) ∧ fs61[5]? = some (.ref x64) ∧ (∃ (n65 : Nat) (f66 : Nat → Int64), G52 x64 = some (.inl (1, n65, .inr (.inl f66))) ∧ vp_in p0 n65 ∧ (∃ fs71 : List Value, G52 t = some (.inr (5, fs71)) ∧ wX5_meet (fun r69 G70 => ∃ (n73 : Nat) (f74 : Nat → Int64), G70 x56 = some (.inl (1, n73, .inr (.inl f74))) ∧ vp_in p0 n73 ∧ (∀ G78 : gh_H, G78 = gh_up G70 x56 (.inl (1, n73, .inr (.inl (vp_updL f74 (Int32.toNatClampNeg p0) r69)))) → ∃ (fs79 : List Value) (x82 : Int32), G78 t = some (.inr (5, fs79)) ∧ fs79[17]? = some (.int x82) ∧ (∃ fs83 : List Value, G78 t = some (.inr (5, fs83)) ∧ 17 < fs83.length ∧ (∀ G86 : gh_H, G86 = gh_up G78 t (.inr (5, fs83.set 17 (.int (x82 + 1)))) → ∃ (fs88 : List Value) (x91 : Int32), G86 t = some (.inr (5, fs88)) ∧ fs88[17]? = some (.int x91) ∧ (post x91 G86))))) px G52 t x60 (f66 (Int32.toNatClampNeg p0))))))))))))))))) ∧ (¬ x9 = 0 → (post 0 G4))))
set_option maxRecDepth 100000 in
set_option maxHeartbeats 4000000 in
theorem lX5_invoice_68 {p : Program} {l : Launch} {e : Env} {s : State} {m : MethodId} {args : Array Value} {below : List Frame} {meth : Method} {c : Code} {D : va_G} {AC : Nat → ClassId} {sa : gh_SA} {A : Nat → Prop} (hl0 : l.stackTraces = false) (CX : cxX5_invoice p s m args meth c D AC sa A) (post : Int32 → gh_H → Prop) (px : String → gh_H → Prop) : ∀ (G : gh_H) (t : Nat) (p0 : Int32) (p1 : Int64) (p2 : Int32) (s0 : Nat) (s1 : Int32) (H : Heap) (locs : List Loc), wX5_invoice_68 post px G t p0 p1 p2 s0 s1 → gh_h D vwCl AC A G H → va_S A s.heap H locs → ∀ ls : Array Slot, lv_has ls 5 [(0, .ref t), (1, .int p0), (2, .long p1), (4, .int p2)] → W p l e rmX5_invoice s m args below meth c H locs 0 0 (vx_MQ below (va_Qi post (gh_B D vwCl AC A) A) (gh_X D vwCl AC px A) args s 0 0 A) (F0 m 68 ls [.int s1, .ref s0]) := by
  obtain ⟨⟨hx, hb, hml, hown, hts⟩, hr, hlocks, htb, hK, hE, hA⟩ := id CX
  have hno : ∀ (pc : Nat), ∀ x ∈ c.exceptionTable.toList, covers x pc = false := by rw [htb]; intro _ _ h; cases h
  intro G t p0 p1 p2 s0 s1 H locs hw hP hS ls hl
  dsimp only [wX5_invoice_68] at hw
  obtain ⟨fs1, he2, hk3, hw⟩ := hw
  refine gh_put (ci := 5) (v := .int s1) (ty := .int) (C := "OwnerLedgerModel") (T := TX5) (N := 24) hx hb hts (fun w h => gT_up (inX5 w h)) tyX5 tyX5_ok nmX5 hown hK hP hS he2 rfl 0 (by decide) (hts _ (gT_up kw_372)) (fun _ h9 => h9) rfl (by decide +kernel) rfl rfl hk3 dX5_invoice_68 (fun G4 H locs eG5 hP hS => ?_)
  replace hw := hw G4 eG5
  refine lv_aload_n hx hb dX5_invoice_71 rfl (lv_at hl 0 rfl) ?_
  obtain ⟨fs6, x9, he7, hv8, hw⟩ := hw
  refine gh_get (ci := 5) (v := .int x9) (C := "OwnerLedgerModel") (T := TX5) (N := 24) hx hb hts (fun w h => gT_up (inX5 w h)) hown hK hP he7 rfl 0 (by decide) (hts _ (gT_up kw_372)) (fun _ h9 => h9) hv8 dX5_invoice_72 ?_
  refine lv_if_eq (tgt := 80) hx hb dX5_invoice_75 (by decide) (fun c10 => ?_) (fun c10 => ?_)
  · replace hw := hw.1 c10
    refine lv_aload_n hx hb dX5_invoice_80 rfl (lv_at hl 0 rfl) ?_
    obtain ⟨fs11, x14, he12, hv13, hw⟩ := hw
    refine gh_get (ci := 5) (v := .ref x14) (C := "OwnerLedgerModel") (T := TX5) (N := 24) hx hb hts (fun w h => gT_up (inX5 w h)) hown hK hP he12 rfl 18 (by decide) (hts _ (gT_up kw_390)) (fun _ h9 => h9) hv13 dX5_invoice_81 ?_
    refine lv_aload_n hx hb dX5_invoice_84 rfl (lv_at hl 0 rfl) ?_
    obtain ⟨fs15, x18, he16, hv17, hw⟩ := hw
    refine gh_get (ci := 5) (v := .int x18) (C := "OwnerLedgerModel") (T := TX5) (N := 24) hx hb hts (fun w h => gT_up (inX5 w h)) hown hK hP he16 rfl 17 (by decide) (hts _ (gT_up kw_389)) (fun _ h9 => h9) hv17 dX5_invoice_85 ?_
    refine lv_iload_n hx hb dX5_invoice_88 rfl (lv_at hl 1 rfl) ?_
    obtain ⟨n19, f20, he21, hi22, hw⟩ := hw
    refine gh_iast hx hb hK hP hS he21 rfl hi22 dX5_invoice_89 (fun G24 H locs eG23 hP hS => ?_)
    replace hw := hw G24 eG23
    refine lv_aload_n hx hb dX5_invoice_90 rfl (lv_at hl 0 rfl) ?_
    obtain ⟨fs25, x28, he26, hv27, hw⟩ := hw
    refine gh_get (ci := 5) (v := .ref x28) (C := "OwnerLedgerModel") (T := TX5) (N := 24) hx hb hts (fun w h => gT_up (inX5 w h)) hown hK hP he26 rfl 19 (by decide) (hts _ (gT_up kw_391)) (fun _ h9 => h9) hv27 dX5_invoice_91 ?_
    refine lv_aload_n hx hb dX5_invoice_94 rfl (lv_at hl 0 rfl) ?_
    obtain ⟨fs29, x32, he30, hv31, hw⟩ := hw
    refine gh_get (ci := 5) (v := .int x32) (C := "OwnerLedgerModel") (T := TX5) (N := 24) hx hb hts (fun w h => gT_up (inX5 w h)) hown hK hP he30 rfl 17 (by decide) (hts _ (gT_up kw_389)) (fun _ h9 => h9) hv31 dX5_invoice_95 ?_
    refine lv_lload_n hx hb dX5_invoice_98 rfl (lv_at hl 2 rfl) ?_
    obtain ⟨n33, f34, he35, hi36, hw⟩ := hw
    refine gh_last hx hb hK hP hS he35 rfl hi36 dX5_invoice_99 (fun G38 H locs eG37 hP hS => ?_)
    replace hw := hw G38 eG37
    refine lv_aload_n hx hb dX5_invoice_100 rfl (lv_at hl 0 rfl) ?_
    obtain ⟨fs39, x42, he40, hv41, hw⟩ := hw
    refine gh_get (ci := 5) (v := .ref x42) (C := "OwnerLedgerModel") (T := TX5) (N := 24) hx hb hts (fun w h => gT_up (inX5 w h)) hown hK hP he40 rfl 20 (by decide) (hts _ (gT_up kw_392)) (fun _ h9 => h9) hv41 dX5_invoice_101 ?_
    refine lv_aload_n hx hb dX5_invoice_104 rfl (lv_at hl 0 rfl) ?_
    obtain ⟨fs43, x46, he44, hv45, hw⟩ := hw
    refine gh_get (ci := 5) (v := .int x46) (C := "OwnerLedgerModel") (T := TX5) (N := 24) hx hb hts (fun w h => gT_up (inX5 w h)) hown hK hP he44 rfl 17 (by decide) (hts _ (gT_up kw_389)) (fun _ h9 => h9) hv45 dX5_invoice_105 ?_
    refine lv_iload hx hb dX5_invoice_108 (lv_at hl 3 rfl) ?_
    obtain ⟨n47, f48, he49, hi50, hw⟩ := hw
    refine gh_iast hx hb hK hP hS he49 rfl hi50 dX5_invoice_110 (fun G52 H locs eG51 hP hS => ?_)
    replace hw := hw G52 eG51
    refine lv_aload_n hx hb dX5_invoice_111 rfl (lv_at hl 0 rfl) ?_
    obtain ⟨fs53, x56, he54, hv55, hw⟩ := hw
    refine gh_get (ci := 5) (v := .ref x56) (C := "OwnerLedgerModel") (T := TX5) (N := 24) hx hb hts (fun w h => gT_up (inX5 w h)) hown hK hP he54 rfl 5 (by decide) (hts _ (gT_up kw_377)) (fun _ h9 => h9) hv55 dX5_invoice_112 ?_
    refine lv_iload_n hx hb dX5_invoice_115 rfl (lv_at hl 1 rfl) ?_
    refine lv_aload_n hx hb dX5_invoice_116 rfl (lv_at hl 0 rfl) ?_
    refine lv_aload_n hx hb dX5_invoice_117 rfl (lv_at hl 0 rfl) ?_
    obtain ⟨fs57, x60, he58, hv59, hw⟩ := hw
    refine gh_get (ci := 5) (v := .int x60) (C := "OwnerLedgerModel") (T := TX5) (N := 24) hx hb hts (fun w h => gT_up (inX5 w h)) hown hK hP he58 rfl 17 (by decide) (hts _ (gT_up kw_389)) (fun _ h9 => h9) hv59 dX5_invoice_118 ?_
    refine lv_aload_n hx hb dX5_invoice_121 rfl (lv_at hl 0 rfl) ?_
    obtain ⟨fs61, x64, he62, hv63, hw⟩ := hw
    refine gh_get (ci := 5) (v := .ref x64) (C := "OwnerLedgerModel") (T := TX5) (N := 24) hx hb hts (fun w h => gT_up (inX5 w h)) hown hK hP he62 rfl 5 (by decide) (hts _ (gT_up kw_377)) (fun _ h9 => h9) hv63 dX5_invoice_122 ?_
    refine lv_iload_n hx hb dX5_invoice_125 rfl (lv_at hl 1 rfl) ?_
    obtain ⟨n65, f66, he67, hi68, hw⟩ := hw
    refine gh_lald hx hb hK hP he67 rfl hi68 dX5_invoice_126 ?_
    obtain ⟨fs71, he72, hw⟩ := hw
    refine gh_cl hlocks (hno _) (vx_runV (C := "OwnerLedgerModel") (As := [.int x60, .long (f66 (Int32.toNatClampNeg p0))]) (rest := [.int p0, .ref x56]) ⟨hx, hb, hml, hown, hts⟩ (mX5_meet l hl0 D AC sa _ _ _ _ _ _ _ hw) (cwV 2 hts (gV kw_469 kw_470 kw_544 kw_2 kw_471) rfl rfl rfl (by decide +kernel) ⟨Nat.le_of_ble_eq_true rfl, Nat.le_of_ble_eq_true rfl⟩) (gh_preV gh_En_ok hK hE hP hS hA he72 rfl _) rfl rfl hl.1 rfl (lv_room (Nat.le_of_ble_eq_true rfl)) dX5_invoice_127 ⟨Nat.le_of_ble_eq_true rfl, Nat.le_of_ble_eq_true rfl⟩) hP hS hA (Nat.le_of_ble_eq_true rfl) (Nat.le_of_ble_eq_true rfl) (fun r69 G70 H locs hw2 hP hS => ?_)
    replace hw := hw2
    clear hw2
    obtain ⟨n73, f74, he75, hi76, hw⟩ := hw
    refine gh_last hx hb hK hP hS he75 rfl hi76 dX5_invoice_130 (fun G78 H locs eG77 hP hS => ?_)
    replace hw := hw G78 eG77
    refine lv_aload_n hx hb dX5_invoice_131 rfl (lv_at hl 0 rfl) ?_
    refine lv_dup hx hb dX5_invoice_132 rfl ?_
    obtain ⟨fs79, x82, he80, hv81, hw⟩ := hw
    refine gh_get (ci := 5) (v := .int x82) (C := "OwnerLedgerModel") (T := TX5) (N := 24) hx hb hts (fun w h => gT_up (inX5 w h)) hown hK hP he80 rfl 17 (by decide) (hts _ (gT_up kw_389)) (fun _ h9 => h9) hv81 dX5_invoice_133 ?_
    refine lv_iconst (v := 1) hx hb dX5_invoice_136 (by decide) ?_
    refine lv_iadd hx hb dX5_invoice_137 ?_
    obtain ⟨fs83, he84, hk85, hw⟩ := hw
    refine gh_put (ci := 5) (v := .int (x82 + 1)) (ty := .int) (C := "OwnerLedgerModel") (T := TX5) (N := 24) hx hb hts (fun w h => gT_up (inX5 w h)) tyX5 tyX5_ok nmX5 hown hK hP hS he84 rfl 17 (by decide) (hts _ (gT_up kw_389)) (fun _ h9 => h9) rfl (by decide +kernel) rfl rfl hk85 dX5_invoice_138 (fun G86 H locs eG87 hP hS => ?_)
    replace hw := hw G86 eG87
    refine lv_aload_n hx hb dX5_invoice_141 rfl (lv_at hl 0 rfl) ?_
    obtain ⟨fs88, x91, he89, hv90, hw⟩ := hw
    refine gh_get (ci := 5) (v := .int x91) (C := "OwnerLedgerModel") (T := TX5) (N := 24) hx hb hts (fun w h => gT_up (inX5 w h)) hown hK hP he89 rfl 17 (by decide) (hts _ (gT_up kw_389)) (fun _ h9 => h9) hv90 dX5_invoice_142 ?_
    exact gh_iret hx hb hr hlocks hw hP hS (Nat.le_of_ble_eq_true rfl) (Nat.le_of_ble_eq_true rfl) dX5_invoice_145
  · replace hw := hw.2 c10
    refine lv_iconst (v := 0) hx hb dX5_invoice_78 (by decide) ?_
    exact gh_iret hx hb hr hlocks hw hP hS (Nat.le_of_ble_eq_true rfl) (Nat.le_of_ble_eq_true rfl) dX5_invoice_79
def wX5_invoice (post : Int32 → gh_H → Prop) (px : String → gh_H → Prop) (G : gh_H) (t : Nat) (p0 : Int32) (p1 : Int64) (p2 : Int32) : Prop := ∃ fs3 : List Value, G t = some (.inr (5, fs3)) ∧ wX5_noOwner (fun r1 G2 => (r1 = 0 → (wX5_not (fun r6 G7 => (¬ r6 = 0 → (wX5_invoice_68 post px G7 t p0 p1 p2 t 2)) ∧ (r6 = 0 → (wX5_not (fun r9 G10 => (r9 = 0 → (∃ (fs12 : List Value) (x15 : Nat), G10 t = some (.inr (5, fs12)) ∧ fs12[4]? = some (.ref x15) ∧ (∃ (n16 : Nat) (f17 : Nat → Int32), G10 x15 = some (.inl (2, n16, .inl f17)) ∧ vp_in p0 n16 ∧ (((f17 (Int32.toNatClampNeg p0)) = 0 → (∃ (fs21 : List Value) (x24 : Int32), G10 t = some (.inr (5, fs21)) ∧ fs21[17]? = some (.int x24) ∧ ((¬ x24 = 20 → (wX5_invoice_68 post px G10 t p0 p1 p2 t 0)) ∧ (x24 = 20 → (wX5_invoice_68 post px G10 t p0 p1 p2 t 4))))) ∧ (¬ (f17 (Int32.toNatClampNeg p0)) = 0 → (wX5_invoice_68 post px G10 t p0 p1 p2 t 3)))))) ∧ (¬ r9 = 0 → (wX5_invoice_68 post px G10 t p0 p1 p2 t 2))) px G7 (Int32.toInt64 p2) 0 120))) px G2 p1 1 1000000000)) ∧ (¬ r1 = 0 → (wX5_invoice_68 post px G2 t p0 p1 p2 t 1))) px G t p0
set_option maxRecDepth 100000 in
set_option maxHeartbeats 4000000 in
theorem mX5_invoice (l : Launch) (hl0 : l.stackTraces = false) (D : va_G) (AC : Nat → ClassId) (sa : gh_SA) (t : Nat) (p0 : Int32) (p1 : Int64) (p2 : Int32) (post : Int32 → gh_H → Prop) (px : String → gh_H → Prop) (G : gh_H) (sz : Nat) (hw : wX5_invoice post px G t p0 p1 p2) : vx_Met l yX5_invoice wsX5_invoice rmX5_invoice (gh_Pc D vwCl AC (gh_ty AC) (gh_En sa) G sz [.ref t, .int p0, .long p1, .int p2]) (va_Qi post (gh_B D vwCl AC (gh_A G sz)) (gh_A G sz)) (gh_X D vwCl AC px (gh_A G sz)) 0 0 (gh_A G sz) := by
  refine vx_ofW (cc := prog_7_method_23_code) (maxL := 5) (ret := (some .int)) (by decide) rfl ?_
  intro p e s m args below meth c s₁ B hml hnoh hv
  obtain ⟨rfl, hsz, hP, hK, hE⟩ := hv
  have hx := B.exec
  have hb := B.bytes
  have hr := B.returns
  have hts := atoms_spec (ws := wsX5_invoice) B.pre
  have hown : s.vm.findClass "OwnerLedgerModel" = some m.cls := findClass_of_methodNamed B.named
  have hlocks := B.notSynchronized
  have htb : c.exceptionTable.toList = [] := List.eq_nil_iff_forall_not_mem.mpr hnoh
  subst hsz
  have hA : ∀ q, s.heap.size ≤ q → gh_A G s.heap.size q := fun q h => Or.inr h
  generalize gh_A G s.heap.size = A at hP hE hA ⊢
  have hno : ∀ (pc : Nat), ∀ x ∈ c.exceptionTable.toList, covers x pc = false := by rw [htb]; intro _ _ h; cases h
  have CX : cxX5_invoice p s m [.ref t, .int p0, .long p1, .int p2].toArray meth c D AC sa A := ⟨⟨hx, hb, hml, hown, hts⟩, hr, hlocks, htb, hK, hE, hA⟩
  have hS : va_S A s.heap s.heap [] := va_S.rf
  have hl := lv_entry ([.ref t, .int p0, .long p1, .int p2]) (n := 5) (Nat.le_of_ble_eq_true rfl)
  rw [lg_entry_eq]
  generalize (lg_sl ([.ref t, .int p0, .long p1, .int p2]) ++ List.replicate (5 - (lg_sl ([.ref t, .int p0, .long p1, .int p2])).length) Slot.unset).toArray = ls at hl ⊢
  have hl : lv_has ls 5 [(0, .ref t), (1, .int p0), (2, .long p1), (4, .int p2)] := hl
  dsimp only [wX5_invoice] at hw
  refine lv_aload_n hx hb dX5_invoice_0 rfl (lv_at hl 0 rfl) ?_
  refine lv_aload_n hx hb dX5_invoice_1 rfl (lv_at hl 0 rfl) ?_
  refine lv_iload_n hx hb dX5_invoice_2 rfl (lv_at hl 1 rfl) ?_
  obtain ⟨fs3, he4, hw⟩ := hw
  refine gh_ci hlocks (hno _) (vx_runV (C := "OwnerLedgerModel") (As := [.int p0]) (rest := [.ref t]) ⟨hx, hb, hml, hown, hts⟩ (mX5_noOwner l hl0 D AC sa _ _ _ _ _ _ hw) (cwV 1 hts (gV kw_410 kw_411 kw_540 kw_2 kw_412) rfl rfl rfl (by decide +kernel) ⟨Nat.le_of_ble_eq_true rfl, Nat.le_of_ble_eq_true rfl⟩) (gh_preV gh_En_ok hK hE hP hS hA he4 rfl _) rfl rfl hl.1 rfl (lv_room (Nat.le_of_ble_eq_true rfl)) dX5_invoice_3 ⟨Nat.le_of_ble_eq_true rfl, Nat.le_of_ble_eq_true rfl⟩) hP hS hA (Nat.le_of_ble_eq_true rfl) (Nat.le_of_ble_eq_true rfl) (fun r1 G2 H locs hw2 hP hS => ?_)
  replace hw := hw2
  clear hw2
  refine lv_if_eq (tgt := 13) hx hb dX5_invoice_6 (by decide) (fun c5 => ?_) (fun c5 => ?_)
  · replace hw := hw.1 c5
    refine lv_lload_n hx hb dX5_invoice_13 rfl (lv_at hl 2 rfl) ?_
    refine lv_lconst (v := 1) hx hb dX5_invoice_14 (by decide) ?_
    refine lv_ldc2 (v := 1000000000) hx hb hown (hts _ (gT_up kw_440)) dX5_invoice_15 ?_
    refine gh_ci hlocks (hno _) (vx_runS (As := [.long p1, .long 1, .long 1000000000]) (rest := [.ref t]) ⟨hx, hb, hml, hown, hts⟩ (mX5_not l hl0 D AC sa _ _ _ _ _ _ _ hw) (va_cwS 3 hts (gS kw_414 kw_415 kw_2 kw_416) rfl rfl rfl (by decide +kernel) ⟨Nat.le_of_ble_eq_true rfl, Nat.le_of_ble_eq_true rfl⟩) (gh_pre gh_En_ok hK hE hP hS hA _) rfl rfl hl.1 rfl (lv_room (Nat.le_of_ble_eq_true rfl)) dX5_invoice_18 ⟨Nat.le_of_ble_eq_true rfl, Nat.le_of_ble_eq_true rfl⟩) hP hS hA (Nat.le_of_ble_eq_true rfl) (Nat.le_of_ble_eq_true rfl) (fun r6 G7 H locs hw2 hP hS => ?_)
    replace hw := hw2
    clear hw2
    refine lv_if_ne (tgt := 37) hx hb dX5_invoice_21 (by decide) (fun c8 => ?_) (fun c8 => ?_)
    · replace hw := hw.1 c8
      refine lv_iconst (v := 2) hx hb dX5_invoice_37 (by decide) ?_
      refine lv_goto (tgt := 68) hx hb dX5_invoice_38 (by decide) ?_
      have hl := lv_sub (l' := [(0, .ref t), (1, .int p0), (2, .long p1), (4, .int p2)]) hl [0, 1, 2, 3] rfl
      exact lX5_invoice_68 hl0 CX post px _ t p0 p1 p2 t 2 _ _ hw hP hS ls hl
    · replace hw := hw.2 c8
      refine lv_iload hx hb dX5_invoice_24 (lv_at hl 3 rfl) ?_
      refine lv_i2l hx hb dX5_invoice_26 rfl ?_
      refine lv_lconst (v := 0) hx hb dX5_invoice_27 (by decide) ?_
      refine lv_ldc2 (v := 120) hx hb hown (hts _ (gT_up kw_460)) dX5_invoice_28 ?_
      refine gh_ci hlocks (hno _) (vx_runS (As := [.long (Int32.toInt64 p2), .long 0, .long 120]) (rest := [.ref t]) ⟨hx, hb, hml, hown, hts⟩ (mX5_not l hl0 D AC sa _ _ _ _ _ _ _ hw) (va_cwS 3 hts (gS kw_414 kw_415 kw_2 kw_416) rfl rfl rfl (by decide +kernel) ⟨Nat.le_of_ble_eq_true rfl, Nat.le_of_ble_eq_true rfl⟩) (gh_pre gh_En_ok hK hE hP hS hA _) rfl rfl hl.1 rfl (lv_room (Nat.le_of_ble_eq_true rfl)) dX5_invoice_31 ⟨Nat.le_of_ble_eq_true rfl, Nat.le_of_ble_eq_true rfl⟩) hP hS hA (Nat.le_of_ble_eq_true rfl) (Nat.le_of_ble_eq_true rfl) (fun r9 G10 H locs hw2 hP hS => ?_)
      replace hw := hw2
      clear hw2
      refine lv_if_eq (tgt := 41) hx hb dX5_invoice_34 (by decide) (fun c11 => ?_) (fun c11 => ?_)
      · replace hw := hw.1 c11
        refine lv_aload_n hx hb dX5_invoice_41 rfl (lv_at hl 0 rfl) ?_
        obtain ⟨fs12, x15, he13, hv14, hw⟩ := hw
        refine gh_get (ci := 5) (v := .ref x15) (C := "OwnerLedgerModel") (T := TX5) (N := 24) hx hb hts (fun w h => gT_up (inX5 w h)) hown hK hP he13 rfl 4 (by decide) (hts _ (gT_up kw_376)) (fun _ h9 => h9) hv14 dX5_invoice_42 ?_
        refine lv_iload_n hx hb dX5_invoice_45 rfl (lv_at hl 1 rfl) ?_
        obtain ⟨n16, f17, he18, hi19, hw⟩ := hw
        refine gh_zald hx hb hK hP he18 rfl hi19 dX5_invoice_46 ?_
        refine lv_if_eq (tgt := 54) hx hb dX5_invoice_47 (by decide) (fun c20 => ?_) (fun c20 => ?_)
        · replace hw := hw.1 c20
          refine lv_aload_n hx hb dX5_invoice_54 rfl (lv_at hl 0 rfl) ?_
          obtain ⟨fs21, x24, he22, hv23, hw⟩ := hw
          refine gh_get (ci := 5) (v := .int x24) (C := "OwnerLedgerModel") (T := TX5) (N := 24) hx hb hts (fun w h => gT_up (inX5 w h)) hown hK hP he22 rfl 17 (by decide) (hts _ (gT_up kw_389)) (fun _ h9 => h9) hv23 dX5_invoice_55 ?_
          refine lv_bipush (v := 20) hx hb dX5_invoice_58 (by decide) ?_
          refine lv_icmp_ne (tgt := 67) hx hb dX5_invoice_60 (by decide) (fun c25 => ?_) (fun c25 => ?_)
          · replace hw := hw.1 c25
            refine lv_iconst (v := 0) hx hb dX5_invoice_67 (by decide) ?_
            have hl := lv_sub (l' := [(0, .ref t), (1, .int p0), (2, .long p1), (4, .int p2)]) hl [0, 1, 2, 3] rfl
            exact lX5_invoice_68 hl0 CX post px _ t p0 p1 p2 t 0 _ _ hw hP hS ls hl
          · replace hw := hw.2 c25
            refine lv_iconst (v := 4) hx hb dX5_invoice_63 (by decide) ?_
            refine lv_goto (tgt := 68) hx hb dX5_invoice_64 (by decide) ?_
            have hl := lv_sub (l' := [(0, .ref t), (1, .int p0), (2, .long p1), (4, .int p2)]) hl [0, 1, 2, 3] rfl
            exact lX5_invoice_68 hl0 CX post px _ t p0 p1 p2 t 4 _ _ hw hP hS ls hl
        · replace hw := hw.2 c20
          refine lv_iconst (v := 3) hx hb dX5_invoice_50 (by decide) ?_
          refine lv_goto (tgt := 68) hx hb dX5_invoice_51 (by decide) ?_
          have hl := lv_sub (l' := [(0, .ref t), (1, .int p0), (2, .long p1), (4, .int p2)]) hl [0, 1, 2, 3] rfl
          exact lX5_invoice_68 hl0 CX post px _ t p0 p1 p2 t 3 _ _ hw hP hS ls hl
      · replace hw := hw.2 c11
        refine lv_iconst (v := 2) hx hb dX5_invoice_37 (by decide) ?_
        refine lv_goto (tgt := 68) hx hb dX5_invoice_38 (by decide) ?_
        have hl := lv_sub (l' := [(0, .ref t), (1, .int p0), (2, .long p1), (4, .int p2)]) hl [0, 1, 2, 3] rfl
        exact lX5_invoice_68 hl0 CX post px _ t p0 p1 p2 t 2 _ _ hw hP hS ls hl
  · replace hw := hw.2 c5
    refine lv_iconst (v := 1) hx hb dX5_invoice_9 (by decide) ?_
    refine lv_goto (tgt := 68) hx hb dX5_invoice_10 (by decide) ?_
    have hl := lv_sub (l' := [(0, .ref t), (1, .int p0), (2, .long p1), (4, .int p2)]) hl [0, 1, 2, 3] rfl
    exact lX5_invoice_68 hl0 CX post px _ t p0 p1 p2 t 1 _ _ hw hP hS ls hl
