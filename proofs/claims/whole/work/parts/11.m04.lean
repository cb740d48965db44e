abbrev rmX5_breaks : Room := { frames := 1, cells := 0, slots := 0, locals := 21 }
abbrev cxX5_breaks (p : Program) (s : State) (m : MethodId) (args : Array Value) (meth : Method) (c : Code) (D : va_G) (AC : Nat → ClassId) (sa : gh_SA) (A : Nat → Prop) : Prop := CallFix p m c prog_7_method_18_code 4 s args wsX5_breaks "OwnerLedgerModel" ∧ meth.sig.returnType = none ∧ meth.locks = false ∧ c.exceptionTable.toList = [] ∧ va_K D vwCl (gh_ty AC) s ∧ gh_En sa A s s.heap ∧ (∀ q, s.heap.size ≤ q → A q)
def wX5_breaks_49 (post : gh_H → Prop) (px : String → gh_H → Prop) (G : gh_H) (t : Nat) (p0 : Int32) (p1 : Int32) (p2 : Int32) (s0 : Nat) (s1 : Int32) : Prop := ∃ fs1 : List Value, G s0 = some (.inr (5, fs1)) ∧ 0 < fs1.length ∧ (∀ G4 : gh_H, G4 = gh_up G s0 (.inr (5, fs1.set 0 (.int s1))) → ∃ (fs6 : List Value) (x9 : Int32), G4 t = some (.inr (5, fs6)) ∧ fs6[0]? = some (.int x9) ∧ ((¬ x9 = 0 → (post G4)) ∧ (x9 = 0 → (∃ (fs11 : List Value) (x14 : Nat), G4 t = some (.inr (5, fs11)) ∧ fs11[16]? = some (.ref x14) ∧ (∃ (n15 : Nat) (f16 : Nat → Int32), G4 x14 = some (.inl (2, n15, .inl f16)) ∧ vp_in ((8 * (p0 - 1)) + p1) n15 ∧ (∀ G20 : gh_H, G20 = gh_up G4 x14 (.inl (2, n15, .inl (upd f16 (Int32.toNatClampNeg ((8 * (p0 - 1)) + p1)) (vp_nar .boolean p2)))) → post G20))))))
set_option maxRecDepth 100000 in
set_option maxHeartbeats 4000000 in
theorem lX5_breaks_49 {p : Program} {l : Launch} {e : Env} {s : State} {m : MethodId} {args : Array Value} {below : List Frame} {meth : Method} {c : Code} {D : va_G} {AC : Nat → ClassId} {sa : gh_SA} {A : Nat → Prop} (hl0 : l.stackTraces = false) (CX : cxX5_breaks p s m args meth c D AC sa A) (post : gh_H → Prop) (px : String → gh_H → Prop) : ∀ (G : gh_H) (t : Nat) (p0 : Int32) (p1 : Int32) (p2 : Int32) (s0 : Nat) (s1 : Int32) (H : Heap) (locs : List Loc), wX5_breaks_49 post px G t p0 p1 p2 s0 s1 → gh_h D vwCl AC A G H → va_S A s.heap H locs → ∀ ls : Array Slot, lv_has ls 4 [(0, .ref t), (1, .int p0), (2, .int p1), (3, .int p2)] → W p l e rmX5_breaks s m args below meth c H locs 0 0 (vx_MQ below (va_Qv post (gh_B D vwCl AC A) A) (gh_X D vwCl AC px A) args s 0 0 A) (F0 m 49 ls [.int s1, .ref s0]) := by
  obtain ⟨⟨hx, hb, hml, hown, hts⟩, hr, hlocks, htb, hK, hE, hA⟩ := id CX
  have hno : ∀ (pc : Nat), ∀ x ∈ c.exceptionTable.toList, covers x pc = false := by rw [htb]; intro _ _ h; cases h
  intro G t p0 p1 p2 s0 s1 H locs hw hP hS ls hl
  dsimp only [wX5_breaks_49] at hw
  obtain ⟨fs1, he2, hk3, hw⟩ := hw
  refine gh_put (ci := 5) (v := .int s1) (ty := .int) (C := "OwnerLedgerModel") (T := TX5) (N := 24) hx hb hts (fun w h => gT_up (inX5 w h)) tyX5 tyX5_ok nmX5 hown hK hP hS he2 rfl 0 (by decide) (hts _ (gT_up kw_372)) (fun _ h9 => h9) rfl (by decide +kernel) rfl rfl hk3 dX5_breaks_49 (fun G4 H locs eG5 hP hS => ?_)
  replace hw := hw G4 eG5
  refine lv_aload_n hx hb dX5_breaks_52 rfl (lv_at hl 0 rfl) ?_
  obtain ⟨fs6, x9, he7, hv8, hw⟩ := hw
  refine gh_get (ci := 5) (v := .int x9) (C := "OwnerLedgerModel") (T := TX5) (N := 24) hx hb hts (fun w h => gT_up (inX5 w h)) hown hK hP he7 rfl 0 (by decide) (hts _ (gT_up kw_372)) (fun _ h9 => h9) hv8 dX5_breaks_53 ?_
  refine lv_if_ne (tgt := 73) hx hb dX5_breaks_56 (by decide) (fun c10 => ?_) (fun c10 => ?_)
  · replace hw := hw.1 c10
    exact gh_vret hx hb hr hlocks hw hP hS (Nat.le_of_ble_eq_true rfl) (Nat.le_of_ble_eq_true rfl) dX5_breaks_73
  · replace hw := hw.2 c10
    refine lv_aload_n hx hb dX5_breaks_59 rfl (lv_at hl 0 rfl) ?_
    obtain ⟨fs11, x14, he12, hv13, hw⟩ := hw
    refine gh_get (ci := 5) (v := .ref x14) (C := "OwnerLedgerModel") (T := TX5) (N := 24) hx hb hts (fun w h => gT_up (inX5 w h)) hown hK hP he12 rfl 16 (by decide) (hts _ (gT_up kw_388)) (fun _ h9 => h9) hv13 dX5_breaks_60 ?_
    refine lv_bipush (v := 8) hx hb dX5_breaks_63 (by decide) ?_
    refine lv_iload_n hx hb dX5_breaks_65 rfl (lv_at hl 1 rfl) ?_
    refine lv_iconst (v := 1) hx hb dX5_breaks_66 (by decide) ?_
    refine lv_isub hx hb dX5_breaks_67 ?_
    refine lv_imul hx hb dX5_breaks_68 ?_
    refine lv_iload_n hx hb dX5_breaks_69 rfl (lv_at hl 2 rfl) ?_
    refine lv_iadd hx hb dX5_breaks_70 ?_
    refine lv_iload_n hx hb dX5_breaks_71 rfl (lv_at hl 3 rfl) ?_
    obtain ⟨n15, f16, he17, hi18, hw⟩ := hw
    refine gh_zast hx hb hK hP hS he17 rfl hi18 dX5_breaks_72 (fun G20 H locs eG19 hP hS => ?_)
    replace hw := hw G20 eG19
    exact gh_vret hx hb hr hlocks hw hP hS (Nat.le_of_ble_eq_true rfl) (Nat.le_of_ble_eq_true rfl) dX5_breaks_73
def wX5_breaks (post : gh_H → Prop) (px : String → gh_H → Prop) (G : gh_H) (t : Nat) (p0 : Int32) (p1 : Int32) (p2 : Int32) : Prop := ∃ fs3 : List Value, G t = some (.inr (5, fs3)) ∧ wX5_noBatch (fun r1 G2 => (r1 = 0 → ((p1 < 0 → (wX5_breaks_49 post px G2 t p0 p1 p2 t 1)) ∧ (¬ p1 < 0 → (∃ (fs7 : List Value) (x10 : Nat), G2 t = some (.inr (5, fs7)) ∧ fs7[11]? = some (.ref x10) ∧ (∃ (n11 : Nat) (f12 : Nat → Int32), G2 x10 = some (.inl (0, n11, .inl f12)) ∧ vp_in (p0 - 1) n11 ∧ ((p1 < (f12 (Int32.toNatClampNeg (p0 - 1))) → (∃ (fs16 : List Value) (x19 : Nat), G2 t = some (.inr (5, fs16)) ∧ fs16[9]? = some (.ref x19) ∧ (∃ (n20 : Nat) (f21 : Nat → Int32), G2 x19 = some (.inl (0, n20, .inl f21)) ∧ vp_in (p0 - 1) n20 ∧ (((f21 (Int32.toNatClampNeg (p0 - 1))) = 0 → (wX5_breaks_49 post px G2 t p0 p1 p2 t 0)) ∧ (¬ (f21 (Int32.toNatClampNeg (p0 - 1))) = 0 → (wX5_breaks_49 post px G2 t p0 p1 p2 t 2)))))) ∧ (¬ p1 < (f12 (Int32.toNatClampNeg (p0 - 1))) → (wX5_breaks_49 post px G2 t p0 p1 p2 t 1)))))))) ∧ (¬ r1 = 0 → (wX5_breaks_49 post px G2 t p0 p1 p2 t 1))) px G t p0
set_option maxRecDepth 100000 in
set_option maxHeartbeats 4000000 in
theorem mX5_breaks (l : Launch) (hl0 : l.stackTraces = false) (D : va_G) (AC : Nat → ClassId) (sa : gh_SA) (t : Nat) (p0 : Int32) (p1 : Int32) (p2 : Int32) (post : gh_H → Prop) (px : String → gh_H → Prop) (G : gh_H) (sz : Nat) (hw : wX5_breaks post px G t p0 p1 p2) : vx_Met l yX5_breaks wsX5_breaks rmX5_breaks (gh_Pc D vwCl AC (gh_ty AC) (gh_En sa) G sz [.ref t, .int p0, .int p1, .int p2]) (va_Qv post (gh_B D vwCl AC (gh_A G sz)) (gh_A G sz)) (gh_X D vwCl AC px (gh_A G sz)) 0 0 (gh_A G sz) := by
  refine vx_ofW (cc := prog_7_method_18_code) (maxL := 4) (ret := none) (by decide) rfl ?_
  intro p e s m args below meth c s₁ B hml hnoh hv
  obtain ⟨rfl, hsz, hP, hK, hE⟩ := hv
  have hx := B.exec
  have hb := B.bytes
  have hr := B.returns
  have hts := atoms_spec (ws := wsX5_breaks) B.pre
  have hown : s.vm.findClass "OwnerLedgerModel" = some m.cls := findClass_of_methodNamed B.named
  have hlocks := B.notSynchronized
  have htb : c.exceptionTable.toList = [] := List.eq_nil_iff_forall_not_mem.mpr hnoh
  subst hsz
  have hA : ∀ q, s.heap.size ≤ q → gh_A G s.heap.size q := fun q h => Or.inr h
  generalize gh_A G s.heap.size = A at hP hE hA ⊢
  have hno : ∀ (pc : Nat), ∀ x ∈ c.exceptionTable.toList, covers x pc = false := by rw [htb]; intro _ _ h; cases h
  have CX : cxX5_breaks p s m [.ref t, .int p0, .int p1, .int p2].toArray meth c D AC sa A := ⟨⟨hx, hb, hml, hown, hts⟩, hr, hlocks, htb, hK, hE, hA⟩
  have hS : va_S A s.heap s.heap [] := va_S.rf
  have hl := lv_entry ([.ref t, .int p0, .int p1, .int p2]) (n := 4) (Nat.le_of_ble_eq_true rfl)
  rw [lg_entry_eq]
  generalize (lg_sl ([.ref t, .int p0, .int p1, .int p2]) ++ List.replicate (4 - (lg_sl ([.ref t, .int p0, .int p1, .int p2])).length) Slot.unset).toArray = ls at hl ⊢
  have hl : lv_has ls 4 [(0, .ref t), (1, .int p0), (2, .int p1), (3, .int p2)] := hl
  dsimp only [wX5_breaks] at hw
  refine lv_aload_n hx hb dX5_breaks_0 rfl (lv_at hl 0 rfl) ?_
  refine lv_aload_n hx hb dX5_breaks_1 rfl (lv_at hl 0 rfl) ?_
  refine lv_iload_n hx hb dX5_breaks_2 rfl (lv_at hl 1 rfl) ?_
  obtain ⟨fs3, he4, hw⟩ := hw
  refine gh_ci hlocks (hno _) (vx_runV (C := "OwnerLedgerModel") (As := [.int p0]) (rest := [.ref t]) ⟨hx, hb, hml, hown, hts⟩ (mX5_noBatch l hl0 D AC sa _ _ _ _ _ _ hw) (cwV 1 hts (gV kw_436 kw_437 kw_542 kw_2 kw_438) rfl rfl rfl (by decide +kernel) ⟨Nat.le_of_ble_eq_true rfl, Nat.le_of_ble_eq_true rfl⟩) (gh_preV gh_En_ok hK hE hP hS hA he4 rfl _) rfl rfl hl.1 rfl (lv_room (Nat.le_of_ble_eq_true rfl)) dX5_breaks_3 ⟨Nat.le_of_ble_eq_true rfl, Nat.le_of_ble_eq_true rfl⟩) hP hS hA (Nat.le_of_ble_eq_true rfl) (Nat.le_of_ble_eq_true rfl) (fun r1 G2 H locs hw2 hP hS => ?_)
  replace hw := hw2
  clear hw2
  refine lv_if_eq (tgt := 13) hx hb dX5_breaks_6 (by decide) (fun c5 => ?_) (fun c5 => ?_)
  · replace hw := hw.1 c5
    refine lv_iload_n hx hb dX5_breaks_13 rfl (lv_at hl 2 rfl) ?_
    refine lv_if_lt (tgt := 29) hx hb dX5_breaks_14 (by decide) (fun c6 => ?_) (fun c6 => ?_)
    · replace hw := hw.1 c6
      refine lv_iconst (v := 1) hx hb dX5_breaks_29 (by decide) ?_
      refine lv_goto (tgt := 49) hx hb dX5_breaks_30 (by decide) ?_
      have hl := lv_sub (l' := [(0, .ref t), (1, .int p0), (2, .int p1), (3, .int p2)]) hl [0, 1, 2, 3] rfl
      exact lX5_breaks_49 hl0 CX post px _ t p0 p1 p2 t 1 _ _ hw hP hS ls hl
    · replace hw := hw.2 c6
      refine lv_iload_n hx hb dX5_breaks_17 rfl (lv_at hl 2 rfl) ?_
      refine lv_aload_n hx hb dX5_breaks_18 rfl (lv_at hl 0 rfl) ?_
      obtain ⟨fs7, x10, he8, hv9, hw⟩ := hw
      refine gh_get (ci := 5) (v := .ref x10) (C := "OwnerLedgerModel") (T := TX5) (N := 24) hx hb hts (fun w h => gT_up (inX5 w h)) hown hK hP he8 rfl 11 (by decide) (hts _ (gT_up kw_383)) (fun _ h9 => h9) hv9 dX5_breaks_19 ?_
      refine lv_iload_n hx hb dX5_breaks_22 rfl (lv_at hl 1 rfl) ?_
      refine lv_iconst (v := 1) hx hb dX5_breaks_23 (by decide) ?_
      refine lv_isub hx hb dX5_breaks_24 ?_
      obtain ⟨n11, f12, he13, hi14, hw⟩ := hw
      refine gh_iald hx hb hK hP he13 rfl hi14 dX5_breaks_25 ?_
      refine lv_icmp_lt (tgt := 33) hx hb dX5_breaks_26 (by decide) (fun c15 => ?_) (fun c15 => ?_)
      · replace hw := hw.1 c15
        refine lv_aload_n hx hb dX5_breaks_33 rfl (lv_at hl 0 rfl) ?_
        obtain ⟨fs16, x19, he17, hv18, hw⟩ := hw
        refine gh_get (ci := 5) (v := .ref x19) (C := "OwnerLedgerModel") (T := TX5) (N := 24) hx hb hts (fun w h => gT_up (inX5 w h)) hown hK hP he17 rfl 9 (by decide) (hts _ (gT_up kw_381)) (fun _ h9 => h9) hv18 dX5_breaks_34 ?_
        refine lv_iload_n hx hb dX5_breaks_37 rfl (lv_at hl 1 rfl) ?_
        refine lv_iconst (v := 1) hx hb dX5_breaks_38 (by decide) ?_
        refine lv_isub hx hb dX5_breaks_39 ?_
        obtain ⟨n20, f21, he22, hi23, hw⟩ := hw
        refine gh_iald hx hb hK hP he22 rfl hi23 dX5_breaks_40 ?_
        refine lv_if_eq (tgt := 48) hx hb dX5_breaks_41 (by decide) (fun c24 => ?_) (fun c24 => ?_)
        · replace hw := hw.1 c24
          refine lv_iconst (v := 0) hx hb dX5_breaks_48 (by decide) ?_
          have hl := lv_sub (l' := [(0, .ref t), (1, .int p0), (2, .int p1), (3, .int p2)]) hl [0, 1, 2, 3] rfl
          exact lX5_breaks_49 hl0 CX post px _ t p0 p1 p2 t 0 _ _ hw hP hS ls hl
        · replace hw := hw.2 c24
          refine lv_iconst (v := 2) hx hb dX5_breaks_44 (by decide) ?_
          refine lv_goto (tgt := 49) hx hb dX5_breaks_45 (by decide) ?_
          have hl := lv_sub (l' := [(0, .ref t), (1, .int p0), (2, .int p1), (3, .int p2)]) hl [0, 1, 2, 3] rfl
          exact lX5_breaks_49 hl0 CX post px _ t p0 p1 p2 t 2 _ _ hw hP hS ls hl
      · replace hw := hw.2 c15
        refine lv_iconst (v := 1) hx hb dX5_breaks_29 (by decide) ?_
        refine lv_goto (tgt := 49) hx hb dX5_breaks_30 (by decide) ?_
        have hl := lv_sub (l' := [(0, .ref t), (1, .int p0), (2, .int p1), (3, .int p2)]) hl [0, 1, 2, 3] rfl
        exact lX5_breaks_49 hl0 CX post px _ t p0 p1 p2 t 1 _ _ hw hP hS ls hl
  · replace hw := hw.2 c5
    refine lv_iconst (v := 1) hx hb dX5_breaks_9 (by decide) ?_
    refine lv_goto (tgt := 49) hx hb dX5_breaks_10 (by decide) ?_
    have hl := lv_sub (l' := [(0, .ref t), (1, .int p0), (2, .int p1), (3, .int p2)]) hl [0, 1, 2, 3] rfl
    exact lX5_breaks_49 hl0 CX post px _ t p0 p1 p2 t 1 _ _ hw hP hS ls hl
abbrev rmX5_post : Room := { frames := 1, cells := 0, slots := 0, locals := 25 }
abbrev cxX5_post (p : Program) (s : State) (m : MethodId) (args : Array Value) (meth : Method) (c : Code) (D : va_G) (AC : Nat → ClassId) (sa : gh_SA) (A : Nat → Prop) : Prop := CallFix p m c prog_7_method_19_code 3 s args wsX5_post "OwnerLedgerModel" ∧ meth.sig.returnType = (some .int) ∧ meth.locks = false ∧ c.exceptionTable.toList = [] ∧ va_K D vwCl (gh_ty AC) s ∧ gh_En sa A s s.heap ∧ (∀ q, s.heap.size ≤ q → A q)
def wX5_post_118 (post : Int32 → gh_H → Prop) (px : String → gh_H → Prop) : Nat → gh_H → Nat → Int32 → Int32 → Prop
  | 0 => fun _ _ _ _ => False
  | n + 1 => fun G t p0 v2 => (3 ≤ v2 → (∃ (fs2 : List Value) (x5 : Nat), G t = some (.inr (5, fs2)) ∧ fs2[9]? = some (.ref x5) ∧ (∃ (n6 : Nat) (f7 : Nat → Int32), G x5 = some (.inl (0, n6, .inl f7)) ∧ vp_in (p0 - 1) n6 ∧ (∀ G11 : gh_H, G11 = gh_up G x5 (.inl (0, n6, .inl (upd f7 (Int32.toNatClampNeg (p0 - 1)) 1))) → post 1 G11)))) ∧ (¬ 3 ≤ v2 → (∃ fs14 : List Value, G t = some (.inr (5, fs14)) ∧ wX5_sumOf (fun r12 G13 => ((lg_cmp r12 0) = 0 → (wX5_post_118 post px n G13 t p0 (v2 + 1))) ∧ (¬ (lg_cmp r12 0) = 0 → (post (-9) G13))) px G t (p0 - 1) v2))
set_option maxRecDepth 100000 in
set_option maxHeartbeats 4000000 in
theorem lX5_post_118 {p : Program} {l : Launch} {e : Env} {s : State} {m : MethodId} {args : Array Value} {below : List Frame} {meth : Method} {c : Code} {D : va_G} {AC : Nat → ClassId} {sa : gh_SA} {A : Nat → Prop} (hl0 : l.stackTraces = false) (CX : cxX5_post p s m args meth c D AC sa A) (post : Int32 → gh_H → Prop) (px : String → gh_H → Prop) : ∀ n : Nat, ∀ (G : gh_H) (t : Nat) (p0 : Int32) (v2 : Int32) (H : Heap) (locs : List Loc), wX5_post_118 post px n G t p0 v2 → gh_h D vwCl AC A G H → va_S A s.heap H locs → ∀ ls : Array Slot, lv_has ls 3 [(0, .ref t), (1, .int p0), (2, .int v2)] → W p l e rmX5_post s m args below meth c H locs 0 0 (vx_MQ below (va_Qi post (gh_B D vwCl AC A) A) (gh_X D vwCl AC px A) args s 0 0 A) (F0 m 118 ls []) := by
  obtain ⟨⟨hx, hb, hml, hown, hts⟩, hr, hlocks, htb, hK, hE, hA⟩ := id CX
  have hno : ∀ (pc : Nat), ∀ x ∈ c.exceptionTable.toList, covers x pc = false := by rw [htb]; intro _ _ h; cases h
  intro n
  induction n with
  | zero =>
    intro G t p0 v2 H locs hw
    exact False.elim hw
  | succ n ih =>
    intro G t p0 v2 H locs hw hP hS ls hl
    dsimp only [wX5_post_118] at hw
    refine lv_iload_n hx hb dX5_post_118 rfl (lv_at hl 2 rfl) ?_
    refine lv_iconst (v := 3) hx hb dX5_post_119 (by decide) ?_
    refine lv_icmp_ge (tgt := 145) hx hb dX5_post_120 (by decide) (fun c1 => ?_) (fun c1 => ?_)
    · replace hw := hw.1 c1
      refine lv_aload_n hx hb dX5_post_145 rfl (lv_at hl 0 rfl) ?_
      obtain ⟨fs2, x5, he3, hv4, hw⟩ := hw
      refine gh_get (ci := 5) (v := .ref x5) (C := "OwnerLedgerModel") (T := TX5) (N := 24) hx hb hts (fun w h => gT_up (inX5 w h)) hown hK hP he3 rfl 9 (by decide) (hts _ (gT_up kw_381)) (fun _ h9 => h9) hv4 dX5_post_146 ?_
      refine lv_iload_n hx hb dX5_post_149 rfl (lv_at hl 1 rfl) ?_
      refine lv_iconst (v := 1) hx hb dX5_post_150 (by decide) ?_
      refine lv_isub hx hb dX5_post_151 ?_
      refine lv_iconst (v := 1) hx hb dX5_post_152 (by decide) ?_
      obtain ⟨n6, f7, he8, hi9, hw⟩ := hw
      refine gh_iast hx hb hK hP hS he8 rfl hi9 dX5_post_153 (fun G11 H locs eG10 hP hS => ?_)
      replace hw := hw G11 eG10
      refine lv_iconst (v := 1) hx hb dX5_post_154 (by decide) ?_
      exact gh_iret hx hb hr hlocks hw hP hS (Nat.le_of_ble_eq_true rfl) (Nat.le_of_ble_eq_true rfl) dX5_post_155
    · replace hw := hw.2 c1
      refine lv_aload_n hx hb dX5_post_123 rfl (lv_at hl 0 rfl) ?_
      refine lv_iload_n hx hb dX5_post_124 rfl (lv_at hl 1 rfl) ?_
      refine lv_iconst (v := 1) hx hb dX5_post_125 (by decide) ?_
      refine lv_isub hx hb dX5_post_126 ?_
      refine lv_iload_n hx hb dX5_post_127 rfl (lv_at hl 2 rfl) ?_
      obtain ⟨fs14, he15, hw⟩ := hw
      refine gh_cl hlocks (hno _) (vx_runV (C := "OwnerLedgerModel") (As := [.int (p0 - 1), .int v2]) (rest := []) ⟨hx, hb, hml, hown, hts⟩ (mX5_sumOf l hl0 D AC sa _ _ _ _ _ _ _ hw) (cwV 2 hts (gV kw_449 kw_450 kw_543 kw_2 kw_451) rfl rfl rfl (by decide +kernel) ⟨Nat.le_of_ble_eq_true rfl, Nat.le_of_ble_eq_true rfl⟩) (gh_preV gh_En_ok hK hE hP hS hA he15 rfl _) rfl rfl hl.1 rfl (lv_room (Nat.le_of_ble_eq_true rfl)) dX5_post_128 ⟨Nat.le_of_ble_eq_true rfl, Nat.le_of_ble_eq_true rfl⟩) hP hS hA (Nat.le_of_ble_eq_true rfl) (Nat.le_of_ble_eq_true rfl) (fun r12 G13 H locs hw2 hP hS => ?_)
      replace hw := hw2
      clear hw2
      refine lv_lconst (v := 0) hx hb dX5_post_131 (by decide) ?_
      refine W.lcmp hx hb dX5_post_132 ?_
      refine lv_if_eq (tgt := 139) hx hb dX5_post_133 (by decide) (fun c16 => ?_) (fun c16 => ?_)
      · replace hw := hw.1 c16
        refine lv_iinc (v := (v2 + 1)) (lv' := [(2, .int (v2 + 1)), (0, .ref t), (1, .int p0)]) hx hb dX5_post_139 hl (k := 2) rfl rfl (by decide) rfl (fun ls hl => ?_)
        refine lv_goto (tgt := 118) hx hb dX5_post_142 (by decide) ?_
        have hl := lv_sub (l' := [(0, .ref t), (1, .int p0), (2, .int (v2 + 1))]) hl [1, 2, 0] rfl
        exact ih _ t p0 (v2 + 1) _ _ hw hP hS ls hl
      · replace hw := hw.2 c16
        refine lv_bipush (v := (-9)) hx hb dX5_post_136 (by decide) ?_
        exact gh_iret hx hb hr hlocks hw hP hS (Nat.le_of_ble_eq_true rfl) (Nat.le_of_ble_eq_true rfl) dX5_post_138
def wX5_post_78 (post : Int32 → gh_H → Prop) (px : String → gh_H → Prop) : Nat → gh_H → Nat → Int32 → Int32 → Prop
  | 0 => fun _ _ _ _ => False
  | n + 1 => fun G t p0 v2 => ∃ (fs1 : List Value) (x4 : Nat), G t = some (.inr (5, fs1)) ∧ fs1[11]? = some (.ref x4) ∧ (∃ (n5 : Nat) (f6 : Nat → Int32), G x4 = some (.inl (0, n5, .inl f6)) ∧ vp_in (p0 - 1) n5 ∧ (((f6 (Int32.toNatClampNeg (p0 - 1))) ≤ v2 → (wX5_post_118 post px 300 G t p0 0)) ∧ (¬ (f6 (Int32.toNatClampNeg (p0 - 1))) ≤ v2 → (∃ (fs10 : List Value) (x13 : Nat), G t = some (.inr (5, fs10)) ∧ fs10[16]? = some (.ref x13) ∧ (∃ (n14 : Nat) (f15 : Nat → Int32), G x13 = some (.inl (2, n14, .inl f15)) ∧ vp_in ((8 * (p0 - 1)) + v2) n14 ∧ (((f15 (Int32.toNatClampNeg ((8 * (p0 - 1)) + v2))) = 0 → (wX5_post_78 post px n G t p0 (v2 + 1))) ∧ (¬ (f15 (Int32.toNatClampNeg ((8 * (p0 - 1)) + v2))) = 0 → (post ((-1) - v2) G))))))))
set_option maxRecDepth 100000 in
set_option maxHeartbeats 4000000 in
theorem lX5_post_78 {p : Program} {l : Launch} {e : Env} {s : State} {m : MethodId} {args : Array Value} {below : List Frame} {meth : Method} {c : Code} {D : va_G} {AC : Nat → ClassId} {sa : gh_SA} {A : Nat → Prop} (hl0 : l.stackTraces = false) (CX : cxX5_post p s m args meth c D AC sa A) (post : Int32 → gh_H → Prop) (px : String → gh_H → Prop) : ∀ n : Nat, ∀ (G : gh_H) (t : Nat) (p0 : Int32) (v2 : Int32) (H : Heap) (locs : List Loc), wX5_post_78 post px n G t p0 v2 → gh_h D vwCl AC A G H → va_S A s.heap H locs → ∀ ls : Array Slot, lv_has ls 3 [(0, .ref t), (1, .int p0), (2, .int v2)] → W p l e rmX5_post s m args below meth c H locs 0 0 (vx_MQ below (va_Qi post (gh_B D vwCl AC A) A) (gh_X D vwCl AC px A) args s 0 0 A) (F0 m 78 ls []) := by
  obtain ⟨⟨hx, hb, hml, hown, hts⟩, hr, hlocks, htb, hK, hE, hA⟩ := id CX
  have hno : ∀ (pc : Nat), ∀ x ∈ c.exceptionTable.toList, covers x pc = false := by rw [htb]; intro _ _ h; cases h
  intro n
  induction n with
  | zero =>
    intro G t p0 v2 H locs hw
    exact False.elim hw
  | succ n ih =>
    intro G t p0 v2 H locs hw hP hS ls hl
    dsimp only [wX5_post_78] at hw
    refine lv_iload_n hx hb dX5_post_78 rfl (lv_at hl 2 rfl) ?_
    refine lv_aload_n hx hb dX5_post_79 rfl (lv_at hl 0 rfl) ?_
    obtain ⟨fs1, x4, he2, hv3, hw⟩ := hw
    refine gh_get (ci := 5) (v := .ref x4) (C := "OwnerLedgerModel") (T := TX5) (N := 24) hx hb hts (fun w h => gT_up (inX5 w h)) hown hK hP he2 rfl 11 (by decide) (hts _ (gT_up kw_383)) (fun _ h9 => h9) hv3 dX5_post_80 ?_
    refine lv_iload_n hx hb dX5_post_83 rfl (lv_at hl 1 rfl) ?_
    refine lv_iconst (v := 1) hx hb dX5_post_84 (by decide) ?_
    refine lv_isub hx hb dX5_post_85 ?_
    obtain ⟨n5, f6, he7, hi8, hw⟩ := hw
    refine gh_iald hx hb hK hP he7 rfl hi8 dX5_post_86 ?_
    refine lv_icmp_ge (tgt := 116) hx hb dX5_post_87 (by decide) (fun c9 => ?_) (fun c9 => ?_)
    · replace hw := hw.1 c9
      refine lv_iconst (v := 0) hx hb dX5_post_116 (by decide) ?_
      refine lv_istore_n (lv' := [(2, .int 0), (0, .ref t), (1, .int p0)]) hx hb dX5_post_117 rfl hl (by decide) rfl (fun ls hl => ?_)
      have hl := lv_sub (l' := [(0, .ref t), (1, .int p0), (2, .int 0)]) hl [1, 2, 0] rfl
      exact lX5_post_118 hl0 CX post px _ _ t p0 0 _ _ hw hP hS ls hl
    · replace hw := hw.2 c9
      refine lv_aload_n hx hb dX5_post_90 rfl (lv_at hl 0 rfl) ?_
      obtain ⟨fs10, x13, he11, hv12, hw⟩ := hw
      refine gh_get (ci := 5) (v := .ref x13) (C := "OwnerLedgerModel") (T := TX5) (N := 24) hx hb hts (fun w h => gT_up (inX5 w h)) hown hK hP he11 rfl 16 (by decide) (hts _ (gT_up kw_388)) (fun _ h9 => h9) hv12 dX5_post_91 ?_
      refine lv_bipush (v := 8) hx hb dX5_post_94 (by decide) ?_
      refine lv_iload_n hx hb dX5_post_96 rfl (lv_at hl 1 rfl) ?_
      refine lv_iconst (v := 1) hx hb dX5_post_97 (by decide) ?_
      refine lv_isub hx hb dX5_post_98 ?_
      refine lv_imul hx hb dX5_post_99 ?_
      refine lv_iload_n hx hb dX5_post_100 rfl (lv_at hl 2 rfl) ?_
      refine lv_iadd hx hb dX5_post_101 ?_
      obtain ⟨n14, f15, he16, hi17, hw⟩ := hw
      refine gh_zald hx hb hK hP he16 rfl hi17 dX5_post_102 ?_
      refine lv_if_eq (tgt := 110) hx hb dX5_post_103 (by decide) (fun c18 => ?_) (fun c18 => ?_)
      · replace hw := hw.1 c18
        refine lv_iinc (v := (v2 + 1)) (lv' := [(2, .int (v2 + 1)), (0, .ref t), (1, .int p0)]) hx hb dX5_post_110 hl (k := 2) rfl rfl (by decide) rfl (fun ls hl => ?_)
        refine lv_goto (tgt := 78) hx hb dX5_post_113 (by decide) ?_
        have hl := lv_sub (l' := [(0, .ref t), (1, .int p0), (2, .int (v2 + 1))]) hl [1, 2, 0] rfl
        exact ih _ t p0 (v2 + 1) _ _ hw hP hS ls hl
      · replace hw := hw.2 c18
        refine lv_iconst (v := (-1)) hx hb dX5_post_106 (by decide) ?_
        refine lv_iload_n hx hb dX5_post_107 rfl (lv_at hl 2 rfl) ?_
        refine lv_isub hx hb dX5_post_108 ?_
        exact gh_iret hx hb hr hlocks hw hP hS (Nat.le_of_ble_eq_true rfl) (Nat.le_of_ble_eq_true rfl) dX5_post_109
def wX5_post_55 (post : Int32 → gh_H → Prop) (px : String → gh_H → Prop) (G : gh_H) (t : Nat) (p0 : Int32) (s0 : Nat) (s1 : Int32) : Prop := ∃ fs1 : List Value, G s0 = some (.inr (5, fs1)) ∧ 0 < fs1.length ∧ (∀ G4 : gh_H, G4 = gh_up G s0 (.inr (5, fs1.set 0 (.int s1))) → ∃ (fs6 : List Value) (x9 : Int32), G4 t = some (.inr (5, fs6)) ∧ fs6[0]? = some (.int x9) ∧ ((x9 = 0 → (∃ (fs11 : List Value) (x14 : Nat), G4 t = some (.inr (5, fs11)) ∧ fs11[9]? = some (.ref x14) ∧ (∃ (n15 : Nat) (f16 : Nat → Int32), G4 x14 = some (.inl (0, n15, .inl f16)) ∧ vp_in (p0 - 1) n15 ∧ (∀ G20 : gh_H, G20 = gh_up G4 x14 (.inl (0, n15, .inl (upd f16 (Int32.toNatClampNeg (p0 - 1)) 2))) → wX5_post_78 post px 300 G20 t p0 0)))) ∧ (¬ x9 = 0 → (post 0 G4))))
set_option maxRecDepth 100000 in
set_option maxHeartbeats 4000000 in
theorem lX5_post_55 {p : Program} {l : Launch} {e : Env} {s : State} {m : MethodId} {args : Array Value} {below : List Frame} {meth : Method} {c : Code} {D : va_G} {AC : Nat → ClassId} {sa : gh_SA} {A : Nat → Prop} (hl0 : l.stackTraces = false) (CX : cxX5_post p s m args meth c D AC sa A) (post : Int32 → gh_H → Prop) (px : String → gh_H → Prop) : ∀ (G : gh_H) (t : Nat) (p0 : Int32) (s0 : Nat) (s1 : Int32) (H : Heap) (locs : List Loc), wX5_post_55 post px G t p0 s0 s1 → gh_h D vwCl AC A G H → va_S A s.heap H locs → ∀ ls : Array Slot, lv_has ls 3 [(0, .ref t), (1, .int p0)] → W p l e rmX5_post s m args below meth c H locs 0 0 (vx_MQ below (va_Qi post (gh_B D vwCl AC A) A) (gh_X D vwCl AC px A) args s 0 0 A) (F0 m 55 ls [.int s1, .ref s0]) := by
  obtain ⟨⟨hx, hb, hml, hown, hts⟩, hr, hlocks, htb, hK, hE, hA⟩ := id CX
  have hno : ∀ (pc : Nat), ∀ x ∈ c.exceptionTable.toList, covers x pc = false := by rw [htb]; intro _ _ h; cases h
  intro G t p0 s0 s1 H locs hw hP hS ls hl
  dsimp only [wX5_post_55] at hw
  obtain ⟨fs1, he2, hk3, hw⟩ := hw
  refine gh_put (ci := 5) (v := .int s1) (ty := .int) (C := "OwnerLedgerModel") (T := TX5) (N := 24) hx hb hts (fun w h => gT_up (inX5 w h)) tyX5 tyX5_ok nmX5 hown hK hP hS he2 rfl 0 (by decide) (hts _ (gT_up kw_372)) (fun _ h9 => h9) rfl (by decide +kernel) rfl rfl hk3 dX5_post_55 (fun G4 H locs eG5 hP hS => ?_)
  replace hw := hw G4 eG5
  refine lv_aload_n hx hb dX5_post_58 rfl (lv_at hl 0 rfl) ?_
  obtain ⟨fs6, x9, he7, hv8, hw⟩ := hw
  refine gh_get (ci := 5) (v := .int x9) (C := "OwnerLedgerModel") (T := TX5) (N := 24) hx hb hts (fun w h => gT_up (inX5 w h)) hown hK hP he7 rfl 0 (by decide) (hts _ (gT_up kw_372)) (fun _ h9 => h9) hv8 dX5_post_59 ?_
  refine lv_if_eq (tgt := 67) hx hb dX5_post_62 (by decide) (fun c10 => ?_) (fun c10 => ?_)
  · replace hw := hw.1 c10
    refine lv_aload_n hx hb dX5_post_67 rfl (lv_at hl 0 rfl) ?_
    obtain ⟨fs11, x14, he12, hv13, hw⟩ := hw
    refine gh_get (ci := 5) (v := .ref x14) (C := "OwnerLedgerModel") (T := TX5) (N := 24) hx hb hts (fun w h => gT_up (inX5 w h)) hown hK hP he12 rfl 9 (by decide) (hts _ (gT_up kw_381)) (fun _ h9 => h9) hv13 dX5_post_68 ?_
    refine lv_iload_n hx hb dX5_post_71 rfl (lv_at hl 1 rfl) ?_
    refine lv_iconst (v := 1) hx hb dX5_post_72 (by decide) ?_
    refine lv_isub hx hb dX5_post_73 ?_
    refine lv_iconst (v := 2) hx hb dX5_post_74 (by decide) ?_
    obtain ⟨n15, f16, he17, hi18, hw⟩ := hw
    refine gh_iast hx hb hK hP hS he17 rfl hi18 dX5_post_75 (fun G20 H locs eG19 hP hS => ?_)
    replace hw := hw G20 eG19
    refine lv_iconst (v := 0) hx hb dX5_post_76 (by decide) ?_
    refine lv_istore_n (lv' := [(2, .int 0), (0, .ref t), (1, .int p0)]) hx hb dX5_post_77 rfl hl (by decide) rfl (fun ls hl => ?_)
    have hl := lv_sub (l' := [(0, .ref t), (1, .int p0), (2, .int 0)]) hl [1, 2, 0] rfl
    exact lX5_post_78 hl0 CX post px _ _ t p0 0 _ _ hw hP hS ls hl
  · replace hw := hw.2 c10
    refine lv_iconst (v := 0) hx hb dX5_post_65 (by decide) ?_
    exact gh_iret hx hb hr hlocks hw hP hS (Nat.le_of_ble_eq_true rfl) (Nat.le_of_ble_eq_true rfl) dX5_post_66
def wX5_post (post : Int32 → gh_H → Prop) (px : String → gh_H → Prop) (G : gh_H) (t : Nat) (p0 : Int32) : Prop := ∃ fs3 : List Value, G t = some (.inr (5, fs3)) ∧ wX5_noBatch (fun r1 G2 => (r1 = 0 → (∃ (fs6 : List Value) (x9 : Nat), G2 t = some (.inr (5, fs6)) ∧ fs6[9]? = some (.ref x9) ∧ (∃ (n10 : Nat) (f11 : Nat → Int32), G2 x9 = some (.inl (0, n10, .inl f11)) ∧ vp_in (p0 - 1) n10 ∧ ((¬ (f11 (Int32.toNatClampNeg (p0 - 1))) = 0 → (wX5_post_55 post px G2 t p0 t 2)) ∧ ((f11 (Int32.toNatClampNeg (p0 - 1))) = 0 → (∃ (fs15 : List Value) (x18 : Nat), G2 t = some (.inr (5, fs15)) ∧ fs15[10]? = some (.ref x18) ∧ (∃ (n19 : Nat) (f20 : Nat → Int32), G2 x18 = some (.inl (0, n19, .inl f20)) ∧ vp_in (p0 - 1) n19 ∧ (∃ (fs23 : List Value) (x26 : Int32), G2 t = some (.inr (5, fs23)) ∧ fs23[2]? = some (.int x26) ∧ (((f20 (Int32.toNatClampNeg (p0 - 1))) < x26 → (wX5_post_55 post px G2 t p0 t 2)) ∧ (¬ (f20 (Int32.toNatClampNeg (p0 - 1))) < x26 → (∃ (fs28 : List Value) (x31 : Nat), G2 t = some (.inr (5, fs28)) ∧ fs28[11]? = some (.ref x31) ∧ (∃ (n32 : Nat) (f33 : Nat → Int32), G2 x31 = some (.inl (0, n32, .inl f33)) ∧ vp_in (p0 - 1) n32 ∧ ((¬ (f33 (Int32.toNatClampNeg (p0 - 1))) = 0 → (wX5_post_55 post px G2 t p0 t 0)) ∧ ((f33 (Int32.toNatClampNeg (p0 - 1))) = 0 → (wX5_post_55 post px G2 t p0 t 2))))))))))))))) ∧ (¬ r1 = 0 → (wX5_post_55 post px G2 t p0 t 1))) px G t p0
set_option maxRecDepth 100000 in
set_option maxHeartbeats 4000000 in
theorem mX5_post (l : Launch) (hl0 : l.stackTraces = false) (D : va_G) (AC : Nat → ClassId) (sa : gh_SA) (t : Nat) (p0 : Int32) (post : Int32 → gh_H → Prop) (px : String → gh_H → Prop) (G : gh_H) (sz : Nat) (hw : wX5_post post px G t p0) : vx_Met l yX5_post wsX5_post rmX5_post (gh_Pc D vwCl AC (gh_ty AC) (gh_En sa) G sz [.ref t, .int p0]) (va_Qi post (gh_B D vwCl AC (gh_A G sz)) (gh_A G sz)) (gh_X D vwCl AC px (gh_A G sz)) 0 0 (gh_A G sz) := by
  refine vx_ofW (cc := prog_7_method_19_code) (maxL := 3) (ret := (some .int)) (by decide) rfl ?_
  intro p e s m args below meth c s₁ B hml hnoh hv
  obtain ⟨rfl, hsz, hP, hK, hE⟩ := hv
  have hx := B.exec
  have hb := B.bytes
  have hr := B.returns
  have hts := atoms_spec (ws := wsX5_post) B.pre
  have hown : s.vm.findClass "OwnerLedgerModel" = some m.cls := findClass_of_methodNamed B.named
  have hlocks := B.notSynchronized
  have htb : c.exceptionTable.toList = [] := List.eq_nil_iff_forall_not_mem.mpr hnoh
  subst hsz
  have hA : ∀ q, s.heap.size ≤ q → gh_A G s.heap.size q := fun q h => Or.inr h
  generalize gh_A G s.heap.size = A at hP hE hA ⊢
  have hno : ∀ (pc : Nat), ∀ x ∈ c.exceptionTable.toList, covers x pc = false := by rw [htb]; intro _ _ h; cases h
  have CX : cxX5_post p s m [.ref t, .int p0].toArray meth c D AC sa A := ⟨⟨hx, hb, hml, hown, hts⟩, hr, hlocks, htb, hK, hE, hA⟩
  have hS : va_S A s.heap s.heap [] := va_S.rf
  have hl := lv_entry ([.ref t, .int p0]) (n := 3) (Nat.le_of_ble_eq_true rfl)
  rw [lg_entry_eq]
  generalize (lg_sl ([.ref t, .int p0]) ++ List.replicate (3 - (lg_sl ([.ref t, .int p0])).length) Slot.unset).toArray = ls at hl ⊢
  have hl : lv_has ls 3 [(0, .ref t), (1, .int p0)] := hl
  dsimp only [wX5_post] at hw
  refine lv_aload_n hx hb dX5_post_0 rfl (lv_at hl 0 rfl) ?_
  refine lv_aload_n hx hb dX5_post_1 rfl (lv_at hl 0 rfl) ?_
  refine lv_iload_n hx hb dX5_post_2 rfl (lv_at hl 1 rfl) ?_
  obtain ⟨fs3, he4, hw⟩ := hw
  refine gh_ci hlocks (hno _) (vx_runV (C := "OwnerLedgerModel") (As := [.int p0]) (rest := [.ref t]) ⟨hx, hb, hml, hown, hts⟩ (mX5_noBatch l hl0 D AC sa _ _ _ _ _ _ hw) (cwV 1 hts (gV kw_436 kw_437 kw_542 kw_2 kw_438) rfl rfl rfl (by decide +kernel) ⟨Nat.le_of_ble_eq_true rfl, Nat.le_of_ble_eq_true rfl⟩) (gh_preV gh_En_ok hK hE hP hS hA he4 rfl _) rfl rfl hl.1 rfl (lv_room (Nat.le_of_ble_eq_true rfl)) dX5_post_3 ⟨Nat.le_of_ble_eq_true rfl, Nat.le_of_ble_eq_true rfl⟩) hP hS hA (Nat.le_of_ble_eq_true rfl) (Nat.le_of_ble_eq_true rfl) (fun r1 G2 H locs hw2 hP hS => ?_)
  replace hw := hw2
  clear hw2
  refine lv_if_eq (tgt := 13) hx hb dX5_post_6 (by decide) (fun c5 => ?_) (fun c5 => ?_)
  · replace hw := hw.1 c5
    refine lv_aload_n hx hb dX5_post_13 rfl (lv_at hl 0 rfl) ?_
    obtain ⟨fs6, x9, he7, hv8, hw⟩ := hw
    refine gh_get (ci := 5) (v := .ref x9) (C := "OwnerLedgerModel") (T := TX5) (N := 24) hx hb hts (fun w h => gT_up (inX5 w h)) hown hK hP he7 rfl 9 (by decide) (hts _ (gT_up kw_381)) (fun _ h9 => h9) hv8 dX5_post_14 ?_
    refine lv_iload_n hx hb dX5_post_17 rfl (lv_at hl 1 rfl) ?_
    refine lv_iconst (v := 1) hx hb dX5_post_18 (by decide) ?_
    refine lv_isub hx hb dX5_post_19 ?_
    obtain ⟨n10, f11, he12, hi13, hw⟩ := hw
    refine gh_iald hx hb hK hP he12 rfl hi13 dX5_post_20 ?_
    refine lv_if_ne (tgt := 50) hx hb dX5_post_21 (by decide) (fun c14 => ?_) (fun c14 => ?_)
    · replace hw := hw.1 c14
      refine lv_iconst (v := 2) hx hb dX5_post_50 (by decide) ?_
      refine lv_goto (tgt := 55) hx hb dX5_post_51 (by decide) ?_
      have hl := lv_sub (l' := [(0, .ref t), (1, .int p0)]) hl [0, 1] rfl
      exact lX5_post_55 hl0 CX post px _ t p0 t 2 _ _ hw hP hS ls hl
    · replace hw := hw.2 c14
      refine lv_aload_n hx hb dX5_post_24 rfl (lv_at hl 0 rfl) ?_
      obtain ⟨fs15, x18, he16, hv17, hw⟩ := hw
      refine gh_get (ci := 5) (v := .ref x18) (C := "OwnerLedgerModel") (T := TX5) (N := 24) hx hb hts (fun w h => gT_up (inX5 w h)) hown hK hP he16 rfl 10 (by decide) (hts _ (gT_up kw_382)) (fun _ h9 => h9) hv17 dX5_post_25 ?_
      refine lv_iload_n hx hb dX5_post_28 rfl (lv_at hl 1 rfl) ?_
      refine lv_iconst (v := 1) hx hb dX5_post_29 (by decide) ?_
      refine lv_isub hx hb dX5_post_30 ?_
      obtain ⟨n19, f20, he21, hi22, hw⟩ := hw
      refine gh_iald hx hb hK hP he21 rfl hi22 dX5_post_31 ?_
      refine lv_aload_n hx hb dX5_post_32 rfl (lv_at hl 0 rfl) ?_
      obtain ⟨fs23, x26, he24, hv25, hw⟩ := hw
      refine gh_get (ci := 5) (v := .int x26) (C := "OwnerLedgerModel") (T := TX5) (N := 24) hx hb hts (fun w h => gT_up (inX5 w h)) hown hK hP he24 rfl 2 (by decide) (hts _ (gT_up kw_374)) (fun _ h9 => h9) hv25 dX5_post_33 ?_
      refine lv_icmp_lt (tgt := 50) hx hb dX5_post_36 (by decide) (fun c27 => ?_) (fun c27 => ?_)
      · replace hw := hw.1 c27
        refine lv_iconst (v := 2) hx hb dX5_post_50 (by decide) ?_
        refine lv_goto (tgt := 55) hx hb dX5_post_51 (by decide) ?_
        have hl := lv_sub (l' := [(0, .ref t), (1, .int p0)]) hl [0, 1] rfl
        exact lX5_post_55 hl0 CX post px _ t p0 t 2 _ _ hw hP hS ls hl
      · replace hw := hw.2 c27
        refine lv_aload_n hx hb dX5_post_39 rfl (lv_at hl 0 rfl) ?_
        obtain ⟨fs28, x31, he29, hv30, hw⟩ := hw
        refine gh_get (ci := 5) (v := .ref x31) (C := "OwnerLedgerModel") (T := TX5) (N := 24) hx hb hts (fun w h => gT_up (inX5 w h)) hown hK hP he29 rfl 11 (by decide) (hts _ (gT_up kw_383)) (fun _ h9 => h9) hv30 dX5_post_40 ?_
        refine lv_iload_n hx hb dX5_post_43 rfl (lv_at hl 1 rfl) ?_
        refine lv_iconst (v := 1) hx hb dX5_post_44 (by decide) ?_
        refine lv_isub hx hb dX5_post_45 ?_
        obtain ⟨n32, f33, he34, hi35, hw⟩ := hw
        refine gh_iald hx hb hK hP he34 rfl hi35 dX5_post_46 ?_
        refine lv_if_ne (tgt := 54) hx hb dX5_post_47 (by decide) (fun c36 => ?_) (fun c36 => ?_)
        · replace hw := hw.1 c36
          refine lv_iconst (v := 0) hx hb dX5_post_54 (by decide) ?_
          have hl := lv_sub (l' := [(0, .ref t), (1, .int p0)]) hl [0, 1] rfl
          exact lX5_post_55 hl0 CX post px _ t p0 t 0 _ _ hw hP hS ls hl
        · replace hw := hw.2 c36
          refine lv_iconst (v := 2) hx hb dX5_post_50 (by decide) ?_
          refine lv_goto (tgt := 55) hx hb dX5_post_51 (by decide) ?_
          have hl := lv_sub (l' := [(0, .ref t), (1, .int p0)]) hl [0, 1] rfl
          exact lX5_post_55 hl0 CX post px _ t p0 t 2 _ _ hw hP hS ls hl
  · replace hw := hw.2 c5
    refine lv_iconst (v := 1) hx hb dX5_post_9 (by decide) ?_
    refine lv_goto (tgt := 55) hx hb dX5_post_10 (by decide) ?_
    have hl := lv_sub (l' := [(0, .ref t), (1, .int p0)]) hl [0, 1] rfl
    exact lX5_post_55 hl0 CX post px _ t p0 t 1 _ _ hw hP hS ls hl
