abbrev rmX5_pay : Room := { frames := 1, cells := 0, slots := 0, locals := 25 }
abbrev cxX5_pay (p : Program) (s : State) (m : MethodId) (args : Array Value) (meth : Method) (c : Code) (D : va_G) (AC : Nat → ClassId) (sa : gh_SA) (A : Nat → Prop) : Prop := CallFix p m c prog_7_method_24_code 9 s args wsX5_pay "OwnerLedgerModel" ∧ meth.sig.returnType = (some .int) ∧ meth.locks = false ∧ c.exceptionTable.toList = [] ∧ va_K D vwCl (gh_ty AC) s ∧ gh_En sa A s s.heap ∧ (∀ q, s.heap.size ≤ q → A q)
def wX5_pay_124 (post : Int32 → gh_H → Prop) (px : String → gh_H → Prop) (J47 : gh_H → Nat → Int32 → Int64 → Int32 → Prop) (J60 : gh_H → Nat → Int32 → Int64 → Int32 → Int32 → Int32 → Prop) (G : gh_H) (t : Nat) (p0 : Int32) (v4 : Int64) (v6 : Int32) (v8 : Int32) : Prop := J60 G t p0 v4 v6 v8 (v8 + 1)
set_option maxRecDepth 100000 in
set_option maxHeartbeats 4000000 in
theorem lX5_pay_124 {p : Program} {l : Launch} {e : Env} {s : State} {m : MethodId} {args : Array Value} {below : List Frame} {meth : Method} {c : Code} {D : va_G} {AC : Nat → ClassId} {sa : gh_SA} {A : Nat → Prop} (hl0 : l.stackTraces = false) (CX : cxX5_pay p s m args meth c D AC sa A) (post : Int32 → gh_H → Prop) (px : String → gh_H → Prop) (J47 : gh_H → Nat → Int32 → Int64 → Int32 → Prop) (hJ47 : ∀ (G : gh_H) (t : Nat) (p0 : Int32) (v4 : Int64) (v6 : Int32) (H : Heap) (locs : List Loc), J47 G t p0 v4 v6 → gh_h D vwCl AC A G H → va_S A s.heap H locs → ∀ ls : Array Slot, lv_has ls 9 [(0, .ref t), (1, .int p0), (4, .long v4), (6, .int v6)] → W p l e rmX5_pay s m args below meth c H locs 0 0 (vx_MQ below (va_Qi post (gh_B D vwCl AC A) A) (gh_X D vwCl AC px A) args s 0 0 A) (F0 m 47 ls [])) (J60 : gh_H → Nat → Int32 → Int64 → Int32 → Int32 → Int32 → Prop) (hJ60 : ∀ (G : gh_H) (t : Nat) (p0 : Int32) (v4 : Int64) (v6 : Int32) (v7 : Int32) (v8 : Int32) (H : Heap) (locs : List Loc), J60 G t p0 v4 v6 v7 v8 → gh_h D vwCl AC A G H → va_S A s.heap H locs → ∀ ls : Array Slot, lv_has ls 9 [(0, .ref t), (1, .int p0), (4, .long v4), (6, .int v6), (7, .int v7), (8, .int v8)] → W p l e rmX5_pay s m args below meth c H locs 0 0 (vx_MQ below (va_Qi post (gh_B D vwCl AC A) A) (gh_X D vwCl AC px A) args s 0 0 A) (F0 m 60 ls [])) : ∀ (G : gh_H) (t : Nat) (p0 : Int32) (v4 : Int64) (v6 : Int32) (v8 : Int32) (H : Heap) (locs : List Loc), wX5_pay_124 post px J47 J60 G t p0 v4 v6 v8 → gh_h D vwCl AC A G H → va_S A s.heap H locs → ∀ ls : Array Slot, lv_has ls 9 [(0, .ref t), (1, .int p0), (4, .long v4), (6, .int v6), (8, .int v8)] → W p l e rmX5_pay s m args below meth c H locs 0 0 (vx_MQ below (va_Qi post (gh_B D vwCl AC A) A) (gh_X D vwCl AC px A) args s 0 0 A) (F0 m 124 ls []) := by
  obtain ⟨⟨hx, hb, hml, hown, hts⟩, hr, hlocks, htb, hK, hE, hA⟩ := id CX
  have hno : ∀ (pc : Nat), ∀ x ∈ c.exceptionTable.toList, covers x pc = false := by rw [htb]; intro _ _ h; cases h
  intro G t p0 v4 v6 v8 H locs hw hP hS ls hl
  dsimp only [wX5_pay_124] at hw
  refine lv_iload hx hb dX5_pay_124 (lv_at hl 4 rfl) ?_
  refine lv_istore (lv' := [(7, .int v8), (0, .ref t), (1, .int p0), (4, .long v4), (6, .int v6), (8, .int v8)]) hx hb dX5_pay_126 hl (by decide) rfl (fun ls hl => ?_)
  refine lv_iinc (v := (v8 + 1)) (lv' := [(8, .int (v8 + 1)), (7, .int v8), (0, .ref t), (1, .int p0), (4, .long v4), (6, .int v6)]) hx hb dX5_pay_128 hl (k := 5) rfl rfl (by decide) rfl (fun ls hl => ?_)
  refine lv_goto (tgt := 60) hx hb dX5_pay_131 (by decide) ?_
  have hl := lv_sub (l' := [(0, .ref t), (1, .int p0), (4, .long v4), (6, .int v6), (7, .int v8), (8, .int (v8 + 1))]) hl [2, 3, 4, 5, 1, 0] rfl
  exact hJ60 _ t p0 v4 v6 v8 (v8 + 1) _ _ hw hP hS ls hl
def wX5_pay_60 (post : Int32 → gh_H → Prop) (px : String → gh_H → Prop) (J47 : gh_H → Nat → Int32 → Int64 → Int32 → Prop) : Nat → gh_H → Nat → Int32 → Int64 → Int32 → Int32 → Int32 → Prop
  | 0 => fun _ _ _ _ _ _ _ => False
  | n + 1 => fun G t p0 v4 v6 v7 v8 => ∃ (fs1 : List Value) (x4 : Int32), G t = some (.inr (5, fs1)) ∧ fs1[17]? = some (.int x4) ∧ ((x4 ≤ v8 → ((0 ≤ v7 → (∃ fs9 : List Value, G t = some (.inr (5, fs9)) ∧ wX5_meet (fun r7 G8 => ∃ (fs11 : List Value) (x14 : Nat), G8 t = some (.inr (5, fs11)) ∧ fs11[19]? = some (.ref x14) ∧ (∃ (n15 : Nat) (f16 : Nat → Int64), G8 x14 = some (.inl (1, n15, .inr (.inl f16))) ∧ vp_in v7 n15 ∧ ((¬ (lg_cmp (f16 (Int32.toNatClampNeg v7)) 0) = 0 → (J47 G8 t p0 r7 v6)) ∧ ((lg_cmp (f16 (Int32.toNatClampNeg v7)) 0) = 0 → (J47 G8 t p0 r7 (v6 + 1)))))) px G t v7 v4)) ∧ (¬ 0 ≤ v7 → (∃ (fs20 : List Value) (x23 : Nat), G t = some (.inr (5, fs20)) ∧ fs20[5]? = some (.ref x23) ∧ (∃ (fs24 : List Value) (x27 : Nat), G t = some (.inr (5, fs24)) ∧ fs24[5]? = some (.ref x27) ∧ (∃ (n28 : Nat) (f29 : Nat → Int64), G x27 = some (.inl (1, n28, .inr (.inl f29))) ∧ vp_in p0 n28 ∧ (∃ (n32 : Nat) (f33 : Nat → Int64), G x23 = some (.inl (1, n32, .inr (.inl f33))) ∧ vp_in p0 n32 ∧ (∀ G37 : gh_H, G37 = gh_up G x23 (.inl (1, n32, .inr (.inl (vp_updL f33 (Int32.toNatClampNeg p0) ((f29 (Int32.toNatClampNeg p0)) + v4))))) → post v6 G37)))))))) ∧ (¬ x4 ≤ v8 → (∃ (fs38 : List Value) (x41 : Nat), G t = some (.inr (5, fs38)) ∧ fs38[18]? = some (.ref x41) ∧ (∃ (n42 : Nat) (f43 : Nat → Int32), G x41 = some (.inl (0, n42, .inl f43)) ∧ vp_in v8 n42 ∧ ((¬ (f43 (Int32.toNatClampNeg v8)) = p0 → (wX5_pay_60 post px J47 n G t p0 v4 v6 v7 (v8 + 1))) ∧ ((f43 (Int32.toNatClampNeg v8)) = p0 → (∃ (fs47 : List Value) (x50 : Nat), G t = some (.inr (5, fs47)) ∧ fs47[19]? = some (.ref x50) ∧ (∃ (n51 : Nat) (f52 : Nat → Int64), G x50 = some (.inl (1, n51, .inr (.inl f52))) ∧ vp_in v8 n51 ∧ (((lg_cmp (f52 (Int32.toNatClampNeg v8)) 0) ≤ 0 → (wX5_pay_60 post px J47 n G t p0 v4 v6 v7 (v8 + 1))) ∧ (¬ (lg_cmp (f52 (Int32.toNatClampNeg v8)) 0) ≤ 0 → (∃ (fs56 : List Value) (x59 : Nat), G t = some (.inr (5, fs56)) ∧ fs56[22]? = some (.ref x59) ∧ (∃ (n60 : Nat) (f61 : Nat → Int32), G x59 = some (.inl (2, n60, .inl f61)) ∧ vp_in v8 n60 ∧ ((¬ (f61 (Int32.toNatClampNeg v8)) = 0 → (wX5_pay_60 post px J47 n G t p0 v4 v6 v7 (v8 + 1))) ∧ ((f61 (Int32.toNatClampNeg v8)) = 0 → ((v7 < 0 → (wX5_pay_124 post px J47 (wX5_pay_60 post px J47 n) G t p0 v4 v6 v8)) ∧ (¬ v7 < 0 → (∃ (fs66 : List Value) (x69 : Nat), G t = some (.inr (5, fs66)) ∧ fs66[20]? = some (.ref x69) ∧ (∃ (n70 : Nat) (f71 : Nat → Int32), G x69 = some (.inl (0, n70, .inl f71)) ∧ vp_in v8 n70 ∧ (∃ (fs74 : List Value) (x77 : Nat), G t = some (.inr (5, fs74)) ∧ fs74[20]? = some (.ref x77) ∧ (∃ (n78 : Nat) (f79 : Nat → Int32), G x77 = some (.inl (0, n78, .inl f79)) ∧ vp_in v7 n78 ∧ (((f79 (Int32.toNatClampNeg v7)) ≤ (f71 (Int32.toNatClampNeg v8)) → (wX5_pay_60 post px J47 n G t p0 v4 v6 v7 (v8 + 1))) ∧ (¬ (f79 (Int32.toNatClampNeg v7)) ≤ (f71 (Int32.toNatClampNeg v8)) → (wX5_pay_124 post px J47 (wX5_pay_60 post px J47 n) G t p0 v4 v6 v8)))))))))))))))))))))))
set_option maxRecDepth 100000 in
set_option maxHeartbeats 4000000 in
theorem lX5_pay_60 {p : Program} {l : Launch} {e : Env} {s : State} {m : MethodId} {args : Array Value} {below : List Frame} {meth : Method} {c : Code} {D : va_G} {AC : Nat → ClassId} {sa : gh_SA} {A : Nat → Prop} (hl0 : l.stackTraces = false) (CX : cxX5_pay p s m args meth c D AC sa A) (post : Int32 → gh_H → Prop) (px : String → gh_H → Prop) (J47 : gh_H → Nat → Int32 → Int64 → Int32 → Prop) (hJ47 : ∀ (G : gh_H) (t : Nat) (p0 : Int32) (v4 : Int64) (v6 : Int32) (H : Heap) (locs : List Loc), J47 G t p0 v4 v6 → gh_h D vwCl AC A G H → va_S A s.heap H locs → ∀ ls : Array Slot, lv_has ls 9 [(0, .ref t), (1, .int p0), (4, .long v4), (6, .int v6)] → W p l e rmX5_pay s m args below meth c H locs 0 0 (vx_MQ below (va_Qi post (gh_B D vwCl AC A) A) (gh_X D vwCl AC px A) args s 0 0 A) (F0 m 47 ls [])) : ∀ n : Nat, ∀ (G : gh_H) (t : Nat) (p0 : Int32) (v4 : Int64) (v6 : Int32) (v7 : Int32) (v8 : Int32) (H : Heap) (locs : List Loc), wX5_pay_60 post px J47 n G t p0 v4 v6 v7 v8 → gh_h D vwCl AC A G H → va_S A s.heap H locs → ∀ ls : Array Slot, lv_has ls 9 [(0, .ref t), (1, .int p0), (4, .long v4), (6, .int v6), (7, .int v7), (8, .int v8)] → W p l e rmX5_pay s m args below meth c H locs 0 0 (vx_MQ below (va_Qi post (gh_B D vwCl AC A) A) (gh_X D vwCl AC px A) args s 0 0 A) (F0 m 60 ls []) := by
  obtain ⟨⟨hx, hb, hml, hown, hts⟩, hr, hlocks, htb, hK, hE, hA⟩ := id CX
  have hno : ∀ (pc : Nat), ∀ x ∈ c.exceptionTable.toList, covers x pc = false := by rw [htb]; intro _ _ h; cases h
  intro n
  induction n with
  | zero =>
    intro G t p0 v4 v6 v7 v8 H locs hw
    exact False.elim hw
  | succ n ih =>
    intro G t p0 v4 v6 v7 v8 H locs hw hP hS ls hl
    dsimp only [wX5_pay_60] at hw
    refine lv_iload hx hb dX5_pay_60 (lv_at hl 5 rfl) ?_
    refine lv_aload_n hx hb dX5_pay_62 rfl (lv_at hl 0 rfl) ?_
    obtain ⟨fs1, x4, he2, hv3, hw⟩ := hw
    refine gh_get (ci := 5) (v := .int x4) (C := "OwnerLedgerModel") (T := TX5) (N := 24) hx hb hts (fun w h => gT_up (inX5 w h)) hown hK hP he2 rfl 17 (by decide) (hts _ (gT_up kw_389)) (fun _ h9 => h9) hv3 dX5_pay_63 ?_
    refine lv_icmp_ge (tgt := 134) hx hb dX5_pay_66 (by decide) (fun c5 => ?_) (fun c5 => ?_)
    · replace hw := hw.1 c5
      refine lv_iload hx hb dX5_pay_134 (lv_at hl 4 rfl) ?_
      refine lv_if_ge (tgt := 157) hx hb dX5_pay_136 (by decide) (fun c6 => ?_) (fun c6 => ?_)
      · replace hw := hw.1 c6
        refine lv_aload_n hx hb dX5_pay_157 rfl (lv_at hl 0 rfl) ?_
        refine lv_iload hx hb dX5_pay_158 (lv_at hl 4 rfl) ?_
        refine lv_lload hx hb dX5_pay_160 (lv_at hl 2 rfl) ?_
        obtain ⟨fs9, he10, hw⟩ := hw
        refine gh_cl hlocks (hno _) (vx_runV (C := "OwnerLedgerModel") (As := [.int v7, .long v4]) (rest := []) ⟨hx, hb, hml, hown, hts⟩ (mX5_meet l hl0 D AC sa _ _ _ _ _ _ _ hw) (cwV 2 hts (gV kw_469 kw_470 kw_544 kw_2 kw_471) rfl rfl rfl (by decide +kernel) ⟨Nat.le_of_ble_eq_true rfl, Nat.le_of_ble_eq_true rfl⟩) (gh_preV gh_En_ok hK hE hP hS hA he10 rfl _) rfl rfl hl.1 rfl (lv_room (Nat.le_of_ble_eq_true rfl)) dX5_pay_162 ⟨Nat.le_of_ble_eq_true rfl, Nat.le_of_ble_eq_true rfl⟩) hP hS hA (Nat.le_of_ble_eq_true rfl) (Nat.le_of_ble_eq_true rfl) (fun r7 G8 H locs hw2 hP hS => ?_)
        replace hw := hw2
        clear hw2
        refine lv_lstore (lv' := [(4, .long r7), (0, .ref t), (1, .int p0), (6, .int v6), (7, .int v7), (8, .int v8)]) hx hb dX5_pay_165 hl (by decide) rfl (fun ls hl => ?_)
        refine lv_aload_n hx hb dX5_pay_167 rfl (lv_at hl 1 rfl) ?_
        obtain ⟨fs11, x14, he12, hv13, hw⟩ := hw
        refine gh_get (ci := 5) (v := .ref x14) (C := "OwnerLedgerModel") (T := TX5) (N := 24) hx hb hts (fun w h => gT_up (inX5 w h)) hown hK hP he12 rfl 19 (by decide) (hts _ (gT_up kw_391)) (fun _ h9 => h9) hv13 dX5_pay_168 ?_
        refine lv_iload hx hb dX5_pay_171 (lv_at hl 4 rfl) ?_
        obtain ⟨n15, f16, he17, hi18, hw⟩ := hw
        refine gh_lald hx hb hK hP he17 rfl hi18 dX5_pay_173 ?_
        refine lv_lconst (v := 0) hx hb dX5_pay_174 (by decide) ?_
        refine W.lcmp hx hb dX5_pay_175 ?_
        refine lv_if_ne (tgt := 182) hx hb dX5_pay_176 (by decide) (fun c19 => ?_) (fun c19 => ?_)
        · replace hw := hw.1 c19
          refine lv_goto (tgt := 47) hx hb dX5_pay_182 (by decide) ?_
          have hl := lv_sub (l' := [(0, .ref t), (1, .int p0), (4, .long r7), (6, .int v6)]) hl [1, 2, 0, 3] rfl
          exact hJ47 _ t p0 r7 v6 _ _ hw hP hS ls hl
        · replace hw := hw.2 c19
          refine lv_iinc (v := (v6 + 1)) (lv' := [(6, .int (v6 + 1)), (4, .long r7), (0, .ref t), (1, .int p0), (7, .int v7), (8, .int v8)]) hx hb dX5_pay_179 hl (k := 3) rfl rfl (by decide) rfl (fun ls hl => ?_)
          refine lv_goto (tgt := 47) hx hb dX5_pay_182 (by decide) ?_
          have hl := lv_sub (l' := [(0, .ref t), (1, .int p0), (4, .long r7), (6, .int (v6 + 1))]) hl [2, 3, 1, 0] rfl
          exact hJ47 _ t p0 r7 (v6 + 1) _ _ hw hP hS ls hl
      · replace hw := hw.2 c6
        refine lv_aload_n hx hb dX5_pay_139 rfl (lv_at hl 0 rfl) ?_
        obtain ⟨fs20, x23, he21, hv22, hw⟩ := hw
        refine gh_get (ci := 5) (v := .ref x23) (C := "OwnerLedgerModel") (T := TX5) (N := 24) hx hb hts (fun w h => gT_up (inX5 w h)) hown hK hP he21 rfl 5 (by decide) (hts _ (gT_up kw_377)) (fun _ h9 => h9) hv22 dX5_pay_140 ?_
        refine lv_iload_n hx hb dX5_pay_143 rfl (lv_at hl 1 rfl) ?_
        refine lv_aload_n hx hb dX5_pay_144 rfl (lv_at hl 0 rfl) ?_
        obtain ⟨fs24, x27, he25, hv26, hw⟩ := hw
        refine gh_get (ci := 5) (v := .ref x27) (C := "OwnerLedgerModel") (T := TX5) (N := 24) hx hb hts (fun w h => gT_up (inX5 w h)) hown hK hP he25 rfl 5 (by decide) (hts _ (gT_up kw_377)) (fun _ h9 => h9) hv26 dX5_pay_145 ?_
        refine lv_iload_n hx hb dX5_pay_148 rfl (lv_at hl 1 rfl) ?_
        obtain ⟨n28, f29, he30, hi31, hw⟩ := hw
        refine gh_lald hx hb hK hP he30 rfl hi31 dX5_pay_149 ?_
        refine lv_lload hx hb dX5_pay_150 (lv_at hl 2 rfl) ?_
        refine lv_ladd hx hb dX5_pay_152 ?_
        obtain ⟨n32, f33, he34, hi35, hw⟩ := hw
        refine gh_last hx hb hK hP hS he34 rfl hi35 dX5_pay_153 (fun G37 H locs eG36 hP hS => ?_)
        replace hw := hw G37 eG36
        refine lv_iload hx hb dX5_pay_154 (lv_at hl 3 rfl) ?_
        exact gh_iret hx hb hr hlocks hw hP hS (Nat.le_of_ble_eq_true rfl) (Nat.le_of_ble_eq_true rfl) dX5_pay_156
    · replace hw := hw.2 c5
      refine lv_aload_n hx hb dX5_pay_69 rfl (lv_at hl 0 rfl) ?_
      obtain ⟨fs38, x41, he39, hv40, hw⟩ := hw
      refine gh_get (ci := 5) (v := .ref x41) (C := "OwnerLedgerModel") (T := TX5) (N := 24) hx hb hts (fun w h => gT_up (inX5 w h)) hown hK hP he39 rfl 18 (by decide) (hts _ (gT_up kw_390)) (fun _ h9 => h9) hv40 dX5_pay_70 ?_
      refine lv_iload hx hb dX5_pay_73 (lv_at hl 5 rfl) ?_
      obtain ⟨n42, f43, he44, hi45, hw⟩ := hw
      refine gh_iald hx hb hK hP he44 rfl hi45 dX5_pay_75 ?_
      refine lv_iload_n hx hb dX5_pay_76 rfl (lv_at hl 1 rfl) ?_
      refine lv_icmp_ne (tgt := 128) hx hb dX5_pay_77 (by decide) (fun c46 => ?_) (fun c46 => ?_)
      · replace hw := hw.1 c46
        refine lv_iinc (v := (v8 + 1)) (lv' := [(8, .int (v8 + 1)), (0, .ref t), (1, .int p0), (4, .long v4), (6, .int v6), (7, .int v7)]) hx hb dX5_pay_128 hl (k := 5) rfl rfl (by decide) rfl (fun ls hl => ?_)
        refine lv_goto (tgt := 60) hx hb dX5_pay_131 (by decide) ?_
        have hl := lv_sub (l' := [(0, .ref t), (1, .int p0), (4, .long v4), (6, .int v6), (7, .int v7), (8, .int (v8 + 1))]) hl [1, 2, 3, 4, 5, 0] rfl
        exact ih _ t p0 v4 v6 v7 (v8 + 1) _ _ hw hP hS ls hl
      · replace hw := hw.2 c46
        refine lv_aload_n hx hb dX5_pay_80 rfl (lv_at hl 0 rfl) ?_
        obtain ⟨fs47, x50, he48, hv49, hw⟩ := hw
        refine gh_get (ci := 5) (v := .ref x50) (C := "OwnerLedgerModel") (T := TX5) (N := 24) hx hb hts (fun w h => gT_up (inX5 w h)) hown hK hP he48 rfl 19 (by decide) (hts _ (gT_up kw_391)) (fun _ h9 => h9) hv49 dX5_pay_81 ?_
        refine lv_iload hx hb dX5_pay_84 (lv_at hl 5 rfl) ?_
        obtain ⟨n51, f52, he53, hi54, hw⟩ := hw
        refine gh_lald hx hb hK hP he53 rfl hi54 dX5_pay_86 ?_
        refine lv_lconst (v := 0) hx hb dX5_pay_87 (by decide) ?_
        refine W.lcmp hx hb dX5_pay_88 ?_
        refine lv_if_le (tgt := 128) hx hb dX5_pay_89 (by decide) (fun c55 => ?_) (fun c55 => ?_)
        · replace hw := hw.1 c55
          refine lv_iinc (v := (v8 + 1)) (lv' := [(8, .int (v8 + 1)), (0, .ref t), (1, .int p0), (4, .long v4), (6, .int v6), (7, .int v7)]) hx hb dX5_pay_128 hl (k := 5) rfl rfl (by decide) rfl (fun ls hl => ?_)
          refine lv_goto (tgt := 60) hx hb dX5_pay_131 (by decide) ?_
          have hl := lv_sub (l' := [(0, .ref t), (1, .int p0), (4, .long v4), (6, .int v6), (7, .int v7), (8, .int (v8 + 1))]) hl [1, 2, 3, 4, 5, 0] rfl
          exact ih _ t p0 v4 v6 v7 (v8 + 1) _ _ hw hP hS ls hl
        · replace hw := hw.2 c55
          refine lv_aload_n hx hb dX5_pay_92 rfl (lv_at hl 0 rfl) ?_
          obtain ⟨fs56, x59, he57, hv58, hw⟩ := hw
          refine gh_get (ci := 5) (v := .ref x59) (C := "OwnerLedgerModel") (T := TX5) (N := 24) hx hb hts (fun w h => gT_up (inX5 w h)) hown hK hP he57 rfl 22 (by decide) (hts _ (gT_up kw_394)) (fun _ h9 => h9) hv58 dX5_pay_93 ?_
          refine lv_iload hx hb dX5_pay_96 (lv_at hl 5 rfl) ?_
          obtain ⟨n60, f61, he62, hi63, hw⟩ := hw
          refine gh_zald hx hb hK hP he62 rfl hi63 dX5_pay_98 ?_
          refine lv_if_ne (tgt := 128) hx hb dX5_pay_99 (by decide) (fun c64 => ?_) (fun c64 => ?_)
          · replace hw := hw.1 c64
            refine lv_iinc (v := (v8 + 1)) (lv' := [(8, .int (v8 + 1)), (0, .ref t), (1, .int p0), (4, .long v4), (6, .int v6), (7, .int v7)]) hx hb dX5_pay_128 hl (k := 5) rfl rfl (by decide) rfl (fun ls hl => ?_)
            refine lv_goto (tgt := 60) hx hb dX5_pay_131 (by decide) ?_
            have hl := lv_sub (l' := [(0, .ref t), (1, .int p0), (4, .long v4), (6, .int v6), (7, .int v7), (8, .int (v8 + 1))]) hl [1, 2, 3, 4, 5, 0] rfl
            exact ih _ t p0 v4 v6 v7 (v8 + 1) _ _ hw hP hS ls hl
          · replace hw := hw.2 c64
            refine lv_iload hx hb dX5_pay_102 (lv_at hl 4 rfl) ?_
            refine lv_if_lt (tgt := 124) hx hb dX5_pay_104 (by decide) (fun c65 => ?_) (fun c65 => ?_)
            · replace hw := hw.1 c65
              have hl := lv_sub (l' := [(0, .ref t), (1, .int p0), (4, .long v4), (6, .int v6), (8, .int v8)]) hl [0, 1, 2, 3, 5] rfl
              exact lX5_pay_124 hl0 CX post px J47 hJ47 (wX5_pay_60 post px J47 n) (fun G9 t9 p09 v49 v69 v79 v89 H9 locs9 hw9 hP9 hS9 ls9 hl9 => ih G9 t9 p09 v49 v69 v79 v89 H9 locs9 hw9 hP9 hS9 ls9 hl9) _ t p0 v4 v6 v8 _ _ hw hP hS ls hl
            · replace hw := hw.2 c65
              refine lv_aload_n hx hb dX5_pay_107 rfl (lv_at hl 0 rfl) ?_
              obtain ⟨fs66, x69, he67, hv68, hw⟩ := hw
              refine gh_get (ci := 5) (v := .ref x69) (C := "OwnerLedgerModel") (T := TX5) (N := 24) hx hb hts (fun w h => gT_up (inX5 w h)) hown hK hP he67 rfl 20 (by decide) (hts _ (gT_up kw_392)) (fun _ h9 => h9) hv68 dX5_pay_108 ?_
              refine lv_iload hx hb dX5_pay_111 (lv_at hl 5 rfl) ?_
              obtain ⟨n70, f71, he72, hi73, hw⟩ := hw
              refine gh_iald hx hb hK hP he72 rfl hi73 dX5_pay_113 ?_
              refine lv_aload_n hx hb dX5_pay_114 rfl (lv_at hl 0 rfl) ?_
              obtain ⟨fs74, x77, he75, hv76, hw⟩ := hw
              refine gh_get (ci := 5) (v := .ref x77) (C := "OwnerLedgerModel") (T := TX5) (N := 24) hx hb hts (fun w h => gT_up (inX5 w h)) hown hK hP he75 rfl 20 (by decide) (hts _ (gT_up kw_392)) (fun _ h9 => h9) hv76 dX5_pay_115 ?_
              refine lv_iload hx hb dX5_pay_118 (lv_at hl 4 rfl) ?_
              obtain ⟨n78, f79, he80, hi81, hw⟩ := hw
              refine gh_iald hx hb hK hP he80 rfl hi81 dX5_pay_120 ?_
              refine lv_icmp_ge (tgt := 128) hx hb dX5_pay_121 (by decide) (fun c82 => ?_) (fun c82 => ?_)
              · replace hw := hw.1 c82
                refine lv_iinc (v := (v8 + 1)) (lv' := [(8, .int (v8 + 1)), (0, .ref t), (1, .int p0), (4, .long v4), (6, .int v6), (7, .int v7)]) hx hb dX5_pay_128 hl (k := 5) rfl rfl (by decide) rfl (fun ls hl => ?_)
                refine lv_goto (tgt := 60) hx hb dX5_pay_131 (by decide) ?_
                have hl := lv_sub (l' := [(0, .ref t), (1, .int p0), (4, .long v4), (6, .int v6), (7, .int v7), (8, .int (v8 + 1))]) hl [1, 2, 3, 4, 5, 0] rfl
                exact ih _ t p0 v4 v6 v7 (v8 + 1) _ _ hw hP hS ls hl
              · replace hw := hw.2 c82
                have hl := lv_sub (l' := [(0, .ref t), (1, .int p0), (4, .long v4), (6, .int v6), (8, .int v8)]) hl [0, 1, 2, 3, 5] rfl
                exact lX5_pay_124 hl0 CX post px J47 hJ47 (wX5_pay_60 post px J47 n) (fun G9 t9 p09 v49 v69 v79 v89 H9 locs9 hw9 hP9 hS9 ls9 hl9 => ih G9 t9 p09 v49 v69 v79 v89 H9 locs9 hw9 hP9 hS9 ls9 hl9) _ t p0 v4 v6 v8 _ _ hw hP hS ls hl
def wX5_pay_47 (post : Int32 → gh_H → Prop) (px : String → gh_H → Prop) : Nat → gh_H → Nat → Int32 → Int64 → Int32 → Prop
  | 0 => fun _ _ _ _ _ => False
  | n + 1 => fun G t p0 v4 v6 => ((lg_cmp v4 0) ≤ 0 → (post v6 G)) ∧ (¬ (lg_cmp v4 0) ≤ 0 → (wX5_pay_60 post px (wX5_pay_47 post px n) 300 G t p0 v4 v6 (-1) 0))
set_option maxRecDepth 100000 in
set_option maxHeartbeats 4000000 in
theorem lX5_pay_47 {p : Program} {l : Launch} {e : Env} {s : State} {m : MethodId} {args : Array Value} {below : List Frame} {meth : Method} {c : Code} {D : va_G} {AC : Nat → ClassId} {sa : gh_SA} {A : Nat → Prop} (hl0 : l.stackTraces = false) (CX : cxX5_pay p s m args meth c D AC sa A) (post : Int32 → gh_H → Prop) (px : String → gh_H → Prop) : ∀ n : Nat, ∀ (G : gh_H) (t : Nat) (p0 : Int32) (v4 : Int64) (v6 : Int32) (H : Heap) (locs : List Loc), wX5_pay_47 post px n G t p0 v4 v6 → gh_h D vwCl AC A G H → va_S A s.heap H locs → ∀ ls : Array Slot, lv_has ls 9 [(0, .ref t), (1, .int p0), (4, .long v4), (6, .int v6)] → W p l e rmX5_pay s m args below meth c H locs 0 0 (vx_MQ below (va_Qi post (gh_B D vwCl AC A) A) (gh_X D vwCl AC px A) args s 0 0 A) (F0 m 47 ls []) := by
  obtain ⟨⟨hx, hb, hml, hown, hts⟩, hr, hlocks, htb, hK, hE, hA⟩ := id CX
  have hno : ∀ (pc : Nat), ∀ x ∈ c.exceptionTable.toList, covers x pc = false := by rw [htb]; intro _ _ h; cases h
  intro n
  induction n with
  | zero =>
    intro G t p0 v4 v6 H locs hw
    exact False.elim hw
  | succ n ih =>
    intro G t p0 v4 v6 H locs hw hP hS ls hl
    dsimp only [wX5_pay_47] at hw
    refine lv_lload hx hb dX5_pay_47 (lv_at hl 2 rfl) ?_
    refine lv_lconst (v := 0) hx hb dX5_pay_49 (by decide) ?_
    refine W.lcmp hx hb dX5_pay_50 ?_
    refine lv_if_le (tgt := 185) hx hb dX5_pay_51 (by decide) (fun c1 => ?_) (fun c1 => ?_)
    · replace hw := hw.1 c1
      refine lv_iload hx hb dX5_pay_185 (lv_at hl 3 rfl) ?_
      exact gh_iret hx hb hr hlocks hw hP hS (Nat.le_of_ble_eq_true rfl) (Nat.le_of_ble_eq_true rfl) dX5_pay_187
    · replace hw := hw.2 c1
      refine lv_iconst (v := (-1)) hx hb dX5_pay_54 (by decide) ?_
      refine lv_istore (lv' := [(7, .int (-1)), (0, .ref t), (1, .int p0), (4, .long v4), (6, .int v6)]) hx hb dX5_pay_55 hl (by decide) rfl (fun ls hl => ?_)
      refine lv_iconst (v := 0) hx hb dX5_pay_57 (by decide) ?_
      refine lv_istore (lv' := [(8, .int 0), (7, .int (-1)), (0, .ref t), (1, .int p0), (4, .long v4), (6, .int v6)]) hx hb dX5_pay_58 hl (by decide) rfl (fun ls hl => ?_)
      have hl := lv_sub (l' := [(0, .ref t), (1, .int p0), (4, .long v4), (6, .int v6), (7, .int (-1)), (8, .int 0)]) hl [2, 3, 4, 5, 1, 0] rfl
      exact lX5_pay_60 hl0 CX post px (wX5_pay_47 post px n) (fun G9 t9 p09 v49 v69 H9 locs9 hw9 hP9 hS9 ls9 hl9 => ih G9 t9 p09 v49 v69 H9 locs9 hw9 hP9 hS9 ls9 hl9) _ _ t p0 v4 v6 (-1) 0 _ _ hw hP hS ls hl
def wX5_pay_29 (post : Int32 → gh_H → Prop) (px : String → gh_H → Prop) (G : gh_H) (t : Nat) (p0 : Int32) (p1 : Int64) (s0 : Nat) (s1 : Int32) : Prop := ∃ fs1 : List Value, G s0 = some (.inr (5, fs1)) ∧ 0 < fs1.length ∧ (∀ G4 : gh_H, G4 = gh_up G s0 (.inr (5, fs1.set 0 (.int s1))) → ∃ (fs6 : List Value) (x9 : Int32), G4 t = some (.inr (5, fs6)) ∧ fs6[0]? = some (.int x9) ∧ ((x9 = 0 → (wX5_pay_47 post px 300 G4 t p0 p1 0)) ∧ (¬ x9 = 0 → (post 0 G4))))
set_option maxRecDepth 100000 in
set_option maxHeartbeats 4000000 in
theorem lX5_pay_29 {p : Program} {l : Launch} {e : Env} {s : State} {m : MethodId} {args : Array Value} {below : List Frame} {meth : Method} {c : Code} {D : va_G} {AC : Nat → ClassId} {sa : gh_SA} {A : Nat → Prop} (hl0 : l.stackTraces = false) (CX : cxX5_pay p s m args meth c D AC sa A) (post : Int32 → gh_H → Prop) (px : String → gh_H → Prop) : ∀ (G : gh_H) (t : Nat) (p0 : Int32) (p1 : Int64) (s0 : Nat) (s1 : Int32) (H : Heap) (locs : List Loc), wX5_pay_29 post px G t p0 p1 s0 s1 → gh_h D vwCl AC A G H → va_S A s.heap H locs → ∀ ls : Array Slot, lv_has ls 9 [(0, .ref t), (1, .int p0), (2, .long p1)] → W p l e rmX5_pay s m args below meth c H locs 0 0 (vx_MQ below (va_Qi post (gh_B D vwCl AC A) A) (gh_X D vwCl AC px A) args s 0 0 A) (F0 m 29 ls [.int s1, .ref s0]) := by
  obtain ⟨⟨hx, hb, hml, hown, hts⟩, hr, hlocks, htb, hK, hE, hA⟩ := id CX
  have hno : ∀ (pc : Nat), ∀ x ∈ c.exceptionTable.toList, covers x pc = false := by rw [htb]; intro _ _ h; cases h
  intro G t p0 p1 s0 s1 H locs hw hP hS ls hl
  dsimp only [wX5_pay_29] at hw
  obtain ⟨fs1, he2, hk3, hw⟩ := hw
  refine gh_put (ci := 5) (v := .int s1) (ty := .int) (C := "OwnerLedgerModel") (T := TX5) (N := 24) hx hb hts (fun w h => gT_up (inX5 w h)) tyX5 tyX5_ok nmX5 hown hK hP hS he2 rfl 0 (by decide) (hts _ (gT_up kw_372)) (fun _ h9 => h9) rfl (by decide +kernel) rfl rfl hk3 dX5_pay_29 (fun G4 H locs eG5 hP hS => ?_)
  replace hw := hw G4 eG5
  refine lv_aload_n hx hb dX5_pay_32 rfl (lv_at hl 0 rfl) ?_
  obtain ⟨fs6, x9, he7, hv8, hw⟩ := hw
  refine gh_get (ci := 5) (v := .int x9) (C := "OwnerLedgerModel") (T := TX5) (N := 24) hx hb hts (fun w h => gT_up (inX5 w h)) hown hK hP he7 rfl 0 (by decide) (hts _ (gT_up kw_372)) (fun _ h9 => h9) hv8 dX5_pay_33 ?_
  refine lv_if_eq (tgt := 41) hx hb dX5_pay_36 (by decide) (fun c10 => ?_) (fun c10 => ?_)
  · replace hw := hw.1 c10
    refine lv_lload_n hx hb dX5_pay_41 rfl (lv_at hl 2 rfl) ?_
    refine lv_lstore (lv' := [(4, .long p1), (0, .ref t), (1, .int p0), (2, .long p1)]) hx hb dX5_pay_42 hl (by decide) rfl (fun ls hl => ?_)
    refine lv_iconst (v := 0) hx hb dX5_pay_44 (by decide) ?_
    refine lv_istore (lv' := [(6, .int 0), (4, .long p1), (0, .ref t), (1, .int p0), (2, .long p1)]) hx hb dX5_pay_45 hl (by decide) rfl (fun ls hl => ?_)
    have hl := lv_sub (l' := [(0, .ref t), (1, .int p0), (4, .long p1), (6, .int 0)]) hl [2, 3, 1, 0] rfl
    exact lX5_pay_47 hl0 CX post px _ _ t p0 p1 0 _ _ hw hP hS ls hl
  · replace hw := hw.2 c10
    refine lv_iconst (v := 0) hx hb dX5_pay_39 (by decide) ?_
    exact gh_iret hx hb hr hlocks hw hP hS (Nat.le_of_ble_eq_true rfl) (Nat.le_of_ble_eq_true rfl) dX5_pay_40
def wX5_pay (post : Int32 → gh_H → Prop) (px : String → gh_H → Prop) (G : gh_H) (t : Nat) (p0 : Int32) (p1 : Int64) : Prop := ∃ fs3 : List Value, G t = some (.inr (5, fs3)) ∧ wX5_noOwner (fun r1 G2 => (r1 = 0 → (wX5_not (fun r6 G7 => (r6 = 0 → (wX5_pay_29 post px G7 t p0 p1 t 0)) ∧ (¬ r6 = 0 → (wX5_pay_29 post px G7 t p0 p1 t 2))) px G2 p1 1 1000000000)) ∧ (¬ r1 = 0 → (wX5_pay_29 post px G2 t p0 p1 t 1))) px G t p0
set_option maxRecDepth 100000 in
set_option maxHeartbeats 4000000 in
theorem mX5_pay (l : Launch) (hl0 : l.stackTraces = false) (D : va_G) (AC : Nat → ClassId) (sa : gh_SA) (t : Nat) (p0 : Int32) (p1 : Int64) (post : Int32 → gh_H → Prop) (px : String → gh_H → Prop) (G : gh_H) (sz : Nat) (hw : wX5_pay post px G t p0 p1) : vx_Met l yX5_pay wsX5_pay rmX5_pay (gh_Pc D vwCl AC (gh_ty AC) (gh_En sa) G sz [.ref t, .int p0, .long p1]) (va_Qi post (gh_B D vwCl AC (gh_A G sz)) (gh_A G sz)) (gh_X D vwCl AC px (gh_A G sz)) 0 0 (gh_A G sz) := by
  refine vx_ofW (cc := prog_7_method_24_code) (maxL := 9) (ret := (some .int)) (by decide) rfl ?_
  intro p e s m args below meth c s₁ B hml hnoh hv
  obtain ⟨rfl, hsz, hP, hK, hE⟩ := hv
  have hx := B.exec
  have hb := B.bytes
  have hr := B.returns
  have hts := atoms_spec (ws := wsX5_pay) B.pre
  have hown : s.vm.findClass "OwnerLedgerModel" = some m.cls := findClass_of_methodNamed B.named
  have hlocks := B.notSynchronized
  have htb : c.exceptionTable.toList = [] := List.eq_nil_iff_forall_not_mem.mpr hnoh
  subst hsz
  have hA : ∀ q, s.heap.size ≤ q → gh_A G s.heap.size q := fun q h => Or.inr h
  generalize gh_A G s.heap.size = A at hP hE hA ⊢
  have hno : ∀ (pc : Nat), ∀ x ∈ c.exceptionTable.toList, covers x pc = false := by rw [htb]; intro _ _ h; cases h
  have CX : cxX5_pay p s m [.ref t, .int p0, .long p1].toArray meth c D AC sa A := ⟨⟨hx, hb, hml, hown, hts⟩, hr, hlocks, htb, hK, hE, hA⟩
  have hS : va_S A s.heap s.heap [] := va_S.rf
  have hl := lv_entry ([.ref t, .int p0, .long p1]) (n := 9) (Nat.le_of_ble_eq_true rfl)
  rw [lg_entry_eq]
  generalize (lg_sl ([.ref t, .int p0, .long p1]) ++ List.replicate (9 - (lg_sl ([.ref t, .int p0, .long p1])).length) Slot.unset).toArray = ls at hl ⊢
  have hl : lv_has ls 9 [(0, .ref t), (1, .int p0), (2, .long p1)] := hl
  dsimp only [wX5_pay] at hw
  refine lv_aload_n hx hb dX5_pay_0 rfl (lv_at hl 0 rfl) ?_
  refine lv_aload_n hx hb dX5_pay_1 rfl (lv_at hl 0 rfl) ?_
  refine lv_iload_n hx hb dX5_pay_2 rfl (lv_at hl 1 rfl) ?_
  obtain ⟨fs3, he4, hw⟩ := hw
  refine gh_ci hlocks (hno _) (vx_runV (C := "OwnerLedgerModel") (As := [.int p0]) (rest := [.ref t]) ⟨hx, hb, hml, hown, hts⟩ (mX5_noOwner l hl0 D AC sa _ _ _ _ _ _ hw) (cwV 1 hts (gV kw_410 kw_411 kw_540 kw_2 kw_412) rfl rfl rfl (by decide +kernel) ⟨Nat.le_of_ble_eq_true rfl, Nat.le_of_ble_eq_true rfl⟩) (gh_preV gh_En_ok hK hE hP hS hA he4 rfl _) rfl rfl hl.1 rfl (lv_room (Nat.le_of_ble_eq_true rfl)) dX5_pay_3 ⟨Nat.le_of_ble_eq_true rfl, Nat.le_of_ble_eq_true rfl⟩) hP hS hA (Nat.le_of_ble_eq_true rfl) (Nat.le_of_ble_eq_true rfl) (fun r1 G2 H locs hw2 hP hS => ?_)
  replace hw := hw2
  clear hw2
  refine lv_if_eq (tgt := 13) hx hb dX5_pay_6 (by decide) (fun c5 => ?_) (fun c5 => ?_)
  · replace hw := hw.1 c5
    refine lv_lload_n hx hb dX5_pay_13 rfl (lv_at hl 2 rfl) ?_
    refine lv_lconst (v := 1) hx hb dX5_pay_14 (by decide) ?_
    refine lv_ldc2 (v := 1000000000) hx hb hown (hts _ (gT_up kw_440)) dX5_pay_15 ?_
    refine gh_ci hlocks (hno _) (vx_runS (As := [.long p1, .long 1, .long 1000000000]) (rest := [.ref t]) ⟨hx, hb, hml, hown, hts⟩ (mX5_not l hl0 D AC sa _ _ _ _ _ _ _ hw) (va_cwS 3 hts (gS kw_414 kw_415 kw_2 kw_416) rfl rfl rfl (by decide +kernel) ⟨Nat.le_of_ble_eq_true rfl, Nat.le_of_ble_eq_true rfl⟩) (gh_pre gh_En_ok hK hE hP hS hA _) rfl rfl hl.1 rfl (lv_room (Nat.le_of_ble_eq_true rfl)) dX5_pay_18 ⟨Nat.le_of_ble_eq_true rfl, Nat.le_of_ble_eq_true rfl⟩) hP hS hA (Nat.le_of_ble_eq_true rfl) (Nat.le_of_ble_eq_true rfl) (fun r6 G7 H locs hw2 hP hS => ?_)
    replace hw := hw2
    clear hw2
    refine lv_if_eq (tgt := 28) hx hb dX5_pay_21 (by decide) (fun c8 => ?_) (fun c8 => ?_)
    · replace hw := hw.1 c8
      refine lv_iconst (v := 0) hx hb dX5_pay_28 (by decide) ?_
      have hl := lv_sub (l' := [(0, .ref t), (1, .int p0), (2, .long p1)]) hl [0, 1, 2] rfl
      exact lX5_pay_29 hl0 CX post px _ t p0 p1 t 0 _ _ hw hP hS ls hl
    · replace hw := hw.2 c8
      refine lv_iconst (v := 2) hx hb dX5_pay_24 (by decide) ?_
      refine lv_goto (tgt := 29) hx hb dX5_pay_25 (by decide) ?_
      have hl := lv_sub (l' := [(0, .ref t), (1, .int p0), (2, .long p1)]) hl [0, 1, 2] rfl
      exact lX5_pay_29 hl0 CX post px _ t p0 p1 t 2 _ _ hw hP hS ls hl
  · replace hw := hw.2 c5
    refine lv_iconst (v := 1) hx hb dX5_pay_9 (by decide) ?_
    refine lv_goto (tgt := 29) hx hb dX5_pay_10 (by decide) ?_
    have hl := lv_sub (l' := [(0, .ref t), (1, .int p0), (2, .long p1)]) hl [0, 1, 2] rfl
    exact lX5_pay_29 hl0 CX post px _ t p0 p1 t 1 _ _ hw hP hS ls hl
abbrev rmX5_settle : Room := { frames := 1, cells := 0, slots := 0, locals := 25 }
abbrev cxX5_settle (p : Program) (s : State) (m : MethodId) (args : Array Value) (meth : Method) (c : Code) (D : va_G) (AC : Nat → ClassId) (sa : gh_SA) (A : Nat → Prop) : Prop := CallFix p m c prog_7_method_25_code 5 s args wsX5_settle "OwnerLedgerModel" ∧ meth.sig.returnType = (some .long) ∧ meth.locks = false ∧ c.exceptionTable.toList = [] ∧ va_K D vwCl (gh_ty AC) s ∧ gh_En sa A s s.heap ∧ (∀ q, s.heap.size ≤ q → A q)
def wX5_settle_29 (post : Int64 → gh_H → Prop) (px : String → gh_H → Prop) (G : gh_H) (t : Nat) (p0 : Int32) (p1 : Int64) (s0 : Nat) (s1 : Int32) : Prop := ∃ fs1 : List Value, G s0 = some (.inr (5, fs1)) ∧ 0 < fs1.length ∧ (∀ G4 : gh_H, G4 = gh_up G s0 (.inr (5, fs1.set 0 (.int s1))) → ∃ (fs6 : List Value) (x9 : Int32), G4 t = some (.inr (5, fs6)) ∧ fs6[0]? = some (.int x9) ∧ ((x9 = 0 → (∃ (fs11 : List Value) (x14 : Nat), G4 t = some (.inr (5, fs11)) ∧ fs11[18]? = some (.ref x14) ∧ (∃ (n15 : Nat) (f16 : Nat → Int32), G4 x14 = some (.inl (0, n15, .inl f16)) ∧ vp_in (p0 - 1) n15 ∧ (∃ (fs19 : List Value) (x22 : Nat), G4 t = some (.inr (5, fs19)) ∧ fs19[5]? = some (.ref x22) ∧ (∃ (fs23 : List Value) (x26 : Nat), G4 t = some (.inr (5, fs23)) ∧ fs23[5]? = some (.ref x26) ∧ (∃ (n27 : Nat) (f28 : Nat → Int64), G4 x26 = some (.inl (1, n27, .inr (.inl f28))) ∧ vp_in (f16 (Int32.toNatClampNeg (p0 - 1))) n27 ∧ (∃ fs33 : List Value, G4 t = some (.inr (5, fs33)) ∧ wX5_meet (fun r31 G32 => ∃ (n35 : Nat) (f36 : Nat → Int64), G32 x22 = some (.inl (1, n35, .inr (.inl f36))) ∧ vp_in (f16 (Int32.toNatClampNeg (p0 - 1))) n35 ∧ (∀ G40 : gh_H, G40 = gh_up G32 x22 (.inl (1, n35, .inr (.inl (vp_updL f36 (Int32.toNatClampNeg (f16 (Int32.toNatClampNeg (p0 - 1)))) ((f28 (Int32.toNatClampNeg (f16 (Int32.toNatClampNeg (p0 - 1))))) + r31))))) → ∃ (fs41 : List Value) (x44 : Nat), G40 t = some (.inr (5, fs41)) ∧ fs41[19]? = some (.ref x44) ∧ (∃ (n45 : Nat) (f46 : Nat → Int64), G40 x44 = some (.inl (1, n45, .inr (.inl f46))) ∧ vp_in (p0 - 1) n45 ∧ (post (f46 (Int32.toNatClampNeg (p0 - 1))) G40)))) px G4 t (p0 - 1) p1))))))) ∧ (¬ x9 = 0 → (post 0 G4))))
set_option maxRecDepth 100000 in
set_option maxHeartbeats 4000000 in
theorem lX5_settle_29 {p : Program} {l : Launch} {e : Env} {s : State} {m : MethodId} {args : Array Value} {below : List Frame} {meth : Method} {c : Code} {D : va_G} {AC : Nat → ClassId} {sa : gh_SA} {A : Nat → Prop} (hl0 : l.stackTraces = false) (CX : cxX5_settle p s m args meth c D AC sa A) (post : Int64 → gh_H → Prop) (px : String → gh_H → Prop) : ∀ (G : gh_H) (t : Nat) (p0 : Int32) (p1 : Int64) (s0 : Nat) (s1 : Int32) (H : Heap) (locs : List Loc), wX5_settle_29 post px G t p0 p1 s0 s1 → gh_h D vwCl AC A G H → va_S A s.heap H locs → ∀ ls : Array Slot, lv_has ls 5 [(0, .ref t), (1, .int p0), (2, .long p1)] → W p l e rmX5_settle s m args below meth c H locs 0 0 (vx_MQ below (va_Ql post (gh_B D vwCl AC A) A) (gh_X D vwCl AC px A) args s 0 0 A) (F0 m 29 ls [.int s1, .ref s0]) := by
  obtain ⟨⟨hx, hb, hml, hown, hts⟩, hr, hlocks, htb, hK, hE, hA⟩ := id CX
  have hno : ∀ (pc : Nat), ∀ x ∈ c.exceptionTable.toList, covers x pc = false := by rw [htb]; intro _ _ h; cases h
  intro G t p0 p1 s0 s1 H locs hw hP hS ls hl
  dsimp only [wX5_settle_29] at hw
  obtain ⟨fs1, he2, hk3, hw⟩ := hw
  refine gh_put (ci := 5) (v := .int s1) (ty := .int) (C := "OwnerLedgerModel") (T := TX5) (N := 24) hx hb hts (fun w h => gT_up (inX5 w h)) tyX5 tyX5_ok nmX5 hown hK hP hS he2 rfl 0 (by decide) (hts _ (gT_up kw_372)) (fun _ h9 => h9) rfl (by decide +kernel) rfl rfl hk3 dX5_settle_29 (fun G4 H locs eG5 hP hS => ?_)
  replace hw := hw G4 eG5
  refine lv_aload_n hx hb dX5_settle_32 rfl (lv_at hl 0 rfl) ?_
  obtain ⟨fs6, x9, he7, hv8, hw⟩ := hw
  refine gh_get (ci := 5) (v := .int x9) (C := "OwnerLedgerModel") (T := TX5) (N := 24) hx hb hts (fun w h => gT_up (inX5 w h)) hown hK hP he7 rfl 0 (by decide) (hts _ (gT_up kw_372)) (fun _ h9 => h9) hv8 dX5_settle_33 ?_
  refine lv_if_eq (tgt := 41) hx hb dX5_settle_36 (by decide) (fun c10 => ?_) (fun c10 => ?_)
  · replace hw := hw.1 c10
    refine lv_aload_n hx hb dX5_settle_41 rfl (lv_at hl 0 rfl) ?_
    obtain ⟨fs11, x14, he12, hv13, hw⟩ := hw
    refine gh_get (ci := 5) (v := .ref x14) (C := "OwnerLedgerModel") (T := TX5) (N := 24) hx hb hts (fun w h => gT_up (inX5 w h)) hown hK hP he12 rfl 18 (by decide) (hts _ (gT_up kw_390)) (fun _ h9 => h9) hv13 dX5_settle_42 ?_
    refine lv_iload_n hx hb dX5_settle_45 rfl (lv_at hl 1 rfl) ?_
    refine lv_iconst (v := 1) hx hb dX5_settle_46 (by decide) ?_
    refine lv_isub hx hb dX5_settle_47 ?_
    obtain ⟨n15, f16, he17, hi18, hw⟩ := hw
    refine gh_iald hx hb hK hP he17 rfl hi18 dX5_settle_48 ?_
    refine lv_istore (lv' := [(4, .int (f16 (Int32.toNatClampNeg (p0 - 1)))), (0, .ref t), (1, .int p0), (2, .long p1)]) hx hb dX5_settle_49 hl (by decide) rfl (fun ls hl => ?_)
    refine lv_aload_n hx hb dX5_settle_51 rfl (lv_at hl 1 rfl) ?_
    obtain ⟨fs19, x22, he20, hv21, hw⟩ := hw
    refine gh_get (ci := 5) (v := .ref x22) (C := "OwnerLedgerModel") (T := TX5) (N := 24) hx hb hts (fun w h => gT_up (inX5 w h)) hown hK hP he20 rfl 5 (by decide) (hts _ (gT_up kw_377)) (fun _ h9 => h9) hv21 dX5_settle_52 ?_
    refine lv_iload hx hb dX5_settle_55 (lv_at hl 0 rfl) ?_
    refine lv_aload_n hx hb dX5_settle_57 rfl (lv_at hl 1 rfl) ?_
    obtain ⟨fs23, x26, he24, hv25, hw⟩ := hw
    refine gh_get (ci := 5) (v := .ref x26) (C := "OwnerLedgerModel") (T := TX5) (N := 24) hx hb hts (fun w h => gT_up (inX5 w h)) hown hK hP he24 rfl 5 (by decide) (hts _ (gT_up kw_377)) (fun _ h9 => h9) hv25 dX5_settle_58 ?_
    refine lv_iload hx hb dX5_settle_61 (lv_at hl 0 rfl) ?_
    obtain ⟨n27, f28, he29, hi30, hw⟩ := hw
    refine gh_lald hx hb hK hP he29 rfl hi30 dX5_settle_63 ?_
    refine lv_aload_n hx hb dX5_settle_64 rfl (lv_at hl 1 rfl) ?_
    refine lv_iload_n hx hb dX5_settle_65 rfl (lv_at hl 2 rfl) ?_
    refine lv_iconst (v := 1) hx hb dX5_settle_66 (by decide) ?_
    refine lv_isub hx hb dX5_settle_67 ?_
    refine lv_lload_n hx hb dX5_settle_68 rfl (lv_at hl 3 rfl) ?_
    obtain ⟨fs33, he34, hw⟩ := hw
    refine gh_cl hlocks (hno _) (vx_runV (C := "OwnerLedgerModel") (As := [.int (p0 - 1), .long p1]) (rest := [.long (f28 (Int32.toNatClampNeg (f16 (Int32.toNatClampNeg (p0 - 1))))), .int (f16 (Int32.toNatClampNeg (p0 - 1))), .ref x22]) ⟨hx, hb, hml, hown, hts⟩ (mX5_meet l hl0 D AC sa _ _ _ _ _ _ _ hw) (cwV 2 hts (gV kw_469 kw_470 kw_544 kw_2 kw_471) rfl rfl rfl (by decide +kernel) ⟨Nat.le_of_ble_eq_true rfl, Nat.le_of_ble_eq_true rfl⟩) (gh_preV gh_En_ok hK hE hP hS hA he34 rfl _) rfl rfl hl.1 rfl (lv_room (Nat.le_of_ble_eq_true rfl)) dX5_settle_69 ⟨Nat.le_of_ble_eq_true rfl, Nat.le_of_ble_eq_true rfl⟩) hP hS hA (Nat.le_of_ble_eq_true rfl) (Nat.le_of_ble_eq_true rfl) (fun r31 G32 H locs hw2 hP hS => ?_)
    replace hw := hw2
    clear hw2
    refine lv_ladd hx hb dX5_settle_72 ?_
    obtain ⟨n35, f36, he37, hi38, hw⟩ := hw
    refine gh_last hx hb hK hP hS he37 rfl hi38 dX5_settle_73 (fun G40 H locs eG39 hP hS => ?_)
    replace hw := hw G40 eG39
    refine lv_aload_n hx hb dX5_settle_74 rfl (lv_at hl 1 rfl) ?_
    obtain ⟨fs41, x44, he42, hv43, hw⟩ := hw
    refine gh_get (ci := 5) (v := .ref x44) (C := "OwnerLedgerModel") (T := TX5) (N := 24) hx hb hts (fun w h => gT_up (inX5 w h)) hown hK hP he42 rfl 19 (by decide) (hts _ (gT_up kw_391)) (fun _ h9 => h9) hv43 dX5_settle_75 ?_
    refine lv_iload_n hx hb dX5_settle_78 rfl (lv_at hl 2 rfl) ?_
    refine lv_iconst (v := 1) hx hb dX5_settle_79 (by decide) ?_
    refine lv_isub hx hb dX5_settle_80 ?_
    obtain ⟨n45, f46, he47, hi48, hw⟩ := hw
    refine gh_lald hx hb hK hP he47 rfl hi48 dX5_settle_81 ?_
    exact gh_lret hx hb hr hlocks hw hP hS (Nat.le_of_ble_eq_true rfl) (Nat.le_of_ble_eq_true rfl) dX5_settle_82
  · replace hw := hw.2 c10
    refine lv_lconst (v := 0) hx hb dX5_settle_39 (by decide) ?_
    exact gh_lret hx hb hr hlocks hw hP hS (Nat.le_of_ble_eq_true rfl) (Nat.le_of_ble_eq_true rfl) dX5_settle_40
def wX5_settle (post : Int64 → gh_H → Prop) (px : String → gh_H → Prop) (G : gh_H) (t : Nat) (p0 : Int32) (p1 : Int64) : Prop := ∃ fs3 : List Value, G t = some (.inr (5, fs3)) ∧ wX5_noInvoice (fun r1 G2 => (r1 = 0 → (wX5_not (fun r6 G7 => (r6 = 0 → (wX5_settle_29 post px G7 t p0 p1 t 0)) ∧ (¬ r6 = 0 → (wX5_settle_29 post px G7 t p0 p1 t 2))) px G2 p1 1 1000000000)) ∧ (¬ r1 = 0 → (wX5_settle_29 post px G2 t p0 p1 t 1))) px G t p0
set_option maxRecDepth 100000 in
set_option maxHeartbeats 4000000 in
theorem mX5_settle (l : Launch) (hl0 : l.stackTraces = false) (D : va_G) (AC : Nat → ClassId) (sa : gh_SA) (t : Nat) (p0 : Int32) (p1 : Int64) (post : Int64 → gh_H → Prop) (px : String → gh_H → Prop) (G : gh_H) (sz : Nat) (hw : wX5_settle post px G t p0 p1) : vx_Met l yX5_settle wsX5_settle rmX5_settle (gh_Pc D vwCl AC (gh_ty AC) (gh_En sa) G sz [.ref t, .int p0, .long p1]) (va_Ql post (gh_B D vwCl AC (gh_A G sz)) (gh_A G sz)) (gh_X D vwCl AC px (gh_A G sz)) 0 0 (gh_A G sz) := by
  refine vx_ofW (cc := prog_7_method_25_code) (maxL := 5) (ret := (some .long)) (by decide) rfl ?_
  intro p e s m args below meth c s₁ B hml hnoh hv
  obtain ⟨rfl, hsz, hP, hK, hE⟩ := hv
  have hx := B.exec
  have hb := B.bytes
  have hr := B.returns
  have hts := atoms_spec (ws := wsX5_settle) B.pre
  have hown : s.vm.findClass "OwnerLedgerModel" = some m.cls := findClass_of_methodNamed B.named
  have hlocks := B.notSynchronized
  have htb : c.exceptionTable.toList = [] := List.eq_nil_iff_forall_not_mem.mpr hnoh
  subst hsz
  have hA : ∀ q, s.heap.size ≤ q → gh_A G s.heap.size q := fun q h => Or.inr h
  generalize gh_A G s.heap.size = A at hP hE hA ⊢
  have hno : ∀ (pc : Nat), ∀ x ∈ c.exceptionTable.toList, covers x pc = false := by rw [htb]; intro _ _ h; cases h
  have CX : cxX5_settle p s m [.ref t, .int p0, .long p1].toArray meth c D AC sa A := ⟨⟨hx, hb, hml, hown, hts⟩, hr, hlocks, htb, hK, hE, hA⟩
  have hS : va_S A s.heap s.heap [] := va_S.rf
  have hl := lv_entry ([.ref t, .int p0, .long p1]) (n := 5) (Nat.le_of_ble_eq_true rfl)
  rw [lg_entry_eq]
  generalize (lg_sl ([.ref t, .int p0, .long p1]) ++ List.replicate (5 - (lg_sl ([.ref t, .int p0, .long p1])).length) Slot.unset).toArray = ls at hl ⊢
  have hl : lv_has ls 5 [(0, .ref t), (1, .int p0), (2, .long p1)] := hl
  dsimp only [wX5_settle] at hw
  refine lv_aload_n hx hb dX5_settle_0 rfl (lv_at hl 0 rfl) ?_
  refine lv_aload_n hx hb dX5_settle_1 rfl (lv_at hl 0 rfl) ?_
  refine lv_iload_n hx hb dX5_settle_2 rfl (lv_at hl 1 rfl) ?_
  obtain ⟨fs3, he4, hw⟩ := hw
  refine gh_ci hlocks (hno _) (vx_runV (C := "OwnerLedgerModel") (As := [.int p0]) (rest := [.ref t]) ⟨hx, hb, hml, hown, hts⟩ (mX5_noInvoice l hl0 D AC sa _ _ _ _ _ _ hw) (cwV 1 hts (gV kw_480 kw_481 kw_545 kw_2 kw_482) rfl rfl rfl (by decide +kernel) ⟨Nat.le_of_ble_eq_true rfl, Nat.le_of_ble_eq_true rfl⟩) (gh_preV gh_En_ok hK hE hP hS hA he4 rfl _) rfl rfl hl.1 rfl (lv_room (Nat.le_of_ble_eq_true rfl)) dX5_settle_3 ⟨Nat.le_of_ble_eq_true rfl, Nat.le_of_ble_eq_true rfl⟩) hP hS hA (Nat.le_of_ble_eq_true rfl) (Nat.le_of_ble_eq_true rfl) (fun r1 G2 H locs hw2 hP hS => ?_)
  replace hw := hw2
  clear hw2
  refine lv_if_eq (tgt := 13) hx hb dX5_settle_6 (by decide) (fun c5 => ?_) (fun c5 => ?_)
  · replace hw := hw.1 c5
    refine lv_lload_n hx hb dX5_settle_13 rfl (lv_at hl 2 rfl) ?_
    refine lv_lconst (v := 1) hx hb dX5_settle_14 (by decide) ?_
    refine lv_ldc2 (v := 1000000000) hx hb hown (hts _ (gT_up kw_440)) dX5_settle_15 ?_
    refine gh_ci hlocks (hno _) (vx_runS (As := [.long p1, .long 1, .long 1000000000]) (rest := [.ref t]) ⟨hx, hb, hml, hown, hts⟩ (mX5_not l hl0 D AC sa _ _ _ _ _ _ _ hw) (va_cwS 3 hts (gS kw_414 kw_415 kw_2 kw_416) rfl rfl rfl (by decide +kernel) ⟨Nat.le_of_ble_eq_true rfl, Nat.le_of_ble_eq_true rfl⟩) (gh_pre gh_En_ok hK hE hP hS hA _) rfl rfl hl.1 rfl (lv_room (Nat.le_of_ble_eq_true rfl)) dX5_settle_18 ⟨Nat.le_of_ble_eq_true rfl, Nat.le_of_ble_eq_true rfl⟩) hP hS hA (Nat.le_of_ble_eq_true rfl) (Nat.le_of_ble_eq_true rfl) (fun r6 G7 H locs hw2 hP hS => ?_)
    replace hw := hw2
    clear hw2
    refine lv_if_eq (tgt := 28) hx hb dX5_settle_21 (by decide) (fun c8 => ?_) (fun c8 => ?_)
    · replace hw := hw.1 c8
      refine lv_iconst (v := 0) hx hb dX5_settle_28 (by decide) ?_
      have hl := lv_sub (l' := [(0, .ref t), (1, .int p0), (2, .long p1)]) hl [0, 1, 2] rfl
      exact lX5_settle_29 hl0 CX post px _ t p0 p1 t 0 _ _ hw hP hS ls hl
    · replace hw := hw.2 c8
      refine lv_iconst (v := 2) hx hb dX5_settle_24 (by decide) ?_
      refine lv_goto (tgt := 29) hx hb dX5_settle_25 (by decide) ?_
      have hl := lv_sub (l' := [(0, .ref t), (1, .int p0), (2, .long p1)]) hl [0, 1, 2] rfl
      exact lX5_settle_29 hl0 CX post px _ t p0 p1 t 2 _ _ hw hP hS ls hl
  · replace hw := hw.2 c5
    refine lv_iconst (v := 1) hx hb dX5_settle_9 (by decide) ?_
    refine lv_goto (tgt := 29) hx hb dX5_settle_10 (by decide) ?_
    have hl := lv_sub (l' := [(0, .ref t), (1, .int p0), (2, .long p1)]) hl [0, 1, 2] rfl
    exact lX5_settle_29 hl0 CX post px _ t p0 p1 t 1 _ _ hw hP hS ls hl
abbrev rmX5_dispute : Room := { frames := 1, cells := 0, slots := 0, locals := 21 }
abbrev cxX5_dispute (p : Program) (s : State) (m : MethodId) (args : Array Value) (meth : Method) (c : Code) (D : va_G) (AC : Nat → ClassId) (sa : gh_SA) (A : Nat → Prop) : Prop := CallFix p m c prog_7_method_26_code 3 s args wsX5_dispute "OwnerLedgerModel" ∧ meth.sig.returnType = (some .long) ∧ meth.locks = false ∧ c.exceptionTable.toList = [] ∧ va_K D vwCl (gh_ty AC) s ∧ gh_En sa A s s.heap ∧ (∀ q, s.heap.size ≤ q → A q)
def wX5_dispute_30 (post : Int64 → gh_H → Prop) (px : String → gh_H → Prop) (G : gh_H) (t : Nat) (p0 : Int32) (p1 : Int32) (s0 : Nat) (s1 : Int32) : Prop := ∃ fs1 : List Value, G s0 = some (.inr (5, fs1)) ∧ 0 < fs1.length ∧ (∀ G4 : gh_H, G4 = gh_up G s0 (.inr (5, fs1.set 0 (.int s1))) → ∃ (fs6 : List Value) (x9 : Int32), G4 t = some (.inr (5, fs6)) ∧ fs6[0]? = some (.int x9) ∧ ((x9 = 0 → (∃ (fs11 : List Value) (x14 : Nat), G4 t = some (.inr (5, fs11)) ∧ fs11[22]? = some (.ref x14) ∧ (∃ (n15 : Nat) (f16 : Nat → Int32), G4 x14 = some (.inl (2, n15, .inl f16)) ∧ vp_in (p0 - 1) n15 ∧ (∀ G20 : gh_H, G20 = gh_up G4 x14 (.inl (2, n15, .inl (upd f16 (Int32.toNatClampNeg (p0 - 1)) (vp_nar .boolean p1)))) → ∃ (fs21 : List Value) (x24 : Nat), G20 t = some (.inr (5, fs21)) ∧ fs21[19]? = some (.ref x24) ∧ (∃ (n25 : Nat) (f26 : Nat → Int64), G20 x24 = some (.inl (1, n25, .inr (.inl f26))) ∧ vp_in (p0 - 1) n25 ∧ (post (f26 (Int32.toNatClampNeg (p0 - 1))) G20)))))) ∧ (¬ x9 = 0 → (post 0 G4))))
set_option maxRecDepth 100000 in
set_option maxHeartbeats 4000000 in
theorem lX5_dispute_30 {p : Program} {l : Launch} {e : Env} {s : State} {m : MethodId} {args : Array Value} {below : List Frame} {meth : Method} {c : Code} {D : va_G} {AC : Nat → ClassId} {sa : gh_SA} {A : Nat → Prop} (hl0 : l.stackTraces = false) (CX : cxX5_dispute p s m args meth c D AC sa A) (post : Int64 → gh_H → Prop) (px : String → gh_H → Prop) : ∀ (G : gh_H) (t : Nat) (p0 : Int32) (p1 : Int32) (s0 : Nat) (s1 : Int32) (H : Heap) (locs : List Loc), wX5_dispute_30 post px G t p0 p1 s0 s1 → gh_h D vwCl AC A G H → va_S A s.heap H locs → ∀ ls : Array Slot, lv_has ls 3 [(0, .ref t), (1, .int p0), (2, .int p1)] → W p l e rmX5_dispute s m args below meth c H locs 0 0 (vx_MQ below (va_Ql post (gh_B D vwCl AC A) A) (gh_X D vwCl AC px A) args s 0 0 A) (F0 m 30 ls [.int s1, .ref s0]) := by
  obtain ⟨⟨hx, hb, hml, hown, hts⟩, hr, hlocks, htb, hK, hE, hA⟩ := id CX
  have hno : ∀ (pc : Nat), ∀ x ∈ c.exceptionTable.toList, covers x pc = false := by rw [htb]; intro _ _ h; cases h
  intro G t p0 p1 s0 s1 H locs hw hP hS ls hl
  dsimp only [wX5_dispute_30] at hw
  obtain ⟨fs1, he2, hk3, hw⟩ := hw
  refine gh_put (ci := 5) (v := .int s1) (ty := .int) (C := "OwnerLedgerModel") (T := TX5) (N := 24) hx hb hts (fun w h => gT_up (inX5 w h)) tyX5 tyX5_ok nmX5 hown hK hP hS he2 rfl 0 (by decide) (hts _ (gT_up kw_372)) (fun _ h9 => h9) rfl (by decide +kernel) rfl rfl hk3 dX5_dispute_30 (fun G4 H locs eG5 hP hS => ?_)
  replace hw := hw G4 eG5
  refine lv_aload_n hx hb dX5_dispute_33 rfl (lv_at hl 0 rfl) ?_
  obtain ⟨fs6, x9, he7, hv8, hw⟩ := hw
  refine gh_get (ci := 5) (v := .int x9) (C := "OwnerLedgerModel") (T := TX5) (N := 24) hx hb hts (fun w h => gT_up (inX5 w h)) hown hK hP he7 rfl 0 (by decide) (hts _ (gT_up kw_372)) (fun _ h9 => h9) hv8 dX5_dispute_34 ?_
  refine lv_if_eq (tgt := 42) hx hb dX5_dispute_37 (by decide) (fun c10 => ?_) (fun c10 => ?_)
  · replace hw := hw.1 c10
    refine lv_aload_n hx hb dX5_dispute_42 rfl (lv_at hl 0 rfl) ?_
    obtain ⟨fs11, x14, he12, hv13, hw⟩ := hw
    refine gh_get (ci := 5) (v := .ref x14) (C := "OwnerLedgerModel") (T := TX5) (N := 24) hx hb hts (fun w h => gT_up (inX5 w h)) hown hK hP he12 rfl 22 (by decide) (hts _ (gT_up kw_394)) (fun _ h9 => h9) hv13 dX5_dispute_43 ?_
    refine lv_iload_n hx hb dX5_dispute_46 rfl (lv_at hl 1 rfl) ?_
    refine lv_iconst (v := 1) hx hb dX5_dispute_47 (by decide) ?_
    refine lv_isub hx hb dX5_dispute_48 ?_
    refine lv_iload_n hx hb dX5_dispute_49 rfl (lv_at hl 2 rfl) ?_
    obtain ⟨n15, f16, he17, hi18, hw⟩ := hw
    refine gh_zast hx hb hK hP hS he17 rfl hi18 dX5_dispute_50 (fun G20 H locs eG19 hP hS => ?_)
    replace hw := hw G20 eG19
    refine lv_aload_n hx hb dX5_dispute_51 rfl (lv_at hl 0 rfl) ?_
    obtain ⟨fs21, x24, he22, hv23, hw⟩ := hw
    refine gh_get (ci := 5) (v := .ref x24) (C := "OwnerLedgerModel") (T := TX5) (N := 24) hx hb hts (fun w h => gT_up (inX5 w h)) hown hK hP he22 rfl 19 (by decide) (hts _ (gT_up kw_391)) (fun _ h9 => h9) hv23 dX5_dispute_52 ?_
    refine lv_iload_n hx hb dX5_dispute_55 rfl (lv_at hl 1 rfl) ?_
    refine lv_iconst (v := 1) hx hb dX5_dispute_56 (by decide) ?_
    refine lv_isub hx hb dX5_dispute_57 ?_
    obtain ⟨n25, f26, he27, hi28, hw⟩ := hw
    refine gh_lald hx hb hK hP he27 rfl hi28 dX5_dispute_58 ?_
    exact gh_lret hx hb hr hlocks hw hP hS (Nat.le_of_ble_eq_true rfl) (Nat.le_of_ble_eq_true rfl) dX5_dispute_59
  · replace hw := hw.2 c10
    refine lv_lconst (v := 0) hx hb dX5_dispute_40 (by decide) ?_
    exact gh_lret hx hb hr hlocks hw hP hS (Nat.le_of_ble_eq_true rfl) (Nat.le_of_ble_eq_true rfl) dX5_dispute_41
def wX5_dispute (post : Int64 → gh_H → Prop) (px : String → gh_H → Prop) (G : gh_H) (t : Nat) (p0 : Int32) (p1 : Int32) : Prop := ∃ fs3 : List Value, G t = some (.inr (5, fs3)) ∧ wX5_noInvoice (fun r1 G2 => (r1 = 0 → (∃ (fs6 : List Value) (x9 : Nat), G2 t = some (.inr (5, fs6)) ∧ fs6[22]? = some (.ref x9) ∧ (∃ (n10 : Nat) (f11 : Nat → Int32), G2 x9 = some (.inl (2, n10, .inl f11)) ∧ vp_in (p0 - 1) n10 ∧ ((¬ (f11 (Int32.toNatClampNeg (p0 - 1))) = p1 → (wX5_dispute_30 post px G2 t p0 p1 t 0)) ∧ ((f11 (Int32.toNatClampNeg (p0 - 1))) = p1 → (wX5_dispute_30 post px G2 t p0 p1 t 2)))))) ∧ (¬ r1 = 0 → (wX5_dispute_30 post px G2 t p0 p1 t 1))) px G t p0
set_option maxRecDepth 100000 in
set_option maxHeartbeats 4000000 in
theorem mX5_dispute (l : Launch) (hl0 : l.stackTraces = false) (D : va_G) (AC : Nat → ClassId) (sa : gh_SA) (t : Nat) (p0 : Int32) (p1 : Int32) (post : Int64 → gh_H → Prop) (px : String → gh_H → Prop) (G : gh_H) (sz : Nat) (hw : wX5_dispute post px G t p0 p1) : vx_Met l yX5_dispute wsX5_dispute rmX5_dispute (gh_Pc D vwCl AC (gh_ty AC) (gh_En sa) G sz [.ref t, .int p0, .int p1]) (va_Ql post (gh_B D vwCl AC (gh_A G sz)) (gh_A G sz)) (gh_X D vwCl AC px (gh_A G sz)) 0 0 (gh_A G sz) := by
  refine vx_ofW (cc := prog_7_method_26_code) (maxL := 3) (ret := (some .long)) (by decide) rfl ?_
  intro p e s m args below meth c s₁ B hml hnoh hv
  obtain ⟨rfl, hsz, hP, hK, hE⟩ := hv
  have hx := B.exec
  have hb := B.bytes
  have hr := B.returns
  have hts := atoms_spec (ws := wsX5_dispute) B.pre
  have hown : s.vm.findClass "OwnerLedgerModel" = some m.cls := findClass_of_methodNamed B.named
  have hlocks := B.notSynchronized
  have htb : c.exceptionTable.toList = [] := List.eq_nil_iff_forall_not_mem.mpr hnoh
  subst hsz
  have hA : ∀ q, s.heap.size ≤ q → gh_A G s.heap.size q := fun q h => Or.inr h
  generalize gh_A G s.heap.size = A at hP hE hA ⊢
  have hno : ∀ (pc : Nat), ∀ x ∈ c.exceptionTable.toList, covers x pc = false := by rw [htb]; intro _ _ h; cases h
  have CX : cxX5_dispute p s m [.ref t, .int p0, .int p1].toArray meth c D AC sa A := ⟨⟨hx, hb, hml, hown, hts⟩, hr, hlocks, htb, hK, hE, hA⟩
  have hS : va_S A s.heap s.heap [] := va_S.rf
  have hl := lv_entry ([.ref t, .int p0, .int p1]) (n := 3) (Nat.le_of_ble_eq_true rfl)
  rw [lg_entry_eq]
  generalize (lg_sl ([.ref t, .int p0, .int p1]) ++ List.replicate (3 - (lg_sl ([.ref t, .int p0, .int p1])).length) Slot.unset).toArray = ls at hl ⊢
  have hl : lv_has ls 3 [(0, .ref t), (1, .int p0), (2, .int p1)] := hl
  dsimp only [wX5_dispute] at hw
  refine lv_aload_n hx hb dX5_dispute_0 rfl (lv_at hl 0 rfl) ?_
  refine lv_aload_n hx hb dX5_dispute_1 rfl (lv_at hl 0 rfl) ?_
  refine lv_iload_n hx hb dX5_dispute_2 rfl (lv_at hl 1 rfl) ?_
  obtain ⟨fs3, he4, hw⟩ := hw
  refine gh_ci hlocks (hno _) (vx_runV (C := "OwnerLedgerModel") (As := [.int p0]) (rest := [.ref t]) ⟨hx, hb, hml, hown, hts⟩ (mX5_noInvoice l hl0 D AC sa _ _ _ _ _ _ hw) (cwV 1 hts (gV kw_480 kw_481 kw_545 kw_2 kw_482) rfl rfl rfl (by decide +kernel) ⟨Nat.le_of_ble_eq_true rfl, Nat.le_of_ble_eq_true rfl⟩) (gh_preV gh_En_ok hK hE hP hS hA he4 rfl _) rfl rfl hl.1 rfl (lv_room (Nat.le_of_ble_eq_true rfl)) dX5_dispute_3 ⟨Nat.le_of_ble_eq_true rfl, Nat.le_of_ble_eq_true rfl⟩) hP hS hA (Nat.le_of_ble_eq_true rfl) (Nat.le_of_ble_eq_true rfl) (fun r1 G2 H locs hw2 hP hS => ?_)
  replace hw := hw2
  clear hw2
  refine lv_if_eq (tgt := 13) hx hb dX5_dispute_6 (by decide) (fun c5 => ?_) (fun c5 => ?_)
  · replace hw := hw.1 c5
    refine lv_aload_n hx hb dX5_dispute_13 rfl (lv_at hl 0 rfl) ?_
    obtain ⟨fs6, x9, he7, hv8, hw⟩ := hw
    refine gh_get (ci := 5) (v := .ref x9) (C := "OwnerLedgerModel") (T := TX5) (N := 24) hx hb hts (fun w h => gT_up (inX5 w h)) hown hK hP he7 rfl 22 (by decide) (hts _ (gT_up kw_394)) (fun _ h9 => h9) hv8 dX5_dispute_14 ?_
    refine lv_iload_n hx hb dX5_dispute_17 rfl (lv_at hl 1 rfl) ?_
    refine lv_iconst (v := 1) hx hb dX5_dispute_18 (by decide) ?_
    refine lv_isub hx hb dX5_dispute_19 ?_
    obtain ⟨n10, f11, he12, hi13, hw⟩ := hw
    refine gh_zald hx hb hK hP he12 rfl hi13 dX5_dispute_20 ?_
    refine lv_iload_n hx hb dX5_dispute_21 rfl (lv_at hl 2 rfl) ?_
    refine lv_icmp_ne (tgt := 29) hx hb dX5_dispute_22 (by decide) (fun c14 => ?_) (fun c14 => ?_)
    · replace hw := hw.1 c14
      refine lv_iconst (v := 0) hx hb dX5_dispute_29 (by decide) ?_
      have hl := lv_sub (l' := [(0, .ref t), (1, .int p0), (2, .int p1)]) hl [0, 1, 2] rfl
      exact lX5_dispute_30 hl0 CX post px _ t p0 p1 t 0 _ _ hw hP hS ls hl
    · replace hw := hw.2 c14
      refine lv_iconst (v := 2) hx hb dX5_dispute_25 (by decide) ?_
      refine lv_goto (tgt := 30) hx hb dX5_dispute_26 (by decide) ?_
      have hl := lv_sub (l' := [(0, .ref t), (1, .int p0), (2, .int p1)]) hl [0, 1, 2] rfl
      exact lX5_dispute_30 hl0 CX post px _ t p0 p1 t 2 _ _ hw hP hS ls hl
  · replace hw := hw.2 c5
    refine lv_iconst (v := 1) hx hb dX5_dispute_9 (by decide) ?_
    refine lv_goto (tgt := 30) hx hb dX5_dispute_10 (by decide) ?_
    have hl := lv_sub (l' := [(0, .ref t), (1, .int p0), (2, .int p1)]) hl [0, 1, 2] rfl
    exact lX5_dispute_30 hl0 CX post px _ t p0 p1 t 1 _ _ hw hP hS ls hl
