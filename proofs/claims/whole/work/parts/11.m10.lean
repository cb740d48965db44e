abbrev rmX5_count : Room := { frames := 0, cells := 0, slots := 0, locals := 0 }
abbrev cxX5_count (p : Program) (s : State) (m : MethodId) (args : Array Value) (meth : Method) (c : Code) (D : va_G) (AC : Nat → ClassId) (sa : gh_SA) (A : Nat → Prop) : Prop := CallFix p m c prog_7_method_34_code 6 s args wsX5_count "OwnerLedgerModel" ∧ meth.sig.returnType = (some .int) ∧ meth.locks = false ∧ c.exceptionTable.toList = [] ∧ va_K D vwCl (gh_ty AC) s ∧ gh_En sa A s s.heap ∧ (∀ q, s.heap.size ≤ q → A q)
def wX5_count_33 (post : Int32 → gh_H → Prop) (px : String → gh_H → Prop) (J9 : gh_H → Nat → Int32 → Int32 → Int32 → Prop) (G : gh_H) (t : Nat) (p0 : Int32) (v3 : Int32) (s0 : Int32) (s1 : Int32) : Prop := J9 G t p0 (s0 + s1) (v3 + 1)
set_option maxRecDepth 100000 in
set_option maxHeartbeats 4000000 in
theorem lX5_count_33 {p : Program} {l : Launch} {e : Env} {s : State} {m : MethodId} {args : Array Value} {below : List Frame} {meth : Method} {c : Code} {D : va_G} {AC : Nat → ClassId} {sa : gh_SA} {A : Nat → Prop} (hl0 : l.stackTraces = false) (CX : cxX5_count p s m args meth c D AC sa A) (post : Int32 → gh_H → Prop) (px : String → gh_H → Prop) (J9 : gh_H → Nat → Int32 → Int32 → Int32 → Prop) (hJ9 : ∀ (G : gh_H) (t : Nat) (p0 : Int32) (v2 : Int32) (v3 : Int32) (H : Heap) (locs : List Loc), J9 G t p0 v2 v3 → gh_h D vwCl AC A G H → va_S A s.heap H locs → ∀ ls : Array Slot, lv_has ls 6 [(0, .ref t), (1, .int p0), (2, .int v2), (3, .int v3)] → W p l e rmX5_count s m args below meth c H locs 0 0 (vx_MQ below (va_Qi post (gh_B D vwCl AC A) A) (gh_X D vwCl AC px A) args s 0 0 A) (F0 m 9 ls [])) : ∀ (G : gh_H) (t : Nat) (p0 : Int32) (v3 : Int32) (s0 : Int32) (s1 : Int32) (H : Heap) (locs : List Loc), wX5_count_33 post px J9 G t p0 v3 s0 s1 → gh_h D vwCl AC A G H → va_S A s.heap H locs → ∀ ls : Array Slot, lv_has ls 6 [(0, .ref t), (1, .int p0), (3, .int v3)] → W p l e rmX5_count s m args below meth c H locs 0 0 (vx_MQ below (va_Qi post (gh_B D vwCl AC A) A) (gh_X D vwCl AC px A) args s 0 0 A) (F0 m 33 ls [.int s1, .int s0]) := by
  obtain ⟨⟨hx, hb, hml, hown, hts⟩, hr, hlocks, htb, hK, hE, hA⟩ := id CX
  have hno : ∀ (pc : Nat), ∀ x ∈ c.exceptionTable.toList, covers x pc = false := by rw [htb]; intro _ _ h; cases h
  intro G t p0 v3 s0 s1 H locs hw hP hS ls hl
  dsimp only [wX5_count_33] at hw
  refine lv_iadd hx hb dX5_count_33 ?_
  refine lv_istore_n (lv' := [(2, .int (s0 + s1)), (0, .ref t), (1, .int p0), (3, .int v3)]) hx hb dX5_count_34 rfl hl (by decide) rfl (fun ls hl => ?_)
  refine lv_iinc (v := (v3 + 1)) (lv' := [(3, .int (v3 + 1)), (2, .int (s0 + s1)), (0, .ref t), (1, .int p0)]) hx hb dX5_count_35 hl (k := 3) rfl rfl (by decide) rfl (fun ls hl => ?_)
  refine lv_goto (tgt := 9) hx hb dX5_count_38 (by decide) ?_
  have hl := lv_sub (l' := [(0, .ref t), (1, .int p0), (2, .int (s0 + s1)), (3, .int (v3 + 1))]) hl [2, 3, 1, 0] rfl
  exact hJ9 _ t p0 (s0 + s1) (v3 + 1) _ _ hw hP hS ls hl
def wX5_count_73 (post : Int32 → gh_H → Prop) (px : String → gh_H → Prop) (J46 : gh_H → Nat → Int32 → Int32 → Int32 → Int32 → Prop) (G : gh_H) (t : Nat) (p0 : Int32) (v2 : Int32) (v4 : Int32) (s0 : Int32) (s1 : Int32) : Prop := J46 G t p0 v2 (s0 + s1) (v4 + 1)
set_option maxRecDepth 100000 in
set_option maxHeartbeats 4000000 in
theorem lX5_count_73 {p : Program} {l : Launch} {e : Env} {s : State} {m : MethodId} {args : Array Value} {below : List Frame} {meth : Method} {c : Code} {D : va_G} {AC : Nat → ClassId} {sa : gh_SA} {A : Nat → Prop} (hl0 : l.stackTraces = false) (CX : cxX5_count p s m args meth c D AC sa A) (post : Int32 → gh_H → Prop) (px : String → gh_H → Prop) (J46 : gh_H → Nat → Int32 → Int32 → Int32 → Int32 → Prop) (hJ46 : ∀ (G : gh_H) (t : Nat) (p0 : Int32) (v2 : Int32) (v3 : Int32) (v4 : Int32) (H : Heap) (locs : List Loc), J46 G t p0 v2 v3 v4 → gh_h D vwCl AC A G H → va_S A s.heap H locs → ∀ ls : Array Slot, lv_has ls 6 [(0, .ref t), (1, .int p0), (2, .int v2), (3, .int v3), (4, .int v4)] → W p l e rmX5_count s m args below meth c H locs 0 0 (vx_MQ below (va_Qi post (gh_B D vwCl AC A) A) (gh_X D vwCl AC px A) args s 0 0 A) (F0 m 46 ls [])) : ∀ (G : gh_H) (t : Nat) (p0 : Int32) (v2 : Int32) (v4 : Int32) (s0 : Int32) (s1 : Int32) (H : Heap) (locs : List Loc), wX5_count_73 post px J46 G t p0 v2 v4 s0 s1 → gh_h D vwCl AC A G H → va_S A s.heap H locs → ∀ ls : Array Slot, lv_has ls 6 [(0, .ref t), (1, .int p0), (2, .int v2), (4, .int v4)] → W p l e rmX5_count s m args below meth c H locs 0 0 (vx_MQ below (va_Qi post (gh_B D vwCl AC A) A) (gh_X D vwCl AC px A) args s 0 0 A) (F0 m 73 ls [.int s1, .int s0]) := by
  obtain ⟨⟨hx, hb, hml, hown, hts⟩, hr, hlocks, htb, hK, hE, hA⟩ := id CX
  have hno : ∀ (pc : Nat), ∀ x ∈ c.exceptionTable.toList, covers x pc = false := by rw [htb]; intro _ _ h; cases h
  intro G t p0 v2 v4 s0 s1 H locs hw hP hS ls hl
  dsimp only [wX5_count_73] at hw
  refine lv_iadd hx hb dX5_count_73 ?_
  refine lv_istore_n (lv' := [(3, .int (s0 + s1)), (0, .ref t), (1, .int p0), (2, .int v2), (4, .int v4)]) hx hb dX5_count_74 rfl hl (by decide) rfl (fun ls hl => ?_)
  refine lv_iinc (v := (v4 + 1)) (lv' := [(4, .int (v4 + 1)), (3, .int (s0 + s1)), (0, .ref t), (1, .int p0), (2, .int v2)]) hx hb dX5_count_75 hl (k := 4) rfl rfl (by decide) rfl (fun ls hl => ?_)
  refine lv_goto (tgt := 46) hx hb dX5_count_78 (by decide) ?_
  have hl := lv_sub (l' := [(0, .ref t), (1, .int p0), (2, .int v2), (3, .int (s0 + s1)), (4, .int (v4 + 1))]) hl [2, 3, 4, 1, 0] rfl
  exact hJ46 _ t p0 v2 (s0 + s1) (v4 + 1) _ _ hw hP hS ls hl
def wX5_count_113 (post : Int32 → gh_H → Prop) (px : String → gh_H → Prop) (J87 : gh_H → Nat → Int32 → Int32 → Int32 → Int32 → Int32 → Prop) (G : gh_H) (t : Nat) (p0 : Int32) (v2 : Int32) (v3 : Int32) (v5 : Int32) (s0 : Int32) (s1 : Int32) : Prop := J87 G t p0 v2 v3 (s0 + s1) (v5 + 1)
set_option maxRecDepth 100000 in
set_option maxHeartbeats 4000000 in
theorem lX5_count_113 {p : Program} {l : Launch} {e : Env} {s : State} {m : MethodId} {args : Array Value} {below : List Frame} {meth : Method} {c : Code} {D : va_G} {AC : Nat → ClassId} {sa : gh_SA} {A : Nat → Prop} (hl0 : l.stackTraces = false) (CX : cxX5_count p s m args meth c D AC sa A) (post : Int32 → gh_H → Prop) (px : String → gh_H → Prop) (J87 : gh_H → Nat → Int32 → Int32 → Int32 → Int32 → Int32 → Prop) (hJ87 : ∀ (G : gh_H) (t : Nat) (p0 : Int32) (v2 : Int32) (v3 : Int32) (v4 : Int32) (v5 : Int32) (H : Heap) (locs : List Loc), J87 G t p0 v2 v3 v4 v5 → gh_h D vwCl AC A G H → va_S A s.heap H locs → ∀ ls : Array Slot, lv_has ls 6 [(0, .ref t), (1, .int p0), (2, .int v2), (3, .int v3), (4, .int v4), (5, .int v5)] → W p l e rmX5_count s m args below meth c H locs 0 0 (vx_MQ below (va_Qi post (gh_B D vwCl AC A) A) (gh_X D vwCl AC px A) args s 0 0 A) (F0 m 87 ls [])) : ∀ (G : gh_H) (t : Nat) (p0 : Int32) (v2 : Int32) (v3 : Int32) (v5 : Int32) (s0 : Int32) (s1 : Int32) (H : Heap) (locs : List Loc), wX5_count_113 post px J87 G t p0 v2 v3 v5 s0 s1 → gh_h D vwCl AC A G H → va_S A s.heap H locs → ∀ ls : Array Slot, lv_has ls 6 [(0, .ref t), (1, .int p0), (2, .int v2), (3, .int v3), (5, .int v5)] → W p l e rmX5_count s m args below meth c H locs 0 0 (vx_MQ below (va_Qi post (gh_B D vwCl AC A) A) (gh_X D vwCl AC px A) args s 0 0 A) (F0 m 113 ls [.int s1, .int s0]) := by
  obtain ⟨⟨hx, hb, hml, hown, hts⟩, hr, hlocks, htb, hK, hE, hA⟩ := id CX
  have hno : ∀ (pc : Nat), ∀ x ∈ c.exceptionTable.toList, covers x pc = false := by rw [htb]; intro _ _ h; cases h
  intro G t p0 v2 v3 v5 s0 s1 H locs hw hP hS ls hl
  dsimp only [wX5_count_113] at hw
  refine lv_iadd hx hb dX5_count_113 ?_
  refine lv_istore (lv' := [(4, .int (s0 + s1)), (0, .ref t), (1, .int p0), (2, .int v2), (3, .int v3), (5, .int v5)]) hx hb dX5_count_114 hl (by decide) rfl (fun ls hl => ?_)
  refine lv_iinc (v := (v5 + 1)) (lv' := [(5, .int (v5 + 1)), (4, .int (s0 + s1)), (0, .ref t), (1, .int p0), (2, .int v2), (3, .int v3)]) hx hb dX5_count_116 hl (k := 5) rfl rfl (by decide) rfl (fun ls hl => ?_)
  refine lv_goto (tgt := 87) hx hb dX5_count_119 (by decide) ?_
  have hl := lv_sub (l' := [(0, .ref t), (1, .int p0), (2, .int v2), (3, .int v3), (4, .int (s0 + s1)), (5, .int (v5 + 1))]) hl [2, 3, 4, 5, 1, 0] rfl
  exact hJ87 _ t p0 v2 v3 (s0 + s1) (v5 + 1) _ _ hw hP hS ls hl
def wX5_count_87 (post : Int32 → gh_H → Prop) (px : String → gh_H → Prop) : Nat → gh_H → Nat → Int32 → Int32 → Int32 → Int32 → Int32 → Prop
  | 0 => fun _ _ _ _ _ _ _ => False
  | n + 1 => fun G t p0 v2 v3 v4 v5 => ∃ (fs1 : List Value) (x4 : Int32), G t = some (.inr (5, fs1)) ∧ fs1[3]? = some (.int x4) ∧ ((x4 ≤ v5 → ((p0 = 0 → (∃ (fs7 : List Value) (x10 : Int32), G t = some (.inr (5, fs7)) ∧ fs7[3]? = some (.int x10) ∧ (post x10 G))) ∧ (p0 = 1 → (∃ (fs12 : List Value) (x15 : Int32), G t = some (.inr (5, fs12)) ∧ fs12[6]? = some (.int x15) ∧ (post x15 G))) ∧ (p0 = 2 → (∃ (fs17 : List Value) (x20 : Int32), G t = some (.inr (5, fs17)) ∧ fs17[8]? = some (.int x20) ∧ (post x20 G))) ∧ (p0 = 3 → (post v2 G)) ∧ (p0 = 4 → (∃ (fs23 : List Value) (x26 : Int32), G t = some (.inr (5, fs23)) ∧ fs23[17]? = some (.int x26) ∧ (post x26 G))) ∧ (p0 = 5 → (post v3 G)) ∧ (p0 = 6 → (∃ (fs29 : List Value) (x32 : Int32), G t = some (.inr (5, fs29)) ∧ fs29[1]? = some (.int x32) ∧ (post x32 G))) ∧ (p0 = 7 → (∃ (fs34 : List Value) (x37 : Int32), G t = some (.inr (5, fs34)) ∧ fs34[2]? = some (.int x37) ∧ (post x37 G))) ∧ (p0 = 8 → (post v4 G)) ∧ (¬ p0 = 0 → ¬ p0 = 1 → ¬ p0 = 2 → ¬ p0 = 3 → ¬ p0 = 4 → ¬ p0 = 5 → ¬ p0 = 6 → ¬ p0 = 7 → ¬ p0 = 8 → (post (-1) G)))) ∧ (¬ x4 ≤ v5 → (∃ (fs39 : List Value) (x42 : Nat), G t = some (.inr (5, fs39)) ∧ fs39[4]? = some (.ref x42) ∧ (∃ (n43 : Nat) (f44 : Nat → Int32), G x42 = some (.inl (2, n43, .inl f44)) ∧ vp_in v5 n43 ∧ (((f44 (Int32.toNatClampNeg v5)) = 0 → (wX5_count_113 post px (wX5_count_87 post px n) G t p0 v2 v3 v5 v4 0)) ∧ (¬ (f44 (Int32.toNatClampNeg v5)) = 0 → (wX5_count_113 post px (wX5_count_87 post px n) G t p0 v2 v3 v5 v4 1)))))))
set_option maxRecDepth 100000 in
set_option maxHeartbeats 4000000 in
theorem lX5_count_87 {p : Program} {l : Launch} {e : Env} {s : State} {m : MethodId} {args : Array Value} {below : List Frame} {meth : Method} {c : Code} {D : va_G} {AC : Nat → ClassId} {sa : gh_SA} {A : Nat → Prop} (hl0 : l.stackTraces = false) (CX : cxX5_count p s m args meth c D AC sa A) (post : Int32 → gh_H → Prop) (px : String → gh_H → Prop) : ∀ n : Nat, ∀ (G : gh_H) (t : Nat) (p0 : Int32) (v2 : Int32) (v3 : Int32) (v4 : Int32) (v5 : Int32) (H : Heap) (locs : List Loc), wX5_count_87 post px n G t p0 v2 v3 v4 v5 → gh_h D vwCl AC A G H → va_S A s.heap H locs → ∀ ls : Array Slot, lv_has ls 6 [(0, .ref t), (1, .int p0), (2, .int v2), (3, .int v3), (4, .int v4), (5, .int v5)] → W p l e rmX5_count s m args below meth c H locs 0 0 (vx_MQ below (va_Qi post (gh_B D vwCl AC A) A) (gh_X D vwCl AC px A) args s 0 0 A) (F0 m 87 ls []) := by
  obtain ⟨⟨hx, hb, hml, hown, hts⟩, hr, hlocks, htb, hK, hE, hA⟩ := id CX
  have hno : ∀ (pc : Nat), ∀ x ∈ c.exceptionTable.toList, covers x pc = false := by rw [htb]; intro _ _ h; cases h
  intro n
  induction n with
  | zero =>
    intro G t p0 v2 v3 v4 v5 H locs hw
    exact False.elim hw
  | succ n ih =>
    intro G t p0 v2 v3 v4 v5 H locs hw hP hS ls hl
    dsimp only [wX5_count_87] at hw
    refine lv_iload hx hb dX5_count_87 (lv_at hl 5 rfl) ?_
    refine lv_aload_n hx hb dX5_count_89 rfl (lv_at hl 0 rfl) ?_
    obtain ⟨fs1, x4, he2, hv3, hw⟩ := hw
    refine gh_get (ci := 5) (v := .int x4) (C := "OwnerLedgerModel") (T := TX5) (N := 24) hx hb hts (fun w h => gT_up (inX5 w h)) hown hK hP he2 rfl 3 (by decide) (hts _ (gT_up kw_375)) (fun _ h9 => h9) hv3 dX5_count_90 ?_
    refine lv_icmp_ge (tgt := 122) hx hb dX5_count_93 (by decide) (fun c5 => ?_) (fun c5 => ?_)
    · replace hw := hw.1 c5
      refine lv_iload_n hx hb dX5_count_122 rfl (lv_at hl 1 rfl) ?_
      by_cases c6 : p0 = 0
      · replace hw := hw.1 c6
        refine lv_tableIn (tgt := 172) hx hb dX5_count_123 (by rw [c6]; decide) (by rw [c6]; decide) (by rw [c6]; rfl) (by decide) ?_
        refine lv_aload_n hx hb dX5_count_172 rfl (lv_at hl 0 rfl) ?_
        obtain ⟨fs7, x10, he8, hv9, hw⟩ := hw
        refine gh_get (ci := 5) (v := .int x10) (C := "OwnerLedgerModel") (T := TX5) (N := 24) hx hb hts (fun w h => gT_up (inX5 w h)) hown hK hP he8 rfl 3 (by decide) (hts _ (gT_up kw_375)) (fun _ h9 => h9) hv9 dX5_count_173 ?_
        exact gh_iret hx hb hr hlocks hw hP hS (Nat.le_of_ble_eq_true rfl) (Nat.le_of_ble_eq_true rfl) dX5_count_176
      by_cases c11 : p0 = 1
      · replace hw := hw.2.1 c11
        refine lv_tableIn (tgt := 177) hx hb dX5_count_123 (by rw [c11]; decide) (by rw [c11]; decide) (by rw [c11]; rfl) (by decide) ?_
        refine lv_aload_n hx hb dX5_count_177 rfl (lv_at hl 0 rfl) ?_
        obtain ⟨fs12, x15, he13, hv14, hw⟩ := hw
        refine gh_get (ci := 5) (v := .int x15) (C := "OwnerLedgerModel") (T := TX5) (N := 24) hx hb hts (fun w h => gT_up (inX5 w h)) hown hK hP he13 rfl 6 (by decide) (hts _ (gT_up kw_378)) (fun _ h9 => h9) hv14 dX5_count_178 ?_
        exact gh_iret hx hb hr hlocks hw hP hS (Nat.le_of_ble_eq_true rfl) (Nat.le_of_ble_eq_true rfl) dX5_count_181
      by_cases c16 : p0 = 2
      · replace hw := hw.2.2.1 c16
        refine lv_tableIn (tgt := 182) hx hb dX5_count_123 (by rw [c16]; decide) (by rw [c16]; decide) (by rw [c16]; rfl) (by decide) ?_
        refine lv_aload_n hx hb dX5_count_182 rfl (lv_at hl 0 rfl) ?_
        obtain ⟨fs17, x20, he18, hv19, hw⟩ := hw
        refine gh_get (ci := 5) (v := .int x20) (C := "OwnerLedgerModel") (T := TX5) (N := 24) hx hb hts (fun w h => gT_up (inX5 w h)) hown hK hP he18 rfl 8 (by decide) (hts _ (gT_up kw_380)) (fun _ h9 => h9) hv19 dX5_count_183 ?_
        exact gh_iret hx hb hr hlocks hw hP hS (Nat.le_of_ble_eq_true rfl) (Nat.le_of_ble_eq_true rfl) dX5_count_186
      by_cases c21 : p0 = 3
      · replace hw := hw.2.2.2.1 c21
        refine lv_tableIn (tgt := 187) hx hb dX5_count_123 (by rw [c21]; decide) (by rw [c21]; decide) (by rw [c21]; rfl) (by decide) ?_
        refine lv_iload_n hx hb dX5_count_187 rfl (lv_at hl 2 rfl) ?_
        exact gh_iret hx hb hr hlocks hw hP hS (Nat.le_of_ble_eq_true rfl) (Nat.le_of_ble_eq_true rfl) dX5_count_188
      by_cases c22 : p0 = 4
      · replace hw := hw.2.2.2.2.1 c22
        refine lv_tableIn (tgt := 189) hx hb dX5_count_123 (by rw [c22]; decide) (by rw [c22]; decide) (by rw [c22]; rfl) (by decide) ?_
        refine lv_aload_n hx hb dX5_count_189 rfl (lv_at hl 0 rfl) ?_
        obtain ⟨fs23, x26, he24, hv25, hw⟩ := hw
        refine gh_get (ci := 5) (v := .int x26) (C := "OwnerLedgerModel") (T := TX5) (N := 24) hx hb hts (fun w h => gT_up (inX5 w h)) hown hK hP he24 rfl 17 (by decide) (hts _ (gT_up kw_389)) (fun _ h9 => h9) hv25 dX5_count_190 ?_
        exact gh_iret hx hb hr hlocks hw hP hS (Nat.le_of_ble_eq_true rfl) (Nat.le_of_ble_eq_true rfl) dX5_count_193
      by_cases c27 : p0 = 5
      · replace hw := hw.2.2.2.2.2.1 c27
        refine lv_tableIn (tgt := 194) hx hb dX5_count_123 (by rw [c27]; decide) (by rw [c27]; decide) (by rw [c27]; rfl) (by decide) ?_
        refine lv_iload_n hx hb dX5_count_194 rfl (lv_at hl 3 rfl) ?_
        exact gh_iret hx hb hr hlocks hw hP hS (Nat.le_of_ble_eq_true rfl) (Nat.le_of_ble_eq_true rfl) dX5_count_195
      by_cases c28 : p0 = 6
      · replace hw := hw.2.2.2.2.2.2.1 c28
        refine lv_tableIn (tgt := 196) hx hb dX5_count_123 (by rw [c28]; decide) (by rw [c28]; decide) (by rw [c28]; rfl) (by decide) ?_
        refine lv_aload_n hx hb dX5_count_196 rfl (lv_at hl 0 rfl) ?_
        obtain ⟨fs29, x32, he30, hv31, hw⟩ := hw
        refine gh_get (ci := 5) (v := .int x32) (C := "OwnerLedgerModel") (T := TX5) (N := 24) hx hb hts (fun w h => gT_up (inX5 w h)) hown hK hP he30 rfl 1 (by decide) (hts _ (gT_up kw_373)) (fun _ h9 => h9) hv31 dX5_count_197 ?_
        exact gh_iret hx hb hr hlocks hw hP hS (Nat.le_of_ble_eq_true rfl) (Nat.le_of_ble_eq_true rfl) dX5_count_200
      by_cases c33 : p0 = 7
      · replace hw := hw.2.2.2.2.2.2.2.1 c33
        refine lv_tableIn (tgt := 201) hx hb dX5_count_123 (by rw [c33]; decide) (by rw [c33]; decide) (by rw [c33]; rfl) (by decide) ?_
        refine lv_aload_n hx hb dX5_count_201 rfl (lv_at hl 0 rfl) ?_
        obtain ⟨fs34, x37, he35, hv36, hw⟩ := hw
        refine gh_get (ci := 5) (v := .int x37) (C := "OwnerLedgerModel") (T := TX5) (N := 24) hx hb hts (fun w h => gT_up (inX5 w h)) hown hK hP he35 rfl 2 (by decide) (hts _ (gT_up kw_374)) (fun _ h9 => h9) hv36 dX5_count_202 ?_
        exact gh_iret hx hb hr hlocks hw hP hS (Nat.le_of_ble_eq_true rfl) (Nat.le_of_ble_eq_true rfl) dX5_count_205
      by_cases c38 : p0 = 8
      · replace hw := hw.2.2.2.2.2.2.2.2.1 c38
        refine lv_tableIn (tgt := 206) hx hb dX5_count_123 (by rw [c38]; decide) (by rw [c38]; decide) (by rw [c38]; rfl) (by decide) ?_
        refine lv_iload hx hb dX5_count_206 (lv_at hl 4 rfl) ?_
        exact gh_iret hx hb hr hlocks hw hP hS (Nat.le_of_ble_eq_true rfl) (Nat.le_of_ble_eq_true rfl) dX5_count_208
      replace hw := hw.2.2.2.2.2.2.2.2.2 c6 c11 c16 c21 c22 c27 c28 c33 c38
      refine lv_tableOut (tgt := 209) hx hb dX5_count_123 (by have h0 := lv_neT (a := 0) c6 (by decide); have h1 := lv_neT (a := 1) c11 (by decide); have h2 := lv_neT (a := 2) c16 (by decide); have h3 := lv_neT (a := 3) c21 (by decide); have h4 := lv_neT (a := 4) c22 (by decide); have h5 := lv_neT (a := 5) c27 (by decide); have h6 := lv_neT (a := 6) c28 (by decide); have h7 := lv_neT (a := 7) c33 (by decide); have h8 := lv_neT (a := 8) c38 (by decide); omega) (by decide) ?_
      refine lv_iconst (v := (-1)) hx hb dX5_count_209 (by decide) ?_
      exact gh_iret hx hb hr hlocks hw hP hS (Nat.le_of_ble_eq_true rfl) (Nat.le_of_ble_eq_true rfl) dX5_count_210
    · replace hw := hw.2 c5
      refine lv_iload hx hb dX5_count_96 (lv_at hl 4 rfl) ?_
      refine lv_aload_n hx hb dX5_count_98 rfl (lv_at hl 0 rfl) ?_
      obtain ⟨fs39, x42, he40, hv41, hw⟩ := hw
      refine gh_get (ci := 5) (v := .ref x42) (C := "OwnerLedgerModel") (T := TX5) (N := 24) hx hb hts (fun w h => gT_up (inX5 w h)) hown hK hP he40 rfl 4 (by decide) (hts _ (gT_up kw_376)) (fun _ h9 => h9) hv41 dX5_count_99 ?_
      refine lv_iload hx hb dX5_count_102 (lv_at hl 5 rfl) ?_
      obtain ⟨n43, f44, he45, hi46, hw⟩ := hw
      refine gh_zald hx hb hK hP he45 rfl hi46 dX5_count_104 ?_
      refine lv_if_eq (tgt := 112) hx hb dX5_count_105 (by decide) (fun c47 => ?_) (fun c47 => ?_)
      · replace hw := hw.1 c47
        refine lv_iconst (v := 0) hx hb dX5_count_112 (by decide) ?_
        have hl := lv_sub (l' := [(0, .ref t), (1, .int p0), (2, .int v2), (3, .int v3), (5, .int v5)]) hl [0, 1, 2, 3, 5] rfl
        exact lX5_count_113 hl0 CX post px (wX5_count_87 post px n) (fun G9 t9 p09 v29 v39 v49 v59 H9 locs9 hw9 hP9 hS9 ls9 hl9 => ih G9 t9 p09 v29 v39 v49 v59 H9 locs9 hw9 hP9 hS9 ls9 hl9) _ t p0 v2 v3 v5 v4 0 _ _ hw hP hS ls hl
      · replace hw := hw.2 c47
        refine lv_iconst (v := 1) hx hb dX5_count_108 (by decide) ?_
        refine lv_goto (tgt := 113) hx hb dX5_count_109 (by decide) ?_
        have hl := lv_sub (l' := [(0, .ref t), (1, .int p0), (2, .int v2), (3, .int v3), (5, .int v5)]) hl [0, 1, 2, 3, 5] rfl
        exact lX5_count_113 hl0 CX post px (wX5_count_87 post px n) (fun G9 t9 p09 v29 v39 v49 v59 H9 locs9 hw9 hP9 hS9 ls9 hl9 => ih G9 t9 p09 v29 v39 v49 v59 H9 locs9 hw9 hP9 hS9 ls9 hl9) _ t p0 v2 v3 v5 v4 1 _ _ hw hP hS ls hl
def wX5_count_46 (post : Int32 → gh_H → Prop) (px : String → gh_H → Prop) : Nat → gh_H → Nat → Int32 → Int32 → Int32 → Int32 → Prop
  | 0 => fun _ _ _ _ _ _ => False
  | n + 1 => fun G t p0 v2 v3 v4 => ∃ (fs1 : List Value) (x4 : Int32), G t = some (.inr (5, fs1)) ∧ fs1[17]? = some (.int x4) ∧ ((x4 ≤ v4 → (wX5_count_87 post px 300 G t p0 v2 v3 0 0)) ∧ (¬ x4 ≤ v4 → (∃ (fs6 : List Value) (x9 : Nat), G t = some (.inr (5, fs6)) ∧ fs6[19]? = some (.ref x9) ∧ (∃ (n10 : Nat) (f11 : Nat → Int64), G x9 = some (.inl (1, n10, .inr (.inl f11))) ∧ vp_in v4 n10 ∧ (((lg_cmp (f11 (Int32.toNatClampNeg v4)) 0) ≤ 0 → (wX5_count_73 post px (wX5_count_46 post px n) G t p0 v2 v4 v3 0)) ∧ (¬ (lg_cmp (f11 (Int32.toNatClampNeg v4)) 0) ≤ 0 → (wX5_count_73 post px (wX5_count_46 post px n) G t p0 v2 v4 v3 1)))))))
set_option maxRecDepth 100000 in
set_option maxHeartbeats 4000000 in
theorem lX5_count_46 {p : Program} {l : Launch} {e : Env} {s : State} {m : MethodId} {args : Array Value} {below : List Frame} {meth : Method} {c : Code} {D : va_G} {AC : Nat → ClassId} {sa : gh_SA} {A : Nat → Prop} (hl0 : l.stackTraces = false) (CX : cxX5_count p s m args meth c D AC sa A) (post : Int32 → gh_H → Prop) (px : String → gh_H → Prop) : ∀ n : Nat, ∀ (G : gh_H) (t : Nat) (p0 : Int32) (v2 : Int32) (v3 : Int32) (v4 : Int32) (H : Heap) (locs : List Loc), wX5_count_46 post px n G t p0 v2 v3 v4 → gh_h D vwCl AC A G H → va_S A s.heap H locs → ∀ ls : Array Slot, lv_has ls 6 [(0, .ref t), (1, .int p0), (2, .int v2), (3, .int v3), (4, .int v4)] → W p l e rmX5_count s m args below meth c H locs 0 0 (vx_MQ below (va_Qi post (gh_B D vwCl AC A) A) (gh_X D vwCl AC px A) args s 0 0 A) (F0 m 46 ls []) := by
  obtain ⟨⟨hx, hb, hml, hown, hts⟩, hr, hlocks, htb, hK, hE, hA⟩ := id CX
  have hno : ∀ (pc : Nat), ∀ x ∈ c.exceptionTable.toList, covers x pc = false := by rw [htb]; intro _ _ h; cases h
  intro n
  induction n with
  | zero =>
    intro G t p0 v2 v3 v4 H locs hw
    exact False.elim hw
  | succ n ih =>
    intro G t p0 v2 v3 v4 H locs hw hP hS ls hl
    dsimp only [wX5_count_46] at hw
    refine lv_iload hx hb dX5_count_46 (lv_at hl 4 rfl) ?_
    refine lv_aload_n hx hb dX5_count_48 rfl (lv_at hl 0 rfl) ?_
    obtain ⟨fs1, x4, he2, hv3, hw⟩ := hw
    refine gh_get (ci := 5) (v := .int x4) (C := "OwnerLedgerModel") (T := TX5) (N := 24) hx hb hts (fun w h => gT_up (inX5 w h)) hown hK hP he2 rfl 17 (by decide) (hts _ (gT_up kw_389)) (fun _ h9 => h9) hv3 dX5_count_49 ?_
    refine lv_icmp_ge (tgt := 81) hx hb dX5_count_52 (by decide) (fun c5 => ?_) (fun c5 => ?_)
    · replace hw := hw.1 c5
      refine lv_iconst (v := 0) hx hb dX5_count_81 (by decide) ?_
      refine lv_istore (lv' := [(4, .int 0), (0, .ref t), (1, .int p0), (2, .int v2), (3, .int v3)]) hx hb dX5_count_82 hl (by decide) rfl (fun ls hl => ?_)
      refine lv_iconst (v := 0) hx hb dX5_count_84 (by decide) ?_
      refine lv_istore (lv' := [(5, .int 0), (4, .int 0), (0, .ref t), (1, .int p0), (2, .int v2), (3, .int v3)]) hx hb dX5_count_85 hl (by decide) rfl (fun ls hl => ?_)
      have hl := lv_sub (l' := [(0, .ref t), (1, .int p0), (2, .int v2), (3, .int v3), (4, .int 0), (5, .int 0)]) hl [2, 3, 4, 5, 1, 0] rfl
      exact lX5_count_87 hl0 CX post px _ _ t p0 v2 v3 0 0 _ _ hw hP hS ls hl
    · replace hw := hw.2 c5
      refine lv_iload_n hx hb dX5_count_55 rfl (lv_at hl 3 rfl) ?_
      refine lv_aload_n hx hb dX5_count_56 rfl (lv_at hl 0 rfl) ?_
      obtain ⟨fs6, x9, he7, hv8, hw⟩ := hw
      refine gh_get (ci := 5) (v := .ref x9) (C := "OwnerLedgerModel") (T := TX5) (N := 24) hx hb hts (fun w h => gT_up (inX5 w h)) hown hK hP he7 rfl 19 (by decide) (hts _ (gT_up kw_391)) (fun _ h9 => h9) hv8 dX5_count_57 ?_
      refine lv_iload hx hb dX5_count_60 (lv_at hl 4 rfl) ?_
      obtain ⟨n10, f11, he12, hi13, hw⟩ := hw
      refine gh_lald hx hb hK hP he12 rfl hi13 dX5_count_62 ?_
      refine lv_lconst (v := 0) hx hb dX5_count_63 (by decide) ?_
      refine W.lcmp hx hb dX5_count_64 ?_
      refine lv_if_le (tgt := 72) hx hb dX5_count_65 (by decide) (fun c14 => ?_) (fun c14 => ?_)
      · replace hw := hw.1 c14
        refine lv_iconst (v := 0) hx hb dX5_count_72 (by decide) ?_
        have hl := lv_sub (l' := [(0, .ref t), (1, .int p0), (2, .int v2), (4, .int v4)]) hl [0, 1, 2, 4] rfl
        exact lX5_count_73 hl0 CX post px (wX5_count_46 post px n) (fun G9 t9 p09 v29 v39 v49 H9 locs9 hw9 hP9 hS9 ls9 hl9 => ih G9 t9 p09 v29 v39 v49 H9 locs9 hw9 hP9 hS9 ls9 hl9) _ t p0 v2 v4 v3 0 _ _ hw hP hS ls hl
      · replace hw := hw.2 c14
        refine lv_iconst (v := 1) hx hb dX5_count_68 (by decide) ?_
        refine lv_goto (tgt := 73) hx hb dX5_count_69 (by decide) ?_
        have hl := lv_sub (l' := [(0, .ref t), (1, .int p0), (2, .int v2), (4, .int v4)]) hl [0, 1, 2, 4] rfl
        exact lX5_count_73 hl0 CX post px (wX5_count_46 post px n) (fun G9 t9 p09 v29 v39 v49 H9 locs9 hw9 hP9 hS9 ls9 hl9 => ih G9 t9 p09 v29 v39 v49 H9 locs9 hw9 hP9 hS9 ls9 hl9) _ t p0 v2 v4 v3 1 _ _ hw hP hS ls hl
def wX5_count_9 (post : Int32 → gh_H → Prop) (px : String → gh_H → Prop) : Nat → gh_H → Nat → Int32 → Int32 → Int32 → Prop
  | 0 => fun _ _ _ _ _ => False
  | n + 1 => fun G t p0 v2 v3 => ∃ (fs1 : List Value) (x4 : Int32), G t = some (.inr (5, fs1)) ∧ fs1[8]? = some (.int x4) ∧ ((x4 ≤ v3 → (wX5_count_46 post px 300 G t p0 v2 0 0)) ∧ (¬ x4 ≤ v3 → (∃ (fs6 : List Value) (x9 : Nat), G t = some (.inr (5, fs6)) ∧ fs6[9]? = some (.ref x9) ∧ (∃ (n10 : Nat) (f11 : Nat → Int32), G x9 = some (.inl (0, n10, .inl f11)) ∧ vp_in v3 n10 ∧ ((¬ (f11 (Int32.toNatClampNeg v3)) = 1 → (wX5_count_33 post px (wX5_count_9 post px n) G t p0 v3 v2 0)) ∧ ((f11 (Int32.toNatClampNeg v3)) = 1 → (wX5_count_33 post px (wX5_count_9 post px n) G t p0 v3 v2 1)))))))
set_option maxRecDepth 100000 in
set_option maxHeartbeats 4000000 in
theorem lX5_count_9 {p : Program} {l : Launch} {e : Env} {s : State} {m : MethodId} {args : Array Value} {below : List Frame} {meth : Method} {c : Code} {D : va_G} {AC : Nat → ClassId} {sa : gh_SA} {A : Nat → Prop} (hl0 : l.stackTraces = false) (CX : cxX5_count p s m args meth c D AC sa A) (post : Int32 → gh_H → Prop) (px : String → gh_H → Prop) : ∀ n : Nat, ∀ (G : gh_H) (t : Nat) (p0 : Int32) (v2 : Int32) (v3 : Int32) (H : Heap) (locs : List Loc), wX5_count_9 post px n G t p0 v2 v3 → gh_h D vwCl AC A G H → va_S A s.heap H locs → ∀ ls : Array Slot, lv_has ls 6 [(0, .ref t), (1, .int p0), (2, .int v2), (3, .int v3)] → W p l e rmX5_count s m args below meth c H locs 0 0 (vx_MQ below (va_Qi post (gh_B D vwCl AC A) A) (gh_X D vwCl AC px A) args s 0 0 A) (F0 m 9 ls []) := by
  obtain ⟨⟨hx, hb, hml, hown, hts⟩, hr, hlocks, htb, hK, hE, hA⟩ := id CX
  have hno : ∀ (pc : Nat), ∀ x ∈ c.exceptionTable.toList, covers x pc = false := by rw [htb]; intro _ _ h; cases h
  intro n
  induction n with
  | zero =>
    intro G t p0 v2 v3 H locs hw
    exact False.elim hw
  | succ n ih =>
    intro G t p0 v2 v3 H locs hw hP hS ls hl
    dsimp only [wX5_count_9] at hw
    refine lv_iload_n hx hb dX5_count_9 rfl (lv_at hl 3 rfl) ?_
    refine lv_aload_n hx hb dX5_count_10 rfl (lv_at hl 0 rfl) ?_
    obtain ⟨fs1, x4, he2, hv3, hw⟩ := hw
    refine gh_get (ci := 5) (v := .int x4) (C := "OwnerLedgerModel") (T := TX5) (N := 24) hx hb hts (fun w h => gT_up (inX5 w h)) hown hK hP he2 rfl 8 (by decide) (hts _ (gT_up kw_380)) (fun _ h9 => h9) hv3 dX5_count_11 ?_
    refine lv_icmp_ge (tgt := 41) hx hb dX5_count_14 (by decide) (fun c5 => ?_) (fun c5 => ?_)
    · replace hw := hw.1 c5
      refine lv_iconst (v := 0) hx hb dX5_count_41 (by decide) ?_
      refine lv_istore_n (lv' := [(3, .int 0), (0, .ref t), (1, .int p0), (2, .int v2)]) hx hb dX5_count_42 rfl hl (by decide) rfl (fun ls hl => ?_)
      refine lv_iconst (v := 0) hx hb dX5_count_43 (by decide) ?_
      refine lv_istore (lv' := [(4, .int 0), (3, .int 0), (0, .ref t), (1, .int p0), (2, .int v2)]) hx hb dX5_count_44 hl (by decide) rfl (fun ls hl => ?_)
      have hl := lv_sub (l' := [(0, .ref t), (1, .int p0), (2, .int v2), (3, .int 0), (4, .int 0)]) hl [2, 3, 4, 1, 0] rfl
      exact lX5_count_46 hl0 CX post px _ _ t p0 v2 0 0 _ _ hw hP hS ls hl
    · replace hw := hw.2 c5
      refine lv_iload_n hx hb dX5_count_17 rfl (lv_at hl 2 rfl) ?_
      refine lv_aload_n hx hb dX5_count_18 rfl (lv_at hl 0 rfl) ?_
      obtain ⟨fs6, x9, he7, hv8, hw⟩ := hw
      refine gh_get (ci := 5) (v := .ref x9) (C := "OwnerLedgerModel") (T := TX5) (N := 24) hx hb hts (fun w h => gT_up (inX5 w h)) hown hK hP he7 rfl 9 (by decide) (hts _ (gT_up kw_381)) (fun _ h9 => h9) hv8 dX5_count_19 ?_
      refine lv_iload_n hx hb dX5_count_22 rfl (lv_at hl 3 rfl) ?_
      obtain ⟨n10, f11, he12, hi13, hw⟩ := hw
      refine gh_iald hx hb hK hP he12 rfl hi13 dX5_count_23 ?_
      refine lv_iconst (v := 1) hx hb dX5_count_24 (by decide) ?_
      refine lv_icmp_ne (tgt := 32) hx hb dX5_count_25 (by decide) (fun c14 => ?_) (fun c14 => ?_)
      · replace hw := hw.1 c14
        refine lv_iconst (v := 0) hx hb dX5_count_32 (by decide) ?_
        have hl := lv_sub (l' := [(0, .ref t), (1, .int p0), (3, .int v3)]) hl [0, 1, 3] rfl
        exact lX5_count_33 hl0 CX post px (wX5_count_9 post px n) (fun G9 t9 p09 v29 v39 H9 locs9 hw9 hP9 hS9 ls9 hl9 => ih G9 t9 p09 v29 v39 H9 locs9 hw9 hP9 hS9 ls9 hl9) _ t p0 v3 v2 0 _ _ hw hP hS ls hl
      · replace hw := hw.2 c14
        refine lv_iconst (v := 1) hx hb dX5_count_28 (by decide) ?_
        refine lv_goto (tgt := 33) hx hb dX5_count_29 (by decide) ?_
        have hl := lv_sub (l' := [(0, .ref t), (1, .int p0), (3, .int v3)]) hl [0, 1, 3] rfl
        exact lX5_count_33 hl0 CX post px (wX5_count_9 post px n) (fun G9 t9 p09 v29 v39 H9 locs9 hw9 hP9 hS9 ls9 hl9 => ih G9 t9 p09 v29 v39 H9 locs9 hw9 hP9 hS9 ls9 hl9) _ t p0 v3 v2 1 _ _ hw hP hS ls hl
def wX5_count (post : Int32 → gh_H → Prop) (px : String → gh_H → Prop) (G : gh_H) (t : Nat) (p0 : Int32) : Prop := ∃ fs1 : List Value, G t = some (.inr (5, fs1)) ∧ 0 < fs1.length ∧ (∀ G4 : gh_H, G4 = gh_up G t (.inr (5, fs1.set 0 (.int 0))) → wX5_count_9 post px 300 G4 t p0 0 0)
set_option maxRecDepth 100000 in
set_option maxHeartbeats 4000000 in
theorem mX5_count (l : Launch) (hl0 : l.stackTraces = false) (D : va_G) (AC : Nat → ClassId) (sa : gh_SA) (t : Nat) (p0 : Int32) (post : Int32 → gh_H → Prop) (px : String → gh_H → Prop) (G : gh_H) (sz : Nat) (hw : wX5_count post px G t p0) : vx_Met l yX5_count wsX5_count rmX5_count (gh_Pc D vwCl AC (gh_ty AC) (gh_En sa) G sz [.ref t, .int p0]) (va_Qi post (gh_B D vwCl AC (gh_A G sz)) (gh_A G sz)) (gh_X D vwCl AC px (gh_A G sz)) 0 0 (gh_A G sz) := by
  refine vx_ofW (cc := prog_7_method_34_code) (maxL := 6) (ret := (some .int)) (by decide) rfl ?_
  intro p e s m args below meth c s₁ B hml hnoh hv
  obtain ⟨rfl, hsz, hP, hK, hE⟩ := hv
  have hx := B.exec
  have hb := B.bytes
  have hr := B.returns
  have hts := atoms_spec (ws := wsX5_count) B.pre
  have hown : s.vm.findClass "OwnerLedgerModel" = some m.cls := findClass_of_methodNamed B.named
  have hlocks := B.notSynchronized
  have htb : c.exceptionTable.toList = [] := List.eq_nil_iff_forall_not_mem.mpr hnoh
  subst hsz
  have hA : ∀ q, s.heap.size ≤ q → gh_A G s.heap.size q := fun q h => Or.inr h
  generalize gh_A G s.heap.size = A at hP hE hA ⊢
  have hno : ∀ (pc : Nat), ∀ x ∈ c.exceptionTable.toList, covers x pc = false := by rw [htb]; intro _ _ h; cases h
  have CX : cxX5_count p s m [.ref t, .int p0].toArray meth c D AC sa A := ⟨⟨hx, hb, hml, hown, hts⟩, hr, hlocks, htb, hK, hE, hA⟩
  have hS : va_S A s.heap s.heap [] := va_S.rf
  have hl := lv_entry ([.ref t, .int p0]) (n := 6) (Nat.le_of_ble_eq_true rfl)
  rw [lg_entry_eq]
  generalize (lg_sl ([.ref t, .int p0]) ++ List.replicate (6 - (lg_sl ([.ref t, .int p0])).length) Slot.unset).toArray = ls at hl ⊢
  have hl : lv_has ls 6 [(0, .ref t), (1, .int p0)] := hl
  dsimp only [wX5_count] at hw
  refine lv_aload_n hx hb dX5_count_0 rfl (lv_at hl 0 rfl) ?_
  refine lv_iconst (v := 0) hx hb dX5_count_1 (by decide) ?_
  obtain ⟨fs1, he2, hk3, hw⟩ := hw
  refine gh_put (ci := 5) (v := .int 0) (ty := .int) (C := "OwnerLedgerModel") (T := TX5) (N := 24) hx hb hts (fun w h => gT_up (inX5 w h)) tyX5 tyX5_ok nmX5 hown hK hP hS he2 rfl 0 (by decide) (hts _ (gT_up kw_372)) (fun _ h9 => h9) rfl (by decide +kernel) rfl rfl hk3 dX5_count_2 (fun G4 H locs eG5 hP hS => ?_)
  replace hw := hw G4 eG5
  refine lv_iconst (v := 0) hx hb dX5_count_5 (by decide) ?_
  refine lv_istore_n (lv' := [(2, .int 0), (0, .ref t), (1, .int p0)]) hx hb dX5_count_6 rfl hl (by decide) rfl (fun ls hl => ?_)
  refine lv_iconst (v := 0) hx hb dX5_count_7 (by decide) ?_
  refine lv_istore_n (lv' := [(3, .int 0), (2, .int 0), (0, .ref t), (1, .int p0)]) hx hb dX5_count_8 rfl hl (by decide) rfl (fun ls hl => ?_)
  have hl := lv_sub (l' := [(0, .ref t), (1, .int p0), (2, .int 0), (3, .int 0)]) hl [2, 3, 1, 0] rfl
  exact lX5_count_9 hl0 CX post px _ _ t p0 0 0 _ _ hw hP hS ls hl
