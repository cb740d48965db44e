abbrev rmX4_firstToPay : Room := { frames := 0, cells := 0, slots := 0, locals := 0 }
abbrev cxX4_firstToPay (p : Program) (s : State) (m : MethodId) (args : Array Value) (meth : Method) (c : Code) (D : va_G) (AC : Nat → ClassId) (sa : gh_SA) (A : Nat → Prop) : Prop := CallFix p m c prog_1_method_34_code 7 s args wsX4_firstToPay "OwnerLedger" ∧ meth.sig.returnType = (some (.object "OwnerLedger$Invoice")) ∧ meth.locks = false ∧ c.exceptionTable.toList = [] ∧ va_K D vwCl (gh_ty AC) s ∧ gh_En sa A s s.heap ∧ (∀ q, s.heap.size ≤ q → A q)
def wX4_firstToPay_75 (post : Option Nat → gh_H → Prop) (px : String → gh_H → Prop) (J14 : gh_H → Int32 → (Option Nat) → Nat → Int32 → Int32 → Prop) (G : gh_H) (p0 : Int32) (v3 : Nat) (v4 : Int32) (v5 : Int32) (v6 : Nat) : Prop := J14 G p0 (some v6) v3 v4 (v5 + 1)
set_option maxRecDepth 100000 in
set_option maxHeartbeats 4000000 in
theorem lX4_firstToPay_75 {p : Program} {l : Launch} {e : Env} {s : State} {m : MethodId} {args : Array Value} {below : List Frame} {meth : Method} {c : Code} {D : va_G} {AC : Nat → ClassId} {sa : gh_SA} {A : Nat → Prop} (hl0 : l.stackTraces = false) (CX : cxX4_firstToPay p s m args meth c D AC sa A) (post : Option Nat → gh_H → Prop) (px : String → gh_H → Prop) (J14 : gh_H → Int32 → (Option Nat) → Nat → Int32 → Int32 → Prop) (hJ14 : ∀ (G : gh_H) (p0 : Int32) (v2 : Option Nat) (v3 : Nat) (v4 : Int32) (v5 : Int32) (H : Heap) (locs : List Loc), J14 G p0 v2 v3 v4 v5 → gh_h D vwCl AC A G H → va_S A s.heap H locs → ∀ ls : Array Slot, lv_has ls 7 [(1, .int p0), (2, va_rf v2), (3, .ref v3), (4, .int v4), (5, .int v5)] → W p l e rmX4_firstToPay s m args below meth c H locs 0 0 (vx_MQ below (va_Qq post (gh_B D vwCl AC A) A) (gh_X D vwCl AC px A) args s 0 0 A) (F0 m 14 ls [])) : ∀ (G : gh_H) (p0 : Int32) (v3 : Nat) (v4 : Int32) (v5 : Int32) (v6 : Nat) (H : Heap) (locs : List Loc), wX4_firstToPay_75 post px J14 G p0 v3 v4 v5 v6 → gh_h D vwCl AC A G H → va_S A s.heap H locs → ∀ ls : Array Slot, lv_has ls 7 [(1, .int p0), (3, .ref v3), (4, .int v4), (5, .int v5), (6, .ref v6)] → W p l e rmX4_firstToPay s m args below meth c H locs 0 0 (vx_MQ below (va_Qq post (gh_B D vwCl AC A) A) (gh_X D vwCl AC px A) args s 0 0 A) (F0 m 75 ls []) := by
  obtain ⟨⟨hx, hb, hml, hown, hts⟩, hr, hlocks, htb, hK, hE, hA⟩ := id CX
  have hno : ∀ (pc : Nat), ∀ x ∈ c.exceptionTable.toList, covers x pc = false := by rw [htb]; intro _ _ h; cases h
  intro G p0 v3 v4 v5 v6 H locs hw hP hS ls hl
  dsimp only [wX4_firstToPay_75] at hw
  refine lv_aload hx hb dX4_firstToPay_75 (lv_at hl 4 rfl) ?_
  refine lv_astore_n (lv' := [(2, .ref v6), (1, .int p0), (3, .ref v3), (4, .int v4), (5, .int v5), (6, .ref v6)]) hx hb dX4_firstToPay_77 rfl hl (by decide) rfl (fun ls hl => ?_)
  refine lv_iinc (v := (v5 + 1)) (lv' := [(5, .int (v5 + 1)), (2, .ref v6), (1, .int p0), (3, .ref v3), (4, .int v4), (6, .ref v6)]) hx hb dX4_firstToPay_78 hl (k := 4) rfl rfl (by decide) rfl (fun ls hl => ?_)
  refine lv_goto (tgt := 14) hx hb dX4_firstToPay_81 (by decide) ?_
  have hl := lv_sub (l' := [(1, .int p0), (2, va_rf (some v6)), (3, .ref v3), (4, .int v4), (5, .int (v5 + 1))]) hl [2, 1, 3, 4, 0] rfl
  exact hJ14 _ p0 (some v6) v3 v4 (v5 + 1) _ _ hw hP hS ls hl
def wX4_firstToPay_14 (post : Option Nat → gh_H → Prop) (px : String → gh_H → Prop) : Nat → gh_H → Int32 → (Option Nat) → Nat → Int32 → Int32 → Prop
  | 0 => fun _ _ _ _ _ _ => False
  | n + 1 => fun G p0 v2 v3 v4 v5 => (v4 ≤ v5 → (post v2 G)) ∧ (¬ v4 ≤ v5 → (∃ (k6 n2 : Nat) (f3 : Nat → Option Nat), G v3 = some (.inl (k6, n2, .inr (.inr (.inr (.inr f3))))) ∧ gh_isq k6 = true ∧ vp_in v5 n2 ∧ (∀ o8 : Option Nat, o8 = f3 v5.toNatClampNeg → (o8 = none → (wX4_firstToPay_14 post px n G p0 v2 v3 v4 (v5 + 1))) ∧ (∀ a10 : Nat, o8 = some a10 → (∃ (fs11 : List Value) (x14 : Int32), G a10 = some (.inr (1, fs11)) ∧ fs11[0]? = some (.int x14) ∧ ((¬ x14 = p0 → (wX4_firstToPay_14 post px n G p0 v2 v3 v4 (v5 + 1))) ∧ (x14 = p0 → (∃ (fs16 : List Value) (x19 : Int64), G a10 = some (.inr (1, fs16)) ∧ fs16[2]? = some (.long x19) ∧ (((lg_cmp x19 0) ≤ 0 → (wX4_firstToPay_14 post px n G p0 v2 v3 v4 (v5 + 1))) ∧ (¬ (lg_cmp x19 0) ≤ 0 → (∃ (fs21 : List Value) (x24 : Int32), G a10 = some (.inr (1, fs21)) ∧ fs21[4]? = some (.int x24) ∧ ((¬ x24 = 0 → (wX4_firstToPay_14 post px n G p0 v2 v3 v4 (v5 + 1))) ∧ (x24 = 0 → ((v2 = none → (wX4_firstToPay_75 post px (wX4_firstToPay_14 post px n) G p0 v3 v4 v5 a10)) ∧ (∀ a26 : Nat, v2 = some a26 → (∃ (fs27 : List Value) (x30 : Int32), G a10 = some (.inr (1, fs27)) ∧ fs27[1]? = some (.int x30) ∧ (∃ (fs31 : List Value) (x34 : Int32), G a26 = some (.inr (1, fs31)) ∧ fs31[1]? = some (.int x34) ∧ ((x34 ≤ x30 → (wX4_firstToPay_14 post px n G p0 (some a26) v3 v4 (v5 + 1))) ∧ (¬ x34 ≤ x30 → (wX4_firstToPay_75 post px (wX4_firstToPay_14 post px n) G p0 v3 v4 v5 a10))))))))))))))))))))
set_option maxRecDepth 100000 in
set_option maxHeartbeats 4000000 in
theorem lX4_firstToPay_14 {p : Program} {l : Launch} {e : Env} {s : State} {m : MethodId} {args : Array Value} {below : List Frame} {meth : Method} {c : Code} {D : va_G} {AC : Nat → ClassId} {sa : gh_SA} {A : Nat → Prop} (hl0 : l.stackTraces = false) (CX : cxX4_firstToPay p s m args meth c D AC sa A) (post : Option Nat → gh_H → Prop) (px : String → gh_H → Prop) : ∀ n : Nat, ∀ (G : gh_H) (p0 : Int32) (v2 : Option Nat) (v3 : Nat) (v4 : Int32) (v5 : Int32) (H : Heap) (locs : List Loc), wX4_firstToPay_14 post px n G p0 v2 v3 v4 v5 → gh_h D vwCl AC A G H → va_S A s.heap H locs → ∀ ls : Array Slot, lv_has ls 7 [(1, .int p0), (2, va_rf v2), (3, .ref v3), (4, .int v4), (5, .int v5)] → W p l e rmX4_firstToPay s m args below meth c H locs 0 0 (vx_MQ below (va_Qq post (gh_B D vwCl AC A) A) (gh_X D vwCl AC px A) args s 0 0 A) (F0 m 14 ls []) := by
  obtain ⟨⟨hx, hb, hml, hown, hts⟩, hr, hlocks, htb, hK, hE, hA⟩ := id CX
  have hno : ∀ (pc : Nat), ∀ x ∈ c.exceptionTable.toList, covers x pc = false := by rw [htb]; intro _ _ h; cases h
  intro n
  induction n with
  | zero =>
    intro G p0 v2 v3 v4 v5 H locs hw
    exact False.elim hw
  | succ n ih =>
    intro G p0 v2 v3 v4 v5 H locs hw hP hS ls hl
    dsimp only [wX4_firstToPay_14] at hw
    refine lv_iload hx hb dX4_firstToPay_14 (lv_at hl 4 rfl) ?_
    refine lv_iload hx hb dX4_firstToPay_16 (lv_at hl 3 rfl) ?_
    refine lv_icmp_ge (tgt := 84) hx hb dX4_firstToPay_18 (by decide) (fun c1 => ?_) (fun c1 => ?_)
    · replace hw := hw.1 c1
      refine gh_aload_n hx hb dX4_firstToPay_84 rfl (lv_at hl 1 rfl) ?_
      exact gh_aret (o := v2) hx hb hr hlocks hw hP hS (Nat.le_of_ble_eq_true rfl) (Nat.le_of_ble_eq_true rfl) dX4_firstToPay_85
    · replace hw := hw.2 c1
      refine lv_aload_n hx hb dX4_firstToPay_21 rfl (lv_at hl 2 rfl) ?_
      refine lv_iload hx hb dX4_firstToPay_22 (lv_at hl 4 rfl) ?_
      obtain ⟨k6, n2, f3, he4, hk7, hi5, hw⟩ := hw
      obtain ⟨C9, ht9⟩ := gh_tyq AC hk7
      refine gh_aald hx hb hK hP he4 ht9 hi5 dX4_firstToPay_24 ?_
      obtain ⟨o8, eo9⟩ : ∃ z : Option Nat, z = f3 (Int32.toNatClampNeg v5) := ⟨_, rfl⟩
      rw [← eo9]
      replace hw := hw o8 eo9
      refine gh_astore (lv' := [(6, va_rf o8), (1, .int p0), (2, va_rf v2), (3, .ref v3), (4, .int v4), (5, .int v5)]) hx hb dX4_firstToPay_25 hl (by decide) rfl (fun ls hl => ?_)
      refine gh_aload hx hb dX4_firstToPay_27 (lv_at hl 0 rfl) ?_
      rcases o8 with _ | a10
      · replace hw := hw.1 rfl
        have hl : lv_has ls 7 [(6, .null), (1, .int p0), (2, va_rf v2), (3, .ref v3), (4, .int v4), (5, .int v5)] := hl
        refine lv_ifnullN (tgt := 78) hx hb dX4_firstToPay_29 (by decide) ?_
        refine lv_iinc (v := (v5 + 1)) (lv' := [(5, .int (v5 + 1)), (6, .null), (1, .int p0), (2, va_rf v2), (3, .ref v3), (4, .int v4)]) hx hb dX4_firstToPay_78 hl (k := 5) rfl rfl (by decide) rfl (fun ls hl => ?_)
        refine lv_goto (tgt := 14) hx hb dX4_firstToPay_81 (by decide) ?_
        have hl := lv_sub (l' := [(1, .int p0), (2, va_rf v2), (3, .ref v3), (4, .int v4), (5, .int (v5 + 1))]) hl [2, 3, 4, 5, 0] rfl
        exact ih _ p0 v2 v3 v4 (v5 + 1) _ _ hw hP hS ls hl
      · replace hw := hw.2 a10 rfl
        have hl : lv_has ls 7 [(6, .ref a10), (1, .int p0), (2, va_rf v2), (3, .ref v3), (4, .int v4), (5, .int v5)] := hl
        refine lv_ifnull hx hb dX4_firstToPay_29 ?_
        refine lv_aload hx hb dX4_firstToPay_32 (lv_at hl 0 rfl) ?_
        obtain ⟨fs11, x14, he12, hv13, hw⟩ := hw
        refine gh_get (ci := 1) (v := .int x14) (C := "OwnerLedger$Invoice") (T := TX1) (N := 5) hx hb hts (fun w h => gT_up (inX1 w h)) hown hK hP he12 rfl 0 (by decide) (hts _ (gT_up kw_253)) (fun _ h9 => h9) hv13 dX4_firstToPay_34 ?_
        refine lv_iload_n hx hb dX4_firstToPay_37 rfl (lv_at hl 1 rfl) ?_
        refine lv_icmp_ne (tgt := 78) hx hb dX4_firstToPay_38 (by decide) (fun c15 => ?_) (fun c15 => ?_)
        · replace hw := hw.1 c15
          refine lv_iinc (v := (v5 + 1)) (lv' := [(5, .int (v5 + 1)), (6, .ref a10), (1, .int p0), (2, va_rf v2), (3, .ref v3), (4, .int v4)]) hx hb dX4_firstToPay_78 hl (k := 5) rfl rfl (by decide) rfl (fun ls hl => ?_)
          refine lv_goto (tgt := 14) hx hb dX4_firstToPay_81 (by decide) ?_
          have hl := lv_sub (l' := [(1, .int p0), (2, va_rf v2), (3, .ref v3), (4, .int v4), (5, .int (v5 + 1))]) hl [2, 3, 4, 5, 0] rfl
          exact ih _ p0 v2 v3 v4 (v5 + 1) _ _ hw hP hS ls hl
        · replace hw := hw.2 c15
          refine lv_aload hx hb dX4_firstToPay_41 (lv_at hl 0 rfl) ?_
          obtain ⟨fs16, x19, he17, hv18, hw⟩ := hw
          refine gh_get (ci := 1) (v := .long x19) (C := "OwnerLedger$Invoice") (T := TX1) (N := 5) hx hb hts (fun w h => gT_up (inX1 w h)) hown hK hP he17 rfl 2 (by decide) (hts _ (gT_up kw_257)) (fun _ h9 => h9) hv18 dX4_firstToPay_43 ?_
          refine lv_lconst (v := 0) hx hb dX4_firstToPay_46 (by decide) ?_
          refine W.lcmp hx hb dX4_firstToPay_47 ?_
          refine lv_if_le (tgt := 78) hx hb dX4_firstToPay_48 (by decide) (fun c20 => ?_) (fun c20 => ?_)
          · replace hw := hw.1 c20
            refine lv_iinc (v := (v5 + 1)) (lv' := [(5, .int (v5 + 1)), (6, .ref a10), (1, .int p0), (2, va_rf v2), (3, .ref v3), (4, .int v4)]) hx hb dX4_firstToPay_78 hl (k := 5) rfl rfl (by decide) rfl (fun ls hl => ?_)
            refine lv_goto (tgt := 14) hx hb dX4_firstToPay_81 (by decide) ?_
            have hl := lv_sub (l' := [(1, .int p0), (2, va_rf v2), (3, .ref v3), (4, .int v4), (5, .int (v5 + 1))]) hl [2, 3, 4, 5, 0] rfl
            exact ih _ p0 v2 v3 v4 (v5 + 1) _ _ hw hP hS ls hl
          · replace hw := hw.2 c20
            refine lv_aload hx hb dX4_firstToPay_51 (lv_at hl 0 rfl) ?_
            obtain ⟨fs21, x24, he22, hv23, hw⟩ := hw
            refine gh_get (ci := 1) (v := .int x24) (C := "OwnerLedger$Invoice") (T := TX1) (N := 5) hx hb hts (fun w h => gT_up (inX1 w h)) hown hK hP he22 rfl 4 (by decide) (hts _ (gT_up kw_260)) (fun _ h9 => h9) hv23 dX4_firstToPay_53 ?_
            refine lv_if_ne (tgt := 78) hx hb dX4_firstToPay_56 (by decide) (fun c25 => ?_) (fun c25 => ?_)
            · replace hw := hw.1 c25
              refine lv_iinc (v := (v5 + 1)) (lv' := [(5, .int (v5 + 1)), (6, .ref a10), (1, .int p0), (2, va_rf v2), (3, .ref v3), (4, .int v4)]) hx hb dX4_firstToPay_78 hl (k := 5) rfl rfl (by decide) rfl (fun ls hl => ?_)
              refine lv_goto (tgt := 14) hx hb dX4_firstToPay_81 (by decide) ?_
              have hl := lv_sub (l' := [(1, .int p0), (2, va_rf v2), (3, .ref v3), (4, .int v4), (5, .int (v5 + 1))]) hl [2, 3, 4, 5, 0] rfl
              exact ih _ p0 v2 v3 v4 (v5 + 1) _ _ hw hP hS ls hl
            · replace hw := hw.2 c25
              refine gh_aload_n hx hb dX4_firstToPay_59 rfl (lv_at hl 2 rfl) ?_
              rcases v2 with _ | a26
              · replace hw := hw.1 rfl
                have hl : lv_has ls 7 [(6, .ref a10), (1, .int p0), (2, .null), (3, .ref v3), (4, .int v4), (5, .int v5)] := hl
                refine lv_ifnullN (tgt := 75) hx hb dX4_firstToPay_60 (by decide) ?_
                have hl := lv_sub (l' := [(1, .int p0), (3, .ref v3), (4, .int v4), (5, .int v5), (6, .ref a10)]) hl [1, 3, 4, 5, 0] rfl
                exact lX4_firstToPay_75 hl0 CX post px (wX4_firstToPay_14 post px n) (fun G9 p09 v29 v39 v49 v59 H9 locs9 hw9 hP9 hS9 ls9 hl9 => ih G9 p09 v29 v39 v49 v59 H9 locs9 hw9 hP9 hS9 ls9 hl9) _ p0 v3 v4 v5 a10 _ _ hw hP hS ls hl
              · replace hw := hw.2 a26 rfl
                have hl : lv_has ls 7 [(6, .ref a10), (1, .int p0), (2, .ref a26), (3, .ref v3), (4, .int v4), (5, .int v5)] := hl
                refine lv_ifnull hx hb dX4_firstToPay_60 ?_
                refine lv_aload hx hb dX4_firstToPay_63 (lv_at hl 0 rfl) ?_
                obtain ⟨fs27, x30, he28, hv29, hw⟩ := hw
                refine gh_get (ci := 1) (v := .int x30) (C := "OwnerLedger$Invoice") (T := TX1) (N := 5) hx hb hts (fun w h => gT_up (inX1 w h)) hown hK hP he28 rfl 1 (by decide) (hts _ (gT_up kw_255)) (fun _ h9 => h9) hv29 dX4_firstToPay_65 ?_
                refine lv_aload_n hx hb dX4_firstToPay_68 rfl (lv_at hl 2 rfl) ?_
                obtain ⟨fs31, x34, he32, hv33, hw⟩ := hw
                refine gh_get (ci := 1) (v := .int x34) (C := "OwnerLedger$Invoice") (T := TX1) (N := 5) hx hb hts (fun w h => gT_up (inX1 w h)) hown hK hP he32 rfl 1 (by decide) (hts _ (gT_up kw_255)) (fun _ h9 => h9) hv33 dX4_firstToPay_69 ?_
                refine lv_icmp_ge (tgt := 78) hx hb dX4_firstToPay_72 (by decide) (fun c35 => ?_) (fun c35 => ?_)
                · replace hw := hw.1 c35
                  refine lv_iinc (v := (v5 + 1)) (lv' := [(5, .int (v5 + 1)), (6, .ref a10), (1, .int p0), (2, .ref a26), (3, .ref v3), (4, .int v4)]) hx hb dX4_firstToPay_78 hl (k := 5) rfl rfl (by decide) rfl (fun ls hl => ?_)
                  refine lv_goto (tgt := 14) hx hb dX4_firstToPay_81 (by decide) ?_
                  have hl := lv_sub (l' := [(1, .int p0), (2, va_rf (some a26)), (3, .ref v3), (4, .int v4), (5, .int (v5 + 1))]) hl [2, 3, 4, 5, 0] rfl
                  exact ih _ p0 (some a26) v3 v4 (v5 + 1) _ _ hw hP hS ls hl
                · replace hw := hw.2 c35
                  have hl := lv_sub (l' := [(1, .int p0), (3, .ref v3), (4, .int v4), (5, .int v5), (6, .ref a10)]) hl [1, 3, 4, 5, 0] rfl
                  exact lX4_firstToPay_75 hl0 CX post px (wX4_firstToPay_14 post px n) (fun G9 p09 v29 v39 v49 v59 H9 locs9 hw9 hP9 hS9 ls9 hl9 => ih G9 p09 v29 v39 v49 v59 H9 locs9 hw9 hP9 hS9 ls9 hl9) _ p0 v3 v4 v5 a10 _ _ hw hP hS ls hl
def wX4_firstToPay (post : Option Nat → gh_H → Prop) (px : String → gh_H → Prop) (G : gh_H) (t : Nat) (p0 : Int32) : Prop := ∃ (fs1 : List Value) (x4 : Nat), G t = some (.inr (4, fs1)) ∧ fs1[3]? = some (.ref x4) ∧ (∃ (k5 : Nat) (n6 : vp_A), G x4 = some (.inl (k5, n6)) ∧ k5 < 7 ∧ (wX4_firstToPay_14 post px 300 G p0 none x4 (Int32.ofNat n6.1) 0))
set_option maxRecDepth 100000 in
set_option maxHeartbeats 4000000 in
theorem mX4_firstToPay (l : Launch) (hl0 : l.stackTraces = false) (D : va_G) (AC : Nat → ClassId) (sa : gh_SA) (t : Nat) (p0 : Int32) (post : Option Nat → gh_H → Prop) (px : String → gh_H → Prop) (G : gh_H) (sz : Nat) (hw : wX4_firstToPay post px G t p0) : vx_Met l yX4_firstToPay wsX4_firstToPay rmX4_firstToPay (gh_Pc D vwCl AC (gh_ty AC) (gh_En sa) G sz [.ref t, .int p0]) (va_Qq post (gh_B D vwCl AC (gh_A G sz)) (gh_A G sz)) (gh_X D vwCl AC px (gh_A G sz)) 0 0 (gh_A G sz) := by
  refine vx_ofW (cc := prog_1_method_34_code) (maxL := 7) (ret := (some (.object "OwnerLedger$Invoice"))) (by decide) rfl ?_
  intro p e s m args below meth c s₁ B hml hnoh hv
  obtain ⟨rfl, hsz, hP, hK, hE⟩ := hv
  have hx := B.exec
  have hb := B.bytes
  have hr := B.returns
  have hts := atoms_spec (ws := wsX4_firstToPay) B.pre
  have hown : s.vm.findClass "OwnerLedger" = some m.cls := findClass_of_methodNamed B.named
  have hlocks := B.notSynchronized
  have htb : c.exceptionTable.toList = [] := List.eq_nil_iff_forall_not_mem.mpr hnoh
  subst hsz
  have hA : ∀ q, s.heap.size ≤ q → gh_A G s.heap.size q := fun q h => Or.inr h
  generalize gh_A G s.heap.size = A at hP hE hA ⊢
  have hno : ∀ (pc : Nat), ∀ x ∈ c.exceptionTable.toList, covers x pc = false := by rw [htb]; intro _ _ h; cases h
  have CX : cxX4_firstToPay p s m [.ref t, .int p0].toArray meth c D AC sa A := ⟨⟨hx, hb, hml, hown, hts⟩, hr, hlocks, htb, hK, hE, hA⟩
  have hS : va_S A s.heap s.heap [] := va_S.rf
  have hl := lv_entry ([.ref t, .int p0]) (n := 7) (Nat.le_of_ble_eq_true rfl)
  rw [lg_entry_eq]
  generalize (lg_sl ([.ref t, .int p0]) ++ List.replicate (7 - (lg_sl ([.ref t, .int p0])).length) Slot.unset).toArray = ls at hl ⊢
  have hl : lv_has ls 7 [(0, .ref t), (1, .int p0)] := hl
  dsimp only [wX4_firstToPay] at hw
  refine lv_null hx hb dX4_firstToPay_0 ?_
  refine lv_astore_nN (lv' := [(2, .null), (0, .ref t), (1, .int p0)]) hx hb dX4_firstToPay_1 rfl hl (by decide) rfl (fun ls hl => ?_)
  refine lv_aload_n hx hb dX4_firstToPay_2 rfl (lv_at hl 1 rfl) ?_
  obtain ⟨fs1, x4, he2, hv3, hw⟩ := hw
  refine gh_get (ci := 4) (v := .ref x4) (C := "OwnerLedger") (T := TX4) (N := 11) hx hb hts (fun w h => gT_up (inX4 w h)) hown hK hP he2 rfl 3 (by decide) (hts _ (gT_up kw_26)) (fun _ h9 => h9) hv3 dX4_firstToPay_3 ?_
  refine lv_astore_n (lv' := [(3, .ref x4), (2, .null), (0, .ref t), (1, .int p0)]) hx hb dX4_firstToPay_6 rfl hl (by decide) rfl (fun ls hl => ?_)
  refine lv_aload_n hx hb dX4_firstToPay_7 rfl (lv_at hl 0 rfl) ?_
  obtain ⟨k5, n6, he8, hk9, hw⟩ := hw
  obtain ⟨ty9, ht9⟩ := gh_tyat AC hk9
  refine gh_alen hx hb hK hP he8 ht9 rfl dX4_firstToPay_8 ?_
  refine lv_istore (lv' := [(4, .int (Int32.ofNat n6.1)), (3, .ref x4), (2, .null), (0, .ref t), (1, .int p0)]) hx hb dX4_firstToPay_9 hl (by decide) rfl (fun ls hl => ?_)
  refine lv_iconst (v := 0) hx hb dX4_firstToPay_11 (by decide) ?_
  refine lv_istore (lv' := [(5, .int 0), (4, .int (Int32.ofNat n6.1)), (3, .ref x4), (2, .null), (0, .ref t), (1, .int p0)]) hx hb dX4_firstToPay_12 hl (by decide) rfl (fun ls hl => ?_)
  have hl := lv_sub (l' := [(1, .int p0), (2, va_rf none), (3, .ref x4), (4, .int (Int32.ofNat n6.1)), (5, .int 0)]) hl [5, 3, 2, 1, 0] rfl
  exact lX4_firstToPay_14 hl0 CX post px _ _ p0 none x4 (Int32.ofNat n6.1) 0 _ _ hw hP hS ls hl
abbrev rmX4_pay : Room := { frames := 7, cells := 2, slots := 12, locals := 107 }
abbrev cxX4_pay (p : Program) (s : State) (m : MethodId) (args : Array Value) (meth : Method) (c : Code) (D : va_G) (AC : Nat → ClassId) (sa : gh_SA) (A : Nat → Prop) : Prop := CallFix p m c prog_1_method_14_code 10 s args wsX4_pay "OwnerLedger" ∧ meth.sig.returnType = (some .int) ∧ meth.locks = false ∧ c.exceptionTable.toList = [] ∧ va_K D vwCl (gh_ty AC) s ∧ gh_En sa A s s.heap ∧ (∀ q, s.heap.size ≤ q → A q)
def wX4_pay_81 (post : Int32 → gh_H → Prop) (px : String → gh_H → Prop) (G : gh_H) (v4 : Option Nat) (v5 : Int64) (v7 : Int32) : Prop := ∃ a1 : Nat, v4 = some a1 ∧ ∃ (fs2 : List Value) (x5 : Int64), G a1 = some (.inr (2, fs2)) ∧ fs2[0]? = some (.long x5) ∧ (∃ fs6 : List Value, G a1 = some (.inr (2, fs6)) ∧ 0 < fs6.length ∧ (∀ G9 : gh_H, G9 = gh_up G a1 (.inr (2, fs6.set 0 (.long (x5 + v5)))) → post v7 G9))
set_option maxRecDepth 100000 in
set_option maxHeartbeats 4000000 in
theorem lX4_pay_81 {p : Program} {l : Launch} {e : Env} {s : State} {m : MethodId} {args : Array Value} {below : List Frame} {meth : Method} {c : Code} {D : va_G} {AC : Nat → ClassId} {sa : gh_SA} {A : Nat → Prop} (hl0 : l.stackTraces = false) (CX : cxX4_pay p s m args meth c D AC sa A) (post : Int32 → gh_H → Prop) (px : String → gh_H → Prop) : ∀ (G : gh_H) (v4 : Option Nat) (v5 : Int64) (v7 : Int32) (H : Heap) (locs : List Loc), wX4_pay_81 post px G v4 v5 v7 → gh_h D vwCl AC A G H → va_S A s.heap H locs → ∀ ls : Array Slot, lv_has ls 10 [(4, va_rf v4), (5, .long v5), (7, .int v7)] → W p l e rmX4_pay s m args below meth c H locs 2 12 (vx_MQ below (va_Qi post (gh_B D vwCl AC A) A) (gh_X D vwCl AC px A) args s 2 12 A) (F0 m 81 ls []) := by
  obtain ⟨⟨hx, hb, hml, hown, hts⟩, hr, hlocks, htb, hK, hE, hA⟩ := id CX
  have hno : ∀ (pc : Nat), ∀ x ∈ c.exceptionTable.toList, covers x pc = false := by rw [htb]; intro _ _ h; cases h
  intro G v4 v5 v7 H locs hw hP hS ls hl
  dsimp only [wX4_pay_81] at hw
  refine gh_aload hx hb dX4_pay_81 (lv_at hl 0 rfl) ?_
  refine lv_dup hx hb dX4_pay_83 (gh_cat _) ?_
  obtain ⟨a1, ea1, hw⟩ := hw
  subst ea1
  have hl : lv_has ls 10 [(4, .ref a1), (5, .long v5), (7, .int v7)] := hl
  obtain ⟨fs2, x5, he3, hv4, hw⟩ := hw
  refine gh_get (ci := 2) (v := .long x5) (C := "OwnerLedger$Owner") (T := TX2) (N := 2) hx hb hts (fun w h => gT_up (inX2 w h)) hown hK hP he3 rfl 0 (by decide) (hts _ (gT_up kw_69)) (fun _ h9 => h9) hv4 dX4_pay_84 ?_
  refine lv_lload hx hb dX4_pay_87 (lv_at hl 1 rfl) ?_
  refine lv_ladd hx hb dX4_pay_89 ?_
  obtain ⟨fs6, he7, hk8, hw⟩ := hw
  refine gh_put (ci := 2) (v := .long (x5 + v5)) (ty := .long) (C := "OwnerLedger$Owner") (T := TX2) (N := 2) hx hb hts (fun w h => gT_up (inX2 w h)) tyX2 tyX2_ok nmX2 hown hK hP hS he7 rfl 0 (by decide) (hts _ (gT_up kw_69)) (fun _ h9 => h9) rfl (by decide +kernel) rfl rfl hk8 dX4_pay_90 (fun G9 H locs eG10 hP hS => ?_)
  replace hw := hw G9 eG10
  refine lv_iload hx hb dX4_pay_93 (lv_at hl 2 rfl) ?_
  exact gh_iret hx hb hr hlocks hw hP hS (Nat.le_of_ble_eq_true rfl) (Nat.le_of_ble_eq_true rfl) dX4_pay_95
def wX4_pay_24 (post : Int32 → gh_H → Prop) (px : String → gh_H → Prop) : Nat → gh_H → Nat → Int32 → (Option Nat) → Int64 → Int32 → Int32 → Prop
  | 0 => fun _ _ _ _ _ _ _ => False
  | n + 1 => fun G t p0 v4 v5 v7 v8 => (20 ≤ v8 → (wX4_pay_81 post px G v4 v5 v7)) ∧ (¬ 20 ≤ v8 → (((lg_cmp v5 0) ≤ 0 → (wX4_pay_81 post px G v4 v5 v7)) ∧ (¬ (lg_cmp v5 0) ≤ 0 → (∃ fs5 : List Value, G t = some (.inr (4, fs5)) ∧ wX4_firstToPay (fun r3 G4 => (r3 = none → (wX4_pay_81 post px G4 v4 v5 v7)) ∧ (∀ a7 : Nat, r3 = some a7 → (∃ fs10 : List Value, G4 a7 = some (.inr (1, fs10)) ∧ wX1_takeFrom (fun r8 G9 => ∃ (fs12 : List Value) (x15 : Int64), G9 a7 = some (.inr (1, fs12)) ∧ fs12[2]? = some (.long x15) ∧ ((¬ (lg_cmp x15 0) = 0 → (wX4_pay_24 post px n G9 t p0 v4 r8 v7 (v8 + 1))) ∧ ((lg_cmp x15 0) = 0 → (wX4_pay_24 post px n G9 t p0 v4 r8 (v7 + 1) (v8 + 1))))) px G4 a7 v5))) px G t p0))))
set_option maxRecDepth 100000 in
set_option maxHeartbeats 4000000 in
theorem lX4_pay_24 {p : Program} {l : Launch} {e : Env} {s : State} {m : MethodId} {args : Array Value} {below : List Frame} {meth : Method} {c : Code} {D : va_G} {AC : Nat → ClassId} {sa : gh_SA} {A : Nat → Prop} (hl0 : l.stackTraces = false) (CX : cxX4_pay p s m args meth c D AC sa A) (post : Int32 → gh_H → Prop) (px : String → gh_H → Prop) : ∀ n : Nat, ∀ (G : gh_H) (t : Nat) (p0 : Int32) (v4 : Option Nat) (v5 : Int64) (v7 : Int32) (v8 : Int32) (H : Heap) (locs : List Loc), wX4_pay_24 post px n G t p0 v4 v5 v7 v8 → gh_h D vwCl AC A G H → va_S A s.heap H locs → ∀ ls : Array Slot, lv_has ls 10 [(0, .ref t), (1, .int p0), (4, va_rf v4), (5, .long v5), (7, .int v7), (8, .int v8)] → W p l e rmX4_pay s m args below meth c H locs 2 12 (vx_MQ below (va_Qi post (gh_B D vwCl AC A) A) (gh_X D vwCl AC px A) args s 2 12 A) (F0 m 24 ls []) := by
  obtain ⟨⟨hx, hb, hml, hown, hts⟩, hr, hlocks, htb, hK, hE, hA⟩ := id CX
  have hno : ∀ (pc : Nat), ∀ x ∈ c.exceptionTable.toList, covers x pc = false := by rw [htb]; intro _ _ h; cases h
  intro n
  induction n with
  | zero =>
    intro G t p0 v4 v5 v7 v8 H locs hw
    exact False.elim hw
  | succ n ih =>
    intro G t p0 v4 v5 v7 v8 H locs hw hP hS ls hl
    dsimp only [wX4_pay_24] at hw
    refine lv_iload hx hb dX4_pay_24 (lv_at hl 5 rfl) ?_
    refine lv_bipush (v := 20) hx hb dX4_pay_26 (by decide) ?_
    refine lv_icmp_ge (tgt := 81) hx hb dX4_pay_28 (by decide) (fun c1 => ?_) (fun c1 => ?_)
    · replace hw := hw.1 c1
      have hl := lv_sub (l' := [(4, va_rf v4), (5, .long v5), (7, .int v7)]) hl [2, 3, 4] rfl
      exact lX4_pay_81 hl0 CX post px _ v4 v5 v7 _ _ hw hP hS ls hl
    · replace hw := hw.2 c1
      refine lv_lload hx hb dX4_pay_31 (lv_at hl 3 rfl) ?_
      refine lv_lconst (v := 0) hx hb dX4_pay_33 (by decide) ?_
      refine W.lcmp hx hb dX4_pay_34 ?_
      refine lv_if_le (tgt := 81) hx hb dX4_pay_35 (by decide) (fun c2 => ?_) (fun c2 => ?_)
      · replace hw := hw.1 c2
        have hl := lv_sub (l' := [(4, va_rf v4), (5, .long v5), (7, .int v7)]) hl [2, 3, 4] rfl
        exact lX4_pay_81 hl0 CX post px _ v4 v5 v7 _ _ hw hP hS ls hl
      · replace hw := hw.2 c2
        refine lv_aload_n hx hb dX4_pay_38 rfl (lv_at hl 0 rfl) ?_
        refine lv_iload_n hx hb dX4_pay_39 rfl (lv_at hl 1 rfl) ?_
        obtain ⟨fs5, he6, hw⟩ := hw
        refine gh_cq hlocks (hno _) (vx_runV (C := "OwnerLedger") (As := [.int p0]) (rest := []) ⟨hx, hb, hml, hown, hts⟩ (mX4_firstToPay l hl0 D AC sa _ _ _ _ _ _ hw) (cwV 1 hts (gV kw_275 kw_276 kw_537 kw_1 kw_277) rfl rfl rfl (by decide +kernel) ⟨Nat.le_of_ble_eq_true rfl, Nat.le_of_ble_eq_true rfl⟩) (gh_preV gh_En_ok hK hE hP hS hA he6 rfl _) rfl rfl hl.1 rfl (lv_room (Nat.le_of_ble_eq_true rfl)) dX4_pay_40 ⟨Nat.le_of_ble_eq_true rfl, Nat.le_of_ble_eq_true rfl⟩) hP hS hA (Nat.le_of_ble_eq_true rfl) (Nat.le_of_ble_eq_true rfl) (fun r3 G4 H locs hw2 hP hS => ?_)
        replace hw := hw2
        clear hw2
        refine gh_astore (lv' := [(9, va_rf r3), (0, .ref t), (1, .int p0), (4, va_rf v4), (5, .long v5), (7, .int v7), (8, .int v8)]) hx hb dX4_pay_43 hl (by decide) rfl (fun ls hl => ?_)
        refine gh_aload hx hb dX4_pay_45 (lv_at hl 0 rfl) ?_
        rcases r3 with _ | a7
        · replace hw := hw.1 rfl
          have hl : lv_has ls 10 [(9, .null), (0, .ref t), (1, .int p0), (4, va_rf v4), (5, .long v5), (7, .int v7), (8, .int v8)] := hl
          refine lv_ifnonnullN hx hb dX4_pay_47 ?_
          refine lv_goto (tgt := 81) hx hb dX4_pay_50 (by decide) ?_
          have hl := lv_sub (l' := [(4, va_rf v4), (5, .long v5), (7, .int v7)]) hl [3, 4, 5] rfl
          exact lX4_pay_81 hl0 CX post px _ v4 v5 v7 _ _ hw hP hS ls hl
        · replace hw := hw.2 a7 rfl
          have hl : lv_has ls 10 [(9, .ref a7), (0, .ref t), (1, .int p0), (4, va_rf v4), (5, .long v5), (7, .int v7), (8, .int v8)] := hl
          refine lv_ifnonnull (tgt := 53) hx hb dX4_pay_47 (by decide) ?_
          refine lv_aload hx hb dX4_pay_53 (lv_at hl 0 rfl) ?_
          refine lv_lload hx hb dX4_pay_55 (lv_at hl 4 rfl) ?_
          obtain ⟨fs10, he11, hw⟩ := hw
          refine gh_cl hlocks (hno _) (vx_runV (C := "OwnerLedger$Invoice") (As := [.long v5]) (rest := []) ⟨hx, hb, hml, hown, hts⟩ (mX1_takeFrom l hl0 D AC sa _ _ _ _ _ _ hw) (cwV 1 hts (gV kw_261 kw_262 kw_263 kw_10 kw_264) rfl rfl rfl (by decide +kernel) ⟨Nat.le_of_ble_eq_true rfl, Nat.le_of_ble_eq_true rfl⟩) (gh_preV gh_En_ok hK hE hP hS hA he11 rfl _) rfl rfl hl.1 rfl (lv_room (Nat.le_of_ble_eq_true rfl)) dX4_pay_57 ⟨Nat.le_of_ble_eq_true rfl, Nat.le_of_ble_eq_true rfl⟩) hP hS hA (Nat.le_of_ble_eq_true rfl) (Nat.le_of_ble_eq_true rfl) (fun r8 G9 H locs hw2 hP hS => ?_)
          replace hw := hw2
          clear hw2
          refine lv_lstore (lv' := [(5, .long r8), (9, .ref a7), (0, .ref t), (1, .int p0), (4, va_rf v4), (7, .int v7), (8, .int v8)]) hx hb dX4_pay_60 hl (by decide) (by cases v4 <;> rfl) (fun ls hl => ?_)
          refine lv_aload hx hb dX4_pay_62 (lv_at hl 1 rfl) ?_
          obtain ⟨fs12, x15, he13, hv14, hw⟩ := hw
          refine gh_get (ci := 1) (v := .long x15) (C := "OwnerLedger$Invoice") (T := TX1) (N := 5) hx hb hts (fun w h => gT_up (inX1 w h)) hown hK hP he13 rfl 2 (by decide) (hts _ (gT_up kw_257)) (fun _ h9 => h9) hv14 dX4_pay_64 ?_
          refine lv_lconst (v := 0) hx hb dX4_pay_67 (by decide) ?_
          refine W.lcmp hx hb dX4_pay_68 ?_
          refine lv_if_ne (tgt := 75) hx hb dX4_pay_69 (by decide) (fun c16 => ?_) (fun c16 => ?_)
          · replace hw := hw.1 c16
            refine lv_iinc (v := (v8 + 1)) (lv' := [(8, .int (v8 + 1)), (5, .long r8), (9, .ref a7), (0, .ref t), (1, .int p0), (4, va_rf v4), (7, .int v7)]) hx hb dX4_pay_75 hl (k := 6) rfl rfl (by decide) rfl (fun ls hl => ?_)
            refine lv_goto (tgt := 24) hx hb dX4_pay_78 (by decide) ?_
            have hl := lv_sub (l' := [(0, .ref t), (1, .int p0), (4, va_rf v4), (5, .long r8), (7, .int v7), (8, .int (v8 + 1))]) hl [3, 4, 5, 1, 6, 0] rfl
            exact ih _ t p0 v4 r8 v7 (v8 + 1) _ _ hw hP hS ls hl
          · replace hw := hw.2 c16
            refine lv_iinc (v := (v7 + 1)) (lv' := [(7, .int (v7 + 1)), (5, .long r8), (9, .ref a7), (0, .ref t), (1, .int p0), (4, va_rf v4), (8, .int v8)]) hx hb dX4_pay_72 hl (k := 5) rfl rfl (by decide) rfl (fun ls hl => ?_)
            refine lv_iinc (v := (v8 + 1)) (lv' := [(8, .int (v8 + 1)), (7, .int (v7 + 1)), (5, .long r8), (9, .ref a7), (0, .ref t), (1, .int p0), (4, va_rf v4)]) hx hb dX4_pay_75 hl (k := 6) rfl rfl (by decide) rfl (fun ls hl => ?_)
            refine lv_goto (tgt := 24) hx hb dX4_pay_78 (by decide) ?_
            have hl := lv_sub (l' := [(0, .ref t), (1, .int p0), (4, va_rf v4), (5, .long r8), (7, .int (v7 + 1)), (8, .int (v8 + 1))]) hl [4, 5, 6, 2, 1, 0] rfl
            exact ih _ t p0 v4 r8 (v7 + 1) (v8 + 1) _ _ hw hP hS ls hl
def wX4_pay (post : Int32 → gh_H → Prop) (px : String → gh_H → Prop) (G : gh_H) (t : Nat) (p0 : Int32) (p1 : Int64) : Prop := ∃ fs3 : List Value, G t = some (.inr (4, fs3)) ∧ wX4_findOwner (fun r1 G2 => wX4_requireRange (fun G6 => wX4_pay_24 post px 300 G6 t p0 r1 p1 0 0) px G2 p1 1 1000000000) px G t p0
set_option maxRecDepth 100000 in
set_option maxHeartbeats 4000000 in
theorem mX4_pay (l : Launch) (hl0 : l.stackTraces = false) (D : va_G) (AC : Nat → ClassId) (sa : gh_SA) (t : Nat) (p0 : Int32) (p1 : Int64) (post : Int32 → gh_H → Prop) (px : String → gh_H → Prop) (G : gh_H) (sz : Nat) (hw : wX4_pay post px G t p0 p1) : vx_Met l yX4_pay wsX4_pay rmX4_pay (gh_Pc D vwCl AC (gh_ty AC) (gh_En sa) G sz [.ref t, .int p0, .long p1]) (va_Qi post (gh_B D vwCl AC (gh_A G sz)) (gh_A G sz)) (gh_X D vwCl AC px (gh_A G sz)) 2 12 (gh_A G sz) := by
  refine vx_ofW (cc := prog_1_method_14_code) (maxL := 10) (ret := (some .int)) (by decide) rfl ?_
  intro p e s m args below meth c s₁ B hml hnoh hv
  obtain ⟨rfl, hsz, hP, hK, hE⟩ := hv
  have hx := B.exec
  have hb := B.bytes
  have hr := B.returns
  have hts := atoms_spec (ws := wsX4_pay) B.pre
  have hown : s.vm.findClass "OwnerLedger" = some m.cls := findClass_of_methodNamed B.named
  have hlocks := B.notSynchronized
  have htb : c.exceptionTable.toList = [] := List.eq_nil_iff_forall_not_mem.mpr hnoh
  subst hsz
  have hA : ∀ q, s.heap.size ≤ q → gh_A G s.heap.size q := fun q h => Or.inr h
  generalize gh_A G s.heap.size = A at hP hE hA ⊢
  have hno : ∀ (pc : Nat), ∀ x ∈ c.exceptionTable.toList, covers x pc = false := by rw [htb]; intro _ _ h; cases h
  have CX : cxX4_pay p s m [.ref t, .int p0, .long p1].toArray meth c D AC sa A := ⟨⟨hx, hb, hml, hown, hts⟩, hr, hlocks, htb, hK, hE, hA⟩
  have hS : va_S A s.heap s.heap [] := va_S.rf
  have hl := lv_entry ([.ref t, .int p0, .long p1]) (n := 10) (Nat.le_of_ble_eq_true rfl)
  rw [lg_entry_eq]
  generalize (lg_sl ([.ref t, .int p0, .long p1]) ++ List.replicate (10 - (lg_sl ([.ref t, .int p0, .long p1])).length) Slot.unset).toArray = ls at hl ⊢
  have hl : lv_has ls 10 [(0, .ref t), (1, .int p0), (2, .long p1)] := hl
  dsimp only [wX4_pay] at hw
  refine lv_aload_n hx hb dX4_pay_0 rfl (lv_at hl 0 rfl) ?_
  refine lv_iload_n hx hb dX4_pay_1 rfl (lv_at hl 1 rfl) ?_
  obtain ⟨fs3, he4, hw⟩ := hw
  refine gh_cq hlocks (hno _) (vx_runV (C := "OwnerLedger") (As := [.int p0]) (rest := []) ⟨hx, hb, hml, hown, hts⟩ (mX4_findOwner l hl0 D AC sa _ _ _ _ _ _ hw) (cwV 1 hts (gV kw_80 kw_81 kw_533 kw_1 kw_82) rfl rfl rfl (by decide +kernel) ⟨Nat.le_of_ble_eq_true rfl, Nat.le_of_ble_eq_true rfl⟩) (gh_preV gh_En_ok hK hE hP hS hA he4 rfl _) rfl rfl hl.1 rfl (lv_room (Nat.le_of_ble_eq_true rfl)) dX4_pay_2 ⟨Nat.le_of_ble_eq_true rfl, Nat.le_of_ble_eq_true rfl⟩) hP hS hA (Nat.le_of_ble_eq_true rfl) (Nat.le_of_ble_eq_true rfl) (fun r1 G2 H locs hw2 hP hS => ?_)
  replace hw := hw2
  clear hw2
  refine gh_astore (lv' := [(4, va_rf r1), (0, .ref t), (1, .int p0), (2, .long p1)]) hx hb dX4_pay_5 hl (by decide) rfl (fun ls hl => ?_)
  refine lv_lload_n hx hb dX4_pay_7 rfl (lv_at hl 3 rfl) ?_
  refine lv_lconst (v := 1) hx hb dX4_pay_8 (by decide) ?_
  refine lv_ldc2 (v := 1000000000) hx hb hown (hts _ (gT_up kw_158)) dX4_pay_9 ?_
  refine gh_cv_ hlocks (hno _) (vx_runS (As := [.long p1, .long 1, .long 1000000000]) (rest := []) ⟨hx, hb, hml, hown, hts⟩ (mX4_requireRange l hl0 D AC sa _ _ _ _ _ _ _ hw) (va_cwS 3 hts (gS kw_89 kw_90 kw_1 kw_91) rfl rfl rfl (by decide +kernel) ⟨Nat.le_of_ble_eq_true rfl, Nat.le_of_ble_eq_true rfl⟩) (gh_pre gh_En_ok hK hE hP hS hA _) rfl rfl hl.1 rfl (lv_room (Nat.le_of_ble_eq_true rfl)) dX4_pay_12 ⟨Nat.le_of_ble_eq_true rfl, Nat.le_of_ble_eq_true rfl⟩) hP hS hA (Nat.le_of_ble_eq_true rfl) (Nat.le_of_ble_eq_true rfl) (fun G6 H locs hw2 hP hS => ?_)
  replace hw := hw2
  clear hw2
  refine lv_lload_n hx hb dX4_pay_15 rfl (lv_at hl 3 rfl) ?_
  refine lv_lstore (lv' := [(5, .long p1), (4, va_rf r1), (0, .ref t), (1, .int p0), (2, .long p1)]) hx hb dX4_pay_16 hl (by decide) (by cases r1 <;> rfl) (fun ls hl => ?_)
  refine lv_iconst (v := 0) hx hb dX4_pay_18 (by decide) ?_
  refine lv_istore (lv' := [(7, .int 0), (5, .long p1), (4, va_rf r1), (0, .ref t), (1, .int p0), (2, .long p1)]) hx hb dX4_pay_19 hl (by decide) rfl (fun ls hl => ?_)
  refine lv_iconst (v := 0) hx hb dX4_pay_21 (by decide) ?_
  refine lv_istore (lv' := [(8, .int 0), (7, .int 0), (5, .long p1), (4, va_rf r1), (0, .ref t), (1, .int p0), (2, .long p1)]) hx hb dX4_pay_22 hl (by decide) rfl (fun ls hl => ?_)
  have hl := lv_sub (l' := [(0, .ref t), (1, .int p0), (4, va_rf r1), (5, .long p1), (7, .int 0), (8, .int 0)]) hl [4, 5, 3, 2, 1, 0] rfl
  exact lX4_pay_24 hl0 CX post px _ _ t p0 r1 p1 0 0 _ _ hw hP hS ls hl
abbrev rmX4_findInvoice : Room := { frames := 6, cells := 1, slots := 6, locals := 82 }
abbrev cxX4_findInvoice (p : Program) (s : State) (m : MethodId) (args : Array Value) (meth : Method) (c : Code) (D : va_G) (AC : Nat → ClassId) (sa : gh_SA) (A : Nat → Prop) : Prop := CallFix p m c prog_1_method_32_code 3 s args wsX4_findInvoice "OwnerLedger" ∧ meth.sig.returnType = (some (.object "OwnerLedger$Invoice")) ∧ meth.locks = false ∧ c.exceptionTable.toList = [] ∧ va_K D vwCl (gh_ty AC) s ∧ gh_En sa A s s.heap ∧ (∀ q, s.heap.size ≤ q → A q)
def wX4_findInvoice_26 (post : Option Nat → gh_H → Prop) (px : String → gh_H → Prop) (G : gh_H) (s0 : Option Nat) : Prop := (s0 = none → (px "java/util/NoSuchElementException" G)) ∧ (∀ a1 : Nat, s0 = some a1 → (post (some a1) G))
set_option maxRecDepth 100000 in
set_option maxHeartbeats 4000000 in
theorem lX4_findInvoice_26 {p : Program} {l : Launch} {e : Env} {s : State} {m : MethodId} {args : Array Value} {below : List Frame} {meth : Method} {c : Code} {D : va_G} {AC : Nat → ClassId} {sa : gh_SA} {A : Nat → Prop} (hl0 : l.stackTraces = false) (CX : cxX4_findInvoice p s m args meth c D AC sa A) (post : Option Nat → gh_H → Prop) (px : String → gh_H → Prop) : ∀ (G : gh_H) (s0 : Option Nat) (H : Heap) (locs : List Loc), wX4_findInvoice_26 post px G s0 → gh_h D vwCl AC A G H → va_S A s.heap H locs → ∀ ls : Array Slot, lv_has ls 3 [] → W p l e rmX4_findInvoice s m args below meth c H locs 0 0 (vx_MQ below (va_Qq post (gh_B D vwCl AC A) A) (gh_X D vwCl AC px A) args s 1 6 A) (F0 m 26 ls [va_rf s0]) := by
  obtain ⟨⟨hx, hb, hml, hown, hts⟩, hr, hlocks, htb, hK, hE, hA⟩ := id CX
  have hno : ∀ (pc : Nat), ∀ x ∈ c.exceptionTable.toList, covers x pc = false := by rw [htb]; intro _ _ h; cases h
  intro G s0 H locs hw hP hS ls hl
  dsimp only [wX4_findInvoice_26] at hw
  refine gh_astore_n (lv' := [(2, va_rf s0)]) hx hb dX4_findInvoice_26 rfl hl (by decide) rfl (fun ls hl => ?_)
  refine gh_aload_n hx hb dX4_findInvoice_27 rfl (lv_at hl 0 rfl) ?_
  rcases s0 with _ | a1
  · replace hw := hw.1 rfl
    have hl : lv_has ls 3 [(2, .null)] := hl
    refine lv_ifnonnullN hx hb dX4_findInvoice_28 ?_
    exact gx_throwSXW (own := "OwnerLedger") (cls := "java/util/NoSuchElementException") (names := ["java/lang/RuntimeException", "java/lang/Exception"]) hx hb hl0 gx_n0 gx_n1 gx_n2 gx_n5 hown (by decide +kernel) (by decide +kernel) (hts _ (gT_up kw_83)) (hts _ (gT_up kw_5)) (gh_str hE (own := "OwnerLedger") (k := 268) (tx := "there is no such invoice") (by decide)) (gh_hat1 hts hE) gh_got1 hE.1 hE.2.1 hS (hl.1.trans hml.symm) dX4_findInvoice_31 dX4_findInvoice_34 dX4_findInvoice_35 dX4_findInvoice_38 dX4_findInvoice_41 (hno _) (Nat.le_of_ble_eq_true rfl) (Nat.le_of_ble_eq_true rfl) (Nat.le_of_ble_eq_true rfl) (Nat.le_of_ble_eq_true rfl) hlocks (gh_thrown hP hS hw) hS.2.2 (Nat.le_of_ble_eq_true rfl) (Nat.le_of_ble_eq_true rfl)
  · replace hw := hw.2 a1 rfl
    have hl : lv_has ls 3 [(2, .ref a1)] := hl
    refine lv_ifnonnull (tgt := 42) hx hb dX4_findInvoice_28 (by decide) ?_
    refine lv_aload_n hx hb dX4_findInvoice_42 rfl (lv_at hl 0 rfl) ?_
    exact gh_aret (o := (some a1)) hx hb hr hlocks hw hP hS (Nat.le_of_ble_eq_true rfl) (Nat.le_of_ble_eq_true rfl) dX4_findInvoice_43
def wX4_findInvoice (post : Option Nat → gh_H → Prop) (px : String → gh_H → Prop) (G : gh_H) (t : Nat) (p0 : Int32) : Prop := (p0 < 1 → (wX4_findInvoice_26 post px G none)) ∧ (¬ p0 < 1 → (∃ (fs2 : List Value) (x5 : Nat), G t = some (.inr (4, fs2)) ∧ fs2[3]? = some (.ref x5) ∧ (∃ (k6 : Nat) (n7 : vp_A), G x5 = some (.inl (k6, n7)) ∧ k6 < 7 ∧ ((p0 ≤ (Int32.ofNat n7.1) → (∃ (fs12 : List Value) (x15 : Nat), G t = some (.inr (4, fs12)) ∧ fs12[3]? = some (.ref x15) ∧ (∃ (k20 n16 : Nat) (f17 : Nat → Option Nat), G x15 = some (.inl (k20, n16, .inr (.inr (.inr (.inr f17))))) ∧ gh_isq k20 = true ∧ vp_in (p0 - 1) n16 ∧ (∀ o22 : Option Nat, o22 = f17 (Int32.toNatClampNeg (p0 - 1)) → wX4_findInvoice_26 post px G o22)))) ∧ (¬ p0 ≤ (Int32.ofNat n7.1) → (wX4_findInvoice_26 post px G none))))))
set_option maxRecDepth 100000 in
set_option maxHeartbeats 4000000 in
theorem mX4_findInvoice (l : Launch) (hl0 : l.stackTraces = false) (D : va_G) (AC : Nat → ClassId) (sa : gh_SA) (t : Nat) (p0 : Int32) (post : Option Nat → gh_H → Prop) (px : String → gh_H → Prop) (G : gh_H) (sz : Nat) (hw : wX4_findInvoice post px G t p0) : vx_Met l yX4_findInvoice wsX4_findInvoice rmX4_findInvoice (gh_Pc D vwCl AC (gh_ty AC) (gh_En sa) G sz [.ref t, .int p0]) (va_Qq post (gh_B D vwCl AC (gh_A G sz)) (gh_A G sz)) (gh_X D vwCl AC px (gh_A G sz)) 1 6 (gh_A G sz) := by
  refine vx_ofW (cc := prog_1_method_32_code) (maxL := 3) (ret := (some (.object "OwnerLedger$Invoice"))) (by decide) rfl ?_
  intro p e s m args below meth c s₁ B hml hnoh hv
  obtain ⟨rfl, hsz, hP, hK, hE⟩ := hv
  have hx := B.exec
  have hb := B.bytes
  have hr := B.returns
  have hts := atoms_spec (ws := wsX4_findInvoice) B.pre
  have hown : s.vm.findClass "OwnerLedger" = some m.cls := findClass_of_methodNamed B.named
  have hlocks := B.notSynchronized
  have htb : c.exceptionTable.toList = [] := List.eq_nil_iff_forall_not_mem.mpr hnoh
  subst hsz
  have hA : ∀ q, s.heap.size ≤ q → gh_A G s.heap.size q := fun q h => Or.inr h
  generalize gh_A G s.heap.size = A at hP hE hA ⊢
  have hno : ∀ (pc : Nat), ∀ x ∈ c.exceptionTable.toList, covers x pc = false := by rw [htb]; intro _ _ h; cases h
  have CX : cxX4_findInvoice p s m [.ref t, .int p0].toArray meth c D AC sa A := ⟨⟨hx, hb, hml, hown, hts⟩, hr, hlocks, htb, hK, hE, hA⟩
  have hS : va_S A s.heap s.heap [] := va_S.rf
  have hl := lv_entry ([.ref t, .int p0]) (n := 3) (Nat.le_of_ble_eq_true rfl)
  rw [lg_entry_eq]
  generalize (lg_sl ([.ref t, .int p0]) ++ List.replicate (3 - (lg_sl ([.ref t, .int p0])).length) Slot.unset).toArray = ls at hl ⊢
  have hl : lv_has ls 3 [(0, .ref t), (1, .int p0)] := hl
  dsimp only [wX4_findInvoice] at hw
  refine lv_iload_n hx hb dX4_findInvoice_0 rfl (lv_at hl 1 rfl) ?_
  refine lv_iconst (v := 1) hx hb dX4_findInvoice_1 (by decide) ?_
  refine lv_icmp_lt (tgt := 14) hx hb dX4_findInvoice_2 (by decide) (fun c1 => ?_) (fun c1 => ?_)
  · replace hw := hw.1 c1
    refine lv_null hx hb dX4_findInvoice_14 ?_
    refine lv_goto (tgt := 26) hx hb dX4_findInvoice_15 (by decide) ?_
    have hl := lv_sub (l' := []) hl [] rfl
    exact lX4_findInvoice_26 hl0 CX post px _ none _ _ hw hP hS ls hl
  · replace hw := hw.2 c1
    refine lv_iload_n hx hb dX4_findInvoice_5 rfl (lv_at hl 1 rfl) ?_
    refine lv_aload_n hx hb dX4_findInvoice_6 rfl (lv_at hl 0 rfl) ?_
    obtain ⟨fs2, x5, he3, hv4, hw⟩ := hw
    refine gh_get (ci := 4) (v := .ref x5) (C := "OwnerLedger") (T := TX4) (N := 11) hx hb hts (fun w h => gT_up (inX4 w h)) hown hK hP he3 rfl 3 (by decide) (hts _ (gT_up kw_26)) (fun _ h9 => h9) hv4 dX4_findInvoice_7 ?_
    obtain ⟨k6, n7, he9, hk10, hw⟩ := hw
    obtain ⟨ty9, ht9⟩ := gh_tyat AC hk10
    refine gh_alen hx hb hK hP he9 ht9 rfl dX4_findInvoice_10 ?_
    refine lv_icmp_le (tgt := 18) hx hb dX4_findInvoice_11 (by decide) (fun c11 => ?_) (fun c11 => ?_)
    · replace hw := hw.1 c11
      refine lv_aload_n hx hb dX4_findInvoice_18 rfl (lv_at hl 0 rfl) ?_
      obtain ⟨fs12, x15, he13, hv14, hw⟩ := hw
      refine gh_get (ci := 4) (v := .ref x15) (C := "OwnerLedger") (T := TX4) (N := 11) hx hb hts (fun w h => gT_up (inX4 w h)) hown hK hP he13 rfl 3 (by decide) (hts _ (gT_up kw_26)) (fun _ h9 => h9) hv14 dX4_findInvoice_19 ?_
      refine lv_iload_n hx hb dX4_findInvoice_22 rfl (lv_at hl 1 rfl) ?_
      refine lv_iconst (v := 1) hx hb dX4_findInvoice_23 (by decide) ?_
      refine lv_isub hx hb dX4_findInvoice_24 ?_
      obtain ⟨k20, n16, f17, he18, hk21, hi19, hw⟩ := hw
      obtain ⟨C9, ht9⟩ := gh_tyq AC hk21
      refine gh_aald hx hb hK hP he18 ht9 hi19 dX4_findInvoice_25 ?_
      obtain ⟨o22, eo23⟩ : ∃ z : Option Nat, z = f17 (Int32.toNatClampNeg (p0 - 1)) := ⟨_, rfl⟩
      rw [← eo23]
      replace hw := hw o22 eo23
      have hl := lv_sub (l' := []) hl [] rfl
      exact lX4_findInvoice_26 hl0 CX post px _ o22 _ _ hw hP hS ls hl
    · replace hw := hw.2 c11
      refine lv_null hx hb dX4_findInvoice_14 ?_
      refine lv_goto (tgt := 26) hx hb dX4_findInvoice_15 (by decide) ?_
      have hl := lv_sub (l' := []) hl [] rfl
      exact lX4_findInvoice_26 hl0 CX post px _ none _ _ hw hP hS ls hl
abbrev rmX4_settle : Room := { frames := 7, cells := 3, slots := 18, locals := 107 }
abbrev cxX4_settle (p : Program) (s : State) (m : MethodId) (args : Array Value) (meth : Method) (c : Code) (D : va_G) (AC : Nat → ClassId) (sa : gh_SA) (A : Nat → Prop) : Prop := CallFix p m c prog_1_method_15_code 6 s args wsX4_settle "OwnerLedger" ∧ meth.sig.returnType = (some .long) ∧ meth.locks = false ∧ c.exceptionTable.toList = [] ∧ va_K D vwCl (gh_ty AC) s ∧ gh_En sa A s s.heap ∧ (∀ q, s.heap.size ≤ q → A q)
def wX4_settle (post : Int64 → gh_H → Prop) (px : String → gh_H → Prop) (G : gh_H) (t : Nat) (p0 : Int32) (p1 : Int64) : Prop := ∃ fs3 : List Value, G t = some (.inr (4, fs3)) ∧ wX4_findInvoice (fun r1 G2 => wX4_requireRange (fun G6 => ∃ a7 : Nat, r1 = some a7 ∧ ∃ (fs8 : List Value) (x11 : Int32), G6 a7 = some (.inr (1, fs8)) ∧ fs8[0]? = some (.int x11) ∧ (∃ fs14 : List Value, G6 t = some (.inr (4, fs14)) ∧ wX4_findOwner (fun r12 G13 => ∃ a16 : Nat, r12 = some a16 ∧ ∃ (fs17 : List Value) (x20 : Int64), G13 a16 = some (.inr (2, fs17)) ∧ fs17[0]? = some (.long x20) ∧ (∃ fs23 : List Value, G13 a7 = some (.inr (1, fs23)) ∧ wX1_takeFrom (fun r21 G22 => ∃ fs25 : List Value, G22 a16 = some (.inr (2, fs25)) ∧ 0 < fs25.length ∧ (∀ G28 : gh_H, G28 = gh_up G22 a16 (.inr (2, fs25.set 0 (.long (x20 + r21)))) → ∃ (fs30 : List Value) (x33 : Int64), G28 a7 = some (.inr (1, fs30)) ∧ fs30[2]? = some (.long x33) ∧ (post x33 G28))) px G13 a7 p1)) px G6 t x11)) px G2 p1 1 1000000000) px G t p0
set_option maxRecDepth 100000 in
set_option maxHeartbeats 4000000 in
theorem mX4_settle (l : Launch) (hl0 : l.stackTraces = false) (D : va_G) (AC : Nat → ClassId) (sa : gh_SA) (t : Nat) (p0 : Int32) (p1 : Int64) (post : Int64 → gh_H → Prop) (px : String → gh_H → Prop) (G : gh_H) (sz : Nat) (hw : wX4_settle post px G t p0 p1) : vx_Met l yX4_settle wsX4_settle rmX4_settle (gh_Pc D vwCl AC (gh_ty AC) (gh_En sa) G sz [.ref t, .int p0, .long p1]) (va_Ql post (gh_B D vwCl AC (gh_A G sz)) (gh_A G sz)) (gh_X D vwCl AC px (gh_A G sz)) 3 18 (gh_A G sz) := by
  refine vx_ofW (cc := prog_1_method_15_code) (maxL := 6) (ret := (some .long)) (by decide) rfl ?_
  intro p e s m args below meth c s₁ B hml hnoh hv
  obtain ⟨rfl, hsz, hP, hK, hE⟩ := hv
  have hx := B.exec
  have hb := B.bytes
  have hr := B.returns
  have hts := atoms_spec (ws := wsX4_settle) B.pre
  have hown : s.vm.findClass "OwnerLedger" = some m.cls := findClass_of_methodNamed B.named
  have hlocks := B.notSynchronized
  have htb : c.exceptionTable.toList = [] := List.eq_nil_iff_forall_not_mem.mpr hnoh
  subst hsz
  have hA : ∀ q, s.heap.size ≤ q → gh_A G s.heap.size q := fun q h => Or.inr h
  generalize gh_A G s.heap.size = A at hP hE hA ⊢
  have hno : ∀ (pc : Nat), ∀ x ∈ c.exceptionTable.toList, covers x pc = false := by rw [htb]; intro _ _ h; cases h
  have CX : cxX4_settle p s m [.ref t, .int p0, .long p1].toArray meth c D AC sa A := ⟨⟨hx, hb, hml, hown, hts⟩, hr, hlocks, htb, hK, hE, hA⟩
  have hS : va_S A s.heap s.heap [] := va_S.rf
  have hl := lv_entry ([.ref t, .int p0, .long p1]) (n := 6) (Nat.le_of_ble_eq_true rfl)
  rw [lg_entry_eq]
  generalize (lg_sl ([.ref t, .int p0, .long p1]) ++ List.replicate (6 - (lg_sl ([.ref t, .int p0, .long p1])).length) Slot.unset).toArray = ls at hl ⊢
  have hl : lv_has ls 6 [(0, .ref t), (1, .int p0), (2, .long p1)] := hl
  dsimp only [wX4_settle] at hw
  refine lv_aload_n hx hb dX4_settle_0 rfl (lv_at hl 0 rfl) ?_
  refine lv_iload_n hx hb dX4_settle_1 rfl (lv_at hl 1 rfl) ?_
  obtain ⟨fs3, he4, hw⟩ := hw
  refine gh_cq hlocks (hno _) (vx_runV (C := "OwnerLedger") (As := [.int p0]) (rest := []) ⟨hx, hb, hml, hown, hts⟩ (mX4_findInvoice l hl0 D AC sa _ _ _ _ _ _ hw) (cwV 1 hts (gV kw_285 kw_286 kw_538 kw_1 kw_287) rfl rfl rfl (by decide +kernel) ⟨Nat.le_of_ble_eq_true rfl, Nat.le_of_ble_eq_true rfl⟩) (gh_preV gh_En_ok hK hE hP hS hA he4 rfl _) rfl rfl hl.1 rfl (lv_room (Nat.le_of_ble_eq_true rfl)) dX4_settle_2 ⟨Nat.le_of_ble_eq_true rfl, Nat.le_of_ble_eq_true rfl⟩) hP hS hA (Nat.le_of_ble_eq_true rfl) (Nat.le_of_ble_eq_true rfl) (fun r1 G2 H locs hw2 hP hS => ?_)
  replace hw := hw2
  clear hw2
  refine gh_astore (lv' := [(4, va_rf r1), (0, .ref t), (1, .int p0), (2, .long p1)]) hx hb dX4_settle_5 hl (by decide) rfl (fun ls hl => ?_)
  refine lv_lload_n hx hb dX4_settle_7 rfl (lv_at hl 3 rfl) ?_
  refine lv_lconst (v := 1) hx hb dX4_settle_8 (by decide) ?_
  refine lv_ldc2 (v := 1000000000) hx hb hown (hts _ (gT_up kw_158)) dX4_settle_9 ?_
  refine gh_cv_ hlocks (hno _) (vx_runS (As := [.long p1, .long 1, .long 1000000000]) (rest := []) ⟨hx, hb, hml, hown, hts⟩ (mX4_requireRange l hl0 D AC sa _ _ _ _ _ _ _ hw) (va_cwS 3 hts (gS kw_89 kw_90 kw_1 kw_91) rfl rfl rfl (by decide +kernel) ⟨Nat.le_of_ble_eq_true rfl, Nat.le_of_ble_eq_true rfl⟩) (gh_pre gh_En_ok hK hE hP hS hA _) rfl rfl hl.1 rfl (lv_room (Nat.le_of_ble_eq_true rfl)) dX4_settle_12 ⟨Nat.le_of_ble_eq_true rfl, Nat.le_of_ble_eq_true rfl⟩) hP hS hA (Nat.le_of_ble_eq_true rfl) (Nat.le_of_ble_eq_true rfl) (fun G6 H locs hw2 hP hS => ?_)
  replace hw := hw2
  clear hw2
  refine lv_aload_n hx hb dX4_settle_15 rfl (lv_at hl 1 rfl) ?_
  refine gh_aload hx hb dX4_settle_16 (lv_at hl 0 rfl) ?_
  obtain ⟨a7, ea7, hw⟩ := hw
  subst ea7
  have hl : lv_has ls 6 [(4, .ref a7), (0, .ref t), (1, .int p0), (2, .long p1)] := hl
  obtain ⟨fs8, x11, he9, hv10, hw⟩ := hw
  refine gh_get (ci := 1) (v := .int x11) (C := "OwnerLedger$Invoice") (T := TX1) (N := 5) hx hb hts (fun w h => gT_up (inX1 w h)) hown hK hP he9 rfl 0 (by decide) (hts _ (gT_up kw_253)) (fun _ h9 => h9) hv10 dX4_settle_18 ?_
  obtain ⟨fs14, he15, hw⟩ := hw
  refine gh_cq hlocks (hno _) (vx_runV (C := "OwnerLedger") (As := [.int x11]) (rest := []) ⟨hx, hb, hml, hown, hts⟩ (mX4_findOwner l hl0 D AC sa _ _ _ _ _ _ hw) (cwV 1 hts (gV kw_80 kw_81 kw_533 kw_1 kw_82) rfl rfl rfl (by decide +kernel) ⟨Nat.le_of_ble_eq_true rfl, Nat.le_of_ble_eq_true rfl⟩) (gh_preV gh_En_ok hK hE hP hS hA he15 rfl _) rfl rfl hl.1 rfl (lv_room (Nat.le_of_ble_eq_true rfl)) dX4_settle_21 ⟨Nat.le_of_ble_eq_true rfl, Nat.le_of_ble_eq_true rfl⟩) hP hS hA (Nat.le_of_ble_eq_true rfl) (Nat.le_of_ble_eq_true rfl) (fun r12 G13 H locs hw2 hP hS => ?_)
  replace hw := hw2
  clear hw2
  refine gh_astore (lv' := [(5, va_rf r12), (4, .ref a7), (0, .ref t), (1, .int p0), (2, .long p1)]) hx hb dX4_settle_24 hl (by decide) rfl (fun ls hl => ?_)
  refine gh_aload hx hb dX4_settle_26 (lv_at hl 0 rfl) ?_
  refine lv_dup hx hb dX4_settle_28 (gh_cat _) ?_
  obtain ⟨a16, ea16, hw⟩ := hw
  subst ea16
  have hl : lv_has ls 6 [(5, .ref a16), (4, .ref a7), (0, .ref t), (1, .int p0), (2, .long p1)] := hl
  obtain ⟨fs17, x20, he18, hv19, hw⟩ := hw
  refine gh_get (ci := 2) (v := .long x20) (C := "OwnerLedger$Owner") (T := TX2) (N := 2) hx hb hts (fun w h => gT_up (inX2 w h)) hown hK hP he18 rfl 0 (by decide) (hts _ (gT_up kw_69)) (fun _ h9 => h9) hv19 dX4_settle_29 ?_
  refine lv_aload hx hb dX4_settle_32 (lv_at hl 1 rfl) ?_
  refine lv_lload_n hx hb dX4_settle_34 rfl (lv_at hl 4 rfl) ?_
  obtain ⟨fs23, he24, hw⟩ := hw
  refine gh_cl hlocks (hno _) (vx_runV (C := "OwnerLedger$Invoice") (As := [.long p1]) (rest := [.long x20, .ref a16]) ⟨hx, hb, hml, hown, hts⟩ (mX1_takeFrom l hl0 D AC sa _ _ _ _ _ _ hw) (cwV 1 hts (gV kw_261 kw_262 kw_263 kw_10 kw_264) rfl rfl rfl (by decide +kernel) ⟨Nat.le_of_ble_eq_true rfl, Nat.le_of_ble_eq_true rfl⟩) (gh_preV gh_En_ok hK hE hP hS hA he24 rfl _) rfl rfl hl.1 rfl (lv_room (Nat.le_of_ble_eq_true rfl)) dX4_settle_35 ⟨Nat.le_of_ble_eq_true rfl, Nat.le_of_ble_eq_true rfl⟩) hP hS hA (Nat.le_of_ble_eq_true rfl) (Nat.le_of_ble_eq_true rfl) (fun r21 G22 H locs hw2 hP hS => ?_)
  replace hw := hw2
  clear hw2
  refine lv_ladd hx hb dX4_settle_38 ?_
  obtain ⟨fs25, he26, hk27, hw⟩ := hw
  refine gh_put (ci := 2) (v := .long (x20 + r21)) (ty := .long) (C := "OwnerLedger$Owner") (T := TX2) (N := 2) hx hb hts (fun w h => gT_up (inX2 w h)) tyX2 tyX2_ok nmX2 hown hK hP hS he26 rfl 0 (by decide) (hts _ (gT_up kw_69)) (fun _ h9 => h9) rfl (by decide +kernel) rfl rfl hk27 dX4_settle_39 (fun G28 H locs eG29 hP hS => ?_)
  replace hw := hw G28 eG29
  refine lv_aload hx hb dX4_settle_42 (lv_at hl 1 rfl) ?_
  obtain ⟨fs30, x33, he31, hv32, hw⟩ := hw
  refine gh_get (ci := 1) (v := .long x33) (C := "OwnerLedger$Invoice") (T := TX1) (N := 5) hx hb hts (fun w h => gT_up (inX1 w h)) hown hK hP he31 rfl 2 (by decide) (hts _ (gT_up kw_257)) (fun _ h9 => h9) hv32 dX4_settle_44 ?_
  exact gh_lret hx hb hr hlocks hw hP hS (Nat.le_of_ble_eq_true rfl) (Nat.le_of_ble_eq_true rfl) dX4_settle_47
abbrev rmX4_dispute : Room := { frames := 7, cells := 2, slots := 12, locals := 104 }
abbrev cxX4_dispute (p : Program) (s : State) (m : MethodId) (args : Array Value) (meth : Method) (c : Code) (D : va_G) (AC : Nat → ClassId) (sa : gh_SA) (A : Nat → Prop) : Prop := CallFix p m c prog_1_method_16_code 4 s args wsX4_dispute "OwnerLedger" ∧ meth.sig.returnType = (some .long) ∧ meth.locks = false ∧ c.exceptionTable.toList = [] ∧ va_K D vwCl (gh_ty AC) s ∧ gh_En sa A s s.heap ∧ (∀ q, s.heap.size ≤ q → A q)
def wX4_dispute (post : Int64 → gh_H → Prop) (px : String → gh_H → Prop) (G : gh_H) (t : Nat) (p0 : Int32) (p1 : Int32) : Prop := ∃ fs3 : List Value, G t = some (.inr (4, fs3)) ∧ wX4_findInvoice (fun r1 G2 => ∃ a5 : Nat, r1 = some a5 ∧ ∃ (fs6 : List Value) (x9 : Int32), G2 a5 = some (.inr (1, fs6)) ∧ fs6[4]? = some (.int x9) ∧ ((¬ x9 = p1 → (∃ fs11 : List Value, G2 a5 = some (.inr (1, fs11)) ∧ 4 < fs11.length ∧ narrow .boolean (.int p1) = .int p1 ∧ fits .boolean (.int p1) = true ∧ (∀ G16 : gh_H, G16 = gh_up G2 a5 (.inr (1, fs11.set 4 (.int p1))) → ∃ (fs18 : List Value) (x21 : Int64), G16 a5 = some (.inr (1, fs18)) ∧ fs18[2]? = some (.long x21) ∧ (post x21 G16)))) ∧ (x9 = p1 → (px "java/lang/IllegalStateException" G2)))) px G t p0
set_option maxRecDepth 100000 in
set_option maxHeartbeats 4000000 in
theorem mX4_dispute (l : Launch) (hl0 : l.stackTraces = false) (D : va_G) (AC : Nat → ClassId) (sa : gh_SA) (t : Nat) (p0 : Int32) (p1 : Int32) (post : Int64 → gh_H → Prop) (px : String → gh_H → Prop) (G : gh_H) (sz : Nat) (hw : wX4_dispute post px G t p0 p1) : vx_Met l yX4_dispute wsX4_dispute rmX4_dispute (gh_Pc D vwCl AC (gh_ty AC) (gh_En sa) G sz [.ref t, .int p0, .int p1]) (va_Ql post (gh_B D vwCl AC (gh_A G sz)) (gh_A G sz)) (gh_X D vwCl AC px (gh_A G sz)) 2 12 (gh_A G sz) := by
  refine vx_ofW (cc := prog_1_method_16_code) (maxL := 4) (ret := (some .long)) (by decide) rfl ?_
  intro p e s m args below meth c s₁ B hml hnoh hv
  obtain ⟨rfl, hsz, hP, hK, hE⟩ := hv
  have hx := B.exec
  have hb := B.bytes
  have hr := B.returns
  have hts := atoms_spec (ws := wsX4_dispute) B.pre
  have hown : s.vm.findClass "OwnerLedger" = some m.cls := findClass_of_methodNamed B.named
  have hlocks := B.notSynchronized
  have htb : c.exceptionTable.toList = [] := List.eq_nil_iff_forall_not_mem.mpr hnoh
  subst hsz
  have hA : ∀ q, s.heap.size ≤ q → gh_A G s.heap.size q := fun q h => Or.inr h
  generalize gh_A G s.heap.size = A at hP hE hA ⊢
  have hno : ∀ (pc : Nat), ∀ x ∈ c.exceptionTable.toList, covers x pc = false := by rw [htb]; intro _ _ h; cases h
  have CX : cxX4_dispute p s m [.ref t, .int p0, .int p1].toArray meth c D AC sa A := ⟨⟨hx, hb, hml, hown, hts⟩, hr, hlocks, htb, hK, hE, hA⟩
  have hS : va_S A s.heap s.heap [] := va_S.rf
  have hl := lv_entry ([.ref t, .int p0, .int p1]) (n := 4) (Nat.le_of_ble_eq_true rfl)
  rw [lg_entry_eq]
  generalize (lg_sl ([.ref t, .int p0, .int p1]) ++ List.replicate (4 - (lg_sl ([.ref t, .int p0, .int p1])).length) Slot.unset).toArray = ls at hl ⊢
  have hl : lv_has ls 4 [(0, .ref t), (1, .int p0), (2, .int p1)] := hl
  dsimp only [wX4_dispute] at hw
  refine lv_aload_n hx hb dX4_dispute_0 rfl (lv_at hl 0 rfl) ?_
  refine lv_iload_n hx hb dX4_dispute_1 rfl (lv_at hl 1 rfl) ?_
  obtain ⟨fs3, he4, hw⟩ := hw
  refine gh_cq hlocks (hno _) (vx_runV (C := "OwnerLedger") (As := [.int p0]) (rest := []) ⟨hx, hb, hml, hown, hts⟩ (mX4_findInvoice l hl0 D AC sa _ _ _ _ _ _ hw) (cwV 1 hts (gV kw_285 kw_286 kw_538 kw_1 kw_287) rfl rfl rfl (by decide +kernel) ⟨Nat.le_of_ble_eq_true rfl, Nat.le_of_ble_eq_true rfl⟩) (gh_preV gh_En_ok hK hE hP hS hA he4 rfl _) rfl rfl hl.1 rfl (lv_room (Nat.le_of_ble_eq_true rfl)) dX4_dispute_2 ⟨Nat.le_of_ble_eq_true rfl, Nat.le_of_ble_eq_true rfl⟩) hP hS hA (Nat.le_of_ble_eq_true rfl) (Nat.le_of_ble_eq_true rfl) (fun r1 G2 H locs hw2 hP hS => ?_)
  replace hw := hw2
  clear hw2
  refine gh_astore_n (lv' := [(3, va_rf r1), (0, .ref t), (1, .int p0), (2, .int p1)]) hx hb dX4_dispute_5 rfl hl (by decide) rfl (fun ls hl => ?_)
  refine gh_aload_n hx hb dX4_dispute_6 rfl (lv_at hl 0 rfl) ?_
  obtain ⟨a5, ea5, hw⟩ := hw
  subst ea5
  have hl : lv_has ls 4 [(3, .ref a5), (0, .ref t), (1, .int p0), (2, .int p1)] := hl
  obtain ⟨fs6, x9, he7, hv8, hw⟩ := hw
  refine gh_get (ci := 1) (v := .int x9) (C := "OwnerLedger$Invoice") (T := TX1) (N := 5) hx hb hts (fun w h => gT_up (inX1 w h)) hown hK hP he7 rfl 4 (by decide) (hts _ (gT_up kw_260)) (fun _ h9 => h9) hv8 dX4_dispute_7 ?_
  refine lv_iload_n hx hb dX4_dispute_10 rfl (lv_at hl 3 rfl) ?_
  refine lv_icmp_ne (tgt := 24) hx hb dX4_dispute_11 (by decide) (fun c10 => ?_) (fun c10 => ?_)
  · replace hw := hw.1 c10
    refine lv_aload_n hx hb dX4_dispute_24 rfl (lv_at hl 0 rfl) ?_
    refine lv_iload_n hx hb dX4_dispute_25 rfl (lv_at hl 3 rfl) ?_
    obtain ⟨fs11, he12, hk13, hn14, hf15, hw⟩ := hw
    refine gh_put (ci := 1) (v := .int p1) (ty := .boolean) (C := "OwnerLedger$Invoice") (T := TX1) (N := 5) hx hb hts (fun w h => gT_up (inX1 w h)) tyX1 tyX1_ok nmX1 hown hK hP hS he12 rfl 4 (by decide) (hts _ (gT_up kw_260)) (fun _ h9 => h9) rfl (by decide +kernel) hn14 hf15 hk13 dX4_dispute_26 (fun G16 H locs eG17 hP hS => ?_)
    replace hw := hw G16 eG17
    refine lv_aload_n hx hb dX4_dispute_29 rfl (lv_at hl 0 rfl) ?_
    obtain ⟨fs18, x21, he19, hv20, hw⟩ := hw
    refine gh_get (ci := 1) (v := .long x21) (C := "OwnerLedger$Invoice") (T := TX1) (N := 5) hx hb hts (fun w h => gT_up (inX1 w h)) hown hK hP he19 rfl 2 (by decide) (hts _ (gT_up kw_257)) (fun _ h9 => h9) hv20 dX4_dispute_30 ?_
    exact gh_lret hx hb hr hlocks hw hP hS (Nat.le_of_ble_eq_true rfl) (Nat.le_of_ble_eq_true rfl) dX4_dispute_33
  · replace hw := hw.2 c10
    exact vx_throwS (own := "OwnerLedger") (cls := "java/lang/IllegalStateException") (names := ["java/lang/RuntimeException", "java/lang/Exception"]) hx hb hl0 hown (by decide +kernel) (by decide +kernel) (hts _ (gT_up kw_113)) (hts _ (gT_up kw_7)) (gh_str hE (own := "OwnerLedger") (k := 193) (tx := "the invoice is so already") (by decide)) (gh_hat3 hts hE) gh_got3 hE.1 hE.2.1 hS (hl.1.trans hml.symm) dX4_dispute_14 dX4_dispute_17 dX4_dispute_18 dX4_dispute_20 dX4_dispute_23 (hno _) (Nat.le_of_ble_eq_true rfl) (Nat.le_of_ble_eq_true rfl) (Nat.le_of_ble_eq_true rfl) (Nat.le_of_ble_eq_true rfl) hlocks (gh_thrown hP hS hw) hS.2.2 (Nat.le_of_ble_eq_true rfl) (Nat.le_of_ble_eq_true rfl)
