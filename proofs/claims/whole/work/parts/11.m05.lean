abbrev rmX5_reverse : Room := { frames := 1, cells := 0, slots := 0, locals := 21 }
abbrev cxX5_reverse (p : Program) (s : State) (m : MethodId) (args : Array Value) (meth : Method) (c : Code) (D : va_G) (AC : Nat → ClassId) (sa : gh_SA) (A : Nat → Prop) : Prop := CallFix p m c prog_7_method_20_code 5 s args wsX5_reverse "OwnerLedgerModel" ∧ meth.sig.returnType = (some .int) ∧ meth.locks = false ∧ c.exceptionTable.toList = [] ∧ va_K D vwCl (gh_ty AC) s ∧ gh_En sa A s s.heap ∧ (∀ q, s.heap.size ≤ q → A q)
def wX5_reverse_105 (post : Int32 → gh_H → Prop) (px : String → gh_H → Prop) : Nat → gh_H → Nat → Int32 → Int32 → Int32 → Int32 → Prop
  | 0 => fun _ _ _ _ _ _ => False
  | n + 1 => fun G t p0 v2 v3 v4 => ∃ (fs1 : List Value) (x4 : Nat), G t = some (.inr (5, fs1)) ∧ fs1[11]? = some (.ref x4) ∧ (∃ (n5 : Nat) (f6 : Nat → Int32), G x4 = some (.inl (0, n5, .inl f6)) ∧ vp_in (p0 - 1) n5 ∧ (((f6 (Int32.toNatClampNeg (p0 - 1))) ≤ v4 → (∃ (fs10 : List Value) (x13 : Nat), G t = some (.inr (5, fs10)) ∧ fs10[11]? = some (.ref x13) ∧ (∃ (fs14 : List Value) (x17 : Int32), G t = some (.inr (5, fs14)) ∧ fs14[8]? = some (.int x17) ∧ (∃ (fs18 : List Value) (x21 : Nat), G t = some (.inr (5, fs18)) ∧ fs18[11]? = some (.ref x21) ∧ (∃ (n22 : Nat) (f23 : Nat → Int32), G x21 = some (.inl (0, n22, .inl f23)) ∧ vp_in (p0 - 1) n22 ∧ (∃ (n26 : Nat) (f27 : Nat → Int32), G x13 = some (.inl (0, n26, .inl f27)) ∧ vp_in (x17 - 1) n26 ∧ (∀ G31 : gh_H, G31 = gh_up G x13 (.inl (0, n26, .inl (upd f27 (Int32.toNatClampNeg (x17 - 1)) (f23 (Int32.toNatClampNeg (p0 - 1)))))) → ∃ (fs32 : List Value) (x35 : Nat), G31 t = some (.inr (5, fs32)) ∧ fs32[9]? = some (.ref x35) ∧ (∃ (fs36 : List Value) (x39 : Int32), G31 t = some (.inr (5, fs36)) ∧ fs36[8]? = some (.int x39) ∧ (∃ (n40 : Nat) (f41 : Nat → Int32), G31 x35 = some (.inl (0, n40, .inl f41)) ∧ vp_in (x39 - 1) n40 ∧ (∀ G45 : gh_H, G45 = gh_up G31 x35 (.inl (0, n40, .inl (upd f41 (Int32.toNatClampNeg (x39 - 1)) 1))) → ∃ (fs46 : List Value) (x49 : Nat), G45 t = some (.inr (5, fs46)) ∧ fs46[13]? = some (.ref x49) ∧ (∃ (fs50 : List Value) (x53 : Int32), G45 t = some (.inr (5, fs50)) ∧ fs50[8]? = some (.int x53) ∧ (∃ (n54 : Nat) (f55 : Nat → Int32), G45 x49 = some (.inl (0, n54, .inl f55)) ∧ vp_in (x53 - 1) n54 ∧ (∀ G59 : gh_H, G59 = gh_up G45 x49 (.inl (0, n54, .inl (upd f55 (Int32.toNatClampNeg (x53 - 1)) p0))) → ∃ (fs60 : List Value) (x63 : Nat), G59 t = some (.inr (5, fs60)) ∧ fs60[12]? = some (.ref x63) ∧ (∃ (fs64 : List Value) (x67 : Int32), G59 t = some (.inr (5, fs64)) ∧ fs64[8]? = some (.int x67) ∧ (∃ (n68 : Nat) (f69 : Nat → Int32), G59 x63 = some (.inl (0, n68, .inl f69)) ∧ vp_in (p0 - 1) n68 ∧ (∀ G73 : gh_H, G73 = gh_up G59 x63 (.inl (0, n68, .inl (upd f69 (Int32.toNatClampNeg (p0 - 1)) x67))) → ∃ (fs74 : List Value) (x77 : Int32), G73 t = some (.inr (5, fs74)) ∧ fs74[8]? = some (.int x77) ∧ (post x77 G73))))))))))))))))) ∧ (¬ (f6 (Int32.toNatClampNeg (p0 - 1))) ≤ v4 → (∃ (fs78 : List Value) (x81 : Nat), G t = some (.inr (5, fs78)) ∧ fs78[14]? = some (.ref x81) ∧ (∃ (fs82 : List Value) (x85 : Nat), G t = some (.inr (5, fs82)) ∧ fs82[14]? = some (.ref x85) ∧ (∃ (n86 : Nat) (f87 : Nat → Int32), G x85 = some (.inl (0, n86, .inl f87)) ∧ vp_in (v2 + v4) n86 ∧ (∃ (n90 : Nat) (f91 : Nat → Int32), G x81 = some (.inl (0, n90, .inl f91)) ∧ vp_in (v3 + v4) n90 ∧ (∀ G95 : gh_H, G95 = gh_up G x81 (.inl (0, n90, .inl (upd f91 (Int32.toNatClampNeg (v3 + v4)) (f87 (Int32.toNatClampNeg (v2 + v4)))))) → ∃ (fs96 : List Value) (x99 : Nat), G95 t = some (.inr (5, fs96)) ∧ fs96[15]? = some (.ref x99) ∧ (∃ (fs100 : List Value) (x103 : Nat), G95 t = some (.inr (5, fs100)) ∧ fs100[15]? = some (.ref x103) ∧ (∃ (n104 : Nat) (f105 : Nat → Int64), G95 x103 = some (.inl (1, n104, .inr (.inl f105))) ∧ vp_in (v2 + v4) n104 ∧ (∃ (n108 : Nat) (f109 : Nat → Int64), G95 x99 = some (.inl (1, n108, .inr (.inl f109))) ∧ vp_in (v3 + v4) n108 ∧ (∀ G113 : gh_H, G113 = gh_up G95 x99 (.inl (1, n108, .inr (.inl (vp_updL f109 (Int32.toNatClampNeg (v3 + v4)) (-(f105 (Int32.toNatClampNeg (v2 + v4)))))))) → ∃ (fs114 : List Value) (x117 : Nat), G113 t = some (.inr (5, fs114)) ∧ fs114[16]? = some (.ref x117) ∧ (∃ (n118 : Nat) (f119 : Nat → Int32), G113 x117 = some (.inl (2, n118, .inl f119)) ∧ vp_in (v3 + v4) n118 ∧ (∀ G123 : gh_H, G123 = gh_up G113 x117 (.inl (2, n118, .inl (upd f119 (Int32.toNatClampNeg (v3 + v4)) (vp_nar .boolean 0)))) → wX5_reverse_105 post px n G123 t p0 v2 v3 (v4 + 1)))))))))))))))
set_option maxRecDepth 100000 in
set_option maxHeartbeats 4000000 in
theorem lX5_reverse_105 {p : Program} {l : Launch} {e : Env} {s : State} {m : MethodId} {args : Array Value} {below : List Frame} {meth : Method} {c : Code} {D : va_G} {AC : Nat → ClassId} {sa : gh_SA} {A : Nat → Prop} (hl0 : l.stackTraces = false) (CX : cxX5_reverse p s m args meth c D AC sa A) (post : Int32 → gh_H → Prop) (px : String → gh_H → Prop) : ∀ n : Nat, ∀ (G : gh_H) (t : Nat) (p0 : Int32) (v2 : Int32) (v3 : Int32) (v4 : Int32) (H : Heap) (locs : List Loc), wX5_reverse_105 post px n G t p0 v2 v3 v4 → gh_h D vwCl AC A G H → va_S A s.heap H locs → ∀ ls : Array Slot, lv_has ls 5 [(0, .ref t), (1, .int p0), (2, .int v2), (3, .int v3), (4, .int v4)] → W p l e rmX5_reverse s m args below meth c H locs 0 0 (vx_MQ below (va_Qi post (gh_B D vwCl AC A) A) (gh_X D vwCl AC px A) args s 0 0 A) (F0 m 105 ls []) := by
  obtain ⟨⟨hx, hb, hml, hown, hts⟩, hr, hlocks, htb, hK, hE, hA⟩ := id CX
  have hno : ∀ (pc : Nat), ∀ x ∈ c.exceptionTable.toList, covers x pc = false := by rw [htb]; intro _ _ h; cases h
  intro n
  induction n with
  | zero =>
    intro G t p0 v2 v3 v4 H locs hw
    exact False.elim hw
  | succ n ih =>
    intro G t p0 v2 v3 v4 H locs hw hP hS ls hl
    dsimp only [wX5_reverse_105] at hw
    refine lv_iload hx hb dX5_reverse_105 (lv_at hl 4 rfl) ?_
    refine lv_aload_n hx hb dX5_reverse_107 rfl (lv_at hl 0 rfl) ?_
    obtain ⟨fs1, x4, he2, hv3, hw⟩ := hw
    refine gh_get (ci := 5) (v := .ref x4) (C := "OwnerLedgerModel") (T := TX5) (N := 24) hx hb hts (fun w h => gT_up (inX5 w h)) hown hK hP he2 rfl 11 (by decide) (hts _ (gT_up kw_383)) (fun _ h9 => h9) hv3 dX5_reverse_108 ?_
    refine lv_iload_n hx hb dX5_reverse_111 rfl (lv_at hl 1 rfl) ?_
    refine lv_iconst (v := 1) hx hb dX5_reverse_112 (by decide) ?_
    refine lv_isub hx hb dX5_reverse_113 ?_
    obtain ⟨n5, f6, he7, hi8, hw⟩ := hw
    refine gh_iald hx hb hK hP he7 rfl hi8 dX5_reverse_114 ?_
    refine lv_icmp_ge (tgt := 171) hx hb dX5_reverse_115 (by decide) (fun c9 => ?_) (fun c9 => ?_)
    · replace hw := hw.1 c9
      refine lv_aload_n hx hb dX5_reverse_171 rfl (lv_at hl 0 rfl) ?_
      obtain ⟨fs10, x13, he11, hv12, hw⟩ := hw
      refine gh_get (ci := 5) (v := .ref x13) (C := "OwnerLedgerModel") (T := TX5) (N := 24) hx hb hts (fun w h => gT_up (inX5 w h)) hown hK hP he11 rfl 11 (by decide) (hts _ (gT_up kw_383)) (fun _ h9 => h9) hv12 dX5_reverse_172 ?_
      refine lv_aload_n hx hb dX5_reverse_175 rfl (lv_at hl 0 rfl) ?_
      obtain ⟨fs14, x17, he15, hv16, hw⟩ := hw
      refine gh_get (ci := 5) (v := .int x17) (C := "OwnerLedgerModel") (T := TX5) (N := 24) hx hb hts (fun w h => gT_up (inX5 w h)) hown hK hP he15 rfl 8 (by decide) (hts _ (gT_up kw_380)) (fun _ h9 => h9) hv16 dX5_reverse_176 ?_
      refine lv_iconst (v := 1) hx hb dX5_reverse_179 (by decide) ?_
      refine lv_isub hx hb dX5_reverse_180 ?_
      refine lv_aload_n hx hb dX5_reverse_181 rfl (lv_at hl 0 rfl) ?_
      obtain ⟨fs18, x21, he19, hv20, hw⟩ := hw
      refine gh_get (ci := 5) (v := .ref x21) (C := "OwnerLedgerModel") (T := TX5) (N := 24) hx hb hts (fun w h => gT_up (inX5 w h)) hown hK hP he19 rfl 11 (by decide) (hts _ (gT_up kw_383)) (fun _ h9 => h9) hv20 dX5_reverse_182 ?_
      refine lv_iload_n hx hb dX5_reverse_185 rfl (lv_at hl 1 rfl) ?_
      refine lv_iconst (v := 1) hx hb dX5_reverse_186 (by decide) ?_
      refine lv_isub hx hb dX5_reverse_187 ?_
      obtain ⟨n22, f23, he24, hi25, hw⟩ := hw
      refine gh_iald hx hb hK hP he24 rfl hi25 dX5_reverse_188 ?_
      obtain ⟨n26, f27, he28, hi29, hw⟩ := hw
      refine gh_iast hx hb hK hP hS he28 rfl hi29 dX5_reverse_189 (fun G31 H locs eG30 hP hS => ?_)
      replace hw := hw G31 eG30
      refine lv_aload_n hx hb dX5_reverse_190 rfl (lv_at hl 0 rfl) ?_
      obtain ⟨fs32, x35, he33, hv34, hw⟩ := hw
      refine gh_get (ci := 5) (v := .ref x35) (C := "OwnerLedgerModel") (T := TX5) (N := 24) hx hb hts (fun w h => gT_up (inX5 w h)) hown hK hP he33 rfl 9 (by decide) (hts _ (gT_up kw_381)) (fun _ h9 => h9) hv34 dX5_reverse_191 ?_
      refine lv_aload_n hx hb dX5_reverse_194 rfl (lv_at hl 0 rfl) ?_
      obtain ⟨fs36, x39, he37, hv38, hw⟩ := hw
      refine gh_get (ci := 5) (v := .int x39) (C := "OwnerLedgerModel") (T := TX5) (N := 24) hx hb hts (fun w h => gT_up (inX5 w h)) hown hK hP he37 rfl 8 (by decide) (hts _ (gT_up kw_380)) (fun _ h9 => h9) hv38 dX5_reverse_195 ?_
      refine lv_iconst (v := 1) hx hb dX5_reverse_198 (by decide) ?_
      refine lv_isub hx hb dX5_reverse_199 ?_
      refine lv_iconst (v := 1) hx hb dX5_reverse_200 (by decide) ?_
      obtain ⟨n40, f41, he42, hi43, hw⟩ := hw
      refine gh_iast hx hb hK hP hS he42 rfl hi43 dX5_reverse_201 (fun G45 H locs eG44 hP hS => ?_)
      replace hw := hw G45 eG44
      refine lv_aload_n hx hb dX5_reverse_202 rfl (lv_at hl 0 rfl) ?_
      obtain ⟨fs46, x49, he47, hv48, hw⟩ := hw
      refine gh_get (ci := 5) (v := .ref x49) (C := "OwnerLedgerModel") (T := TX5) (N := 24) hx hb hts (fun w h => gT_up (inX5 w h)) hown hK hP he47 rfl 13 (by decide) (hts _ (gT_up kw_385)) (fun _ h9 => h9) hv48 dX5_reverse_203 ?_
      refine lv_aload_n hx hb dX5_reverse_206 rfl (lv_at hl 0 rfl) ?_
      obtain ⟨fs50, x53, he51, hv52, hw⟩ := hw
      refine gh_get (ci := 5) (v := .int x53) (C := "OwnerLedgerModel") (T := TX5) (N := 24) hx hb hts (fun w h => gT_up (inX5 w h)) hown hK hP he51 rfl 8 (by decide) (hts _ (gT_up kw_380)) (fun _ h9 => h9) hv52 dX5_reverse_207 ?_
      refine lv_iconst (v := 1) hx hb dX5_reverse_210 (by decide) ?_
      refine lv_isub hx hb dX5_reverse_211 ?_
      refine lv_iload_n hx hb dX5_reverse_212 rfl (lv_at hl 1 rfl) ?_
      obtain ⟨n54, f55, he56, hi57, hw⟩ := hw
      refine gh_iast hx hb hK hP hS he56 rfl hi57 dX5_reverse_213 (fun G59 H locs eG58 hP hS => ?_)
      replace hw := hw G59 eG58
      refine lv_aload_n hx hb dX5_reverse_214 rfl (lv_at hl 0 rfl) ?_
      obtain ⟨fs60, x63, he61, hv62, hw⟩ := hw
      refine gh_get (ci := 5) (v := .ref x63) (C := "OwnerLedgerModel") (T := TX5) (N := 24) hx hb hts (fun w h => gT_up (inX5 w h)) hown hK hP he61 rfl 12 (by decide) (hts _ (gT_up kw_384)) (fun _ h9 => h9) hv62 dX5_reverse_215 ?_
      refine lv_iload_n hx hb dX5_reverse_218 rfl (lv_at hl 1 rfl) ?_
      refine lv_iconst (v := 1) hx hb dX5_reverse_219 (by decide) ?_
      refine lv_isub hx hb dX5_reverse_220 ?_
      refine lv_aload_n hx hb dX5_reverse_221 rfl (lv_at hl 0 rfl) ?_
      obtain ⟨fs64, x67, he65, hv66, hw⟩ := hw
      refine gh_get (ci := 5) (v := .int x67) (C := "OwnerLedgerModel") (T := TX5) (N := 24) hx hb hts (fun w h => gT_up (inX5 w h)) hown hK hP he65 rfl 8 (by decide) (hts _ (gT_up kw_380)) (fun _ h9 => h9) hv66 dX5_reverse_222 ?_
      obtain ⟨n68, f69, he70, hi71, hw⟩ := hw
      refine gh_iast hx hb hK hP hS he70 rfl hi71 dX5_reverse_225 (fun G73 H locs eG72 hP hS => ?_)
      replace hw := hw G73 eG72
      refine lv_aload_n hx hb dX5_reverse_226 rfl (lv_at hl 0 rfl) ?_
      obtain ⟨fs74, x77, he75, hv76, hw⟩ := hw
      refine gh_get (ci := 5) (v := .int x77) (C := "OwnerLedgerModel") (T := TX5) (N := 24) hx hb hts (fun w h => gT_up (inX5 w h)) hown hK hP he75 rfl 8 (by decide) (hts _ (gT_up kw_380)) (fun _ h9 => h9) hv76 dX5_reverse_227 ?_
      exact gh_iret hx hb hr hlocks hw hP hS (Nat.le_of_ble_eq_true rfl) (Nat.le_of_ble_eq_true rfl) dX5_reverse_230
    · replace hw := hw.2 c9
      refine lv_aload_n hx hb dX5_reverse_118 rfl (lv_at hl 0 rfl) ?_
      obtain ⟨fs78, x81, he79, hv80, hw⟩ := hw
      refine gh_get (ci := 5) (v := .ref x81) (C := "OwnerLedgerModel") (T := TX5) (N := 24) hx hb hts (fun w h => gT_up (inX5 w h)) hown hK hP he79 rfl 14 (by decide) (hts _ (gT_up kw_386)) (fun _ h9 => h9) hv80 dX5_reverse_119 ?_
      refine lv_iload_n hx hb dX5_reverse_122 rfl (lv_at hl 3 rfl) ?_
      refine lv_iload hx hb dX5_reverse_123 (lv_at hl 4 rfl) ?_
      refine lv_iadd hx hb dX5_reverse_125 ?_
      refine lv_aload_n hx hb dX5_reverse_126 rfl (lv_at hl 0 rfl) ?_
      obtain ⟨fs82, x85, he83, hv84, hw⟩ := hw
      refine gh_get (ci := 5) (v := .ref x85) (C := "OwnerLedgerModel") (T := TX5) (N := 24) hx hb hts (fun w h => gT_up (inX5 w h)) hown hK hP he83 rfl 14 (by decide) (hts _ (gT_up kw_386)) (fun _ h9 => h9) hv84 dX5_reverse_127 ?_
      refine lv_iload_n hx hb dX5_reverse_130 rfl (lv_at hl 2 rfl) ?_
      refine lv_iload hx hb dX5_reverse_131 (lv_at hl 4 rfl) ?_
      refine lv_iadd hx hb dX5_reverse_133 ?_
      obtain ⟨n86, f87, he88, hi89, hw⟩ := hw
      refine gh_iald hx hb hK hP he88 rfl hi89 dX5_reverse_134 ?_
      obtain ⟨n90, f91, he92, hi93, hw⟩ := hw
      refine gh_iast hx hb hK hP hS he92 rfl hi93 dX5_reverse_135 (fun G95 H locs eG94 hP hS => ?_)
      replace hw := hw G95 eG94
      refine lv_aload_n hx hb dX5_reverse_136 rfl (lv_at hl 0 rfl) ?_
      obtain ⟨fs96, x99, he97, hv98, hw⟩ := hw
      refine gh_get (ci := 5) (v := .ref x99) (C := "OwnerLedgerModel") (T := TX5) (N := 24) hx hb hts (fun w h => gT_up (inX5 w h)) hown hK hP he97 rfl 15 (by decide) (hts _ (gT_up kw_387)) (fun _ h9 => h9) hv98 dX5_reverse_137 ?_
      refine lv_iload_n hx hb dX5_reverse_140 rfl (lv_at hl 3 rfl) ?_
      refine lv_iload hx hb dX5_reverse_141 (lv_at hl 4 rfl) ?_
      refine lv_iadd hx hb dX5_reverse_143 ?_
      refine lv_aload_n hx hb dX5_reverse_144 rfl (lv_at hl 0 rfl) ?_
      obtain ⟨fs100, x103, he101, hv102, hw⟩ := hw
      refine gh_get (ci := 5) (v := .ref x103) (C := "OwnerLedgerModel") (T := TX5) (N := 24) hx hb hts (fun w h => gT_up (inX5 w h)) hown hK hP he101 rfl 15 (by decide) (hts _ (gT_up kw_387)) (fun _ h9 => h9) hv102 dX5_reverse_145 ?_
      refine lv_iload_n hx hb dX5_reverse_148 rfl (lv_at hl 2 rfl) ?_
      refine lv_iload hx hb dX5_reverse_149 (lv_at hl 4 rfl) ?_
      refine lv_iadd hx hb dX5_reverse_151 ?_
      obtain ⟨n104, f105, he106, hi107, hw⟩ := hw
      refine gh_lald hx hb hK hP he106 rfl hi107 dX5_reverse_152 ?_
      refine lv_lneg hx hb dX5_reverse_153 ?_
      obtain ⟨n108, f109, he110, hi111, hw⟩ := hw
      refine gh_last hx hb hK hP hS he110 rfl hi111 dX5_reverse_154 (fun G113 H locs eG112 hP hS => ?_)
      replace hw := hw G113 eG112
      refine lv_aload_n hx hb dX5_reverse_155 rfl (lv_at hl 0 rfl) ?_
      obtain ⟨fs114, x117, he115, hv116, hw⟩ := hw
      refine gh_get (ci := 5) (v := .ref x117) (C := "OwnerLedgerModel") (T := TX5) (N := 24) hx hb hts (fun w h => gT_up (inX5 w h)) hown hK hP he115 rfl 16 (by decide) (hts _ (gT_up kw_388)) (fun _ h9 => h9) hv116 dX5_reverse_156 ?_
      refine lv_iload_n hx hb dX5_reverse_159 rfl (lv_at hl 3 rfl) ?_
      refine lv_iload hx hb dX5_reverse_160 (lv_at hl 4 rfl) ?_
      refine lv_iadd hx hb dX5_reverse_162 ?_
      refine lv_iconst (v := 0) hx hb dX5_reverse_163 (by decide) ?_
      obtain ⟨n118, f119, he120, hi121, hw⟩ := hw
      refine gh_zast hx hb hK hP hS he120 rfl hi121 dX5_reverse_164 (fun G123 H locs eG122 hP hS => ?_)
      replace hw := hw G123 eG122
      refine lv_iinc (v := (v4 + 1)) (lv' := [(4, .int (v4 + 1)), (0, .ref t), (1, .int p0), (2, .int v2), (3, .int v3)]) hx hb dX5_reverse_165 hl (k := 4) rfl rfl (by decide) rfl (fun ls hl => ?_)
      refine lv_goto (tgt := 105) hx hb dX5_reverse_168 (by decide) ?_
      have hl := lv_sub (l' := [(0, .ref t), (1, .int p0), (2, .int v2), (3, .int v3), (4, .int (v4 + 1))]) hl [1, 2, 3, 4, 0] rfl
      exact ih _ t p0 v2 v3 (v4 + 1) _ _ hw hP hS ls hl
def wX5_reverse_65 (post : Int32 → gh_H → Prop) (px : String → gh_H → Prop) (G : gh_H) (t : Nat) (p0 : Int32) (s0 : Nat) (s1 : Int32) : Prop := ∃ fs1 : List Value, G s0 = some (.inr (5, fs1)) ∧ 0 < fs1.length ∧ (∀ G4 : gh_H, G4 = gh_up G s0 (.inr (5, fs1.set 0 (.int s1))) → ∃ (fs6 : List Value) (x9 : Int32), G4 t = some (.inr (5, fs6)) ∧ fs6[0]? = some (.int x9) ∧ ((x9 = 0 → (∃ (fs11 : List Value) (x14 : Int32), G4 t = some (.inr (5, fs11)) ∧ fs11[1]? = some (.int x14) ∧ (∃ fs17 : List Value, G4 t = some (.inr (5, fs17)) ∧ wX5_newBatch (fun G16 => ∃ (fs19 : List Value) (x22 : Int32), G16 t = some (.inr (5, fs19)) ∧ fs19[8]? = some (.int x22) ∧ (wX5_reverse_105 post px 300 G16 t p0 (8 * (p0 - 1)) (8 * (x22 - 1)) 0)) px G4 t x14))) ∧ (¬ x9 = 0 → (post 0 G4))))
set_option maxRecDepth 100000 in
set_option maxHeartbeats 4000000 in
theorem lX5_reverse_65 {p : Program} {l : Launch} {e : Env} {s : State} {m : MethodId} {args : Array Value} {below : List Frame} {meth : Method} {c : Code} {D : va_G} {AC : Nat → ClassId} {sa : gh_SA} {A : Nat → Prop} (hl0 : l.stackTraces = false) (CX : cxX5_reverse p s m args meth c D AC sa A) (post : Int32 → gh_H → Prop) (px : String → gh_H → Prop) : ∀ (G : gh_H) (t : Nat) (p0 : Int32) (s0 : Nat) (s1 : Int32) (H : Heap) (locs : List Loc), wX5_reverse_65 post px G t p0 s0 s1 → gh_h D vwCl AC A G H → va_S A s.heap H locs → ∀ ls : Array Slot, lv_has ls 5 [(0, .ref t), (1, .int p0)] → W p l e rmX5_reverse s m args below meth c H locs 0 0 (vx_MQ below (va_Qi post (gh_B D vwCl AC A) A) (gh_X D vwCl AC px A) args s 0 0 A) (F0 m 65 ls [.int s1, .ref s0]) := by
  obtain ⟨⟨hx, hb, hml, hown, hts⟩, hr, hlocks, htb, hK, hE, hA⟩ := id CX
  have hno : ∀ (pc : Nat), ∀ x ∈ c.exceptionTable.toList, covers x pc = false := by rw [htb]; intro _ _ h; cases h
  intro G t p0 s0 s1 H locs hw hP hS ls hl
  dsimp only [wX5_reverse_65] at hw
  obtain ⟨fs1, he2, hk3, hw⟩ := hw
  refine gh_put (ci := 5) (v := .int s1) (ty := .int) (C := "OwnerLedgerModel") (T := TX5) (N := 24) hx hb hts (fun w h => gT_up (inX5 w h)) tyX5 tyX5_ok nmX5 hown hK hP hS he2 rfl 0 (by decide) (hts _ (gT_up kw_372)) (fun _ h9 => h9) rfl (by decide +kernel) rfl rfl hk3 dX5_reverse_65 (fun G4 H locs eG5 hP hS => ?_)
  replace hw := hw G4 eG5
  refine lv_aload_n hx hb dX5_reverse_68 rfl (lv_at hl 0 rfl) ?_
  obtain ⟨fs6, x9, he7, hv8, hw⟩ := hw
  refine gh_get (ci := 5) (v := .int x9) (C := "OwnerLedgerModel") (T := TX5) (N := 24) hx hb hts (fun w h => gT_up (inX5 w h)) hown hK hP he7 rfl 0 (by decide) (hts _ (gT_up kw_372)) (fun _ h9 => h9) hv8 dX5_reverse_69 ?_
  refine lv_if_eq (tgt := 77) hx hb dX5_reverse_72 (by decide) (fun c10 => ?_) (fun c10 => ?_)
  · replace hw := hw.1 c10
    refine lv_aload_n hx hb dX5_reverse_77 rfl (lv_at hl 0 rfl) ?_
    refine lv_aload_n hx hb dX5_reverse_78 rfl (lv_at hl 0 rfl) ?_
    obtain ⟨fs11, x14, he12, hv13, hw⟩ := hw
    refine gh_get (ci := 5) (v := .int x14) (C := "OwnerLedgerModel") (T := TX5) (N := 24) hx hb hts (fun w h => gT_up (inX5 w h)) hown hK hP he12 rfl 1 (by decide) (hts _ (gT_up kw_373)) (fun _ h9 => h9) hv13 dX5_reverse_79 ?_
    obtain ⟨fs17, he18, hw⟩ := hw
    refine gh_cv_ hlocks (hno _) (vx_runV (C := "OwnerLedgerModel") (As := [.int x14]) (rest := []) ⟨hx, hb, hml, hown, hts⟩ (mX5_newBatch l hl0 D AC sa _ _ _ _ _ _ hw) (cwV 1 hts (gV kw_429 kw_430 kw_541 kw_2 kw_431) rfl rfl rfl (by decide +kernel) ⟨Nat.le_of_ble_eq_true rfl, Nat.le_of_ble_eq_true rfl⟩) (gh_preV gh_En_ok hK hE hP hS hA he18 rfl _) rfl rfl hl.1 rfl (lv_room (Nat.le_of_ble_eq_true rfl)) dX5_reverse_82 ⟨Nat.le_of_ble_eq_true rfl, Nat.le_of_ble_eq_true rfl⟩) hP hS hA (Nat.le_of_ble_eq_true rfl) (Nat.le_of_ble_eq_true rfl) (fun G16 H locs hw2 hP hS => ?_)
    replace hw := hw2
    clear hw2
    refine lv_bipush (v := 8) hx hb dX5_reverse_85 (by decide) ?_
    refine lv_iload_n hx hb dX5_reverse_87 rfl (lv_at hl 1 rfl) ?_
    refine lv_iconst (v := 1) hx hb dX5_reverse_88 (by decide) ?_
    refine lv_isub hx hb dX5_reverse_89 ?_
    refine lv_imul hx hb dX5_reverse_90 ?_
    refine lv_istore_n (lv' := [(2, .int (8 * (p0 - 1))), (0, .ref t), (1, .int p0)]) hx hb dX5_reverse_91 rfl hl (by decide) rfl (fun ls hl => ?_)
    refine lv_bipush (v := 8) hx hb dX5_reverse_92 (by decide) ?_
    refine lv_aload_n hx hb dX5_reverse_94 rfl (lv_at hl 1 rfl) ?_
    obtain ⟨fs19, x22, he20, hv21, hw⟩ := hw
    refine gh_get (ci := 5) (v := .int x22) (C := "OwnerLedgerModel") (T := TX5) (N := 24) hx hb hts (fun w h => gT_up (inX5 w h)) hown hK hP he20 rfl 8 (by decide) (hts _ (gT_up kw_380)) (fun _ h9 => h9) hv21 dX5_reverse_95 ?_
    refine lv_iconst (v := 1) hx hb dX5_reverse_98 (by decide) ?_
    refine lv_isub hx hb dX5_reverse_99 ?_
    refine lv_imul hx hb dX5_reverse_100 ?_
    refine lv_istore_n (lv' := [(3, .int (8 * (x22 - 1))), (2, .int (8 * (p0 - 1))), (0, .ref t), (1, .int p0)]) hx hb dX5_reverse_101 rfl hl (by decide) rfl (fun ls hl => ?_)
    refine lv_iconst (v := 0) hx hb dX5_reverse_102 (by decide) ?_
    refine lv_istore (lv' := [(4, .int 0), (3, .int (8 * (x22 - 1))), (2, .int (8 * (p0 - 1))), (0, .ref t), (1, .int p0)]) hx hb dX5_reverse_103 hl (by decide) rfl (fun ls hl => ?_)
    have hl := lv_sub (l' := [(0, .ref t), (1, .int p0), (2, .int (8 * (p0 - 1))), (3, .int (8 * (x22 - 1))), (4, .int 0)]) hl [3, 4, 2, 1, 0] rfl
    exact lX5_reverse_105 hl0 CX post px _ _ t p0 (8 * (p0 - 1)) (8 * (x22 - 1)) 0 _ _ hw hP hS ls hl
  · replace hw := hw.2 c10
    refine lv_iconst (v := 0) hx hb dX5_reverse_75 (by decide) ?_
    exact gh_iret hx hb hr hlocks hw hP hS (Nat.le_of_ble_eq_true rfl) (Nat.le_of_ble_eq_true rfl) dX5_reverse_76
def wX5_reverse (post : Int32 → gh_H → Prop) (px : String → gh_H → Prop) (G : gh_H) (t : Nat) (p0 : Int32) : Prop := ∃ fs3 : List Value, G t = some (.inr (5, fs3)) ∧ wX5_noBatch (fun r1 G2 => (r1 = 0 → (∃ (fs6 : List Value) (x9 : Nat), G2 t = some (.inr (5, fs6)) ∧ fs6[9]? = some (.ref x9) ∧ (∃ (n10 : Nat) (f11 : Nat → Int32), G2 x9 = some (.inl (0, n10, .inl f11)) ∧ vp_in (p0 - 1) n10 ∧ ((¬ (f11 (Int32.toNatClampNeg (p0 - 1))) = 1 → (wX5_reverse_65 post px G2 t p0 t 2)) ∧ ((f11 (Int32.toNatClampNeg (p0 - 1))) = 1 → (∃ (fs15 : List Value) (x18 : Nat), G2 t = some (.inr (5, fs15)) ∧ fs15[12]? = some (.ref x18) ∧ (∃ (n19 : Nat) (f20 : Nat → Int32), G2 x18 = some (.inl (0, n19, .inl f20)) ∧ vp_in (p0 - 1) n19 ∧ ((0 < (f20 (Int32.toNatClampNeg (p0 - 1))) → (wX5_reverse_65 post px G2 t p0 t 2)) ∧ (¬ 0 < (f20 (Int32.toNatClampNeg (p0 - 1))) → (∃ (fs24 : List Value) (x27 : Nat), G2 t = some (.inr (5, fs24)) ∧ fs24[13]? = some (.ref x27) ∧ (∃ (n28 : Nat) (f29 : Nat → Int32), G2 x27 = some (.inl (0, n28, .inl f29)) ∧ vp_in (p0 - 1) n28 ∧ (((f29 (Int32.toNatClampNeg (p0 - 1))) ≤ 0 → (∃ (fs33 : List Value) (x36 : Int32), G2 t = some (.inr (5, fs33)) ∧ fs33[8]? = some (.int x36) ∧ ((¬ x36 = 30 → (wX5_reverse_65 post px G2 t p0 t 0)) ∧ (x36 = 30 → (wX5_reverse_65 post px G2 t p0 t 3))))) ∧ (¬ (f29 (Int32.toNatClampNeg (p0 - 1))) ≤ 0 → (wX5_reverse_65 post px G2 t p0 t 2)))))))))))))) ∧ (¬ r1 = 0 → (wX5_reverse_65 post px G2 t p0 t 1))) px G t p0
set_option maxRecDepth 100000 in
set_option maxHeartbeats 4000000 in
theorem mX5_reverse (l : Launch) (hl0 : l.stackTraces = false) (D : va_G) (AC : Nat → ClassId) (sa : gh_SA) (t : Nat) (p0 : Int32) (post : Int32 → gh_H → Prop) (px : String → gh_H → Prop) (G : gh_H) (sz : Nat) (hw : wX5_reverse post px G t p0) : vx_Met l yX5_reverse wsX5_reverse rmX5_reverse (gh_Pc D vwCl AC (gh_ty AC) (gh_En sa) G sz [.ref t, .int p0]) (va_Qi post (gh_B D vwCl AC (gh_A G sz)) (gh_A G sz)) (gh_X D vwCl AC px (gh_A G sz)) 0 0 (gh_A G sz) := by
  refine vx_ofW (cc := prog_7_method_20_code) (maxL := 5) (ret := (some .int)) (by decide) rfl ?_
  intro p e s m args below meth c s₁ B hml hnoh hv
  obtain ⟨rfl, hsz, hP, hK, hE⟩ := hv
  have hx := B.exec
  have hb := B.bytes
  have hr := B.returns
  have hts := atoms_spec (ws := wsX5_reverse) B.pre
  have hown : s.vm.findClass "OwnerLedgerModel" = some m.cls := findClass_of_methodNamed B.named
  have hlocks := B.notSynchronized
  have htb : c.exceptionTable.toList = [] := List.eq_nil_iff_forall_not_mem.mpr hnoh
  subst hsz
  have hA : ∀ q, s.heap.size ≤ q → gh_A G s.heap.size q := fun q h => Or.inr h
  generalize gh_A G s.heap.size = A at hP hE hA ⊢
  have hno : ∀ (pc : Nat), ∀ x ∈ c.exceptionTable.toList, covers x pc = false := by rw [htb]; intro _ _ h; cases h
  have CX : cxX5_reverse p s m [.ref t, .int p0].toArray meth c D AC sa A := ⟨⟨hx, hb, hml, hown, hts⟩, hr, hlocks, htb, hK, hE, hA⟩
  have hS : va_S A s.heap s.heap [] := va_S.rf
  have hl := lv_entry ([.ref t, .int p0]) (n := 5) (Nat.le_of_ble_eq_true rfl)
  rw [lg_entry_eq]
  generalize (lg_sl ([.ref t, .int p0]) ++ List.replicate (5 - (lg_sl ([.ref t, .int p0])).length) Slot.unset).toArray = ls at hl ⊢
  have hl : lv_has ls 5 [(0, .ref t), (1, .int p0)] := hl
  dsimp only [wX5_reverse] at hw
  refine lv_aload_n hx hb dX5_reverse_0 rfl (lv_at hl 0 rfl) ?_
  refine lv_aload_n hx hb dX5_reverse_1 rfl (lv_at hl 0 rfl) ?_
  refine lv_iload_n hx hb dX5_reverse_2 rfl (lv_at hl 1 rfl) ?_
  obtain ⟨fs3, he4, hw⟩ := hw
  refine gh_ci hlocks (hno _) (vx_runV (C := "OwnerLedgerModel") (As := [.int p0]) (rest := [.ref t]) ⟨hx, hb, hml, hown, hts⟩ (mX5_noBatch l hl0 D AC sa _ _ _ _ _ _ hw) (cwV 1 hts (gV kw_436 kw_437 kw_542 kw_2 kw_438) rfl rfl rfl (by decide +kernel) ⟨Nat.le_of_ble_eq_true rfl, Nat.le_of_ble_eq_true rfl⟩) (gh_preV gh_En_ok hK hE hP hS hA he4 rfl _) rfl rfl hl.1 rfl (lv_room (Nat.le_of_ble_eq_true rfl)) dX5_reverse_3 ⟨Nat.le_of_ble_eq_true rfl, Nat.le_of_ble_eq_true rfl⟩) hP hS hA (Nat.le_of_ble_eq_true rfl) (Nat.le_of_ble_eq_true rfl) (fun r1 G2 H locs hw2 hP hS => ?_)
  replace hw := hw2
  clear hw2
  refine lv_if_eq (tgt := 13) hx hb dX5_reverse_6 (by decide) (fun c5 => ?_) (fun c5 => ?_)
  · replace hw := hw.1 c5
    refine lv_aload_n hx hb dX5_reverse_13 rfl (lv_at hl 0 rfl) ?_
    obtain ⟨fs6, x9, he7, hv8, hw⟩ := hw
    refine gh_get (ci := 5) (v := .ref x9) (C := "OwnerLedgerModel") (T := TX5) (N := 24) hx hb hts (fun w h => gT_up (inX5 w h)) hown hK hP he7 rfl 9 (by decide) (hts _ (gT_up kw_381)) (fun _ h9 => h9) hv8 dX5_reverse_14 ?_
    refine lv_iload_n hx hb dX5_reverse_17 rfl (lv_at hl 1 rfl) ?_
    refine lv_iconst (v := 1) hx hb dX5_reverse_18 (by decide) ?_
    refine lv_isub hx hb dX5_reverse_19 ?_
    obtain ⟨n10, f11, he12, hi13, hw⟩ := hw
    refine gh_iald hx hb hK hP he12 rfl hi13 dX5_reverse_20 ?_
    refine lv_iconst (v := 1) hx hb dX5_reverse_21 (by decide) ?_
    refine lv_icmp_ne (tgt := 47) hx hb dX5_reverse_22 (by decide) (fun c14 => ?_) (fun c14 => ?_)
    · replace hw := hw.1 c14
      refine lv_iconst (v := 2) hx hb dX5_reverse_47 (by decide) ?_
      refine lv_goto (tgt := 65) hx hb dX5_reverse_48 (by decide) ?_
      have hl := lv_sub (l' := [(0, .ref t), (1, .int p0)]) hl [0, 1] rfl
      exact lX5_reverse_65 hl0 CX post px _ t p0 t 2 _ _ hw hP hS ls hl
    · replace hw := hw.2 c14
      refine lv_aload_n hx hb dX5_reverse_25 rfl (lv_at hl 0 rfl) ?_
      obtain ⟨fs15, x18, he16, hv17, hw⟩ := hw
      refine gh_get (ci := 5) (v := .ref x18) (C := "OwnerLedgerModel") (T := TX5) (N := 24) hx hb hts (fun w h => gT_up (inX5 w h)) hown hK hP he16 rfl 12 (by decide) (hts _ (gT_up kw_384)) (fun _ h9 => h9) hv17 dX5_reverse_26 ?_
      refine lv_iload_n hx hb dX5_reverse_29 rfl (lv_at hl 1 rfl) ?_
      refine lv_iconst (v := 1) hx hb dX5_reverse_30 (by decide) ?_
      refine lv_isub hx hb dX5_reverse_31 ?_
      obtain ⟨n19, f20, he21, hi22, hw⟩ := hw
      refine gh_iald hx hb hK hP he21 rfl hi22 dX5_reverse_32 ?_
      refine lv_if_gt (tgt := 47) hx hb dX5_reverse_33 (by decide) (fun c23 => ?_) (fun c23 => ?_)
      · replace hw := hw.1 c23
        refine lv_iconst (v := 2) hx hb dX5_reverse_47 (by decide) ?_
        refine lv_goto (tgt := 65) hx hb dX5_reverse_48 (by decide) ?_
        have hl := lv_sub (l' := [(0, .ref t), (1, .int p0)]) hl [0, 1] rfl
        exact lX5_reverse_65 hl0 CX post px _ t p0 t 2 _ _ hw hP hS ls hl
      · replace hw := hw.2 c23
        refine lv_aload_n hx hb dX5_reverse_36 rfl (lv_at hl 0 rfl) ?_
        obtain ⟨fs24, x27, he25, hv26, hw⟩ := hw
        refine gh_get (ci := 5) (v := .ref x27) (C := "OwnerLedgerModel") (T := TX5) (N := 24) hx hb hts (fun w h => gT_up (inX5 w h)) hown hK hP he25 rfl 13 (by decide) (hts _ (gT_up kw_385)) (fun _ h9 => h9) hv26 dX5_reverse_37 ?_
        refine lv_iload_n hx hb dX5_reverse_40 rfl (lv_at hl 1 rfl) ?_
        refine lv_iconst (v := 1) hx hb dX5_reverse_41 (by decide) ?_
        refine lv_isub hx hb dX5_reverse_42 ?_
        obtain ⟨n28, f29, he30, hi31, hw⟩ := hw
        refine gh_iald hx hb hK hP he30 rfl hi31 dX5_reverse_43 ?_
        refine lv_if_le (tgt := 51) hx hb dX5_reverse_44 (by decide) (fun c32 => ?_) (fun c32 => ?_)
        · replace hw := hw.1 c32
          refine lv_aload_n hx hb dX5_reverse_51 rfl (lv_at hl 0 rfl) ?_
          obtain ⟨fs33, x36, he34, hv35, hw⟩ := hw
          refine gh_get (ci := 5) (v := .int x36) (C := "OwnerLedgerModel") (T := TX5) (N := 24) hx hb hts (fun w h => gT_up (inX5 w h)) hown hK hP he34 rfl 8 (by decide) (hts _ (gT_up kw_380)) (fun _ h9 => h9) hv35 dX5_reverse_52 ?_
          refine lv_bipush (v := 30) hx hb dX5_reverse_55 (by decide) ?_
          refine lv_icmp_ne (tgt := 64) hx hb dX5_reverse_57 (by decide) (fun c37 => ?_) (fun c37 => ?_)
          · replace hw := hw.1 c37
            refine lv_iconst (v := 0) hx hb dX5_reverse_64 (by decide) ?_
            have hl := lv_sub (l' := [(0, .ref t), (1, .int p0)]) hl [0, 1] rfl
            exact lX5_reverse_65 hl0 CX post px _ t p0 t 0 _ _ hw hP hS ls hl
          · replace hw := hw.2 c37
            refine lv_iconst (v := 3) hx hb dX5_reverse_60 (by decide) ?_
            refine lv_goto (tgt := 65) hx hb dX5_reverse_61 (by decide) ?_
            have hl := lv_sub (l' := [(0, .ref t), (1, .int p0)]) hl [0, 1] rfl
            exact lX5_reverse_65 hl0 CX post px _ t p0 t 3 _ _ hw hP hS ls hl
        · replace hw := hw.2 c32
          refine lv_iconst (v := 2) hx hb dX5_reverse_47 (by decide) ?_
          refine lv_goto (tgt := 65) hx hb dX5_reverse_48 (by decide) ?_
          have hl := lv_sub (l' := [(0, .ref t), (1, .int p0)]) hl [0, 1] rfl
          exact lX5_reverse_65 hl0 CX post px _ t p0 t 2 _ _ hw hP hS ls hl
  · replace hw := hw.2 c5
    refine lv_iconst (v := 1) hx hb dX5_reverse_9 (by decide) ?_
    refine lv_goto (tgt := 65) hx hb dX5_reverse_10 (by decide) ?_
    have hl := lv_sub (l' := [(0, .ref t), (1, .int p0)]) hl [0, 1] rfl
    exact lX5_reverse_65 hl0 CX post px _ t p0 t 1 _ _ hw hP hS ls hl
abbrev rmX5_balance : Room := { frames := 1, cells := 0, slots := 0, locals := 25 }
abbrev cxX5_balance (p : Program) (s : State) (m : MethodId) (args : Array Value) (meth : Method) (c : Code) (D : va_G) (AC : Nat → ClassId) (sa : gh_SA) (A : Nat → Prop) : Prop := CallFix p m c prog_7_method_21_code 7 s args wsX5_balance "OwnerLedgerModel" ∧ meth.sig.returnType = (some .long) ∧ meth.locks = false ∧ c.exceptionTable.toList = [] ∧ va_K D vwCl (gh_ty AC) s ∧ gh_En sa A s s.heap ∧ (∀ q, s.heap.size ≤ q → A q)
def wX5_balance_67 (post : Int64 → gh_H → Prop) (px : String → gh_H → Prop) (J51 : gh_H → Nat → Int32 → Int32 → Int64 → Int32 → Prop) : Nat → gh_H → Nat → Int32 → Int32 → Int64 → Int32 → Int32 → Prop
  | 0 => fun _ _ _ _ _ _ _ => False
  | n + 1 => fun G t p0 p1 v3 v5 v6 => ∃ (fs1 : List Value) (x4 : Nat), G t = some (.inr (5, fs1)) ∧ fs1[11]? = some (.ref x4) ∧ (∃ (n5 : Nat) (f6 : Nat → Int32), G x4 = some (.inl (0, n5, .inl f6)) ∧ vp_in v5 n5 ∧ ((((8 * v5) + (f6 (Int32.toNatClampNeg v5))) ≤ v6 → (J51 G t p0 p1 v3 (v5 + 1))) ∧ (¬ ((8 * v5) + (f6 (Int32.toNatClampNeg v5))) ≤ v6 → (∃ (fs10 : List Value) (x13 : Nat), G t = some (.inr (5, fs10)) ∧ fs10[9]? = some (.ref x13) ∧ (∃ (n14 : Nat) (f15 : Nat → Int32), G x13 = some (.inl (0, n14, .inl f15)) ∧ vp_in v5 n14 ∧ ((¬ (f15 (Int32.toNatClampNeg v5)) = 1 → (wX5_balance_67 post px J51 n G t p0 p1 v3 v5 (v6 + 1))) ∧ ((f15 (Int32.toNatClampNeg v5)) = 1 → (∃ (fs19 : List Value) (x22 : Nat), G t = some (.inr (5, fs19)) ∧ fs19[10]? = some (.ref x22) ∧ (∃ (n23 : Nat) (f24 : Nat → Int32), G x22 = some (.inl (0, n23, .inl f24)) ∧ vp_in v5 n23 ∧ ((p1 < (f24 (Int32.toNatClampNeg v5)) → (wX5_balance_67 post px J51 n G t p0 p1 v3 v5 (v6 + 1))) ∧ (¬ p1 < (f24 (Int32.toNatClampNeg v5)) → (∃ (fs28 : List Value) (x31 : Nat), G t = some (.inr (5, fs28)) ∧ fs28[14]? = some (.ref x31) ∧ (∃ (n32 : Nat) (f33 : Nat → Int32), G x31 = some (.inl (0, n32, .inl f33)) ∧ vp_in v6 n32 ∧ ((¬ (f33 (Int32.toNatClampNeg v6)) = p0 → (wX5_balance_67 post px J51 n G t p0 p1 v3 v5 (v6 + 1))) ∧ ((f33 (Int32.toNatClampNeg v6)) = p0 → (∃ (fs37 : List Value) (x40 : Nat), G t = some (.inr (5, fs37)) ∧ fs37[15]? = some (.ref x40) ∧ (∃ (n41 : Nat) (f42 : Nat → Int64), G x40 = some (.inl (1, n41, .inr (.inl f42))) ∧ vp_in v6 n41 ∧ (wX5_balance_67 post px J51 n G t p0 p1 (v3 + (f42 (Int32.toNatClampNeg v6))) v5 (v6 + 1)))))))))))))))))))
set_option maxRecDepth 100000 in
set_option maxHeartbeats 4000000 in
theorem lX5_balance_67 {p : Program} {l : Launch} {e : Env} {s : State} {m : MethodId} {args : Array Value} {below : List Frame} {meth : Method} {c : Code} {D : va_G} {AC : Nat → ClassId} {sa : gh_SA} {A : Nat → Prop} (hl0 : l.stackTraces = false) (CX : cxX5_balance p s m args meth c D AC sa A) (post : Int64 → gh_H → Prop) (px : String → gh_H → Prop) (J51 : gh_H → Nat → Int32 → Int32 → Int64 → Int32 → Prop) (hJ51 : ∀ (G : gh_H) (t : Nat) (p0 : Int32) (p1 : Int32) (v3 : Int64) (v5 : Int32) (H : Heap) (locs : List Loc), J51 G t p0 p1 v3 v5 → gh_h D vwCl AC A G H → va_S A s.heap H locs → ∀ ls : Array Slot, lv_has ls 7 [(0, .ref t), (1, .int p0), (2, .int p1), (3, .long v3), (5, .int v5)] → W p l e rmX5_balance s m args below meth c H locs 0 0 (vx_MQ below (va_Ql post (gh_B D vwCl AC A) A) (gh_X D vwCl AC px A) args s 0 0 A) (F0 m 51 ls [])) : ∀ n : Nat, ∀ (G : gh_H) (t : Nat) (p0 : Int32) (p1 : Int32) (v3 : Int64) (v5 : Int32) (v6 : Int32) (H : Heap) (locs : List Loc), wX5_balance_67 post px J51 n G t p0 p1 v3 v5 v6 → gh_h D vwCl AC A G H → va_S A s.heap H locs → ∀ ls : Array Slot, lv_has ls 7 [(0, .ref t), (1, .int p0), (2, .int p1), (3, .long v3), (5, .int v5), (6, .int v6)] → W p l e rmX5_balance s m args below meth c H locs 0 0 (vx_MQ below (va_Ql post (gh_B D vwCl AC A) A) (gh_X D vwCl AC px A) args s 0 0 A) (F0 m 67 ls []) := by
  obtain ⟨⟨hx, hb, hml, hown, hts⟩, hr, hlocks, htb, hK, hE, hA⟩ := id CX
  have hno : ∀ (pc : Nat), ∀ x ∈ c.exceptionTable.toList, covers x pc = false := by rw [htb]; intro _ _ h; cases h
  intro n
  induction n with
  | zero =>
    intro G t p0 p1 v3 v5 v6 H locs hw
    exact False.elim hw
  | succ n ih =>
    intro G t p0 p1 v3 v5 v6 H locs hw hP hS ls hl
    dsimp only [wX5_balance_67] at hw
    refine lv_iload hx hb dX5_balance_67 (lv_at hl 5 rfl) ?_
    refine lv_bipush (v := 8) hx hb dX5_balance_69 (by decide) ?_
    refine lv_iload hx hb dX5_balance_71 (lv_at hl 4 rfl) ?_
    refine lv_imul hx hb dX5_balance_73 ?_
    refine lv_aload_n hx hb dX5_balance_74 rfl (lv_at hl 0 rfl) ?_
    obtain ⟨fs1, x4, he2, hv3, hw⟩ := hw
    refine gh_get (ci := 5) (v := .ref x4) (C := "OwnerLedgerModel") (T := TX5) (N := 24) hx hb hts (fun w h => gT_up (inX5 w h)) hown hK hP he2 rfl 11 (by decide) (hts _ (gT_up kw_383)) (fun _ h9 => h9) hv3 dX5_balance_75 ?_
    refine lv_iload hx hb dX5_balance_78 (lv_at hl 4 rfl) ?_
    obtain ⟨n5, f6, he7, hi8, hw⟩ := hw
    refine gh_iald hx hb hK hP he7 rfl hi8 dX5_balance_80 ?_
    refine lv_iadd hx hb dX5_balance_81 ?_
    refine lv_icmp_ge (tgt := 134) hx hb dX5_balance_82 (by decide) (fun c9 => ?_) (fun c9 => ?_)
    · replace hw := hw.1 c9
      refine lv_iinc (v := (v5 + 1)) (lv' := [(5, .int (v5 + 1)), (0, .ref t), (1, .int p0), (2, .int p1), (3, .long v3), (6, .int v6)]) hx hb dX5_balance_134 hl (k := 4) rfl rfl (by decide) rfl (fun ls hl => ?_)
      refine lv_goto (tgt := 51) hx hb dX5_balance_137 (by decide) ?_
      have hl := lv_sub (l' := [(0, .ref t), (1, .int p0), (2, .int p1), (3, .long v3), (5, .int (v5 + 1))]) hl [1, 2, 3, 4, 0] rfl
      exact hJ51 _ t p0 p1 v3 (v5 + 1) _ _ hw hP hS ls hl
    · replace hw := hw.2 c9
      refine lv_aload_n hx hb dX5_balance_85 rfl (lv_at hl 0 rfl) ?_
      obtain ⟨fs10, x13, he11, hv12, hw⟩ := hw
      refine gh_get (ci := 5) (v := .ref x13) (C := "OwnerLedgerModel") (T := TX5) (N := 24) hx hb hts (fun w h => gT_up (inX5 w h)) hown hK hP he11 rfl 9 (by decide) (hts _ (gT_up kw_381)) (fun _ h9 => h9) hv12 dX5_balance_86 ?_
      refine lv_iload hx hb dX5_balance_89 (lv_at hl 4 rfl) ?_
      obtain ⟨n14, f15, he16, hi17, hw⟩ := hw
      refine gh_iald hx hb hK hP he16 rfl hi17 dX5_balance_91 ?_
      refine lv_iconst (v := 1) hx hb dX5_balance_92 (by decide) ?_
      refine lv_icmp_ne (tgt := 128) hx hb dX5_balance_93 (by decide) (fun c18 => ?_) (fun c18 => ?_)
      · replace hw := hw.1 c18
        refine lv_iinc (v := (v6 + 1)) (lv' := [(6, .int (v6 + 1)), (0, .ref t), (1, .int p0), (2, .int p1), (3, .long v3), (5, .int v5)]) hx hb dX5_balance_128 hl (k := 5) rfl rfl (by decide) rfl (fun ls hl => ?_)
        refine lv_goto (tgt := 67) hx hb dX5_balance_131 (by decide) ?_
        have hl := lv_sub (l' := [(0, .ref t), (1, .int p0), (2, .int p1), (3, .long v3), (5, .int v5), (6, .int (v6 + 1))]) hl [1, 2, 3, 4, 5, 0] rfl
        exact ih _ t p0 p1 v3 v5 (v6 + 1) _ _ hw hP hS ls hl
      · replace hw := hw.2 c18
        refine lv_aload_n hx hb dX5_balance_96 rfl (lv_at hl 0 rfl) ?_
        obtain ⟨fs19, x22, he20, hv21, hw⟩ := hw
        refine gh_get (ci := 5) (v := .ref x22) (C := "OwnerLedgerModel") (T := TX5) (N := 24) hx hb hts (fun w h => gT_up (inX5 w h)) hown hK hP he20 rfl 10 (by decide) (hts _ (gT_up kw_382)) (fun _ h9 => h9) hv21 dX5_balance_97 ?_
        refine lv_iload hx hb dX5_balance_100 (lv_at hl 4 rfl) ?_
        obtain ⟨n23, f24, he25, hi26, hw⟩ := hw
        refine gh_iald hx hb hK hP he25 rfl hi26 dX5_balance_102 ?_
        refine lv_iload_n hx hb dX5_balance_103 rfl (lv_at hl 2 rfl) ?_
        refine lv_icmp_gt (tgt := 128) hx hb dX5_balance_104 (by decide) (fun c27 => ?_) (fun c27 => ?_)
        · replace hw := hw.1 c27
          refine lv_iinc (v := (v6 + 1)) (lv' := [(6, .int (v6 + 1)), (0, .ref t), (1, .int p0), (2, .int p1), (3, .long v3), (5, .int v5)]) hx hb dX5_balance_128 hl (k := 5) rfl rfl (by decide) rfl (fun ls hl => ?_)
          refine lv_goto (tgt := 67) hx hb dX5_balance_131 (by decide) ?_
          have hl := lv_sub (l' := [(0, .ref t), (1, .int p0), (2, .int p1), (3, .long v3), (5, .int v5), (6, .int (v6 + 1))]) hl [1, 2, 3, 4, 5, 0] rfl
          exact ih _ t p0 p1 v3 v5 (v6 + 1) _ _ hw hP hS ls hl
        · replace hw := hw.2 c27
          refine lv_aload_n hx hb dX5_balance_107 rfl (lv_at hl 0 rfl) ?_
          obtain ⟨fs28, x31, he29, hv30, hw⟩ := hw
          refine gh_get (ci := 5) (v := .ref x31) (C := "OwnerLedgerModel") (T := TX5) (N := 24) hx hb hts (fun w h => gT_up (inX5 w h)) hown hK hP he29 rfl 14 (by decide) (hts _ (gT_up kw_386)) (fun _ h9 => h9) hv30 dX5_balance_108 ?_
          refine lv_iload hx hb dX5_balance_111 (lv_at hl 5 rfl) ?_
          obtain ⟨n32, f33, he34, hi35, hw⟩ := hw
          refine gh_iald hx hb hK hP he34 rfl hi35 dX5_balance_113 ?_
          refine lv_iload_n hx hb dX5_balance_114 rfl (lv_at hl 1 rfl) ?_
          refine lv_icmp_ne (tgt := 128) hx hb dX5_balance_115 (by decide) (fun c36 => ?_) (fun c36 => ?_)
          · replace hw := hw.1 c36
            refine lv_iinc (v := (v6 + 1)) (lv' := [(6, .int (v6 + 1)), (0, .ref t), (1, .int p0), (2, .int p1), (3, .long v3), (5, .int v5)]) hx hb dX5_balance_128 hl (k := 5) rfl rfl (by decide) rfl (fun ls hl => ?_)
            refine lv_goto (tgt := 67) hx hb dX5_balance_131 (by decide) ?_
            have hl := lv_sub (l' := [(0, .ref t), (1, .int p0), (2, .int p1), (3, .long v3), (5, .int v5), (6, .int (v6 + 1))]) hl [1, 2, 3, 4, 5, 0] rfl
            exact ih _ t p0 p1 v3 v5 (v6 + 1) _ _ hw hP hS ls hl
          · replace hw := hw.2 c36
            refine lv_lload_n hx hb dX5_balance_118 rfl (lv_at hl 3 rfl) ?_
            refine lv_aload_n hx hb dX5_balance_119 rfl (lv_at hl 0 rfl) ?_
            obtain ⟨fs37, x40, he38, hv39, hw⟩ := hw
            refine gh_get (ci := 5) (v := .ref x40) (C := "OwnerLedgerModel") (T := TX5) (N := 24) hx hb hts (fun w h => gT_up (inX5 w h)) hown hK hP he38 rfl 15 (by decide) (hts _ (gT_up kw_387)) (fun _ h9 => h9) hv39 dX5_balance_120 ?_
            refine lv_iload hx hb dX5_balance_123 (lv_at hl 5 rfl) ?_
            obtain ⟨n41, f42, he43, hi44, hw⟩ := hw
            refine gh_lald hx hb hK hP he43 rfl hi44 dX5_balance_125 ?_
            refine lv_ladd hx hb dX5_balance_126 ?_
            refine lv_lstore_n (lv' := [(3, .long (v3 + (f42 (Int32.toNatClampNeg v6)))), (0, .ref t), (1, .int p0), (2, .int p1), (5, .int v5), (6, .int v6)]) hx hb dX5_balance_127 rfl hl (by decide) rfl (fun ls hl => ?_)
            refine lv_iinc (v := (v6 + 1)) (lv' := [(6, .int (v6 + 1)), (3, .long (v3 + (f42 (Int32.toNatClampNeg v6)))), (0, .ref t), (1, .int p0), (2, .int p1), (5, .int v5)]) hx hb dX5_balance_128 hl (k := 5) rfl rfl (by decide) rfl (fun ls hl => ?_)
            refine lv_goto (tgt := 67) hx hb dX5_balance_131 (by decide) ?_
            have hl := lv_sub (l' := [(0, .ref t), (1, .int p0), (2, .int p1), (3, .long (v3 + (f42 (Int32.toNatClampNeg v6)))), (5, .int v5), (6, .int (v6 + 1))]) hl [2, 3, 4, 1, 5, 0] rfl
            exact ih _ t p0 p1 (v3 + (f42 (Int32.toNatClampNeg v6))) v5 (v6 + 1) _ _ hw hP hS ls hl
def wX5_balance_51 (post : Int64 → gh_H → Prop) (px : String → gh_H → Prop) : Nat → gh_H → Nat → Int32 → Int32 → Int64 → Int32 → Prop
  | 0 => fun _ _ _ _ _ _ => False
  | n + 1 => fun G t p0 p1 v3 v5 => ∃ (fs1 : List Value) (x4 : Int32), G t = some (.inr (5, fs1)) ∧ fs1[8]? = some (.int x4) ∧ ((x4 ≤ v5 → (post v3 G)) ∧ (¬ x4 ≤ v5 → (wX5_balance_67 post px (wX5_balance_51 post px n) 300 G t p0 p1 v3 v5 (8 * v5))))
set_option maxRecDepth 100000 in
set_option maxHeartbeats 4000000 in
theorem lX5_balance_51 {p : Program} {l : Launch} {e : Env} {s : State} {m : MethodId} {args : Array Value} {below : List Frame} {meth : Method} {c : Code} {D : va_G} {AC : Nat → ClassId} {sa : gh_SA} {A : Nat → Prop} (hl0 : l.stackTraces = false) (CX : cxX5_balance p s m args meth c D AC sa A) (post : Int64 → gh_H → Prop) (px : String → gh_H → Prop) : ∀ n : Nat, ∀ (G : gh_H) (t : Nat) (p0 : Int32) (p1 : Int32) (v3 : Int64) (v5 : Int32) (H : Heap) (locs : List Loc), wX5_balance_51 post px n G t p0 p1 v3 v5 → gh_h D vwCl AC A G H → va_S A s.heap H locs → ∀ ls : Array Slot, lv_has ls 7 [(0, .ref t), (1, .int p0), (2, .int p1), (3, .long v3), (5, .int v5)] → W p l e rmX5_balance s m args below meth c H locs 0 0 (vx_MQ below (va_Ql post (gh_B D vwCl AC A) A) (gh_X D vwCl AC px A) args s 0 0 A) (F0 m 51 ls []) := by
  obtain ⟨⟨hx, hb, hml, hown, hts⟩, hr, hlocks, htb, hK, hE, hA⟩ := id CX
  have hno : ∀ (pc : Nat), ∀ x ∈ c.exceptionTable.toList, covers x pc = false := by rw [htb]; intro _ _ h; cases h
  intro n
  induction n with
  | zero =>
    intro G t p0 p1 v3 v5 H locs hw
    exact False.elim hw
  | succ n ih =>
    intro G t p0 p1 v3 v5 H locs hw hP hS ls hl
    dsimp only [wX5_balance_51] at hw
    refine lv_iload hx hb dX5_balance_51 (lv_at hl 4 rfl) ?_
    refine lv_aload_n hx hb dX5_balance_53 rfl (lv_at hl 0 rfl) ?_
    obtain ⟨fs1, x4, he2, hv3, hw⟩ := hw
    refine gh_get (ci := 5) (v := .int x4) (C := "OwnerLedgerModel") (T := TX5) (N := 24) hx hb hts (fun w h => gT_up (inX5 w h)) hown hK hP he2 rfl 8 (by decide) (hts _ (gT_up kw_380)) (fun _ h9 => h9) hv3 dX5_balance_54 ?_
    refine lv_icmp_ge (tgt := 140) hx hb dX5_balance_57 (by decide) (fun c5 => ?_) (fun c5 => ?_)
    · replace hw := hw.1 c5
      refine lv_lload_n hx hb dX5_balance_140 rfl (lv_at hl 3 rfl) ?_
      exact gh_lret hx hb hr hlocks hw hP hS (Nat.le_of_ble_eq_true rfl) (Nat.le_of_ble_eq_true rfl) dX5_balance_141
    · replace hw := hw.2 c5
      refine lv_bipush (v := 8) hx hb dX5_balance_60 (by decide) ?_
      refine lv_iload hx hb dX5_balance_62 (lv_at hl 4 rfl) ?_
      refine lv_imul hx hb dX5_balance_64 ?_
      refine lv_istore (lv' := [(6, .int (8 * v5)), (0, .ref t), (1, .int p0), (2, .int p1), (3, .long v3), (5, .int v5)]) hx hb dX5_balance_65 hl (by decide) rfl (fun ls hl => ?_)
      have hl := lv_sub (l' := [(0, .ref t), (1, .int p0), (2, .int p1), (3, .long v3), (5, .int v5), (6, .int (8 * v5))]) hl [1, 2, 3, 4, 5, 0] rfl
      exact lX5_balance_67 hl0 CX post px (wX5_balance_51 post px n) (fun G9 t9 p09 p19 v39 v59 H9 locs9 hw9 hP9 hS9 ls9 hl9 => ih G9 t9 p09 p19 v39 v59 H9 locs9 hw9 hP9 hS9 ls9 hl9) _ _ t p0 p1 v3 v5 (8 * v5) _ _ hw hP hS ls hl
def wX5_balance_34 (post : Int64 → gh_H → Prop) (px : String → gh_H → Prop) (G : gh_H) (t : Nat) (p0 : Int32) (p1 : Int32) (s0 : Nat) (s1 : Int32) : Prop := ∃ fs1 : List Value, G s0 = some (.inr (5, fs1)) ∧ 0 < fs1.length ∧ (∀ G4 : gh_H, G4 = gh_up G s0 (.inr (5, fs1.set 0 (.int s1))) → ∃ (fs6 : List Value) (x9 : Int32), G4 t = some (.inr (5, fs6)) ∧ fs6[0]? = some (.int x9) ∧ ((x9 = 0 → (wX5_balance_51 post px 300 G4 t p0 p1 0 0)) ∧ (¬ x9 = 0 → (post 0 G4))))
set_option maxRecDepth 100000 in
set_option maxHeartbeats 4000000 in
theorem lX5_balance_34 {p : Program} {l : Launch} {e : Env} {s : State} {m : MethodId} {args : Array Value} {below : List Frame} {meth : Method} {c : Code} {D : va_G} {AC : Nat → ClassId} {sa : gh_SA} {A : Nat → Prop} (hl0 : l.stackTraces = false) (CX : cxX5_balance p s m args meth c D AC sa A) (post : Int64 → gh_H → Prop) (px : String → gh_H → Prop) : ∀ (G : gh_H) (t : Nat) (p0 : Int32) (p1 : Int32) (s0 : Nat) (s1 : Int32) (H : Heap) (locs : List Loc), wX5_balance_34 post px G t p0 p1 s0 s1 → gh_h D vwCl AC A G H → va_S A s.heap H locs → ∀ ls : Array Slot, lv_has ls 7 [(0, .ref t), (1, .int p0), (2, .int p1)] → W p l e rmX5_balance s m args below meth c H locs 0 0 (vx_MQ below (va_Ql post (gh_B D vwCl AC A) A) (gh_X D vwCl AC px A) args s 0 0 A) (F0 m 34 ls [.int s1, .ref s0]) := by
  obtain ⟨⟨hx, hb, hml, hown, hts⟩, hr, hlocks, htb, hK, hE, hA⟩ := id CX
  have hno : ∀ (pc : Nat), ∀ x ∈ c.exceptionTable.toList, covers x pc = false := by rw [htb]; intro _ _ h; cases h
  intro G t p0 p1 s0 s1 H locs hw hP hS ls hl
  dsimp only [wX5_balance_34] at hw
  obtain ⟨fs1, he2, hk3, hw⟩ := hw
  refine gh_put (ci := 5) (v := .int s1) (ty := .int) (C := "OwnerLedgerModel") (T := TX5) (N := 24) hx hb hts (fun w h => gT_up (inX5 w h)) tyX5 tyX5_ok nmX5 hown hK hP hS he2 rfl 0 (by decide) (hts _ (gT_up kw_372)) (fun _ h9 => h9) rfl (by decide +kernel) rfl rfl hk3 dX5_balance_34 (fun G4 H locs eG5 hP hS => ?_)
  replace hw := hw G4 eG5
  refine lv_aload_n hx hb dX5_balance_37 rfl (lv_at hl 0 rfl) ?_
  obtain ⟨fs6, x9, he7, hv8, hw⟩ := hw
  refine gh_get (ci := 5) (v := .int x9) (C := "OwnerLedgerModel") (T := TX5) (N := 24) hx hb hts (fun w h => gT_up (inX5 w h)) hown hK hP he7 rfl 0 (by decide) (hts _ (gT_up kw_372)) (fun _ h9 => h9) hv8 dX5_balance_38 ?_
  refine lv_if_eq (tgt := 46) hx hb dX5_balance_41 (by decide) (fun c10 => ?_) (fun c10 => ?_)
  · replace hw := hw.1 c10
    refine lv_lconst (v := 0) hx hb dX5_balance_46 (by decide) ?_
    refine lv_lstore_n (lv' := [(3, .long 0), (0, .ref t), (1, .int p0), (2, .int p1)]) hx hb dX5_balance_47 rfl hl (by decide) rfl (fun ls hl => ?_)
    refine lv_iconst (v := 0) hx hb dX5_balance_48 (by decide) ?_
    refine lv_istore (lv' := [(5, .int 0), (3, .long 0), (0, .ref t), (1, .int p0), (2, .int p1)]) hx hb dX5_balance_49 hl (by decide) rfl (fun ls hl => ?_)
    have hl := lv_sub (l' := [(0, .ref t), (1, .int p0), (2, .int p1), (3, .long 0), (5, .int 0)]) hl [2, 3, 4, 1, 0] rfl
    exact lX5_balance_51 hl0 CX post px _ _ t p0 p1 0 0 _ _ hw hP hS ls hl
  · replace hw := hw.2 c10
    refine lv_lconst (v := 0) hx hb dX5_balance_44 (by decide) ?_
    exact gh_lret hx hb hr hlocks hw hP hS (Nat.le_of_ble_eq_true rfl) (Nat.le_of_ble_eq_true rfl) dX5_balance_45
def wX5_balance (post : Int64 → gh_H → Prop) (px : String → gh_H → Prop) (G : gh_H) (t : Nat) (p0 : Int32) (p1 : Int32) : Prop := (p0 < 0 → (wX5_balance_34 post px G t p0 p1 t 1)) ∧ (¬ p0 < 0 → (∃ (fs2 : List Value) (x5 : Int32), G t = some (.inr (5, fs2)) ∧ fs2[6]? = some (.int x5) ∧ ((p0 < x5 → (wX5_not (fun r7 G8 => (r7 = 0 → (wX5_balance_34 post px G8 t p0 p1 t 0)) ∧ (¬ r7 = 0 → (wX5_balance_34 post px G8 t p0 p1 t 2))) px G (Int32.toInt64 p1) 0 120)) ∧ (¬ p0 < x5 → (wX5_balance_34 post px G t p0 p1 t 1)))))
set_option maxRecDepth 100000 in
set_option maxHeartbeats 4000000 in
theorem mX5_balance (l : Launch) (hl0 : l.stackTraces = false) (D : va_G) (AC : Nat → ClassId) (sa : gh_SA) (t : Nat) (p0 : Int32) (p1 : Int32) (post : Int64 → gh_H → Prop) (px : String → gh_H → Prop) (G : gh_H) (sz : Nat) (hw : wX5_balance post px G t p0 p1) : vx_Met l yX5_balance wsX5_balance rmX5_balance (gh_Pc D vwCl AC (gh_ty AC) (gh_En sa) G sz [.ref t, .int p0, .int p1]) (va_Ql post (gh_B D vwCl AC (gh_A G sz)) (gh_A G sz)) (gh_X D vwCl AC px (gh_A G sz)) 0 0 (gh_A G sz) := by
  refine vx_ofW (cc := prog_7_method_21_code) (maxL := 7) (ret := (some .long)) (by decide) rfl ?_
  intro p e s m args below meth c s₁ B hml hnoh hv
  obtain ⟨rfl, hsz, hP, hK, hE⟩ := hv
  have hx := B.exec
  have hb := B.bytes
  have hr := B.returns
  have hts := atoms_spec (ws := wsX5_balance) B.pre
  have hown : s.vm.findClass "OwnerLedgerModel" = some m.cls := findClass_of_methodNamed B.named
  have hlocks := B.notSynchronized
  have htb : c.exceptionTable.toList = [] := List.eq_nil_iff_forall_not_mem.mpr hnoh
  subst hsz
  have hA : ∀ q, s.heap.size ≤ q → gh_A G s.heap.size q := fun q h => Or.inr h
  generalize gh_A G s.heap.size = A at hP hE hA ⊢
  have hno : ∀ (pc : Nat), ∀ x ∈ c.exceptionTable.toList, covers x pc = false := by rw [htb]; intro _ _ h; cases h
  have CX : cxX5_balance p s m [.ref t, .int p0, .int p1].toArray meth c D AC sa A := ⟨⟨hx, hb, hml, hown, hts⟩, hr, hlocks, htb, hK, hE, hA⟩
  have hS : va_S A s.heap s.heap [] := va_S.rf
  have hl := lv_entry ([.ref t, .int p0, .int p1]) (n := 7) (Nat.le_of_ble_eq_true rfl)
  rw [lg_entry_eq]
  generalize (lg_sl ([.ref t, .int p0, .int p1]) ++ List.replicate (7 - (lg_sl ([.ref t, .int p0, .int p1])).length) Slot.unset).toArray = ls at hl ⊢
  have hl : lv_has ls 7 [(0, .ref t), (1, .int p0), (2, .int p1)] := hl
  dsimp only [wX5_balance] at hw
  refine lv_aload_n hx hb dX5_balance_0 rfl (lv_at hl 0 rfl) ?_
  refine lv_iload_n hx hb dX5_balance_1 rfl (lv_at hl 1 rfl) ?_
  refine lv_if_lt (tgt := 13) hx hb dX5_balance_2 (by decide) (fun c1 => ?_) (fun c1 => ?_)
  · replace hw := hw.1 c1
    refine lv_iconst (v := 1) hx hb dX5_balance_13 (by decide) ?_
    refine lv_goto (tgt := 34) hx hb dX5_balance_14 (by decide) ?_
    have hl := lv_sub (l' := [(0, .ref t), (1, .int p0), (2, .int p1)]) hl [0, 1, 2] rfl
    exact lX5_balance_34 hl0 CX post px _ t p0 p1 t 1 _ _ hw hP hS ls hl
  · replace hw := hw.2 c1
    refine lv_iload_n hx hb dX5_balance_5 rfl (lv_at hl 1 rfl) ?_
    refine lv_aload_n hx hb dX5_balance_6 rfl (lv_at hl 0 rfl) ?_
    obtain ⟨fs2, x5, he3, hv4, hw⟩ := hw
    refine gh_get (ci := 5) (v := .int x5) (C := "OwnerLedgerModel") (T := TX5) (N := 24) hx hb hts (fun w h => gT_up (inX5 w h)) hown hK hP he3 rfl 6 (by decide) (hts _ (gT_up kw_378)) (fun _ h9 => h9) hv4 dX5_balance_7 ?_
    refine lv_icmp_lt (tgt := 17) hx hb dX5_balance_10 (by decide) (fun c6 => ?_) (fun c6 => ?_)
    · replace hw := hw.1 c6
      refine lv_iload_n hx hb dX5_balance_17 rfl (lv_at hl 2 rfl) ?_
      refine lv_i2l hx hb dX5_balance_18 rfl ?_
      refine lv_lconst (v := 0) hx hb dX5_balance_19 (by decide) ?_
      refine lv_ldc2 (v := 120) hx hb hown (hts _ (gT_up kw_460)) dX5_balance_20 ?_
      refine gh_ci hlocks (hno _) (vx_runS (As := [.long (Int32.toInt64 p1), .long 0, .long 120]) (rest := [.ref t]) ⟨hx, hb, hml, hown, hts⟩ (mX5_not l hl0 D AC sa _ _ _ _ _ _ _ hw) (va_cwS 3 hts (gS kw_414 kw_415 kw_2 kw_416) rfl rfl rfl (by decide +kernel) ⟨Nat.le_of_ble_eq_true rfl, Nat.le_of_ble_eq_true rfl⟩) (gh_pre gh_En_ok hK hE hP hS hA _) rfl rfl hl.1 rfl (lv_room (Nat.le_of_ble_eq_true rfl)) dX5_balance_23 ⟨Nat.le_of_ble_eq_true rfl, Nat.le_of_ble_eq_true rfl⟩) hP hS hA (Nat.le_of_ble_eq_true rfl) (Nat.le_of_ble_eq_true rfl) (fun r7 G8 H locs hw2 hP hS => ?_)
      replace hw := hw2
      clear hw2
      refine lv_if_eq (tgt := 33) hx hb dX5_balance_26 (by decide) (fun c9 => ?_) (fun c9 => ?_)
      · replace hw := hw.1 c9
        refine lv_iconst (v := 0) hx hb dX5_balance_33 (by decide) ?_
        have hl := lv_sub (l' := [(0, .ref t), (1, .int p0), (2, .int p1)]) hl [0, 1, 2] rfl
        exact lX5_balance_34 hl0 CX post px _ t p0 p1 t 0 _ _ hw hP hS ls hl
      · replace hw := hw.2 c9
        refine lv_iconst (v := 2) hx hb dX5_balance_29 (by decide) ?_
        refine lv_goto (tgt := 34) hx hb dX5_balance_30 (by decide) ?_
        have hl := lv_sub (l' := [(0, .ref t), (1, .int p0), (2, .int p1)]) hl [0, 1, 2] rfl
        exact lX5_balance_34 hl0 CX post px _ t p0 p1 t 2 _ _ hw hP hS ls hl
    · replace hw := hw.2 c6
      refine lv_iconst (v := 1) hx hb dX5_balance_13 (by decide) ?_
      refine lv_goto (tgt := 34) hx hb dX5_balance_14 (by decide) ?_
      have hl := lv_sub (l' := [(0, .ref t), (1, .int p0), (2, .int p1)]) hl [0, 1, 2] rfl
      exact lX5_balance_34 hl0 CX post px _ t p0 p1 t 1 _ _ hw hP hS ls hl
