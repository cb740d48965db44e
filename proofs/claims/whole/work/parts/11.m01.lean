abbrev rmX5_init : Room := { frames := 1, cells := 16, slots := 1002, locals := 12 }
abbrev cxX5_init (p : Program) (s : State) (m : MethodId) (args : Array Value) (meth : Method) (c : Code) (D : va_G) (AC : Nat → ClassId) (sa : gh_SA) (A : Nat → Prop) : Prop := CallFix p m c prog_7_method_1_code 1 s args wsX5_init "OwnerLedgerModel" ∧ meth.sig.returnType = none ∧ meth.locks = false ∧ c.exceptionTable.toList = [] ∧ va_K D vwCl (gh_ty AC) s ∧ gh_En sa A s s.heap ∧ (∀ q, s.heap.size ≤ q → A q) ∧ meth.name = "<init>"
def wX5_init (post : gh_H → Prop) (px : String → gh_H → Prop) (G : gh_H) (t : Nat) : Prop := ∃ fs1 : List Value, G t = some (.inr (5, fs1)) ∧ 0 < fs1.length ∧ (∀ G4 : gh_H, G4 = gh_up G t (.inr (5, fs1.set 0 (.int 0))) → ∃ fs6 : List Value, G4 t = some (.inr (5, fs6)) ∧ 1 < fs6.length ∧ (∀ G9 : gh_H, G9 = gh_up G4 t (.inr (5, fs6.set 1 (.int 0))) → ∃ fs11 : List Value, G9 t = some (.inr (5, fs11)) ∧ 2 < fs11.length ∧ (∀ G14 : gh_H, G14 = gh_up G9 t (.inr (5, fs11.set 2 (.int 0))) → ∃ fs16 : List Value, G14 t = some (.inr (5, fs16)) ∧ 3 < fs16.length ∧ (∀ G19 : gh_H, G19 = gh_up G14 t (.inr (5, fs16.set 3 (.int 0))) → ∀ q21 : Nat, G19 q21 = none → ∀ G22 : gh_H, G22 = gh_up G19 q21 (.inl (2, 6, .inl (fun _ => 0))) → ∃ fs25 : List Value, G22 t = some (.inr (5, fs25)) ∧ 4 < fs25.length ∧ (∀ G28 : gh_H, G28 = gh_up G22 t (.inr (5, fs25.set 4 (.ref q21))) → ∀ q30 : Nat, G28 q30 = none → ∀ G31 : gh_H, G31 = gh_up G28 q30 (.inl (1, 6, .inr (.inl (fun _ => 0)))) → ∃ fs34 : List Value, G31 t = some (.inr (5, fs34)) ∧ 5 < fs34.length ∧ (∀ G37 : gh_H, G37 = gh_up G31 t (.inr (5, fs34.set 5 (.ref q30))) → ∃ fs39 : List Value, G37 t = some (.inr (5, fs39)) ∧ 6 < fs39.length ∧ (∀ G42 : gh_H, G42 = gh_up G37 t (.inr (5, fs39.set 6 (.int 0))) → ∀ q44 : Nat, G42 q44 = none → ∀ G45 : gh_H, G45 = gh_up G42 q44 (.inl (0, 20, .inl (fun _ => 0))) → ∃ fs48 : List Value, G45 t = some (.inr (5, fs48)) ∧ 7 < fs48.length ∧ (∀ G51 : gh_H, G51 = gh_up G45 t (.inr (5, fs48.set 7 (.ref q44))) → ∃ fs53 : List Value, G51 t = some (.inr (5, fs53)) ∧ 8 < fs53.length ∧ (∀ G56 : gh_H, G56 = gh_up G51 t (.inr (5, fs53.set 8 (.int 0))) → ∀ q58 : Nat, G56 q58 = none → ∀ G59 : gh_H, G59 = gh_up G56 q58 (.inl (0, 30, .inl (fun _ => 0))) → ∃ fs62 : List Value, G59 t = some (.inr (5, fs62)) ∧ 9 < fs62.length ∧ (∀ G65 : gh_H, G65 = gh_up G59 t (.inr (5, fs62.set 9 (.ref q58))) → ∀ q67 : Nat, G65 q67 = none → ∀ G68 : gh_H, G68 = gh_up G65 q67 (.inl (0, 30, .inl (fun _ => 0))) → ∃ fs71 : List Value, G68 t = some (.inr (5, fs71)) ∧ 10 < fs71.length ∧ (∀ G74 : gh_H, G74 = gh_up G68 t (.inr (5, fs71.set 10 (.ref q67))) → ∀ q76 : Nat, G74 q76 = none → ∀ G77 : gh_H, G77 = gh_up G74 q76 (.inl (0, 30, .inl (fun _ => 0))) → ∃ fs80 : List Value, G77 t = some (.inr (5, fs80)) ∧ 11 < fs80.length ∧ (∀ G83 : gh_H, G83 = gh_up G77 t (.inr (5, fs80.set 11 (.ref q76))) → ∀ q85 : Nat, G83 q85 = none → ∀ G86 : gh_H, G86 = gh_up G83 q85 (.inl (0, 30, .inl (fun _ => 0))) → ∃ fs89 : List Value, G86 t = some (.inr (5, fs89)) ∧ 12 < fs89.length ∧ (∀ G92 : gh_H, G92 = gh_up G86 t (.inr (5, fs89.set 12 (.ref q85))) → ∀ q94 : Nat, G92 q94 = none → ∀ G95 : gh_H, G95 = gh_up G92 q94 (.inl (0, 30, .inl (fun _ => 0))) → ∃ fs98 : List Value, G95 t = some (.inr (5, fs98)) ∧ 13 < fs98.length ∧ (∀ G101 : gh_H, G101 = gh_up G95 t (.inr (5, fs98.set 13 (.ref q94))) → ∀ q103 : Nat, G101 q103 = none → ∀ G104 : gh_H, G104 = gh_up G101 q103 (.inl (0, 240, .inl (fun _ => 0))) → ∃ fs107 : List Value, G104 t = some (.inr (5, fs107)) ∧ 14 < fs107.length ∧ (∀ G110 : gh_H, G110 = gh_up G104 t (.inr (5, fs107.set 14 (.ref q103))) → ∀ q112 : Nat, G110 q112 = none → ∀ G113 : gh_H, G113 = gh_up G110 q112 (.inl (1, 240, .inr (.inl (fun _ => 0)))) → ∃ fs116 : List Value, G113 t = some (.inr (5, fs116)) ∧ 15 < fs116.length ∧ (∀ G119 : gh_H, G119 = gh_up G113 t (.inr (5, fs116.set 15 (.ref q112))) → ∀ q121 : Nat, G119 q121 = none → ∀ G122 : gh_H, G122 = gh_up G119 q121 (.inl (2, 240, .inl (fun _ => 0))) → ∃ fs125 : List Value, G122 t = some (.inr (5, fs125)) ∧ 16 < fs125.length ∧ (∀ G128 : gh_H, G128 = gh_up G122 t (.inr (5, fs125.set 16 (.ref q121))) → ∃ fs130 : List Value, G128 t = some (.inr (5, fs130)) ∧ 17 < fs130.length ∧ (∀ G133 : gh_H, G133 = gh_up G128 t (.inr (5, fs130.set 17 (.int 0))) → ∀ q135 : Nat, G133 q135 = none → ∀ G136 : gh_H, G136 = gh_up G133 q135 (.inl (0, 20, .inl (fun _ => 0))) → ∃ fs139 : List Value, G136 t = some (.inr (5, fs139)) ∧ 18 < fs139.length ∧ (∀ G142 : gh_H, G142 = gh_up G136 t (.inr (5, fs139.set 18 (.ref q135))) → ∀ q144 : Nat, G142 q144 = none → ∀ G145 : gh_H, G145 = gh_up G142 q144 (.inl (1, 20, .inr (.inl (fun _ => 0)))) → ∃ fs148 : List Value, G145 t = some (.inr (5, fs148)) ∧ 19 < fs148.length ∧ (∀ G151 : gh_H, G151 = gh_up G145 t (.inr (5, fs148.set 19 (.ref q144))) → ∀ q153 : Nat, G151 q153 = none → ∀ G154 : gh_H, G154 = gh_up G151 q153 (.inl (0, 20, .inl (fun _ => 0))) → ∃ fs157 : List Value, G154 t = some (.inr (5, fs157)) ∧ 20 < fs157.length ∧ (∀ G160 : gh_H, G160 = gh_up G154 t (.inr (5, fs157.set 20 (.ref q153))) → ∀ q162 : Nat, G160 q162 = none → ∀ G163 : gh_H, G163 = gh_up G160 q162 (.inl (0, 20, .inl (fun _ => 0))) → ∃ fs166 : List Value, G163 t = some (.inr (5, fs166)) ∧ 21 < fs166.length ∧ (∀ G169 : gh_H, G169 = gh_up G163 t (.inr (5, fs166.set 21 (.ref q162))) → ∀ q171 : Nat, G169 q171 = none → ∀ G172 : gh_H, G172 = gh_up G169 q171 (.inl (2, 20, .inl (fun _ => 0))) → ∃ fs175 : List Value, G172 t = some (.inr (5, fs175)) ∧ 22 < fs175.length ∧ (∀ G178 : gh_H, G178 = gh_up G172 t (.inr (5, fs175.set 22 (.ref q171))) → ∃ fs180 : List Value, G178 t = some (.inr (5, fs180)) ∧ 23 < fs180.length ∧ (∀ G183 : gh_H, G183 = gh_up G178 t (.inr (5, fs180.set 23 (.int 0))) → post G183))))))))))))))))))))))))
set_option maxRecDepth 100000 in
set_option maxHeartbeats 4000000 in
theorem mX5_init (l : Launch) (hl0 : l.stackTraces = false) (D : va_G) (AC : Nat → ClassId) (sa : gh_SA) (t : Nat) (post : gh_H → Prop) (px : String → gh_H → Prop) (G : gh_H) (sz : Nat) (hw : wX5_init post px G t) : Met l yX5_init wsX5_init rmX5_init (gh_Pc D vwCl AC (gh_ty AC) (gh_En sa) G sz [.ref t]) (va_Qv post (gh_B D vwCl AC (gh_A G sz)) (gh_A G sz)) 16 1002 (gh_A G sz) := by
  refine Met.ofW (cc := prog_7_method_1_code) (maxL := 1) (ret := none) (by decide) rfl ?_
  intro p e s m args below meth c s₁ B hml hv
  obtain ⟨rfl, hsz, hP, hK, hE⟩ := hv
  have hx := B.exec
  have hb := B.bytes
  have hr := B.returns
  have hts := atoms_spec (ws := wsX5_init) B.pre
  have hown : s.vm.findClass "OwnerLedgerModel" = some m.cls := findClass_of_methodNamed B.named
  have hlocks := B.notSynchronized
  have hin : meth.name = "<init>" := (name_of_methodNamed B.named B.method).1
  have htb : c.exceptionTable.toList = [] := gh_notab B (hts _ List.mem_cons_self)
  subst hsz
  have hA : ∀ q, s.heap.size ≤ q → gh_A G s.heap.size q := fun q h => Or.inr h
  generalize gh_A G s.heap.size = A at hP hE hA ⊢
  have hno : ∀ (pc : Nat), ∀ x ∈ c.exceptionTable.toList, covers x pc = false := by rw [htb]; intro _ _ h; cases h
  have CX : cxX5_init p s m [.ref t].toArray meth c D AC sa A := ⟨⟨hx, hb, hml, hown, hts⟩, hr, hlocks, htb, hK, hE, hA, hin⟩
  have hS : va_S A s.heap s.heap [] := va_S.rf
  have hl := lv_entry ([.ref t]) (n := 1) (Nat.le_of_ble_eq_true rfl)
  rw [lg_entry_eq]
  generalize (lg_sl ([.ref t]) ++ List.replicate (1 - (lg_sl ([.ref t])).length) Slot.unset).toArray = ls at hl ⊢
  have hl : lv_has ls 1 [(0, .ref t)] := hl
  dsimp only [wX5_init] at hw
  refine lv_aload_n hx hb dX5_init_0 rfl (lv_at hl 0 rfl) ?_
  refine W.objInit hx hb hown (hts _ (gT_up kw_371)) (hts _ (gT_up kw_18)) (hts _ (gT_up kw_19)) rfl (by rw [hml]; exact hl.1) rfl dX5_init_1 (Nat.le_of_ble_eq_true rfl) (Nat.le_of_ble_eq_true rfl) ?_
  refine W.eq (g2 := F0 m 4 ls []) rfl ?_
  refine lv_aload_n hx hb dX5_init_4 rfl (lv_at hl 0 rfl) ?_
  refine lv_iconst (v := 0) hx hb dX5_init_5 (by decide) ?_
  obtain ⟨fs1, he2, hk3, hw⟩ := hw
  refine gh_put (ci := 5) (v := .int 0) (ty := .int) (C := "OwnerLedgerModel") (T := TX5) (N := 24) hx hb hts (fun w h => gT_up (inX5 w h)) tyX5 tyX5_ok nmX5 hown hK hP hS he2 rfl 0 (by decide) (hts _ (gT_up kw_372)) (fun _ h9 => h9) rfl (by decide +kernel) rfl rfl hk3 dX5_init_6 (fun G4 H locs eG5 hP hS => ?_)
  replace hw := hw G4 eG5
  refine lv_aload_n hx hb dX5_init_9 rfl (lv_at hl 0 rfl) ?_
  refine lv_iconst (v := 0) hx hb dX5_init_10 (by decide) ?_
  obtain ⟨fs6, he7, hk8, hw⟩ := hw
  refine gh_put (ci := 5) (v := .int 0) (ty := .int) (C := "OwnerLedgerModel") (T := TX5) (N := 24) hx hb hts (fun w h => gT_up (inX5 w h)) tyX5 tyX5_ok nmX5 hown hK hP hS he7 rfl 1 (by decide) (hts _ (gT_up kw_373)) (fun _ h9 => h9) rfl (by decide +kernel) rfl rfl hk8 dX5_init_11 (fun G9 H locs eG10 hP hS => ?_)
  replace hw := hw G9 eG10
  refine lv_aload_n hx hb dX5_init_14 rfl (lv_at hl 0 rfl) ?_
  refine lv_iconst (v := 0) hx hb dX5_init_15 (by decide) ?_
  obtain ⟨fs11, he12, hk13, hw⟩ := hw
  refine gh_put (ci := 5) (v := .int 0) (ty := .int) (C := "OwnerLedgerModel") (T := TX5) (N := 24) hx hb hts (fun w h => gT_up (inX5 w h)) tyX5 tyX5_ok nmX5 hown hK hP hS he12 rfl 2 (by decide) (hts _ (gT_up kw_374)) (fun _ h9 => h9) rfl (by decide +kernel) rfl rfl hk13 dX5_init_16 (fun G14 H locs eG15 hP hS => ?_)
  replace hw := hw G14 eG15
  refine lv_aload_n hx hb dX5_init_19 rfl (lv_at hl 0 rfl) ?_
  refine lv_iconst (v := 0) hx hb dX5_init_20 (by decide) ?_
  obtain ⟨fs16, he17, hk18, hw⟩ := hw
  refine gh_put (ci := 5) (v := .int 0) (ty := .int) (C := "OwnerLedgerModel") (T := TX5) (N := 24) hx hb hts (fun w h => gT_up (inX5 w h)) tyX5 tyX5_ok nmX5 hown hK hP hS he17 rfl 3 (by decide) (hts _ (gT_up kw_375)) (fun _ h9 => h9) rfl (by decide +kernel) rfl rfl hk18 dX5_init_21 (fun G19 H locs eG20 hP hS => ?_)
  replace hw := hw G19 eG20
  refine lv_aload_n hx hb dX5_init_24 rfl (lv_at hl 0 rfl) ?_
  refine lv_bipush (v := 6) hx hb dX5_init_25 (by decide) ?_
  refine gh_newz (k := 2) hx hb (hts _ (gT_up kw_396)) hK rfl hP hS hA (n := 6) (N' := 6) (by decide) (by decide) (by decide) (Nat.le_of_ble_eq_true rfl) (Nat.le_of_ble_eq_true rfl) dX5_init_27 (fun q21 G22 H hq24 eG23 hP hS => ?_)
  replace hw := hw q21 hq24 G22 eG23
  obtain ⟨fs25, he26, hk27, hw⟩ := hw
  refine gh_putF (ci := 5) (v := .ref q21) (ty := (.array .boolean)) (C := "OwnerLedgerModel") (T := TX5) (N := 24) hx hb hts (fun w h => gT_up (inX5 w h)) tyX5 tyX5_ok nmX5 hown hK hP hS he26 rfl 4 (by decide) (hts _ (gT_up kw_376)) (fun _ h9 => h9) rfl hin rfl (by decide +kernel) rfl rfl hk27 dX5_init_29 (fun G28 H locs eG29 hP hS => ?_)
  replace hw := hw G28 eG29
  refine lv_aload_n hx hb dX5_init_32 rfl (lv_at hl 0 rfl) ?_
  refine lv_bipush (v := 6) hx hb dX5_init_33 (by decide) ?_
  refine gh_newl (k := 1) hx hb (hts _ (gT_up kw_397)) hK rfl hP hS hA (n := 6) (N' := 6) (by decide) (by decide) (by decide) (Nat.le_of_ble_eq_true rfl) (Nat.le_of_ble_eq_true rfl) dX5_init_35 (fun q30 G31 H hq33 eG32 hP hS => ?_)
  replace hw := hw q30 hq33 G31 eG32
  obtain ⟨fs34, he35, hk36, hw⟩ := hw
  refine gh_putF (ci := 5) (v := .ref q30) (ty := (.array .long)) (C := "OwnerLedgerModel") (T := TX5) (N := 24) hx hb hts (fun w h => gT_up (inX5 w h)) tyX5 tyX5_ok nmX5 hown hK hP hS he35 rfl 5 (by decide) (hts _ (gT_up kw_377)) (fun _ h9 => h9) rfl hin rfl (by decide +kernel) rfl rfl hk36 dX5_init_37 (fun G37 H locs eG38 hP hS => ?_)
  replace hw := hw G37 eG38
  refine lv_aload_n hx hb dX5_init_40 rfl (lv_at hl 0 rfl) ?_
  refine lv_iconst (v := 0) hx hb dX5_init_41 (by decide) ?_
  obtain ⟨fs39, he40, hk41, hw⟩ := hw
  refine gh_put (ci := 5) (v := .int 0) (ty := .int) (C := "OwnerLedgerModel") (T := TX5) (N := 24) hx hb hts (fun w h => gT_up (inX5 w h)) tyX5 tyX5_ok nmX5 hown hK hP hS he40 rfl 6 (by decide) (hts _ (gT_up kw_378)) (fun _ h9 => h9) rfl (by decide +kernel) rfl rfl hk41 dX5_init_42 (fun G42 H locs eG43 hP hS => ?_)
  replace hw := hw G42 eG43
  refine lv_aload_n hx hb dX5_init_45 rfl (lv_at hl 0 rfl) ?_
  refine lv_bipush (v := 20) hx hb dX5_init_46 (by decide) ?_
  refine gh_newi (k := 0) hx hb (hts _ (gT_up kw_34)) hK rfl hP hS hA (n := 20) (N' := 20) (by decide) (by decide) (by decide) (Nat.le_of_ble_eq_true rfl) (Nat.le_of_ble_eq_true rfl) dX5_init_48 (fun q44 G45 H hq47 eG46 hP hS => ?_)
  replace hw := hw q44 hq47 G45 eG46
  obtain ⟨fs48, he49, hk50, hw⟩ := hw
  refine gh_putF (ci := 5) (v := .ref q44) (ty := (.array .int)) (C := "OwnerLedgerModel") (T := TX5) (N := 24) hx hb hts (fun w h => gT_up (inX5 w h)) tyX5 tyX5_ok nmX5 hown hK hP hS he49 rfl 7 (by decide) (hts _ (gT_up kw_379)) (fun _ h9 => h9) rfl hin rfl (by decide +kernel) rfl rfl hk50 dX5_init_50 (fun G51 H locs eG52 hP hS => ?_)
  replace hw := hw G51 eG52
  refine lv_aload_n hx hb dX5_init_53 rfl (lv_at hl 0 rfl) ?_
  refine lv_iconst (v := 0) hx hb dX5_init_54 (by decide) ?_
  obtain ⟨fs53, he54, hk55, hw⟩ := hw
  refine gh_put (ci := 5) (v := .int 0) (ty := .int) (C := "OwnerLedgerModel") (T := TX5) (N := 24) hx hb hts (fun w h => gT_up (inX5 w h)) tyX5 tyX5_ok nmX5 hown hK hP hS he54 rfl 8 (by decide) (hts _ (gT_up kw_380)) (fun _ h9 => h9) rfl (by decide +kernel) rfl rfl hk55 dX5_init_55 (fun G56 H locs eG57 hP hS => ?_)
  replace hw := hw G56 eG57
  refine lv_aload_n hx hb dX5_init_58 rfl (lv_at hl 0 rfl) ?_
  refine lv_bipush (v := 30) hx hb dX5_init_59 (by decide) ?_
  refine gh_newi (k := 0) hx hb (hts _ (gT_up kw_34)) hK rfl hP hS hA (n := 30) (N' := 30) (by decide) (by decide) (by decide) (Nat.le_of_ble_eq_true rfl) (Nat.le_of_ble_eq_true rfl) dX5_init_61 (fun q58 G59 H hq61 eG60 hP hS => ?_)
  replace hw := hw q58 hq61 G59 eG60
  obtain ⟨fs62, he63, hk64, hw⟩ := hw
  refine gh_putF (ci := 5) (v := .ref q58) (ty := (.array .int)) (C := "OwnerLedgerModel") (T := TX5) (N := 24) hx hb hts (fun w h => gT_up (inX5 w h)) tyX5 tyX5_ok nmX5 hown hK hP hS he63 rfl 9 (by decide) (hts _ (gT_up kw_381)) (fun _ h9 => h9) rfl hin rfl (by decide +kernel) rfl rfl hk64 dX5_init_63 (fun G65 H locs eG66 hP hS => ?_)
  replace hw := hw G65 eG66
  refine lv_aload_n hx hb dX5_init_66 rfl (lv_at hl 0 rfl) ?_
  refine lv_bipush (v := 30) hx hb dX5_init_67 (by decide) ?_
  refine gh_newi (k := 0) hx hb (hts _ (gT_up kw_34)) hK rfl hP hS hA (n := 30) (N' := 30) (by decide) (by decide) (by decide) (Nat.le_of_ble_eq_true rfl) (Nat.le_of_ble_eq_true rfl) dX5_init_69 (fun q67 G68 H hq70 eG69 hP hS => ?_)
  replace hw := hw q67 hq70 G68 eG69
  obtain ⟨fs71, he72, hk73, hw⟩ := hw
  refine gh_putF (ci := 5) (v := .ref q67) (ty := (.array .int)) (C := "OwnerLedgerModel") (T := TX5) (N := 24) hx hb hts (fun w h => gT_up (inX5 w h)) tyX5 tyX5_ok nmX5 hown hK hP hS he72 rfl 10 (by decide) (hts _ (gT_up kw_382)) (fun _ h9 => h9) rfl hin rfl (by decide +kernel) rfl rfl hk73 dX5_init_71 (fun G74 H locs eG75 hP hS => ?_)
  replace hw := hw G74 eG75
  refine lv_aload_n hx hb dX5_init_74 rfl (lv_at hl 0 rfl) ?_
  refine lv_bipush (v := 30) hx hb dX5_init_75 (by decide) ?_
  refine gh_newi (k := 0) hx hb (hts _ (gT_up kw_34)) hK rfl hP hS hA (n := 30) (N' := 30) (by decide) (by decide) (by decide) (Nat.le_of_ble_eq_true rfl) (Nat.le_of_ble_eq_true rfl) dX5_init_77 (fun q76 G77 H hq79 eG78 hP hS => ?_)
  replace hw := hw q76 hq79 G77 eG78
  obtain ⟨fs80, he81, hk82, hw⟩ := hw
  refine gh_putF (ci := 5) (v := .ref q76) (ty := (.array .int)) (C := "OwnerLedgerModel") (T := TX5) (N := 24) hx hb hts (fun w h => gT_up (inX5 w h)) tyX5 tyX5_ok nmX5 hown hK hP hS he81 rfl 11 (by decide) (hts _ (gT_up kw_383)) (fun _ h9 => h9) rfl hin rfl (by decide +kernel) rfl rfl hk82 dX5_init_79 (fun G83 H locs eG84 hP hS => ?_)
  replace hw := hw G83 eG84
  refine lv_aload_n hx hb dX5_init_82 rfl (lv_at hl 0 rfl) ?_
  refine lv_bipush (v := 30) hx hb dX5_init_83 (by decide) ?_
  refine gh_newi (k := 0) hx hb (hts _ (gT_up kw_34)) hK rfl hP hS hA (n := 30) (N' := 30) (by decide) (by decide) (by decide) (Nat.le_of_ble_eq_true rfl) (Nat.le_of_ble_eq_true rfl) dX5_init_85 (fun q85 G86 H hq88 eG87 hP hS => ?_)
  replace hw := hw q85 hq88 G86 eG87
  obtain ⟨fs89, he90, hk91, hw⟩ := hw
  refine gh_putF (ci := 5) (v := .ref q85) (ty := (.array .int)) (C := "OwnerLedgerModel") (T := TX5) (N := 24) hx hb hts (fun w h => gT_up (inX5 w h)) tyX5 tyX5_ok nmX5 hown hK hP hS he90 rfl 12 (by decide) (hts _ (gT_up kw_384)) (fun _ h9 => h9) rfl hin rfl (by decide +kernel) rfl rfl hk91 dX5_init_87 (fun G92 H locs eG93 hP hS => ?_)
  replace hw := hw G92 eG93
  refine lv_aload_n hx hb dX5_init_90 rfl (lv_at hl 0 rfl) ?_
  refine lv_bipush (v := 30) hx hb dX5_init_91 (by decide) ?_
  refine gh_newi (k := 0) hx hb (hts _ (gT_up kw_34)) hK rfl hP hS hA (n := 30) (N' := 30) (by decide) (by decide) (by decide) (Nat.le_of_ble_eq_true rfl) (Nat.le_of_ble_eq_true rfl) dX5_init_93 (fun q94 G95 H hq97 eG96 hP hS => ?_)
  replace hw := hw q94 hq97 G95 eG96
  obtain ⟨fs98, he99, hk100, hw⟩ := hw
  refine gh_putF (ci := 5) (v := .ref q94) (ty := (.array .int)) (C := "OwnerLedgerModel") (T := TX5) (N := 24) hx hb hts (fun w h => gT_up (inX5 w h)) tyX5 tyX5_ok nmX5 hown hK hP hS he99 rfl 13 (by decide) (hts _ (gT_up kw_385)) (fun _ h9 => h9) rfl hin rfl (by decide +kernel) rfl rfl hk100 dX5_init_95 (fun G101 H locs eG102 hP hS => ?_)
  replace hw := hw G101 eG102
  refine lv_aload_n hx hb dX5_init_98 rfl (lv_at hl 0 rfl) ?_
  refine lv_sipush (v := 240) hx hb dX5_init_99 (by decide) ?_
  refine gh_newi (k := 0) hx hb (hts _ (gT_up kw_34)) hK rfl hP hS hA (n := 240) (N' := 240) (by decide) (by decide) (by decide) (Nat.le_of_ble_eq_true rfl) (Nat.le_of_ble_eq_true rfl) dX5_init_102 (fun q103 G104 H hq106 eG105 hP hS => ?_)
  replace hw := hw q103 hq106 G104 eG105
  obtain ⟨fs107, he108, hk109, hw⟩ := hw
  refine gh_putF (ci := 5) (v := .ref q103) (ty := (.array .int)) (C := "OwnerLedgerModel") (T := TX5) (N := 24) hx hb hts (fun w h => gT_up (inX5 w h)) tyX5 tyX5_ok nmX5 hown hK hP hS he108 rfl 14 (by decide) (hts _ (gT_up kw_386)) (fun _ h9 => h9) rfl hin rfl (by decide +kernel) rfl rfl hk109 dX5_init_104 (fun G110 H locs eG111 hP hS => ?_)
  replace hw := hw G110 eG111
  refine lv_aload_n hx hb dX5_init_107 rfl (lv_at hl 0 rfl) ?_
  refine lv_sipush (v := 240) hx hb dX5_init_108 (by decide) ?_
  refine gh_newl (k := 1) hx hb (hts _ (gT_up kw_397)) hK rfl hP hS hA (n := 240) (N' := 240) (by decide) (by decide) (by decide) (Nat.le_of_ble_eq_true rfl) (Nat.le_of_ble_eq_true rfl) dX5_init_111 (fun q112 G113 H hq115 eG114 hP hS => ?_)
  replace hw := hw q112 hq115 G113 eG114
  obtain ⟨fs116, he117, hk118, hw⟩ := hw
  refine gh_putF (ci := 5) (v := .ref q112) (ty := (.array .long)) (C := "OwnerLedgerModel") (T := TX5) (N := 24) hx hb hts (fun w h => gT_up (inX5 w h)) tyX5 tyX5_ok nmX5 hown hK hP hS he117 rfl 15 (by decide) (hts _ (gT_up kw_387)) (fun _ h9 => h9) rfl hin rfl (by decide +kernel) rfl rfl hk118 dX5_init_113 (fun G119 H locs eG120 hP hS => ?_)
  replace hw := hw G119 eG120
  refine lv_aload_n hx hb dX5_init_116 rfl (lv_at hl 0 rfl) ?_
  refine lv_sipush (v := 240) hx hb dX5_init_117 (by decide) ?_
  refine gh_newz (k := 2) hx hb (hts _ (gT_up kw_396)) hK rfl hP hS hA (n := 240) (N' := 240) (by decide) (by decide) (by decide) (Nat.le_of_ble_eq_true rfl) (Nat.le_of_ble_eq_true rfl) dX5_init_120 (fun q121 G122 H hq124 eG123 hP hS => ?_)
  replace hw := hw q121 hq124 G122 eG123
  obtain ⟨fs125, he126, hk127, hw⟩ := hw
  refine gh_putF (ci := 5) (v := .ref q121) (ty := (.array .boolean)) (C := "OwnerLedgerModel") (T := TX5) (N := 24) hx hb hts (fun w h => gT_up (inX5 w h)) tyX5 tyX5_ok nmX5 hown hK hP hS he126 rfl 16 (by decide) (hts _ (gT_up kw_388)) (fun _ h9 => h9) rfl hin rfl (by decide +kernel) rfl rfl hk127 dX5_init_122 (fun G128 H locs eG129 hP hS => ?_)
  replace hw := hw G128 eG129
  refine lv_aload_n hx hb dX5_init_125 rfl (lv_at hl 0 rfl) ?_
  refine lv_iconst (v := 0) hx hb dX5_init_126 (by decide) ?_
  obtain ⟨fs130, he131, hk132, hw⟩ := hw
  refine gh_put (ci := 5) (v := .int 0) (ty := .int) (C := "OwnerLedgerModel") (T := TX5) (N := 24) hx hb hts (fun w h => gT_up (inX5 w h)) tyX5 tyX5_ok nmX5 hown hK hP hS he131 rfl 17 (by decide) (hts _ (gT_up kw_389)) (fun _ h9 => h9) rfl (by decide +kernel) rfl rfl hk132 dX5_init_127 (fun G133 H locs eG134 hP hS => ?_)
  replace hw := hw G133 eG134
  refine lv_aload_n hx hb dX5_init_130 rfl (lv_at hl 0 rfl) ?_
  refine lv_bipush (v := 20) hx hb dX5_init_131 (by decide) ?_
  refine gh_newi (k := 0) hx hb (hts _ (gT_up kw_34)) hK rfl hP hS hA (n := 20) (N' := 20) (by decide) (by decide) (by decide) (Nat.le_of_ble_eq_true rfl) (Nat.le_of_ble_eq_true rfl) dX5_init_133 (fun q135 G136 H hq138 eG137 hP hS => ?_)
  replace hw := hw q135 hq138 G136 eG137
  obtain ⟨fs139, he140, hk141, hw⟩ := hw
  refine gh_putF (ci := 5) (v := .ref q135) (ty := (.array .int)) (C := "OwnerLedgerModel") (T := TX5) (N := 24) hx hb hts (fun w h => gT_up (inX5 w h)) tyX5 tyX5_ok nmX5 hown hK hP hS he140 rfl 18 (by decide) (hts _ (gT_up kw_390)) (fun _ h9 => h9) rfl hin rfl (by decide +kernel) rfl rfl hk141 dX5_init_135 (fun G142 H locs eG143 hP hS => ?_)
  replace hw := hw G142 eG143
  refine lv_aload_n hx hb dX5_init_138 rfl (lv_at hl 0 rfl) ?_
  refine lv_bipush (v := 20) hx hb dX5_init_139 (by decide) ?_
  refine gh_newl (k := 1) hx hb (hts _ (gT_up kw_397)) hK rfl hP hS hA (n := 20) (N' := 20) (by decide) (by decide) (by decide) (Nat.le_of_ble_eq_true rfl) (Nat.le_of_ble_eq_true rfl) dX5_init_141 (fun q144 G145 H hq147 eG146 hP hS => ?_)
  replace hw := hw q144 hq147 G145 eG146
  obtain ⟨fs148, he149, hk150, hw⟩ := hw
  refine gh_putF (ci := 5) (v := .ref q144) (ty := (.array .long)) (C := "OwnerLedgerModel") (T := TX5) (N := 24) hx hb hts (fun w h => gT_up (inX5 w h)) tyX5 tyX5_ok nmX5 hown hK hP hS he149 rfl 19 (by decide) (hts _ (gT_up kw_391)) (fun _ h9 => h9) rfl hin rfl (by decide +kernel) rfl rfl hk150 dX5_init_143 (fun G151 H locs eG152 hP hS => ?_)
  replace hw := hw G151 eG152
  refine lv_aload_n hx hb dX5_init_146 rfl (lv_at hl 0 rfl) ?_
  refine lv_bipush (v := 20) hx hb dX5_init_147 (by decide) ?_
  refine gh_newi (k := 0) hx hb (hts _ (gT_up kw_34)) hK rfl hP hS hA (n := 20) (N' := 20) (by decide) (by decide) (by decide) (Nat.le_of_ble_eq_true rfl) (Nat.le_of_ble_eq_true rfl) dX5_init_149 (fun q153 G154 H hq156 eG155 hP hS => ?_)
  replace hw := hw q153 hq156 G154 eG155
  obtain ⟨fs157, he158, hk159, hw⟩ := hw
  refine gh_putF (ci := 5) (v := .ref q153) (ty := (.array .int)) (C := "OwnerLedgerModel") (T := TX5) (N := 24) hx hb hts (fun w h => gT_up (inX5 w h)) tyX5 tyX5_ok nmX5 hown hK hP hS he158 rfl 20 (by decide) (hts _ (gT_up kw_392)) (fun _ h9 => h9) rfl hin rfl (by decide +kernel) rfl rfl hk159 dX5_init_151 (fun G160 H locs eG161 hP hS => ?_)
  replace hw := hw G160 eG161
  refine lv_aload_n hx hb dX5_init_154 rfl (lv_at hl 0 rfl) ?_
  refine lv_bipush (v := 20) hx hb dX5_init_155 (by decide) ?_
  refine gh_newi (k := 0) hx hb (hts _ (gT_up kw_34)) hK rfl hP hS hA (n := 20) (N' := 20) (by decide) (by decide) (by decide) (Nat.le_of_ble_eq_true rfl) (Nat.le_of_ble_eq_true rfl) dX5_init_157 (fun q162 G163 H hq165 eG164 hP hS => ?_)
  replace hw := hw q162 hq165 G163 eG164
  obtain ⟨fs166, he167, hk168, hw⟩ := hw
  refine gh_putF (ci := 5) (v := .ref q162) (ty := (.array .int)) (C := "OwnerLedgerModel") (T := TX5) (N := 24) hx hb hts (fun w h => gT_up (inX5 w h)) tyX5 tyX5_ok nmX5 hown hK hP hS he167 rfl 21 (by decide) (hts _ (gT_up kw_393)) (fun _ h9 => h9) rfl hin rfl (by decide +kernel) rfl rfl hk168 dX5_init_159 (fun G169 H locs eG170 hP hS => ?_)
  replace hw := hw G169 eG170
  refine lv_aload_n hx hb dX5_init_162 rfl (lv_at hl 0 rfl) ?_
  refine lv_bipush (v := 20) hx hb dX5_init_163 (by decide) ?_
  refine gh_newz (k := 2) hx hb (hts _ (gT_up kw_396)) hK rfl hP hS hA (n := 20) (N' := 20) (by decide) (by decide) (by decide) (Nat.le_of_ble_eq_true rfl) (Nat.le_of_ble_eq_true rfl) dX5_init_165 (fun q171 G172 H hq174 eG173 hP hS => ?_)
  replace hw := hw q171 hq174 G172 eG173
  obtain ⟨fs175, he176, hk177, hw⟩ := hw
  refine gh_putF (ci := 5) (v := .ref q171) (ty := (.array .boolean)) (C := "OwnerLedgerModel") (T := TX5) (N := 24) hx hb hts (fun w h => gT_up (inX5 w h)) tyX5 tyX5_ok nmX5 hown hK hP hS he176 rfl 22 (by decide) (hts _ (gT_up kw_394)) (fun _ h9 => h9) rfl hin rfl (by decide +kernel) rfl rfl hk177 dX5_init_167 (fun G178 H locs eG179 hP hS => ?_)
  replace hw := hw G178 eG179
  refine lv_aload_n hx hb dX5_init_170 rfl (lv_at hl 0 rfl) ?_
  refine lv_iconst (v := 0) hx hb dX5_init_171 (by decide) ?_
  obtain ⟨fs180, he181, hk182, hw⟩ := hw
  refine gh_put (ci := 5) (v := .int 0) (ty := .int) (C := "OwnerLedgerModel") (T := TX5) (N := 24) hx hb hts (fun w h => gT_up (inX5 w h)) tyX5 tyX5_ok nmX5 hown hK hP hS he181 rfl 23 (by decide) (hts _ (gT_up kw_395)) (fun _ h9 => h9) rfl (by decide +kernel) rfl rfl hk182 dX5_init_172 (fun G183 H locs eG184 hP hS => ?_)
  replace hw := hw G183 eG184
  exact gh_vretM hx hb hr hlocks hw hP hS (Nat.le_of_ble_eq_true rfl) (Nat.le_of_ble_eq_true rfl) dX5_init_175
abbrev rmX5_not : Room := { frames := 0, cells := 0, slots := 0, locals := 0 }
abbrev cxX5_not (p : Program) (s : State) (m : MethodId) (args : Array Value) (meth : Method) (c : Code) (D : va_G) (AC : Nat → ClassId) (sa : gh_SA) (A : Nat → Prop) : Prop := CallFix p m c prog_7_method_2_code 6 s args wsX5_not "OwnerLedgerModel" ∧ meth.sig.returnType = (some .boolean) ∧ meth.locks = false ∧ c.exceptionTable.toList = [] ∧ va_K D vwCl (gh_ty AC) s ∧ gh_En sa A s s.heap ∧ (∀ q, s.heap.size ≤ q → A q)
def wX5_not (post : Int32 → gh_H → Prop) (px : String → gh_H → Prop) (G : gh_H) (p0 : Int64) (p1 : Int64) (p2 : Int64) : Prop := ((lg_cmp p0 p1) < 0 → (post 1 G)) ∧ (¬ (lg_cmp p0 p1) < 0 → (((lg_cmp p0 p2) ≤ 0 → (post 0 G)) ∧ (¬ (lg_cmp p0 p2) ≤ 0 → (post 1 G))))
set_option maxRecDepth 100000 in
set_option maxHeartbeats 4000000 in
theorem mX5_not (l : Launch) (hl0 : l.stackTraces = false) (D : va_G) (AC : Nat → ClassId) (sa : gh_SA) (p0 : Int64) (p1 : Int64) (p2 : Int64) (post : Int32 → gh_H → Prop) (px : String → gh_H → Prop) (G : gh_H) (sz : Nat) (hw : wX5_not post px G p0 p1 p2) : vx_Met l yX5_not wsX5_not rmX5_not (gh_Pc D vwCl AC (gh_ty AC) (gh_En sa) G sz [.long p0, .long p1, .long p2]) (va_Qi post (gh_B D vwCl AC (gh_A G sz)) (gh_A G sz)) (gh_X D vwCl AC px (gh_A G sz)) 0 0 (gh_A G sz) := by
  refine vx_ofW (cc := prog_7_method_2_code) (maxL := 6) (ret := (some .boolean)) (by decide) rfl ?_
  intro p e s m args below meth c s₁ B hml hnoh hv
  obtain ⟨rfl, hsz, hP, hK, hE⟩ := hv
  have hx := B.exec
  have hb := B.bytes
  have hr := B.returns
  have hts := atoms_spec (ws := wsX5_not) B.pre
  have hown : s.vm.findClass "OwnerLedgerModel" = some m.cls := findClass_of_methodNamed B.named
  have hlocks := B.notSynchronized
  have htb : c.exceptionTable.toList = [] := List.eq_nil_iff_forall_not_mem.mpr hnoh
  subst hsz
  have hA : ∀ q, s.heap.size ≤ q → gh_A G s.heap.size q := fun q h => Or.inr h
  generalize gh_A G s.heap.size = A at hP hE hA ⊢
  have hno : ∀ (pc : Nat), ∀ x ∈ c.exceptionTable.toList, covers x pc = false := by rw [htb]; intro _ _ h; cases h
  have CX : cxX5_not p s m [.long p0, .long p1, .long p2].toArray meth c D AC sa A := ⟨⟨hx, hb, hml, hown, hts⟩, hr, hlocks, htb, hK, hE, hA⟩
  have hS : va_S A s.heap s.heap [] := va_S.rf
  have hl := lv_entry ([.long p0, .long p1, .long p2]) (n := 6) (Nat.le_of_ble_eq_true rfl)
  rw [lg_entry_eq]
  generalize (lg_sl ([.long p0, .long p1, .long p2]) ++ List.replicate (6 - (lg_sl ([.long p0, .long p1, .long p2])).length) Slot.unset).toArray = ls at hl ⊢
  have hl : lv_has ls 6 [(0, .long p0), (2, .long p1), (4, .long p2)] := hl
  dsimp only [wX5_not] at hw
  refine lv_lload_n hx hb dX5_not_0 rfl (lv_at hl 0 rfl) ?_
  refine lv_lload_n hx hb dX5_not_1 rfl (lv_at hl 1 rfl) ?_
  refine W.lcmp hx hb dX5_not_2 ?_
  refine lv_if_lt (tgt := 13) hx hb dX5_not_3 (by decide) (fun c1 => ?_) (fun c1 => ?_)
  · replace hw := hw.1 c1
    refine lv_iconst (v := 1) hx hb dX5_not_13 (by decide) ?_
    refine lv_goto (tgt := 18) hx hb dX5_not_14 (by decide) ?_
    exact gh_zret hx hb hr hlocks (by decide) hw hP hS (Nat.le_of_ble_eq_true rfl) (Nat.le_of_ble_eq_true rfl) dX5_not_18
  · replace hw := hw.2 c1
    refine lv_lload_n hx hb dX5_not_6 rfl (lv_at hl 0 rfl) ?_
    refine lv_lload hx hb dX5_not_7 (lv_at hl 2 rfl) ?_
    refine W.lcmp hx hb dX5_not_9 ?_
    refine lv_if_le (tgt := 17) hx hb dX5_not_10 (by decide) (fun c2 => ?_) (fun c2 => ?_)
    · replace hw := hw.1 c2
      refine lv_iconst (v := 0) hx hb dX5_not_17 (by decide) ?_
      exact gh_zret hx hb hr hlocks (by decide) hw hP hS (Nat.le_of_ble_eq_true rfl) (Nat.le_of_ble_eq_true rfl) dX5_not_18
    · replace hw := hw.2 c2
      refine lv_iconst (v := 1) hx hb dX5_not_13 (by decide) ?_
      refine lv_goto (tgt := 18) hx hb dX5_not_14 (by decide) ?_
      exact gh_zret hx hb hr hlocks (by decide) hw hP hS (Nat.le_of_ble_eq_true rfl) (Nat.le_of_ble_eq_true rfl) dX5_not_18
abbrev rmX5_noOwner : Room := { frames := 0, cells := 0, slots := 0, locals := 0 }
abbrev cxX5_noOwner (p : Program) (s : State) (m : MethodId) (args : Array Value) (meth : Method) (c : Code) (D : va_G) (AC : Nat → ClassId) (sa : gh_SA) (A : Nat → Prop) : Prop := CallFix p m c prog_7_method_3_code 2 s args wsX5_noOwner "OwnerLedgerModel" ∧ meth.sig.returnType = (some .boolean) ∧ meth.locks = false ∧ c.exceptionTable.toList = [] ∧ va_K D vwCl (gh_ty AC) s ∧ gh_En sa A s s.heap ∧ (∀ q, s.heap.size ≤ q → A q)
def wX5_noOwner (post : Int32 → gh_H → Prop) (px : String → gh_H → Prop) (G : gh_H) (t : Nat) (p0 : Int32) : Prop := (p0 < 0 → (post 1 G)) ∧ (¬ p0 < 0 → (∃ (fs2 : List Value) (x5 : Int32), G t = some (.inr (5, fs2)) ∧ fs2[3]? = some (.int x5) ∧ ((p0 < x5 → (post 0 G)) ∧ (¬ p0 < x5 → (post 1 G)))))
set_option maxRecDepth 100000 in
set_option maxHeartbeats 4000000 in
theorem mX5_noOwner (l : Launch) (hl0 : l.stackTraces = false) (D : va_G) (AC : Nat → ClassId) (sa : gh_SA) (t : Nat) (p0 : Int32) (post : Int32 → gh_H → Prop) (px : String → gh_H → Prop) (G : gh_H) (sz : Nat) (hw : wX5_noOwner post px G t p0) : vx_Met l yX5_noOwner wsX5_noOwner rmX5_noOwner (gh_Pc D vwCl AC (gh_ty AC) (gh_En sa) G sz [.ref t, .int p0]) (va_Qi post (gh_B D vwCl AC (gh_A G sz)) (gh_A G sz)) (gh_X D vwCl AC px (gh_A G sz)) 0 0 (gh_A G sz) := by
  refine vx_ofW (cc := prog_7_method_3_code) (maxL := 2) (ret := (some .boolean)) (by decide) rfl ?_
  intro p e s m args below meth c s₁ B hml hnoh hv
  obtain ⟨rfl, hsz, hP, hK, hE⟩ := hv
  have hx := B.exec
  have hb := B.bytes
  have hr := B.returns
  have hts := atoms_spec (ws := wsX5_noOwner) B.pre
  have hown : s.vm.findClass "OwnerLedgerModel" = some m.cls := findClass_of_methodNamed B.named
  have hlocks := B.notSynchronized
  have htb : c.exceptionTable.toList = [] := List.eq_nil_iff_forall_not_mem.mpr hnoh
  subst hsz
  have hA : ∀ q, s.heap.size ≤ q → gh_A G s.heap.size q := fun q h => Or.inr h
  generalize gh_A G s.heap.size = A at hP hE hA ⊢
  have hno : ∀ (pc : Nat), ∀ x ∈ c.exceptionTable.toList, covers x pc = false := by rw [htb]; intro _ _ h; cases h
  have CX : cxX5_noOwner p s m [.ref t, .int p0].toArray meth c D AC sa A := ⟨⟨hx, hb, hml, hown, hts⟩, hr, hlocks, htb, hK, hE, hA⟩
  have hS : va_S A s.heap s.heap [] := va_S.rf
  have hl := lv_entry ([.ref t, .int p0]) (n := 2) (Nat.le_of_ble_eq_true rfl)
  rw [lg_entry_eq]
  generalize (lg_sl ([.ref t, .int p0]) ++ List.replicate (2 - (lg_sl ([.ref t, .int p0])).length) Slot.unset).toArray = ls at hl ⊢
  have hl : lv_has ls 2 [(0, .ref t), (1, .int p0)] := hl
  dsimp only [wX5_noOwner] at hw
  refine lv_iload_n hx hb dX5_noOwner_0 rfl (lv_at hl 1 rfl) ?_
  refine lv_if_lt (tgt := 12) hx hb dX5_noOwner_1 (by decide) (fun c1 => ?_) (fun c1 => ?_)
  · replace hw := hw.1 c1
    refine lv_iconst (v := 1) hx hb dX5_noOwner_12 (by decide) ?_
    refine lv_goto (tgt := 17) hx hb dX5_noOwner_13 (by decide) ?_
    exact gh_zret hx hb hr hlocks (by decide) hw hP hS (Nat.le_of_ble_eq_true rfl) (Nat.le_of_ble_eq_true rfl) dX5_noOwner_17
  · replace hw := hw.2 c1
    refine lv_iload_n hx hb dX5_noOwner_4 rfl (lv_at hl 1 rfl) ?_
    refine lv_aload_n hx hb dX5_noOwner_5 rfl (lv_at hl 0 rfl) ?_
    obtain ⟨fs2, x5, he3, hv4, hw⟩ := hw
    refine gh_get (ci := 5) (v := .int x5) (C := "OwnerLedgerModel") (T := TX5) (N := 24) hx hb hts (fun w h => gT_up (inX5 w h)) hown hK hP he3 rfl 3 (by decide) (hts _ (gT_up kw_375)) (fun _ h9 => h9) hv4 dX5_noOwner_6 ?_
    refine lv_icmp_lt (tgt := 16) hx hb dX5_noOwner_9 (by decide) (fun c6 => ?_) (fun c6 => ?_)
    · replace hw := hw.1 c6
      refine lv_iconst (v := 0) hx hb dX5_noOwner_16 (by decide) ?_
      exact gh_zret hx hb hr hlocks (by decide) hw hP hS (Nat.le_of_ble_eq_true rfl) (Nat.le_of_ble_eq_true rfl) dX5_noOwner_17
    · replace hw := hw.2 c6
      refine lv_iconst (v := 1) hx hb dX5_noOwner_12 (by decide) ?_
      refine lv_goto (tgt := 17) hx hb dX5_noOwner_13 (by decide) ?_
      exact gh_zret hx hb hr hlocks (by decide) hw hP hS (Nat.le_of_ble_eq_true rfl) (Nat.le_of_ble_eq_true rfl) dX5_noOwner_17
abbrev rmX5_noBatch : Room := { frames := 0, cells := 0, slots := 0, locals := 0 }
abbrev cxX5_noBatch (p : Program) (s : State) (m : MethodId) (args : Array Value) (meth : Method) (c : Code) (D : va_G) (AC : Nat → ClassId) (sa : gh_SA) (A : Nat → Prop) : Prop := CallFix p m c prog_7_method_4_code 2 s args wsX5_noBatch "OwnerLedgerModel" ∧ meth.sig.returnType = (some .boolean) ∧ meth.locks = false ∧ c.exceptionTable.toList = [] ∧ va_K D vwCl (gh_ty AC) s ∧ gh_En sa A s s.heap ∧ (∀ q, s.heap.size ≤ q → A q)
def wX5_noBatch (post : Int32 → gh_H → Prop) (px : String → gh_H → Prop) (G : gh_H) (t : Nat) (p0 : Int32) : Prop := (p0 < 1 → (post 1 G)) ∧ (¬ p0 < 1 → (∃ (fs2 : List Value) (x5 : Int32), G t = some (.inr (5, fs2)) ∧ fs2[8]? = some (.int x5) ∧ ((p0 ≤ x5 → (post 0 G)) ∧ (¬ p0 ≤ x5 → (post 1 G)))))
set_option maxRecDepth 100000 in
set_option maxHeartbeats 4000000 in
theorem mX5_noBatch (l : Launch) (hl0 : l.stackTraces = false) (D : va_G) (AC : Nat → ClassId) (sa : gh_SA) (t : Nat) (p0 : Int32) (post : Int32 → gh_H → Prop) (px : String → gh_H → Prop) (G : gh_H) (sz : Nat) (hw : wX5_noBatch post px G t p0) : vx_Met l yX5_noBatch wsX5_noBatch rmX5_noBatch (gh_Pc D vwCl AC (gh_ty AC) (gh_En sa) G sz [.ref t, .int p0]) (va_Qi post (gh_B D vwCl AC (gh_A G sz)) (gh_A G sz)) (gh_X D vwCl AC px (gh_A G sz)) 0 0 (gh_A G sz) := by
  refine vx_ofW (cc := prog_7_method_4_code) (maxL := 2) (ret := (some .boolean)) (by decide) rfl ?_
  intro p e s m args below meth c s₁ B hml hnoh hv
  obtain ⟨rfl, hsz, hP, hK, hE⟩ := hv
  have hx := B.exec
  have hb := B.bytes
  have hr := B.returns
  have hts := atoms_spec (ws := wsX5_noBatch) B.pre
  have hown : s.vm.findClass "OwnerLedgerModel" = some m.cls := findClass_of_methodNamed B.named
  have hlocks := B.notSynchronized
  have htb : c.exceptionTable.toList = [] := List.eq_nil_iff_forall_not_mem.mpr hnoh
  subst hsz
  have hA : ∀ q, s.heap.size ≤ q → gh_A G s.heap.size q := fun q h => Or.inr h
  generalize gh_A G s.heap.size = A at hP hE hA ⊢
  have hno : ∀ (pc : Nat), ∀ x ∈ c.exceptionTable.toList, covers x pc = false := by rw [htb]; intro _ _ h; cases h
  have CX : cxX5_noBatch p s m [.ref t, .int p0].toArray meth c D AC sa A := ⟨⟨hx, hb, hml, hown, hts⟩, hr, hlocks, htb, hK, hE, hA⟩
  have hS : va_S A s.heap s.heap [] := va_S.rf
  have hl := lv_entry ([.ref t, .int p0]) (n := 2) (Nat.le_of_ble_eq_true rfl)
  rw [lg_entry_eq]
  generalize (lg_sl ([.ref t, .int p0]) ++ List.replicate (2 - (lg_sl ([.ref t, .int p0])).length) Slot.unset).toArray = ls at hl ⊢
  have hl : lv_has ls 2 [(0, .ref t), (1, .int p0)] := hl
  dsimp only [wX5_noBatch] at hw
  refine lv_iload_n hx hb dX5_noBatch_0 rfl (lv_at hl 1 rfl) ?_
  refine lv_iconst (v := 1) hx hb dX5_noBatch_1 (by decide) ?_
  refine lv_icmp_lt (tgt := 13) hx hb dX5_noBatch_2 (by decide) (fun c1 => ?_) (fun c1 => ?_)
  · replace hw := hw.1 c1
    refine lv_iconst (v := 1) hx hb dX5_noBatch_13 (by decide) ?_
    refine lv_goto (tgt := 18) hx hb dX5_noBatch_14 (by decide) ?_
    exact gh_zret hx hb hr hlocks (by decide) hw hP hS (Nat.le_of_ble_eq_true rfl) (Nat.le_of_ble_eq_true rfl) dX5_noBatch_18
  · replace hw := hw.2 c1
    refine lv_iload_n hx hb dX5_noBatch_5 rfl (lv_at hl 1 rfl) ?_
    refine lv_aload_n hx hb dX5_noBatch_6 rfl (lv_at hl 0 rfl) ?_
    obtain ⟨fs2, x5, he3, hv4, hw⟩ := hw
    refine gh_get (ci := 5) (v := .int x5) (C := "OwnerLedgerModel") (T := TX5) (N := 24) hx hb hts (fun w h => gT_up (inX5 w h)) hown hK hP he3 rfl 8 (by decide) (hts _ (gT_up kw_380)) (fun _ h9 => h9) hv4 dX5_noBatch_7 ?_
    refine lv_icmp_le (tgt := 17) hx hb dX5_noBatch_10 (by decide) (fun c6 => ?_) (fun c6 => ?_)
    · replace hw := hw.1 c6
      refine lv_iconst (v := 0) hx hb dX5_noBatch_17 (by decide) ?_
      exact gh_zret hx hb hr hlocks (by decide) hw hP hS (Nat.le_of_ble_eq_true rfl) (Nat.le_of_ble_eq_true rfl) dX5_noBatch_18
    · replace hw := hw.2 c6
      refine lv_iconst (v := 1) hx hb dX5_noBatch_13 (by decide) ?_
      refine lv_goto (tgt := 18) hx hb dX5_noBatch_14 (by decide) ?_
      exact gh_zret hx hb hr hlocks (by decide) hw hP hS (Nat.le_of_ble_eq_true rfl) (Nat.le_of_ble_eq_true rfl) dX5_noBatch_18
abbrev rmX5_noInvoice : Room := { frames := 0, cells := 0, slots := 0, locals := 0 }
abbrev cxX5_noInvoice (p : Program) (s : State) (m : MethodId) (args : Array Value) (meth : Method) (c : Code) (D : va_G) (AC : Nat → ClassId) (sa : gh_SA) (A : Nat → Prop) : Prop := CallFix p m c prog_7_method_5_code 2 s args wsX5_noInvoice "OwnerLedgerModel" ∧ meth.sig.returnType = (some .boolean) ∧ meth.locks = false ∧ c.exceptionTable.toList = [] ∧ va_K D vwCl (gh_ty AC) s ∧ gh_En sa A s s.heap ∧ (∀ q, s.heap.size ≤ q → A q)
def wX5_noInvoice (post : Int32 → gh_H → Prop) (px : String → gh_H → Prop) (G : gh_H) (t : Nat) (p0 : Int32) : Prop := (p0 < 1 → (post 1 G)) ∧ (¬ p0 < 1 → (∃ (fs2 : List Value) (x5 : Int32), G t = some (.inr (5, fs2)) ∧ fs2[17]? = some (.int x5) ∧ ((p0 ≤ x5 → (post 0 G)) ∧ (¬ p0 ≤ x5 → (post 1 G)))))
set_option maxRecDepth 100000 in
set_option maxHeartbeats 4000000 in
theorem mX5_noInvoice (l : Launch) (hl0 : l.stackTraces = false) (D : va_G) (AC : Nat → ClassId) (sa : gh_SA) (t : Nat) (p0 : Int32) (post : Int32 → gh_H → Prop) (px : String → gh_H → Prop) (G : gh_H) (sz : Nat) (hw : wX5_noInvoice post px G t p0) : vx_Met l yX5_noInvoice wsX5_noInvoice rmX5_noInvoice (gh_Pc D vwCl AC (gh_ty AC) (gh_En sa) G sz [.ref t, .int p0]) (va_Qi post (gh_B D vwCl AC (gh_A G sz)) (gh_A G sz)) (gh_X D vwCl AC px (gh_A G sz)) 0 0 (gh_A G sz) := by
  refine vx_ofW (cc := prog_7_method_5_code) (maxL := 2) (ret := (some .boolean)) (by decide) rfl ?_
  intro p e s m args below meth c s₁ B hml hnoh hv
  obtain ⟨rfl, hsz, hP, hK, hE⟩ := hv
  have hx := B.exec
  have hb := B.bytes
  have hr := B.returns
  have hts := atoms_spec (ws := wsX5_noInvoice) B.pre
  have hown : s.vm.findClass "OwnerLedgerModel" = some m.cls := findClass_of_methodNamed B.named
  have hlocks := B.notSynchronized
  have htb : c.exceptionTable.toList = [] := List.eq_nil_iff_forall_not_mem.mpr hnoh
  subst hsz
  have hA : ∀ q, s.heap.size ≤ q → gh_A G s.heap.size q := fun q h => Or.inr h
  generalize gh_A G s.heap.size = A at hP hE hA ⊢
  have hno : ∀ (pc : Nat), ∀ x ∈ c.exceptionTable.toList, covers x pc = false := by rw [htb]; intro _ _ h; cases h
  have CX : cxX5_noInvoice p s m [.ref t, .int p0].toArray meth c D AC sa A := ⟨⟨hx, hb, hml, hown, hts⟩, hr, hlocks, htb, hK, hE, hA⟩
  have hS : va_S A s.heap s.heap [] := va_S.rf
  have hl := lv_entry ([.ref t, .int p0]) (n := 2) (Nat.le_of_ble_eq_true rfl)
  rw [lg_entry_eq]
  generalize (lg_sl ([.ref t, .int p0]) ++ List.replicate (2 - (lg_sl ([.ref t, .int p0])).length) Slot.unset).toArray = ls at hl ⊢
  have hl : lv_has ls 2 [(0, .ref t), (1, .int p0)] := hl
  dsimp only [wX5_noInvoice] at hw
  refine lv_iload_n hx hb dX5_noInvoice_0 rfl (lv_at hl 1 rfl) ?_
  refine lv_iconst (v := 1) hx hb dX5_noInvoice_1 (by decide) ?_
  refine lv_icmp_lt (tgt := 13) hx hb dX5_noInvoice_2 (by decide) (fun c1 => ?_) (fun c1 => ?_)
  · replace hw := hw.1 c1
    refine lv_iconst (v := 1) hx hb dX5_noInvoice_13 (by decide) ?_
    refine lv_goto (tgt := 18) hx hb dX5_noInvoice_14 (by decide) ?_
    exact gh_zret hx hb hr hlocks (by decide) hw hP hS (Nat.le_of_ble_eq_true rfl) (Nat.le_of_ble_eq_true rfl) dX5_noInvoice_18
  · replace hw := hw.2 c1
    refine lv_iload_n hx hb dX5_noInvoice_5 rfl (lv_at hl 1 rfl) ?_
    refine lv_aload_n hx hb dX5_noInvoice_6 rfl (lv_at hl 0 rfl) ?_
    obtain ⟨fs2, x5, he3, hv4, hw⟩ := hw
    refine gh_get (ci := 5) (v := .int x5) (C := "OwnerLedgerModel") (T := TX5) (N := 24) hx hb hts (fun w h => gT_up (inX5 w h)) hown hK hP he3 rfl 17 (by decide) (hts _ (gT_up kw_389)) (fun _ h9 => h9) hv4 dX5_noInvoice_7 ?_
    refine lv_icmp_le (tgt := 17) hx hb dX5_noInvoice_10 (by decide) (fun c6 => ?_) (fun c6 => ?_)
    · replace hw := hw.1 c6
      refine lv_iconst (v := 0) hx hb dX5_noInvoice_17 (by decide) ?_
      exact gh_zret hx hb hr hlocks (by decide) hw hP hS (Nat.le_of_ble_eq_true rfl) (Nat.le_of_ble_eq_true rfl) dX5_noInvoice_18
    · replace hw := hw.2 c6
      refine lv_iconst (v := 1) hx hb dX5_noInvoice_13 (by decide) ?_
      refine lv_goto (tgt := 18) hx hb dX5_noInvoice_14 (by decide) ?_
      exact gh_zret hx hb hr hlocks (by decide) hw hP hS (Nat.le_of_ble_eq_true rfl) (Nat.le_of_ble_eq_true rfl) dX5_noInvoice_18
abbrev rmX5_overdue : Room := { frames := 0, cells := 0, slots := 0, locals := 0 }
abbrev cxX5_overdue (p : Program) (s : State) (m : MethodId) (args : Array Value) (meth : Method) (c : Code) (D : va_G) (AC : Nat → ClassId) (sa : gh_SA) (A : Nat → Prop) : Prop := CallFix p m c prog_7_method_6_code 2 s args wsX5_overdue "OwnerLedgerModel" ∧ meth.sig.returnType = (some .boolean) ∧ meth.locks = false ∧ c.exceptionTable.toList = [] ∧ va_K D vwCl (gh_ty AC) s ∧ gh_En sa A s s.heap ∧ (∀ q, s.heap.size ≤ q → A q)
def wX5_overdue (post : Int32 → gh_H → Prop) (px : String → gh_H → Prop) (G : gh_H) (t : Nat) (p0 : Int32) : Prop := ∃ (fs1 : List Value) (x4 : Nat), G t = some (.inr (5, fs1)) ∧ fs1[19]? = some (.ref x4) ∧ (∃ (n5 : Nat) (f6 : Nat → Int64), G x4 = some (.inl (1, n5, .inr (.inl f6))) ∧ vp_in p0 n5 ∧ (((lg_cmp (f6 (Int32.toNatClampNeg p0)) 0) ≤ 0 → (post 0 G)) ∧ (¬ (lg_cmp (f6 (Int32.toNatClampNeg p0)) 0) ≤ 0 → (∃ (fs10 : List Value) (x13 : Nat), G t = some (.inr (5, fs10)) ∧ fs10[22]? = some (.ref x13) ∧ (∃ (n14 : Nat) (f15 : Nat → Int32), G x13 = some (.inl (2, n14, .inl f15)) ∧ vp_in p0 n14 ∧ ((¬ (f15 (Int32.toNatClampNeg p0)) = 0 → (post 0 G)) ∧ ((f15 (Int32.toNatClampNeg p0)) = 0 → (∃ (fs19 : List Value) (x22 : Int32), G t = some (.inr (5, fs19)) ∧ fs19[1]? = some (.int x22) ∧ (∃ (fs23 : List Value) (x26 : Nat), G t = some (.inr (5, fs23)) ∧ fs23[20]? = some (.ref x26) ∧ (∃ (n27 : Nat) (f28 : Nat → Int32), G x26 = some (.inl (0, n27, .inl f28)) ∧ vp_in p0 n27 ∧ ((x22 ≤ (f28 (Int32.toNatClampNeg p0)) → (post 0 G)) ∧ (¬ x22 ≤ (f28 (Int32.toNatClampNeg p0)) → (post 1 G)))))))))))))
set_option maxRecDepth 100000 in
set_option maxHeartbeats 4000000 in
theorem mX5_overdue (l : Launch) (hl0 : l.stackTraces = false) (D : va_G) (AC : Nat → ClassId) (sa : gh_SA) (t : Nat) (p0 : Int32) (post : Int32 → gh_H → Prop) (px : String → gh_H → Prop) (G : gh_H) (sz : Nat) (hw : wX5_overdue post px G t p0) : vx_Met l yX5_overdue wsX5_overdue rmX5_overdue (gh_Pc D vwCl AC (gh_ty AC) (gh_En sa) G sz [.ref t, .int p0]) (va_Qi post (gh_B D vwCl AC (gh_A G sz)) (gh_A G sz)) (gh_X D vwCl AC px (gh_A G sz)) 0 0 (gh_A G sz) := by
  refine vx_ofW (cc := prog_7_method_6_code) (maxL := 2) (ret := (some .boolean)) (by decide) rfl ?_
  intro p e s m args below meth c s₁ B hml hnoh hv
  obtain ⟨rfl, hsz, hP, hK, hE⟩ := hv
  have hx := B.exec
  have hb := B.bytes
  have hr := B.returns
  have hts := atoms_spec (ws := wsX5_overdue) B.pre
  have hown : s.vm.findClass "OwnerLedgerModel" = some m.cls := findClass_of_methodNamed B.named
  have hlocks := B.notSynchronized
  have htb : c.exceptionTable.toList = [] := List.eq_nil_iff_forall_not_mem.mpr hnoh
  subst hsz
  have hA : ∀ q, s.heap.size ≤ q → gh_A G s.heap.size q := fun q h => Or.inr h
  generalize gh_A G s.heap.size = A at hP hE hA ⊢
  have hno : ∀ (pc : Nat), ∀ x ∈ c.exceptionTable.toList, covers x pc = false := by rw [htb]; intro _ _ h; cases h
  have CX : cxX5_overdue p s m [.ref t, .int p0].toArray meth c D AC sa A := ⟨⟨hx, hb, hml, hown, hts⟩, hr, hlocks, htb, hK, hE, hA⟩
  have hS : va_S A s.heap s.heap [] := va_S.rf
  have hl := lv_entry ([.ref t, .int p0]) (n := 2) (Nat.le_of_ble_eq_true rfl)
  rw [lg_entry_eq]
  generalize (lg_sl ([.ref t, .int p0]) ++ List.replicate (2 - (lg_sl ([.ref t, .int p0])).length) Slot.unset).toArray = ls at hl ⊢
  have hl : lv_has ls 2 [(0, .ref t), (1, .int p0)] := hl
  dsimp only [wX5_overdue] at hw
  refine lv_aload_n hx hb dX5_overdue_0 rfl (lv_at hl 0 rfl) ?_
  obtain ⟨fs1, x4, he2, hv3, hw⟩ := hw
  refine gh_get (ci := 5) (v := .ref x4) (C := "OwnerLedgerModel") (T := TX5) (N := 24) hx hb hts (fun w h => gT_up (inX5 w h)) hown hK hP he2 rfl 19 (by decide) (hts _ (gT_up kw_391)) (fun _ h9 => h9) hv3 dX5_overdue_1 ?_
  refine lv_iload_n hx hb dX5_overdue_4 rfl (lv_at hl 1 rfl) ?_
  obtain ⟨n5, f6, he7, hi8, hw⟩ := hw
  refine gh_lald hx hb hK hP he7 rfl hi8 dX5_overdue_5 ?_
  refine lv_lconst (v := 0) hx hb dX5_overdue_6 (by decide) ?_
  refine W.lcmp hx hb dX5_overdue_7 ?_
  refine lv_if_le (tgt := 37) hx hb dX5_overdue_8 (by decide) (fun c9 => ?_) (fun c9 => ?_)
  · replace hw := hw.1 c9
    refine lv_iconst (v := 0) hx hb dX5_overdue_37 (by decide) ?_
    exact gh_zret hx hb hr hlocks (by decide) hw hP hS (Nat.le_of_ble_eq_true rfl) (Nat.le_of_ble_eq_true rfl) dX5_overdue_38
  · replace hw := hw.2 c9
    refine lv_aload_n hx hb dX5_overdue_11 rfl (lv_at hl 0 rfl) ?_
    obtain ⟨fs10, x13, he11, hv12, hw⟩ := hw
    refine gh_get (ci := 5) (v := .ref x13) (C := "OwnerLedgerModel") (T := TX5) (N := 24) hx hb hts (fun w h => gT_up (inX5 w h)) hown hK hP he11 rfl 22 (by decide) (hts _ (gT_up kw_394)) (fun _ h9 => h9) hv12 dX5_overdue_12 ?_
    refine lv_iload_n hx hb dX5_overdue_15 rfl (lv_at hl 1 rfl) ?_
    obtain ⟨n14, f15, he16, hi17, hw⟩ := hw
    refine gh_zald hx hb hK hP he16 rfl hi17 dX5_overdue_16 ?_
    refine lv_if_ne (tgt := 37) hx hb dX5_overdue_17 (by decide) (fun c18 => ?_) (fun c18 => ?_)
    · replace hw := hw.1 c18
      refine lv_iconst (v := 0) hx hb dX5_overdue_37 (by decide) ?_
      exact gh_zret hx hb hr hlocks (by decide) hw hP hS (Nat.le_of_ble_eq_true rfl) (Nat.le_of_ble_eq_true rfl) dX5_overdue_38
    · replace hw := hw.2 c18
      refine lv_aload_n hx hb dX5_overdue_20 rfl (lv_at hl 0 rfl) ?_
      obtain ⟨fs19, x22, he20, hv21, hw⟩ := hw
      refine gh_get (ci := 5) (v := .int x22) (C := "OwnerLedgerModel") (T := TX5) (N := 24) hx hb hts (fun w h => gT_up (inX5 w h)) hown hK hP he20 rfl 1 (by decide) (hts _ (gT_up kw_373)) (fun _ h9 => h9) hv21 dX5_overdue_21 ?_
      refine lv_aload_n hx hb dX5_overdue_24 rfl (lv_at hl 0 rfl) ?_
      obtain ⟨fs23, x26, he24, hv25, hw⟩ := hw
      refine gh_get (ci := 5) (v := .ref x26) (C := "OwnerLedgerModel") (T := TX5) (N := 24) hx hb hts (fun w h => gT_up (inX5 w h)) hown hK hP he24 rfl 20 (by decide) (hts _ (gT_up kw_392)) (fun _ h9 => h9) hv25 dX5_overdue_25 ?_
      refine lv_iload_n hx hb dX5_overdue_28 rfl (lv_at hl 1 rfl) ?_
      obtain ⟨n27, f28, he29, hi30, hw⟩ := hw
      refine gh_iald hx hb hK hP he29 rfl hi30 dX5_overdue_29 ?_
      refine lv_icmp_le (tgt := 37) hx hb dX5_overdue_30 (by decide) (fun c31 => ?_) (fun c31 => ?_)
      · replace hw := hw.1 c31
        refine lv_iconst (v := 0) hx hb dX5_overdue_37 (by decide) ?_
        exact gh_zret hx hb hr hlocks (by decide) hw hP hS (Nat.le_of_ble_eq_true rfl) (Nat.le_of_ble_eq_true rfl) dX5_overdue_38
      · replace hw := hw.2 c31
        refine lv_iconst (v := 1) hx hb dX5_overdue_33 (by decide) ?_
        refine lv_goto (tgt := 38) hx hb dX5_overdue_34 (by decide) ?_
        exact gh_zret hx hb hr hlocks (by decide) hw hP hS (Nat.le_of_ble_eq_true rfl) (Nat.le_of_ble_eq_true rfl) dX5_overdue_38
abbrev rmX5_overdues : Room := { frames := 1, cells := 0, slots := 0, locals := 21 }
abbrev cxX5_overdues (p : Program) (s : State) (m : MethodId) (args : Array Value) (meth : Method) (c : Code) (D : va_G) (AC : Nat → ClassId) (sa : gh_SA) (A : Nat → Prop) : Prop := CallFix p m c prog_7_method_7_code 4 s args wsX5_overdues "OwnerLedgerModel" ∧ meth.sig.returnType = (some .int) ∧ meth.locks = false ∧ c.exceptionTable.toList = [] ∧ va_K D vwCl (gh_ty AC) s ∧ gh_En sa A s s.heap ∧ (∀ q, s.heap.size ≤ q → A q)
def wX5_overdues_36 (post : Int32 → gh_H → Prop) (px : String → gh_H → Prop) (J4 : gh_H → Nat → Int32 → Int32 → Int32 → Prop) (G : gh_H) (t : Nat) (p0 : Int32) (v3 : Int32) (s0 : Int32) (s1 : Int32) : Prop := J4 G t p0 (s0 + s1) (v3 + 1)
set_option maxRecDepth 100000 in
set_option maxHeartbeats 4000000 in
theorem lX5_overdues_36 {p : Program} {l : Launch} {e : Env} {s : State} {m : MethodId} {args : Array Value} {below : List Frame} {meth : Method} {c : Code} {D : va_G} {AC : Nat → ClassId} {sa : gh_SA} {A : Nat → Prop} (hl0 : l.stackTraces = false) (CX : cxX5_overdues p s m args meth c D AC sa A) (post : Int32 → gh_H → Prop) (px : String → gh_H → Prop) (J4 : gh_H → Nat → Int32 → Int32 → Int32 → Prop) (hJ4 : ∀ (G : gh_H) (t : Nat) (p0 : Int32) (v2 : Int32) (v3 : Int32) (H : Heap) (locs : List Loc), J4 G t p0 v2 v3 → gh_h D vwCl AC A G H → va_S A s.heap H locs → ∀ ls : Array Slot, lv_has ls 4 [(0, .ref t), (1, .int p0), (2, .int v2), (3, .int v3)] → W p l e rmX5_overdues s m args below meth c H locs 0 0 (vx_MQ below (va_Qi post (gh_B D vwCl AC A) A) (gh_X D vwCl AC px A) args s 0 0 A) (F0 m 4 ls [])) : ∀ (G : gh_H) (t : Nat) (p0 : Int32) (v3 : Int32) (s0 : Int32) (s1 : Int32) (H : Heap) (locs : List Loc), wX5_overdues_36 post px J4 G t p0 v3 s0 s1 → gh_h D vwCl AC A G H → va_S A s.heap H locs → ∀ ls : Array Slot, lv_has ls 4 [(0, .ref t), (1, .int p0), (3, .int v3)] → W p l e rmX5_overdues s m args below meth c H locs 0 0 (vx_MQ below (va_Qi post (gh_B D vwCl AC A) A) (gh_X D vwCl AC px A) args s 0 0 A) (F0 m 36 ls [.int s1, .int s0]) := by
  obtain ⟨⟨hx, hb, hml, hown, hts⟩, hr, hlocks, htb, hK, hE, hA⟩ := id CX
  have hno : ∀ (pc : Nat), ∀ x ∈ c.exceptionTable.toList, covers x pc = false := by rw [htb]; intro _ _ h; cases h
  intro G t p0 v3 s0 s1 H locs hw hP hS ls hl
  dsimp only [wX5_overdues_36] at hw
  refine lv_iadd hx hb dX5_overdues_36 ?_
  refine lv_istore_n (lv' := [(2, .int (s0 + s1)), (0, .ref t), (1, .int p0), (3, .int v3)]) hx hb dX5_overdues_37 rfl hl (by decide) rfl (fun ls hl => ?_)
  refine lv_iinc (v := (v3 + 1)) (lv' := [(3, .int (v3 + 1)), (2, .int (s0 + s1)), (0, .ref t), (1, .int p0)]) hx hb dX5_overdues_38 hl (k := 3) rfl rfl (by decide) rfl (fun ls hl => ?_)
  refine lv_goto (tgt := 4) hx hb dX5_overdues_41 (by decide) ?_
  have hl := lv_sub (l' := [(0, .ref t), (1, .int p0), (2, .int (s0 + s1)), (3, .int (v3 + 1))]) hl [2, 3, 1, 0] rfl
  exact hJ4 _ t p0 (s0 + s1) (v3 + 1) _ _ hw hP hS ls hl
def wX5_overdues_4 (post : Int32 → gh_H → Prop) (px : String → gh_H → Prop) : Nat → gh_H → Nat → Int32 → Int32 → Int32 → Prop
  | 0 => fun _ _ _ _ _ => False
  | n + 1 => fun G t p0 v2 v3 => ∃ (fs1 : List Value) (x4 : Int32), G t = some (.inr (5, fs1)) ∧ fs1[17]? = some (.int x4) ∧ ((x4 ≤ v3 → (post v2 G)) ∧ (¬ x4 ≤ v3 → (∃ (fs6 : List Value) (x9 : Nat), G t = some (.inr (5, fs6)) ∧ fs6[18]? = some (.ref x9) ∧ (∃ (n10 : Nat) (f11 : Nat → Int32), G x9 = some (.inl (0, n10, .inl f11)) ∧ vp_in v3 n10 ∧ ((¬ (f11 (Int32.toNatClampNeg v3)) = p0 → (wX5_overdues_36 post px (wX5_overdues_4 post px n) G t p0 v3 v2 0)) ∧ ((f11 (Int32.toNatClampNeg v3)) = p0 → (∃ fs17 : List Value, G t = some (.inr (5, fs17)) ∧ wX5_overdue (fun r15 G16 => (r15 = 0 → (wX5_overdues_36 post px (wX5_overdues_4 post px n) G16 t p0 v3 v2 0)) ∧ (¬ r15 = 0 → (wX5_overdues_36 post px (wX5_overdues_4 post px n) G16 t p0 v3 v2 1))) px G t v3)))))))
set_option maxRecDepth 100000 in
set_option maxHeartbeats 4000000 in
theorem lX5_overdues_4 {p : Program} {l : Launch} {e : Env} {s : State} {m : MethodId} {args : Array Value} {below : List Frame} {meth : Method} {c : Code} {D : va_G} {AC : Nat → ClassId} {sa : gh_SA} {A : Nat → Prop} (hl0 : l.stackTraces = false) (CX : cxX5_overdues p s m args meth c D AC sa A) (post : Int32 → gh_H → Prop) (px : String → gh_H → Prop) : ∀ n : Nat, ∀ (G : gh_H) (t : Nat) (p0 : Int32) (v2 : Int32) (v3 : Int32) (H : Heap) (locs : List Loc), wX5_overdues_4 post px n G t p0 v2 v3 → gh_h D vwCl AC A G H → va_S A s.heap H locs → ∀ ls : Array Slot, lv_has ls 4 [(0, .ref t), (1, .int p0), (2, .int v2), (3, .int v3)] → W p l e rmX5_overdues s m args below meth c H locs 0 0 (vx_MQ below (va_Qi post (gh_B D vwCl AC A) A) (gh_X D vwCl AC px A) args s 0 0 A) (F0 m 4 ls []) := by
  obtain ⟨⟨hx, hb, hml, hown, hts⟩, hr, hlocks, htb, hK, hE, hA⟩ := id CX
  have hno : ∀ (pc : Nat), ∀ x ∈ c.exceptionTable.toList, covers x pc = false := by rw [htb]; intro _ _ h; cases h
  intro n
  induction n with
  | zero =>
    intro G t p0 v2 v3 H locs hw
    exact False.elim hw
  | succ n ih =>
    intro G t p0 v2 v3 H locs hw hP hS ls hl
    dsimp only [wX5_overdues_4] at hw
    refine lv_iload_n hx hb dX5_overdues_4 rfl (lv_at hl 3 rfl) ?_
    refine lv_aload_n hx hb dX5_overdues_5 rfl (lv_at hl 0 rfl) ?_
    obtain ⟨fs1, x4, he2, hv3, hw⟩ := hw
    refine gh_get (ci := 5) (v := .int x4) (C := "OwnerLedgerModel") (T := TX5) (N := 24) hx hb hts (fun w h => gT_up (inX5 w h)) hown hK hP he2 rfl 17 (by decide) (hts _ (gT_up kw_389)) (fun _ h9 => h9) hv3 dX5_overdues_6 ?_
    refine lv_icmp_ge (tgt := 44) hx hb dX5_overdues_9 (by decide) (fun c5 => ?_) (fun c5 => ?_)
    · replace hw := hw.1 c5
      refine lv_iload_n hx hb dX5_overdues_44 rfl (lv_at hl 2 rfl) ?_
      exact gh_iret hx hb hr hlocks hw hP hS (Nat.le_of_ble_eq_true rfl) (Nat.le_of_ble_eq_true rfl) dX5_overdues_45
    · replace hw := hw.2 c5
      refine lv_iload_n hx hb dX5_overdues_12 rfl (lv_at hl 2 rfl) ?_
      refine lv_aload_n hx hb dX5_overdues_13 rfl (lv_at hl 0 rfl) ?_
      obtain ⟨fs6, x9, he7, hv8, hw⟩ := hw
      refine gh_get (ci := 5) (v := .ref x9) (C := "OwnerLedgerModel") (T := TX5) (N := 24) hx hb hts (fun w h => gT_up (inX5 w h)) hown hK hP he7 rfl 18 (by decide) (hts _ (gT_up kw_390)) (fun _ h9 => h9) hv8 dX5_overdues_14 ?_
      refine lv_iload_n hx hb dX5_overdues_17 rfl (lv_at hl 3 rfl) ?_
      obtain ⟨n10, f11, he12, hi13, hw⟩ := hw
      refine gh_iald hx hb hK hP he12 rfl hi13 dX5_overdues_18 ?_
      refine lv_iload_n hx hb dX5_overdues_19 rfl (lv_at hl 1 rfl) ?_
      refine lv_icmp_ne (tgt := 35) hx hb dX5_overdues_20 (by decide) (fun c14 => ?_) (fun c14 => ?_)
      · replace hw := hw.1 c14
        refine lv_iconst (v := 0) hx hb dX5_overdues_35 (by decide) ?_
        have hl := lv_sub (l' := [(0, .ref t), (1, .int p0), (3, .int v3)]) hl [0, 1, 3] rfl
        exact lX5_overdues_36 hl0 CX post px (wX5_overdues_4 post px n) (fun G9 t9 p09 v29 v39 H9 locs9 hw9 hP9 hS9 ls9 hl9 => ih G9 t9 p09 v29 v39 H9 locs9 hw9 hP9 hS9 ls9 hl9) _ t p0 v3 v2 0 _ _ hw hP hS ls hl
      · replace hw := hw.2 c14
        refine lv_aload_n hx hb dX5_overdues_23 rfl (lv_at hl 0 rfl) ?_
        refine lv_iload_n hx hb dX5_overdues_24 rfl (lv_at hl 3 rfl) ?_
        obtain ⟨fs17, he18, hw⟩ := hw
        refine gh_ci hlocks (hno _) (vx_runV (C := "OwnerLedgerModel") (As := [.int v3]) (rest := [.int v2]) ⟨hx, hb, hml, hown, hts⟩ (mX5_overdue l hl0 D AC sa _ _ _ _ _ _ hw) (cwV 1 hts (gV kw_491 kw_492 kw_546 kw_2 kw_493) rfl rfl rfl (by decide +kernel) ⟨Nat.le_of_ble_eq_true rfl, Nat.le_of_ble_eq_true rfl⟩) (gh_preV gh_En_ok hK hE hP hS hA he18 rfl _) rfl rfl hl.1 rfl (lv_room (Nat.le_of_ble_eq_true rfl)) dX5_overdues_25 ⟨Nat.le_of_ble_eq_true rfl, Nat.le_of_ble_eq_true rfl⟩) hP hS hA (Nat.le_of_ble_eq_true rfl) (Nat.le_of_ble_eq_true rfl) (fun r15 G16 H locs hw2 hP hS => ?_)
        replace hw := hw2
        clear hw2
        refine lv_if_eq (tgt := 35) hx hb dX5_overdues_28 (by decide) (fun c19 => ?_) (fun c19 => ?_)
        · replace hw := hw.1 c19
          refine lv_iconst (v := 0) hx hb dX5_overdues_35 (by decide) ?_
          have hl := lv_sub (l' := [(0, .ref t), (1, .int p0), (3, .int v3)]) hl [0, 1, 3] rfl
          exact lX5_overdues_36 hl0 CX post px (wX5_overdues_4 post px n) (fun G9 t9 p09 v29 v39 H9 locs9 hw9 hP9 hS9 ls9 hl9 => ih G9 t9 p09 v29 v39 H9 locs9 hw9 hP9 hS9 ls9 hl9) _ t p0 v3 v2 0 _ _ hw hP hS ls hl
        · replace hw := hw.2 c19
          refine lv_iconst (v := 1) hx hb dX5_overdues_31 (by decide) ?_
          refine lv_goto (tgt := 36) hx hb dX5_overdues_32 (by decide) ?_
          have hl := lv_sub (l' := [(0, .ref t), (1, .int p0), (3, .int v3)]) hl [0, 1, 3] rfl
          exact lX5_overdues_36 hl0 CX post px (wX5_overdues_4 post px n) (fun G9 t9 p09 v29 v39 H9 locs9 hw9 hP9 hS9 ls9 hl9 => ih G9 t9 p09 v29 v39 H9 locs9 hw9 hP9 hS9 ls9 hl9) _ t p0 v3 v2 1 _ _ hw hP hS ls hl
def wX5_overdues (post : Int32 → gh_H → Prop) (px : String → gh_H → Prop) (G : gh_H) (t : Nat) (p0 : Int32) : Prop := wX5_overdues_4 post px 300 G t p0 0 0
set_option maxRecDepth 100000 in
set_option maxHeartbeats 4000000 in
theorem mX5_overdues (l : Launch) (hl0 : l.stackTraces = false) (D : va_G) (AC : Nat → ClassId) (sa : gh_SA) (t : Nat) (p0 : Int32) (post : Int32 → gh_H → Prop) (px : String → gh_H → Prop) (G : gh_H) (sz : Nat) (hw : wX5_overdues post px G t p0) : vx_Met l yX5_overdues wsX5_overdues rmX5_overdues (gh_Pc D vwCl AC (gh_ty AC) (gh_En sa) G sz [.ref t, .int p0]) (va_Qi post (gh_B D vwCl AC (gh_A G sz)) (gh_A G sz)) (gh_X D vwCl AC px (gh_A G sz)) 0 0 (gh_A G sz) := by
  refine vx_ofW (cc := prog_7_method_7_code) (maxL := 4) (ret := (some .int)) (by decide) rfl ?_
  intro p e s m args below meth c s₁ B hml hnoh hv
  obtain ⟨rfl, hsz, hP, hK, hE⟩ := hv
  have hx := B.exec
  have hb := B.bytes
  have hr := B.returns
  have hts := atoms_spec (ws := wsX5_overdues) B.pre
  have hown : s.vm.findClass "OwnerLedgerModel" = some m.cls := findClass_of_methodNamed B.named
  have hlocks := B.notSynchronized
  have htb : c.exceptionTable.toList = [] := List.eq_nil_iff_forall_not_mem.mpr hnoh
  subst hsz
  have hA : ∀ q, s.heap.size ≤ q → gh_A G s.heap.size q := fun q h => Or.inr h
  generalize gh_A G s.heap.size = A at hP hE hA ⊢
  have hno : ∀ (pc : Nat), ∀ x ∈ c.exceptionTable.toList, covers x pc = false := by rw [htb]; intro _ _ h; cases h
  have CX : cxX5_overdues p s m [.ref t, .int p0].toArray meth c D AC sa A := ⟨⟨hx, hb, hml, hown, hts⟩, hr, hlocks, htb, hK, hE, hA⟩
  have hS : va_S A s.heap s.heap [] := va_S.rf
  have hl := lv_entry ([.ref t, .int p0]) (n := 4) (Nat.le_of_ble_eq_true rfl)
  rw [lg_entry_eq]
  generalize (lg_sl ([.ref t, .int p0]) ++ List.replicate (4 - (lg_sl ([.ref t, .int p0])).length) Slot.unset).toArray = ls at hl ⊢
  have hl : lv_has ls 4 [(0, .ref t), (1, .int p0)] := hl
  dsimp only [wX5_overdues] at hw
  refine lv_iconst (v := 0) hx hb dX5_overdues_0 (by decide) ?_
  refine lv_istore_n (lv' := [(2, .int 0), (0, .ref t), (1, .int p0)]) hx hb dX5_overdues_1 rfl hl (by decide) rfl (fun ls hl => ?_)
  refine lv_iconst (v := 0) hx hb dX5_overdues_2 (by decide) ?_
  refine lv_istore_n (lv' := [(3, .int 0), (2, .int 0), (0, .ref t), (1, .int p0)]) hx hb dX5_overdues_3 rfl hl (by decide) rfl (fun ls hl => ?_)
  have hl := lv_sub (l' := [(0, .ref t), (1, .int p0), (2, .int 0), (3, .int 0)]) hl [2, 3, 1, 0] rfl
  exact lX5_overdues_4 hl0 CX post px _ _ t p0 0 0 _ _ hw hP hS ls hl
