/-! What the start gives: classes, array classes, texts, statics. -/
theorem gs_str : ∀ q ∈ gh_strs, Cond.stringRef q.1 q.2.1 q.2.2 ∈ lw_tbl := by decide +kernel
theorem gs_own : ∀ q ∈ gh_strs, q.1 = "OwnerLedger" := by decide +kernel
theorem gs_cas : ∀ q ∈ gh_cas, Cond.castable q.1 q.2 ∈ lw_tbl := by decide +kernel
theorem gs_dec : ∀ y ∈ gh_decs, Cond.declares y ∈ lw_tbl := by decide +kernel
theorem gs_nst : ∀ q ∈ gh_nsts, Cond.methodLinkNest q.1 q.2.1 q.2.2.1 q.2.2.2 ∈ lw_tbl := by decide +kernel
theorem gs_ao : ∀ C ∈ gh_aos, Cond.arrayOver (.object C) ∈ lw_tbl := by decide +kernel
theorem gs_ncl : ∀ q ∈ gh_ncl, Cond.not (.castable q.1 q.2) ∈ flatC (Jvm.Cond.and given_1 narrow_1) := by decide +kernel
theorem gs_r1 : Cond.isRef (.static Bundle.tN "UNASSIGNED_STACK" Bundle.steD) ∈ flatC (Jvm.Cond.and given_1 narrow_1) := by decide +kernel
theorem gs_r2 : Cond.isRef (.static Bundle.tN "SUPPRESSED_SENTINEL" Bundle.listD) ∈ flatC (Jvm.Cond.and given_1 narrow_1) := by decide +kernel
theorem gs_l1 : Cond.laysStatic Bundle.tN "UNASSIGNED_STACK" Bundle.steD ∈ lw_tbl := by decide +kernel
theorem gs_l2 : Cond.laysStatic Bundle.tN "SUPPRESSED_SENTINEL" Bundle.listD ∈ lw_tbl := by decide +kernel
theorem gs_in : Cond.initialized Bundle.tN ∈ lw_tbl := by decide +kernel
theorem gs_law : Cond.initialized "OwnerLedgerLaw" ∈ lw_tbl := by decide +kernel
theorem gs_i0 : Cond.instantiable "OwnerLedger$Batch" 6 ∈ lw_tbl := by decide +kernel
theorem gs_i1 : Cond.instantiable "OwnerLedger$Invoice" 5 ∈ lw_tbl := by decide +kernel
theorem gs_i2 : Cond.instantiable "OwnerLedger$Owner" 2 ∈ lw_tbl := by decide +kernel
theorem gs_i3 : Cond.instantiable "OwnerLedger$Row" 4 ∈ lw_tbl := by decide +kernel
theorem gs_i4 : Cond.instantiable "OwnerLedger" 11 ∈ lw_tbl := by decide +kernel
theorem gs_i5 : Cond.instantiable "OwnerLedgerModel" 24 ∈ lw_tbl := by decide +kernel
theorem gs_a0 : Cond.arrayClass .int ∈ lw_tbl := by decide +kernel
theorem gs_a1 : Cond.arrayClass .long ∈ lw_tbl := by decide +kernel
theorem gs_a2 : Cond.arrayClass .boolean ∈ lw_tbl := by decide +kernel
theorem gs_prim {args : Array Value} {s : State} {ty : FieldType} (h : (Cond.arrayClass ty).before args s = true) : ∃ cA : ClassId, ArrOfT s cA ty ∧ s.vm.findClass ("[" ++ ty.toString) = some cA := by
  obtain ⟨cA, kA, comp, h1, h2, h3⟩ := Cond.arrayClass_spec h
  exact ⟨cA, fun n z => ⟨fun k h => (by cases h), kA, h2, comp, h3⟩, h1⟩
theorem gs_ref {args : Array Value} {s : State} {C : String} (h : (Cond.arrayOver (.object C)).before args s = true) : ∃ cA : ClassId, ArrOfT s cA (.object C) ∧ va_RA s cA (.object C) := by
  obtain ⟨comp, cA, kA, h1, h2, h3, h4, h5⟩ := Cond.arrayOver_spec h
  exact ⟨cA, fun n z => ⟨fun k h => (by cases h), kA, h3, comp, h4⟩, kA, comp, h3, h4, h1, h5⟩
def gs_sa (s : State) : gh_SA := fun own k => match (Term.string own k).eval #[] s none [] s with
  | some (.ref a) => a
  | _ => 0
theorem gs_vk {args : Array Value} {s : State} {own tx : String} {k : Nat} {cur : ClassId} (hc : s.vm.findClass own = some cur) (h : (Cond.stringRef own k tx).before args s = true) : vk_R own k tx (gs_sa s own k) s := by
  obtain ⟨_, _, _, a, -, -, -, -, -, hev⟩ := Cond.stringRef_spec hc h
  have e : gs_sa s own k = a := by
    unfold gs_sa
    rw [show (Term.string own k).eval #[] s none [] s = some (.ref a) from hev]
  rw [e]
  exact vk_R.of h hev
/-- from the entry, for every script of at most 2560 ints, the law comes to its end with true -/
theorem whole_start {p : Program} {e : Env} {s : State} {m : MethodId} {below : List Frame} {meth : Method} {c : Code} (l : Launch) (hl0 : l.stackTraces = false) {b L : Nat} {xs : Nat → Int32} (hL : L ≤ 2560) (C0 : lw_At p s m meth c b L xs) : W p l e room_1 s m #[Value.ref b] below meth c s.heap [] 0 0 (lw_Z below #[Value.ref b] s) (entryFrame m ([Value.ref b] : List Value).toArray 8) := by
  obtain ⟨hx, hb, hr, hml, hown, hts, hX, hbl, hlocks, hgv⟩ := id C0
  have hA : ∀ q : Nat, s.heap.size ≤ q → (fun q : Nat => s.heap.size ≤ q) q := fun _ h => h
  have hbA : ¬ (fun q : Nat => s.heap.size ≤ q) b := Nat.not_le.mpr hbl
  have hAn : ∀ a : Nat, a < s.heap.size → ¬ (fun q : Nat => s.heap.size ≤ q) a := fun a ha => Nat.not_le.mpr ha
  have hfl := flat_of_before _ hgv
  obtain ⟨c0, i0, k0⟩ := u_known hts gTt_18 (hts _ gs_i0)
  obtain ⟨c1, i1, k1⟩ := u_known hts gTt_19 (hts _ gs_i1)
  obtain ⟨c2, i2, k2⟩ := u_known hts gTt_20 (hts _ gs_i2)
  obtain ⟨c3, i3, k3⟩ := u_known hts gTt_21 (hts _ gs_i3)
  obtain ⟨c4, i4, k4⟩ := u_known hts gTt_22 (hts _ gs_i4)
  obtain ⟨c5, i5, k5⟩ := u_known hts gTt_23 (hts _ gs_i5)
  obtain ⟨a0, x0, y0⟩ := gs_prim (hts _ gs_a0)
  obtain ⟨a1, x1, y1⟩ := gs_prim (hts _ gs_a1)
  obtain ⟨a2, x2, y2⟩ := gs_prim (hts _ gs_a2)
  obtain ⟨a3, x3, y3⟩ := gs_ref (hts _ (gs_ao "OwnerLedger$Owner" (by decide)))
  obtain ⟨a4, x4, y4⟩ := gs_ref (hts _ (gs_ao "OwnerLedger$Batch" (by decide)))
  obtain ⟨a5, x5, y5⟩ := gs_ref (hts _ (gs_ao "OwnerLedger$Invoice" (by decide)))
  obtain ⟨a6, x6, y6⟩ := gs_ref (hts _ (gs_ao "OwnerLedger$Row" (by decide)))
  obtain ⟨AC, hAC⟩ : ∃ AC : Nat → ClassId, AC 0 = a0 ∧ AC 1 = a1 ∧ AC 2 = a2 ∧ AC 3 = a3 ∧ AC 4 = a4 ∧ AC 5 = a5 ∧ AC 6 = a6 := ⟨fun k => match k with | 0 => a0 | 1 => a1 | 2 => a2 | 3 => a3 | 4 => a4 | 5 => a5 | _ => a6, rfl, rfl, rfl, rfl, rfl, rfl, rfl⟩
  obtain ⟨q0, q1, q2, q3, q4, q5, q6⟩ := hAC
  obtain ⟨dC, dI, hKc⟩ : ∃ (dC : Nat → ClassId) (dI : Nat → Nat → Nat), ∀ (k : Nat) (q : vw_C), vwCl[k]? = some q → u_Kn s q.1 q.2.1 q.2.2 (dC k) (dI k) := by
    refine ⟨fun k => match k with | 0 => c0 | 1 => c1 | 2 => c2 | 3 => c3 | 4 => c4 | _ => c5, fun k => match k with | 0 => i0 | 1 => i1 | 2 => i2 | 3 => i3 | 4 => i4 | _ => i5, ?_⟩
    intro k q hq
    match k, hq with
    | 0, hq => cases hq; exact k0
    | 1, hq => cases hq; exact k1
    | 2, hq => cases hq; exact k2
    | 3, hq => cases hq; exact k3
    | 4, hq => cases hq; exact k4
    | 5, hq => cases hq; exact k5
    | k + 6, hq => simp [vwCl] at hq
  have hK : va_K (dC, dI) vwCl (gh_ty AC) s := by
    refine ⟨hKc, fun k q hq => ?_⟩
    match k, hq with
    | 0, hq => cases hq; rw [q0]; exact ⟨x0, y0⟩
    | 1, hq => cases hq; rw [q1]; exact ⟨x1, y1⟩
    | 2, hq => cases hq; rw [q2]; exact ⟨x2, y2⟩
    | 3, hq => cases hq; rw [q3]; exact ⟨x3, y3⟩
    | 4, hq => cases hq; rw [q4]; exact ⟨x4, y4⟩
    | 5, hq => cases hq; rw [q5]; exact ⟨x5, y5⟩
    | 6, hq => cases hq; rw [q6]; exact ⟨x6, y6⟩
    | k + 7, hq => simp [gh_ty] at hq
  have hE : gh_En (gs_sa s) (fun q : Nat => s.heap.size ≤ q) s s.heap := by
    refine ⟨vx_Zqof (hts _ gs_l1) (hts _ gs_in) (hfl _ gs_r1) hAn, vx_Zqof (hts _ gs_l2) (hts _ gs_in) (hfl _ gs_r2) hAn, fun q hq => ?_, fun q hq => va_Nw.of rfl (hts _ (gs_cas q hq)), fun y hy => va_Nw.of rfl (hts _ (gs_dec y hy)), fun q hq => va_Nw.of rfl (hts _ (gs_nst q hq)), fun C hC => va_AO.of (hts _ (gs_ao C hC)), fun q hq => va_Nc.of (hfl _ (gs_ncl q hq))⟩
    obtain ⟨c9, d9⟩ : ∃ c9, s.vm.findClass q.1 = some c9 := by
      rw [gs_own q hq]
      exact ⟨_, k4.2.1⟩
    exact gs_vk d9 (hts _ (gs_str q hq))
  have hT : ∀ w ∈ Jvm.Cond.initialized "OwnerLedgerLaw" :: gT, w.before #[Value.ref b] s = true := by
    intro w hw
    rcases List.mem_cons.mp hw with e | hw
    · rw [e]; exact hts _ gs_law
    · exact hts _ (gT_tbl w hw)
  have hP : gh_h (dC, dI) vwCl AC (fun q : Nat => s.heap.size ≤ q) (fun _ => none) s.heap := ⟨[], fun k q h => by simp at h, ⟨fun i j p q h => by simp at h, fun k q h => by simp at h⟩, fun a x h => (by cases h)⟩
  exact mL_law hl0 ⟨⟨hx, hb, hml, hown, hT⟩, hr, hlocks, hK, hE, hA, hX, hbl, hbA, fun _ h => h⟩ (fun _ _ => True) (fun _ _ => True) (fun _ => none) (law_all hL) hP
