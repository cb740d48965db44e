def R_law : String := "OwnerLedgerLaw"
def lw_P (b : Addr) (xs : List Int32) (args : Array Value) (s : State) : Prop := args = #[.ref b] ∧ s.IntsAt b xs ∧ xs.length ≤ 2560 ∧ (Jvm.Cond.and given_1 narrow_1).before args s = true
def lw_Q (_ : Array Value) (s : State) (o : Outcome) (t : State) : Prop := o = .returned (some (.int 1)) ∧ Framed s o t [] 601024 7293034
def lw_Z (below : List Frame) (a : Array Value) (s : State) : State → Prop := fun t => ∃ o, t.status = .running ∧ Ended t below o ∧ lw_Q a s o t
/-- the law's own end, with 1 on the stack, nothing written that was there before, its room as the claim has it -/
theorem lw_ret {p : Program} {l : Launch} {e : Env} {s : State} {m : MethodId} {below : List Frame} {meth : Method} {c : Code} {b : Nat} (hx : p.tables.exec = Jvm.exec) (hb : c.code = code) (hr : meth.sig.returnType = ret) (hlocks : meth.locks = false) {pc : Nat} {H : Heap} {ls : Array Slot} (hdg : decode code pc = .ok (.ireturn, 1)) : W p l e room_1 s m #[Value.ref b] below meth c H [] 601024 7293034 (lw_Z below #[Value.ref b] s) (F0 m pc ls [.int 1]) := by
  intro T hT X
  obtain ⟨fs, hret, hrun, hended, hW, hframe⟩ := X.leave (v := some (.int 1)) (hlocks := hlocks) (fun h => by rw [hr] at h; cases h)
  have hmeth' : T.vm.method? m = some meth := X.method'
  refine ⟨T.setFrames fs, ?_, .returned (some (.int 1)), hrun, hended, rfl, ⟨_, rfl⟩, hW, hframe⟩
  jvm_step X.here [X.here.top, hx, hb, hdg, hmeth', hr, ret, narrow_b1]
  (try refine ⟨rfl, ?_⟩); (try refine ⟨rfl, ?_⟩)
  first | (intro acts; rw [hret _ acts rfl rfl rfl]) | rw [hret _ _ rfl rfl rfl]
  exact Steps.refl _
/-- what holds at the law's entry: the machine, the code, the tables' words (any of lw_tbl by 'hts w (by decide +kernel)'), the script of L ints xs at the cell b, what the Statement gives of the start (any of its parts by flat_of_before) -/
def lw_At (p : Program) (s : State) (m : MethodId) (meth : Method) (c : Code) (b L : Nat) (xs : Nat → Int32) : Prop :=
  p.tables.exec = Jvm.exec ∧ c.code = code ∧ meth.sig.returnType = ret ∧ c.maxLocals = 8 ∧ s.vm.findClass R_law = some m.cls ∧ (∀ w ∈ lw_tbl, w.before #[Value.ref b] s = true) ∧ va_X b L xs s s.heap ∧ b < s.heap.size ∧ meth.locks = false ∧ (Jvm.Cond.and given_1 narrow_1).before #[Value.ref b] s = true
theorem gTt_0 : ∀ w ∈ gT0, w ∈ lw_tbl := by decide +kernel
theorem gTt_1 : ∀ w ∈ gT1, w ∈ lw_tbl := by decide +kernel
theorem gTt_2 : ∀ w ∈ gT2, w ∈ lw_tbl := by decide +kernel
theorem gTt_3 : ∀ w ∈ gT3, w ∈ lw_tbl := by decide +kernel
theorem gTt_4 : ∀ w ∈ gT4, w ∈ lw_tbl := by decide +kernel
theorem gTt_5 : ∀ w ∈ gT5, w ∈ lw_tbl := by decide +kernel
theorem gTt_6 : ∀ w ∈ gT6, w ∈ lw_tbl := by decide +kernel
theorem gTt_7 : ∀ w ∈ gT7, w ∈ lw_tbl := by decide +kernel
theorem gTt_8 : ∀ w ∈ gT8, w ∈ lw_tbl := by decide +kernel
theorem gTt_9 : ∀ w ∈ gT9, w ∈ lw_tbl := by decide +kernel
theorem gTt_10 : ∀ w ∈ gT10, w ∈ lw_tbl := by decide +kernel
theorem gTt_11 : ∀ w ∈ gT11, w ∈ lw_tbl := by decide +kernel
theorem gTt_12 : ∀ w ∈ gT12, w ∈ lw_tbl := by decide +kernel
theorem gTt_13 : ∀ w ∈ gT13, w ∈ lw_tbl := by decide +kernel
theorem gTt_14 : ∀ w ∈ gX0, w ∈ lw_tbl := by decide +kernel
theorem gTt_15 : ∀ w ∈ gX1, w ∈ lw_tbl := by decide +kernel
theorem gTt_16 : ∀ w ∈ gX2, w ∈ lw_tbl := by decide +kernel
theorem gTt_17 : ∀ w ∈ gX3, w ∈ lw_tbl := by decide +kernel
theorem gTt_18 : ∀ w ∈ u_ws "OwnerLedger$Batch" TX0 6, w ∈ lw_tbl := by decide +kernel
theorem gTt_19 : ∀ w ∈ u_ws "OwnerLedger$Invoice" TX1 5, w ∈ lw_tbl := by decide +kernel
theorem gTt_20 : ∀ w ∈ u_ws "OwnerLedger$Owner" TX2 2, w ∈ lw_tbl := by decide +kernel
theorem gTt_21 : ∀ w ∈ u_ws "OwnerLedger$Row" TX3 4, w ∈ lw_tbl := by decide +kernel
theorem gTt_22 : ∀ w ∈ u_ws "OwnerLedger" TX4 11, w ∈ lw_tbl := by decide +kernel
theorem gTt_23 : ∀ w ∈ u_ws "OwnerLedgerModel" TX5 24, w ∈ lw_tbl := by decide +kernel
theorem gT_tbl : ∀ w ∈ gT, w ∈ lw_tbl := fun w h => (List.mem_append.mp h).elim (fun h => gTt_0 w h) (fun h => (List.mem_append.mp h).elim (fun h => gTt_1 w h) (fun h => (List.mem_append.mp h).elim (fun h => gTt_2 w h) (fun h => (List.mem_append.mp h).elim (fun h => gTt_3 w h) (fun h => (List.mem_append.mp h).elim (fun h => gTt_4 w h) (fun h => (List.mem_append.mp h).elim (fun h => gTt_5 w h) (fun h => (List.mem_append.mp h).elim (fun h => gTt_6 w h) (fun h => (List.mem_append.mp h).elim (fun h => gTt_7 w h) (fun h => (List.mem_append.mp h).elim (fun h => gTt_8 w h) (fun h => (List.mem_append.mp h).elim (fun h => gTt_9 w h) (fun h => (List.mem_append.mp h).elim (fun h => gTt_10 w h) (fun h => (List.mem_append.mp h).elim (fun h => gTt_11 w h) (fun h => (List.mem_append.mp h).elim (fun h => gTt_12 w h) (fun h => (List.mem_append.mp h).elim (fun h => gTt_13 w h) (fun h => (List.mem_append.mp h).elim (fun h => gTt_14 w h) (fun h => (List.mem_append.mp h).elim (fun h => gTt_15 w h) (fun h => (List.mem_append.mp h).elim (fun h => gTt_16 w h) (fun h => (List.mem_append.mp h).elim (fun h => gTt_17 w h) (fun h => (List.mem_append.mp h).elim (fun h => gTt_18 w h) (fun h => (List.mem_append.mp h).elim (fun h => gTt_19 w h) (fun h => (List.mem_append.mp h).elim (fun h => gTt_20 w h) (fun h => (List.mem_append.mp h).elim (fun h => gTt_21 w h) (fun h => (List.mem_append.mp h).elim (fun h => gTt_22 w h) (fun h => gTt_23 w h)))))))))))))))))))))))
abbrev cxL (p : Program) (s : State) (m : MethodId) (meth : Method) (c : Code) (D : va_G) (AC : Nat → ClassId) (sa : gh_SA) (b L : Nat) (xs : Nat → Int32) (A : Nat → Prop) : Prop := CallFix p m c code 8 s #[Value.ref b] (Jvm.Cond.initialized "OwnerLedgerLaw" :: gT) "OwnerLedgerLaw" ∧ meth.sig.returnType = ret ∧ meth.locks = false ∧ va_K D vwCl (gh_ty AC) s ∧ gh_En sa A s s.heap ∧ (∀ q, s.heap.size ≤ q → A q) ∧ va_X b L xs s s.heap ∧ b < s.heap.size ∧ ¬ A b ∧ (∀ q, A q → s.heap.size ≤ q)
theorem gh_lawret {p : Program} {l : Launch} {e : Env} {s : State} {m : MethodId} {below : List Frame} {meth : Method} {c : Code} {b : Nat} {A : Nat → Prop} {locs : List Loc} {cells slots : Nat} (hx : p.tables.exec = Jvm.exec) (hb : c.code = code) (hr : meth.sig.returnType = ret) (hlocks : meth.locks = false) {pc : Nat} {H : Heap} {ls : Array Slot} {v : Int32} (hv : v = 1) (hS : va_S A s.heap H locs) (hAl : ∀ q, A q → s.heap.size ≤ q) (hc : cells ≤ 601024) (hs : slots ≤ 7293034) (hdg : decode code pc = .ok (.ireturn, 1)) : W p l e room_1 s m #[Value.ref b] below meth c H locs cells slots (lw_Z below #[Value.ref b] s) (F0 m pc ls [.int v]) := by
  subst hv
  exact va_forget (fun q hq => hAl _ (hS.2.2 q hq)) (W.widen hc hs (lw_ret hx hb hr hlocks hdg))
