section
/-- a private method of a class that the tables say can be made, by its rows of tables_1 -/
def lw_okq (q : MethodName × Nat) : Prop := (q.1.cls ≠ "java/lang/invoke/MethodHandle" ∧ q.1.cls ≠ "java/lang/invoke/VarHandle") ∧ Cond.instantiable q.1.cls q.2 ∈ tables_1 ∧ Cond.privateMethod q.1 ∈ tables_1 ∧ Cond.instanceMethod q.1 ∈ tables_1
theorem lw_p0 : lw_okq (⟨"OwnerLedger", "postedBatches", "()I"⟩, 11) := ⟨⟨by decide +kernel, by decide +kernel⟩, List.mem_of_getElem? (i := 16) (by decide +kernel), List.mem_of_getElem? (i := 69) (by decide +kernel), List.mem_of_getElem? (i := 70) (by decide +kernel)⟩
theorem lw_p1 : lw_okq (⟨"OwnerLedger", "unpaidInvoices", "()I"⟩, 11) := ⟨⟨by decide +kernel, by decide +kernel⟩, List.mem_of_getElem? (i := 16) (by decide +kernel), List.mem_of_getElem? (i := 73) (by decide +kernel), List.mem_of_getElem? (i := 74) (by decide +kernel)⟩
theorem lw_p2 : lw_okq (⟨"OwnerLedger", "heldOwners", "()I"⟩, 11) := ⟨⟨by decide +kernel, by decide +kernel⟩, List.mem_of_getElem? (i := 16) (by decide +kernel), List.mem_of_getElem? (i := 77) (by decide +kernel), List.mem_of_getElem? (i := 78) (by decide +kernel)⟩
theorem lw_p3 : lw_okq (⟨"java/lang/Throwable", "fillInStackTrace", "(I)Ljava/lang/Throwable;"⟩, 6) := ⟨⟨by decide +kernel, by decide +kernel⟩, List.mem_of_getElem? (i := 131) (by decide +kernel), List.mem_of_getElem? (i := 129) (by decide +kernel), List.mem_of_getElem? (i := 130) (by decide +kernel)⟩
theorem lw_p4 : lw_okq (⟨"OwnerLedger", "findOwner", "(I)LOwnerLedger$Owner;"⟩, 11) := ⟨⟨by decide +kernel, by decide +kernel⟩, List.mem_of_getElem? (i := 16) (by decide +kernel), List.mem_of_getElem? (i := 182) (by decide +kernel), List.mem_of_getElem? (i := 183) (by decide +kernel)⟩
theorem lw_p5 : lw_okq (⟨"OwnerLedger", "keepBatch", "(LOwnerLedger$Batch;)I"⟩, 11) := ⟨⟨by decide +kernel, by decide +kernel⟩, List.mem_of_getElem? (i := 16) (by decide +kernel), List.mem_of_getElem? (i := 292) (by decide +kernel), List.mem_of_getElem? (i := 293) (by decide +kernel)⟩
theorem lw_p6 : lw_okq (⟨"OwnerLedger", "findBatch", "(I)LOwnerLedger$Batch;"⟩, 11) := ⟨⟨by decide +kernel, by decide +kernel⟩, List.mem_of_getElem? (i := 16) (by decide +kernel), List.mem_of_getElem? (i := 303) (by decide +kernel), List.mem_of_getElem? (i := 304) (by decide +kernel)⟩
theorem lw_p7 : lw_okq (⟨"OwnerLedger", "currencyOf", "(I)I"⟩, 11) := ⟨⟨by decide +kernel, by decide +kernel⟩, List.mem_of_getElem? (i := 16) (by decide +kernel), List.mem_of_getElem? (i := 308) (by decide +kernel), List.mem_of_getElem? (i := 309) (by decide +kernel)⟩
theorem lw_p8 : lw_okq (⟨"OwnerLedger", "firstToPay", "(I)LOwnerLedger$Invoice;"⟩, 11) := ⟨⟨by decide +kernel, by decide +kernel⟩, List.mem_of_getElem? (i := 16) (by decide +kernel), List.mem_of_getElem? (i := 461) (by decide +kernel), List.mem_of_getElem? (i := 462) (by decide +kernel)⟩
theorem lw_p9 : lw_okq (⟨"OwnerLedger", "findInvoice", "(I)LOwnerLedger$Invoice;"⟩, 11) := ⟨⟨by decide +kernel, by decide +kernel⟩, List.mem_of_getElem? (i := 16) (by decide +kernel), List.mem_of_getElem? (i := 472) (by decide +kernel), List.mem_of_getElem? (i := 473) (by decide +kernel)⟩
theorem lw_p10 : lw_okq (⟨"OwnerLedger", "overdueInvoicesOf", "(I)I"⟩, 11) := ⟨⟨by decide +kernel, by decide +kernel⟩, List.mem_of_getElem? (i := 16) (by decide +kernel), List.mem_of_getElem? (i := 533) (by decide +kernel), List.mem_of_getElem? (i := 534) (by decide +kernel)⟩
theorem lw_p11 : lw_okq (⟨"OwnerLedgerModel", "noOwner", "(I)Z"⟩, 24) := ⟨⟨by decide +kernel, by decide +kernel⟩, List.mem_of_getElem? (i := 560) (by decide +kernel), List.mem_of_getElem? (i := 653) (by decide +kernel), List.mem_of_getElem? (i := 654) (by decide +kernel)⟩
theorem lw_p12 : lw_okq (⟨"OwnerLedgerModel", "newBatch", "(I)V"⟩, 24) := ⟨⟨by decide +kernel, by decide +kernel⟩, List.mem_of_getElem? (i := 560) (by decide +kernel), List.mem_of_getElem? (i := 673) (by decide +kernel), List.mem_of_getElem? (i := 674) (by decide +kernel)⟩
theorem lw_p13 : lw_okq (⟨"OwnerLedgerModel", "noBatch", "(I)Z"⟩, 24) := ⟨⟨by decide +kernel, by decide +kernel⟩, List.mem_of_getElem? (i := 560) (by decide +kernel), List.mem_of_getElem? (i := 681) (by decide +kernel), List.mem_of_getElem? (i := 682) (by decide +kernel)⟩
theorem lw_p14 : lw_okq (⟨"OwnerLedgerModel", "sumOf", "(II)J"⟩, 24) := ⟨⟨by decide +kernel, by decide +kernel⟩, List.mem_of_getElem? (i := 560) (by decide +kernel), List.mem_of_getElem? (i := 695) (by decide +kernel), List.mem_of_getElem? (i := 696) (by decide +kernel)⟩
theorem lw_p15 : lw_okq (⟨"OwnerLedgerModel", "meet", "(IJ)J"⟩, 24) := ⟨⟨by decide +kernel, by decide +kernel⟩, List.mem_of_getElem? (i := 560) (by decide +kernel), List.mem_of_getElem? (i := 716) (by decide +kernel), List.mem_of_getElem? (i := 717) (by decide +kernel)⟩
def lw_privs_1 : List (MethodName × Nat) := [(⟨"OwnerLedger", "postedBatches", "()I"⟩, 11), (⟨"OwnerLedger", "unpaidInvoices", "()I"⟩, 11), (⟨"OwnerLedger", "heldOwners", "()I"⟩, 11), (⟨"java/lang/Throwable", "fillInStackTrace", "(I)Ljava/lang/Throwable;"⟩, 6), (⟨"OwnerLedger", "findOwner", "(I)LOwnerLedger$Owner;"⟩, 11), (⟨"OwnerLedger", "keepBatch", "(LOwnerLedger$Batch;)I"⟩, 11), (⟨"OwnerLedger", "findBatch", "(I)LOwnerLedger$Batch;"⟩, 11), (⟨"OwnerLedger", "currencyOf", "(I)I"⟩, 11), (⟨"OwnerLedger", "firstToPay", "(I)LOwnerLedger$Invoice;"⟩, 11), (⟨"OwnerLedger", "findInvoice", "(I)LOwnerLedger$Invoice;"⟩, 11), (⟨"OwnerLedger", "overdueInvoicesOf", "(I)I"⟩, 11), (⟨"OwnerLedgerModel", "noOwner", "(I)Z"⟩, 24), (⟨"OwnerLedgerModel", "newBatch", "(I)V"⟩, 24), (⟨"OwnerLedgerModel", "noBatch", "(I)Z"⟩, 24), (⟨"OwnerLedgerModel", "sumOf", "(II)J"⟩, 24), (⟨"OwnerLedgerModel", "meet", "(IJ)J"⟩, 24)]
theorem lw_r1 : ∀ q ∈ lw_privs_1, lw_okq q := List.forall_mem_cons.mpr ⟨lw_p0, List.forall_mem_cons.mpr ⟨lw_p1, List.forall_mem_cons.mpr ⟨lw_p2, List.forall_mem_cons.mpr ⟨lw_p3, List.forall_mem_cons.mpr ⟨lw_p4, List.forall_mem_cons.mpr ⟨lw_p5, List.forall_mem_cons.mpr ⟨lw_p6, List.forall_mem_cons.mpr ⟨lw_p7, List.forall_mem_cons.mpr ⟨lw_p8, List.forall_mem_cons.mpr ⟨lw_p9, List.forall_mem_cons.mpr ⟨lw_p10, List.forall_mem_cons.mpr ⟨lw_p11, List.forall_mem_cons.mpr ⟨lw_p12, List.forall_mem_cons.mpr ⟨lw_p13, List.forall_mem_cons.mpr ⟨lw_p14, List.forall_mem_cons.mpr ⟨lw_p15, fun _ h => absurd h List.not_mem_nil⟩⟩⟩⟩⟩⟩⟩⟩⟩⟩⟩⟩⟩⟩⟩⟩
theorem lw_p16 : lw_okq (⟨"OwnerLedgerModel", "noInvoice", "(I)Z"⟩, 24) := ⟨⟨by decide +kernel, by decide +kernel⟩, List.mem_of_getElem? (i := 560) (by decide +kernel), List.mem_of_getElem? (i := 728) (by decide +kernel), List.mem_of_getElem? (i := 729) (by decide +kernel)⟩
theorem lw_p17 : lw_okq (⟨"OwnerLedgerModel", "overdue", "(I)Z"⟩, 24) := ⟨⟨by decide +kernel, by decide +kernel⟩, List.mem_of_getElem? (i := 560) (by decide +kernel), List.mem_of_getElem? (i := 740) (by decide +kernel), List.mem_of_getElem? (i := 741) (by decide +kernel)⟩
theorem lw_p18 : lw_okq (⟨"OwnerLedgerModel", "overdues", "(I)I"⟩, 24) := ⟨⟨by decide +kernel, by decide +kernel⟩, List.mem_of_getElem? (i := 560) (by decide +kernel), List.mem_of_getElem? (i := 758) (by decide +kernel), List.mem_of_getElem? (i := 759) (by decide +kernel)⟩
def lw_privs_2 : List (MethodName × Nat) := [(⟨"OwnerLedgerModel", "noInvoice", "(I)Z"⟩, 24), (⟨"OwnerLedgerModel", "overdue", "(I)Z"⟩, 24), (⟨"OwnerLedgerModel", "overdues", "(I)I"⟩, 24)]
theorem lw_r2 : ∀ q ∈ lw_privs_2, lw_okq q := List.forall_mem_cons.mpr ⟨lw_p16, List.forall_mem_cons.mpr ⟨lw_p17, List.forall_mem_cons.mpr ⟨lw_p18, fun _ h => absurd h List.not_mem_nil⟩⟩⟩
def lw_privs : List (MethodName × Nat) := lw_privs_1 ++ (lw_privs_2)
def lw_tbl : List Cond := k2_sels lw_privs ++ tables_1
theorem lw_privs_ok : ∀ q ∈ lw_privs, lw_okq q := by
  show ∀ q ∈ lw_privs_1 ++ (lw_privs_2), lw_okq q
  exact List.forall_mem_append.mpr ⟨lw_r1, lw_r2⟩
end
section
/-! ===== BEGIN words of one list among another's, by their places ===== -/
theorem goodIn_r {big : List Cond} (ws : List Cond) (ps : List Nat) (hp : ws = ps.filterMap (fun i => big[i]?)) (h : ws.all goodWord = true) : GoodIn big ws := by
  intro w hw
  have h1 := List.all_eq_true.mp h w hw
  rw [hp] at hw
  obtain ⟨i, -, hi⟩ := List.mem_filterMap.mp hw
  have hm : w ∈ big := by first | exact List.mem_of_getElem? hi | exact List.getElem?_mem hi
  exact ⟨hm, good_of_word h1⟩
theorem goodIn_app {big a b : List Cond} (ha : GoodIn big a) (hb : GoodIn big b) : GoodIn big (a ++ b) := fun w h => (List.mem_append.mp h).elim (ha w) (hb w)
theorem goodIn_ca {big a b : List Cond} {c : Cond} (ha : GoodIn big (c :: a)) (hb : GoodIn big b) : GoodIn big (c :: (a ++ b)) := fun w h => (List.mem_cons.mp h).elim (fun e => ha w (List.mem_cons.mpr (Or.inl e))) (fun h => (List.mem_append.mp h).elim (fun h => ha w (List.mem_cons.mpr (Or.inr h))) (hb w))
theorem goodIn_sub {big ws : List Cond} (hm : ∀ w ∈ ws, w ∈ big) (h : ws.all goodWord = true) : GoodIn big ws := fun w hw => ⟨hm w hw, good_of_word (List.all_eq_true.mp h w hw)⟩
/-! ===== END ===== -/

/-! ===== BEGIN exceptions that leave a method, and their catching by the caller (launches without stack traces) ===== -/
section VXA
/-! The laws vx_back, vx_callV, vx_callS, vx_callSW, vx_throw0, vx_throwS follow proofs of the library, with one case more: JvmDerived/Free/Laws.lean (Back.of_free), Shelf42/LK1.lean (callV, callS), Shelf/KitTraced.lean (throwNew0V, throwNewS). -/
/-- where a method has thrown q: the class by its name, the cell, what was written, the world -/
def vx_T (XC : String → State → State → Prop) (st : State) (q : Addr) (t : State) (mc ms : Nat) (free : Addr → Prop) : Prop :=
  ∃ (E : String) (ce : Cell) (L : List Loc), XC E st t ∧ t.heap[q]? = some ce ∧ ce.vm = .none ∧ st.vm.findClass E = some ce.cls ∧ st.WarmedH t.vm ∧ st.sameButNew ({ t with vm := st.vm } : State) L mc ms ∧ ∀ z ∈ L, free z.base
def vx_Q (Qc : Array Value → State → Outcome → State → Prop) (XC : String → State → State → Prop) (mc ms : Nat) (free : Addr → Prop) : Array Value → State → Outcome → State → Prop := fun a st o t =>
  (Qc a st o t ∧ ∃ L, FrameEnd st o t L mc ms ∧ ∀ q ∈ L, free q.base) ∨ ∃ q, o = .threw q ∧ vx_T XC st q t mc ms free
/-- a callee that returns or throws -/
def vx_Met (l : Launch) (y : MethodName) (ws : List Cond) (rm : Room) (Pc : Array Value → State → Prop) (Qc : Array Value → State → Outcome → State → Prop) (XC : String → State → State → Prop) (mc ms : Nat) (free : Addr → Prop) : Prop :=
  MetFree l y (headSpec ws rm) Pc (fun _ _ _ _ _ => True) (vx_Q Qc XC mc ms free)
def vx_Post (XC : String → State → State → Prop) (mc ms : Nat) (free : Addr → Prop) : Pt → Array Value → Addr → Pt → Prop := fun A a q B =>
  ∃ (g : JFrame) (mk : MethodId) (t : State) (L : List Loc) (E : String) (ce : Cell), B.U.heap = t.heap ∧ B.U.vm = t.vm ∧ XC E (A.U.calling g mk a) t ∧ t.heap[q]? = some ce ∧ ce.vm = .none ∧ A.U.vm.findClass E = some ce.cls ∧ B.locs = A.locs ++ L ∧ (∀ z ∈ L, free z.base) ∧ B.cells = A.cells + mc ∧ B.slots = A.slots + ms
def vx_Back (l : Launch) (R : Room) (p : Program) (e : Env) (below : List Frame) (s : State) (sargs : Array Value) (y : MethodName) (len W9 : Nat)
    (Pre : Pt → Array Value → Prop) (Post : Pt → Array Value → Option Value → Pt → Prop) (PostX : Pt → Array Value → Addr → Pt → Prop) : Prop :=
  ∀ (m : MethodId) (meth : Method) (c : Code) (A : Pt) (g : JFrame) (ig : Instr) (mk : MethodId) (a : Array Value),
    Stand p l e R s m sargs below meth c A.U A.locs A.cells A.slots → g.method = m → g.locals.size = c.maxLocals → decode c.code g.pc = .ok (ig, len) →
    2 * g.monitorRoom + (g.stack.map fun v => v.category).sum ≤ W9 → A.U.methodNamed? y = some mk → Pre A a →
    (∃ (v : Option Value) (B : Pt), Stand p l e R s m sargs below meth c B.U B.locs B.cells B.slots ∧ Post A a v B ∧
      Steps p.tables e below (doInvoke e (A.U.setTop g) [] mk a).1 (B.U.setTop { g with pc := g.pc + len, stack := v.toList ++ g.stack })) ∨
    (∃ (q : Addr) (B : Pt), Stand p l e R s m sargs below meth c B.U B.locs B.cells B.slots ∧ PostX A a q B ∧
      Steps p.tables e below (doInvoke e (A.U.setTop g) [] mk a).1 ((B.U.setTop g).pushFrame (.throwing q)))
section Payer
variable {l : Launch} {R : Room} {p : Program} {e : Env} {below : List Frame} {s : State} {sargs : Array Value} {y : MethodName} {len W9 : Nat}
theorem vx_back {ws : List Cond} {rm : Room} {Pc : Array Value → State → Prop} {Qc : Array Value → State → Outcome → State → Prop} {XC : String → State → State → Prop} {mc ms : Nat} {free : Addr → Prop} {bytes : ByteArray} {maxL : Nat} {ret : Option FieldType}
    (hM : vx_Met l y ws rm Pc Qc XC mc ms free) (hblind : FrameBlind Pc) (hrc : rm.cells = mc) (hrs : rm.slots = ms)
    (hframes : rm.frames + 1 ≤ R.frames) (hlocals : W9 + (maxL + 11) + rm.locals ≤ R.locals)
    (hws : ∀ w ∈ ws, ∀ a' U, s.WarmedH U.vm → w.before a' U = true) (hcode : Cond.code y bytes maxL ret ∈ ws) (hinit : ∀ a' U, s.WarmedH U.vm → (Cond.initialized y.cls).before a' U = true) :
    vx_Back l R p e below s sargs y len W9 (PreOf R mc ms Pc) (PostOf Qc mc ms free) (vx_Post XC mc ms free) := by
  intro m meth c A g ig mk a X hg hsize hdg hW hn hp
  have h1 : (headSpec ws rm).pre.before a A.U = true := atoms_intro fun w hw => hws w hw _ _ X.warmed
  have h2 : (Cond.code y bytes maxL ret).before a A.U = true := hws _ hcode _ _ X.warmed
  have h3 : (Cond.initialized y.cls).before a A.U = true := hinit _ _ X.warmed
  have h4 : A.cells + (headSpec ws rm).room.cells ≤ R.cells := by rw [show (headSpec ws rm).room.cells = mc from hrc]; exact hp.1
  have h5 : A.slots + (headSpec ws rm).room.slots ≤ R.slots := by rw [show (headSpec ws rm).room.slots = ms from hrs]; exact hp.2.1
  have hPc : Pc a (A.U.calling g mk a) := hblind _ _ _ _ hp.2.2
  obtain ⟨U, Ls, c0, s0⟩ := A
  dsimp only [Pt.U, Pt.locs, Pt.cells, Pt.slots] at h1 h2 h3 h4 h5 X hn hPc ⊢
  obtain ⟨methY, cY, hmY, hcY, -, hlY, -, -, -, -⟩ := Cond.code_spec hn h2
  obtain ⟨kY, hkY, -⟩ := className_of_methodNamed hn
  have hinitY : kY.init = .initialized := Cond.initialized_spec (findClass_of_methodNamed hn) hkY h3
  have h : At U g.method c below := by rw [hg]; exact X.here
  have hlocals9 : W9 + (maxL + 11) + (headSpec ws rm).room.locals ≤ R.locals := hlocals
  have happ : (headSpec ws rm).appliesLoose y e.platform (U.calling g mk a) = true :=
    Spec.appliesLoose_calling (g := g) h hdg hn hkY hinitY
      (X.room_calling (g := g) (R' := (headSpec ws rm).room) hsize hmY hcY hframes (by rw [hlY]; omega) h4 h5) h1
  obtain ⟨mid, hmid⟩ := h.above
  have hfr : (U.setTop g).frames = (.java g :: mid) ++ below := by rw [State.frames_setTop' g h.top, hmid]; rfl
  obtain ⟨o, s₂, hsteps, -, hend, hq⟩ := Steps.callFree hM p X.admits X.cas X.clock (acts := []) hfr happ hPc trivial
  have hq' : vx_Q Qc XC mc ms free a (U.calling g mk a) o s₂ := hq
  rw [State.frames_setTop' g h.top] at hend
  obtain ⟨g₀, hg0⟩ := Option.isSome_iff_exists.mp h.top
  obtain ⟨r, hr⟩ := State.topJava?_eq_some.mp hg0
  have hr' : (({ U with heap := s₂.heap, slotsUsed := s₂.slotsUsed } : State).setVm s₂.vm).frames = .java g₀ :: r := hr
  rcases hq' with ⟨hqc, L, hfe, hL⟩ | ⟨q, rfl, E, ce, L, hx, hce, hcv, hcl, hW₂, hsm, hL⟩
  · obtain ⟨⟨v, rfl⟩, hW₂, e2, q2, q3, q4, q5, q6⟩ := id hfe
    have e3 : s₂ = ({ (U.calling g mk a).setFrames s₂.frames with heap := s₂.heap, slotsUsed := s₂.slotsUsed } : State).setVm s₂.vm := by
      have : s₂ = ({ s₂ with vm := (U.calling g mk a).vm } : State).setVm s₂.vm := rfl
      rw [e2] at this
      exact this
    obtain ⟨c₂, i₂, len₂, hc₂, hd₂, hf₂⟩ := hend
    have hW' : U.WarmedH s₂.vm := hW₂
    have hcc : c₂ = c := by
      have h1 : s₂.code? g.method = U.code? g.method := by
        rw [State.code?_eq, State.code?_eq, hW'.alike.method?]
      exact Option.some.inj (hc₂.symm.trans (h1.trans h.code))
    subst hcc
    have hlen : len₂ = len := by rw [hdg] at hd₂; cases hd₂; rfl
    subst hlen
    have hs₂ : s₂ = (({ U with heap := s₂.heap, slotsUsed := s₂.slotsUsed } : State).setVm s₂.vm).setTop { g with pc := g.pc + len₂, stack := v.toList ++ g.stack } := by
      refine e3.trans ?_
      rw [hf₂, State.calling_eq h.top, State.setFrames_setFrames, State.setTop_of_frames _ hr', hr]
      rfl
    have hsame : U.sameButNew ({ U with heap := s₂.heap, slotsUsed := s₂.slotsUsed } : State) L mc ms := by
      refine ⟨?_, q2, q3, q4, q5, q6⟩
      obtain ⟨t, ht, -⟩ := State.frames_cons hr
      show ({ U with heap := s₂.heap, slotsUsed := s₂.slotsUsed } : State) = { U.setFrames U.frames with heap := s₂.heap, slotsUsed := s₂.slotsUsed }
      rw [State.setFrames_self ht]
    subst hg
    refine Or.inl ⟨v, ⟨(({ U with heap := s₂.heap, slotsUsed := s₂.slotsUsed } : State).setVm s₂.vm), Ls ++ L, c0 + mc, s0 + ms⟩,
      ⟨X.admits, X.cas, X.clock, X.frames, X.room, X.hears, X.method, X.code, (X.here.setHeapUsed s₂.heap s₂.slotsUsed).setVm hW'.alike, X.tail, State.WarmedH.trans X.warmed hW', X.limits, X.bytes, X.same.trans (hsame.setVm s.vm)⟩,
      ⟨g, mk, s₂, L, rfl, rfl, hqc, rfl, hL, rfl, rfl⟩, ?_⟩
    show Steps p.tables e below _ ((({ U with heap := s₂.heap, slotsUsed := s₂.slotsUsed } : State).setVm s₂.vm).setTop { g with pc := g.pc + len₂, stack := v.toList ++ g.stack })
    rw [← hs₂]
    exact hsteps
  · obtain ⟨e2, q2, q3, q4, q5, q6⟩ := id hsm
    have e3 : s₂ = ({ (U.calling g mk a).setFrames s₂.frames with heap := s₂.heap, slotsUsed := s₂.slotsUsed } : State).setVm s₂.vm := by
      have : s₂ = ({ s₂ with vm := (U.calling g mk a).vm } : State).setVm s₂.vm := rfl
      rw [e2] at this
      exact this
    have hf₂ : s₂.frames = .throwing q :: .java g :: U.frames.tail := hend
    have hW' : U.WarmedH s₂.vm := hW₂
    have hs₂ : s₂ = ((({ U with heap := s₂.heap, slotsUsed := s₂.slotsUsed } : State).setVm s₂.vm).setTop g).pushFrame (.throwing q) := by
      refine e3.trans ?_
      rw [hf₂, State.calling_eq h.top, State.setFrames_setFrames, State.pushFrame, State.frames_setTop _ hr', State.setTop_of_frames _ hr', State.setFrames_setFrames, hr]
      rfl
    have hsame : U.sameButNew ({ U with heap := s₂.heap, slotsUsed := s₂.slotsUsed } : State) L mc ms := by
      refine ⟨?_, q2, q3, q4, q5, q6⟩
      obtain ⟨t, ht, -⟩ := State.frames_cons hr
      show ({ U with heap := s₂.heap, slotsUsed := s₂.slotsUsed } : State) = { U.setFrames U.frames with heap := s₂.heap, slotsUsed := s₂.slotsUsed }
      rw [State.setFrames_self ht]
    subst hg
    refine Or.inr ⟨q, ⟨(({ U with heap := s₂.heap, slotsUsed := s₂.slotsUsed } : State).setVm s₂.vm), Ls ++ L, c0 + mc, s0 + ms⟩,
      ⟨X.admits, X.cas, X.clock, X.frames, X.room, X.hears, X.method, X.code, (X.here.setHeapUsed s₂.heap s₂.slotsUsed).setVm hW'.alike, X.tail, State.WarmedH.trans X.warmed hW', X.limits, X.bytes, X.same.trans (hsame.setVm s.vm)⟩,
      ⟨g, mk, s₂, L, E, ce, rfl, rfl, hx, hce, hcv, hcl, rfl, hL, rfl, rfl⟩, ?_⟩
    show Steps p.tables e below _ (((({ U with heap := s₂.heap, slotsUsed := s₂.slotsUsed } : State).setVm s₂.vm).setTop g).pushFrame (.throwing q))
    rw [← hs₂]
    exact hsteps
end Payer
section Calls
variable {p : Program} {l : Launch} {e : Env} {R : Room} {s : State} {m : MethodId} {args : Array Value} {below : List Frame} {meth : Method} {c : Code} {T : State} {locs : List Loc} {cells slots : Nat}
theorem vx_callV (X : Stand p l e R s m args below meth c T locs cells slots) (hexec : p.tables.exec = Jvm.exec) {own C : String} {index : Nat} {y : MethodName} {bytes : ByteArray} {maxL : Nat} {ret : Option FieldType}
    (hown : s.vm.findClass own = some m.cls) (hlink : (Cond.methodLink own index y).before args s = true) (hinst : (Cond.instanceMethod y).before args s = true) (hsel : (Cond.selects C y y).before args s = true)
    (hcode : (Cond.code y bytes maxL ret).before args s = true) (hy : y.cls ≠ "java/lang/invoke/MethodHandle" ∧ y.cls ≠ "java/lang/invoke/VarHandle")
    {W9 : Nat} {Pre : Pt → Array Value → Prop} {Post : Pt → Array Value → Option Value → Pt → Prop} {PostX : Pt → Array Value → Addr → Pt → Prop} (hK : vx_Back l R p e below s args y 3 W9 Pre Post PostX)
    {b : Addr} {cellB : Cell} (hcell : T.heap[b]? = some cellB) (hobj : cellB.vm.isStatics = false) (hcls : s.vm.findClass C = some cellB.cls)
    {g : JFrame} (hg : g.method = m) (hsize : g.locals.size = c.maxLocals) {argsL rest : List Value} (hlen : ∀ sig, parseMethodDescriptor y.desc = some sig → argsL.length = sig.parameters.length)
    (hstack : g.stack = argsL.reverse ++ .ref b :: rest) (hW : 2 * g.monitorRoom + (rest.map fun v => v.category).sum ≤ W9) (hdg : decode c.code g.pc = .ok (.invokevirtual index, 3))
    (hpre : ∀ vm₁, s.WarmedH vm₁ → Pre ⟨T.setVm vm₁, locs, cells, slots⟩ (Value.ref b :: argsL).toArray) :
    (∃ (v : Option Value) (vm₁ : Vm) (B : Pt), s.WarmedH vm₁ ∧ Stand p l e R s m args below meth c B.U B.locs B.cells B.slots ∧ Post ⟨T.setVm vm₁, locs, cells, slots⟩ (Value.ref b :: argsL).toArray v B ∧
      ∀ target, Steps p.tables e below (B.U.setTop { g with pc := g.pc + 3, stack := v.toList ++ rest }) target → Steps p.tables e below (T.setTop g) target) ∨
    (∃ (q : Addr) (vm₁ : Vm) (B : Pt), s.WarmedH vm₁ ∧ Stand p l e R s m args below meth c B.U B.locs B.cells B.slots ∧ PostX ⟨T.setVm vm₁, locs, cells, slots⟩ (Value.ref b :: argsL).toArray q B ∧
      Steps p.tables e below (T.setTop g) ((B.U.setTop { g with stack := rest }).pushFrame (.throwing q))) := by
  obtain ⟨mk, methM, hnamed, hmethM, hstM, habM⟩ := Cond.instanceMethod_spec hinst
  obtain ⟨methM', cM, hmethM', -, -, -, -, -, -, hsigM⟩ := Cond.code_spec hnamed hcode
  cases hmethM.symm.trans hmethM'
  obtain ⟨c2, r2, m2, q1, q2, q3, q4, kP, hkP, hkPi⟩ := Cond.selects_spec hsel
  cases hcls.symm.trans q1
  cases (State.methodFound?_of_named hnamed hy).symm.trans q2
  cases hnamed.symm.trans q3
  have hselP : selectMethod e.platform s.vm cellB.cls mk = .method mk := by rw [Launch.admits_selectMethod X.admits]; exact q4
  obtain ⟨vm₁, X₁, hstep₁⟩ := X.invokevirtual hexec hown hlink hnamed hmethM hstM hkP hkPi hy (a := b) (cell := cellB) hcell
    (fun z h => by rw [h] at hobj; cases hobj) hselP hmethM habM hkP hkPi (g := g) hg (argsL := argsL) (rest := rest) (hlen _ hsigM) hstack hdg
  rcases hK m meth c ⟨T.setVm vm₁, locs, cells, slots⟩ { g with stack := rest } (.invokevirtual index) mk (Value.ref b :: argsL).toArray X₁ hg hsize hdg hW (X₁.named hnamed) (hpre vm₁ X₁.warmed) with ⟨v, B, X', hpost, hsteps⟩ | ⟨q, B, X', hpost, hsteps⟩
  · exact Or.inl ⟨v, vm₁, B, X₁.warmed, X', hpost, fun target h => hstep₁ _ fun acts => by rw [doInvoke_state]; exact hsteps.trans h⟩
  · exact Or.inr ⟨q, vm₁, B, X₁.warmed, X', hpost, hstep₁ _ fun acts => by rw [doInvoke_state]; exact hsteps⟩
theorem vx_callS (X : Stand p l e R s m args below meth c T locs cells slots) (hexec : p.tables.exec = Jvm.exec) {own : String} {index : Nat} {y : MethodName} {bytes : ByteArray} {maxL : Nat} {ret : Option FieldType}
    (hown : s.vm.findClass own = some m.cls) (hlink : (Cond.methodLink own index y).before args s = true) (hstat : (Cond.static y).before args s = true) (hinit : (Cond.initialized y.cls).before args s = true)
    (hcode : (Cond.code y bytes maxL ret).before args s = true) (hy : y.cls ≠ "java/lang/invoke/MethodHandle" ∧ y.cls ≠ "java/lang/invoke/VarHandle")
    {W9 : Nat} {Pre : Pt → Array Value → Prop} {Post : Pt → Array Value → Option Value → Pt → Prop} {PostX : Pt → Array Value → Addr → Pt → Prop} (hK : vx_Back l R p e below s args y 3 W9 Pre Post PostX)
    {g : JFrame} (hg : g.method = m) (hsize : g.locals.size = c.maxLocals) {argsL rest : List Value} (hlen : ∀ sig, parseMethodDescriptor y.desc = some sig → argsL.length = sig.parameters.length)
    (hstack : g.stack = argsL.reverse ++ rest) (hW : 2 * g.monitorRoom + (rest.map fun v => v.category).sum ≤ W9) (hdg : decode c.code g.pc = .ok (.invokestatic index, 3))
    (hpre : ∀ vm₁, s.WarmedH vm₁ → Pre ⟨T.setVm vm₁, locs, cells, slots⟩ argsL.toArray) :
    (∃ (v : Option Value) (vm₁ : Vm) (B : Pt), s.WarmedH vm₁ ∧ Stand p l e R s m args below meth c B.U B.locs B.cells B.slots ∧ Post ⟨T.setVm vm₁, locs, cells, slots⟩ argsL.toArray v B ∧
      ∀ target, Steps p.tables e below (B.U.setTop { g with pc := g.pc + 3, stack := v.toList ++ rest }) target → Steps p.tables e below (T.setTop g) target) ∨
    (∃ (q : Addr) (vm₁ : Vm) (B : Pt), s.WarmedH vm₁ ∧ Stand p l e R s m args below meth c B.U B.locs B.cells B.slots ∧ PostX ⟨T.setVm vm₁, locs, cells, slots⟩ argsL.toArray q B ∧
      Steps p.tables e below (T.setTop g) ((B.U.setTop { g with stack := rest }).pushFrame (.throwing q))) := by
  obtain ⟨mk, hnamed⟩ := Cond.code_named hcode
  obtain ⟨methM, cM, hmethM, -, -, -, -, -, -, hsigM⟩ := Cond.code_spec hnamed hcode
  have hstatic : methM.isStatic = true := Cond.static_spec hnamed hmethM hstat
  obtain ⟨kP, hkP, -⟩ := className_of_methodNamed hnamed
  have hinitP : kP.init = .initialized := Cond.initialized_spec (findClass_of_methodNamed hnamed) hkP hinit
  obtain ⟨vm₁, X₁, hstep₁⟩ := X.invokestatic hexec hown hlink hnamed hmethM hstatic hkP hinitP hy (g := g) hg (argsL := argsL) (rest := rest) (hlen _ hsigM) hstack hdg
  rcases hK m meth c ⟨T.setVm vm₁, locs, cells, slots⟩ { g with stack := rest } (.invokestatic index) mk argsL.toArray X₁ hg hsize hdg hW (X₁.named hnamed) (hpre vm₁ X₁.warmed) with ⟨v, B, X', hpost, hsteps⟩ | ⟨q, B, X', hpost, hsteps⟩
  · exact Or.inl ⟨v, vm₁, B, X₁.warmed, X', hpost, fun target h => hstep₁ _ fun acts => by rw [doInvoke_state]; exact hsteps.trans h⟩
  · exact Or.inr ⟨q, vm₁, B, X₁.warmed, X', hpost, hstep₁ _ fun acts => by rw [doInvoke_state]; exact hsteps⟩
end Calls
theorem vx_cls {s : State} {T : State} {vm₁ : Vm} {E : String} {k : ClassId} (hW : s.WarmedH vm₁) (h : (T.setVm vm₁).vm.findClass E = some k) : s.vm.findClass E = some k := by
  have h1 : vm₁.findClass E = some k := h
  rw [hW.alike.findClass] at h1
  exact h1
/-- the method's frame g, with q thrown over it -/
def vx_W (p : Program) (l : Launch) (e : Env) (R : Room) (s : State) (m : MethodId) (args : Array Value) (below : List Frame) (meth : Method) (c : Code) (H : Heap) (locs : List Loc) (cells slots : Nat) (Q : State → Prop) (g : JFrame) (q : Addr) : Prop :=
  ∀ T : State, T.heap = H → Stand p l e R s m args below meth c T locs cells slots → ∃ t, Steps p.tables e below ((T.setTop g).pushFrame (.throwing q)) t ∧ Q t
def vx_Run (p : Program) (l : Launch) (e : Env) (R : Room) (s : State) (m : MethodId) (args : Array Value) (below : List Frame) (meth : Method) (c : Code) (H : Heap) (locs : List Loc) (cells slots mc ms : Nat) (g : JFrame) (rest : List Value) (Qa : State → Outcome → State → Prop) (XC : String → State → State → Prop) (free : Addr → Prop) : Prop :=
  ∀ T : State, T.heap = H → Stand p l e R s m args below meth c T locs cells slots →
    (∃ (v : Option Value) (st₀ t T' : State) (L : List Loc), st₀.heap = H ∧ Stand p l e R s m args below meth c T' (locs ++ L) (cells + mc) (slots + ms) ∧ (∀ q ∈ L, free q.base) ∧ T'.heap = t.heap ∧ T'.vm = t.vm ∧ Qa st₀ (.returned v) t ∧
      Goes p e below T g T' { g with pc := g.pc + 3, stack := v.toList ++ rest }) ∨
    (∃ (q : Addr) (st₀ t T' : State) (L : List Loc) (E : String) (ce : Cell), st₀.heap = H ∧ Stand p l e R s m args below meth c T' (locs ++ L) (cells + mc) (slots + ms) ∧ (∀ z ∈ L, free z.base) ∧ T'.heap = t.heap ∧ T'.vm = t.vm ∧ XC E st₀ t ∧ t.heap[q]? = some ce ∧ ce.vm = .none ∧ s.vm.findClass E = some ce.cls ∧
      Steps p.tables e below (T.setTop g) ((T'.setTop { g with stack := rest }).pushFrame (.throwing q)))
def vx_X {S : Type} (px : S → Prop) (B : String → S → State → Prop) (A : Nat → Prop) : String → State → State → Prop := fun E st t => ∃ u : S, px u ∧ B E u t ∧ va_F A st t
section Runs
variable {p : Program} {l : Launch} {e : Env} {R : Room} {s : State} {m : MethodId} {args : Array Value} {below : List Frame} {meth : Method} {c : Code} {H : Heap} {locs : List Loc} {cells slots : Nat}
variable {y : MethodName} {bytes cc : ByteArray} {maxL nL mc ms n index : Nat} {ret : Option FieldType} {ws : List Cond} {rm : Room} {Pc : Array Value → State → Prop} {Qc : Array Value → State → Outcome → State → Prop} {XC : String → State → State → Prop} {free : Addr → Prop} {Ts : List Cond} {own C : String} {b : Addr} {As rest : List Value} {g : JFrame}
theorem vx_callBack (cb : CallB R s args own index y bytes maxL ret ws rm mc ms n) (hM : vx_Met l y ws rm Pc Qc XC mc ms free) (hbl : FrameBlind Pc) : vx_Back l R p e below s args y 3 8 (PreOf R mc ms Pc) (PostOf Qc mc ms free) (vx_Post XC mc ms free) := by
  obtain ⟨hrc, hrs, hfr, hlo, hws, hcw, -, hini, -⟩ := cb
  exact vx_back (bytes := bytes) (maxL := maxL) (ret := ret) hM hbl hrc hrs hfr hlo hws hcw (fun a' U hW => word_at hW (Or.inl (by first | rfl | simp [Cond.onTables, Cond.keeps, Cond.steady])) hini)
theorem vx_runV (S : CallFix p m c cc nL s args Ts own) (hM : vx_Met l y ws rm Pc Qc XC mc ms free) (cw : CallW R s args own C index y bytes maxL ret ws rm mc ms n) (hp : PreV s H C b Pc As)
    (hg : g.method = m) (hn : As.length = n) (hsize : g.locals.size = nL) (hstack : g.stack = As.reverse ++ .ref b :: rest) (hW : 2 * g.monitorRoom + (rest.map fun v => v.category).sum ≤ 8) (hdg : decode cc g.pc = .ok (.invokevirtual index, 3)) (hf : cells + mc ≤ R.cells ∧ slots + ms ≤ R.slots) :
    vx_Run p l e R s m args below meth c H locs cells slots mc ms g rest (Qc (Value.ref b :: As).toArray) XC free := by
  have hK : vx_Back l R p e below s args y 3 8 (PreOf R mc ms Pc) (PostOf Qc mc ms free) (vx_Post XC mc ms free) := vx_callBack cw.1 hM hp.1
  obtain ⟨⟨-, -, -, -, -, -, hcode, -, hy, hlen, hl⟩, hin, hse⟩ := cw
  obtain ⟨hx, hb, hml, ho, -⟩ := S
  obtain ⟨-, ⟨cellB, hcB, hoB, hclB⟩, hPc⟩ := hp
  intro T hT X
  rcases vx_callV X hx (C := C) (bytes := bytes) (maxL := maxL) (ret := ret) ho hl hin hse hcode hy hK (by rw [hT]; exact hcB) hoB hclB hg (hsize.trans hml.symm) (argsL := As) (rest := rest) (fun sig h => hn.trans (hlen sig h)) hstack hW (by rw [hb]; exact hdg)
    (fun vm₁ hW₁ => ⟨hf.1, hf.2, hPc (T.setVm vm₁) hT hW₁⟩) with ⟨v, vm₁, ⟨U', l2, c2, s2⟩, hW₁, X', ⟨g', mk, t, L, e1, e2, hq, h1, hL, h2, h3⟩, st⟩ | ⟨q, vm₁, ⟨U', l2, c2, s2⟩, hW₁, X', ⟨g', mk, t, L, E, ce, e1, e2, hq, hce, hcv, hcl, h1, hL, h2, h3⟩, st⟩
  · dsimp only [Pt.U, Pt.locs, Pt.cells, Pt.slots] at X' e1 e2 h1 h2 h3 st
    subst h1; subst h2; subst h3
    exact Or.inl ⟨v, (T.setVm vm₁).calling g' mk (Value.ref b :: As).toArray, t, U', L, hT, X', hL, e1, e2, hq, st⟩
  · dsimp only [Pt.U, Pt.locs, Pt.cells, Pt.slots] at X' e1 e2 h1 h2 h3 st hcl
    subst h1; subst h2; subst h3
    exact Or.inr ⟨q, (T.setVm vm₁).calling g' mk (Value.ref b :: As).toArray, t, U', L, E, ce, hT, X', hL, e1, e2, hq, hce, hcv, vx_cls hW₁ hcl, st⟩
theorem vx_runS (S : CallFix p m c cc nL s args Ts own) (hM : vx_Met l y ws rm Pc Qc XC mc ms free) (cw : CallB R s args own index y bytes maxL ret ws rm mc ms n ∧ (Cond.static y).before args s = true) (hp : PreS s H Pc As)
    (hg : g.method = m) (hn : As.length = n) (hsize : g.locals.size = nL) (hstack : g.stack = As.reverse ++ rest) (hW : 2 * g.monitorRoom + (rest.map fun v => v.category).sum ≤ 8) (hdg : decode cc g.pc = .ok (.invokestatic index, 3)) (hf : cells + mc ≤ R.cells ∧ slots + ms ≤ R.slots) :
    vx_Run p l e R s m args below meth c H locs cells slots mc ms g rest (Qc As.toArray) XC free := by
  have hK : vx_Back l R p e below s args y 3 8 (PreOf R mc ms Pc) (PostOf Qc mc ms free) (vx_Post XC mc ms free) := vx_callBack cw.1 hM hp.1
  obtain ⟨⟨-, -, -, -, -, -, hcode, hini, hy, hlen, hl⟩, hstt⟩ := cw
  obtain ⟨hx, hb, hml, ho, -⟩ := S
  intro T hT X
  rcases vx_callS X hx (bytes := bytes) (maxL := maxL) (ret := ret) ho hl hstt hini hcode hy hK hg (hsize.trans hml.symm) (argsL := As) (rest := rest) (fun sig h => hn.trans (hlen sig h)) hstack hW (by rw [hb]; exact hdg)
    (fun vm₁ hW₁ => ⟨hf.1, hf.2, hp.2 (T.setVm vm₁) hT hW₁⟩) with ⟨v, vm₁, ⟨U', l2, c2, s2⟩, hW₁, X', ⟨g', mk, t, L, e1, e2, hq, h1, hL, h2, h3⟩, st⟩ | ⟨q, vm₁, ⟨U', l2, c2, s2⟩, hW₁, X', ⟨g', mk, t, L, E, ce, e1, e2, hq, hce, hcv, hcl, h1, hL, h2, h3⟩, st⟩
  · dsimp only [Pt.U, Pt.locs, Pt.cells, Pt.slots] at X' e1 e2 h1 h2 h3 st
    subst h1; subst h2; subst h3
    exact Or.inl ⟨v, (T.setVm vm₁).calling g' mk As.toArray, t, U', L, hT, X', hL, e1, e2, hq, st⟩
  · dsimp only [Pt.U, Pt.locs, Pt.cells, Pt.slots] at X' e1 e2 h1 h2 h3 st hcl
    subst h1; subst h2; subst h3
    exact Or.inr ⟨q, (T.setVm vm₁).calling g' mk As.toArray, t, U', L, E, ce, hT, X', hL, e1, e2, hq, hce, hcv, vx_cls hW₁ hcl, st⟩
end Runs
section Rows
variable {p : Program} {l : Launch} {e : Env} {R : Room} {s : State} {m : MethodId} {args : Array Value} {below : List Frame} {meth : Method} {c : Code} {H : Heap} {locs : List Loc} {cells slots : Nat} {Q : State → Prop}
variable {mc ms : Nat} {free : Addr → Prop} {A0 A1 : Nat → Prop} {H0 : Heap} {a : Array Value} {pc : Nat} {ls : Array Slot} {st0 rest : List Value}
theorem vx_keep {st₀ t T' : State} {L : List Loc} (h0 : st₀.heap = H) (e1 : T'.heap = t.heap) (hS : va_S A0 H0 H locs) (hA : ∀ q, q < H.size → A1 q → A0 q) (hf : ∀ q, free q → A0 q) (hL : ∀ q ∈ L, free q.base) (hF : va_F A1 st₀ t) :
    H.size ≤ T'.heap.size ∧ (∀ q : Nat, q < H.size → ¬ A1 q → T'.heap[q]? = H[q]?) ∧ va_S A0 H0 T'.heap (locs ++ L) := by
  obtain ⟨hz, hk⟩ := hF
  rw [h0] at hz hk
  exact ⟨by rw [e1]; exact hz, fun q h1 h2 => by rw [e1]; exact hk q h1 h2,
    ⟨Nat.le_trans hS.1 (by rw [e1]; exact hz), fun q h1 h2 => by rw [e1, hk q (Nat.lt_of_lt_of_le h1 hS.1) (fun z => h2 (hA q (Nat.lt_of_lt_of_le h1 hS.1) z))]; exact hS.2.1 q h1 h2, fun q hq => by
      rcases List.mem_append.mp hq with h | h
      · exact hS.2.2 q h
      · exact hf _ (hL q h)⟩⟩
theorem vx_calli {S SX : Type} {post : Int32 → S → Prop} {px : SX → Prop} {B : S → State → Prop} {BX : String → SX → State → Prop} {AX : Nat → Prop} (hr : vx_Run p l e R s m args below meth c H locs cells slots mc ms (F0 m pc ls st0) rest (va_Qi post B A1 a) (vx_X px BX AX) free) (hS : va_S A0 H0 H locs) (hA : ∀ q, q < H.size → A1 q → A0 q) (hf : ∀ q, free q → A0 q) (hAX : ∀ q, q < H.size → AX q → A0 q)
    (kx : ∀ (E : String) (ce : Cell) (q9 : Addr) (u : SX) (t : State) (H1 : Heap) (locs1 : List Loc), t.heap = H1 → s.vm.Alike t.vm → px u → BX E u t → H.size ≤ H1.size → (∀ q : Nat, q < H.size → ¬ AX q → H1[q]? = H[q]?) → va_S A0 H0 H1 locs1 → H1[q9]? = some ce → ce.vm = .none → s.vm.findClass E = some ce.cls → vx_W p l e R s m args below meth c H1 locs1 (cells + mc) (slots + ms) Q (F0 m pc ls rest) q9)
    (kk : ∀ (r : Int32) (u : S) (t : State) (H1 : Heap) (locs1 : List Loc), t.heap = H1 → s.vm.Alike t.vm → post r u → B u t → H.size ≤ H1.size → (∀ q : Nat, q < H.size → ¬ A1 q → H1[q]? = H[q]?) → va_S A0 H0 H1 locs1 → W p l e R s m args below meth c H1 locs1 (cells + mc) (slots + ms) Q (F0 m (pc + 3) ls (.int r :: rest))) : W p l e R s m args below meth c H locs cells slots Q (F0 m pc ls st0) := by
  intro T hT X
  rcases hr T hT X with ⟨v, st₀, t, T', L, h0, X', hL, e1, e2, ⟨⟨r, u, hv, hp, hb⟩, hF⟩, st⟩ | ⟨q, st₀, t, T', L, E, ce, h0, X', hL, e1, e2, ⟨u, hp, hb, hF⟩, hce, hcv, hcl, st⟩
  · cases hv
    obtain ⟨k1, k2, k3⟩ := vx_keep h0 e1 hS hA hf hL hF
    obtain ⟨t2, a1, b1⟩ := kk r u t T'.heap (locs ++ L) e1.symm (by rw [← e2]; exact X'.warmed.alike) hp hb k1 k2 k3 T' rfl X'
    exact ⟨t2, st t2 a1, b1⟩
  · obtain ⟨k1, k2, k3⟩ := vx_keep h0 e1 hS hAX hf hL hF
    obtain ⟨t2, a1, b1⟩ := kx E ce q u t T'.heap (locs ++ L) e1.symm (by rw [← e2]; exact X'.warmed.alike) hp hb k1 k2 k3 (by rw [e1]; exact hce) hcv hcl T' rfl X'
    exact ⟨t2, st.trans a1, b1⟩
theorem vx_calll {S SX : Type} {post : Int64 → S → Prop} {px : SX → Prop} {B : S → State → Prop} {BX : String → SX → State → Prop} {AX : Nat → Prop} (hr : vx_Run p l e R s m args below meth c H locs cells slots mc ms (F0 m pc ls st0) rest (va_Ql post B A1 a) (vx_X px BX AX) free) (hS : va_S A0 H0 H locs) (hA : ∀ q, q < H.size → A1 q → A0 q) (hf : ∀ q, free q → A0 q) (hAX : ∀ q, q < H.size → AX q → A0 q)
    (kx : ∀ (E : String) (ce : Cell) (q9 : Addr) (u : SX) (t : State) (H1 : Heap) (locs1 : List Loc), t.heap = H1 → s.vm.Alike t.vm → px u → BX E u t → H.size ≤ H1.size → (∀ q : Nat, q < H.size → ¬ AX q → H1[q]? = H[q]?) → va_S A0 H0 H1 locs1 → H1[q9]? = some ce → ce.vm = .none → s.vm.findClass E = some ce.cls → vx_W p l e R s m args below meth c H1 locs1 (cells + mc) (slots + ms) Q (F0 m pc ls rest) q9)
    (kk : ∀ (r : Int64) (u : S) (t : State) (H1 : Heap) (locs1 : List Loc), t.heap = H1 → s.vm.Alike t.vm → post r u → B u t → H.size ≤ H1.size → (∀ q : Nat, q < H.size → ¬ A1 q → H1[q]? = H[q]?) → va_S A0 H0 H1 locs1 → W p l e R s m args below meth c H1 locs1 (cells + mc) (slots + ms) Q (F0 m (pc + 3) ls (.long r :: rest))) : W p l e R s m args below meth c H locs cells slots Q (F0 m pc ls st0) := by
  intro T hT X
  rcases hr T hT X with ⟨v, st₀, t, T', L, h0, X', hL, e1, e2, ⟨⟨r, u, hv, hp, hb⟩, hF⟩, st⟩ | ⟨q, st₀, t, T', L, E, ce, h0, X', hL, e1, e2, ⟨u, hp, hb, hF⟩, hce, hcv, hcl, st⟩
  · cases hv
    obtain ⟨k1, k2, k3⟩ := vx_keep h0 e1 hS hA hf hL hF
    obtain ⟨t2, a1, b1⟩ := kk r u t T'.heap (locs ++ L) e1.symm (by rw [← e2]; exact X'.warmed.alike) hp hb k1 k2 k3 T' rfl X'
    exact ⟨t2, st t2 a1, b1⟩
  · obtain ⟨k1, k2, k3⟩ := vx_keep h0 e1 hS hAX hf hL hF
    obtain ⟨t2, a1, b1⟩ := kx E ce q u t T'.heap (locs ++ L) e1.symm (by rw [← e2]; exact X'.warmed.alike) hp hb k1 k2 k3 (by rw [e1]; exact hce) hcv hcl T' rfl X'
    exact ⟨t2, st.trans a1, b1⟩
theorem vx_callf {S SX : Type} {post : UInt32 → S → Prop} {px : SX → Prop} {B : S → State → Prop} {BX : String → SX → State → Prop} {AX : Nat → Prop} (hr : vx_Run p l e R s m args below meth c H locs cells slots mc ms (F0 m pc ls st0) rest (va_Qf post B A1 a) (vx_X px BX AX) free) (hS : va_S A0 H0 H locs) (hA : ∀ q, q < H.size → A1 q → A0 q) (hf : ∀ q, free q → A0 q) (hAX : ∀ q, q < H.size → AX q → A0 q)
    (kx : ∀ (E : String) (ce : Cell) (q9 : Addr) (u : SX) (t : State) (H1 : Heap) (locs1 : List Loc), t.heap = H1 → s.vm.Alike t.vm → px u → BX E u t → H.size ≤ H1.size → (∀ q : Nat, q < H.size → ¬ AX q → H1[q]? = H[q]?) → va_S A0 H0 H1 locs1 → H1[q9]? = some ce → ce.vm = .none → s.vm.findClass E = some ce.cls → vx_W p l e R s m args below meth c H1 locs1 (cells + mc) (slots + ms) Q (F0 m pc ls rest) q9)
    (kk : ∀ (r : UInt32) (u : S) (t : State) (H1 : Heap) (locs1 : List Loc), t.heap = H1 → s.vm.Alike t.vm → post r u → B u t → H.size ≤ H1.size → (∀ q : Nat, q < H.size → ¬ A1 q → H1[q]? = H[q]?) → va_S A0 H0 H1 locs1 → W p l e R s m args below meth c H1 locs1 (cells + mc) (slots + ms) Q (F0 m (pc + 3) ls (.float r :: rest))) : W p l e R s m args below meth c H locs cells slots Q (F0 m pc ls st0) := by
  intro T hT X
  rcases hr T hT X with ⟨v, st₀, t, T', L, h0, X', hL, e1, e2, ⟨⟨r, u, hv, hp, hb⟩, hF⟩, st⟩ | ⟨q, st₀, t, T', L, E, ce, h0, X', hL, e1, e2, ⟨u, hp, hb, hF⟩, hce, hcv, hcl, st⟩
  · cases hv
    obtain ⟨k1, k2, k3⟩ := vx_keep h0 e1 hS hA hf hL hF
    obtain ⟨t2, a1, b1⟩ := kk r u t T'.heap (locs ++ L) e1.symm (by rw [← e2]; exact X'.warmed.alike) hp hb k1 k2 k3 T' rfl X'
    exact ⟨t2, st t2 a1, b1⟩
  · obtain ⟨k1, k2, k3⟩ := vx_keep h0 e1 hS hAX hf hL hF
    obtain ⟨t2, a1, b1⟩ := kx E ce q u t T'.heap (locs ++ L) e1.symm (by rw [← e2]; exact X'.warmed.alike) hp hb k1 k2 k3 (by rw [e1]; exact hce) hcv hcl T' rfl X'
    exact ⟨t2, st.trans a1, b1⟩
theorem vx_calld {S SX : Type} {post : UInt64 → S → Prop} {px : SX → Prop} {B : S → State → Prop} {BX : String → SX → State → Prop} {AX : Nat → Prop} (hr : vx_Run p l e R s m args below meth c H locs cells slots mc ms (F0 m pc ls st0) rest (va_Qd post B A1 a) (vx_X px BX AX) free) (hS : va_S A0 H0 H locs) (hA : ∀ q, q < H.size → A1 q → A0 q) (hf : ∀ q, free q → A0 q) (hAX : ∀ q, q < H.size → AX q → A0 q)
    (kx : ∀ (E : String) (ce : Cell) (q9 : Addr) (u : SX) (t : State) (H1 : Heap) (locs1 : List Loc), t.heap = H1 → s.vm.Alike t.vm → px u → BX E u t → H.size ≤ H1.size → (∀ q : Nat, q < H.size → ¬ AX q → H1[q]? = H[q]?) → va_S A0 H0 H1 locs1 → H1[q9]? = some ce → ce.vm = .none → s.vm.findClass E = some ce.cls → vx_W p l e R s m args below meth c H1 locs1 (cells + mc) (slots + ms) Q (F0 m pc ls rest) q9)
    (kk : ∀ (r : UInt64) (u : S) (t : State) (H1 : Heap) (locs1 : List Loc), t.heap = H1 → s.vm.Alike t.vm → post r u → B u t → H.size ≤ H1.size → (∀ q : Nat, q < H.size → ¬ A1 q → H1[q]? = H[q]?) → va_S A0 H0 H1 locs1 → W p l e R s m args below meth c H1 locs1 (cells + mc) (slots + ms) Q (F0 m (pc + 3) ls (.double r :: rest))) : W p l e R s m args below meth c H locs cells slots Q (F0 m pc ls st0) := by
  intro T hT X
  rcases hr T hT X with ⟨v, st₀, t, T', L, h0, X', hL, e1, e2, ⟨⟨r, u, hv, hp, hb⟩, hF⟩, st⟩ | ⟨q, st₀, t, T', L, E, ce, h0, X', hL, e1, e2, ⟨u, hp, hb, hF⟩, hce, hcv, hcl, st⟩
  · cases hv
    obtain ⟨k1, k2, k3⟩ := vx_keep h0 e1 hS hA hf hL hF
    obtain ⟨t2, a1, b1⟩ := kk r u t T'.heap (locs ++ L) e1.symm (by rw [← e2]; exact X'.warmed.alike) hp hb k1 k2 k3 T' rfl X'
    exact ⟨t2, st t2 a1, b1⟩
  · obtain ⟨k1, k2, k3⟩ := vx_keep h0 e1 hS hAX hf hL hF
    obtain ⟨t2, a1, b1⟩ := kx E ce q u t T'.heap (locs ++ L) e1.symm (by rw [← e2]; exact X'.warmed.alike) hp hb k1 k2 k3 (by rw [e1]; exact hce) hcv hcl T' rfl X'
    exact ⟨t2, st.trans a1, b1⟩
theorem vx_callv {S SX : Type} {post : S → Prop} {px : SX → Prop} {B : S → State → Prop} {BX : String → SX → State → Prop} {AX : Nat → Prop} (hr : vx_Run p l e R s m args below meth c H locs cells slots mc ms (F0 m pc ls st0) rest (va_Qv post B A1 a) (vx_X px BX AX) free) (hS : va_S A0 H0 H locs) (hA : ∀ q, q < H.size → A1 q → A0 q) (hf : ∀ q, free q → A0 q) (hAX : ∀ q, q < H.size → AX q → A0 q)
    (kx : ∀ (E : String) (ce : Cell) (q9 : Addr) (u : SX) (t : State) (H1 : Heap) (locs1 : List Loc), t.heap = H1 → s.vm.Alike t.vm → px u → BX E u t → H.size ≤ H1.size → (∀ q : Nat, q < H.size → ¬ AX q → H1[q]? = H[q]?) → va_S A0 H0 H1 locs1 → H1[q9]? = some ce → ce.vm = .none → s.vm.findClass E = some ce.cls → vx_W p l e R s m args below meth c H1 locs1 (cells + mc) (slots + ms) Q (F0 m pc ls rest) q9)
    (kk : ∀ (u : S) (t : State) (H1 : Heap) (locs1 : List Loc), t.heap = H1 → s.vm.Alike t.vm → post u → B u t → H.size ≤ H1.size → (∀ q : Nat, q < H.size → ¬ A1 q → H1[q]? = H[q]?) → va_S A0 H0 H1 locs1 → W p l e R s m args below meth c H1 locs1 (cells + mc) (slots + ms) Q (F0 m (pc + 3) ls (rest))) : W p l e R s m args below meth c H locs cells slots Q (F0 m pc ls st0) := by
  intro T hT X
  rcases hr T hT X with ⟨v, st₀, t, T', L, h0, X', hL, e1, e2, ⟨⟨u, hv, hp, hb⟩, hF⟩, st⟩ | ⟨q, st₀, t, T', L, E, ce, h0, X', hL, e1, e2, ⟨u, hp, hb, hF⟩, hce, hcv, hcl, st⟩
  · cases hv
    obtain ⟨k1, k2, k3⟩ := vx_keep h0 e1 hS hA hf hL hF
    obtain ⟨t2, a1, b1⟩ := kk u t T'.heap (locs ++ L) e1.symm (by rw [← e2]; exact X'.warmed.alike) hp hb k1 k2 k3 T' rfl X'
    exact ⟨t2, st t2 a1, b1⟩
  · obtain ⟨k1, k2, k3⟩ := vx_keep h0 e1 hS hAX hf hL hF
    obtain ⟨t2, a1, b1⟩ := kx E ce q u t T'.heap (locs ++ L) e1.symm (by rw [← e2]; exact X'.warmed.alike) hp hb k1 k2 k3 (by rw [e1]; exact hce) hcv hcl T' rfl X'
    exact ⟨t2, st.trans a1, b1⟩
/-- caught by the row x of this method's table; the rows ahead don't take it -/
theorem vx_catch {own name : String} {E : String} {ce : Cell} {q : Addr} (hown : s.vm.findClass own = some m.cls) (pre : List ExceptionTableEntry) (x : ExceptionTableEntry) (suf : List ExceptionTableEntry) (hsplit : c.exceptionTable.toList = pre ++ x :: suf)
    (hpass : ∀ z ∈ pre, covers z pc = false ∨ (z.catchType ≠ 0 ∧ ∃ nm : String, (Cond.classLink own z.catchType nm).before args s = true ∧ va_Nc E nm s)) (hx : covers x pc = true) (h0 : x.catchType ≠ 0)
    (hlink : (Cond.classLink own x.catchType name).before args s = true) (hcast : (Cond.castable E name).before args s = true) (hcell : H[q]? = some ce) (hv : ce.vm = .none) (hcl : s.vm.findClass E = some ce.cls)
    (kk : W p l e R s m args below meth c H locs cells slots Q (F0 m x.handlerPc ls [.ref q])) : vx_W p l e R s m args below meth c H locs cells slots Q (F0 m pc ls rest) q := by
  intro T hT X
  have hpl : e.platform.magicAccessors = ({} : Platform).magicAccessors := by rw [X.admits.platform]
  obtain ⟨c3, c4, hc3, hc4, hasg⟩ := Cond.castable_spec hcast
  cases Option.some.inj (hc3.symm.trans hcl)
  obtain ⟨c5, hc5, hcl5⟩ := Cond.classLink_spec hown hlink e.platform hpl
  cases Option.some.inj (hc4.symm.trans hc5)
  obtain ⟨vm', X', st⟩ := X.thenCaughtThrough q (g := F0 m pc ls rest) rfl (Steps.refl _) (by rw [hT]; exact hcell) (by rw [hv]; rfl) (by obtain ⟨k9, h9, -⟩ := Vm.findClass_spec hcl; exact ⟨k9, h9⟩) pre x suf hsplit
    (fun z hz => by
      rcases hpass z hz with h | ⟨hz0, nm, hl1, hn1⟩
      · exact Or.inl h
      · obtain ⟨c6, hc6, hcl6⟩ := Cond.classLink_spec hown hl1 e.platform hpl
        obtain ⟨a8, b8, h1, h2, h3⟩ := hn1
        cases Option.some.inj (h1.symm.trans hcl)
        cases Option.some.inj (h2.symm.trans hc6)
        exact Or.inr ⟨hz0, _, hcl6, h3⟩) hx (Or.inr ⟨h0, c4, hcl5, hasg⟩)
  obtain ⟨t, a1, b1⟩ := kk (T.setVm vm') hT X'
  exact ⟨t, st.trans a1, b1⟩
end Rows
section Ends
variable {p : Program} {l : Launch} {e : Env} {R : Room} {s : State} {m : MethodId} {args : Array Value} {below : List Frame} {meth : Method} {c : Code} {H : Heap} {locs : List Loc} {cells slots : Nat} {Q : State → Prop}
variable {mc ms : Nat} {free : Addr → Prop} {A0 A1 : Nat → Prop} {H0 : Heap} {a : Array Value} {ls : Array Slot} {st0 rest : List Value}
variable {Qc : Array Value → State → Outcome → State → Prop} {XC : String → State → State → Prop}
/-- what a body that may throw owes at its end -/
def vx_MQ (below : List Frame) (Qc : Array Value → State → Outcome → State → Prop) (XC : String → State → State → Prop) (a : Array Value) (s : State) (mc ms : Nat) (free : Addr → Prop) : State → Prop := fun t =>
  ∃ o, t.status = .running ∧ Ended t below o ∧ vx_Q Qc XC mc ms free a s o t
theorem vx_ret {g : JFrame} {mc ms : Nat} (k : W p l e R s m args below meth c H locs cells slots (MQ below Qc args s mc ms free) g) : W p l e R s m args below meth c H locs cells slots (vx_MQ below Qc XC args s mc ms free) g := by
  intro T hT X
  obtain ⟨t, a1, o, b1, b2, b3, b4⟩ := k T hT X
  exact ⟨t, a1, o, b1, b2, Or.inl ⟨b3, b4⟩⟩
/-- not caught here: it goes on to the caller -/
theorem vx_widen {g : JFrame} {q : Addr} {k n : Nat} (h1 : cells ≤ k) (h2 : slots ≤ n) (kk : vx_W p l e R s m args below meth c H locs k n Q g q) : vx_W p l e R s m args below meth c H locs cells slots Q g q := fun T hT X => kk T hT (stand_widen X h1 h2)
theorem vx_out {pc : Nat} {E : String} {ce : Cell} {q : Addr} {mc ms : Nat} (hout : ∀ x ∈ c.exceptionTable.toList, covers x pc = false) (hlocks : meth.locks = false) (hcell : H[q]? = some ce) (hv : ce.vm = .none) (hcl : s.vm.findClass E = some ce.cls)
    (hx : ∀ t : State, t.heap = H → s.vm.Alike t.vm → XC E s t) (hf : ∀ z ∈ locs, free z.base) (hc : cells ≤ mc) (hs : slots ≤ ms) :
    vx_W p l e R s m args below meth c H locs cells slots (vx_MQ below Qc XC args s mc ms free) (F0 m pc ls rest) q := by
  intro T hT X
  obtain ⟨st1, hrun, hend, hW, hsm⟩ := X.leaveThrown q (g := F0 m pc ls rest) rfl rfl rfl hout hlocks
  have hcell9 : (T.setFrames (.throwing q :: below)).heap[q]? = some ce := by
    show T.heap[q]? = some ce
    rw [hT]; exact hcell
  exact ⟨_, st1, .threw q, hrun, hend, Or.inr ⟨q, rfl, E, ce, locs, hx _ hT hW.alike, hcell9, hv, hcl, hW, hsm.mono hc hs, hf⟩⟩
theorem vx_frame {U : State} {k n : Nat} (h : s.sameButNew ({ U with vm := s.vm } : State) locs k n) : s.heap.size ≤ U.heap.size ∧ ∀ q : Nat, q < s.heap.size → (∀ z ∈ locs, z.base ≠ q) → U.heap[q]? = s.heap[q]? := by
  obtain ⟨-, h2, -, -, -, h6⟩ := h
  refine ⟨h2, fun q hq hz => ?_⟩
  obtain ⟨c9, e1, e2, e3, e4⟩ := h6 q _ (Array.getElem?_eq_getElem hq)
  have hs : c9.slots = (s.heap[q]).slots := Array.ext_getElem? fun i => e4 i fun hm => hz _ hm rfl
  have h9 : c9 = s.heap[q] := by
    rw [hs] at e2
    exact e2
  have e5 : U.heap[q]? = some c9 := e1
  rw [e5, h9, Array.getElem?_eq_getElem hq]
/-- the words of a throw but the four that speak of the heap -/
def vx_no (w : Cond) : Bool := decide (w ≠ .isRef (.static Bundle.tN "UNASSIGNED_STACK" Bundle.steD)) && decide (w ≠ .isRef (.static Bundle.tN "SUPPRESSED_SENTINEL" Bundle.listD)) && decide (w ≠ .laysStatic Bundle.tN "UNASSIGNED_STACK" Bundle.steD) && decide (w ≠ .laysStatic Bundle.tN "SUPPRESSED_SENTINEL" Bundle.listD)
def vx_at0 (own : String) (ic : Nat) (X : String) (names : List String) : List Cond := (Bundle.ownAtoms0 own ic X names).filter vx_no
def vx_atS (own : String) (ic : Nat) (X : String) (names : List String) : List Cond := (Bundle.ownAtoms own ic X names).filter vx_no
/-- a word that the tables alone decide, or a good one -/
def vx_ot (w : Cond) : Bool := w.onTables || goodWord w
theorem vx_ot_at {args a' : Array Value} {s U : State} {w : Cond} (hW : s.WarmedH U.vm) (hvm : s.vm = U.vm) (hg : vx_ot w = true) (h : w.before args s = true) : w.before a' U = true := by
  simp only [vx_ot, Bool.or_eq_true] at hg
  rcases hg with hg | hg
  · exact va_tabs hg hvm h
  · exact word_at hW (good_of_word hg) h
/-- a list's words: the good ones out of the method's own list, the others by premises of their own -/
theorem vx_hat {args : Array Value} {s : State} {L B : List Cond} (h1 : ∀ w ∈ L.filter goodWord, w.before args s = true) (h2 : ∀ w ∈ L.filter (fun w => !goodWord w), w ∈ B) (h3 : ∀ w ∈ B, w.before args s = true) : ∀ w ∈ L, w.before args s = true := by
  intro w hw
  by_cases g : goodWord w = true
  · exact h1 w (List.mem_filter.mpr ⟨hw, g⟩)
  · refine h3 w (h2 w (List.mem_filter.mpr ⟨hw, ?_⟩))
    show (!goodWord w) = true
    cases hgw : goodWord w
    · rfl
    · exact absurd hgw g
theorem vx_c {args : Array Value} {s : State} {w : Cond} {B : List Cond} (h : w.before args s = true) (t : ∀ w ∈ B, w.before args s = true) : ∀ w' ∈ w :: B, w'.before args s = true := fun w' h' => (List.mem_cons.mp h').elim (fun e => by rw [e]; exact h) (t w')
theorem vx_n {args : Array Value} {s : State} : ∀ w ∈ ([] : List Cond), w.before args s = true := fun _ h => nomatch h
theorem vx_own {args : Array Value} {s : State} {L : List Cond} (h1 : ∀ w ∈ L.filter vx_no, w.before args s = true)
    (hU : (Cond.isRef (.static Bundle.tN "UNASSIGNED_STACK" Bundle.steD)).before args s = true) (hN : (Cond.isRef (.static Bundle.tN "SUPPRESSED_SENTINEL" Bundle.listD)).before args s = true)
    (lU : (Cond.laysStatic Bundle.tN "UNASSIGNED_STACK" Bundle.steD).before args s = true) (lN : (Cond.laysStatic Bundle.tN "SUPPRESSED_SENTINEL" Bundle.listD).before args s = true) : ∀ w ∈ L, w.before args s = true := by
  intro w hw
  by_cases e1 : w = .isRef (.static Bundle.tN "UNASSIGNED_STACK" Bundle.steD)
  · rw [e1]; exact hU
  · by_cases e2 : w = .isRef (.static Bundle.tN "SUPPRESSED_SENTINEL" Bundle.listD)
    · rw [e2]; exact hN
    · by_cases e3 : w = .laysStatic Bundle.tN "UNASSIGNED_STACK" Bundle.steD
      · rw [e3]; exact lU
      · by_cases e4 : w = .laysStatic Bundle.tN "SUPPRESSED_SENTINEL" Bundle.listD
        · rw [e4]; exact lN
        · exact h1 w (List.mem_filter.mpr ⟨hw, by unfold vx_no; rw [decide_eq_true e1, decide_eq_true e2, decide_eq_true e3, decide_eq_true e4]; rfl⟩)
/-- where a static field lies, its class's statics cell in H -/
def vx_L (C n d : String) (A : Nat → Prop) (U : State) (H : Heap) : Prop := ∃ (c : ClassId) (k : Class) (i : Nat) (f : Field) (a : Nat) (cell : Cell), U.vm.findClass C = some c ∧ U.fieldFound? C n d = some (c, k, i, f) ∧ f.isStatic = true ∧ k.statics = some a ∧ H[a]? = some cell ∧ cell.vm.isStatics = true ∧ cell.cls = c ∧ f.slot < cell.slots.size ∧ k.staticTypes[f.slot]? = some f.type ∧ ¬ A a
theorem vx_L.moved {C n d : String} {A : Nat → Prop} {u U : State} {H : Heap} (hvm : u.vm.Alike U.vm) (h : vx_L C n d A u H) : vx_L C n d A U H := by
  obtain ⟨c, k, i, f, a, cell, h1, h2, h3, h4, h5, h6, h7, h8, h9, h10⟩ := h
  obtain ⟨k', hi', he⟩ := State.fieldFound?_setVm hvm h2
  exact ⟨c, k', i, f, a, cell, by rw [hvm.findClass]; exact h1, hi', h3, by rw [he]; exact h4, h5, h6, h7, h8, by rw [he]; exact h9, h10⟩
theorem vx_L.kept {C n d : String} {A : Nat → Prop} {U : State} {H H1 : Heap} (h : vx_L C n d A U H) (hq : ∀ a : Nat, a < H.size → ¬ A a → H1[a]? = H[a]?) : vx_L C n d A U H1 := by
  obtain ⟨c, k, i, f, a, cell, h1, h2, h3, h4, h5, h6, h7, h8, h9, h10⟩ := h
  exact ⟨c, k, i, f, a, cell, h1, h2, h3, h4, by rw [hq a (Array.getElem?_eq_some_iff.mp h5).1 h10]; exact h5, h6, h7, h8, h9, h10⟩
theorem vx_L.narrow {C n d : String} {A B : Nat → Prop} {U : State} {H : Heap} (h : vx_L C n d A U H) (hAB : ∀ q, B q → A q) : vx_L C n d B U H := by
  obtain ⟨c, k, i, f, a, cell, h1, h2, h3, h4, h5, h6, h7, h8, h9, h10⟩ := h
  exact ⟨c, k, i, f, a, cell, h1, h2, h3, h4, h5, h6, h7, h8, h9, fun z => h10 (hAB _ z)⟩
theorem vx_L.word {C n d : String} {A : Nat → Prop} {s : State} {args : Array Value} (h : vx_L C n d A s s.heap) : (Cond.laysStatic C n d).before args s = true := by
  obtain ⟨c, k, i, f, a, cell, h1, h2, h3, h4, h5, h6, h7, h8, h9, -⟩ := h
  show (Cond.laysStatic C n d).holds args s none s [] = true
  exact Cond.laysStatic_of h1 h2 h3 h4 h5 h6 h7 h8 h9
/-- .. and what it holds: null or some reference -/
def vx_Zq (C n d : String) (A : Nat → Prop) (U : State) (H : Heap) : Prop := va_Zq C n d A U H ∧ vx_L C n d A U H
theorem vx_Zq.moved {C n d : String} {A : Nat → Prop} {u U : State} {H : Heap} (hvm : u.vm.Alike U.vm) (h : vx_Zq C n d A u H) : vx_Zq C n d A U H := ⟨va_Zq.moved hvm h.1, vx_L.moved hvm h.2⟩
theorem vx_Zq.kept {C n d : String} {A : Nat → Prop} {U : State} {H H1 : Heap} (h : vx_Zq C n d A U H) (hq : ∀ a : Nat, a < H.size → ¬ A a → H1[a]? = H[a]?) : vx_Zq C n d A U H1 := ⟨va_Zq.kept h.1 hq, vx_L.kept h.2 hq⟩
theorem vx_Zq.narrow {C n d : String} {A B : Nat → Prop} {U : State} {H : Heap} (h : vx_Zq C n d A U H) (hAB : ∀ q, B q → A q) : vx_Zq C n d B U H := ⟨va_Zq.narrow h.1 hAB, vx_L.narrow h.2 hAB⟩
theorem vx_Zqof {args : Array Value} {s : State} {C n d : String} {A : Nat → Prop} (hl : (Cond.laysStatic C n d).before args s = true) (hini : (Cond.initialized C).before args s = true) (h : (Cond.isRef (.static C n d)).before args s = true) (hA : ∀ a : Nat, a < s.heap.size → ¬ A a) : vx_Zq C n d A s s.heap := by
  refine ⟨va_Zqof hl hini h hA, ?_⟩
  obtain ⟨c, k, i, f, a, cell, h1, h2, h3, h4, h5, h6, h7, h8, h9⟩ := Cond.laysStatic_spec hl
  exact ⟨c, k, i, f, a, cell, h1, h2, h3, h4, h5, h6, h7, h8, h9, hA a (Array.getElem?_eq_some_iff.mp h5).1⟩
theorem vx_isRef {C n d : String} {v : Value} {A : Nat → Prop} {s : State} {args : Array Value} (h : va_Z C n d v A s s.heap) (hv : v.isRef = true) : (Cond.isRef (.static C n d)).before args s = true := by
  obtain ⟨cf, kf, fi, f, a, cell, h1, h2, h3, h4, h5, h6, h7, -⟩ := h
  have he : (Term.static C n d).eval args s none [] s = some v := by
    simp [Term.eval, State.fieldNamed?, h1, h2, h4, h5, h6, h7]
  simp only [Cond.before, Cond.holds, Cond.value, he]
  cases v <;> simp_all [Value.isRef]
theorem vx_isRefq {C n d : String} {A : Nat → Prop} {s : State} {args : Array Value} (h : va_Zq C n d A s s.heap) : (Cond.isRef (.static C n d)).before args s = true := by
  rcases h with h | ⟨t, h⟩
  · exact vx_isRef h rfl
  · exact vx_isRef h rfl
/-- the same frame, seen from here: as if the method were called anew in this heap -/
theorem vx_rebase {T : State} (X : Stand p l e R s m args below meth c T locs cells slots) {R' : Room} (hf : R'.frames ≤ R.frames) (hl : R'.locals ≤ R.locals) (hc : cells + R'.cells ≤ R.cells) (hs : slots + R'.slots ≤ R.slots) :
    Stand p l e R' ((T.setVm s.vm).setFrames (.invoking m args :: below)) m args below meth c T [] 0 0 := by
  have htop : (T.setVm s.vm).topJava?.isSome := X.here.top
  have hF : ((T.setVm s.vm).setFrames (.invoking m args :: below)).frames = .invoking m args :: below := State.frames_setFrames _ (State.cur_lt_of_top htop)
  obtain ⟨g₀, hg0⟩ := Option.isSome_iff_exists.mp htop
  obtain ⟨r, hr⟩ := State.topJava?_eq_some.mp hg0
  have hl9 : e.platform.stackLimits (T.setVm s.vm).me = e.platform.stackLimits s.me := X.limits
  have hb9 : (T.setVm s.vm).me.stackBytes = s.me.stackBytes := X.bytes
  refine ⟨X.admits, X.cas, X.clock, hF, ?_, X.hears, X.method, X.code, X.here, X.tail, X.warmed, ?_, ?_, ?_⟩
  · have h := X.room
    have hU : ((T.setVm s.vm).setFrames (.invoking m args :: below)).localsInUse = s.localsInUse := by
      rw [State.localsInUse_invoking hF (meth := meth) (c := c) X.method X.code, State.localsInUse_invoking X.frames X.method X.code]
    simp only [State.hasRoom, Bool.and_eq_true, decide_eq_true_eq] at h ⊢
    obtain ⟨⟨⟨⟨h1, h2, h3, h4, h5, h6⟩, h7⟩, h8⟩, h9⟩ := h
    rw [X.frames, List.length_cons] at h2 h3
    have q1 := X.heapSize
    have q2 := X.used
    simp only [hF, hU, List.length_cons, State.stackLimits_setFrames, State.stackBytes_setFrames, hl9, hb9]
    refine ⟨⟨⟨⟨by omega, by omega, by omega, by omega, by omega, h6⟩, ?_⟩, ?_⟩, X.book⟩
    · show T.heap.size + R'.cells ≤ e.platform.maxCells
      omega
    · show T.slotsUsed + R'.slots ≤ e.platform.maxSlots
      omega
  · rw [State.stackLimits_setFrames]; rfl
  · rw [State.stackBytes_setFrames]; rfl
  · refine ⟨?_, Nat.le_refl _, Nat.le_refl _, ?_, ?_, fun a c9 h9 => ⟨c9, h9, rfl, rfl, fun _ _ => rfl⟩⟩
    · obtain ⟨t, ht, -⟩ := State.frames_cons hr
      show T.setVm s.vm = { ((T.setVm s.vm).setFrames (.invoking m args :: below)).setFrames (T.setVm s.vm).frames with heap := T.heap, slotsUsed := T.slotsUsed }
      rw [State.setFrames_setFrames, State.setFrames_self ht]
      rfl
    · show T.slotsUsed = T.slotsUsed + ((T.heap.toList.drop T.heap.size).map (·.slots.size)).sum
      rw [List.drop_eq_nil_of_le (Nat.le_of_eq Array.length_toList)]
      rfl
    · show ((T.heap.toList.drop T.heap.size).map (·.slots.size)).sum ≤ 0
      rw [List.drop_eq_nil_of_le (Nat.le_of_eq Array.length_toList)]
      exact Nat.le_refl _
/-- 'throw new E()': new; dup; invokespecial; athrow -/
theorem vx_throw0 {cc : ByteArray} {pc : Nat} (hexec : p.tables.exec = Jvm.exec) (hb : c.code = cc) (hl : l.stackTraces = false) {own cls : String} {names : List String} {ik ic mc ms : Nat} {A : Nat → Prop}
    (hown : s.vm.findClass own = some m.cls) (hcls : Bundle.fit cls = true) (hnames : ∀ n ∈ names, Bundle.fit n = true)
    (hk : (Cond.classLink own ik cls).before args s = true) (hini : (Cond.initialized cls).before args s = true) (hat : ∀ w ∈ vx_at0 own ic cls names, w.before args s = true)
    (hgood : ∀ w ∈ Cond.classLink own ik cls :: Cond.initialized cls :: vx_at0 own ic cls names, vx_ot w = true)
    (hU : vx_Zq Bundle.tN "UNASSIGNED_STACK" Bundle.steD A s s.heap) (hN : vx_Zq Bundle.tN "SUPPRESSED_SENTINEL" Bundle.listD A s s.heap) (hS : va_S A s.heap H locs) (hsize : ls.size = c.maxLocals)
    (d0 : decode cc pc = .ok (.new ik, 3)) (d3 : decode cc (pc + 3) = .ok (.dup, 1)) (d4 : decode cc (pc + 4) = .ok (.invokespecial ic, 3)) (d7 : decode cc (pc + 7) = .ok (.athrow, 1))
    (hout : ∀ x ∈ c.exceptionTable.toList, covers x (pc + 7) = false)
    (hRframes : names.length + 3 < R.frames) (hRlocals : (rest.map fun v => v.category).sum + (13 * (names.length + 1) + 42) ≤ R.locals) (hRcells : cells + 1 ≤ R.cells) (hRslots : slots + 6 ≤ R.slots) (hlocks : meth.locks = false)
    (hx : ∀ t : State, s.vm.Alike t.vm → H.size ≤ t.heap.size → (∀ q : Nat, q < H.size → t.heap[q]? = H[q]?) → XC cls s t)
    (hf : ∀ z ∈ locs, free z.base) (hc : cells + 1 ≤ mc) (hs : slots + 6 ≤ ms) :
    W p l e R s m args below meth c H locs cells slots (vx_MQ below Qc XC args s mc ms free) (F0 m pc ls rest) := by
  intro T hT X
  have htr : e.platform.stackTraces = false := (show e.platform.stackTraces = l.stackTraces by rw [X.admits.platform]).trans hl
  have Y := vx_rebase X (R' := { frames := R.frames, locals := R.locals, cells := 1, slots := 6 }) (Nat.le_refl _) (Nat.le_refl _) hRcells hRslots
  obtain ⟨s', hA⟩ : ∃ z, z = (T.setVm s.vm).setFrames (.invoking m args :: below) := ⟨_, rfl⟩
  rw [← hA] at Y
  have hvm : s'.vm = s.vm := by rw [hA]; rfl
  have hhp : s'.heap = H := by rw [hA]; exact hT
  have hW0 : s.WarmedH s'.vm := by rw [hvm]; exact State.WarmedH.refl s
  have hat' : ∀ w ∈ vx_at0 own ic cls names, w.before args s' = true := fun w hw => vx_ot_at hW0 hvm.symm (hgood w (List.mem_cons_of_mem _ (List.mem_cons_of_mem _ hw))) (hat w hw)
  have hk' : (Cond.classLink own ik cls).before args s' = true := vx_ot_at hW0 hvm.symm (hgood _ List.mem_cons_self) hk
  have hini' : (Cond.initialized cls).before args s' = true := vx_ot_at hW0 hvm.symm (hgood _ (List.mem_cons_of_mem _ List.mem_cons_self)) hini
  have hU' : vx_Zq Bundle.tN "UNASSIGNED_STACK" Bundle.steD A s' s'.heap := by rw [hhp]; exact vx_Zq.moved hW0.alike (hU.kept hS.2.1)
  have hN' : vx_Zq Bundle.tN "SUPPRESSED_SENTINEL" Bundle.listD A s' s'.heap := by rw [hhp]; exact vx_Zq.moved hW0.alike (hN.kept hS.2.1)
  have h : ∀ w ∈ Bundle.ownAtoms0 own ic cls names, w.before args s' = true := vx_own hat' (vx_isRefq hU'.1) (vx_isRefq hN'.1) hU'.2.word hN'.2.word
  have hown' : s'.vm.findClass own = some m.cls := by rw [hvm]; exact hown
  have hins : (Cond.instantiable cls 6).before args s' = true := h _ (by simp [Bundle.ownAtoms0])
  obtain ⟨vm₁, cX, kX, hfX, hkX, -, -, X₁, st1⟩ := Y.newCold hexec (own := own) (C := cls) (index := ik) (n := 6) hown' hk' hins hini'
    (g := F0 m pc ls rest) rfl (by rw [hb]; exact d0) (Nat.le_refl _) (Nat.le_refl _)
  generalize hT1 : (T.setVm vm₁).pushCell { cls := cX, slots := kX.instanceTypes.map defaultValue, vm := .none } = T1 at X₁ st1
  have hcat : (Value.ref T.heap.size).category = 1 := rfl
  have hcellA : T1.heap[T.heap.size]? = some (freshCell cX kX) := by rw [← hT1]; exact State.heap_pushCell_size _ _
  have d3' : decode c.code (pc + 3) = .ok (.dup, 1) := by rw [hb]; exact d3
  obtain ⟨U, hsteps, hrun, hend, hW, hsame, ce, hce, hO⟩ := X₁.ctorThrow0 hexec htr (own := own) (cls := cls) (names := names) (ic := ic) hown' hcls hnames h (fun x hx => nomatch hx) hfX hkX hcellA (by rw [hhp, hT]; exact Nat.le_refl _)
    (g := { method := m, pc := pc + 4, locals := ls, stack := .ref T.heap.size :: .ref T.heap.size :: rest, locked := none }) rfl hsize rfl rfl (rest := rest) rfl
    (by rw [hb]; exact d4) (by rw [hb]; exact d7) hout hRframes (by simp only [List.map_cons, List.sum_cons, hcat]; omega) hlocks
  obtain ⟨f1, f2⟩ := vx_frame hsame
  rw [hhp] at f1 f2
  have hWs : s.WarmedH U.vm := State.WarmedH.trans hW0 hW
  have hcl : s.vm.findClass cls = some ce.cls := by
    have h9 := hO.cls
    rw [hvm] at h9
    exact h9
  have hall : s.sameButNew ({ U with vm := s.vm } : State) locs mc ms := by
    subst hA
    obtain ⟨e1, e2⟩ := hsame
    rw [State.setFrames_setFrames] at e1
    have h2 : (T.setVm s.vm).sameButNew ({ U with vm := s.vm } : State) [] (0 + 1) (0 + 6) := ⟨e1, e2⟩
    have h3 := X.same.trans h2
    rw [List.append_nil] at h3
    exact h3.mono hc hs
  refine ⟨U, ?_, .threw T.heap.size, hrun, hend, Or.inr ⟨T.heap.size, rfl, cls, ce, locs, hx U hWs.alike f1 (fun q hq => f2 q hq (fun z hz => nomatch hz)), hce, hO.vm, hcl, hWs, hall, hf⟩⟩
  refine st1 _ ?_
  show Steps p.tables e below (T1.setTop { method := m, pc := pc + 3, locals := ls, stack := .ref T.heap.size :: rest, locked := none }) _
  jvm_step X₁.here [X₁.here.top, hexec, d3', Value.category]
  exact hsteps
/-- 'throw new E("text")': new; dup; ldc; invokespecial; athrow -/
theorem vx_throwS {cc : ByteArray} {pc : Nat} (hexec : p.tables.exec = Jvm.exec) (hb : c.code = cc) (hl : l.stackTraces = false) {own cls text : String} {names : List String} {ik is ic mc ms sa : Nat} {A : Nat → Prop}
    (hown : s.vm.findClass own = some m.cls) (hcls : Bundle.fit cls = true) (hnames : ∀ n ∈ names, Bundle.fit n = true)
    (hk : (Cond.classLink own ik cls).before args s = true) (hini : (Cond.initialized cls).before args s = true) (hstr : vk_R own is text sa s) (hat : ∀ w ∈ vx_atS own ic cls names, w.before args s = true)
    (hgood : ∀ w ∈ Cond.classLink own ik cls :: Cond.initialized cls :: vx_atS own ic cls names, vx_ot w = true)
    (hU : vx_Zq Bundle.tN "UNASSIGNED_STACK" Bundle.steD A s s.heap) (hN : vx_Zq Bundle.tN "SUPPRESSED_SENTINEL" Bundle.listD A s s.heap) (hS : va_S A s.heap H locs) (hsize : ls.size = c.maxLocals)
    (d0 : decode cc pc = .ok (.new ik, 3)) (d3 : decode cc (pc + 3) = .ok (.dup, 1)) (d4 : decode cc (pc + 4) = .ok (.ldc is, 2)) (d6 : decode cc (pc + 6) = .ok (.invokespecial ic, 3)) (d9 : decode cc (pc + 9) = .ok (.athrow, 1))
    (hout : ∀ x ∈ c.exceptionTable.toList, covers x (pc + 9) = false)
    (hRframes : names.length + 3 < R.frames) (hRlocals : (rest.map fun v => v.category).sum + (13 * (names.length + 1) + 43) ≤ R.locals) (hRcells : cells + 1 ≤ R.cells) (hRslots : slots + 6 ≤ R.slots) (hlocks : meth.locks = false)
    (hx : ∀ t : State, s.vm.Alike t.vm → H.size ≤ t.heap.size → (∀ q : Nat, q < H.size → t.heap[q]? = H[q]?) → XC cls s t)
    (hf : ∀ z ∈ locs, free z.base) (hc : cells + 1 ≤ mc) (hs : slots + 6 ≤ ms) :
    W p l e R s m args below meth c H locs cells slots (vx_MQ below Qc XC args s mc ms free) (F0 m pc ls rest) := by
  intro T hT X
  have htr : e.platform.stackTraces = false := (show e.platform.stackTraces = l.stackTraces by rw [X.admits.platform]).trans hl
  have Y := vx_rebase X (R' := { frames := R.frames, locals := R.locals, cells := 1, slots := 6 }) (Nat.le_refl _) (Nat.le_refl _) hRcells hRslots
  obtain ⟨s', hA⟩ : ∃ z, z = (T.setVm s.vm).setFrames (.invoking m args :: below) := ⟨_, rfl⟩
  rw [← hA] at Y
  have hvm : s'.vm = s.vm := by rw [hA]; rfl
  have hhp : s'.heap = H := by rw [hA]; exact hT
  have hW0 : s.WarmedH s'.vm := by rw [hvm]; exact State.WarmedH.refl s
  have hat' : ∀ w ∈ vx_atS own ic cls names, w.before args s' = true := fun w hw => vx_ot_at hW0 hvm.symm (hgood w (List.mem_cons_of_mem _ (List.mem_cons_of_mem _ hw))) (hat w hw)
  have hk' : (Cond.classLink own ik cls).before args s' = true := vx_ot_at hW0 hvm.symm (hgood _ List.mem_cons_self) hk
  have hini' : (Cond.initialized cls).before args s' = true := vx_ot_at hW0 hvm.symm (hgood _ (List.mem_cons_of_mem _ List.mem_cons_self)) hini
  have hU' : vx_Zq Bundle.tN "UNASSIGNED_STACK" Bundle.steD A s' s'.heap := by rw [hhp]; exact vx_Zq.moved hW0.alike (hU.kept hS.2.1)
  have hN' : vx_Zq Bundle.tN "SUPPRESSED_SENTINEL" Bundle.listD A s' s'.heap := by rw [hhp]; exact vx_Zq.moved hW0.alike (hN.kept hS.2.1)
  have h : ∀ w ∈ Bundle.ownAtoms own ic cls names, w.before args s' = true := vx_own hat' (vx_isRefq hU'.1) (vx_isRefq hN'.1) hU'.2.word hN'.2.word
  have hown' : s'.vm.findClass own = some m.cls := by rw [hvm]; exact hown
  have hins : (Cond.instantiable cls 6).before args s' = true := h _ (by simp [Bundle.ownAtoms])
  obtain ⟨vm₁, cX, kX, hfX, hkX, -, -, X₁, st1⟩ := Y.newCold hexec (own := own) (C := cls) (index := ik) (n := 6) hown' hk' hins hini'
    (g := F0 m pc ls rest) rfl (by rw [hb]; exact d0) (Nat.le_refl _) (Nat.le_refl _)
  generalize hT1 : (T.setVm vm₁).pushCell { cls := cX, slots := kX.instanceTypes.map defaultValue, vm := .none } = T1 at X₁ st1
  have hcat : (Value.ref T.heap.size).category = 1 := rfl
  have hcellA : T1.heap[T.heap.size]? = some (freshCell cX kX) := by rw [← hT1]; exact State.heap_pushCell_size _ _
  have d3' : decode c.code (pc + 3) = .ok (.dup, 1) := by rw [hb]; exact d3
  have d4' : decode c.code (pc + 4) = .ok (.ldc is, 2) := by rw [hb]; exact d4
  have hstr' : vk_R own is text sa s' := vk_R.warm hW0 hstr
  obtain ⟨U, hsteps, hrun, hend, hW, hsame, ce, hce, hO⟩ := X₁.ctorThrowS hexec htr (own := own) (cls := cls) (names := names) (ic := ic) hown' hcls hnames h (fun x hx => nomatch hx) hfX hkX hcellA (by rw [hhp, hT]; exact Nat.le_refl _) (msg := .ref sa) rfl
    (g := { method := m, pc := pc + 6, locals := ls, stack := .ref sa :: .ref T.heap.size :: .ref T.heap.size :: rest, locked := none }) rfl hsize rfl rfl (rest := rest) rfl
    (by rw [hb]; exact d6) (by rw [hb]; exact d9) hout hRframes (by simp only [List.map_cons, List.sum_cons, hcat]; omega) hlocks
  obtain ⟨f1, f2⟩ := vx_frame hsame
  rw [hhp] at f1 f2
  have hWs : s.WarmedH U.vm := State.WarmedH.trans hW0 hW
  have hcl : s.vm.findClass cls = some ce.cls := by
    have h9 := hO.cls
    rw [hvm] at h9
    exact h9
  have hall : s.sameButNew ({ U with vm := s.vm } : State) locs mc ms := by
    subst hA
    obtain ⟨e1, e2⟩ := hsame
    rw [State.setFrames_setFrames] at e1
    have h2 : (T.setVm s.vm).sameButNew ({ U with vm := s.vm } : State) [] (0 + 1) (0 + 6) := ⟨e1, e2⟩
    have h3 := X.same.trans h2
    rw [List.append_nil] at h3
    exact h3.mono hc hs
  refine ⟨U, ?_, .threw T.heap.size, hrun, hend, Or.inr ⟨T.heap.size, rfl, cls, ce, locs, hx U hWs.alike f1 (fun q hq => f2 q hq (fun z hz => nomatch hz)), hce, hO.vm, hcl, hWs, hall, hf⟩⟩
  refine st1 _ ?_
  show Steps p.tables e below (T1.setTop { method := m, pc := pc + 3, locals := ls, stack := .ref T.heap.size :: rest, locked := none }) _
  jvm_step X₁.here [X₁.here.top, hexec, d3', Value.category]
  exact X₁.ldcString hexec (own := own) (text := text) (index := is) (a := sa) hown' hstr'.1 hstr'.2
    (g := { method := m, pc := pc + 4, locals := ls, stack := .ref T.heap.size :: .ref T.heap.size :: rest, locked := none }) rfl d4' _ hsteps
/-- 'throw new E("text")', the text by a wide index -/
theorem vx_throwSW {cc : ByteArray} {pc : Nat} (hexec : p.tables.exec = Jvm.exec) (hb : c.code = cc) (hl : l.stackTraces = false) {own cls text : String} {names : List String} {ik is ic mc ms sa : Nat} {A : Nat → Prop}
    (hown : s.vm.findClass own = some m.cls) (hcls : Bundle.fit cls = true) (hnames : ∀ n ∈ names, Bundle.fit n = true)
    (hk : (Cond.classLink own ik cls).before args s = true) (hini : (Cond.initialized cls).before args s = true) (hstr : vk_R own is text sa s) (hat : ∀ w ∈ vx_atS own ic cls names, w.before args s = true)
    (hgood : ∀ w ∈ Cond.classLink own ik cls :: Cond.initialized cls :: vx_atS own ic cls names, vx_ot w = true)
    (hU : vx_Zq Bundle.tN "UNASSIGNED_STACK" Bundle.steD A s s.heap) (hN : vx_Zq Bundle.tN "SUPPRESSED_SENTINEL" Bundle.listD A s s.heap) (hS : va_S A s.heap H locs) (hsize : ls.size = c.maxLocals)
    (d0 : decode cc pc = .ok (.new ik, 3)) (d3 : decode cc (pc + 3) = .ok (.dup, 1)) (d4 : decode cc (pc + 4) = .ok (.ldc_w is, 3)) (d7 : decode cc (pc + 7) = .ok (.invokespecial ic, 3)) (d10 : decode cc (pc + 10) = .ok (.athrow, 1))
    (hout : ∀ x ∈ c.exceptionTable.toList, covers x (pc + 10) = false)
    (hRframes : names.length + 3 < R.frames) (hRlocals : (rest.map fun v => v.category).sum + (13 * (names.length + 1) + 43) ≤ R.locals) (hRcells : cells + 1 ≤ R.cells) (hRslots : slots + 6 ≤ R.slots) (hlocks : meth.locks = false)
    (hx : ∀ t : State, s.vm.Alike t.vm → H.size ≤ t.heap.size → (∀ q : Nat, q < H.size → t.heap[q]? = H[q]?) → XC cls s t)
    (hf : ∀ z ∈ locs, free z.base) (hc : cells + 1 ≤ mc) (hs : slots + 6 ≤ ms) :
    W p l e R s m args below meth c H locs cells slots (vx_MQ below Qc XC args s mc ms free) (F0 m pc ls rest) := by
  intro T hT X
  have htr : e.platform.stackTraces = false := (show e.platform.stackTraces = l.stackTraces by rw [X.admits.platform]).trans hl
  have Y := vx_rebase X (R' := { frames := R.frames, locals := R.locals, cells := 1, slots := 6 }) (Nat.le_refl _) (Nat.le_refl _) hRcells hRslots
  obtain ⟨s', hA⟩ : ∃ z, z = (T.setVm s.vm).setFrames (.invoking m args :: below) := ⟨_, rfl⟩
  rw [← hA] at Y
  have hvm : s'.vm = s.vm := by rw [hA]; rfl
  have hhp : s'.heap = H := by rw [hA]; exact hT
  have hW0 : s.WarmedH s'.vm := by rw [hvm]; exact State.WarmedH.refl s
  have hat' : ∀ w ∈ vx_atS own ic cls names, w.before args s' = true := fun w hw => vx_ot_at hW0 hvm.symm (hgood w (List.mem_cons_of_mem _ (List.mem_cons_of_mem _ hw))) (hat w hw)
  have hk' : (Cond.classLink own ik cls).before args s' = true := vx_ot_at hW0 hvm.symm (hgood _ List.mem_cons_self) hk
  have hini' : (Cond.initialized cls).before args s' = true := vx_ot_at hW0 hvm.symm (hgood _ (List.mem_cons_of_mem _ List.mem_cons_self)) hini
  have hU' : vx_Zq Bundle.tN "UNASSIGNED_STACK" Bundle.steD A s' s'.heap := by rw [hhp]; exact vx_Zq.moved hW0.alike (hU.kept hS.2.1)
  have hN' : vx_Zq Bundle.tN "SUPPRESSED_SENTINEL" Bundle.listD A s' s'.heap := by rw [hhp]; exact vx_Zq.moved hW0.alike (hN.kept hS.2.1)
  have h : ∀ w ∈ Bundle.ownAtoms own ic cls names, w.before args s' = true := vx_own hat' (vx_isRefq hU'.1) (vx_isRefq hN'.1) hU'.2.word hN'.2.word
  have hown' : s'.vm.findClass own = some m.cls := by rw [hvm]; exact hown
  have hins : (Cond.instantiable cls 6).before args s' = true := h _ (by simp [Bundle.ownAtoms])
  obtain ⟨vm₁, cX, kX, hfX, hkX, -, -, X₁, st1⟩ := Y.newCold hexec (own := own) (C := cls) (index := ik) (n := 6) hown' hk' hins hini'
    (g := F0 m pc ls rest) rfl (by rw [hb]; exact d0) (Nat.le_refl _) (Nat.le_refl _)
  generalize hT1 : (T.setVm vm₁).pushCell { cls := cX, slots := kX.instanceTypes.map defaultValue, vm := .none } = T1 at X₁ st1
  have hcat : (Value.ref T.heap.size).category = 1 := rfl
  have hcellA : T1.heap[T.heap.size]? = some (freshCell cX kX) := by rw [← hT1]; exact State.heap_pushCell_size _ _
  have d3' : decode c.code (pc + 3) = .ok (.dup, 1) := by rw [hb]; exact d3
  have d4' : decode c.code (pc + 4) = .ok (.ldc_w is, 3) := by rw [hb]; exact d4
  have hstr' : vk_R own is text sa s' := vk_R.warm hW0 hstr
  obtain ⟨U, hsteps, hrun, hend, hW, hsame, ce, hce, hO⟩ := X₁.ctorThrowS hexec htr (own := own) (cls := cls) (names := names) (ic := ic) hown' hcls hnames h (fun x hx => nomatch hx) hfX hkX hcellA (by rw [hhp, hT]; exact Nat.le_refl _) (msg := .ref sa) rfl
    (g := { method := m, pc := pc + 7, locals := ls, stack := .ref sa :: .ref T.heap.size :: .ref T.heap.size :: rest, locked := none }) rfl hsize rfl rfl (rest := rest) rfl
    (by rw [hb]; exact d7) (by rw [hb]; exact d10) hout hRframes (by simp only [List.map_cons, List.sum_cons, hcat]; omega) hlocks
  obtain ⟨f1, f2⟩ := vx_frame hsame
  rw [hhp] at f1 f2
  have hWs : s.WarmedH U.vm := State.WarmedH.trans hW0 hW
  have hcl : s.vm.findClass cls = some ce.cls := by
    have h9 := hO.cls
    rw [hvm] at h9
    exact h9
  have hall : s.sameButNew ({ U with vm := s.vm } : State) locs mc ms := by
    subst hA
    obtain ⟨e1, e2⟩ := hsame
    rw [State.setFrames_setFrames] at e1
    have h2 : (T.setVm s.vm).sameButNew ({ U with vm := s.vm } : State) [] (0 + 1) (0 + 6) := ⟨e1, e2⟩
    have h3 := X.same.trans h2
    rw [List.append_nil] at h3
    exact h3.mono hc hs
  refine ⟨U, ?_, .threw T.heap.size, hrun, hend, Or.inr ⟨T.heap.size, rfl, cls, ce, locs, hx U hWs.alike f1 (fun q hq => f2 q hq (fun z hz => nomatch hz)), hce, hO.vm, hcl, hWs, hall, hf⟩⟩
  refine st1 _ ?_
  show Steps p.tables e below (T1.setTop { method := m, pc := pc + 3, locals := ls, stack := .ref T.heap.size :: rest, locked := none }) _
  jvm_step X₁.here [X₁.here.top, hexec, d3', Value.category]
  exact X₁.ldcStringW hexec (own := own) (text := text) (index := is) (a := sa) hown' hstr'.1 hstr'.2
    (g := { method := m, pc := pc + 4, locals := ls, stack := .ref T.heap.size :: .ref T.heap.size :: rest, locked := none }) rfl d4' _ hsteps
end Ends
section Bodies
variable {l : Launch}
theorem vx_ofW {y : MethodName} {ws ws' : List Cond} {rm : Room} {Pc : Array Value → State → Prop} {Qc : Array Value → State → Outcome → State → Prop} {XC : String → State → State → Prop} {mc ms : Nat} {free : Addr → Prop} {cc : ByteArray} {maxL : Nat} {ret : Option FieldType}
    (hy : plainName y.cls = true) (hw : ws = Cond.code y cc maxL ret :: ws')
    (body : ∀ p e s m args below meth c s₁, BodyLoose p l y (headSpec ws rm) cc maxL ret e s m args below meth c s₁ → c.maxLocals = maxL → (∀ x ∈ c.exceptionTable.toList, False) → Pc args s →
      W p l e (headSpec ws rm).room s m args below meth c s.heap [] 0 0 (vx_MQ below Qc XC args s mc ms free) (entryFrame m args maxL)) : vx_Met l y ws rm Pc Qc XC mc ms free := by
  refine MetFree.of_bodyS (code := cc) (maxLocals := maxL) (ret := ret) hy ?_ ?_
  · intro args s m h hn
    obtain ⟨meth, c, h1, h2, h3, h4, h5, h6, -, -⟩ := Cond.code_spec hn (atoms_spec (ws := ws) h _ (by rw [hw]; exact List.mem_cons_self))
    exact ⟨meth, c, h1, h2, h3, h4, h5, h6⟩
  · intro p e s m args below meth c s₁ B hml hP _
    have hh0 : s₁.heap = s.heap := by rw [B.state]; rfl
    have ht : ∀ x ∈ c.exceptionTable.toList, False := by
      obtain ⟨meth9, c9, h1, h2, -, -, -, -, h7, -⟩ := Cond.code_spec B.named (atoms_spec (ws := ws) B.pre _ (by rw [hw]; exact List.mem_cons_self))
      cases Option.some.inj (h1.symm.trans B.method)
      cases Option.some.inj (h2.symm.trans (Stand.of_body B).code)
      intro x hx
      rw [Array.isEmpty_iff.mp h7] at hx
      cases hx
    obtain ⟨t, a1, o, b1, b2, b3⟩ := body p e s m args below meth c s₁ B hml ht hP s₁ hh0 (Stand.of_body B)
    exact ⟨t, o, a1, b1, b2, b3⟩
/-- the table of a body with handlers -/
theorem vx_table {p : Program} {x y : MethodName} {S : Spec} {cc bytes : ByteArray} {maxL maxL' : Nat} {ret ret' : Option FieldType} {e : Env} {s s₁ : State} {m : MethodId} {args : Array Value} {below : List Frame} {meth : Method} {c : Code} {hh : List (Nat × Nat × Nat × Nat)}
    (B : BodyLoose p l y S cc maxL ret e s m args below meth c s₁) (h : (Cond.codeWith y bytes maxL' ret' hh).before args s = true) : c.exceptionTable.toList = tableOf hh := by
  obtain ⟨m9, meth9, c9, hn9, h1, h2, -, -, h6, -⟩ := Cond.codeWith_spec h
  cases Option.some.inj (hn9.symm.trans B.named)
  cases Option.some.inj (h1.symm.trans B.method)
  cases Option.some.inj (h2.symm.trans (Stand.of_body B).code)
  rw [← h6, table_eq]
end Bodies
end VXA
/-! ===== END ===== -/
/-! ===== BEGIN a static call of a method with an exception table ===== -/
section VXS
variable {p : Program} {l : Launch} {e : Env} {R : Room} {s : State} {m : MethodId} {args : Array Value} {below : List Frame} {meth : Method} {c : Code} {T : State} {H : Heap} {locs : List Loc} {cells slots : Nat}
abbrev vx_CSW (R : Room) (s : State) (args : Array Value) (own : String) (index : Nat) (y : MethodName) (bytes : ByteArray) (maxL : Nat) (ret : Option FieldType) (hh : List (Nat × Nat × Nat × Nat)) (ws : List Cond) (rm : Room) (mc ms n : Nat) : Prop :=
  (rm.cells = mc ∧ rm.slots = ms ∧ rm.frames + 1 ≤ R.frames ∧ 8 + (maxL + 11) + rm.locals ≤ R.locals ∧ (∀ w ∈ ws, ∀ (a' : Array Value) (U : State), s.WarmedH U.vm → w.before a' U = true) ∧ Cond.codeWith y bytes maxL ret hh ∈ ws) ∧
  (Cond.codeWith y bytes maxL ret hh).before args s = true ∧ (Cond.initialized y.cls).before args s = true ∧ (y.cls ≠ "java/lang/invoke/MethodHandle" ∧ y.cls ≠ "java/lang/invoke/VarHandle") ∧
  (∀ sig, parseMethodDescriptor y.desc = some sig → n = sig.parameters.length) ∧ (Cond.methodLink own index y).before args s = true ∧ (Cond.static y).before args s = true
theorem vx_cwSW {own : String} {index maxL mc ms : Nat} {y : MethodName} {bytes : ByteArray} {ret : Option FieldType} {hh : List (Nat × Nat × Nat × Nat)} {Ts ws ws' : List Cond} {rm : Room} (n : Nat) (ht : ∀ w ∈ Ts, w.before args s = true) (hT : GoodIn Ts (va_wsS own index y ws)) (hw : ws = Cond.codeWith y bytes maxL ret hh :: ws') (hrc : rm.cells = mc) (hrs : rm.slots = ms)
    (hd : y.cls ≠ "java/lang/invoke/MethodHandle" ∧ y.cls ≠ "java/lang/invoke/VarHandle" ∧ (parseMethodDescriptor y.desc).map (fun d => d.parameters.length) = some n) (hR : rm.frames + 1 ≤ R.frames ∧ 8 + (maxL + 11) + rm.locals ≤ R.locals) :
    vx_CSW R s args own index y bytes maxL ret hh ws rm mc ms n := by
  have ok : ∀ w ∈ va_wsS own index y ws, w.before args s = true := fun w h => ht w (hT w h).1
  have hG : GoodIn Ts ws := fun w h => hT w (by unfold va_wsS; exact List.mem_append_right _ h)
  have hc : Cond.codeWith y bytes maxL ret hh ∈ ws := by rw [hw]; exact List.mem_cons_self
  refine ⟨⟨hrc, hrs, hR.1, hR.2, pay_in ht hG, hc⟩, ht _ (hG _ hc).1, ok _ (by simp [va_wsS]), ⟨hd.1, hd.2.1⟩, fun sig h => ?_, ok _ (by simp [va_wsS]), ok _ (by simp [va_wsS])⟩
  have h2 := hd.2.2
  rw [h] at h2
  exact (Option.some.inj h2).symm
theorem vx_callSW (X : Stand p l e R s m args below meth c T locs cells slots) (hexec : p.tables.exec = Jvm.exec) {own : String} {index : Nat} {y : MethodName} {bytes : ByteArray} {maxL : Nat} {ret : Option FieldType} {hh : List (Nat × Nat × Nat × Nat)}
    (hown : s.vm.findClass own = some m.cls) (hlink : (Cond.methodLink own index y).before args s = true) (hstat : (Cond.static y).before args s = true) (hinit : (Cond.initialized y.cls).before args s = true)
    (hcode : (Cond.codeWith y bytes maxL ret hh).before args s = true) (hy : y.cls ≠ "java/lang/invoke/MethodHandle" ∧ y.cls ≠ "java/lang/invoke/VarHandle")
    {W9 : Nat} {Pre : Pt → Array Value → Prop} {Post : Pt → Array Value → Option Value → Pt → Prop} (hK : Back l R p e below s args y 3 W9 Pre Post)
    {g : JFrame} (hg : g.method = m) (hsize : g.locals.size = c.maxLocals) {argsL rest : List Value} (hlen : ∀ sig, parseMethodDescriptor y.desc = some sig → argsL.length = sig.parameters.length)
    (hstack : g.stack = argsL.reverse ++ rest) (hW : 2 * g.monitorRoom + (rest.map fun v => v.category).sum ≤ W9) (hdg : decode c.code g.pc = .ok (.invokestatic index, 3))
    (hpre : ∀ vm₁, s.WarmedH vm₁ → Pre ⟨T.setVm vm₁, locs, cells, slots⟩ argsL.toArray) :
    ∃ (v : Option Value) (vm₁ : Vm) (B : Pt), s.WarmedH vm₁ ∧ Stand p l e R s m args below meth c B.U B.locs B.cells B.slots ∧ Post ⟨T.setVm vm₁, locs, cells, slots⟩ argsL.toArray v B ∧
      ∀ target, Steps p.tables e below (B.U.setTop { g with pc := g.pc + 3, stack := v.toList ++ rest }) target → Steps p.tables e below (T.setTop g) target := by
  obtain ⟨mk, methM, cM, hnamed, hmethM, -, -, -, -, -, -, hsigM⟩ := Cond.codeWith_spec hcode
  have hstatic : methM.isStatic = true := Cond.static_spec hnamed hmethM hstat
  obtain ⟨kP, hkP, -⟩ := className_of_methodNamed hnamed
  have hinitP : kP.init = .initialized := Cond.initialized_spec (findClass_of_methodNamed hnamed) hkP hinit
  obtain ⟨vm₁, X₁, hstep₁⟩ := X.invokestatic hexec hown hlink hnamed hmethM hstatic hkP hinitP hy (g := g) hg (argsL := argsL) (rest := rest) (hlen _ hsigM) hstack hdg
  obtain ⟨v, B, X', hpost, hsteps⟩ := hK m meth c ⟨T.setVm vm₁, locs, cells, slots⟩ { g with stack := rest } (.invokestatic index) mk argsL.toArray X₁ hg hsize hdg hW (X₁.named hnamed) (hpre vm₁ X₁.warmed)
  exact ⟨v, vm₁, B, X₁.warmed, X', hpost, fun target h => hstep₁ _ fun acts => by rw [doInvoke_state]; exact hsteps.trans h⟩
theorem vx_runSW {y : MethodName} {bytes cc : ByteArray} {maxL nL mc ms n index : Nat} {ret : Option FieldType} {hh : List (Nat × Nat × Nat × Nat)} {ws : List Cond} {rm : Room} {Pc : Array Value → State → Prop} {Qc : Array Value → State → Outcome → State → Prop} {free : Addr → Prop} {Ts : List Cond} {own : String} {As rest : List Value} {g : JFrame}
    (S : CallFix p m c cc nL s args Ts own) (hM : Met l y ws rm Pc Qc mc ms free) (cw : vx_CSW R s args own index y bytes maxL ret hh ws rm mc ms n) (hp : PreS s H Pc As)
    (hg : g.method = m) (hn : As.length = n) (hsize : g.locals.size = nL) (hstack : g.stack = As.reverse ++ rest) (hW : 2 * g.monitorRoom + (rest.map fun v => v.category).sum ≤ 8) (hdg : decode cc g.pc = .ok (.invokestatic index, 3)) (hf : cells + mc ≤ R.cells ∧ slots + ms ≤ R.slots) :
    va_Run p l e R s m args below meth c H locs cells slots mc ms g rest (Qc As.toArray) (free) := by
  obtain ⟨⟨hrc, hrs, hfr, hlo, hws, hcw⟩, hcode, hini, hy, hlen, hl, hstt⟩ := cw
  have hK : Back l R p e below s args y 3 8 (PreOf R mc ms Pc) (PostOf Qc mc ms free) := va_backW (hh := hh) (bytes := bytes) (maxL := maxL) (ret := ret) hM hp.1 hrc hrs hfr hlo hws hcw (fun a' U hW => word_at hW (Or.inl (by first | rfl | simp [Cond.onTables, Cond.keeps, Cond.steady])) hini)
  obtain ⟨hx, hb, hml, ho, -⟩ := S
  intro T hT X
  obtain ⟨v, vm₁, ⟨U', l2, c2, s2⟩, hW₁, X', ⟨g', mk, t, L, e1, e2, hq, h1, hL, h2, h3⟩, st⟩ := vx_callSW X hx (hh := hh) (bytes := bytes) (maxL := maxL) (ret := ret) ho hl hstt hini hcode hy hK hg (hsize.trans hml.symm) (argsL := As) (rest := rest) (fun sig h => hn.trans (hlen sig h)) hstack hW (by rw [hb]; exact hdg)
    (fun vm₁ hW₁ => ⟨hf.1, hf.2, hp.2 (T.setVm vm₁) hT hW₁⟩)
  dsimp only [Pt.U, Pt.locs, Pt.cells, Pt.slots] at X' e1 e2 h1 h2 h3 st
  subst h1; subst h2; subst h3
  exact ⟨v, (T.setVm vm₁).calling g' mk As.toArray, t, U', L, hT, X', hL, e1, e2, hq, st⟩
/-- not caught here, past rows that name other classes: it goes on to the caller -/
theorem vx_outP {p : Program} {l : Launch} {e : Env} {R : Room} {s : State} {m : MethodId} {args : Array Value} {below : List Frame} {meth : Method} {c : Code} {H : Heap} {locs : List Loc} {cells slots : Nat} {free : Addr → Prop} {ls : Array Slot} {rest : List Value} {Qc : Array Value → State → Outcome → State → Prop} {XC : String → State → State → Prop}
    {pc : Nat} {own E : String} {ce : Cell} {q : Addr} {mc ms : Nat} (hown : s.vm.findClass own = some m.cls) (hlocks : meth.locks = false)
    (hpass : ∀ z ∈ c.exceptionTable.toList, covers z pc = false ∨ (z.catchType ≠ 0 ∧ ∃ nm : String, (Cond.classLink own z.catchType nm).before args s = true ∧ va_Nc E nm s)) (hcell : H[q]? = some ce) (hv : ce.vm = .none) (hcl : s.vm.findClass E = some ce.cls)
    (hx : ∀ t : State, t.heap = H → s.vm.Alike t.vm → XC E s t) (hf : ∀ z ∈ locs, free z.base) (hc : cells ≤ mc) (hs : slots ≤ ms) :
    vx_W p l e R s m args below meth c H locs cells slots (vx_MQ below Qc XC args s mc ms free) (F0 m pc ls rest) q := by
  intro T hT X
  have hpl : e.platform.magicAccessors = ({} : Platform).magicAccessors := by rw [X.admits.platform]
  obtain ⟨vm', hW', X', st⟩ := X.outThrough hlocks q (g := F0 m pc ls rest) rfl rfl rfl (cell := ce) (by rw [hT]; exact hcell) (by rw [hv]; rfl)
    (by obtain ⟨k9, h9, -⟩ := Vm.findClass_spec hcl; exact ⟨k9, h9⟩) (fun z hz => by
      rcases hpass z hz with h | ⟨hz0, nm, hl1, hn1⟩
      · exact Or.inl h
      · obtain ⟨c6, hc6, hcl6⟩ := Cond.classLink_spec hown hl1 e.platform hpl
        obtain ⟨a8, b8, h1, h2, h3⟩ := hn1
        cases Option.some.inj (h1.symm.trans hcl)
        cases Option.some.inj (h2.symm.trans hc6)
        exact Or.inr ⟨hz0, _, hcl6, h3⟩)
  obtain ⟨g₀, hfr⟩ := X'.frames_eq
  have hcell9 : ((T.setVm vm').setFrames (.throwing q :: below)).heap[q]? = some ce := by
    show T.heap[q]? = some ce
    rw [hT]; exact hcell
  have hend : Ended ((T.setVm vm').setFrames (.throwing q :: below)) below (.threw q) := State.frames_setFrames _ (State.cur_lt_of_frames hfr)
  refine ⟨(T.setVm vm').setFrames (.throwing q :: below), ?_, .threw q, X'.here.running, hend, Or.inr ⟨q, rfl, E, ce, locs, hx _ hT (X'.ends _).1.alike, hcell9, hv, hcl, (X'.ends _).1, (X'.ends _).2.mono hc hs, hf⟩⟩
  rw [X.pushThrowing_eq]
  exact st
/-- a thing of a world lies in the heap -/
theorem vx_lt {D : va_G} {cl : List vw_C} {ws : va_W} {H1 : Heap} (h : va_P D cl ws H1) {k : Nat} {q : Nat × va_E} (hk : ws[k]? = some q) : q.1 < H1.size := (h k q hk).lt
end VXS
/-! ===== END ===== -/
/-! ===== BEGIN methods with a table of their own: called by a name, returning or throwing ===== -/
section VXH
/-! vx_backW, vx_callVX, vx_callSX, vx_callVW, vx_runVW, vx_runVX, vx_runSX, vx_ofWH follow the same proofs as their sisters above (Free/Laws.lean, Shelf42/LK1.lean); vx_outP calls Shelf42/NT130.lean (outThrough). -/
section
variable {l : Launch} {R : Room} {p : Program} {e : Env} {below : List Frame} {s : State} {sargs : Array Value} {y : MethodName} {len W9 : Nat}
theorem vx_backW {ws : List Cond} {rm : Room} {Pc : Array Value → State → Prop} {Qc : Array Value → State → Outcome → State → Prop} {XC : String → State → State → Prop} {mc ms : Nat} {free : Addr → Prop} {bytes : ByteArray} {maxL : Nat} {ret : Option FieldType} {hh : List (Nat × Nat × Nat × Nat)}
    (hM : vx_Met l y ws rm Pc Qc XC mc ms free) (hblind : FrameBlind Pc) (hrc : rm.cells = mc) (hrs : rm.slots = ms)
    (hframes : rm.frames + 1 ≤ R.frames) (hlocals : W9 + (maxL + 11) + rm.locals ≤ R.locals)
    (hws : ∀ w ∈ ws, ∀ a' U, s.WarmedH U.vm → w.before a' U = true) (hcode : Cond.codeWith y bytes maxL ret hh ∈ ws) (hinit : ∀ a' U, s.WarmedH U.vm → (Cond.initialized y.cls).before a' U = true) :
    vx_Back l R p e below s sargs y len W9 (PreOf R mc ms Pc) (PostOf Qc mc ms free) (vx_Post XC mc ms free) := by
  intro m meth c A g ig mk a X hg hsize hdg hW hn hp
  have h1 : (headSpec ws rm).pre.before a A.U = true := atoms_intro fun w hw => hws w hw _ _ X.warmed
  have h2 : (Cond.codeWith y bytes maxL ret hh).before a A.U = true := hws _ hcode _ _ X.warmed
  have h3 : (Cond.initialized y.cls).before a A.U = true := hinit _ _ X.warmed
  have h4 : A.cells + (headSpec ws rm).room.cells ≤ R.cells := by rw [show (headSpec ws rm).room.cells = mc from hrc]; exact hp.1
  have h5 : A.slots + (headSpec ws rm).room.slots ≤ R.slots := by rw [show (headSpec ws rm).room.slots = ms from hrs]; exact hp.2.1
  have hPc : Pc a (A.U.calling g mk a) := hblind _ _ _ _ hp.2.2
  obtain ⟨U, Ls, c0, s0⟩ := A
  dsimp only [Pt.U, Pt.locs, Pt.cells, Pt.slots] at h1 h2 h3 h4 h5 X hn hPc ⊢
  obtain ⟨m9, methY, cY, hn9, hmY, hcY, -, hlY, -⟩ := Cond.codeWith_spec h2
  cases Option.some.inj (hn9.symm.trans hn)
  obtain ⟨kY, hkY, -⟩ := className_of_methodNamed hn
  have hinitY : kY.init = .initialized := Cond.initialized_spec (findClass_of_methodNamed hn) hkY h3
  have h : At U g.method c below := by rw [hg]; exact X.here
  have hlocals9 : W9 + (maxL + 11) + (headSpec ws rm).room.locals ≤ R.locals := hlocals
  have happ : (headSpec ws rm).appliesLoose y e.platform (U.calling g mk a) = true :=
    Spec.appliesLoose_calling (g := g) h hdg hn hkY hinitY
      (X.room_calling (g := g) (R' := (headSpec ws rm).room) hsize hmY hcY hframes (by rw [hlY]; omega) h4 h5) h1
  obtain ⟨mid, hmid⟩ := h.above
  have hfr : (U.setTop g).frames = (.java g :: mid) ++ below := by rw [State.frames_setTop' g h.top, hmid]; rfl
  obtain ⟨o, s₂, hsteps, -, hend, hq⟩ := Steps.callFree hM p X.admits X.cas X.clock (acts := []) hfr happ hPc trivial
  have hq' : vx_Q Qc XC mc ms free a (U.calling g mk a) o s₂ := hq
  rw [State.frames_setTop' g h.top] at hend
  obtain ⟨g₀, hg0⟩ := Option.isSome_iff_exists.mp h.top
  obtain ⟨r, hr⟩ := State.topJava?_eq_some.mp hg0
  have hr' : (({ U with heap := s₂.heap, slotsUsed := s₂.slotsUsed } : State).setVm s₂.vm).frames = .java g₀ :: r := hr
  rcases hq' with ⟨hqc, L, hfe, hL⟩ | ⟨q, rfl, E, ce, L, hx, hce, hcv, hcl, hW₂, hsm, hL⟩
  · obtain ⟨⟨v, rfl⟩, hW₂, e2, q2, q3, q4, q5, q6⟩ := id hfe
    have e3 : s₂ = ({ (U.calling g mk a).setFrames s₂.frames with heap := s₂.heap, slotsUsed := s₂.slotsUsed } : State).setVm s₂.vm := by
      have : s₂ = ({ s₂ with vm := (U.calling g mk a).vm } : State).setVm s₂.vm := rfl
      rw [e2] at this
      exact this
    obtain ⟨c₂, i₂, len₂, hc₂, hd₂, hf₂⟩ := hend
    have hW' : U.WarmedH s₂.vm := hW₂
    have hcc : c₂ = c := by
      have h1 : s₂.code? g.method = U.code? g.method := by
        rw [State.code?_eq, State.code?_eq, hW'.alike.method?]
      exact Option.some.inj (hc₂.symm.trans (h1.trans h.code))
    subst hcc
    have hlen : len₂ = len := by rw [hdg] at hd₂; cases hd₂; rfl
    subst hlen
    have hs₂ : s₂ = (({ U with heap := s₂.heap, slotsUsed := s₂.slotsUsed } : State).setVm s₂.vm).setTop { g with pc := g.pc + len₂, stack := v.toList ++ g.stack } := by
      refine e3.trans ?_
      rw [hf₂, State.calling_eq h.top, State.setFrames_setFrames, State.setTop_of_frames _ hr', hr]
      rfl
    have hsame : U.sameButNew ({ U with heap := s₂.heap, slotsUsed := s₂.slotsUsed } : State) L mc ms := by
      refine ⟨?_, q2, q3, q4, q5, q6⟩
      obtain ⟨t, ht, -⟩ := State.frames_cons hr
      show ({ U with heap := s₂.heap, slotsUsed := s₂.slotsUsed } : State) = { U.setFrames U.frames with heap := s₂.heap, slotsUsed := s₂.slotsUsed }
      rw [State.setFrames_self ht]
    subst hg
    refine Or.inl ⟨v, ⟨(({ U with heap := s₂.heap, slotsUsed := s₂.slotsUsed } : State).setVm s₂.vm), Ls ++ L, c0 + mc, s0 + ms⟩,
      ⟨X.admits, X.cas, X.clock, X.frames, X.room, X.hears, X.method, X.code, (X.here.setHeapUsed s₂.heap s₂.slotsUsed).setVm hW'.alike, X.tail, State.WarmedH.trans X.warmed hW', X.limits, X.bytes, X.same.trans (hsame.setVm s.vm)⟩,
      ⟨g, mk, s₂, L, rfl, rfl, hqc, rfl, hL, rfl, rfl⟩, ?_⟩
    show Steps p.tables e below _ ((({ U with heap := s₂.heap, slotsUsed := s₂.slotsUsed } : State).setVm s₂.vm).setTop { g with pc := g.pc + len₂, stack := v.toList ++ g.stack })
    rw [← hs₂]
    exact hsteps
  · obtain ⟨e2, q2, q3, q4, q5, q6⟩ := id hsm
    have e3 : s₂ = ({ (U.calling g mk a).setFrames s₂.frames with heap := s₂.heap, slotsUsed := s₂.slotsUsed } : State).setVm s₂.vm := by
      have : s₂ = ({ s₂ with vm := (U.calling g mk a).vm } : State).setVm s₂.vm := rfl
      rw [e2] at this
      exact this
    have hf₂ : s₂.frames = .throwing q :: .java g :: U.frames.tail := hend
    have hW' : U.WarmedH s₂.vm := hW₂
    have hs₂ : s₂ = ((({ U with heap := s₂.heap, slotsUsed := s₂.slotsUsed } : State).setVm s₂.vm).setTop g).pushFrame (.throwing q) := by
      refine e3.trans ?_
      rw [hf₂, State.calling_eq h.top, State.setFrames_setFrames, State.pushFrame, State.frames_setTop _ hr', State.setTop_of_frames _ hr', State.setFrames_setFrames, hr]
      rfl
    have hsame : U.sameButNew ({ U with heap := s₂.heap, slotsUsed := s₂.slotsUsed } : State) L mc ms := by
      refine ⟨?_, q2, q3, q4, q5, q6⟩
      obtain ⟨t, ht, -⟩ := State.frames_cons hr
      show ({ U with heap := s₂.heap, slotsUsed := s₂.slotsUsed } : State) = { U.setFrames U.frames with heap := s₂.heap, slotsUsed := s₂.slotsUsed }
      rw [State.setFrames_self ht]
    subst hg
    refine Or.inr ⟨q, ⟨(({ U with heap := s₂.heap, slotsUsed := s₂.slotsUsed } : State).setVm s₂.vm), Ls ++ L, c0 + mc, s0 + ms⟩,
      ⟨X.admits, X.cas, X.clock, X.frames, X.room, X.hears, X.method, X.code, (X.here.setHeapUsed s₂.heap s₂.slotsUsed).setVm hW'.alike, X.tail, State.WarmedH.trans X.warmed hW', X.limits, X.bytes, X.same.trans (hsame.setVm s.vm)⟩,
      ⟨g, mk, s₂, L, E, ce, rfl, rfl, hx, hce, hcv, hcl, rfl, hL, rfl, rfl⟩, ?_⟩
    show Steps p.tables e below _ (((({ U with heap := s₂.heap, slotsUsed := s₂.slotsUsed } : State).setVm s₂.vm).setTop g).pushFrame (.throwing q))
    rw [← hs₂]
    exact hsteps
end
variable {p : Program} {l : Launch} {e : Env} {R : Room} {s : State} {m : MethodId} {args : Array Value} {below : List Frame} {meth : Method} {c : Code} {T : State} {H : Heap} {locs : List Loc} {cells slots : Nat}
theorem vx_callVX (X : Stand p l e R s m args below meth c T locs cells slots) (hexec : p.tables.exec = Jvm.exec) {own C : String} {index : Nat} {y : MethodName} {bytes : ByteArray} {maxL : Nat} {ret : Option FieldType} {hh : List (Nat × Nat × Nat × Nat)}
    (hown : s.vm.findClass own = some m.cls) (hlink : (Cond.methodLink own index y).before args s = true) (hinst : (Cond.instanceMethod y).before args s = true) (hsel : (Cond.selects C y y).before args s = true)
    (hcode : (Cond.codeWith y bytes maxL ret hh).before args s = true) (hy : y.cls ≠ "java/lang/invoke/MethodHandle" ∧ y.cls ≠ "java/lang/invoke/VarHandle")
    {W9 : Nat} {Pre : Pt → Array Value → Prop} {Post : Pt → Array Value → Option Value → Pt → Prop} {PostX : Pt → Array Value → Addr → Pt → Prop} (hK : vx_Back l R p e below s args y 3 W9 Pre Post PostX)
    {b : Addr} {cellB : Cell} (hcell : T.heap[b]? = some cellB) (hobj : cellB.vm.isStatics = false) (hcls : s.vm.findClass C = some cellB.cls)
    {g : JFrame} (hg : g.method = m) (hsize : g.locals.size = c.maxLocals) {argsL rest : List Value} (hlen : ∀ sig, parseMethodDescriptor y.desc = some sig → argsL.length = sig.parameters.length)
    (hstack : g.stack = argsL.reverse ++ .ref b :: rest) (hW : 2 * g.monitorRoom + (rest.map fun v => v.category).sum ≤ W9) (hdg : decode c.code g.pc = .ok (.invokevirtual index, 3))
    (hpre : ∀ vm₁, s.WarmedH vm₁ → Pre ⟨T.setVm vm₁, locs, cells, slots⟩ (Value.ref b :: argsL).toArray) :
    (∃ (v : Option Value) (vm₁ : Vm) (B : Pt), s.WarmedH vm₁ ∧ Stand p l e R s m args below meth c B.U B.locs B.cells B.slots ∧ Post ⟨T.setVm vm₁, locs, cells, slots⟩ (Value.ref b :: argsL).toArray v B ∧
      ∀ target, Steps p.tables e below (B.U.setTop { g with pc := g.pc + 3, stack := v.toList ++ rest }) target → Steps p.tables e below (T.setTop g) target) ∨
    (∃ (q : Addr) (vm₁ : Vm) (B : Pt), s.WarmedH vm₁ ∧ Stand p l e R s m args below meth c B.U B.locs B.cells B.slots ∧ PostX ⟨T.setVm vm₁, locs, cells, slots⟩ (Value.ref b :: argsL).toArray q B ∧
      Steps p.tables e below (T.setTop g) ((B.U.setTop { g with stack := rest }).pushFrame (.throwing q))) := by
  obtain ⟨mk, methM, hnamed, hmethM, hstM, habM⟩ := Cond.instanceMethod_spec hinst
  obtain ⟨m8, methM', cM, hn8, hmethM', -, -, -, -, -, -, hsigM⟩ := Cond.codeWith_spec hcode
  cases Option.some.inj (hn8.symm.trans hnamed)
  cases hmethM.symm.trans hmethM'
  obtain ⟨c2, r2, m2, q1, q2, q3, q4, kP, hkP, hkPi⟩ := Cond.selects_spec hsel
  cases hcls.symm.trans q1
  cases (State.methodFound?_of_named hnamed hy).symm.trans q2
  cases hnamed.symm.trans q3
  have hselP : selectMethod e.platform s.vm cellB.cls mk = .method mk := by rw [Launch.admits_selectMethod X.admits]; exact q4
  obtain ⟨vm₁, X₁, hstep₁⟩ := X.invokevirtual hexec hown hlink hnamed hmethM hstM hkP hkPi hy (a := b) (cell := cellB) hcell
    (fun z h => by rw [h] at hobj; cases hobj) hselP hmethM habM hkP hkPi (g := g) hg (argsL := argsL) (rest := rest) (hlen _ hsigM) hstack hdg
  rcases hK m meth c ⟨T.setVm vm₁, locs, cells, slots⟩ { g with stack := rest } (.invokevirtual index) mk (Value.ref b :: argsL).toArray X₁ hg hsize hdg hW (X₁.named hnamed) (hpre vm₁ X₁.warmed) with ⟨v, B, X', hpost, hsteps⟩ | ⟨q, B, X', hpost, hsteps⟩
  · exact Or.inl ⟨v, vm₁, B, X₁.warmed, X', hpost, fun target h => hstep₁ _ fun acts => by rw [doInvoke_state]; exact hsteps.trans h⟩
  · exact Or.inr ⟨q, vm₁, B, X₁.warmed, X', hpost, hstep₁ _ fun acts => by rw [doInvoke_state]; exact hsteps⟩
theorem vx_callSX (X : Stand p l e R s m args below meth c T locs cells slots) (hexec : p.tables.exec = Jvm.exec) {own : String} {index : Nat} {y : MethodName} {bytes : ByteArray} {maxL : Nat} {ret : Option FieldType} {hh : List (Nat × Nat × Nat × Nat)}
    (hown : s.vm.findClass own = some m.cls) (hlink : (Cond.methodLink own index y).before args s = true) (hstat : (Cond.static y).before args s = true) (hinit : (Cond.initialized y.cls).before args s = true)
    (hcode : (Cond.codeWith y bytes maxL ret hh).before args s = true) (hy : y.cls ≠ "java/lang/invoke/MethodHandle" ∧ y.cls ≠ "java/lang/invoke/VarHandle")
    {W9 : Nat} {Pre : Pt → Array Value → Prop} {Post : Pt → Array Value → Option Value → Pt → Prop} {PostX : Pt → Array Value → Addr → Pt → Prop} (hK : vx_Back l R p e below s args y 3 W9 Pre Post PostX)
    {g : JFrame} (hg : g.method = m) (hsize : g.locals.size = c.maxLocals) {argsL rest : List Value} (hlen : ∀ sig, parseMethodDescriptor y.desc = some sig → argsL.length = sig.parameters.length)
    (hstack : g.stack = argsL.reverse ++ rest) (hW : 2 * g.monitorRoom + (rest.map fun v => v.category).sum ≤ W9) (hdg : decode c.code g.pc = .ok (.invokestatic index, 3))
    (hpre : ∀ vm₁, s.WarmedH vm₁ → Pre ⟨T.setVm vm₁, locs, cells, slots⟩ argsL.toArray) :
    (∃ (v : Option Value) (vm₁ : Vm) (B : Pt), s.WarmedH vm₁ ∧ Stand p l e R s m args below meth c B.U B.locs B.cells B.slots ∧ Post ⟨T.setVm vm₁, locs, cells, slots⟩ argsL.toArray v B ∧
      ∀ target, Steps p.tables e below (B.U.setTop { g with pc := g.pc + 3, stack := v.toList ++ rest }) target → Steps p.tables e below (T.setTop g) target) ∨
    (∃ (q : Addr) (vm₁ : Vm) (B : Pt), s.WarmedH vm₁ ∧ Stand p l e R s m args below meth c B.U B.locs B.cells B.slots ∧ PostX ⟨T.setVm vm₁, locs, cells, slots⟩ argsL.toArray q B ∧
      Steps p.tables e below (T.setTop g) ((B.U.setTop { g with stack := rest }).pushFrame (.throwing q))) := by
  obtain ⟨mk, methM, cM, hnamed, hmethM, -, -, -, -, -, -, hsigM⟩ := Cond.codeWith_spec hcode
  have hstatic : methM.isStatic = true := Cond.static_spec hnamed hmethM hstat
  obtain ⟨kP, hkP, -⟩ := className_of_methodNamed hnamed
  have hinitP : kP.init = .initialized := Cond.initialized_spec (findClass_of_methodNamed hnamed) hkP hinit
  obtain ⟨vm₁, X₁, hstep₁⟩ := X.invokestatic hexec hown hlink hnamed hmethM hstatic hkP hinitP hy (g := g) hg (argsL := argsL) (rest := rest) (hlen _ hsigM) hstack hdg
  rcases hK m meth c ⟨T.setVm vm₁, locs, cells, slots⟩ { g with stack := rest } (.invokestatic index) mk argsL.toArray X₁ hg hsize hdg hW (X₁.named hnamed) (hpre vm₁ X₁.warmed) with ⟨v, B, X', hpost, hsteps⟩ | ⟨q, B, X', hpost, hsteps⟩
  · exact Or.inl ⟨v, vm₁, B, X₁.warmed, X', hpost, fun target h => hstep₁ _ fun acts => by rw [doInvoke_state]; exact hsteps.trans h⟩
  · exact Or.inr ⟨q, vm₁, B, X₁.warmed, X', hpost, hstep₁ _ fun acts => by rw [doInvoke_state]; exact hsteps⟩
theorem vx_callVW (X : Stand p l e R s m args below meth c T locs cells slots) (hexec : p.tables.exec = Jvm.exec) {own C : String} {index : Nat} {y : MethodName} {bytes : ByteArray} {maxL : Nat} {ret : Option FieldType} {hh : List (Nat × Nat × Nat × Nat)}
    (hown : s.vm.findClass own = some m.cls) (hlink : (Cond.methodLink own index y).before args s = true) (hinst : (Cond.instanceMethod y).before args s = true) (hsel : (Cond.selects C y y).before args s = true)
    (hcode : (Cond.codeWith y bytes maxL ret hh).before args s = true) (hy : y.cls ≠ "java/lang/invoke/MethodHandle" ∧ y.cls ≠ "java/lang/invoke/VarHandle")
    {W9 : Nat} {Pre : Pt → Array Value → Prop} {Post : Pt → Array Value → Option Value → Pt → Prop} (hK : Back l R p e below s args y 3 W9 Pre Post)
    {b : Addr} {cellB : Cell} (hcell : T.heap[b]? = some cellB) (hobj : cellB.vm.isStatics = false) (hcls : s.vm.findClass C = some cellB.cls)
    {g : JFrame} (hg : g.method = m) (hsize : g.locals.size = c.maxLocals) {argsL rest : List Value} (hlen : ∀ sig, parseMethodDescriptor y.desc = some sig → argsL.length = sig.parameters.length)
    (hstack : g.stack = argsL.reverse ++ .ref b :: rest) (hW : 2 * g.monitorRoom + (rest.map fun v => v.category).sum ≤ W9) (hdg : decode c.code g.pc = .ok (.invokevirtual index, 3))
    (hpre : ∀ vm₁, s.WarmedH vm₁ → Pre ⟨T.setVm vm₁, locs, cells, slots⟩ (Value.ref b :: argsL).toArray) :
    ∃ (v : Option Value) (vm₁ : Vm) (B : Pt), s.WarmedH vm₁ ∧ Stand p l e R s m args below meth c B.U B.locs B.cells B.slots ∧ Post ⟨T.setVm vm₁, locs, cells, slots⟩ (Value.ref b :: argsL).toArray v B ∧
      ∀ target, Steps p.tables e below (B.U.setTop { g with pc := g.pc + 3, stack := v.toList ++ rest }) target → Steps p.tables e below (T.setTop g) target := by
  obtain ⟨mk, methM, hnamed, hmethM, hstM, habM⟩ := Cond.instanceMethod_spec hinst
  obtain ⟨m8, methM', cM, hn8, hmethM', -, -, -, -, -, -, hsigM⟩ := Cond.codeWith_spec hcode
  cases Option.some.inj (hn8.symm.trans hnamed)
  cases hmethM.symm.trans hmethM'
  obtain ⟨c2, r2, m2, q1, q2, q3, q4, kP, hkP, hkPi⟩ := Cond.selects_spec hsel
  cases hcls.symm.trans q1
  cases (State.methodFound?_of_named hnamed hy).symm.trans q2
  cases hnamed.symm.trans q3
  have hselP : selectMethod e.platform s.vm cellB.cls mk = .method mk := by rw [Launch.admits_selectMethod X.admits]; exact q4
  obtain ⟨vm₁, X₁, hstep₁⟩ := X.invokevirtual hexec hown hlink hnamed hmethM hstM hkP hkPi hy (a := b) (cell := cellB) hcell
    (fun z h => by rw [h] at hobj; cases hobj) hselP hmethM habM hkP hkPi (g := g) hg (argsL := argsL) (rest := rest) (hlen _ hsigM) hstack hdg
  obtain ⟨v, B, X', hpost, hsteps⟩ := hK m meth c ⟨T.setVm vm₁, locs, cells, slots⟩ { g with stack := rest } (.invokevirtual index) mk (Value.ref b :: argsL).toArray X₁ hg hsize hdg hW (X₁.named hnamed) (hpre vm₁ X₁.warmed)
  exact ⟨v, vm₁, B, X₁.warmed, X', hpost, fun target h => hstep₁ _ fun acts => by rw [doInvoke_state]; exact hsteps.trans h⟩
abbrev vx_CVW (R : Room) (s : State) (args : Array Value) (own C : String) (index : Nat) (y : MethodName) (bytes : ByteArray) (maxL : Nat) (ret : Option FieldType) (hh : List (Nat × Nat × Nat × Nat)) (ws : List Cond) (rm : Room) (mc ms n : Nat) : Prop :=
  (rm.cells = mc ∧ rm.slots = ms ∧ rm.frames + 1 ≤ R.frames ∧ 8 + (maxL + 11) + rm.locals ≤ R.locals ∧ (∀ w ∈ ws, ∀ (a' : Array Value) (U : State), s.WarmedH U.vm → w.before a' U = true) ∧ Cond.codeWith y bytes maxL ret hh ∈ ws) ∧
  (Cond.codeWith y bytes maxL ret hh).before args s = true ∧ (Cond.initialized y.cls).before args s = true ∧ (y.cls ≠ "java/lang/invoke/MethodHandle" ∧ y.cls ≠ "java/lang/invoke/VarHandle") ∧
  (∀ sig, parseMethodDescriptor y.desc = some sig → n = sig.parameters.length) ∧ (Cond.methodLink own index y).before args s = true ∧ (Cond.instanceMethod y).before args s = true ∧ (Cond.selects C y y).before args s = true
theorem vx_cwVW {own C : String} {index maxL mc ms : Nat} {y : MethodName} {bytes : ByteArray} {ret : Option FieldType} {hh : List (Nat × Nat × Nat × Nat)} {Ts ws ws' : List Cond} {rm : Room} (n : Nat) (ht : ∀ w ∈ Ts, w.before args s = true) (hT : GoodIn Ts (wsV own index C y ws)) (hw : ws = Cond.codeWith y bytes maxL ret hh :: ws') (hrc : rm.cells = mc) (hrs : rm.slots = ms)
    (hd : y.cls = C ∧ y.cls ≠ "java/lang/invoke/MethodHandle" ∧ y.cls ≠ "java/lang/invoke/VarHandle" ∧ (parseMethodDescriptor y.desc).map (fun d => d.parameters.length) = some n) (hR : rm.frames + 1 ≤ R.frames ∧ 8 + (maxL + 11) + rm.locals ≤ R.locals) :
    vx_CVW R s args own C index y bytes maxL ret hh ws rm mc ms n := by
  obtain ⟨hC, hd⟩ := hd
  subst hC
  have ok : ∀ w ∈ wsV own index y.cls y ws, w.before args s = true := fun w h => ht w (hT w h).1
  have hG : GoodIn Ts ws := fun w h => hT w (by unfold wsV; exact List.mem_append_right _ h)
  have hc : Cond.codeWith y bytes maxL ret hh ∈ ws := by rw [hw]; exact List.mem_cons_self
  refine ⟨⟨hrc, hrs, hR.1, hR.2, pay_in ht hG, hc⟩, ht _ (hG _ hc).1, ok _ (by simp [wsV]), ⟨hd.1, hd.2.1⟩, fun sig h => ?_, ok _ (by simp [wsV]), ok _ (by simp [wsV]), ok _ (by simp [wsV])⟩
  have h2 := hd.2.2
  rw [h] at h2
  exact (Option.some.inj h2).symm
theorem vx_runVW {y : MethodName} {bytes cc : ByteArray} {maxL nL mc ms n index : Nat} {ret : Option FieldType} {hh : List (Nat × Nat × Nat × Nat)} {ws : List Cond} {rm : Room} {Pc : Array Value → State → Prop} {Qc : Array Value → State → Outcome → State → Prop} {free : Addr → Prop} {Ts : List Cond} {own C : String} {b : Addr} {As rest : List Value} {g : JFrame}
    (S : CallFix p m c cc nL s args Ts own) (hM : Met l y ws rm Pc Qc mc ms free) (cw : vx_CVW R s args own C index y bytes maxL ret hh ws rm mc ms n) (hp : PreV s H C b Pc As)
    (hg : g.method = m) (hn : As.length = n) (hsize : g.locals.size = nL) (hstack : g.stack = As.reverse ++ .ref b :: rest) (hW : 2 * g.monitorRoom + (rest.map fun v => v.category).sum ≤ 8) (hdg : decode cc g.pc = .ok (.invokevirtual index, 3)) (hf : cells + mc ≤ R.cells ∧ slots + ms ≤ R.slots) :
    va_Run p l e R s m args below meth c H locs cells slots mc ms g rest (Qc (Value.ref b :: As).toArray) free := by
  obtain ⟨⟨hrc, hrs, hfr, hlo, hws, hcw⟩, hcode, hini, hy, hlen, hl, hin, hse⟩ := cw
  have hK : Back l R p e below s args y 3 8 (PreOf R mc ms Pc) (PostOf Qc mc ms free) := va_backW (hh := hh) (bytes := bytes) (maxL := maxL) (ret := ret) hM hp.1 hrc hrs hfr hlo hws hcw (fun a' U hW => word_at hW (Or.inl (by first | rfl | simp [Cond.onTables, Cond.keeps, Cond.steady])) hini)
  obtain ⟨hx, hb, hml, ho, -⟩ := S
  obtain ⟨-, ⟨cellB, hcB, hoB, hclB⟩, hPc⟩ := hp
  intro T hT X
  obtain ⟨v, vm₁, ⟨U', l2, c2, s2⟩, hW₁, X', ⟨g', mk, t, L, e1, e2, hq, h1, hL, h2, h3⟩, st⟩ := vx_callVW X hx (C := C) (hh := hh) (bytes := bytes) (maxL := maxL) (ret := ret) ho hl hin hse hcode hy hK (by rw [hT]; exact hcB) hoB hclB hg (hsize.trans hml.symm) (argsL := As) (rest := rest) (fun sig h => hn.trans (hlen sig h)) hstack hW (by rw [hb]; exact hdg)
    (fun vm₁ hW₁ => ⟨hf.1, hf.2, hPc (T.setVm vm₁) hT hW₁⟩)
  dsimp only [Pt.U, Pt.locs, Pt.cells, Pt.slots] at X' e1 e2 h1 h2 h3 st
  subst h1; subst h2; subst h3
  exact ⟨v, (T.setVm vm₁).calling g' mk (Value.ref b :: As).toArray, t, U', L, hT, X', hL, e1, e2, hq, st⟩
section
variable {y : MethodName} {bytes cc : ByteArray} {maxL nL mc ms n index : Nat} {ret : Option FieldType} {ws : List Cond} {rm : Room} {Pc : Array Value → State → Prop} {Qc : Array Value → State → Outcome → State → Prop} {XC : String → State → State → Prop} {free : Addr → Prop} {Ts : List Cond} {own C : String} {b : Addr} {As rest : List Value} {g : JFrame}
theorem vx_runVX {hh : List (Nat × Nat × Nat × Nat)} (S : CallFix p m c cc nL s args Ts own) (hM : vx_Met l y ws rm Pc Qc XC mc ms free) (cw : vx_CVW R s args own C index y bytes maxL ret hh ws rm mc ms n) (hp : PreV s H C b Pc As)
    (hg : g.method = m) (hn : As.length = n) (hsize : g.locals.size = nL) (hstack : g.stack = As.reverse ++ .ref b :: rest) (hW : 2 * g.monitorRoom + (rest.map fun v => v.category).sum ≤ 8) (hdg : decode cc g.pc = .ok (.invokevirtual index, 3)) (hf : cells + mc ≤ R.cells ∧ slots + ms ≤ R.slots) :
    vx_Run p l e R s m args below meth c H locs cells slots mc ms g rest (Qc (Value.ref b :: As).toArray) XC free := by
  obtain ⟨⟨hrc, hrs, hfr, hlo, hws, hcw⟩, hcode, hini, hy, hlen, hl, hin, hse⟩ := cw
  have hK : vx_Back l R p e below s args y 3 8 (PreOf R mc ms Pc) (PostOf Qc mc ms free) (vx_Post XC mc ms free) := vx_backW (hh := hh) (bytes := bytes) (maxL := maxL) (ret := ret) hM hp.1 hrc hrs hfr hlo hws hcw (fun a' U hW => word_at hW (Or.inl (by first | rfl | simp [Cond.onTables, Cond.keeps, Cond.steady])) hini)
  obtain ⟨hx, hb, hml, ho, -⟩ := S
  obtain ⟨-, ⟨cellB, hcB, hoB, hclB⟩, hPc⟩ := hp
  intro T hT X
  rcases vx_callVX X hx (C := C) (hh := hh) (bytes := bytes) (maxL := maxL) (ret := ret) ho hl hin hse hcode hy hK (by rw [hT]; exact hcB) hoB hclB hg (hsize.trans hml.symm) (argsL := As) (rest := rest) (fun sig h => hn.trans (hlen sig h)) hstack hW (by rw [hb]; exact hdg)
    (fun vm₁ hW₁ => ⟨hf.1, hf.2, hPc (T.setVm vm₁) hT hW₁⟩) with ⟨v, vm₁, ⟨U', l2, c2, s2⟩, hW₁, X', ⟨g', mk, t, L, e1, e2, hq, h1, hL, h2, h3⟩, st⟩ | ⟨q, vm₁, ⟨U', l2, c2, s2⟩, hW₁, X', ⟨g', mk, t, L, E, ce, e1, e2, hq, hce, hcv, hcl, h1, hL, h2, h3⟩, st⟩
  · dsimp only [Pt.U, Pt.locs, Pt.cells, Pt.slots] at X' e1 e2 h1 h2 h3 st
    subst h1; subst h2; subst h3
    exact Or.inl ⟨v, (T.setVm vm₁).calling g' mk (Value.ref b :: As).toArray, t, U', L, hT, X', hL, e1, e2, hq, st⟩
  · dsimp only [Pt.U, Pt.locs, Pt.cells, Pt.slots] at X' e1 e2 h1 h2 h3 st hcl
    subst h1; subst h2; subst h3
    exact Or.inr ⟨q, (T.setVm vm₁).calling g' mk (Value.ref b :: As).toArray, t, U', L, E, ce, hT, X', hL, e1, e2, hq, hce, hcv, vx_cls hW₁ hcl, st⟩
theorem vx_runSX {hh : List (Nat × Nat × Nat × Nat)} (S : CallFix p m c cc nL s args Ts own) (hM : vx_Met l y ws rm Pc Qc XC mc ms free) (cw : vx_CSW R s args own index y bytes maxL ret hh ws rm mc ms n) (hp : PreS s H Pc As)
    (hg : g.method = m) (hn : As.length = n) (hsize : g.locals.size = nL) (hstack : g.stack = As.reverse ++ rest) (hW : 2 * g.monitorRoom + (rest.map fun v => v.category).sum ≤ 8) (hdg : decode cc g.pc = .ok (.invokestatic index, 3)) (hf : cells + mc ≤ R.cells ∧ slots + ms ≤ R.slots) :
    vx_Run p l e R s m args below meth c H locs cells slots mc ms g rest (Qc As.toArray) XC free := by
  obtain ⟨⟨hrc, hrs, hfr, hlo, hws, hcw⟩, hcode, hini, hy, hlen, hl, hstt⟩ := cw
  have hK : vx_Back l R p e below s args y 3 8 (PreOf R mc ms Pc) (PostOf Qc mc ms free) (vx_Post XC mc ms free) := vx_backW (hh := hh) (bytes := bytes) (maxL := maxL) (ret := ret) hM hp.1 hrc hrs hfr hlo hws hcw (fun a' U hW => word_at hW (Or.inl (by first | rfl | simp [Cond.onTables, Cond.keeps, Cond.steady])) hini)
  obtain ⟨hx, hb, hml, ho, -⟩ := S
  intro T hT X
  rcases vx_callSX X hx (hh := hh) (bytes := bytes) (maxL := maxL) (ret := ret) ho hl hstt hini hcode hy hK hg (hsize.trans hml.symm) (argsL := As) (rest := rest) (fun sig h => hn.trans (hlen sig h)) hstack hW (by rw [hb]; exact hdg)
    (fun vm₁ hW₁ => ⟨hf.1, hf.2, hp.2 (T.setVm vm₁) hT hW₁⟩) with ⟨v, vm₁, ⟨U', l2, c2, s2⟩, hW₁, X', ⟨g', mk, t, L, e1, e2, hq, h1, hL, h2, h3⟩, st⟩ | ⟨q, vm₁, ⟨U', l2, c2, s2⟩, hW₁, X', ⟨g', mk, t, L, E, ce, e1, e2, hq, hce, hcv, hcl, h1, hL, h2, h3⟩, st⟩
  · dsimp only [Pt.U, Pt.locs, Pt.cells, Pt.slots] at X' e1 e2 h1 h2 h3 st
    subst h1; subst h2; subst h3
    exact Or.inl ⟨v, (T.setVm vm₁).calling g' mk As.toArray, t, U', L, hT, X', hL, e1, e2, hq, st⟩
  · dsimp only [Pt.U, Pt.locs, Pt.cells, Pt.slots] at X' e1 e2 h1 h2 h3 st hcl
    subst h1; subst h2; subst h3
    exact Or.inr ⟨q, (T.setVm vm₁).calling g' mk As.toArray, t, U', L, E, ce, hT, X', hL, e1, e2, hq, hce, hcv, vx_cls hW₁ hcl, st⟩
end
end VXH
theorem vx_ofWH {l : Launch} {y : MethodName} {ws ws' : List Cond} {rm : Room} {Pc : Array Value → State → Prop} {Qc : Array Value → State → Outcome → State → Prop} {XC : String → State → State → Prop} {mc ms : Nat} {free : Addr → Prop} {cc : ByteArray} {maxL : Nat} {ret : Option FieldType} {hh : List (Nat × Nat × Nat × Nat)}
    (hy : plainName y.cls = true) (hw : ws = Cond.codeWith y cc maxL ret hh :: ws')
    (body : ∀ p e s m args below meth c s₁, BodyLoose p l y (headSpec ws rm) cc maxL ret e s m args below meth c s₁ → c.maxLocals = maxL → Pc args s →
      W p l e (headSpec ws rm).room s m args below meth c s.heap [] 0 0 (vx_MQ below Qc XC args s mc ms free) (entryFrame m args maxL)) : vx_Met l y ws rm Pc Qc XC mc ms free := by
  refine MetFree.of_bodyS (code := cc) (maxLocals := maxL) (ret := ret) hy ?_ ?_
  · intro args s m h hn
    obtain ⟨m9, meth, c, hn9, h1, h2, h3, h4, -, h5, h6, -⟩ := Cond.codeWith_spec (atoms_spec (ws := ws) h _ (by rw [hw]; exact List.mem_cons_self))
    cases hn.symm.trans hn9
    exact ⟨meth, c, h1, h2, h3, h4, h5, h6⟩
  · intro p e s m args below meth c s₁ B hml hP _
    have hh0 : s₁.heap = s.heap := by rw [B.state]; rfl
    obtain ⟨t, a1, o, b1, b2, b3⟩ := body p e s m args below meth c s₁ B hml hP s₁ hh0 (Stand.of_body B)
    exact ⟨t, o, a1, b1, b2, b3⟩
/-! ===== END ===== -/
end
section
/-! Calls that may throw, in two forms more: of a private static of a nest mate, and with a reference as the answer. (After vx_runS, vx_calli.) -/
section GX
variable {p : Program} {l : Launch} {e : Env} {R : Room} {s : State} {m : MethodId} {args : Array Value} {below : List Frame} {meth : Method} {c : Code} {H : Heap} {locs : List Loc} {cells slots : Nat} {Q : State → Prop}
theorem gx_runSN {y : MethodName} {bytes cc : ByteArray} {maxL nL mc ms n index : Nat} {ret : Option FieldType} {ws : List Cond} {rm : Room} {Pc : Array Value → State → Prop} {Qc : Array Value → State → Outcome → State → Prop} {XC : String → State → State → Prop} {free : Addr → Prop} {Ts : List Cond} {own host : String} {As rest : List Value} {g : JFrame}
    (S : CallFix p m c cc nL s args Ts own) (hM : vx_Met l y ws rm Pc Qc XC mc ms free) (cw : va_CN R s args own index y host bytes maxL ret ws rm mc ms n ∧ (Cond.static y).before args s = true) (hp : PreS s H Pc As)
    (hg : g.method = m) (hn : As.length = n) (hsize : g.locals.size = nL) (hstack : g.stack = As.reverse ++ rest) (hW : 2 * g.monitorRoom + (rest.map fun v => v.category).sum ≤ 8) (hdg : decode cc g.pc = .ok (.invokestatic index, 3)) (hf : cells + mc ≤ R.cells ∧ slots + ms ≤ R.slots) :
    vx_Run p l e R s m args below meth c H locs cells slots mc ms g rest (Qc As.toArray) XC free := by
  obtain ⟨⟨⟨hrc, hrs, hfr, hlo, hws, hcw⟩, hcode, hini, hy, hlen, hlk⟩, hst⟩ := cw
  have hK : vx_Back l R p e below s args y 3 8 (PreOf R mc ms Pc) (PostOf Qc mc ms free) (vx_Post XC mc ms free) :=
    vx_back (bytes := bytes) (maxL := maxL) (ret := ret) hM hp.1 hrc hrs hfr hlo hws hcw (fun a' U hW => word_at hW (Or.inl (by first | rfl | simp [Cond.onTables, Cond.keeps, Cond.steady])) hini)
  obtain ⟨hx, hb, hml, ho, -⟩ := S
  obtain ⟨mk, hnamed⟩ := Cond.code_named hcode
  obtain ⟨methM, cM, hmethM, -, -, -, -, -, -, hsigM⟩ := Cond.code_spec hnamed hcode
  have hstatic : methM.isStatic = true := Cond.static_spec hnamed hmethM hst
  obtain ⟨kP, hkP, -⟩ := className_of_methodNamed hnamed
  have hinitP : kP.init = .initialized := Cond.initialized_spec (findClass_of_methodNamed hnamed) hkP hini
  have hd2 : decode c.code g.pc = .ok (.invokestatic index, 3) := by rw [hb]; exact hdg
  intro T hT X
  obtain ⟨vm1, X1, step1⟩ := X.invokestaticNest hx ho hlk hnamed hmethM hstatic hkP hinitP hy (g := g) hg (argsL := As) (rest := rest) (hn.trans (hlen _ hsigM)) hstack hd2
  rcases hK m meth c ⟨T.setVm vm1, locs, cells, slots⟩ { g with stack := rest } (.invokestatic index) mk As.toArray X1 hg (hsize.trans hml.symm) hd2 hW (X1.named hnamed) ⟨hf.1, hf.2, hp.2 (T.setVm vm1) hT X1.warmed⟩ with ⟨v, ⟨U', l2, c2, s2⟩, X', ⟨g', mk', t, L, e1, e2, hq, h1, hL, h2, h3⟩, hsteps⟩ | ⟨q, ⟨U', l2, c2, s2⟩, X', ⟨g', mk', t, L, E, ce, e1, e2, hq, hce, hcv, hcl, h1, hL, h2, h3⟩, hsteps⟩
  · dsimp only [Pt.U, Pt.locs, Pt.cells, Pt.slots] at X' e1 e2 h1 h2 h3 hsteps
    subst h1; subst h2; subst h3
    exact Or.inl ⟨v, (T.setVm vm1).calling g' mk' As.toArray, t, U', L, hT, X', hL, e1, e2, hq, fun target h => step1 _ fun acts => by rw [doInvoke_state]; exact hsteps.trans h⟩
  · dsimp only [Pt.U, Pt.locs, Pt.cells, Pt.slots] at X' e1 e2 h1 h2 h3 hsteps hcl
    subst h1; subst h2; subst h3
    exact Or.inr ⟨q, (T.setVm vm1).calling g' mk' As.toArray, t, U', L, E, ce, hT, X', hL, e1, e2, hq, hce, hcv, vx_cls X1.warmed hcl, step1 _ fun acts => by rw [doInvoke_state]; exact hsteps⟩
theorem gx_callq {pc : Nat} {ls : Array Slot} {st0 rest : List Value} {a : Array Value} {A0 A1 : Nat → Prop} {H0 : Heap} {mc ms : Nat} {free : Addr → Prop} {S SX : Type} {post : Option Nat → S → Prop} {px : SX → Prop} {B : S → State → Prop} {BX : String → SX → State → Prop} {AX : Nat → Prop} (hr : vx_Run p l e R s m args below meth c H locs cells slots mc ms (F0 m pc ls st0) rest (va_Qq post B A1 a) (vx_X px BX AX) free) (hS : va_S A0 H0 H locs) (hA : ∀ q, q < H.size → A1 q → A0 q) (hf : ∀ q, free q → A0 q) (hAX : ∀ q, q < H.size → AX q → A0 q)
    (kx : ∀ (E : String) (ce : Cell) (q9 : Addr) (u : SX) (t : State) (H1 : Heap) (locs1 : List Loc), t.heap = H1 → s.vm.Alike t.vm → px u → BX E u t → H.size ≤ H1.size → (∀ q : Nat, q < H.size → ¬ AX q → H1[q]? = H[q]?) → va_S A0 H0 H1 locs1 → H1[q9]? = some ce → ce.vm = .none → s.vm.findClass E = some ce.cls → vx_W p l e R s m args below meth c H1 locs1 (cells + mc) (slots + ms) Q (F0 m pc ls rest) q9)
    (kk : ∀ (r : Option Nat) (u : S) (t : State) (H1 : Heap) (locs1 : List Loc), t.heap = H1 → s.vm.Alike t.vm → post r u → B u t → H.size ≤ H1.size → (∀ q : Nat, q < H.size → ¬ A1 q → H1[q]? = H[q]?) → va_S A0 H0 H1 locs1 → W p l e R s m args below meth c H1 locs1 (cells + mc) (slots + ms) Q (F0 m (pc + 3) ls (va_rf r :: rest))) : W p l e R s m args below meth c H locs cells slots Q (F0 m pc ls st0) := by
  intro T hT X
  rcases hr T hT X with ⟨v, st0, t, T', L, h0, X', hL, e1, e2, ⟨⟨r, u, hv, hp, hb⟩, hF⟩, st⟩ | ⟨q, st0, t, T', L, E, ce, h0, X', hL, e1, e2, ⟨u, hp, hb, hF⟩, hce, hcv, hcl, st⟩
  · cases hv
    obtain ⟨k1, k2, k3⟩ := vx_keep h0 e1 hS hA hf hL hF
    obtain ⟨t2, a1, b1⟩ := kk r u t T'.heap (locs ++ L) e1.symm (by rw [← e2]; exact X'.warmed.alike) hp hb k1 k2 k3 T' rfl X'
    exact ⟨t2, st t2 a1, b1⟩
  · obtain ⟨k1, k2, k3⟩ := vx_keep h0 e1 hS hAX hf hL hF
    obtain ⟨t2, a1, b1⟩ := kx E ce q u t T'.heap (locs ++ L) e1.symm (by rw [← e2]; exact X'.warmed.alike) hp hb k1 k2 k3 (by rw [e1]; exact hce) hcv hcl T' rfl X'
    exact ⟨t2, st.trans a1, b1⟩
end GX
end
section
/-! The ghost heap: what a walk knows of the cells, by their addresses. An array has a kind k (its class is AC k), an object its class's number. -/
section GHA
abbrev gh_E : Type := (Nat × vp_A) ⊕ (Nat × List Value)
abbrev gh_H : Type := Nat → Option gh_E
def gh_cv (AC : Nat → ClassId) (x : gh_E) : va_E := match x with
  | .inl a => .inl (AC a.1, a.2)
  | .inr o => .inr o
def gh_up (G : gh_H) (a : Nat) (x : gh_E) : gh_H := fun b => if b = a then some x else G b
theorem gh_up_s (G : gh_H) (a : Nat) (x : gh_E) : gh_up G a x a = some x := by simp [gh_up]
theorem gh_up_n {G : gh_H} {a b : Nat} {x : gh_E} (h : b ≠ a) : gh_up G a x b = G b := by simp [gh_up, h]
/-- the world ws holds all that G tells -/
def gh_in (AC : Nat → ClassId) (G : gh_H) (ws : va_W) : Prop := ∀ (a : Nat) (x : gh_E), G a = some x → ∃ k : Nat, ws[k]? = some (a, gh_cv AC x)
def gh_h (D : va_G) (cl : List vw_C) (AC : Nat → ClassId) (A : Nat → Prop) (G : gh_H) (H : Heap) : Prop := ∃ ws : va_W, va_P D cl ws H ∧ va_D A ws ∧ gh_in AC G ws
/-- what a method over G may write: G's cells, and new ones -/
def gh_A (G : gh_H) (sz : Nat) : Nat → Prop := fun q => G q ≠ none ∨ sz ≤ q
theorem gh_set {A : Nat → Prop} {AC : Nat → ClassId} {G : gh_H} {ws : va_W} {q0 a : Nat} {e0 : va_E} (hG : gh_in AC G ws) (hq : ws[q0]? = some (a, e0)) (x : gh_E) : gh_in AC (gh_up G a x) (ws.set q0 (a, gh_cv AC x)) := by
  intro b y h
  by_cases hb : b = a
  · subst hb
    rw [gh_up_s] at h
    cases h
    exact ⟨q0, List.getElem?_set_self (List.getElem?_eq_some_iff.mp hq).1⟩
  · rw [gh_up_n hb] at h
    obtain ⟨k, hk⟩ := hG b y h
    refine ⟨k, ?_⟩
    rw [List.getElem?_set_ne (fun e => ?_)]
    · exact hk
    · subst e
      rw [hq] at hk
      cases hk
      exact hb rfl
theorem gh_push {AC : Nat → ClassId} {G : gh_H} {ws : va_W} {q : Nat} (hG : gh_in AC G ws) (x : gh_E) : gh_in AC (gh_up G q x) (ws ++ [(q, gh_cv AC x)]) := by
  intro b y h
  by_cases hb : b = q
  · subst hb
    rw [gh_up_s] at h
    cases h
    exact ⟨ws.length, by rw [List.getElem?_append_right (Nat.le_refl _), Nat.sub_self]; rfl⟩
  · rw [gh_up_n hb] at h
    obtain ⟨k, hk⟩ := hG b y h
    exact ⟨k, by rw [List.getElem?_append_left (List.getElem?_eq_some_iff.mp hk).1]; exact hk⟩
theorem gh_fresh {A : Nat → Prop} {AC : Nat → ClassId} {G : gh_H} {ws : va_W} {q : Nat} {e0 : va_E} (hG : gh_in AC G ws) (hD : va_D A (ws ++ [(q, e0)])) : G q = none := by
  cases h : G q with
  | none => rfl
  | some x =>
    obtain ⟨k, hk⟩ := hG q x h
    have hl := (List.getElem?_eq_some_iff.mp hk).1
    have h1 : (ws ++ [(q, e0)])[k]? = some (q, gh_cv AC x) := by rw [List.getElem?_append_left hl]; exact hk
    have h2 : (ws ++ [(q, e0)])[ws.length]? = some (q, e0) := by rw [List.getElem?_append_right (Nat.le_refl _), Nat.sub_self]; rfl
    have := hD.1 _ _ _ _ h1 h2 rfl
    omega
theorem gh_h.lt {D : va_G} {cl : List vw_C} {AC : Nat → ClassId} {A : Nat → Prop} {G : gh_H} {H : Heap} (h : gh_h D cl AC A G H) {a : Nat} (ha : G a ≠ none) : a < H.size := by
  obtain ⟨ws, hP, -, hG⟩ := h
  cases hx : G a with
  | none => exact absurd hx ha
  | some x =>
    obtain ⟨k, hk⟩ := hG a x hx
    exact (hP k _ hk).lt
theorem gh_h.weaken {D : va_G} {cl : List vw_C} {AC : Nat → ClassId} {A B : Nat → Prop} {G : gh_H} {H : Heap} (h : gh_h D cl AC A G H) (hAB : ∀ q, A q → B q) : gh_h D cl AC B G H := by
  obtain ⟨ws, hP, hD, hG⟩ := h
  exact ⟨ws, hP, hD.weaken (fun _ _ _ z => hAB _ z), hG⟩
theorem gh_h.sub {D : va_G} {cl : List vw_C} {AC : Nat → ClassId} {A : Nat → Prop} {G G' : gh_H} {H : Heap} (h : gh_h D cl AC A G H) (hs : ∀ a x, G' a = some x → G a = some x) : gh_h D cl AC A G' H := by
  obtain ⟨ws, hP, hD, hG⟩ := h
  exact ⟨ws, hP, hD, fun a x hx => hG a x (hs a x hx)⟩
theorem gh_h.inA {D : va_G} {cl : List vw_C} {AC : Nat → ClassId} {A : Nat → Prop} {G : gh_H} {H : Heap} (h : gh_h D cl AC A G H) {a : Nat} (ha : G a ≠ none) : A a := by
  obtain ⟨ws, -, hD, hG⟩ := h
  cases hx : G a with
  | none => exact absurd hx ha
  | some x =>
    obtain ⟨k, hk⟩ := hG a x hx
    exact hD.2 k _ hk
/-- of a larger world only G's own cells -/
theorem gh_h.own {D : va_G} {cl : List vw_C} {AC : Nat → ClassId} {A : Nat → Prop} {G : gh_H} {H : Heap} (h : gh_h D cl AC A G H) : gh_h D cl AC (fun q => G q ≠ none) G H := by
  obtain ⟨ws, hP, hD, hG⟩ := h
  have hpw : ws.Pairwise (fun p q => p.1 ≠ q.1) := by
    rw [List.pairwise_iff_getElem]
    intro i j hi hj hij he
    have := hD.1 i j _ _ (List.getElem?_eq_getElem hi) (List.getElem?_eq_getElem hj) he
    omega
  have hpf : (ws.filter (fun q => (G q.1).isSome)).Pairwise (fun p q => p.1 ≠ q.1) := hpw.filter _
  rw [List.pairwise_iff_getElem] at hpf
  refine ⟨ws.filter (fun q => (G q.1).isSome), ?_, ⟨?_, ?_⟩, ?_⟩
  · intro k q hk
    obtain ⟨i, hi⟩ := List.getElem?_of_mem (List.mem_filter.mp (List.mem_of_getElem? hk)).1
    exact hP i q hi
  · intro i j p q hi hj he
    obtain ⟨li, ei⟩ := List.getElem?_eq_some_iff.mp hi
    obtain ⟨lj, ej⟩ := List.getElem?_eq_some_iff.mp hj
    rcases Nat.lt_trichotomy i j with h | h | h
    · exact absurd (by rw [ei, ej]; exact he) (hpf i j li lj h)
    · exact h
    · exact absurd (by rw [ei, ej]; exact he.symm) (hpf j i lj li h)
  · intro k q hk hn
    have h9 : (G q.1).isSome = true := (List.mem_filter.mp (List.mem_of_getElem? hk)).2
    rw [hn] at h9
    cases h9
  · intro a x hx
    obtain ⟨k, hk⟩ := hG a x hx
    exact List.getElem?_of_mem (List.mem_filter.mpr ⟨List.mem_of_getElem? hk, by show (G a).isSome = true; rw [hx]; rfl⟩)
theorem gh_h.selfA {D : va_G} {cl : List vw_C} {AC : Nat → ClassId} {A : Nat → Prop} {G : gh_H} {H : Heap} {sz : Nat} (h : gh_h D cl AC A G H) : gh_h D cl AC (gh_A G sz) G H := h.own.weaken (fun _ z => Or.inl z)
theorem gh_h.subA {D : va_G} {cl : List vw_C} {AC : Nat → ClassId} {A : Nat → Prop} {G : gh_H} {H H0 : Heap} {locs : List Loc} (h : gh_h D cl AC A G H) (hS : va_S A H0 H locs) (hA : ∀ q, H0.size ≤ q → A q) : ∀ q, gh_A G H.size q → A q := by
  intro q hq
  rcases hq with z | z
  · exact h.inA z
  · exact hA q (Nat.le_trans hS.1 z)
/-- G's own cells, where none of them has changed -/
theorem gh_h.kept {D : va_G} {cl : List vw_C} {AC : Nat → ClassId} {A : Nat → Prop} {G : gh_H} {H H1 : Heap} (h : gh_h D cl AC A G H) (hk : ∀ a, G a ≠ none → H1[a]? = H[a]?) : gh_h D cl AC (fun q => G q ≠ none) G H1 := by
  obtain ⟨ws, hP, hD, hG⟩ := h.own
  exact ⟨ws, hP.kept (fun k q hq => hk q.1 (hD.2 k q hq)), hD, hG⟩
/-- two ghosts side by side -/
def gh_j (G F : gh_H) : gh_H := fun a => match G a with
  | some x => some x
  | none => F a
theorem gh_h.join {D : va_G} {cl : List vw_C} {AC : Nat → ClassId} {A A0 : Nat → Prop} {G F : gh_H} {H : Heap} (h : gh_h D cl AC A G H) (hF : gh_h D cl AC (fun q => F q ≠ none) F H) (hd : ∀ q, A q → F q = none) (h1 : ∀ q, A q → A0 q) (h2 : ∀ q, F q ≠ none → A0 q) : gh_h D cl AC A0 (gh_j G F) H := by
  obtain ⟨w1, p1, d1, g1⟩ := h
  obtain ⟨w2, p2, d2, g2⟩ := hF
  refine ⟨w1 ++ w2, p1.app p2, va_D.app (d1.weaken (fun _ _ _ z => h1 _ z)) (d2.weaken (fun _ _ _ z => h2 _ z)) ?_, ?_⟩
  · intro i j p q hp hq e
    have z1 := hd _ (d1.2 i p hp)
    have z2 := d2.2 j q hq
    rw [e] at z1
    exact z2 z1
  · intro a x hx
    unfold gh_j at hx
    cases hg : G a with
    | some y =>
      rw [hg] at hx
      have hxy : y = x := Option.some.inj hx
      subst hxy
      obtain ⟨k, hk⟩ := g1 a y hg
      exact ⟨k, by rw [List.getElem?_append_left (List.getElem?_eq_some_iff.mp hk).1]; exact hk⟩
    | none =>
      rw [hg] at hx
      obtain ⟨k, hk⟩ := g2 a x hx
      exact ⟨w1.length + k, by rw [List.getElem?_append_right (Nat.le_add_right _ _), Nat.add_sub_cancel_left]; exact hk⟩
end GHA
/-! rows: an instruction that reads or writes cells, over the ghost heap -/
section GHR
variable {p : Program} {l : Launch} {e : Env} {R : Room} {s : State} {m : MethodId} {args : Array Value} {below : List Frame} {meth : Method} {c : Code} {H : Heap} {locs : List Loc} {cells slots : Nat} {Q : State → Prop}
variable {cc : ByteArray} {pc : Nat} {ls : Array Slot} {rest : List Value} {D : va_G} {cl : List vw_C} {AC : Nat → ClassId} {A : Nat → Prop} {a : Nat} {tys : List (ClassId × FieldType)} {H0 : Heap} {G : gh_H}
theorem gh_get (hexec : p.tables.exec = Jvm.exec) (hb : c.code = cc) {own ref C : String} {T : u_T} {N ci index : Nat} {Ts : List Cond} (hts : ∀ w ∈ Ts, w.before args s = true) (hin : ∀ w ∈ u_ws C T N, w ∈ Ts) (hown : s.vm.findClass own = some m.cls) (hK : va_K D cl tys s) (hP : gh_h D cl AC A G H) {fs : List Value} (he : G a = some (.inr (ci, fs))) (hc : cl[ci]? = some (C, T, N)) (k : Nat) (hk : k < N) (hlink : (Cond.fieldLink own index ref (T k).2.1 (T k).2.2.1).before args s = true) (hsame : ∀ x, s.fieldFound? (T k).1 (T k).2.1 (T k).2.2.1 = some x → s.fieldFound? ref (T k).2.1 (T k).2.2.1 = some x) {v : Value} (hv : fs[k]? = some v) (hdg : decode cc pc = .ok (.getfield index, 3))
    (kk : W p l e R s m args below meth c H locs cells slots Q (F0 m (pc + 3) ls (v :: rest))) : W p l e R s m args below meth c H locs cells slots Q (F0 m pc ls (.ref a :: rest)) := by
  obtain ⟨ws, hW, -, hG⟩ := hP
  obtain ⟨q0, hq⟩ := hG a _ he
  exact va_get hexec hb hts hin hown hK hW q0 hq hc k hk hlink hsame hv hdg kk
theorem gh_put (hexec : p.tables.exec = Jvm.exec) (hb : c.code = cc) {own ref C : String} {T : u_T} {N ci index : Nat} {Ts : List Cond} (hts : ∀ w ∈ Ts, w.before args s = true) (hin : ∀ w ∈ u_ws C T N, w ∈ Ts) (ty0 : Nat → FieldType) (hty : ∀ k, k < N → parseFieldDescriptor (T k).2.2.1 = some (ty0 k)) (hnm : ∀ a, a < N → ∀ b, b < N → a ≠ b → (T a).2.1 ≠ (T b).2.1) (hown : s.vm.findClass own = some m.cls) (hK : va_K D cl tys s) (hP : gh_h D cl AC A G H) (hS0 : va_S A H0 H locs) {fs : List Value} (he : G a = some (.inr (ci, fs))) (hc : cl[ci]? = some (C, T, N)) (k : Nat) (hk : k < N) (hlink : (Cond.fieldLink own index ref (T k).2.1 (T k).2.2.1).before args s = true) (hsame : ∀ x, s.fieldFound? (T k).1 (T k).2.1 (T k).2.2.1 = some x → s.fieldFound? ref (T k).2.1 (T k).2.2.1 = some x) (hfin : (T k).2.2.2 = false) {ty : FieldType} {v : Value} (hd : parseFieldDescriptor (T k).2.2.1 = some ty) (hn : narrow ty v = v) (hfit : fits ty v = true) (hl : k < fs.length)
    (hdg : decode cc pc = .ok (.putfield index, 3)) (kk : ∀ (G1 : gh_H) (H1 : Heap) (locs1 : List Loc), G1 = gh_up G a (.inr (ci, fs.set k v)) → gh_h D cl AC A G1 H1 → va_S A H0 H1 locs1 → W p l e R s m args below meth c H1 locs1 cells slots Q (F0 m (pc + 3) ls rest)) : W p l e R s m args below meth c H locs cells slots Q (F0 m pc ls (v :: .ref a :: rest)) := by
  obtain ⟨ws, hW, hD, hG⟩ := hP
  obtain ⟨q0, hq⟩ := hG a _ he
  exact va_put hexec hb hts hin ty0 hty hnm hown hK hW hD hS0 q0 hq hc k hk hlink hsame hfin hd hn hfit hl hdg (fun H1 locs1 h1 h2 h3 => kk _ H1 locs1 rfl ⟨_, h1, h2, gh_set (A := A) hG hq _⟩ h3)
theorem gh_putF (hexec : p.tables.exec = Jvm.exec) (hb : c.code = cc) {own ref C : String} {T : u_T} {N ci index : Nat} {Ts : List Cond} (hts : ∀ w ∈ Ts, w.before args s = true) (hin : ∀ w ∈ u_ws C T N, w ∈ Ts) (ty0 : Nat → FieldType) (hty : ∀ k, k < N → parseFieldDescriptor (T k).2.2.1 = some (ty0 k)) (hnm : ∀ a, a < N → ∀ b, b < N → a ≠ b → (T a).2.1 ≠ (T b).2.1) (hown : s.vm.findClass own = some m.cls) (hK : va_K D cl tys s) (hP : gh_h D cl AC A G H) (hS0 : va_S A H0 H locs) {fs : List Value} (he : G a = some (.inr (ci, fs))) (hc : cl[ci]? = some (C, T, N)) (k : Nat) (hk : k < N) (hlink : (Cond.fieldLink own index ref (T k).2.1 (T k).2.2.1).before args s = true) (hsame : ∀ x, s.fieldFound? (T k).1 (T k).2.1 (T k).2.2.1 = some x → s.fieldFound? ref (T k).2.1 (T k).2.2.1 = some x) (hfin : (T k).2.2.2 = true) (hin2 : meth.name = "<init>") (hdecl : (T k).1 = own) {ty : FieldType} {v : Value} (hd : parseFieldDescriptor (T k).2.2.1 = some ty) (hn : narrow ty v = v) (hfit : fits ty v = true) (hl : k < fs.length)
    (hdg : decode cc pc = .ok (.putfield index, 3)) (kk : ∀ (G1 : gh_H) (H1 : Heap) (locs1 : List Loc), G1 = gh_up G a (.inr (ci, fs.set k v)) → gh_h D cl AC A G1 H1 → va_S A H0 H1 locs1 → W p l e R s m args below meth c H1 locs1 cells slots Q (F0 m (pc + 3) ls rest)) : W p l e R s m args below meth c H locs cells slots Q (F0 m pc ls (v :: .ref a :: rest)) := by
  obtain ⟨ws, hW, hD, hG⟩ := hP
  obtain ⟨q0, hq⟩ := hG a _ he
  exact va_putF hexec hb hts hin ty0 hty hnm hown hK hW hD hS0 q0 hq hc k hk hlink hsame hfin hin2 hdecl hd hn hfit hl hdg (fun H1 locs1 h1 h2 h3 => kk _ H1 locs1 rfl ⟨_, h1, h2, gh_set (A := A) hG hq _⟩ h3)
theorem gh_iald (hexec : p.tables.exec = Jvm.exec) (hb : c.code = cc) (hK : va_K D cl tys s) (hP : gh_h D cl AC A G H) {k n : Nat} {f : Nat → Int32} (he : G a = some (.inl (k, n, .inl f))) (ht : tys[k]? = some (AC k, .int)) {i : Int32} (hin : vp_in i n) (hdg : decode cc pc = .ok (.iaload, 1))
    (kk : W p l e R s m args below meth c H locs cells slots Q (F0 m (pc + 1) ls (.int (f i.toNatClampNeg) :: rest))) : W p l e R s m args below meth c H locs cells slots Q (F0 m pc ls (.int i :: .ref a :: rest)) := by
  obtain ⟨ws, hW, -, hG⟩ := hP
  obtain ⟨q0, hq⟩ := hG a _ he
  exact va_iald hexec hb hK hW q0 k hq ht hin hdg kk
theorem gh_lald (hexec : p.tables.exec = Jvm.exec) (hb : c.code = cc) (hK : va_K D cl tys s) (hP : gh_h D cl AC A G H) {k n : Nat} {f : Nat → Int64} (he : G a = some (.inl (k, n, .inr (.inl f)))) (ht : tys[k]? = some (AC k, .long)) {i : Int32} (hin : vp_in i n) (hdg : decode cc pc = .ok (.laload, 1))
    (kk : W p l e R s m args below meth c H locs cells slots Q (F0 m (pc + 1) ls (.long (f i.toNatClampNeg) :: rest))) : W p l e R s m args below meth c H locs cells slots Q (F0 m pc ls (.int i :: .ref a :: rest)) := by
  obtain ⟨ws, hW, -, hG⟩ := hP
  obtain ⟨q0, hq⟩ := hG a _ he
  exact va_lald hexec hb hK hW q0 k hq ht hin hdg kk
theorem gh_zald (hexec : p.tables.exec = Jvm.exec) (hb : c.code = cc) (hK : va_K D cl tys s) (hP : gh_h D cl AC A G H) {k n : Nat} {f : Nat → Int32} (he : G a = some (.inl (k, n, .inl f))) (ht : tys[k]? = some (AC k, .boolean)) {i : Int32} (hin : vp_in i n) (hdg : decode cc pc = .ok (.baload, 1))
    (kk : W p l e R s m args below meth c H locs cells slots Q (F0 m (pc + 1) ls (.int (f i.toNatClampNeg) :: rest))) : W p l e R s m args below meth c H locs cells slots Q (F0 m pc ls (.int i :: .ref a :: rest)) := by
  obtain ⟨ws, hW, -, hG⟩ := hP
  obtain ⟨q0, hq⟩ := hG a _ he
  exact va_zald hexec hb hK hW q0 k hq ht hin hdg kk
theorem gh_aald (hexec : p.tables.exec = Jvm.exec) (hb : c.code = cc) (hK : va_K D cl tys s) (hP : gh_h D cl AC A G H) {k n : Nat} {C : String} {f : Nat → Option Nat} (he : G a = some (.inl (k, n, .inr (.inr (.inr (.inr f)))))) (ht : tys[k]? = some (AC k, .object C)) {i : Int32} (hin : vp_in i n) (hdg : decode cc pc = .ok (.aaload, 1))
    (kk : W p l e R s m args below meth c H locs cells slots Q (F0 m (pc + 1) ls (va_rf (f i.toNatClampNeg) :: rest))) : W p l e R s m args below meth c H locs cells slots Q (F0 m pc ls (.int i :: .ref a :: rest)) := by
  obtain ⟨ws, hW, -, hG⟩ := hP
  obtain ⟨q0, hq⟩ := hG a _ he
  exact va_aldq hexec hb hK hW q0 k hq ht hin hdg kk
theorem gh_alen (hexec : p.tables.exec = Jvm.exec) (hb : c.code = cc) (hK : va_K D cl tys s) (hP : gh_h D cl AC A G H) {k : Nat} {x : vp_A} (he : G a = some (.inl (k, x))) {ty : FieldType} (ht : tys[k]? = some (AC k, ty)) {v : Int32} (hv : Int32.ofNat x.1 = v) (hdg : decode cc pc = .ok (.arraylength, 1))
    (kk : W p l e R s m args below meth c H locs cells slots Q (F0 m (pc + 1) ls (.int v :: rest))) : W p l e R s m args below meth c H locs cells slots Q (F0 m pc ls (.ref a :: rest)) := by
  obtain ⟨ws, hW, -, hG⟩ := hP
  obtain ⟨q0, hq⟩ := hG a _ he
  exact va_alen hexec hb hK hW q0 k hq ht hv hdg kk
theorem gh_iast (hexec : p.tables.exec = Jvm.exec) (hb : c.code = cc) (hK : va_K D cl tys s) (hP : gh_h D cl AC A G H) (hS : va_S A H0 H locs) {k n : Nat} {f : Nat → Int32} (he : G a = some (.inl (k, n, .inl f))) (ht : tys[k]? = some (AC k, .int)) {i x : Int32} (hin : vp_in i n) (hdg : decode cc pc = .ok (.iastore, 1))
    (kk : ∀ (G1 : gh_H) (H1 : Heap) (locs1 : List Loc), G1 = gh_up G a (.inl (k, n, .inl (upd f i.toNatClampNeg x))) → gh_h D cl AC A G1 H1 → va_S A H0 H1 locs1 → W p l e R s m args below meth c H1 locs1 cells slots Q (F0 m (pc + 1) ls rest)) : W p l e R s m args below meth c H locs cells slots Q (F0 m pc ls (.int x :: .int i :: .ref a :: rest)) := by
  obtain ⟨ws, hW, hD, hG⟩ := hP
  obtain ⟨q0, hq⟩ := hG a _ he
  exact va_iast hexec hb hK hW hD hS q0 k hq ht hin hdg (fun H1 locs1 h1 h2 h3 => kk _ H1 locs1 rfl ⟨_, h1, h2, gh_set (A := A) hG hq _⟩ h3)
theorem gh_last (hexec : p.tables.exec = Jvm.exec) (hb : c.code = cc) (hK : va_K D cl tys s) (hP : gh_h D cl AC A G H) (hS : va_S A H0 H locs) {k n : Nat} {f : Nat → Int64} (he : G a = some (.inl (k, n, .inr (.inl f)))) (ht : tys[k]? = some (AC k, .long)) {i : Int32} {x : Int64} (hin : vp_in i n) (hdg : decode cc pc = .ok (.lastore, 1))
    (kk : ∀ (G1 : gh_H) (H1 : Heap) (locs1 : List Loc), G1 = gh_up G a (.inl (k, n, .inr (.inl (vp_updL f i.toNatClampNeg x)))) → gh_h D cl AC A G1 H1 → va_S A H0 H1 locs1 → W p l e R s m args below meth c H1 locs1 cells slots Q (F0 m (pc + 1) ls rest)) : W p l e R s m args below meth c H locs cells slots Q (F0 m pc ls (.long x :: .int i :: .ref a :: rest)) := by
  obtain ⟨ws, hW, hD, hG⟩ := hP
  obtain ⟨q0, hq⟩ := hG a _ he
  exact va_last hexec hb hK hW hD hS q0 k hq ht hin hdg (fun H1 locs1 h1 h2 h3 => kk _ H1 locs1 rfl ⟨_, h1, h2, gh_set (A := A) hG hq _⟩ h3)
theorem gh_aast (hexec : p.tables.exec = Jvm.exec) (hb : c.code = cc) (hK : va_K D cl tys s) (hP : gh_h D cl AC A G H) (hS : va_S A H0 H locs) {k n v ci : Nat} {r : vw_C} {vs : List Value} {f : Nat → Option Nat} (he : G a = some (.inl (k, n, .inr (.inr (.inr (.inr f)))))) (ht : tys[k]? = some (AC k, .object r.1)) (hv : G v = some (.inr (ci, vs))) (hc : cl[ci]? = some r) {i : Int32} (hin : vp_in i n) (hdg : decode cc pc = .ok (.aastore, 1))
    (kk : ∀ (G1 : gh_H) (H1 : Heap) (locs1 : List Loc), G1 = gh_up G a (.inl (k, n, .inr (.inr (.inr (.inr (va_up f i.toNatClampNeg (some v))))))) → gh_h D cl AC A G1 H1 → va_S A H0 H1 locs1 → W p l e R s m args below meth c H1 locs1 cells slots Q (F0 m (pc + 1) ls rest)) : W p l e R s m args below meth c H locs cells slots Q (F0 m pc ls (.ref v :: .int i :: .ref a :: rest)) := by
  obtain ⟨ws, hW, hD, hG⟩ := hP
  obtain ⟨q0, hq⟩ := hG a _ he
  obtain ⟨q1, hq1⟩ := hG v _ hv
  exact va_astq hexec hb hK hW hD hS q0 k q1 ci hq ht hq1 hc hin hdg (fun H1 locs1 h1 h2 h3 => kk _ H1 locs1 rfl ⟨_, h1, h2, gh_set (A := A) hG hq _⟩ h3)
theorem gh_aastN (hexec : p.tables.exec = Jvm.exec) (hb : c.code = cc) (hK : va_K D cl tys s) (hP : gh_h D cl AC A G H) (hS : va_S A H0 H locs) {k n : Nat} {C : String} {f : Nat → Option Nat} (he : G a = some (.inl (k, n, .inr (.inr (.inr (.inr f)))))) (ht : tys[k]? = some (AC k, .object C)) {i : Int32} (hin : vp_in i n) (hdg : decode cc pc = .ok (.aastore, 1))
    (kk : ∀ (G1 : gh_H) (H1 : Heap) (locs1 : List Loc), G1 = gh_up G a (.inl (k, n, .inr (.inr (.inr (.inr (va_up f i.toNatClampNeg none)))))) → gh_h D cl AC A G1 H1 → va_S A H0 H1 locs1 → W p l e R s m args below meth c H1 locs1 cells slots Q (F0 m (pc + 1) ls rest)) : W p l e R s m args below meth c H locs cells slots Q (F0 m pc ls (.null :: .int i :: .ref a :: rest)) := by
  obtain ⟨ws, hW, hD, hG⟩ := hP
  obtain ⟨q0, hq⟩ := hG a _ he
  exact va_astqN hexec hb hK hW hD hS q0 k hq ht hin hdg (fun H1 locs1 h1 h2 h3 => kk _ H1 locs1 rfl ⟨_, h1, h2, gh_set (A := A) hG hq _⟩ h3)
theorem gh_new (hexec : p.tables.exec = Jvm.exec) (hb : c.code = cc) {own C : String} {T : u_T} {N ci index : Nat} {Ts : List Cond} (hts : ∀ w ∈ Ts, w.before args s = true) (hin : ∀ w ∈ u_ws C T N, w ∈ Ts) (ty : Nat → FieldType) (hty : ∀ k, k < N → parseFieldDescriptor (T k).2.2.1 = some (ty k)) (hown : s.vm.findClass own = some m.cls) (hcl : (Cond.classLink own index C).before args s = true) (hinst : (Cond.instantiable C N).before args s = true) (hini : (Cond.initialized C).before args s = true)
    (hK : va_K D cl tys s) (hP : gh_h D cl AC A G H) (hS : va_S A H0 H locs) (hA : ∀ q, H0.size ≤ q → A q) (hc : cl[ci]? = some (C, T, N)) {fs : List Value} (hfs : ∀ j, j < N → defaultValue (ty j) = vp_V fs j) (hcells : cells + 1 ≤ R.cells) (hslots : slots + N ≤ R.slots) (hdg : decode cc pc = .ok (.new index, 3))
    (kk : ∀ (q : Nat) (G1 : gh_H) (H1 : Heap), G q = none → G1 = gh_up G q (.inr (ci, fs)) → gh_h D cl AC A G1 H1 → va_S A H0 H1 locs →
      W p l e R s m args below meth c H1 locs (cells + 1) (slots + N) Q (F0 m (pc + 3) ls (.ref q :: rest))) : W p l e R s m args below meth c H locs cells slots Q (F0 m pc ls rest) := by
  obtain ⟨ws, hW, hD, hG⟩ := hP
  exact va_new hexec hb hts hin ty hty hown hcl hinst hini hK hW hD hS hA hc hfs hcells hslots hdg (fun q H1 h1 h2 h3 => kk q _ H1 (gh_fresh hG h2) rfl ⟨_, h1, h2, gh_push hG _⟩ h3)
theorem gh_newq (hexec : p.tables.exec = Jvm.exec) (hb : c.code = cc) {own C : String} {index k : Nat} (hown : s.vm.findClass own = some m.cls) (hclink : (Cond.classLink own index C).before args s = true) (hover : va_AO C s) (hK : va_K D cl tys s) (ht : tys[k]? = some (AC k, .object C)) (hP : gh_h D cl AC A G H) (hS : va_S A H0 H locs) (hA : ∀ q, H0.size ≤ q → A q)
    {n : Int32} {N' : Nat} (hn : ¬ n < 0) (hN : n.toNatClampNeg = N') (hbytes : N' * 4 ≤ 536870912) (hcells : cells + 1 ≤ R.cells) (hslots : slots + N' ≤ R.slots) (hdg : decode cc pc = .ok (.anewarray index, 3))
    (kk : ∀ (q : Nat) (G1 : gh_H) (H1 : Heap), G q = none → G1 = gh_up G q (.inl (k, N', .inr (.inr (.inr (.inr (fun _ => none)))))) → gh_h D cl AC A G1 H1 → va_S A H0 H1 locs →
      W p l e R s m args below meth c H1 locs (cells + 1) (slots + N') Q (F0 m (pc + 3) ls (.ref q :: rest))) : W p l e R s m args below meth c H locs cells slots Q (F0 m pc ls (.int n :: rest)) := by
  obtain ⟨ws, hW, hD, hG⟩ := hP
  refine va_newq hexec hb hown hclink hover hK hW hD hS hA hn hN hbytes hcells hslots hdg (fun q cA H1 hK1 h1 h2 h3 => ?_)
  have e1 := (hK1.2 tys.length (cA, .object C) (by rw [List.getElem?_append_right (Nat.le_refl _), Nat.sub_self]; rfl)).2
  have e2 := (hK.2 k _ ht).2
  obtain ⟨_, _, _, _, _, f1⟩ := e1
  obtain ⟨_, _, _, _, _, f2⟩ := e2
  cases Option.some.inj (f1.symm.trans f2)
  exact kk q _ H1 (gh_fresh hG h2) rfl ⟨_, h1, h2, gh_push hG (.inl (k, N', .inr (.inr (.inr (.inr (fun _ => none))))))⟩ h3
theorem gh_newi (hexec : p.tables.exec = Jvm.exec) (hb : c.code = cc) {k : Nat} (harr : (Cond.arrayClass .int).before args s = true) (hK : va_K D cl tys s) (ht : tys[k]? = some (AC k, .int)) (hP : gh_h D cl AC A G H) (hS : va_S A H0 H locs) (hA : ∀ q, H0.size ≤ q → A q)
    {n : Int32} {N' : Nat} (hn : ¬ n < 0) (hN : n.toNatClampNeg = N') (hbytes : N' * componentBytes .int ≤ 536870912) (hcells : cells + 1 ≤ R.cells) (hslots : slots + N' ≤ R.slots) (hdg : decode cc pc = .ok (.newarray .int, 2))
    (kk : ∀ (q : Nat) (G1 : gh_H) (H1 : Heap), G q = none → G1 = gh_up G q (.inl (k, N', .inl (fun _ => 0))) → gh_h D cl AC A G1 H1 → va_S A H0 H1 locs →
      W p l e R s m args below meth c H1 locs (cells + 1) (slots + N') Q (F0 m (pc + 2) ls (.ref q :: rest))) : W p l e R s m args below meth c H locs cells slots Q (F0 m pc ls (.int n :: rest)) := by
  obtain ⟨ws, hW, hD, hG⟩ := hP
  refine va_newa (atype := .int) (ty := .int) (N' := N') (a0 := (N', .inl (fun _ => 0))) hexec hb harr rfl hK hW hD hS hA (fun cA => by rw [vp_cell_i]; rfl) hn hN hbytes hcells hslots hdg (fun q cA H1 hK1 h1 h2 h3 => ?_)
  have e1 := (hK1.2 tys.length (cA, .int) (by rw [List.getElem?_append_right (Nat.le_refl _), Nat.sub_self]; rfl)).2
  have e2 := (hK.2 k _ ht).2
  cases Option.some.inj (Eq.trans (Eq.symm e1) e2)
  exact kk q _ H1 (gh_fresh hG h2) rfl ⟨_, h1, h2, gh_push hG (.inl (k, N', .inl (fun _ => 0)))⟩ h3
theorem gh_newl (hexec : p.tables.exec = Jvm.exec) (hb : c.code = cc) {k : Nat} (harr : (Cond.arrayClass .long).before args s = true) (hK : va_K D cl tys s) (ht : tys[k]? = some (AC k, .long)) (hP : gh_h D cl AC A G H) (hS : va_S A H0 H locs) (hA : ∀ q, H0.size ≤ q → A q)
    {n : Int32} {N' : Nat} (hn : ¬ n < 0) (hN : n.toNatClampNeg = N') (hbytes : N' * componentBytes .long ≤ 536870912) (hcells : cells + 1 ≤ R.cells) (hslots : slots + N' ≤ R.slots) (hdg : decode cc pc = .ok (.newarray .long, 2))
    (kk : ∀ (q : Nat) (G1 : gh_H) (H1 : Heap), G q = none → G1 = gh_up G q (.inl (k, N', .inr (.inl (fun _ => 0)))) → gh_h D cl AC A G1 H1 → va_S A H0 H1 locs →
      W p l e R s m args below meth c H1 locs (cells + 1) (slots + N') Q (F0 m (pc + 2) ls (.ref q :: rest))) : W p l e R s m args below meth c H locs cells slots Q (F0 m pc ls (.int n :: rest)) := by
  obtain ⟨ws, hW, hD, hG⟩ := hP
  refine va_newa (atype := .long) (ty := .long) (N' := N') (a0 := (N', .inr (.inl (fun _ => 0)))) hexec hb harr rfl hK hW hD hS hA (fun cA => by rw [vp_cell_l]; rfl) hn hN hbytes hcells hslots hdg (fun q cA H1 hK1 h1 h2 h3 => ?_)
  have e1 := (hK1.2 tys.length (cA, .long) (by rw [List.getElem?_append_right (Nat.le_refl _), Nat.sub_self]; rfl)).2
  have e2 := (hK.2 k _ ht).2
  cases Option.some.inj (Eq.trans (Eq.symm e1) e2)
  exact kk q _ H1 (gh_fresh hG h2) rfl ⟨_, h1, h2, gh_push hG (.inl (k, N', .inr (.inl (fun _ => 0))))⟩ h3
theorem gh_newz (hexec : p.tables.exec = Jvm.exec) (hb : c.code = cc) {k : Nat} (harr : (Cond.arrayClass .boolean).before args s = true) (hK : va_K D cl tys s) (ht : tys[k]? = some (AC k, .boolean)) (hP : gh_h D cl AC A G H) (hS : va_S A H0 H locs) (hA : ∀ q, H0.size ≤ q → A q)
    {n : Int32} {N' : Nat} (hn : ¬ n < 0) (hN : n.toNatClampNeg = N') (hbytes : N' * componentBytes .boolean ≤ 536870912) (hcells : cells + 1 ≤ R.cells) (hslots : slots + N' ≤ R.slots) (hdg : decode cc pc = .ok (.newarray .boolean, 2))
    (kk : ∀ (q : Nat) (G1 : gh_H) (H1 : Heap), G q = none → G1 = gh_up G q (.inl (k, N', .inl (fun _ => 0))) → gh_h D cl AC A G1 H1 → va_S A H0 H1 locs →
      W p l e R s m args below meth c H1 locs (cells + 1) (slots + N') Q (F0 m (pc + 2) ls (.ref q :: rest))) : W p l e R s m args below meth c H locs cells slots Q (F0 m pc ls (.int n :: rest)) := by
  obtain ⟨ws, hW, hD, hG⟩ := hP
  refine va_newa (atype := .boolean) (ty := .boolean) (N' := N') (a0 := (N', .inl (fun _ => 0))) hexec hb harr rfl hK hW hD hS hA (fun cA => by rw [vp_cell_i]; rfl) hn hN hbytes hcells hslots hdg (fun q cA H1 hK1 h1 h2 h3 => ?_)
  have e1 := (hK1.2 tys.length (cA, .boolean) (by rw [List.getElem?_append_right (Nat.le_refl _), Nat.sub_self]; rfl)).2
  have e2 := (hK.2 k _ ht).2
  cases Option.some.inj (Eq.trans (Eq.symm e1) e2)
  exact kk q _ H1 (gh_fresh hG h2) rfl ⟨_, h1, h2, gh_push hG (.inl (k, N', .inl (fun _ => 0)))⟩ h3
theorem gh_zast (hexec : p.tables.exec = Jvm.exec) (hb : c.code = cc) (hK : va_K D cl tys s) (hP : gh_h D cl AC A G H) (hS : va_S A H0 H locs) {k n : Nat} {f : Nat → Int32} (he : G a = some (.inl (k, n, .inl f))) (ht : tys[k]? = some (AC k, .boolean)) {i x : Int32} (hin : vp_in i n) (hdg : decode cc pc = .ok (.bastore, 1))
    (kk : ∀ (G1 : gh_H) (H1 : Heap) (locs1 : List Loc), G1 = gh_up G a (.inl (k, n, .inl (upd f i.toNatClampNeg (vp_nar .boolean x)))) → gh_h D cl AC A G1 H1 → va_S A H0 H1 locs1 → W p l e R s m args below meth c H1 locs1 cells slots Q (F0 m (pc + 1) ls rest)) : W p l e R s m args below meth c H locs cells slots Q (F0 m pc ls (.int x :: .int i :: .ref a :: rest)) := by
  obtain ⟨ws, hW, hD, hG⟩ := hP
  obtain ⟨q0, hq⟩ := hG a _ he
  exact va_zast hexec hb hK hW hD hS q0 k hq ht hin hdg (fun H1 locs1 h1 h2 h3 => kk _ H1 locs1 rfl ⟨_, h1, h2, gh_set (A := A) hG hq _⟩ h3)
end GHR
end
section
/-! Contracts over the ghost heap, ends, calls. 'post r G' is what the walk behind it wants; 'px E G' what it wants where E is thrown. -/
section GHC
def gh_B (D : va_G) (cl : List vw_C) (AC : Nat → ClassId) (A : Nat → Prop) : gh_H → State → Prop := fun G t => gh_h D cl AC A G t.heap
def gh_X (D : va_G) (cl : List vw_C) (AC : Nat → ClassId) (px : String → gh_H → Prop) (A : Nat → Prop) : String → State → State → Prop := vx_X (fun u : String × gh_H => px u.1 u.2) (fun E u t => E = u.1 ∧ gh_h D cl AC A u.2 t.heap) A
/-- the words of the tables that no list of words carries, and the statics that a throw reads: Env A U H -/
def gh_Pc (D : va_G) (cl : List vw_C) (AC : Nat → ClassId) (tys : List (ClassId × FieldType)) (Env : (Nat → Prop) → State → Heap → Prop) (G : gh_H) (sz : Nat) (av : List Value) : Array Value → State → Prop :=
  va_Pc av (fun U => U.heap.size = sz ∧ gh_h D cl AC (gh_A G sz) G U.heap ∧ va_K D cl tys U ∧ Env (gh_A G sz) U U.heap)
/-- what Env must bear: other frames over the same tables, a warmer machine, writes in A, a smaller A -/
def gh_Ok (Env : (Nat → Prop) → State → Heap → Prop) : Prop :=
  (∀ (A : Nat → Prop) (U U' : State) (H : Heap), U.vm = U'.vm → Env A U H → Env A U' H) ∧
  (∀ (A B : Nat → Prop) (s U : State) (H : Heap), s.WarmedH U.vm → (∀ q, B q → A q) → (∀ q : Nat, q < s.heap.size → ¬ A q → H[q]? = s.heap[q]?) → Env A s s.heap → Env B U H)
theorem gh_blind {D : va_G} {cl : List vw_C} {AC : Nat → ClassId} {tys : List (ClassId × FieldType)} {Env : (Nat → Prop) → State → Heap → Prop} (hO : gh_Ok Env) {G : gh_H} {sz : Nat} {av : List Value} : FrameBlind (gh_Pc D cl AC tys Env G sz av) := by
  intro a U g mk q
  obtain ⟨q0, q1, qP, qK, qE⟩ := q
  exact ⟨q0, q1, qP, va_K.moved (u := U) (U := U.calling g mk a) (Vm.Alike.refl U.vm) qK, hO.1 _ U (U.calling g mk a) _ rfl qE⟩
section GHC2
variable {p : Program} {l : Launch} {e : Env} {R : Room} {s : State} {m : MethodId} {args : Array Value} {below : List Frame} {meth : Method} {c : Code} {H : Heap} {locs : List Loc} {cells slots : Nat} {Q : State → Prop}
variable {cc : ByteArray} {pc : Nat} {ls : Array Slot} {rest st0 : List Value} {D : va_G} {cl : List vw_C} {AC : Nat → ClassId} {A : Nat → Prop} {tys : List (ClassId × FieldType)} {G : gh_H} {En : (Nat → Prop) → State → Heap → Prop}
variable {px : String → gh_H → Prop} {Qc : Array Value → State → Outcome → State → Prop} {mc ms mc' ms' : Nat} {a : Array Value}
theorem gh_pre (hO : gh_Ok En) (hK : va_K D cl tys s) (hE : En A s s.heap) (hP : gh_h D cl AC A G H) (hS : va_S A s.heap H locs) (hA : ∀ q, s.heap.size ≤ q → A q) (As : List Value) : PreS s H (gh_Pc D cl AC tys En G H.size As) As := by
  refine ⟨gh_blind hO, fun U hU hW => ⟨rfl, by rw [hU], by rw [hU]; exact hP.selfA, va_K.moved hW.alike hK, ?_⟩⟩
  rw [hU]
  exact hO.2 A _ s U H hW (hP.subA hS hA) hS.2.1 hE
theorem gh_preV (hO : gh_Ok En) (hK : va_K D cl tys s) (hE : En A s s.heap) (hP : gh_h D cl AC A G H) (hS : va_S A s.heap H locs) (hA : ∀ q, s.heap.size ≤ q → A q) {b ci : Nat} {C : String} {T : u_T} {N : Nat} {fs : List Value} (he : G b = some (.inr (ci, fs))) (hc : cl[ci]? = some (C, T, N)) (As : List Value) : PreV s H C b (gh_Pc D cl AC tys En G H.size (.ref b :: As)) As := by
  obtain ⟨h1, h2⟩ := gh_pre hO hK hE hP hS hA (.ref b :: As)
  obtain ⟨ws, hW, -, hG⟩ := hP
  obtain ⟨q0, hq⟩ := hG b _ he
  exact ⟨h1, va_recv hK hW hc hq, h2⟩
theorem gh_iret {post : Int32 → gh_H → Prop} (hx : p.tables.exec = Jvm.exec) (hb : c.code = cc) (hr : meth.sig.returnType = some .int) (hlocks : meth.locks = false) {v : Int32} (hq : post v G) (hP : gh_h D cl AC A G H) (hS : va_S A s.heap H locs) (hc : cells ≤ mc) (hs : slots ≤ ms) (hdg : decode cc pc = .ok (.ireturn, 1)) :
    W p l e R s m args below meth c H locs cells slots (vx_MQ below (va_Qi post (gh_B D cl AC A) A) (gh_X D cl AC px A) args s mc ms A) (F0 m pc ls [.int v]) :=
  W.widen hc hs (vx_ret (W.iret (v := v) hx hb hr (fun t ht _ => ⟨⟨v, G, rfl, hq, by show gh_h D cl AC A G t.heap; rw [ht]; exact hP⟩, hS.F ht⟩) hS.2.2 hdg hlocks))
theorem gh_zret {post : Int32 → gh_H → Prop} {ty : FieldType} (hx : p.tables.exec = Jvm.exec) (hb : c.code = cc) (hr : meth.sig.returnType = some ty) (hlocks : meth.locks = false) {v : Int32} (hn : narrow ty (.int v) = .int v) (hq : post v G) (hP : gh_h D cl AC A G H) (hS : va_S A s.heap H locs) (hc : cells ≤ mc) (hs : slots ≤ ms) (hdg : decode cc pc = .ok (.ireturn, 1)) :
    W p l e R s m args below meth c H locs cells slots (vx_MQ below (va_Qi post (gh_B D cl AC A) A) (gh_X D cl AC px A) args s mc ms A) (F0 m pc ls [.int v]) :=
  W.widen hc hs (vx_ret (W.zret (v := v) hx hb hr hn (fun t ht _ => ⟨⟨v, G, rfl, hq, by show gh_h D cl AC A G t.heap; rw [ht]; exact hP⟩, hS.F ht⟩) hS.2.2 hdg hlocks))
theorem gh_lret {post : Int64 → gh_H → Prop} (hx : p.tables.exec = Jvm.exec) (hb : c.code = cc) (hr : meth.sig.returnType = some .long) (hlocks : meth.locks = false) {v : Int64} (hq : post v G) (hP : gh_h D cl AC A G H) (hS : va_S A s.heap H locs) (hc : cells ≤ mc) (hs : slots ≤ ms) (hdg : decode cc pc = .ok (.lreturn, 1)) :
    W p l e R s m args below meth c H locs cells slots (vx_MQ below (va_Ql post (gh_B D cl AC A) A) (gh_X D cl AC px A) args s mc ms A) (F0 m pc ls [.long v]) :=
  W.widen hc hs (vx_ret (W.lret (v := v) hx hb hr (fun t ht _ => ⟨⟨v, G, rfl, hq, by show gh_h D cl AC A G t.heap; rw [ht]; exact hP⟩, hS.F ht⟩) hS.2.2 hdg hlocks))
theorem gh_vret {post : gh_H → Prop} (hx : p.tables.exec = Jvm.exec) (hb : c.code = cc) (hr : meth.sig.returnType = none) (hlocks : meth.locks = false) (hq : post G) (hP : gh_h D cl AC A G H) (hS : va_S A s.heap H locs) (hc : cells ≤ mc) (hs : slots ≤ ms) (hdg : decode cc pc = .ok (.return_, 1)) :
    W p l e R s m args below meth c H locs cells slots (vx_MQ below (va_Qv post (gh_B D cl AC A) A) (gh_X D cl AC px A) args s mc ms A) (F0 m pc ls []) :=
  W.widen hc hs (vx_ret (W.vret hx hb hr (fun t ht _ => ⟨⟨G, rfl, hq, by show gh_h D cl AC A G t.heap; rw [ht]; exact hP⟩, hS.F ht⟩) hS.2.2 hdg hlocks))
theorem gh_aret {post : Option Nat → gh_H → Prop} {rt : String} (hx : p.tables.exec = Jvm.exec) (hb : c.code = cc) (hr : meth.sig.returnType = some (.object rt)) (hlocks : meth.locks = false) {o : Option Nat} (hq : post o G) (hP : gh_h D cl AC A G H) (hS : va_S A s.heap H locs) (hc : cells ≤ mc) (hs : slots ≤ ms) (hdg : decode cc pc = .ok (.areturn, 1)) :
    W p l e R s m args below meth c H locs cells slots (vx_MQ below (va_Qq post (gh_B D cl AC A) A) (gh_X D cl AC px A) args s mc ms A) (F0 m pc ls [va_rf o]) :=
  W.widen hc hs (vx_ret (W.aret (v := va_rf o) hx hb hr (Or.inl ⟨_, rfl⟩) (va_rf_or o) (fun t ht _ => ⟨⟨o, G, rfl, hq, by show gh_h D cl AC A G t.heap; rw [ht]; exact hP⟩, hS.F ht⟩) hS.2.2 hdg hlocks))
/-- it is thrown on, to the caller -/
theorem gh_out {E : String} {ce : Cell} {q : Addr} (hlocks : meth.locks = false) (hout : ∀ x ∈ c.exceptionTable.toList, covers x pc = false) (hcell : H[q]? = some ce) (hv : ce.vm = .none) (hcl : s.vm.findClass E = some ce.cls) (hp : px E G) (hP : gh_h D cl AC A G H) (hS : va_S A s.heap H locs) (hc : cells ≤ mc) (hs : slots ≤ ms) :
    vx_W p l e R s m args below meth c H locs cells slots (vx_MQ below Qc (gh_X D cl AC px A) args s mc ms A) (F0 m pc ls rest) q :=
  vx_out hout hlocks hcell hv hcl (fun t ht _ => ⟨(E, G), hp, ⟨rfl, by show gh_h D cl AC A G t.heap; rw [ht]; exact hP⟩, hS.F ht⟩) hS.2.2 hc hs
/-- a call, whatever is done with what it throws -/
theorem gh_cxi {post' : Int32 → gh_H → Prop} {px' : String → gh_H → Prop} (hr : vx_Run p l e R s m args below meth c H locs cells slots mc' ms' (F0 m pc ls st0) rest (va_Qi post' (gh_B D cl AC (gh_A G H.size)) (gh_A G H.size) a) (gh_X D cl AC px' (gh_A G H.size)) (gh_A G H.size)) (hP : gh_h D cl AC A G H) (hS : va_S A s.heap H locs) (hA : ∀ q, s.heap.size ≤ q → A q)
    (kx : ∀ (E : String) (ce : Cell) (q9 : Addr) (G1 : gh_H) (H1 : Heap) (locs1 : List Loc), px' E G1 → gh_h D cl AC A G1 H1 → va_S A s.heap H1 locs1 → H1[q9]? = some ce → ce.vm = .none → s.vm.findClass E = some ce.cls → vx_W p l e R s m args below meth c H1 locs1 (cells + mc') (slots + ms') Q (F0 m pc ls rest) q9)
    (kk : ∀ (r : Int32) (G1 : gh_H) (H1 : Heap) (locs1 : List Loc), post' r G1 → gh_h D cl AC A G1 H1 → va_S A s.heap H1 locs1 → W p l e R s m args below meth c H1 locs1 (cells + mc') (slots + ms') Q (F0 m (pc + 3) ls (.int r :: rest))) : W p l e R s m args below meth c H locs cells slots Q (F0 m pc ls st0) :=
  vx_calli hr hS (fun q _ h => hP.subA hS hA q h) (hP.subA hS hA) (fun q _ h => hP.subA hS hA q h)
    (fun E ce q9 u t H1 locs1 ht _ hp hb _ _ hS1 h1 h2 h3 => kx E ce q9 u.2 H1 locs1 (by rw [hb.1]; exact hp) (by rw [← ht]; exact hb.2.weaken (hP.subA hS hA)) hS1 h1 h2 h3)
    (fun r u t H1 locs1 ht _ hp hb _ _ hS1 => kk r u H1 locs1 hp (by rw [← ht]; exact gh_h.weaken hb (hP.subA hS hA)) hS1)
theorem gh_cxl {post' : Int64 → gh_H → Prop} {px' : String → gh_H → Prop} (hr : vx_Run p l e R s m args below meth c H locs cells slots mc' ms' (F0 m pc ls st0) rest (va_Ql post' (gh_B D cl AC (gh_A G H.size)) (gh_A G H.size) a) (gh_X D cl AC px' (gh_A G H.size)) (gh_A G H.size)) (hP : gh_h D cl AC A G H) (hS : va_S A s.heap H locs) (hA : ∀ q, s.heap.size ≤ q → A q)
    (kx : ∀ (E : String) (ce : Cell) (q9 : Addr) (G1 : gh_H) (H1 : Heap) (locs1 : List Loc), px' E G1 → gh_h D cl AC A G1 H1 → va_S A s.heap H1 locs1 → H1[q9]? = some ce → ce.vm = .none → s.vm.findClass E = some ce.cls → vx_W p l e R s m args below meth c H1 locs1 (cells + mc') (slots + ms') Q (F0 m pc ls rest) q9)
    (kk : ∀ (r : Int64) (G1 : gh_H) (H1 : Heap) (locs1 : List Loc), post' r G1 → gh_h D cl AC A G1 H1 → va_S A s.heap H1 locs1 → W p l e R s m args below meth c H1 locs1 (cells + mc') (slots + ms') Q (F0 m (pc + 3) ls (.long r :: rest))) : W p l e R s m args below meth c H locs cells slots Q (F0 m pc ls st0) :=
  vx_calll hr hS (fun q _ h => hP.subA hS hA q h) (hP.subA hS hA) (fun q _ h => hP.subA hS hA q h)
    (fun E ce q9 u t H1 locs1 ht _ hp hb _ _ hS1 h1 h2 h3 => kx E ce q9 u.2 H1 locs1 (by rw [hb.1]; exact hp) (by rw [← ht]; exact hb.2.weaken (hP.subA hS hA)) hS1 h1 h2 h3)
    (fun r u t H1 locs1 ht _ hp hb _ _ hS1 => kk r u H1 locs1 hp (by rw [← ht]; exact gh_h.weaken hb (hP.subA hS hA)) hS1)
theorem gh_cxq {post' : Option Nat → gh_H → Prop} {px' : String → gh_H → Prop} (hr : vx_Run p l e R s m args below meth c H locs cells slots mc' ms' (F0 m pc ls st0) rest (va_Qq post' (gh_B D cl AC (gh_A G H.size)) (gh_A G H.size) a) (gh_X D cl AC px' (gh_A G H.size)) (gh_A G H.size)) (hP : gh_h D cl AC A G H) (hS : va_S A s.heap H locs) (hA : ∀ q, s.heap.size ≤ q → A q)
    (kx : ∀ (E : String) (ce : Cell) (q9 : Addr) (G1 : gh_H) (H1 : Heap) (locs1 : List Loc), px' E G1 → gh_h D cl AC A G1 H1 → va_S A s.heap H1 locs1 → H1[q9]? = some ce → ce.vm = .none → s.vm.findClass E = some ce.cls → vx_W p l e R s m args below meth c H1 locs1 (cells + mc') (slots + ms') Q (F0 m pc ls rest) q9)
    (kk : ∀ (r : Option Nat) (G1 : gh_H) (H1 : Heap) (locs1 : List Loc), post' r G1 → gh_h D cl AC A G1 H1 → va_S A s.heap H1 locs1 → W p l e R s m args below meth c H1 locs1 (cells + mc') (slots + ms') Q (F0 m (pc + 3) ls (va_rf r :: rest))) : W p l e R s m args below meth c H locs cells slots Q (F0 m pc ls st0) :=
  gx_callq hr hS (fun q _ h => hP.subA hS hA q h) (hP.subA hS hA) (fun q _ h => hP.subA hS hA q h)
    (fun E ce q9 u t H1 locs1 ht _ hp hb _ _ hS1 h1 h2 h3 => kx E ce q9 u.2 H1 locs1 (by rw [hb.1]; exact hp) (by rw [← ht]; exact hb.2.weaken (hP.subA hS hA)) hS1 h1 h2 h3)
    (fun r u t H1 locs1 ht _ hp hb _ _ hS1 => kk r u H1 locs1 hp (by rw [← ht]; exact gh_h.weaken hb (hP.subA hS hA)) hS1)
theorem gh_cxv {post' : gh_H → Prop} {px' : String → gh_H → Prop} (hr : vx_Run p l e R s m args below meth c H locs cells slots mc' ms' (F0 m pc ls st0) rest (va_Qv post' (gh_B D cl AC (gh_A G H.size)) (gh_A G H.size) a) (gh_X D cl AC px' (gh_A G H.size)) (gh_A G H.size)) (hP : gh_h D cl AC A G H) (hS : va_S A s.heap H locs) (hA : ∀ q, s.heap.size ≤ q → A q)
    (kx : ∀ (E : String) (ce : Cell) (q9 : Addr) (G1 : gh_H) (H1 : Heap) (locs1 : List Loc), px' E G1 → gh_h D cl AC A G1 H1 → va_S A s.heap H1 locs1 → H1[q9]? = some ce → ce.vm = .none → s.vm.findClass E = some ce.cls → vx_W p l e R s m args below meth c H1 locs1 (cells + mc') (slots + ms') Q (F0 m pc ls rest) q9)
    (kk : ∀ (G1 : gh_H) (H1 : Heap) (locs1 : List Loc), post' G1 → gh_h D cl AC A G1 H1 → va_S A s.heap H1 locs1 → W p l e R s m args below meth c H1 locs1 (cells + mc') (slots + ms') Q (F0 m (pc + 3) ls rest)) : W p l e R s m args below meth c H locs cells slots Q (F0 m pc ls st0) :=
  vx_callv hr hS (fun q _ h => hP.subA hS hA q h) (hP.subA hS hA) (fun q _ h => hP.subA hS hA q h)
    (fun E ce q9 u t H1 locs1 ht _ hp hb _ _ hS1 h1 h2 h3 => kx E ce q9 u.2 H1 locs1 (by rw [hb.1]; exact hp) (by rw [← ht]; exact hb.2.weaken (hP.subA hS hA)) hS1 h1 h2 h3)
    (fun u t H1 locs1 ht _ hp hb _ _ hS1 => kk u H1 locs1 hp (by rw [← ht]; exact gh_h.weaken hb (hP.subA hS hA)) hS1)
/-- a call in a method that catches nothing there -/
theorem gh_ci {post' : Int32 → gh_H → Prop} (hlocks : meth.locks = false) (hout : ∀ x ∈ c.exceptionTable.toList, covers x pc = false) (hr : vx_Run p l e R s m args below meth c H locs cells slots mc' ms' (F0 m pc ls st0) rest (va_Qi post' (gh_B D cl AC (gh_A G H.size)) (gh_A G H.size) a) (gh_X D cl AC px (gh_A G H.size)) (gh_A G H.size)) (hP : gh_h D cl AC A G H) (hS : va_S A s.heap H locs) (hA : ∀ q, s.heap.size ≤ q → A q) (hc : cells + mc' ≤ mc) (hs : slots + ms' ≤ ms)
    (kk : ∀ (r : Int32) (G1 : gh_H) (H1 : Heap) (locs1 : List Loc), post' r G1 → gh_h D cl AC A G1 H1 → va_S A s.heap H1 locs1 → W p l e R s m args below meth c H1 locs1 (cells + mc') (slots + ms') (vx_MQ below Qc (gh_X D cl AC px A) args s mc ms A) (F0 m (pc + 3) ls (.int r :: rest))) : W p l e R s m args below meth c H locs cells slots (vx_MQ below Qc (gh_X D cl AC px A) args s mc ms A) (F0 m pc ls st0) :=
  gh_cxi hr hP hS hA (fun E ce q9 G1 H1 locs1 hp hP1 hS1 h1 h2 h3 => gh_out hlocks hout h1 h2 h3 hp hP1 hS1 hc hs) kk
theorem gh_cl {post' : Int64 → gh_H → Prop} (hlocks : meth.locks = false) (hout : ∀ x ∈ c.exceptionTable.toList, covers x pc = false) (hr : vx_Run p l e R s m args below meth c H locs cells slots mc' ms' (F0 m pc ls st0) rest (va_Ql post' (gh_B D cl AC (gh_A G H.size)) (gh_A G H.size) a) (gh_X D cl AC px (gh_A G H.size)) (gh_A G H.size)) (hP : gh_h D cl AC A G H) (hS : va_S A s.heap H locs) (hA : ∀ q, s.heap.size ≤ q → A q) (hc : cells + mc' ≤ mc) (hs : slots + ms' ≤ ms)
    (kk : ∀ (r : Int64) (G1 : gh_H) (H1 : Heap) (locs1 : List Loc), post' r G1 → gh_h D cl AC A G1 H1 → va_S A s.heap H1 locs1 → W p l e R s m args below meth c H1 locs1 (cells + mc') (slots + ms') (vx_MQ below Qc (gh_X D cl AC px A) args s mc ms A) (F0 m (pc + 3) ls (.long r :: rest))) : W p l e R s m args below meth c H locs cells slots (vx_MQ below Qc (gh_X D cl AC px A) args s mc ms A) (F0 m pc ls st0) :=
  gh_cxl hr hP hS hA (fun E ce q9 G1 H1 locs1 hp hP1 hS1 h1 h2 h3 => gh_out hlocks hout h1 h2 h3 hp hP1 hS1 hc hs) kk
theorem gh_cq {post' : Option Nat → gh_H → Prop} (hlocks : meth.locks = false) (hout : ∀ x ∈ c.exceptionTable.toList, covers x pc = false) (hr : vx_Run p l e R s m args below meth c H locs cells slots mc' ms' (F0 m pc ls st0) rest (va_Qq post' (gh_B D cl AC (gh_A G H.size)) (gh_A G H.size) a) (gh_X D cl AC px (gh_A G H.size)) (gh_A G H.size)) (hP : gh_h D cl AC A G H) (hS : va_S A s.heap H locs) (hA : ∀ q, s.heap.size ≤ q → A q) (hc : cells + mc' ≤ mc) (hs : slots + ms' ≤ ms)
    (kk : ∀ (r : Option Nat) (G1 : gh_H) (H1 : Heap) (locs1 : List Loc), post' r G1 → gh_h D cl AC A G1 H1 → va_S A s.heap H1 locs1 → W p l e R s m args below meth c H1 locs1 (cells + mc') (slots + ms') (vx_MQ below Qc (gh_X D cl AC px A) args s mc ms A) (F0 m (pc + 3) ls (va_rf r :: rest))) : W p l e R s m args below meth c H locs cells slots (vx_MQ below Qc (gh_X D cl AC px A) args s mc ms A) (F0 m pc ls st0) :=
  gh_cxq hr hP hS hA (fun E ce q9 G1 H1 locs1 hp hP1 hS1 h1 h2 h3 => gh_out hlocks hout h1 h2 h3 hp hP1 hS1 hc hs) kk
theorem gh_cv_ {post' : gh_H → Prop} (hlocks : meth.locks = false) (hout : ∀ x ∈ c.exceptionTable.toList, covers x pc = false) (hr : vx_Run p l e R s m args below meth c H locs cells slots mc' ms' (F0 m pc ls st0) rest (va_Qv post' (gh_B D cl AC (gh_A G H.size)) (gh_A G H.size) a) (gh_X D cl AC px (gh_A G H.size)) (gh_A G H.size)) (hP : gh_h D cl AC A G H) (hS : va_S A s.heap H locs) (hA : ∀ q, s.heap.size ≤ q → A q) (hc : cells + mc' ≤ mc) (hs : slots + ms' ≤ ms)
    (kk : ∀ (G1 : gh_H) (H1 : Heap) (locs1 : List Loc), post' G1 → gh_h D cl AC A G1 H1 → va_S A s.heap H1 locs1 → W p l e R s m args below meth c H1 locs1 (cells + mc') (slots + ms') (vx_MQ below Qc (gh_X D cl AC px A) args s mc ms A) (F0 m (pc + 3) ls rest)) : W p l e R s m args below meth c H locs cells slots (vx_MQ below Qc (gh_X D cl AC px A) args s mc ms A) (F0 m pc ls st0) :=
  gh_cxv hr hP hS hA (fun E ce q9 G1 H1 locs1 hp hP1 hS1 h1 h2 h3 => gh_out hlocks hout h1 h2 h3 hp hP1 hS1 hc hs) kk
end GHC2
end GHC
end
section
/-! references that may be null, in locals and on the stack; calls with a part of the ghost heap set aside -/
section GHQ
variable {p : Program} {l : Launch} {e : Env} {R : Room} {s : State} {m : MethodId} {args : Array Value} {below : List Frame} {meth : Method} {c : Code} {H : Heap} {locs : List Loc} {cells slots : Nat} {Q : State → Prop}
variable {cc : ByteArray} {pc : Nat} {ls : Array Slot} {rest st0 : List Value} {D : va_G} {cl : List vw_C} {AC : Nat → ClassId} {A : Nat → Prop} {tys : List (ClassId × FieldType)} {G Gc F : gh_H} {En : (Nat → Prop) → State → Heap → Prop}
variable {mc' ms' : Nat} {a : Array Value}
theorem gh_cat (o : Option Nat) : (va_rf o).category = 1 := by cases o <;> rfl
theorem gh_aload_n (hexec : p.tables.exec = Jvm.exec) (hb : c.code = cc) {k : Fin 4} {i : Nat} {o : Option Nat} (hdg : decode cc pc = .ok (.aload_n k, 1)) (hi : (k : Nat) = i) (hl : ls[i]? = some (.val (va_rf o)))
    (kk : W p l e R s m args below meth c H locs cells slots Q (F0 m (pc + 1) ls (va_rf o :: rest))) : W p l e R s m args below meth c H locs cells slots Q (F0 m pc ls rest) := by
  cases o with
  | none => exact lv_aload_nN hexec hb hdg hi hl kk
  | some x => exact lv_aload_n hexec hb hdg hi hl kk
theorem gh_aload (hexec : p.tables.exec = Jvm.exec) (hb : c.code = cc) {i : Nat} {o : Option Nat} (hdg : decode cc pc = .ok (.aload i, 2)) (hl : ls[i]? = some (.val (va_rf o)))
    (kk : W p l e R s m args below meth c H locs cells slots Q (F0 m (pc + 2) ls (va_rf o :: rest))) : W p l e R s m args below meth c H locs cells slots Q (F0 m pc ls rest) := by
  cases o with
  | none => exact lv_aloadN hexec hb hdg hl kk
  | some x => exact lv_aload hexec hb hdg hl kk
theorem gh_astore_n (hexec : p.tables.exec = Jvm.exec) (hb : c.code = cc) {k : Fin 4} {i nL : Nat} {o : Option Nat} {lv lv' : List (Nat × Value)} (hdg : decode cc pc = .ok (.astore_n k, 1)) (hi : (k : Nat) = i) (h : lv_has ls nL lv) (hn : i < nL) (hl : (i, va_rf o) :: lv.filter (fun q => !(q.1 == i) && !(q.1 + 1 == i && q.2.category == 2)) = lv')
    (kk : ∀ ls' : Array Slot, lv_has ls' nL lv' → W p l e R s m args below meth c H locs cells slots Q (F0 m (pc + 1) ls' rest)) : W p l e R s m args below meth c H locs cells slots Q (F0 m pc ls (va_rf o :: rest)) := by
  cases o with
  | none => exact lv_astore_nN hexec hb hdg hi h hn hl kk
  | some x => exact lv_astore_n hexec hb hdg hi h hn hl kk
theorem gh_astore (hexec : p.tables.exec = Jvm.exec) (hb : c.code = cc) {i nL : Nat} {o : Option Nat} {lv lv' : List (Nat × Value)} (hdg : decode cc pc = .ok (.astore i, 2)) (h : lv_has ls nL lv) (hn : i < nL) (hl : (i, va_rf o) :: lv.filter (fun q => !(q.1 == i) && !(q.1 + 1 == i && q.2.category == 2)) = lv')
    (kk : ∀ ls' : Array Slot, lv_has ls' nL lv' → W p l e R s m args below meth c H locs cells slots Q (F0 m (pc + 2) ls' rest)) : W p l e R s m args below meth c H locs cells slots Q (F0 m pc ls (va_rf o :: rest)) := by
  cases o with
  | none => exact lv_astoreN hexec hb hdg h hn hl kk
  | some x => exact lv_astore hexec hb hdg h hn hl kk
/-- G in two parts -/
def gh_two (G Gc F : gh_H) : Prop := (∀ a, G a = gh_j Gc F a) ∧ ∀ a, Gc a ≠ none → F a = none
theorem gh_twoL (h : gh_two G Gc F) : ∀ a x, Gc a = some x → G a = some x := by
  intro a x hx
  rw [h.1 a]
  simp [gh_j, hx]
theorem gh_twoR (h : gh_two G Gc F) : ∀ a x, F a = some x → G a = some x := by
  intro a x hx
  rw [h.1 a]
  unfold gh_j
  cases hg : Gc a with
  | none => exact hx
  | some y =>
    have := h.2 a (by rw [hg]; exact fun z => by cases z)
    rw [hx] at this
    cases this
/-- behind the call: the part that came back beside the part that was set aside -/
theorem gh_back {G1 : gh_H} {H1 : Heap} (h2 : gh_two G Gc F) (hP : gh_h D cl AC A G H) (hA1 : ∀ q, gh_A Gc H.size q → A q) (hb : gh_h D cl AC (gh_A Gc H.size) G1 H1) (hk : ∀ q : Nat, q < H.size → ¬ gh_A Gc H.size q → H1[q]? = H[q]?) : gh_h D cl AC A (gh_j G1 F) H1 ∧ ∀ a, G1 a ≠ none → F a = none := by
  have hF : gh_h D cl AC A F H := hP.sub (gh_twoR h2)
  have hlt : ∀ q, F q ≠ none → q < H.size := fun q z => hF.lt z
  have hno : ∀ q, gh_A Gc H.size q → F q = none := by
    intro q hq
    rcases hq with z | z
    · exact h2.2 q z
    · cases hf : F q with
      | none => rfl
      | some x =>
        have := hlt q (by rw [hf]; exact fun z => by cases z)
        omega
  refine ⟨hb.join (hF.kept (fun q z => hk q (hlt q z) (fun y => z (hno q y)))) hno hA1 (fun q z => hF.inA z), fun q z => hno q (hb.inA z)⟩
theorem gh_fxi {post' : Int32 → gh_H → Prop} (h2 : gh_two G Gc F) (hP : gh_h D cl AC A G H) (hS : va_S A s.heap H locs) (hA : ∀ q, s.heap.size ≤ q → A q) (hr : vx_Run p l e R s m args below meth c H locs cells slots mc' ms' (F0 m pc ls st0) rest (va_Qi post' (gh_B D cl AC (gh_A Gc H.size)) (gh_A Gc H.size) a) (gh_X D cl AC (fun _ _ => False) (gh_A Gc H.size)) (gh_A Gc H.size))
    (kk : ∀ (r : Int32) (G1 : gh_H) (H1 : Heap) (locs1 : List Loc), post' r G1 → gh_h D cl AC A (gh_j G1 F) H1 → (∀ a, G1 a ≠ none → F a = none) → va_S A s.heap H1 locs1 → W p l e R s m args below meth c H1 locs1 (cells + mc') (slots + ms') Q (F0 m (pc + 3) ls (.int r :: rest))) : W p l e R s m args below meth c H locs cells slots Q (F0 m pc ls st0) := by
  have hsub : ∀ q, gh_A Gc H.size q → A q := (hP.sub (gh_twoL h2)).subA hS hA
  exact vx_calli hr hS (fun q _ h => hsub q h) hsub (fun q _ h => hsub q h) (fun E ce q9 u t H1 locs1 ht _ hp hb _ _ hS1 h1 h2 h3 => False.elim hp)
    (fun r u t H1 locs1 ht _ hp hb _ hk hS1 => by
      have hb1 : gh_h D cl AC (gh_A Gc H.size) u H1 := by rw [← ht]; exact hb
      obtain ⟨q1, q2⟩ := gh_back h2 hP hsub hb1 hk
      exact kk r u H1 locs1 hp q1 q2 hS1)
theorem gh_fxl {post' : Int64 → gh_H → Prop} (h2 : gh_two G Gc F) (hP : gh_h D cl AC A G H) (hS : va_S A s.heap H locs) (hA : ∀ q, s.heap.size ≤ q → A q) (hr : vx_Run p l e R s m args below meth c H locs cells slots mc' ms' (F0 m pc ls st0) rest (va_Ql post' (gh_B D cl AC (gh_A Gc H.size)) (gh_A Gc H.size) a) (gh_X D cl AC (fun _ _ => False) (gh_A Gc H.size)) (gh_A Gc H.size))
    (kk : ∀ (r : Int64) (G1 : gh_H) (H1 : Heap) (locs1 : List Loc), post' r G1 → gh_h D cl AC A (gh_j G1 F) H1 → (∀ a, G1 a ≠ none → F a = none) → va_S A s.heap H1 locs1 → W p l e R s m args below meth c H1 locs1 (cells + mc') (slots + ms') Q (F0 m (pc + 3) ls (.long r :: rest))) : W p l e R s m args below meth c H locs cells slots Q (F0 m pc ls st0) := by
  have hsub : ∀ q, gh_A Gc H.size q → A q := (hP.sub (gh_twoL h2)).subA hS hA
  exact vx_calll hr hS (fun q _ h => hsub q h) hsub (fun q _ h => hsub q h) (fun E ce q9 u t H1 locs1 ht _ hp hb _ _ hS1 h1 h2 h3 => False.elim hp)
    (fun r u t H1 locs1 ht _ hp hb _ hk hS1 => by
      have hb1 : gh_h D cl AC (gh_A Gc H.size) u H1 := by rw [← ht]; exact hb
      obtain ⟨q1, q2⟩ := gh_back h2 hP hsub hb1 hk
      exact kk r u H1 locs1 hp q1 q2 hS1)
theorem gh_fxv {post' : gh_H → Prop} (h2 : gh_two G Gc F) (hP : gh_h D cl AC A G H) (hS : va_S A s.heap H locs) (hA : ∀ q, s.heap.size ≤ q → A q) (hr : vx_Run p l e R s m args below meth c H locs cells slots mc' ms' (F0 m pc ls st0) rest (va_Qv post' (gh_B D cl AC (gh_A Gc H.size)) (gh_A Gc H.size) a) (gh_X D cl AC (fun _ _ => False) (gh_A Gc H.size)) (gh_A Gc H.size))
    (kk : ∀ (G1 : gh_H) (H1 : Heap) (locs1 : List Loc), post' G1 → gh_h D cl AC A (gh_j G1 F) H1 → (∀ a, G1 a ≠ none → F a = none) → va_S A s.heap H1 locs1 → W p l e R s m args below meth c H1 locs1 (cells + mc') (slots + ms') Q (F0 m (pc + 3) ls rest)) : W p l e R s m args below meth c H locs cells slots Q (F0 m pc ls st0) := by
  have hsub : ∀ q, gh_A Gc H.size q → A q := (hP.sub (gh_twoL h2)).subA hS hA
  exact vx_callv hr hS (fun q _ h => hsub q h) hsub (fun q _ h => hsub q h) (fun E ce q9 u t H1 locs1 ht _ hp hb _ _ hS1 h1 h2 h3 => False.elim hp)
    (fun u t H1 locs1 ht _ hp hb _ hk hS1 => by
      have hb1 : gh_h D cl AC (gh_A Gc H.size) u H1 := by rw [← ht]; exact hb
      obtain ⟨q1, q2⟩ := gh_back h2 hP hsub hb1 hk
      exact kk u H1 locs1 hp q1 q2 hS1)
end GHQ
end
section
/-! Names, by program out of the listing and the tables: fields, methods, words, decode rows. -/
def TX0 : u_T := fun k => match k with
  | 0 => ("OwnerLedger$Batch", "month", "I", true)
  | 1 => ("OwnerLedger$Batch", "rows", "[LOwnerLedger$Row;", true)
  | 2 => ("OwnerLedger$Batch", "rowCount", "I", false)
  | 3 => ("OwnerLedger$Batch", "state", "I", false)
  | 4 => ("OwnerLedger$Batch", "reversedBy", "I", false)
  | _ => ("OwnerLedger$Batch", "reversalOf", "I", false)
def tyX0 : Nat → FieldType := fun k => match k with
  | 0 => .int
  | 1 => (.array (.object "OwnerLedger$Row"))
  | 2 => .int
  | 3 => .int
  | 4 => .int
  | _ => .int
theorem nmX0 : ∀ a, a < 6 → ∀ b, b < 6 → a ≠ b → (TX0 a).2.1 ≠ (TX0 b).2.1 := by decide +kernel
theorem tyX0_ok : ∀ k, k < 6 → parseFieldDescriptor (TX0 k).2.2.1 = some (tyX0 k) := by decide +kernel
def TX1 : u_T := fun k => match k with
  | 0 => ("OwnerLedger$Invoice", "owner", "I", true)
  | 1 => ("OwnerLedger$Invoice", "dueMonth", "I", true)
  | 2 => ("OwnerLedger$Invoice", "open", "J", false)
  | 3 => ("OwnerLedger$Invoice", "stage", "I", false)
  | _ => ("OwnerLedger$Invoice", "disputed", "Z", false)
def tyX1 : Nat → FieldType := fun k => match k with
  | 0 => .int
  | 1 => .int
  | 2 => .long
  | 3 => .int
  | _ => .boolean
theorem nmX1 : ∀ a, a < 5 → ∀ b, b < 5 → a ≠ b → (TX1 a).2.1 ≠ (TX1 b).2.1 := by decide +kernel
theorem tyX1_ok : ∀ k, k < 5 → parseFieldDescriptor (TX1 k).2.2.1 = some (tyX1 k) := by decide +kernel
def TX2 : u_T := fun k => match k with
  | 0 => ("OwnerLedger$Owner", "credit", "J", false)
  | _ => ("OwnerLedger$Owner", "held", "Z", false)
def tyX2 : Nat → FieldType := fun k => match k with
  | 0 => .long
  | _ => .boolean
theorem nmX2 : ∀ a, a < 2 → ∀ b, b < 2 → a ≠ b → (TX2 a).2.1 ≠ (TX2 b).2.1 := by decide +kernel
theorem tyX2_ok : ∀ k, k < 2 → parseFieldDescriptor (TX2 k).2.2.1 = some (tyX2 k) := by decide +kernel
def TX3 : u_T := fun k => match k with
  | 0 => ("OwnerLedger$Row", "account", "I", true)
  | 1 => ("OwnerLedger$Row", "currency", "I", true)
  | 2 => ("OwnerLedger$Row", "cents", "J", true)
  | _ => ("OwnerLedger$Row", "breaking", "Z", false)
def tyX3 : Nat → FieldType := fun k => match k with
  | 0 => .int
  | 1 => .int
  | 2 => .long
  | _ => .boolean
theorem nmX3 : ∀ a, a < 4 → ∀ b, b < 4 → a ≠ b → (TX3 a).2.1 ≠ (TX3 b).2.1 := by decide +kernel
theorem tyX3_ok : ∀ k, k < 4 → parseFieldDescriptor (TX3 k).2.2.1 = some (tyX3 k) := by decide +kernel
def TX4 : u_T := fun k => match k with
  | 0 => ("OwnerLedger", "owners", "[LOwnerLedger$Owner;", true)
  | 1 => ("OwnerLedger", "currencies", "[I", true)
  | 2 => ("OwnerLedger", "batches", "[LOwnerLedger$Batch;", true)
  | 3 => ("OwnerLedger", "invoices", "[LOwnerLedger$Invoice;", true)
  | 4 => ("OwnerLedger", "ownerCount", "I", false)
  | 5 => ("OwnerLedger", "accountCount", "I", false)
  | 6 => ("OwnerLedger", "batchCount", "I", false)
  | 7 => ("OwnerLedger", "invoiceCount", "I", false)
  | 8 => ("OwnerLedger", "currentMonth", "I", false)
  | 9 => ("OwnerLedger", "closedMonths", "I", false)
  | _ => ("OwnerLedger", "yearlyPercents", "I", false)
def tyX4 : Nat → FieldType := fun k => match k with
  | 0 => (.array (.object "OwnerLedger$Owner"))
  | 1 => (.array .int)
  | 2 => (.array (.object "OwnerLedger$Batch"))
  | 3 => (.array (.object "OwnerLedger$Invoice"))
  | 4 => .int
  | 5 => .int
  | 6 => .int
  | 7 => .int
  | 8 => .int
  | 9 => .int
  | _ => .int
theorem nmX4 : ∀ a, a < 11 → ∀ b, b < 11 → a ≠ b → (TX4 a).2.1 ≠ (TX4 b).2.1 := by decide +kernel
theorem tyX4_ok : ∀ k, k < 11 → parseFieldDescriptor (TX4 k).2.2.1 = some (tyX4 k) := by decide +kernel
def TX5 : u_T := fun k => match k with
  | 0 => ("OwnerLedgerModel", "thrownCode", "I", false)
  | 1 => ("OwnerLedgerModel", "now", "I", false)
  | 2 => ("OwnerLedgerModel", "closed", "I", false)
  | 3 => ("OwnerLedgerModel", "owners", "I", false)
  | 4 => ("OwnerLedgerModel", "held", "[Z", true)
  | 5 => ("OwnerLedgerModel", "credits", "[J", true)
  | 6 => ("OwnerLedgerModel", "accounts", "I", false)
  | 7 => ("OwnerLedgerModel", "currency", "[I", true)
  | 8 => ("OwnerLedgerModel", "batches", "I", false)
  | 9 => ("OwnerLedgerModel", "state", "[I", true)
  | 10 => ("OwnerLedgerModel", "monthOf", "[I", true)
  | 11 => ("OwnerLedgerModel", "rows", "[I", true)
  | 12 => ("OwnerLedgerModel", "reversedBy", "[I", true)
  | 13 => ("OwnerLedgerModel", "reverses", "[I", true)
  | 14 => ("OwnerLedgerModel", "rowAccount", "[I", true)
  | 15 => ("OwnerLedgerModel", "rowCents", "[J", true)
  | 16 => ("OwnerLedgerModel", "rowBreaks", "[Z", true)
  | 17 => ("OwnerLedgerModel", "invoices", "I", false)
  | 18 => ("OwnerLedgerModel", "ownerOf", "[I", true)
  | 19 => ("OwnerLedgerModel", "open", "[J", true)
  | 20 => ("OwnerLedgerModel", "due", "[I", true)
  | 21 => ("OwnerLedgerModel", "stage", "[I", true)
  | 22 => ("OwnerLedgerModel", "disputed", "[Z", true)
  | _ => ("OwnerLedgerModel", "percent", "I", false)
def tyX5 : Nat → FieldType := fun k => match k with
  | 0 => .int
  | 1 => .int
  | 2 => .int
  | 3 => .int
  | 4 => (.array .boolean)
  | 5 => (.array .long)
  | 6 => .int
  | 7 => (.array .int)
  | 8 => .int
  | 9 => (.array .int)
  | 10 => (.array .int)
  | 11 => (.array .int)
  | 12 => (.array .int)
  | 13 => (.array .int)
  | 14 => (.array .int)
  | 15 => (.array .long)
  | 16 => (.array .boolean)
  | 17 => .int
  | 18 => (.array .int)
  | 19 => (.array .long)
  | 20 => (.array .int)
  | 21 => (.array .int)
  | 22 => (.array .boolean)
  | _ => .int
theorem nmX5 : ∀ a, a < 24 → ∀ b, b < 24 → a ≠ b → (TX5 a).2.1 ≠ (TX5 b).2.1 := by decide +kernel
theorem tyX5_ok : ∀ k, k < 24 → parseFieldDescriptor (TX5 k).2.2.1 = some (tyX5 k) := by decide +kernel
abbrev vwCl : List vw_C := [("OwnerLedger$Batch", TX0, 6), ("OwnerLedger$Invoice", TX1, 5), ("OwnerLedger$Owner", TX2, 2), ("OwnerLedger$Row", TX3, 4), ("OwnerLedger", TX4, 11), ("OwnerLedgerModel", TX5, 24)]
abbrev yX4_init : MethodName := ⟨"OwnerLedger", "<init>", "()V"⟩
abbrev yX4_owner : MethodName := ⟨"OwnerLedger", "owner", "()I"⟩
abbrev yX4_account : MethodName := ⟨"OwnerLedger", "account", "(II)I"⟩
abbrev yX4_month : MethodName := ⟨"OwnerLedger", "month", "(I)V"⟩
abbrev yX4_close : MethodName := ⟨"OwnerLedger", "close", "(I)I"⟩
abbrev yX4_batch : MethodName := ⟨"OwnerLedger", "batch", "(I)I"⟩
abbrev yX4_row : MethodName := ⟨"OwnerLedger", "row", "(IIJ)I"⟩
abbrev yX4_breaks : MethodName := ⟨"OwnerLedger", "breaks", "(IIZ)V"⟩
abbrev yX4_post : MethodName := ⟨"OwnerLedger", "post", "(I)I"⟩
abbrev yX4_reverse : MethodName := ⟨"OwnerLedger", "reverse", "(I)I"⟩
abbrev yX4_balance : MethodName := ⟨"OwnerLedger", "balance", "(II)J"⟩
abbrev yX4_all : MethodName := ⟨"OwnerLedger", "all", "(I)J"⟩
abbrev yX4_invoice : MethodName := ⟨"OwnerLedger", "invoice", "(IJI)I"⟩
abbrev yX4_pay : MethodName := ⟨"OwnerLedger", "pay", "(IJ)I"⟩
abbrev yX4_settle : MethodName := ⟨"OwnerLedger", "settle", "(IJ)J"⟩
abbrev yX4_dispute : MethodName := ⟨"OwnerLedger", "dispute", "(IZ)J"⟩
abbrev yX4_dun : MethodName := ⟨"OwnerLedger", "dun", "(I)I"⟩
abbrev yX4_rate : MethodName := ⟨"OwnerLedger", "rate", "(I)V"⟩
abbrev yX4_interest : MethodName := ⟨"OwnerLedger", "interest", "(II)J"⟩
abbrev yX4_hold : MethodName := ⟨"OwnerLedger", "hold", "(IZ)I"⟩
abbrev yX4_told : MethodName := ⟨"OwnerLedger", "told", "(II)I"⟩
abbrev yX4_known : MethodName := ⟨"OwnerLedger", "known", "(II)J"⟩
abbrev yX4_credit : MethodName := ⟨"OwnerLedger", "credit", "(I)J"⟩
abbrev yX4_count : MethodName := ⟨"OwnerLedger", "count", "(I)I"⟩
abbrev yX4_requireRange : MethodName := ⟨"OwnerLedger", "requireRange", "(JJJ)V"⟩
abbrev yX4_requireRoom : MethodName := ⟨"OwnerLedger", "requireRoom", "(II)V"⟩
abbrev yX4_requireOpen : MethodName := ⟨"OwnerLedger", "requireOpen", "(LOwnerLedger$Batch;)V"⟩
abbrev yX4_findOwner : MethodName := ⟨"OwnerLedger", "findOwner", "(I)LOwnerLedger$Owner;"⟩
abbrev yX4_currencyOf : MethodName := ⟨"OwnerLedger", "currencyOf", "(I)I"⟩
abbrev yX4_findBatch : MethodName := ⟨"OwnerLedger", "findBatch", "(I)LOwnerLedger$Batch;"⟩
abbrev yX4_findRow : MethodName := ⟨"OwnerLedger", "findRow", "(LOwnerLedger$Batch;I)LOwnerLedger$Row;"⟩
abbrev yX4_findInvoice : MethodName := ⟨"OwnerLedger", "findInvoice", "(I)LOwnerLedger$Invoice;"⟩
abbrev yX4_keepBatch : MethodName := ⟨"OwnerLedger", "keepBatch", "(LOwnerLedger$Batch;)I"⟩
abbrev yX4_firstToPay : MethodName := ⟨"OwnerLedger", "firstToPay", "(I)LOwnerLedger$Invoice;"⟩
abbrev yX4_overdueInvoicesOf : MethodName := ⟨"OwnerLedger", "overdueInvoicesOf", "(I)I"⟩
abbrev yX4_postedBatches : MethodName := ⟨"OwnerLedger", "postedBatches", "()I"⟩
abbrev yX4_unpaidInvoices : MethodName := ⟨"OwnerLedger", "unpaidInvoices", "()I"⟩
abbrev yX4_heldOwners : MethodName := ⟨"OwnerLedger", "heldOwners", "()I"⟩
abbrev yX4_commonDivisor : MethodName := ⟨"OwnerLedger", "commonDivisor", "(JJ)J"⟩
abbrev yX5_init : MethodName := ⟨"OwnerLedgerModel", "<init>", "()V"⟩
abbrev yX5_not : MethodName := ⟨"OwnerLedgerModel", "not", "(JJJ)Z"⟩
abbrev yX5_noOwner : MethodName := ⟨"OwnerLedgerModel", "noOwner", "(I)Z"⟩
abbrev yX5_noBatch : MethodName := ⟨"OwnerLedgerModel", "noBatch", "(I)Z"⟩
abbrev yX5_noInvoice : MethodName := ⟨"OwnerLedgerModel", "noInvoice", "(I)Z"⟩
abbrev yX5_overdue : MethodName := ⟨"OwnerLedgerModel", "overdue", "(I)Z"⟩
abbrev yX5_overdues : MethodName := ⟨"OwnerLedgerModel", "overdues", "(I)I"⟩
abbrev yX5_sumOf : MethodName := ⟨"OwnerLedgerModel", "sumOf", "(II)J"⟩
abbrev yX5_newBatch : MethodName := ⟨"OwnerLedgerModel", "newBatch", "(I)V"⟩
abbrev yX5_meet : MethodName := ⟨"OwnerLedgerModel", "meet", "(IJ)J"⟩
abbrev yX5_thrown : MethodName := ⟨"OwnerLedgerModel", "thrown", "()I"⟩
abbrev yX5_owner : MethodName := ⟨"OwnerLedgerModel", "owner", "()I"⟩
abbrev yX5_account : MethodName := ⟨"OwnerLedgerModel", "account", "(II)I"⟩
abbrev yX5_month : MethodName := ⟨"OwnerLedgerModel", "month", "(I)V"⟩
abbrev yX5_close : MethodName := ⟨"OwnerLedgerModel", "close", "(I)I"⟩
abbrev yX5_batch : MethodName := ⟨"OwnerLedgerModel", "batch", "(I)I"⟩
abbrev yX5_row : MethodName := ⟨"OwnerLedgerModel", "row", "(IIJ)I"⟩
abbrev yX5_breaks : MethodName := ⟨"OwnerLedgerModel", "breaks", "(IIZ)V"⟩
abbrev yX5_post : MethodName := ⟨"OwnerLedgerModel", "post", "(I)I"⟩
abbrev yX5_reverse : MethodName := ⟨"OwnerLedgerModel", "reverse", "(I)I"⟩
abbrev yX5_balance : MethodName := ⟨"OwnerLedgerModel", "balance", "(II)J"⟩
abbrev yX5_all : MethodName := ⟨"OwnerLedgerModel", "all", "(I)J"⟩
abbrev yX5_invoice : MethodName := ⟨"OwnerLedgerModel", "invoice", "(IJI)I"⟩
abbrev yX5_pay : MethodName := ⟨"OwnerLedgerModel", "pay", "(IJ)I"⟩
abbrev yX5_settle : MethodName := ⟨"OwnerLedgerModel", "settle", "(IJ)J"⟩
abbrev yX5_dispute : MethodName := ⟨"OwnerLedgerModel", "dispute", "(IZ)J"⟩
abbrev yX5_dun : MethodName := ⟨"OwnerLedgerModel", "dun", "(I)I"⟩
abbrev yX5_rate : MethodName := ⟨"OwnerLedgerModel", "rate", "(I)V"⟩
abbrev yX5_interest : MethodName := ⟨"OwnerLedgerModel", "interest", "(II)J"⟩
abbrev yX5_hold : MethodName := ⟨"OwnerLedgerModel", "hold", "(IZ)I"⟩
abbrev yX5_told : MethodName := ⟨"OwnerLedgerModel", "told", "(II)I"⟩
abbrev yX5_known : MethodName := ⟨"OwnerLedgerModel", "known", "(II)J"⟩
abbrev yX5_credit : MethodName := ⟨"OwnerLedgerModel", "credit", "(I)J"⟩
abbrev yX5_count : MethodName := ⟨"OwnerLedgerModel", "count", "(I)I"⟩
abbrev yX0_init : MethodName := ⟨"OwnerLedger$Batch", "<init>", "(I)V"⟩
abbrev yX0_addRow : MethodName := ⟨"OwnerLedger$Batch", "addRow", "(LOwnerLedger$Row;)V"⟩
abbrev yX0_copyOpposites : MethodName := ⟨"OwnerLedger$Batch", "copyOpposites", "(LOwnerLedger$Batch;)V"⟩
abbrev yX0_firstBreaking : MethodName := ⟨"OwnerLedger$Batch", "firstBreaking", "()I"⟩
abbrev yX0_sumsToZero : MethodName := ⟨"OwnerLedger$Batch", "sumsToZero", "()Z"⟩
abbrev yX0_sumOfCurrency : MethodName := ⟨"OwnerLedger$Batch", "sumOfCurrency", "(I)J"⟩
abbrev yX0_sumOfAccount : MethodName := ⟨"OwnerLedger$Batch", "sumOfAccount", "(I)J"⟩
abbrev yX1_init : MethodName := ⟨"OwnerLedger$Invoice", "<init>", "(IJI)V"⟩
abbrev yX1_takeFrom : MethodName := ⟨"OwnerLedger$Invoice", "takeFrom", "(J)J"⟩
abbrev yX1_isOverdue : MethodName := ⟨"OwnerLedger$Invoice", "isOverdue", "(I)Z"⟩
abbrev yX1_monthsOverdue : MethodName := ⟨"OwnerLedger$Invoice", "monthsOverdue", "(I)I"⟩
abbrev yX2_init : MethodName := ⟨"OwnerLedger$Owner", "<init>", "()V"⟩
abbrev yX3_init : MethodName := ⟨"OwnerLedger$Row", "<init>", "(IIJ)V"⟩
abbrev yL_owner : MethodName := ⟨"OwnerLedgerLaw", "owner", "(LOwnerLedger;[J)I"⟩
abbrev yL_account : MethodName := ⟨"OwnerLedgerLaw", "account", "(LOwnerLedger;II[J)I"⟩
abbrev yL_month : MethodName := ⟨"OwnerLedgerLaw", "month", "(LOwnerLedger;I)I"⟩
abbrev yL_close : MethodName := ⟨"OwnerLedgerLaw", "close", "(LOwnerLedger;I[J)I"⟩
abbrev yL_batch : MethodName := ⟨"OwnerLedgerLaw", "batch", "(LOwnerLedger;I[J)I"⟩
abbrev yL_row : MethodName := ⟨"OwnerLedgerLaw", "row", "(LOwnerLedger;IIJ[J)I"⟩
abbrev yL_breaks : MethodName := ⟨"OwnerLedgerLaw", "breaks", "(LOwnerLedger;IIZ)I"⟩
abbrev yL_post : MethodName := ⟨"OwnerLedgerLaw", "post", "(LOwnerLedger;I[J)I"⟩
abbrev yL_reverse : MethodName := ⟨"OwnerLedgerLaw", "reverse", "(LOwnerLedger;I[J)I"⟩
abbrev yL_balance : MethodName := ⟨"OwnerLedgerLaw", "balance", "(LOwnerLedger;II[J)I"⟩
abbrev yL_all : MethodName := ⟨"OwnerLedgerLaw", "all", "(LOwnerLedger;I[J)I"⟩
abbrev yL_invoice : MethodName := ⟨"OwnerLedgerLaw", "invoice", "(LOwnerLedger;IJI[J)I"⟩
abbrev yL_pay : MethodName := ⟨"OwnerLedgerLaw", "pay", "(LOwnerLedger;IJ[J)I"⟩
abbrev yL_settle : MethodName := ⟨"OwnerLedgerLaw", "settle", "(LOwnerLedger;IJ[J)I"⟩
abbrev yL_dispute : MethodName := ⟨"OwnerLedgerLaw", "dispute", "(LOwnerLedger;IZ[J)I"⟩
abbrev yL_dun : MethodName := ⟨"OwnerLedgerLaw", "dun", "(LOwnerLedger;I[J)I"⟩
abbrev yL_rate : MethodName := ⟨"OwnerLedgerLaw", "rate", "(LOwnerLedger;I)I"⟩
abbrev yL_interest : MethodName := ⟨"OwnerLedgerLaw", "interest", "(LOwnerLedger;II[J)I"⟩
abbrev yL_hold : MethodName := ⟨"OwnerLedgerLaw", "hold", "(LOwnerLedger;IZ[J)I"⟩
abbrev yL_told : MethodName := ⟨"OwnerLedgerLaw", "told", "(LOwnerLedger;II[J)I"⟩
abbrev yL_known : MethodName := ⟨"OwnerLedgerLaw", "known", "(LOwnerLedger;II[J)I"⟩
abbrev yL_credit : MethodName := ⟨"OwnerLedgerLaw", "credit", "(LOwnerLedger;I[J)I"⟩
def gT0 : List Cond := [(Jvm.Cond.initialized "OwnerLedgerLaw"), (Jvm.Cond.initialized "OwnerLedger"), (Jvm.Cond.initialized "OwnerLedgerModel"), (Jvm.Cond.initialized "java/lang/UnsupportedOperationException"), (Jvm.Cond.initialized "OwnerLedger$Owner"), (Jvm.Cond.initialized "java/util/NoSuchElementException"), (Jvm.Cond.initialized "java/lang/IllegalArgumentException"), (Jvm.Cond.initialized "java/lang/IllegalStateException"), (Jvm.Cond.initialized "OwnerLedger$Batch"), (Jvm.Cond.initialized "OwnerLedger$Row"), (Jvm.Cond.initialized "OwnerLedger$Invoice"), (Jvm.Cond.initialized "java/lang/Math"), (Jvm.Cond.classLink "OwnerLedgerLaw" (8 : Nat) "OwnerLedger"), (Jvm.Cond.instantiable "OwnerLedger" (11 : Nat)), (Jvm.Cond.methodLink "OwnerLedgerLaw" (96 : Nat) ({ cls := "OwnerLedger", name := "<init>", desc := "()V" } : Jvm.MethodName)), (Jvm.Cond.instanceMethod ({ cls := "OwnerLedger", name := "<init>", desc := "()V" } : Jvm.MethodName)), (Jvm.Cond.code ({ cls := "OwnerLedger", name := "<init>", desc := "()V" } : Jvm.MethodName) prog_1_method_1_code (1 : Nat) (Option.none : Option Jvm.ClassFile.FieldType)), (Jvm.Cond.methodLink "OwnerLedger" (1 : Nat) ({ cls := "java/lang/Object", name := "<init>", desc := "()V" } : Jvm.MethodName)), (Jvm.Cond.instanceMethod ({ cls := "java/lang/Object", name := "<init>", desc := "()V" } : Jvm.MethodName)), (Jvm.Cond.code ({ cls := "java/lang/Object", name := "<init>", desc := "()V" } : Jvm.MethodName) object_method_1_code (1 : Nat) (Option.none : Option Jvm.ClassFile.FieldType)), (Jvm.Cond.classLink "OwnerLedger" (9 : Nat) "OwnerLedger$Owner"), (Jvm.Cond.classLink "OwnerLedger" (19 : Nat) "OwnerLedger$Batch"), (Jvm.Cond.classLink "OwnerLedger" (25 : Nat) "OwnerLedger$Invoice"), (Jvm.Cond.fieldLink "OwnerLedger" (11 : Nat) "OwnerLedger" "owners" "[LOwnerLedger$Owner;"), (Jvm.Cond.fieldLink "OwnerLedger" (15 : Nat) "OwnerLedger" "currencies" "[I"), (Jvm.Cond.fieldLink "OwnerLedger" (21 : Nat) "OwnerLedger" "batches" "[LOwnerLedger$Batch;"), (Jvm.Cond.fieldLink "OwnerLedger" (27 : Nat) "OwnerLedger" "invoices" "[LOwnerLedger$Invoice;"), (Jvm.Cond.fieldLink "OwnerLedger" (31 : Nat) "OwnerLedger" "ownerCount" "I"), (Jvm.Cond.fieldLink "OwnerLedger" (50 : Nat) "OwnerLedger" "accountCount" "I"), (Jvm.Cond.fieldLink "OwnerLedger" (232 : Nat) "OwnerLedger" "batchCount" "I"), (Jvm.Cond.fieldLink "OwnerLedger" (163 : Nat) "OwnerLedger" "invoiceCount" "I"), (Jvm.Cond.fieldLink "OwnerLedger" (53 : Nat) "OwnerLedger" "currentMonth" "I"), (Jvm.Cond.fieldLink "OwnerLedger" (58 : Nat) "OwnerLedger" "closedMonths" "I"), (Jvm.Cond.fieldLink "OwnerLedger" (208 : Nat) "OwnerLedger" "yearlyPercents" "I"), (Jvm.Cond.arrayClass Jvm.ClassFile.FieldType.int), (Jvm.Cond.methodLink "OwnerLedgerLaw" (182 : Nat) ({ cls := "OwnerLedger", name := "count", desc := "(I)I" } : Jvm.MethodName)), (Jvm.Cond.instanceMethod ({ cls := "OwnerLedger", name := "count", desc := "(I)I" } : Jvm.MethodName)), (Jvm.Cond.selects "OwnerLedger" ({ cls := "OwnerLedger", name := "count", desc := "(I)I" } : Jvm.MethodName) ({ cls := "OwnerLedger", name := "count", desc := "(I)I" } : Jvm.MethodName)), (Jvm.Cond.code ({ cls := "OwnerLedger", name := "count", desc := "(I)I" } : Jvm.MethodName) prog_1_method_24_code (2 : Nat) (Option.some Jvm.ClassFile.FieldType.int)), (Jvm.Cond.methodLink "OwnerLedger" (235 : Nat) ({ cls := "OwnerLedger", name := "postedBatches", desc := "()I" } : Jvm.MethodName))]
def gT1 : List Cond := [(Jvm.Cond.instanceMethod ({ cls := "OwnerLedger", name := "postedBatches", desc := "()I" } : Jvm.MethodName)), (Jvm.Cond.code ({ cls := "OwnerLedger", name := "postedBatches", desc := "()I" } : Jvm.MethodName) prog_1_method_36_code (6 : Nat) (Option.some Jvm.ClassFile.FieldType.int)), (Jvm.Cond.methodLink "OwnerLedger" (238 : Nat) ({ cls := "OwnerLedger", name := "unpaidInvoices", desc := "()I" } : Jvm.MethodName)), (Jvm.Cond.instanceMethod ({ cls := "OwnerLedger", name := "unpaidInvoices", desc := "()I" } : Jvm.MethodName)), (Jvm.Cond.code ({ cls := "OwnerLedger", name := "unpaidInvoices", desc := "()I" } : Jvm.MethodName) prog_1_method_37_code (6 : Nat) (Option.some Jvm.ClassFile.FieldType.int)), (Jvm.Cond.methodLink "OwnerLedger" (241 : Nat) ({ cls := "OwnerLedger", name := "heldOwners", desc := "()I" } : Jvm.MethodName)), (Jvm.Cond.instanceMethod ({ cls := "OwnerLedger", name := "heldOwners", desc := "()I" } : Jvm.MethodName)), (Jvm.Cond.code ({ cls := "OwnerLedger", name := "heldOwners", desc := "()I" } : Jvm.MethodName) prog_1_method_38_code (6 : Nat) (Option.some Jvm.ClassFile.FieldType.int)), (Jvm.Cond.methodLink "OwnerLedgerLaw" (100 : Nat) ({ cls := "OwnerLedgerLaw", name := "owner", desc := "(LOwnerLedger;[J)I" } : Jvm.MethodName)), (Jvm.Cond.static ({ cls := "OwnerLedgerLaw", name := "owner", desc := "(LOwnerLedger;[J)I" } : Jvm.MethodName)), (Jvm.Cond.codeWith ({ cls := "OwnerLedgerLaw", name := "owner", desc := "(LOwnerLedger;[J)I" } : Jvm.MethodName) method_3_code (3 : Nat) (Option.some Jvm.ClassFile.FieldType.int) [((0 : Nat), (8 : Nat), (11 : Nat), (13 : Nat))]), (Jvm.Cond.classLink "OwnerLedgerLaw" (13 : Nat) "java/lang/UnsupportedOperationException"), (Jvm.Cond.methodLink "OwnerLedgerLaw" (7 : Nat) ({ cls := "OwnerLedger", name := "owner", desc := "()I" } : Jvm.MethodName)), (Jvm.Cond.instanceMethod ({ cls := "OwnerLedger", name := "owner", desc := "()I" } : Jvm.MethodName)), (Jvm.Cond.selects "OwnerLedger" ({ cls := "OwnerLedger", name := "owner", desc := "()I" } : Jvm.MethodName) ({ cls := "OwnerLedger", name := "owner", desc := "()I" } : Jvm.MethodName)), (Jvm.Cond.code ({ cls := "OwnerLedger", name := "owner", desc := "()I" } : Jvm.MethodName) prog_1_method_2_code (2 : Nat) (Option.some Jvm.ClassFile.FieldType.int)), (Jvm.Cond.methodLink "OwnerLedger" (35 : Nat) ({ cls := "OwnerLedger", name := "requireRoom", desc := "(II)V" } : Jvm.MethodName)), (Jvm.Cond.static ({ cls := "OwnerLedger", name := "requireRoom", desc := "(II)V" } : Jvm.MethodName)), (Jvm.Cond.code ({ cls := "OwnerLedger", name := "requireRoom", desc := "(II)V" } : Jvm.MethodName) prog_1_method_26_code (2 : Nat) (Option.none : Option Jvm.ClassFile.FieldType)), (Jvm.Cond.classLink "OwnerLedger" (246 : Nat) "java/lang/UnsupportedOperationException"), (Jvm.Cond.instantiable "java/lang/UnsupportedOperationException" (6 : Nat)), (Jvm.Cond.methodLink "OwnerLedger" (250 : Nat) ({ cls := "java/lang/UnsupportedOperationException", name := "<init>", desc := "(Ljava/lang/String;)V" } : Jvm.MethodName)), (Jvm.Cond.instanceMethod ({ cls := "java/lang/UnsupportedOperationException", name := "<init>", desc := "(Ljava/lang/String;)V" } : Jvm.MethodName)), (Jvm.Cond.code ({ cls := "java/lang/UnsupportedOperationException", name := "<init>", desc := "(Ljava/lang/String;)V" } : Jvm.MethodName) prog_15_method_2_code (2 : Nat) (Option.none : Option Jvm.ClassFile.FieldType)), (Jvm.Cond.arrayClass Jvm.ClassFile.FieldType.byte), (Jvm.Cond.instantiable "OwnerLedger$Owner" (2 : Nat)), (Jvm.Cond.instanceMethod ({ cls := "OwnerLedger$Owner", name := "<init>", desc := "()V" } : Jvm.MethodName)), (Jvm.Cond.code ({ cls := "OwnerLedger$Owner", name := "<init>", desc := "()V" } : Jvm.MethodName) prog_4_method_1_code (1 : Nat) (Option.none : Option Jvm.ClassFile.FieldType)), (Jvm.Cond.methodLink "OwnerLedger$Owner" (1 : Nat) ({ cls := "java/lang/Object", name := "<init>", desc := "()V" } : Jvm.MethodName)), (Jvm.Cond.fieldLink "OwnerLedger" (169 : Nat) "OwnerLedger$Owner" "credit" "J"), (Jvm.Cond.fieldLink "OwnerLedger" (158 : Nat) "OwnerLedger$Owner" "held" "Z"), (Jvm.Cond.methodLink "OwnerLedgerLaw" (109 : Nat) ({ cls := "OwnerLedgerLaw", name := "account", desc := "(LOwnerLedger;II[J)I" } : Jvm.MethodName)), (Jvm.Cond.static ({ cls := "OwnerLedgerLaw", name := "account", desc := "(LOwnerLedger;II[J)I" } : Jvm.MethodName)), (Jvm.Cond.codeWith ({ cls := "OwnerLedgerLaw", name := "account", desc := "(LOwnerLedger;II[J)I" } : Jvm.MethodName) method_4_code (5 : Nat) (Option.some Jvm.ClassFile.FieldType.int) [((0 : Nat), (10 : Nat), (13 : Nat), (19 : Nat)), ((0 : Nat), (10 : Nat), (17 : Nat), (21 : Nat)), ((0 : Nat), (10 : Nat), (21 : Nat), (13 : Nat))]), (Jvm.Cond.classLink "OwnerLedgerLaw" (19 : Nat) "java/util/NoSuchElementException"), (Jvm.Cond.classLink "OwnerLedgerLaw" (21 : Nat) "java/lang/IllegalArgumentException"), (Jvm.Cond.methodLink "OwnerLedgerLaw" (15 : Nat) ({ cls := "OwnerLedger", name := "account", desc := "(II)I" } : Jvm.MethodName)), (Jvm.Cond.instanceMethod ({ cls := "OwnerLedger", name := "account", desc := "(II)I" } : Jvm.MethodName)), (Jvm.Cond.selects "OwnerLedger" ({ cls := "OwnerLedger", name := "account", desc := "(II)I" } : Jvm.MethodName) ({ cls := "OwnerLedger", name := "account", desc := "(II)I" } : Jvm.MethodName)), (Jvm.Cond.code ({ cls := "OwnerLedger", name := "account", desc := "(II)I" } : Jvm.MethodName) prog_1_method_3_code (4 : Nat) (Option.some Jvm.ClassFile.FieldType.int))]
def gT2 : List Cond := [(Jvm.Cond.methodLink "OwnerLedger" (40 : Nat) ({ cls := "OwnerLedger", name := "findOwner", desc := "(I)LOwnerLedger$Owner;" } : Jvm.MethodName)), (Jvm.Cond.instanceMethod ({ cls := "OwnerLedger", name := "findOwner", desc := "(I)LOwnerLedger$Owner;" } : Jvm.MethodName)), (Jvm.Cond.code ({ cls := "OwnerLedger", name := "findOwner", desc := "(I)LOwnerLedger$Owner;" } : Jvm.MethodName) prog_1_method_28_code (3 : Nat) (Option.some (Jvm.ClassFile.FieldType.object "OwnerLedger$Owner"))), (Jvm.Cond.classLink "OwnerLedger" (253 : Nat) "java/util/NoSuchElementException"), (Jvm.Cond.instantiable "java/util/NoSuchElementException" (6 : Nat)), (Jvm.Cond.methodLink "OwnerLedger" (257 : Nat) ({ cls := "java/util/NoSuchElementException", name := "<init>", desc := "(Ljava/lang/String;)V" } : Jvm.MethodName)), (Jvm.Cond.instanceMethod ({ cls := "java/util/NoSuchElementException", name := "<init>", desc := "(Ljava/lang/String;)V" } : Jvm.MethodName)), (Jvm.Cond.code ({ cls := "java/util/NoSuchElementException", name := "<init>", desc := "(Ljava/lang/String;)V" } : Jvm.MethodName) prog_16_method_4_code (2 : Nat) (Option.none : Option Jvm.ClassFile.FieldType)), (Jvm.Cond.constantLong "OwnerLedger" (44 : Nat) (2 : Int64)), (Jvm.Cond.methodLink "OwnerLedger" (46 : Nat) ({ cls := "OwnerLedger", name := "requireRange", desc := "(JJJ)V" } : Jvm.MethodName)), (Jvm.Cond.static ({ cls := "OwnerLedger", name := "requireRange", desc := "(JJJ)V" } : Jvm.MethodName)), (Jvm.Cond.code ({ cls := "OwnerLedger", name := "requireRange", desc := "(JJJ)V" } : Jvm.MethodName) prog_1_method_25_code (6 : Nat) (Option.none : Option Jvm.ClassFile.FieldType)), (Jvm.Cond.classLink "OwnerLedger" (89 : Nat) "java/lang/IllegalArgumentException"), (Jvm.Cond.instantiable "java/lang/IllegalArgumentException" (6 : Nat)), (Jvm.Cond.methodLink "OwnerLedger" (93 : Nat) ({ cls := "java/lang/IllegalArgumentException", name := "<init>", desc := "(Ljava/lang/String;)V" } : Jvm.MethodName)), (Jvm.Cond.instanceMethod ({ cls := "java/lang/IllegalArgumentException", name := "<init>", desc := "(Ljava/lang/String;)V" } : Jvm.MethodName)), (Jvm.Cond.code ({ cls := "java/lang/IllegalArgumentException", name := "<init>", desc := "(Ljava/lang/String;)V" } : Jvm.MethodName) prog_9_method_2_code (2 : Nat) (Option.none : Option Jvm.ClassFile.FieldType)), (Jvm.Cond.methodLink "OwnerLedgerLaw" (113 : Nat) ({ cls := "OwnerLedgerLaw", name := "month", desc := "(LOwnerLedger;I)I" } : Jvm.MethodName)), (Jvm.Cond.static ({ cls := "OwnerLedgerLaw", name := "month", desc := "(LOwnerLedger;I)I" } : Jvm.MethodName)), (Jvm.Cond.codeWith ({ cls := "OwnerLedgerLaw", name := "month", desc := "(LOwnerLedger;I)I" } : Jvm.MethodName) method_5_code (3 : Nat) (Option.some Jvm.ClassFile.FieldType.int) [((0 : Nat), (5 : Nat), (8 : Nat), (21 : Nat))]), (Jvm.Cond.methodLink "OwnerLedgerLaw" (23 : Nat) ({ cls := "OwnerLedger", name := "month", desc := "(I)V" } : Jvm.MethodName)), (Jvm.Cond.instanceMethod ({ cls := "OwnerLedger", name := "month", desc := "(I)V" } : Jvm.MethodName)), (Jvm.Cond.selects "OwnerLedger" ({ cls := "OwnerLedger", name := "month", desc := "(I)V" } : Jvm.MethodName) ({ cls := "OwnerLedger", name := "month", desc := "(I)V" } : Jvm.MethodName)), (Jvm.Cond.code ({ cls := "OwnerLedger", name := "month", desc := "(I)V" } : Jvm.MethodName) prog_1_method_4_code (2 : Nat) (Option.none : Option Jvm.ClassFile.FieldType)), (Jvm.Cond.constantLong "OwnerLedger" (56 : Nat) (120 : Int64)), (Jvm.Cond.methodLink "OwnerLedgerLaw" (117 : Nat) ({ cls := "OwnerLedgerLaw", name := "close", desc := "(LOwnerLedger;I[J)I" } : Jvm.MethodName)), (Jvm.Cond.static ({ cls := "OwnerLedgerLaw", name := "close", desc := "(LOwnerLedger;I[J)I" } : Jvm.MethodName)), (Jvm.Cond.codeWith ({ cls := "OwnerLedgerLaw", name := "close", desc := "(LOwnerLedger;I[J)I" } : Jvm.MethodName) method_6_code (4 : Nat) (Option.some Jvm.ClassFile.FieldType.int) [((0 : Nat), (9 : Nat), (12 : Nat), (21 : Nat)), ((0 : Nat), (9 : Nat), (15 : Nat), (31 : Nat))]), (Jvm.Cond.classLink "OwnerLedgerLaw" (31 : Nat) "java/lang/IllegalStateException"), (Jvm.Cond.methodLink "OwnerLedgerLaw" (27 : Nat) ({ cls := "OwnerLedger", name := "close", desc := "(I)I" } : Jvm.MethodName)), (Jvm.Cond.instanceMethod ({ cls := "OwnerLedger", name := "close", desc := "(I)I" } : Jvm.MethodName)), (Jvm.Cond.selects "OwnerLedger" ({ cls := "OwnerLedger", name := "close", desc := "(I)I" } : Jvm.MethodName) ({ cls := "OwnerLedger", name := "close", desc := "(I)I" } : Jvm.MethodName)), (Jvm.Cond.code ({ cls := "OwnerLedger", name := "close", desc := "(I)I" } : Jvm.MethodName) prog_1_method_5_code (3 : Nat) (Option.some Jvm.ClassFile.FieldType.int)), (Jvm.Cond.classLink "OwnerLedger" (61 : Nat) "java/lang/IllegalStateException"), (Jvm.Cond.instantiable "java/lang/IllegalStateException" (6 : Nat)), (Jvm.Cond.methodLink "OwnerLedger" (65 : Nat) ({ cls := "java/lang/IllegalStateException", name := "<init>", desc := "(Ljava/lang/String;)V" } : Jvm.MethodName)), (Jvm.Cond.instanceMethod ({ cls := "java/lang/IllegalStateException", name := "<init>", desc := "(Ljava/lang/String;)V" } : Jvm.MethodName)), (Jvm.Cond.code ({ cls := "java/lang/IllegalStateException", name := "<init>", desc := "(Ljava/lang/String;)V" } : Jvm.MethodName) prog_10_method_2_code (2 : Nat) (Option.none : Option Jvm.ClassFile.FieldType)), (Jvm.Cond.methodLink "OwnerLedgerLaw" (121 : Nat) ({ cls := "OwnerLedgerLaw", name := "batch", desc := "(LOwnerLedger;I[J)I" } : Jvm.MethodName)), (Jvm.Cond.static ({ cls := "OwnerLedgerLaw", name := "batch", desc := "(LOwnerLedger;I[J)I" } : Jvm.MethodName))]
def gT3 : List Cond := [(Jvm.Cond.codeWith ({ cls := "OwnerLedgerLaw", name := "batch", desc := "(LOwnerLedger;I[J)I" } : Jvm.MethodName) method_7_code (4 : Nat) (Option.some Jvm.ClassFile.FieldType.int) [((0 : Nat), (9 : Nat), (12 : Nat), (21 : Nat)), ((0 : Nat), (9 : Nat), (15 : Nat), (31 : Nat)), ((0 : Nat), (9 : Nat), (18 : Nat), (13 : Nat))]), (Jvm.Cond.methodLink "OwnerLedgerLaw" (33 : Nat) ({ cls := "OwnerLedger", name := "batch", desc := "(I)I" } : Jvm.MethodName)), (Jvm.Cond.instanceMethod ({ cls := "OwnerLedger", name := "batch", desc := "(I)I" } : Jvm.MethodName)), (Jvm.Cond.selects "OwnerLedger" ({ cls := "OwnerLedger", name := "batch", desc := "(I)I" } : Jvm.MethodName) ({ cls := "OwnerLedger", name := "batch", desc := "(I)I" } : Jvm.MethodName)), (Jvm.Cond.code ({ cls := "OwnerLedger", name := "batch", desc := "(I)I" } : Jvm.MethodName) prog_1_method_6_code (2 : Nat) (Option.some Jvm.ClassFile.FieldType.int)), (Jvm.Cond.instantiable "OwnerLedger$Batch" (6 : Nat)), (Jvm.Cond.methodLink "OwnerLedger" (70 : Nat) ({ cls := "OwnerLedger$Batch", name := "<init>", desc := "(I)V" } : Jvm.MethodName)), (Jvm.Cond.instanceMethod ({ cls := "OwnerLedger$Batch", name := "<init>", desc := "(I)V" } : Jvm.MethodName)), (Jvm.Cond.code ({ cls := "OwnerLedger$Batch", name := "<init>", desc := "(I)V" } : Jvm.MethodName) prog_2_method_1_code (2 : Nat) (Option.none : Option Jvm.ClassFile.FieldType)), (Jvm.Cond.methodLink "OwnerLedger$Batch" (3 : Nat) ({ cls := "java/lang/Object", name := "<init>", desc := "()V" } : Jvm.MethodName)), (Jvm.Cond.classLink "OwnerLedger$Batch" (15 : Nat) "OwnerLedger$Row"), (Jvm.Cond.fieldLink "OwnerLedger$Batch" (9 : Nat) "OwnerLedger$Batch" "month" "I"), (Jvm.Cond.fieldLink "OwnerLedger" (118 : Nat) "OwnerLedger$Batch" "month" "I"), (Jvm.Cond.fieldLink "OwnerLedger$Batch" (17 : Nat) "OwnerLedger$Batch" "rows" "[LOwnerLedger$Row;"), (Jvm.Cond.fieldLink "OwnerLedger" (262 : Nat) "OwnerLedger$Batch" "rows" "[LOwnerLedger$Row;"), (Jvm.Cond.fieldLink "OwnerLedger$Batch" (24 : Nat) "OwnerLedger$Batch" "rowCount" "I"), (Jvm.Cond.fieldLink "OwnerLedger" (107 : Nat) "OwnerLedger$Batch" "rowCount" "I"), (Jvm.Cond.fieldLink "OwnerLedger$Batch" (21 : Nat) "OwnerLedger$Batch" "state" "I"), (Jvm.Cond.fieldLink "OwnerLedger" (133 : Nat) "OwnerLedger$Batch" "state" "I"), (Jvm.Cond.fieldLink "OwnerLedger" (138 : Nat) "OwnerLedger$Batch" "reversedBy" "I"), (Jvm.Cond.fieldLink "OwnerLedger" (143 : Nat) "OwnerLedger$Batch" "reversalOf" "I"), (Jvm.Cond.methodLink "OwnerLedger" (73 : Nat) ({ cls := "OwnerLedger", name := "keepBatch", desc := "(LOwnerLedger$Batch;)I" } : Jvm.MethodName)), (Jvm.Cond.instanceMethod ({ cls := "OwnerLedger", name := "keepBatch", desc := "(LOwnerLedger$Batch;)I" } : Jvm.MethodName)), (Jvm.Cond.code ({ cls := "OwnerLedger", name := "keepBatch", desc := "(LOwnerLedger$Batch;)I" } : Jvm.MethodName) prog_1_method_33_code (2 : Nat) (Option.some Jvm.ClassFile.FieldType.int)), (Jvm.Cond.methodLink "OwnerLedgerLaw" (126 : Nat) ({ cls := "OwnerLedgerLaw", name := "row", desc := "(LOwnerLedger;IIJ[J)I" } : Jvm.MethodName)), (Jvm.Cond.static ({ cls := "OwnerLedgerLaw", name := "row", desc := "(LOwnerLedger;IIJ[J)I" } : Jvm.MethodName)), (Jvm.Cond.codeWith ({ cls := "OwnerLedgerLaw", name := "row", desc := "(LOwnerLedger;IIJ[J)I" } : Jvm.MethodName) method_8_code (7 : Nat) (Option.some Jvm.ClassFile.FieldType.int) [((0 : Nat), (12 : Nat), (15 : Nat), (19 : Nat)), ((0 : Nat), (12 : Nat), (19 : Nat), (21 : Nat)), ((0 : Nat), (12 : Nat), (23 : Nat), (31 : Nat)), ((0 : Nat), (12 : Nat), (27 : Nat), (13 : Nat))]), (Jvm.Cond.methodLink "OwnerLedgerLaw" (36 : Nat) ({ cls := "OwnerLedger", name := "row", desc := "(IIJ)I" } : Jvm.MethodName)), (Jvm.Cond.instanceMethod ({ cls := "OwnerLedger", name := "row", desc := "(IIJ)I" } : Jvm.MethodName)), (Jvm.Cond.selects "OwnerLedger" ({ cls := "OwnerLedger", name := "row", desc := "(IIJ)I" } : Jvm.MethodName) ({ cls := "OwnerLedger", name := "row", desc := "(IIJ)I" } : Jvm.MethodName)), (Jvm.Cond.code ({ cls := "OwnerLedger", name := "row", desc := "(IIJ)I" } : Jvm.MethodName) prog_1_method_7_code (7 : Nat) (Option.some Jvm.ClassFile.FieldType.int)), (Jvm.Cond.methodLink "OwnerLedger" (77 : Nat) ({ cls := "OwnerLedger", name := "findBatch", desc := "(I)LOwnerLedger$Batch;" } : Jvm.MethodName)), (Jvm.Cond.instanceMethod ({ cls := "OwnerLedger", name := "findBatch", desc := "(I)LOwnerLedger$Batch;" } : Jvm.MethodName)), (Jvm.Cond.code ({ cls := "OwnerLedger", name := "findBatch", desc := "(I)LOwnerLedger$Batch;" } : Jvm.MethodName) prog_1_method_30_code (3 : Nat) (Option.some (Jvm.ClassFile.FieldType.object "OwnerLedger$Batch"))), (Jvm.Cond.methodLink "OwnerLedger" (81 : Nat) ({ cls := "OwnerLedger", name := "currencyOf", desc := "(I)I" } : Jvm.MethodName)), (Jvm.Cond.instanceMethod ({ cls := "OwnerLedger", name := "currencyOf", desc := "(I)I" } : Jvm.MethodName)), (Jvm.Cond.code ({ cls := "OwnerLedger", name := "currencyOf", desc := "(I)I" } : Jvm.MethodName) prog_1_method_29_code (2 : Nat) (Option.some Jvm.ClassFile.FieldType.int)), (Jvm.Cond.constantLong "OwnerLedger" (85 : Nat) (-1000000000 : Int64)), (Jvm.Cond.constantLong "OwnerLedger" (87 : Nat) (1000000000 : Int64)), (Jvm.Cond.methodLink "OwnerLedger" (94 : Nat) ({ cls := "OwnerLedger", name := "requireOpen", desc := "(LOwnerLedger$Batch;)V" } : Jvm.MethodName))]
def gT4 : List Cond := [(Jvm.Cond.static ({ cls := "OwnerLedger", name := "requireOpen", desc := "(LOwnerLedger$Batch;)V" } : Jvm.MethodName)), (Jvm.Cond.code ({ cls := "OwnerLedger", name := "requireOpen", desc := "(LOwnerLedger$Batch;)V" } : Jvm.MethodName) prog_1_method_27_code (1 : Nat) (Option.none : Option Jvm.ClassFile.FieldType)), (Jvm.Cond.classLink "OwnerLedger" (98 : Nat) "OwnerLedger$Row"), (Jvm.Cond.instantiable "OwnerLedger$Row" (4 : Nat)), (Jvm.Cond.methodLink "OwnerLedger" (100 : Nat) ({ cls := "OwnerLedger$Row", name := "<init>", desc := "(IIJ)V" } : Jvm.MethodName)), (Jvm.Cond.instanceMethod ({ cls := "OwnerLedger$Row", name := "<init>", desc := "(IIJ)V" } : Jvm.MethodName)), (Jvm.Cond.code ({ cls := "OwnerLedger$Row", name := "<init>", desc := "(IIJ)V" } : Jvm.MethodName) prog_5_method_1_code (5 : Nat) (Option.none : Option Jvm.ClassFile.FieldType)), (Jvm.Cond.methodLink "OwnerLedger$Row" (1 : Nat) ({ cls := "java/lang/Object", name := "<init>", desc := "()V" } : Jvm.MethodName)), (Jvm.Cond.fieldLink "OwnerLedger$Row" (7 : Nat) "OwnerLedger$Row" "account" "I"), (Jvm.Cond.fieldLink "OwnerLedger$Batch" (31 : Nat) "OwnerLedger$Row" "account" "I"), (Jvm.Cond.fieldLink "OwnerLedger$Row" (13 : Nat) "OwnerLedger$Row" "currency" "I"), (Jvm.Cond.fieldLink "OwnerLedger$Batch" (34 : Nat) "OwnerLedger$Row" "currency" "I"), (Jvm.Cond.fieldLink "OwnerLedger$Row" (16 : Nat) "OwnerLedger$Row" "cents" "J"), (Jvm.Cond.fieldLink "OwnerLedger$Batch" (37 : Nat) "OwnerLedger$Row" "cents" "J"), (Jvm.Cond.fieldLink "OwnerLedger$Batch" (44 : Nat) "OwnerLedger$Row" "breaking" "Z"), (Jvm.Cond.fieldLink "OwnerLedger" (114 : Nat) "OwnerLedger$Row" "breaking" "Z"), (Jvm.Cond.methodLink "OwnerLedger" (103 : Nat) ({ cls := "OwnerLedger$Batch", name := "addRow", desc := "(LOwnerLedger$Row;)V" } : Jvm.MethodName)), (Jvm.Cond.instanceMethod ({ cls := "OwnerLedger$Batch", name := "addRow", desc := "(LOwnerLedger$Row;)V" } : Jvm.MethodName)), (Jvm.Cond.selects "OwnerLedger$Batch" ({ cls := "OwnerLedger$Batch", name := "addRow", desc := "(LOwnerLedger$Row;)V" } : Jvm.MethodName) ({ cls := "OwnerLedger$Batch", name := "addRow", desc := "(LOwnerLedger$Row;)V" } : Jvm.MethodName)), (Jvm.Cond.code ({ cls := "OwnerLedger$Batch", name := "addRow", desc := "(LOwnerLedger$Row;)V" } : Jvm.MethodName) prog_2_method_2_code (2 : Nat) (Option.none : Option Jvm.ClassFile.FieldType)), (Jvm.Cond.methodLink "OwnerLedgerLaw" (130 : Nat) ({ cls := "OwnerLedgerLaw", name := "breaks", desc := "(LOwnerLedger;IIZ)I" } : Jvm.MethodName)), (Jvm.Cond.static ({ cls := "OwnerLedgerLaw", name := "breaks", desc := "(LOwnerLedger;IIZ)I" } : Jvm.MethodName)), (Jvm.Cond.codeWith ({ cls := "OwnerLedgerLaw", name := "breaks", desc := "(LOwnerLedger;IIZ)I" } : Jvm.MethodName) method_9_code (5 : Nat) (Option.some Jvm.ClassFile.FieldType.int) [((0 : Nat), (7 : Nat), (10 : Nat), (19 : Nat)), ((0 : Nat), (7 : Nat), (14 : Nat), (31 : Nat))]), (Jvm.Cond.methodLink "OwnerLedgerLaw" (40 : Nat) ({ cls := "OwnerLedger", name := "breaks", desc := "(IIZ)V" } : Jvm.MethodName)), (Jvm.Cond.instanceMethod ({ cls := "OwnerLedger", name := "breaks", desc := "(IIZ)V" } : Jvm.MethodName)), (Jvm.Cond.selects "OwnerLedger" ({ cls := "OwnerLedger", name := "breaks", desc := "(IIZ)V" } : Jvm.MethodName) ({ cls := "OwnerLedger", name := "breaks", desc := "(IIZ)V" } : Jvm.MethodName)), (Jvm.Cond.code ({ cls := "OwnerLedger", name := "breaks", desc := "(IIZ)V" } : Jvm.MethodName) prog_1_method_8_code (6 : Nat) (Option.none : Option Jvm.ClassFile.FieldType)), (Jvm.Cond.methodLink "OwnerLedger" (110 : Nat) ({ cls := "OwnerLedger", name := "findRow", desc := "(LOwnerLedger$Batch;I)LOwnerLedger$Row;" } : Jvm.MethodName)), (Jvm.Cond.static ({ cls := "OwnerLedger", name := "findRow", desc := "(LOwnerLedger$Batch;I)LOwnerLedger$Row;" } : Jvm.MethodName)), (Jvm.Cond.code ({ cls := "OwnerLedger", name := "findRow", desc := "(LOwnerLedger$Batch;I)LOwnerLedger$Row;" } : Jvm.MethodName) prog_1_method_31_code (3 : Nat) (Option.some (Jvm.ClassFile.FieldType.object "OwnerLedger$Row"))), (Jvm.Cond.methodLink "OwnerLedgerLaw" (134 : Nat) ({ cls := "OwnerLedgerLaw", name := "post", desc := "(LOwnerLedger;I[J)I" } : Jvm.MethodName)), (Jvm.Cond.static ({ cls := "OwnerLedgerLaw", name := "post", desc := "(LOwnerLedger;I[J)I" } : Jvm.MethodName)), (Jvm.Cond.codeWith ({ cls := "OwnerLedgerLaw", name := "post", desc := "(LOwnerLedger;I[J)I" } : Jvm.MethodName) method_10_code (4 : Nat) (Option.some Jvm.ClassFile.FieldType.int) [((0 : Nat), (9 : Nat), (12 : Nat), (19 : Nat)), ((0 : Nat), (9 : Nat), (15 : Nat), (31 : Nat))]), (Jvm.Cond.methodLink "OwnerLedgerLaw" (44 : Nat) ({ cls := "OwnerLedger", name := "post", desc := "(I)I" } : Jvm.MethodName)), (Jvm.Cond.instanceMethod ({ cls := "OwnerLedger", name := "post", desc := "(I)I" } : Jvm.MethodName)), (Jvm.Cond.selects "OwnerLedger" ({ cls := "OwnerLedger", name := "post", desc := "(I)I" } : Jvm.MethodName) ({ cls := "OwnerLedger", name := "post", desc := "(I)I" } : Jvm.MethodName)), (Jvm.Cond.code ({ cls := "OwnerLedger", name := "post", desc := "(I)I" } : Jvm.MethodName) prog_1_method_9_code (5 : Nat) (Option.some Jvm.ClassFile.FieldType.int)), (Jvm.Cond.methodLink "OwnerLedger" (125 : Nat) ({ cls := "OwnerLedger$Batch", name := "firstBreaking", desc := "()I" } : Jvm.MethodName)), (Jvm.Cond.instanceMethod ({ cls := "OwnerLedger$Batch", name := "firstBreaking", desc := "()I" } : Jvm.MethodName)), (Jvm.Cond.selects "OwnerLedger$Batch" ({ cls := "OwnerLedger$Batch", name := "firstBreaking", desc := "()I" } : Jvm.MethodName) ({ cls := "OwnerLedger$Batch", name := "firstBreaking", desc := "()I" } : Jvm.MethodName))]
def gT5 : List Cond := [(Jvm.Cond.code ({ cls := "OwnerLedger$Batch", name := "firstBreaking", desc := "()I" } : Jvm.MethodName) prog_2_method_4_code (3 : Nat) (Option.some Jvm.ClassFile.FieldType.int)), (Jvm.Cond.methodLink "OwnerLedger" (129 : Nat) ({ cls := "OwnerLedger$Batch", name := "sumsToZero", desc := "()Z" } : Jvm.MethodName)), (Jvm.Cond.instanceMethod ({ cls := "OwnerLedger$Batch", name := "sumsToZero", desc := "()Z" } : Jvm.MethodName)), (Jvm.Cond.selects "OwnerLedger$Batch" ({ cls := "OwnerLedger$Batch", name := "sumsToZero", desc := "()Z" } : Jvm.MethodName) ({ cls := "OwnerLedger$Batch", name := "sumsToZero", desc := "()Z" } : Jvm.MethodName)), (Jvm.Cond.code ({ cls := "OwnerLedger$Batch", name := "sumsToZero", desc := "()Z" } : Jvm.MethodName) prog_2_method_5_code (2 : Nat) (Option.some Jvm.ClassFile.FieldType.boolean)), (Jvm.Cond.methodLink "OwnerLedger$Batch" (48 : Nat) ({ cls := "OwnerLedger$Batch", name := "sumOfCurrency", desc := "(I)J" } : Jvm.MethodName)), (Jvm.Cond.instanceMethod ({ cls := "OwnerLedger$Batch", name := "sumOfCurrency", desc := "(I)J" } : Jvm.MethodName)), (Jvm.Cond.selects "OwnerLedger$Batch" ({ cls := "OwnerLedger$Batch", name := "sumOfCurrency", desc := "(I)J" } : Jvm.MethodName) ({ cls := "OwnerLedger$Batch", name := "sumOfCurrency", desc := "(I)J" } : Jvm.MethodName)), (Jvm.Cond.code ({ cls := "OwnerLedger$Batch", name := "sumOfCurrency", desc := "(I)J" } : Jvm.MethodName) prog_2_method_6_code (8 : Nat) (Option.some Jvm.ClassFile.FieldType.long)), (Jvm.Cond.methodLink "OwnerLedgerLaw" (137 : Nat) ({ cls := "OwnerLedgerLaw", name := "reverse", desc := "(LOwnerLedger;I[J)I" } : Jvm.MethodName)), (Jvm.Cond.static ({ cls := "OwnerLedgerLaw", name := "reverse", desc := "(LOwnerLedger;I[J)I" } : Jvm.MethodName)), (Jvm.Cond.codeWith ({ cls := "OwnerLedgerLaw", name := "reverse", desc := "(LOwnerLedger;I[J)I" } : Jvm.MethodName) method_11_code (4 : Nat) (Option.some Jvm.ClassFile.FieldType.int) [((0 : Nat), (9 : Nat), (12 : Nat), (19 : Nat)), ((0 : Nat), (9 : Nat), (15 : Nat), (31 : Nat)), ((0 : Nat), (9 : Nat), (18 : Nat), (13 : Nat))]), (Jvm.Cond.methodLink "OwnerLedgerLaw" (47 : Nat) ({ cls := "OwnerLedger", name := "reverse", desc := "(I)I" } : Jvm.MethodName)), (Jvm.Cond.instanceMethod ({ cls := "OwnerLedger", name := "reverse", desc := "(I)I" } : Jvm.MethodName)), (Jvm.Cond.selects "OwnerLedger" ({ cls := "OwnerLedger", name := "reverse", desc := "(I)I" } : Jvm.MethodName) ({ cls := "OwnerLedger", name := "reverse", desc := "(I)I" } : Jvm.MethodName)), (Jvm.Cond.code ({ cls := "OwnerLedger", name := "reverse", desc := "(I)I" } : Jvm.MethodName) prog_1_method_10_code (4 : Nat) (Option.some Jvm.ClassFile.FieldType.int)), (Jvm.Cond.methodLink "OwnerLedger" (148 : Nat) ({ cls := "OwnerLedger$Batch", name := "copyOpposites", desc := "(LOwnerLedger$Batch;)V" } : Jvm.MethodName)), (Jvm.Cond.instanceMethod ({ cls := "OwnerLedger$Batch", name := "copyOpposites", desc := "(LOwnerLedger$Batch;)V" } : Jvm.MethodName)), (Jvm.Cond.selects "OwnerLedger$Batch" ({ cls := "OwnerLedger$Batch", name := "copyOpposites", desc := "(LOwnerLedger$Batch;)V" } : Jvm.MethodName) ({ cls := "OwnerLedger$Batch", name := "copyOpposites", desc := "(LOwnerLedger$Batch;)V" } : Jvm.MethodName)), (Jvm.Cond.code ({ cls := "OwnerLedger$Batch", name := "copyOpposites", desc := "(LOwnerLedger$Batch;)V" } : Jvm.MethodName) prog_2_method_3_code (4 : Nat) (Option.none : Option Jvm.ClassFile.FieldType)), (Jvm.Cond.methodLink "OwnerLedger$Batch" (41 : Nat) ({ cls := "OwnerLedger$Row", name := "<init>", desc := "(IIJ)V" } : Jvm.MethodName)), (Jvm.Cond.methodLink "OwnerLedgerLaw" (140 : Nat) ({ cls := "OwnerLedgerLaw", name := "balance", desc := "(LOwnerLedger;II[J)I" } : Jvm.MethodName)), (Jvm.Cond.static ({ cls := "OwnerLedgerLaw", name := "balance", desc := "(LOwnerLedger;II[J)I" } : Jvm.MethodName)), (Jvm.Cond.codeWith ({ cls := "OwnerLedgerLaw", name := "balance", desc := "(LOwnerLedger;II[J)I" } : Jvm.MethodName) method_12_code (5 : Nat) (Option.some Jvm.ClassFile.FieldType.int) [((0 : Nat), (9 : Nat), (12 : Nat), (19 : Nat)), ((0 : Nat), (9 : Nat), (16 : Nat), (21 : Nat))]), (Jvm.Cond.methodLink "OwnerLedgerLaw" (50 : Nat) ({ cls := "OwnerLedger", name := "balance", desc := "(II)J" } : Jvm.MethodName)), (Jvm.Cond.instanceMethod ({ cls := "OwnerLedger", name := "balance", desc := "(II)J" } : Jvm.MethodName)), (Jvm.Cond.selects "OwnerLedger" ({ cls := "OwnerLedger", name := "balance", desc := "(II)J" } : Jvm.MethodName) ({ cls := "OwnerLedger", name := "balance", desc := "(II)J" } : Jvm.MethodName)), (Jvm.Cond.code ({ cls := "OwnerLedger", name := "balance", desc := "(II)J" } : Jvm.MethodName) prog_1_method_11_code (9 : Nat) (Option.some Jvm.ClassFile.FieldType.long)), (Jvm.Cond.methodLink "OwnerLedger" (151 : Nat) ({ cls := "OwnerLedger$Batch", name := "sumOfAccount", desc := "(I)J" } : Jvm.MethodName)), (Jvm.Cond.instanceMethod ({ cls := "OwnerLedger$Batch", name := "sumOfAccount", desc := "(I)J" } : Jvm.MethodName)), (Jvm.Cond.selects "OwnerLedger$Batch" ({ cls := "OwnerLedger$Batch", name := "sumOfAccount", desc := "(I)J" } : Jvm.MethodName) ({ cls := "OwnerLedger$Batch", name := "sumOfAccount", desc := "(I)J" } : Jvm.MethodName)), (Jvm.Cond.code ({ cls := "OwnerLedger$Batch", name := "sumOfAccount", desc := "(I)J" } : Jvm.MethodName) prog_2_method_7_code (8 : Nat) (Option.some Jvm.ClassFile.FieldType.long)), (Jvm.Cond.methodLink "OwnerLedgerLaw" (143 : Nat) ({ cls := "OwnerLedgerLaw", name := "all", desc := "(LOwnerLedger;I[J)I" } : Jvm.MethodName)), (Jvm.Cond.static ({ cls := "OwnerLedgerLaw", name := "all", desc := "(LOwnerLedger;I[J)I" } : Jvm.MethodName)), (Jvm.Cond.codeWith ({ cls := "OwnerLedgerLaw", name := "all", desc := "(LOwnerLedger;I[J)I" } : Jvm.MethodName) method_13_code (4 : Nat) (Option.some Jvm.ClassFile.FieldType.int) [((0 : Nat), (8 : Nat), (11 : Nat), (21 : Nat))]), (Jvm.Cond.methodLink "OwnerLedgerLaw" (54 : Nat) ({ cls := "OwnerLedger", name := "all", desc := "(I)J" } : Jvm.MethodName)), (Jvm.Cond.instanceMethod ({ cls := "OwnerLedger", name := "all", desc := "(I)J" } : Jvm.MethodName)), (Jvm.Cond.selects "OwnerLedger" ({ cls := "OwnerLedger", name := "all", desc := "(I)J" } : Jvm.MethodName) ({ cls := "OwnerLedger", name := "all", desc := "(I)J" } : Jvm.MethodName)), (Jvm.Cond.code ({ cls := "OwnerLedger", name := "all", desc := "(I)J" } : Jvm.MethodName) prog_1_method_12_code (8 : Nat) (Option.some Jvm.ClassFile.FieldType.long)), (Jvm.Cond.methodLink "OwnerLedger" (155 : Nat) ({ cls := "OwnerLedger$Batch", name := "sumOfCurrency", desc := "(I)J" } : Jvm.MethodName))]
def gT6 : List Cond := [(Jvm.Cond.methodLink "OwnerLedgerLaw" (146 : Nat) ({ cls := "OwnerLedgerLaw", name := "invoice", desc := "(LOwnerLedger;IJI[J)I" } : Jvm.MethodName)), (Jvm.Cond.static ({ cls := "OwnerLedgerLaw", name := "invoice", desc := "(LOwnerLedger;IJI[J)I" } : Jvm.MethodName)), (Jvm.Cond.codeWith ({ cls := "OwnerLedgerLaw", name := "invoice", desc := "(LOwnerLedger;IJI[J)I" } : Jvm.MethodName) method_14_code (7 : Nat) (Option.some Jvm.ClassFile.FieldType.int) [((0 : Nat), (13 : Nat), (16 : Nat), (19 : Nat)), ((0 : Nat), (13 : Nat), (20 : Nat), (21 : Nat)), ((0 : Nat), (13 : Nat), (24 : Nat), (31 : Nat)), ((0 : Nat), (13 : Nat), (28 : Nat), (13 : Nat))]), (Jvm.Cond.methodLink "OwnerLedgerLaw" (58 : Nat) ({ cls := "OwnerLedger", name := "invoice", desc := "(IJI)I" } : Jvm.MethodName)), (Jvm.Cond.instanceMethod ({ cls := "OwnerLedger", name := "invoice", desc := "(IJI)I" } : Jvm.MethodName)), (Jvm.Cond.selects "OwnerLedger" ({ cls := "OwnerLedger", name := "invoice", desc := "(IJI)I" } : Jvm.MethodName) ({ cls := "OwnerLedger", name := "invoice", desc := "(IJI)I" } : Jvm.MethodName)), (Jvm.Cond.code ({ cls := "OwnerLedger", name := "invoice", desc := "(IJI)I" } : Jvm.MethodName) prog_1_method_13_code (7 : Nat) (Option.some Jvm.ClassFile.FieldType.int)), (Jvm.Cond.instantiable "OwnerLedger$Invoice" (5 : Nat)), (Jvm.Cond.methodLink "OwnerLedger" (166 : Nat) ({ cls := "OwnerLedger$Invoice", name := "<init>", desc := "(IJI)V" } : Jvm.MethodName)), (Jvm.Cond.instanceMethod ({ cls := "OwnerLedger$Invoice", name := "<init>", desc := "(IJI)V" } : Jvm.MethodName)), (Jvm.Cond.code ({ cls := "OwnerLedger$Invoice", name := "<init>", desc := "(IJI)V" } : Jvm.MethodName) prog_3_method_1_code (5 : Nat) (Option.none : Option Jvm.ClassFile.FieldType)), (Jvm.Cond.methodLink "OwnerLedger$Invoice" (1 : Nat) ({ cls := "java/lang/Object", name := "<init>", desc := "()V" } : Jvm.MethodName)), (Jvm.Cond.fieldLink "OwnerLedger$Invoice" (7 : Nat) "OwnerLedger$Invoice" "owner" "I"), (Jvm.Cond.fieldLink "OwnerLedger" (187 : Nat) "OwnerLedger$Invoice" "owner" "I"), (Jvm.Cond.fieldLink "OwnerLedger$Invoice" (17 : Nat) "OwnerLedger$Invoice" "dueMonth" "I"), (Jvm.Cond.fieldLink "OwnerLedger" (229 : Nat) "OwnerLedger$Invoice" "dueMonth" "I"), (Jvm.Cond.fieldLink "OwnerLedger$Invoice" (13 : Nat) "OwnerLedger$Invoice" "open" "J"), (Jvm.Cond.fieldLink "OwnerLedger" (181 : Nat) "OwnerLedger$Invoice" "open" "J"), (Jvm.Cond.fieldLink "OwnerLedger" (201 : Nat) "OwnerLedger$Invoice" "stage" "I"), (Jvm.Cond.fieldLink "OwnerLedger$Invoice" (26 : Nat) "OwnerLedger$Invoice" "disputed" "Z"), (Jvm.Cond.fieldLink "OwnerLedger" (190 : Nat) "OwnerLedger$Invoice" "disputed" "Z"), (Jvm.Cond.methodLink "OwnerLedger" (173 : Nat) ({ cls := "OwnerLedger$Invoice", name := "takeFrom", desc := "(J)J" } : Jvm.MethodName)), (Jvm.Cond.instanceMethod ({ cls := "OwnerLedger$Invoice", name := "takeFrom", desc := "(J)J" } : Jvm.MethodName)), (Jvm.Cond.selects "OwnerLedger$Invoice" ({ cls := "OwnerLedger$Invoice", name := "takeFrom", desc := "(J)J" } : Jvm.MethodName) ({ cls := "OwnerLedger$Invoice", name := "takeFrom", desc := "(J)J" } : Jvm.MethodName)), (Jvm.Cond.code ({ cls := "OwnerLedger$Invoice", name := "takeFrom", desc := "(J)J" } : Jvm.MethodName) prog_3_method_2_code (5 : Nat) (Option.some Jvm.ClassFile.FieldType.long)), (Jvm.Cond.methodLink "OwnerLedger$Invoice" (20 : Nat) ({ cls := "java/lang/Math", name := "min", desc := "(JJ)J" } : Jvm.MethodName)), (Jvm.Cond.static ({ cls := "java/lang/Math", name := "min", desc := "(JJ)J" } : Jvm.MethodName)), (Jvm.Cond.code ({ cls := "java/lang/Math", name := "min", desc := "(JJ)J" } : Jvm.MethodName) prog_11_method_70_code (4 : Nat) (Option.some Jvm.ClassFile.FieldType.long)), (Jvm.Cond.methodLink "OwnerLedgerLaw" (150 : Nat) ({ cls := "OwnerLedgerLaw", name := "pay", desc := "(LOwnerLedger;IJ[J)I" } : Jvm.MethodName)), (Jvm.Cond.static ({ cls := "OwnerLedgerLaw", name := "pay", desc := "(LOwnerLedger;IJ[J)I" } : Jvm.MethodName)), (Jvm.Cond.codeWith ({ cls := "OwnerLedgerLaw", name := "pay", desc := "(LOwnerLedger;IJ[J)I" } : Jvm.MethodName) method_15_code (6 : Nat) (Option.some Jvm.ClassFile.FieldType.int) [((0 : Nat), (11 : Nat), (14 : Nat), (19 : Nat)), ((0 : Nat), (11 : Nat), (18 : Nat), (21 : Nat))]), (Jvm.Cond.methodLink "OwnerLedgerLaw" (62 : Nat) ({ cls := "OwnerLedger", name := "pay", desc := "(IJ)I" } : Jvm.MethodName)), (Jvm.Cond.instanceMethod ({ cls := "OwnerLedger", name := "pay", desc := "(IJ)I" } : Jvm.MethodName)), (Jvm.Cond.selects "OwnerLedger" ({ cls := "OwnerLedger", name := "pay", desc := "(IJ)I" } : Jvm.MethodName) ({ cls := "OwnerLedger", name := "pay", desc := "(IJ)I" } : Jvm.MethodName)), (Jvm.Cond.code ({ cls := "OwnerLedger", name := "pay", desc := "(IJ)I" } : Jvm.MethodName) prog_1_method_14_code (10 : Nat) (Option.some Jvm.ClassFile.FieldType.int)), (Jvm.Cond.methodLink "OwnerLedger" (177 : Nat) ({ cls := "OwnerLedger", name := "firstToPay", desc := "(I)LOwnerLedger$Invoice;" } : Jvm.MethodName)), (Jvm.Cond.instanceMethod ({ cls := "OwnerLedger", name := "firstToPay", desc := "(I)LOwnerLedger$Invoice;" } : Jvm.MethodName)), (Jvm.Cond.code ({ cls := "OwnerLedger", name := "firstToPay", desc := "(I)LOwnerLedger$Invoice;" } : Jvm.MethodName) prog_1_method_34_code (7 : Nat) (Option.some (Jvm.ClassFile.FieldType.object "OwnerLedger$Invoice"))), (Jvm.Cond.methodLink "OwnerLedgerLaw" (154 : Nat) ({ cls := "OwnerLedgerLaw", name := "settle", desc := "(LOwnerLedger;IJ[J)I" } : Jvm.MethodName)), (Jvm.Cond.static ({ cls := "OwnerLedgerLaw", name := "settle", desc := "(LOwnerLedger;IJ[J)I" } : Jvm.MethodName))]
def gT7 : List Cond := [(Jvm.Cond.codeWith ({ cls := "OwnerLedgerLaw", name := "settle", desc := "(LOwnerLedger;IJ[J)I" } : Jvm.MethodName) method_16_code (6 : Nat) (Option.some Jvm.ClassFile.FieldType.int) [((0 : Nat), (10 : Nat), (13 : Nat), (19 : Nat)), ((0 : Nat), (10 : Nat), (17 : Nat), (21 : Nat))]), (Jvm.Cond.methodLink "OwnerLedgerLaw" (66 : Nat) ({ cls := "OwnerLedger", name := "settle", desc := "(IJ)J" } : Jvm.MethodName)), (Jvm.Cond.instanceMethod ({ cls := "OwnerLedger", name := "settle", desc := "(IJ)J" } : Jvm.MethodName)), (Jvm.Cond.selects "OwnerLedger" ({ cls := "OwnerLedger", name := "settle", desc := "(IJ)J" } : Jvm.MethodName) ({ cls := "OwnerLedger", name := "settle", desc := "(IJ)J" } : Jvm.MethodName)), (Jvm.Cond.code ({ cls := "OwnerLedger", name := "settle", desc := "(IJ)J" } : Jvm.MethodName) prog_1_method_15_code (6 : Nat) (Option.some Jvm.ClassFile.FieldType.long)), (Jvm.Cond.methodLink "OwnerLedger" (184 : Nat) ({ cls := "OwnerLedger", name := "findInvoice", desc := "(I)LOwnerLedger$Invoice;" } : Jvm.MethodName)), (Jvm.Cond.instanceMethod ({ cls := "OwnerLedger", name := "findInvoice", desc := "(I)LOwnerLedger$Invoice;" } : Jvm.MethodName)), (Jvm.Cond.code ({ cls := "OwnerLedger", name := "findInvoice", desc := "(I)LOwnerLedger$Invoice;" } : Jvm.MethodName) prog_1_method_32_code (3 : Nat) (Option.some (Jvm.ClassFile.FieldType.object "OwnerLedger$Invoice"))), (Jvm.Cond.methodLink "OwnerLedgerLaw" (157 : Nat) ({ cls := "OwnerLedgerLaw", name := "dispute", desc := "(LOwnerLedger;IZ[J)I" } : Jvm.MethodName)), (Jvm.Cond.static ({ cls := "OwnerLedgerLaw", name := "dispute", desc := "(LOwnerLedger;IZ[J)I" } : Jvm.MethodName)), (Jvm.Cond.codeWith ({ cls := "OwnerLedgerLaw", name := "dispute", desc := "(LOwnerLedger;IZ[J)I" } : Jvm.MethodName) method_17_code (5 : Nat) (Option.some Jvm.ClassFile.FieldType.int) [((0 : Nat), (9 : Nat), (12 : Nat), (19 : Nat)), ((0 : Nat), (9 : Nat), (16 : Nat), (31 : Nat))]), (Jvm.Cond.methodLink "OwnerLedgerLaw" (70 : Nat) ({ cls := "OwnerLedger", name := "dispute", desc := "(IZ)J" } : Jvm.MethodName)), (Jvm.Cond.instanceMethod ({ cls := "OwnerLedger", name := "dispute", desc := "(IZ)J" } : Jvm.MethodName)), (Jvm.Cond.selects "OwnerLedger" ({ cls := "OwnerLedger", name := "dispute", desc := "(IZ)J" } : Jvm.MethodName) ({ cls := "OwnerLedger", name := "dispute", desc := "(IZ)J" } : Jvm.MethodName)), (Jvm.Cond.code ({ cls := "OwnerLedger", name := "dispute", desc := "(IZ)J" } : Jvm.MethodName) prog_1_method_16_code (4 : Nat) (Option.some Jvm.ClassFile.FieldType.long)), (Jvm.Cond.methodLink "OwnerLedgerLaw" (161 : Nat) ({ cls := "OwnerLedgerLaw", name := "dun", desc := "(LOwnerLedger;I[J)I" } : Jvm.MethodName)), (Jvm.Cond.static ({ cls := "OwnerLedgerLaw", name := "dun", desc := "(LOwnerLedger;I[J)I" } : Jvm.MethodName)), (Jvm.Cond.codeWith ({ cls := "OwnerLedgerLaw", name := "dun", desc := "(LOwnerLedger;I[J)I" } : Jvm.MethodName) method_18_code (4 : Nat) (Option.some Jvm.ClassFile.FieldType.int) [((0 : Nat), (9 : Nat), (12 : Nat), (19 : Nat)), ((0 : Nat), (9 : Nat), (15 : Nat), (31 : Nat))]), (Jvm.Cond.methodLink "OwnerLedgerLaw" (74 : Nat) ({ cls := "OwnerLedger", name := "dun", desc := "(I)I" } : Jvm.MethodName)), (Jvm.Cond.instanceMethod ({ cls := "OwnerLedger", name := "dun", desc := "(I)I" } : Jvm.MethodName)), (Jvm.Cond.selects "OwnerLedger" ({ cls := "OwnerLedger", name := "dun", desc := "(I)I" } : Jvm.MethodName) ({ cls := "OwnerLedger", name := "dun", desc := "(I)I" } : Jvm.MethodName)), (Jvm.Cond.code ({ cls := "OwnerLedger", name := "dun", desc := "(I)I" } : Jvm.MethodName) prog_1_method_17_code (3 : Nat) (Option.some Jvm.ClassFile.FieldType.int)), (Jvm.Cond.methodLink "OwnerLedger" (195 : Nat) ({ cls := "OwnerLedger$Invoice", name := "isOverdue", desc := "(I)Z" } : Jvm.MethodName)), (Jvm.Cond.instanceMethod ({ cls := "OwnerLedger$Invoice", name := "isOverdue", desc := "(I)Z" } : Jvm.MethodName)), (Jvm.Cond.selects "OwnerLedger$Invoice" ({ cls := "OwnerLedger$Invoice", name := "isOverdue", desc := "(I)Z" } : Jvm.MethodName) ({ cls := "OwnerLedger$Invoice", name := "isOverdue", desc := "(I)Z" } : Jvm.MethodName)), (Jvm.Cond.code ({ cls := "OwnerLedger$Invoice", name := "isOverdue", desc := "(I)Z" } : Jvm.MethodName) prog_3_method_3_code (2 : Nat) (Option.some Jvm.ClassFile.FieldType.boolean)), (Jvm.Cond.methodLink "OwnerLedgerLaw" (164 : Nat) ({ cls := "OwnerLedgerLaw", name := "rate", desc := "(LOwnerLedger;I)I" } : Jvm.MethodName)), (Jvm.Cond.static ({ cls := "OwnerLedgerLaw", name := "rate", desc := "(LOwnerLedger;I)I" } : Jvm.MethodName)), (Jvm.Cond.codeWith ({ cls := "OwnerLedgerLaw", name := "rate", desc := "(LOwnerLedger;I)I" } : Jvm.MethodName) method_19_code (3 : Nat) (Option.some Jvm.ClassFile.FieldType.int) [((0 : Nat), (5 : Nat), (8 : Nat), (21 : Nat))]), (Jvm.Cond.methodLink "OwnerLedgerLaw" (77 : Nat) ({ cls := "OwnerLedger", name := "rate", desc := "(I)V" } : Jvm.MethodName)), (Jvm.Cond.instanceMethod ({ cls := "OwnerLedger", name := "rate", desc := "(I)V" } : Jvm.MethodName)), (Jvm.Cond.selects "OwnerLedger" ({ cls := "OwnerLedger", name := "rate", desc := "(I)V" } : Jvm.MethodName) ({ cls := "OwnerLedger", name := "rate", desc := "(I)V" } : Jvm.MethodName)), (Jvm.Cond.code ({ cls := "OwnerLedger", name := "rate", desc := "(I)V" } : Jvm.MethodName) prog_1_method_18_code (2 : Nat) (Option.none : Option Jvm.ClassFile.FieldType)), (Jvm.Cond.constantLong "OwnerLedger" (206 : Nat) (100 : Int64)), (Jvm.Cond.methodLink "OwnerLedgerLaw" (167 : Nat) ({ cls := "OwnerLedgerLaw", name := "interest", desc := "(LOwnerLedger;II[J)I" } : Jvm.MethodName)), (Jvm.Cond.static ({ cls := "OwnerLedgerLaw", name := "interest", desc := "(LOwnerLedger;II[J)I" } : Jvm.MethodName)), (Jvm.Cond.codeWith ({ cls := "OwnerLedgerLaw", name := "interest", desc := "(LOwnerLedger;II[J)I" } : Jvm.MethodName) method_20_code (5 : Nat) (Option.some Jvm.ClassFile.FieldType.int) [((0 : Nat), (9 : Nat), (12 : Nat), (19 : Nat)), ((0 : Nat), (9 : Nat), (16 : Nat), (21 : Nat))]), (Jvm.Cond.methodLink "OwnerLedgerLaw" (80 : Nat) ({ cls := "OwnerLedger", name := "interest", desc := "(II)J" } : Jvm.MethodName)), (Jvm.Cond.instanceMethod ({ cls := "OwnerLedger", name := "interest", desc := "(II)J" } : Jvm.MethodName)), (Jvm.Cond.selects "OwnerLedger" ({ cls := "OwnerLedger", name := "interest", desc := "(II)J" } : Jvm.MethodName) ({ cls := "OwnerLedger", name := "interest", desc := "(II)J" } : Jvm.MethodName))]
def gT8 : List Cond := [(Jvm.Cond.code ({ cls := "OwnerLedger", name := "interest", desc := "(II)J" } : Jvm.MethodName) prog_1_method_19_code (8 : Nat) (Option.some Jvm.ClassFile.FieldType.long)), (Jvm.Cond.methodLink "OwnerLedger" (211 : Nat) ({ cls := "OwnerLedger$Invoice", name := "monthsOverdue", desc := "(I)I" } : Jvm.MethodName)), (Jvm.Cond.instanceMethod ({ cls := "OwnerLedger$Invoice", name := "monthsOverdue", desc := "(I)I" } : Jvm.MethodName)), (Jvm.Cond.selects "OwnerLedger$Invoice" ({ cls := "OwnerLedger$Invoice", name := "monthsOverdue", desc := "(I)I" } : Jvm.MethodName) ({ cls := "OwnerLedger$Invoice", name := "monthsOverdue", desc := "(I)I" } : Jvm.MethodName)), (Jvm.Cond.code ({ cls := "OwnerLedger$Invoice", name := "monthsOverdue", desc := "(I)I" } : Jvm.MethodName) prog_3_method_4_code (2 : Nat) (Option.some Jvm.ClassFile.FieldType.int)), (Jvm.Cond.methodLink "OwnerLedger$Invoice" (30 : Nat) ({ cls := "OwnerLedger$Invoice", name := "isOverdue", desc := "(I)Z" } : Jvm.MethodName)), (Jvm.Cond.constantLong "OwnerLedger" (214 : Nat) (1200 : Int64)), (Jvm.Cond.methodLink "OwnerLedger" (216 : Nat) ({ cls := "OwnerLedger", name := "commonDivisor", desc := "(JJ)J" } : Jvm.MethodName)), (Jvm.Cond.static ({ cls := "OwnerLedger", name := "commonDivisor", desc := "(JJ)J" } : Jvm.MethodName)), (Jvm.Cond.code ({ cls := "OwnerLedger", name := "commonDivisor", desc := "(JJ)J" } : Jvm.MethodName) prog_1_method_39_code (11 : Nat) (Option.some Jvm.ClassFile.FieldType.long)), (Jvm.Cond.methodLink "OwnerLedger" (270 : Nat) ({ cls := "java/lang/Math", name := "max", desc := "(JJ)J" } : Jvm.MethodName)), (Jvm.Cond.static ({ cls := "java/lang/Math", name := "max", desc := "(JJ)J" } : Jvm.MethodName)), (Jvm.Cond.code ({ cls := "java/lang/Math", name := "max", desc := "(JJ)J" } : Jvm.MethodName) prog_11_method_66_code (4 : Nat) (Option.some Jvm.ClassFile.FieldType.long)), (Jvm.Cond.methodLink "OwnerLedgerLaw" (170 : Nat) ({ cls := "OwnerLedgerLaw", name := "hold", desc := "(LOwnerLedger;IZ[J)I" } : Jvm.MethodName)), (Jvm.Cond.static ({ cls := "OwnerLedgerLaw", name := "hold", desc := "(LOwnerLedger;IZ[J)I" } : Jvm.MethodName)), (Jvm.Cond.codeWith ({ cls := "OwnerLedgerLaw", name := "hold", desc := "(LOwnerLedger;IZ[J)I" } : Jvm.MethodName) method_21_code (5 : Nat) (Option.some Jvm.ClassFile.FieldType.int) [((0 : Nat), (10 : Nat), (13 : Nat), (19 : Nat)), ((0 : Nat), (10 : Nat), (17 : Nat), (31 : Nat))]), (Jvm.Cond.methodLink "OwnerLedgerLaw" (83 : Nat) ({ cls := "OwnerLedger", name := "hold", desc := "(IZ)I" } : Jvm.MethodName)), (Jvm.Cond.instanceMethod ({ cls := "OwnerLedger", name := "hold", desc := "(IZ)I" } : Jvm.MethodName)), (Jvm.Cond.selects "OwnerLedger" ({ cls := "OwnerLedger", name := "hold", desc := "(IZ)I" } : Jvm.MethodName) ({ cls := "OwnerLedger", name := "hold", desc := "(IZ)I" } : Jvm.MethodName)), (Jvm.Cond.code ({ cls := "OwnerLedger", name := "hold", desc := "(IZ)I" } : Jvm.MethodName) prog_1_method_20_code (4 : Nat) (Option.some Jvm.ClassFile.FieldType.int)), (Jvm.Cond.methodLink "OwnerLedger" (222 : Nat) ({ cls := "OwnerLedger", name := "overdueInvoicesOf", desc := "(I)I" } : Jvm.MethodName)), (Jvm.Cond.instanceMethod ({ cls := "OwnerLedger", name := "overdueInvoicesOf", desc := "(I)I" } : Jvm.MethodName)), (Jvm.Cond.code ({ cls := "OwnerLedger", name := "overdueInvoicesOf", desc := "(I)I" } : Jvm.MethodName) prog_1_method_35_code (7 : Nat) (Option.some Jvm.ClassFile.FieldType.int)), (Jvm.Cond.methodLink "OwnerLedgerLaw" (173 : Nat) ({ cls := "OwnerLedgerLaw", name := "told", desc := "(LOwnerLedger;II[J)I" } : Jvm.MethodName)), (Jvm.Cond.static ({ cls := "OwnerLedgerLaw", name := "told", desc := "(LOwnerLedger;II[J)I" } : Jvm.MethodName)), (Jvm.Cond.codeWith ({ cls := "OwnerLedgerLaw", name := "told", desc := "(LOwnerLedger;II[J)I" } : Jvm.MethodName) method_22_code (5 : Nat) (Option.some Jvm.ClassFile.FieldType.int) [((0 : Nat), (10 : Nat), (13 : Nat), (19 : Nat)), ((0 : Nat), (10 : Nat), (17 : Nat), (21 : Nat))]), (Jvm.Cond.methodLink "OwnerLedgerLaw" (87 : Nat) ({ cls := "OwnerLedger", name := "told", desc := "(II)I" } : Jvm.MethodName)), (Jvm.Cond.instanceMethod ({ cls := "OwnerLedger", name := "told", desc := "(II)I" } : Jvm.MethodName)), (Jvm.Cond.selects "OwnerLedger" ({ cls := "OwnerLedger", name := "told", desc := "(II)I" } : Jvm.MethodName) ({ cls := "OwnerLedger", name := "told", desc := "(II)I" } : Jvm.MethodName)), (Jvm.Cond.code ({ cls := "OwnerLedger", name := "told", desc := "(II)I" } : Jvm.MethodName) prog_1_method_21_code (4 : Nat) (Option.some Jvm.ClassFile.FieldType.int)), (Jvm.Cond.constantLong "OwnerLedger" (225 : Nat) (4 : Int64)), (Jvm.Cond.methodLink "OwnerLedgerLaw" (176 : Nat) ({ cls := "OwnerLedgerLaw", name := "known", desc := "(LOwnerLedger;II[J)I" } : Jvm.MethodName)), (Jvm.Cond.static ({ cls := "OwnerLedgerLaw", name := "known", desc := "(LOwnerLedger;II[J)I" } : Jvm.MethodName)), (Jvm.Cond.codeWith ({ cls := "OwnerLedgerLaw", name := "known", desc := "(LOwnerLedger;II[J)I" } : Jvm.MethodName) method_23_code (5 : Nat) (Option.some Jvm.ClassFile.FieldType.int) [((0 : Nat), (9 : Nat), (12 : Nat), (19 : Nat)), ((0 : Nat), (9 : Nat), (16 : Nat), (21 : Nat))]), (Jvm.Cond.methodLink "OwnerLedgerLaw" (90 : Nat) ({ cls := "OwnerLedger", name := "known", desc := "(II)J" } : Jvm.MethodName)), (Jvm.Cond.instanceMethod ({ cls := "OwnerLedger", name := "known", desc := "(II)J" } : Jvm.MethodName)), (Jvm.Cond.selects "OwnerLedger" ({ cls := "OwnerLedger", name := "known", desc := "(II)J" } : Jvm.MethodName) ({ cls := "OwnerLedger", name := "known", desc := "(II)J" } : Jvm.MethodName)), (Jvm.Cond.code ({ cls := "OwnerLedger", name := "known", desc := "(II)J" } : Jvm.MethodName) prog_1_method_22_code (4 : Nat) (Option.some Jvm.ClassFile.FieldType.long)), (Jvm.Cond.constantLong "OwnerLedger" (227 : Nat) (5 : Int64)), (Jvm.Cond.methodLink "OwnerLedgerLaw" (179 : Nat) ({ cls := "OwnerLedgerLaw", name := "credit", desc := "(LOwnerLedger;I[J)I" } : Jvm.MethodName))]
def gT9 : List Cond := [(Jvm.Cond.static ({ cls := "OwnerLedgerLaw", name := "credit", desc := "(LOwnerLedger;I[J)I" } : Jvm.MethodName)), (Jvm.Cond.codeWith ({ cls := "OwnerLedgerLaw", name := "credit", desc := "(LOwnerLedger;I[J)I" } : Jvm.MethodName) method_24_code (4 : Nat) (Option.some Jvm.ClassFile.FieldType.int) [((0 : Nat), (8 : Nat), (11 : Nat), (19 : Nat))]), (Jvm.Cond.methodLink "OwnerLedgerLaw" (93 : Nat) ({ cls := "OwnerLedger", name := "credit", desc := "(I)J" } : Jvm.MethodName)), (Jvm.Cond.instanceMethod ({ cls := "OwnerLedger", name := "credit", desc := "(I)J" } : Jvm.MethodName)), (Jvm.Cond.selects "OwnerLedger" ({ cls := "OwnerLedger", name := "credit", desc := "(I)J" } : Jvm.MethodName) ({ cls := "OwnerLedger", name := "credit", desc := "(I)J" } : Jvm.MethodName)), (Jvm.Cond.code ({ cls := "OwnerLedger", name := "credit", desc := "(I)J" } : Jvm.MethodName) prog_1_method_23_code (2 : Nat) (Option.some Jvm.ClassFile.FieldType.long)), (Jvm.Cond.classLink "OwnerLedgerLaw" (97 : Nat) "OwnerLedgerModel"), (Jvm.Cond.instantiable "OwnerLedgerModel" (24 : Nat)), (Jvm.Cond.methodLink "OwnerLedgerLaw" (99 : Nat) ({ cls := "OwnerLedgerModel", name := "<init>", desc := "()V" } : Jvm.MethodName)), (Jvm.Cond.instanceMethod ({ cls := "OwnerLedgerModel", name := "<init>", desc := "()V" } : Jvm.MethodName)), (Jvm.Cond.code ({ cls := "OwnerLedgerModel", name := "<init>", desc := "()V" } : Jvm.MethodName) prog_7_method_1_code (1 : Nat) (Option.none : Option Jvm.ClassFile.FieldType)), (Jvm.Cond.methodLink "OwnerLedgerModel" (1 : Nat) ({ cls := "java/lang/Object", name := "<init>", desc := "()V" } : Jvm.MethodName)), (Jvm.Cond.fieldLink "OwnerLedgerModel" (7 : Nat) "OwnerLedgerModel" "thrownCode" "I"), (Jvm.Cond.fieldLink "OwnerLedgerModel" (13 : Nat) "OwnerLedgerModel" "now" "I"), (Jvm.Cond.fieldLink "OwnerLedgerModel" (16 : Nat) "OwnerLedgerModel" "closed" "I"), (Jvm.Cond.fieldLink "OwnerLedgerModel" (19 : Nat) "OwnerLedgerModel" "owners" "I"), (Jvm.Cond.fieldLink "OwnerLedgerModel" (22 : Nat) "OwnerLedgerModel" "held" "[Z"), (Jvm.Cond.fieldLink "OwnerLedgerModel" (26 : Nat) "OwnerLedgerModel" "credits" "[J"), (Jvm.Cond.fieldLink "OwnerLedgerModel" (30 : Nat) "OwnerLedgerModel" "accounts" "I"), (Jvm.Cond.fieldLink "OwnerLedgerModel" (33 : Nat) "OwnerLedgerModel" "currency" "[I"), (Jvm.Cond.fieldLink "OwnerLedgerModel" (37 : Nat) "OwnerLedgerModel" "batches" "I"), (Jvm.Cond.fieldLink "OwnerLedgerModel" (40 : Nat) "OwnerLedgerModel" "state" "[I"), (Jvm.Cond.fieldLink "OwnerLedgerModel" (43 : Nat) "OwnerLedgerModel" "monthOf" "[I"), (Jvm.Cond.fieldLink "OwnerLedgerModel" (46 : Nat) "OwnerLedgerModel" "rows" "[I"), (Jvm.Cond.fieldLink "OwnerLedgerModel" (49 : Nat) "OwnerLedgerModel" "reversedBy" "[I"), (Jvm.Cond.fieldLink "OwnerLedgerModel" (52 : Nat) "OwnerLedgerModel" "reverses" "[I"), (Jvm.Cond.fieldLink "OwnerLedgerModel" (55 : Nat) "OwnerLedgerModel" "rowAccount" "[I"), (Jvm.Cond.fieldLink "OwnerLedgerModel" (58 : Nat) "OwnerLedgerModel" "rowCents" "[J"), (Jvm.Cond.fieldLink "OwnerLedgerModel" (61 : Nat) "OwnerLedgerModel" "rowBreaks" "[Z"), (Jvm.Cond.fieldLink "OwnerLedgerModel" (64 : Nat) "OwnerLedgerModel" "invoices" "I"), (Jvm.Cond.fieldLink "OwnerLedgerModel" (67 : Nat) "OwnerLedgerModel" "ownerOf" "[I"), (Jvm.Cond.fieldLink "OwnerLedgerModel" (70 : Nat) "OwnerLedgerModel" "open" "[J"), (Jvm.Cond.fieldLink "OwnerLedgerModel" (73 : Nat) "OwnerLedgerModel" "due" "[I"), (Jvm.Cond.fieldLink "OwnerLedgerModel" (76 : Nat) "OwnerLedgerModel" "stage" "[I"), (Jvm.Cond.fieldLink "OwnerLedgerModel" (79 : Nat) "OwnerLedgerModel" "disputed" "[Z"), (Jvm.Cond.fieldLink "OwnerLedgerModel" (82 : Nat) "OwnerLedgerModel" "percent" "I"), (Jvm.Cond.arrayClass Jvm.ClassFile.FieldType.boolean), (Jvm.Cond.arrayClass Jvm.ClassFile.FieldType.long), (Jvm.Cond.methodLink "OwnerLedgerLaw" (106 : Nat) ({ cls := "OwnerLedgerModel", name := "thrown", desc := "()I" } : Jvm.MethodName)), (Jvm.Cond.instanceMethod ({ cls := "OwnerLedgerModel", name := "thrown", desc := "()I" } : Jvm.MethodName))]
def gT10 : List Cond := [(Jvm.Cond.selects "OwnerLedgerModel" ({ cls := "OwnerLedgerModel", name := "thrown", desc := "()I" } : Jvm.MethodName) ({ cls := "OwnerLedgerModel", name := "thrown", desc := "()I" } : Jvm.MethodName)), (Jvm.Cond.code ({ cls := "OwnerLedgerModel", name := "thrown", desc := "()I" } : Jvm.MethodName) prog_7_method_11_code (1 : Nat) (Option.some Jvm.ClassFile.FieldType.int)), (Jvm.Cond.methodLink "OwnerLedgerLaw" (105 : Nat) ({ cls := "OwnerLedgerModel", name := "owner", desc := "()I" } : Jvm.MethodName)), (Jvm.Cond.instanceMethod ({ cls := "OwnerLedgerModel", name := "owner", desc := "()I" } : Jvm.MethodName)), (Jvm.Cond.selects "OwnerLedgerModel" ({ cls := "OwnerLedgerModel", name := "owner", desc := "()I" } : Jvm.MethodName) ({ cls := "OwnerLedgerModel", name := "owner", desc := "()I" } : Jvm.MethodName)), (Jvm.Cond.code ({ cls := "OwnerLedgerModel", name := "owner", desc := "()I" } : Jvm.MethodName) prog_7_method_12_code (1 : Nat) (Option.some Jvm.ClassFile.FieldType.int)), (Jvm.Cond.methodLink "OwnerLedgerLaw" (112 : Nat) ({ cls := "OwnerLedgerModel", name := "account", desc := "(II)I" } : Jvm.MethodName)), (Jvm.Cond.instanceMethod ({ cls := "OwnerLedgerModel", name := "account", desc := "(II)I" } : Jvm.MethodName)), (Jvm.Cond.selects "OwnerLedgerModel" ({ cls := "OwnerLedgerModel", name := "account", desc := "(II)I" } : Jvm.MethodName) ({ cls := "OwnerLedgerModel", name := "account", desc := "(II)I" } : Jvm.MethodName)), (Jvm.Cond.code ({ cls := "OwnerLedgerModel", name := "account", desc := "(II)I" } : Jvm.MethodName) prog_7_method_13_code (3 : Nat) (Option.some Jvm.ClassFile.FieldType.int)), (Jvm.Cond.methodLink "OwnerLedgerModel" (89 : Nat) ({ cls := "OwnerLedgerModel", name := "noOwner", desc := "(I)Z" } : Jvm.MethodName)), (Jvm.Cond.instanceMethod ({ cls := "OwnerLedgerModel", name := "noOwner", desc := "(I)Z" } : Jvm.MethodName)), (Jvm.Cond.code ({ cls := "OwnerLedgerModel", name := "noOwner", desc := "(I)Z" } : Jvm.MethodName) prog_7_method_3_code (2 : Nat) (Option.some Jvm.ClassFile.FieldType.boolean)), (Jvm.Cond.constantLong "OwnerLedgerModel" (92 : Nat) (2 : Int64)), (Jvm.Cond.methodLink "OwnerLedgerModel" (94 : Nat) ({ cls := "OwnerLedgerModel", name := "not", desc := "(JJJ)Z" } : Jvm.MethodName)), (Jvm.Cond.static ({ cls := "OwnerLedgerModel", name := "not", desc := "(JJJ)Z" } : Jvm.MethodName)), (Jvm.Cond.code ({ cls := "OwnerLedgerModel", name := "not", desc := "(JJJ)Z" } : Jvm.MethodName) prog_7_method_2_code (6 : Nat) (Option.some Jvm.ClassFile.FieldType.boolean)), (Jvm.Cond.methodLink "OwnerLedgerLaw" (116 : Nat) ({ cls := "OwnerLedgerModel", name := "month", desc := "(I)V" } : Jvm.MethodName)), (Jvm.Cond.instanceMethod ({ cls := "OwnerLedgerModel", name := "month", desc := "(I)V" } : Jvm.MethodName)), (Jvm.Cond.selects "OwnerLedgerModel" ({ cls := "OwnerLedgerModel", name := "month", desc := "(I)V" } : Jvm.MethodName) ({ cls := "OwnerLedgerModel", name := "month", desc := "(I)V" } : Jvm.MethodName)), (Jvm.Cond.code ({ cls := "OwnerLedgerModel", name := "month", desc := "(I)V" } : Jvm.MethodName) prog_7_method_14_code (2 : Nat) (Option.none : Option Jvm.ClassFile.FieldType)), (Jvm.Cond.methodLink "OwnerLedgerLaw" (120 : Nat) ({ cls := "OwnerLedgerModel", name := "close", desc := "(I)I" } : Jvm.MethodName)), (Jvm.Cond.instanceMethod ({ cls := "OwnerLedgerModel", name := "close", desc := "(I)I" } : Jvm.MethodName)), (Jvm.Cond.selects "OwnerLedgerModel" ({ cls := "OwnerLedgerModel", name := "close", desc := "(I)I" } : Jvm.MethodName) ({ cls := "OwnerLedgerModel", name := "close", desc := "(I)I" } : Jvm.MethodName)), (Jvm.Cond.code ({ cls := "OwnerLedgerModel", name := "close", desc := "(I)I" } : Jvm.MethodName) prog_7_method_15_code (3 : Nat) (Option.some Jvm.ClassFile.FieldType.int)), (Jvm.Cond.methodLink "OwnerLedgerLaw" (123 : Nat) ({ cls := "OwnerLedgerModel", name := "batch", desc := "(I)I" } : Jvm.MethodName)), (Jvm.Cond.instanceMethod ({ cls := "OwnerLedgerModel", name := "batch", desc := "(I)I" } : Jvm.MethodName)), (Jvm.Cond.selects "OwnerLedgerModel" ({ cls := "OwnerLedgerModel", name := "batch", desc := "(I)I" } : Jvm.MethodName) ({ cls := "OwnerLedgerModel", name := "batch", desc := "(I)I" } : Jvm.MethodName)), (Jvm.Cond.code ({ cls := "OwnerLedgerModel", name := "batch", desc := "(I)I" } : Jvm.MethodName) prog_7_method_16_code (2 : Nat) (Option.some Jvm.ClassFile.FieldType.int)), (Jvm.Cond.methodLink "OwnerLedgerModel" (98 : Nat) ({ cls := "OwnerLedgerModel", name := "newBatch", desc := "(I)V" } : Jvm.MethodName)), (Jvm.Cond.instanceMethod ({ cls := "OwnerLedgerModel", name := "newBatch", desc := "(I)V" } : Jvm.MethodName)), (Jvm.Cond.code ({ cls := "OwnerLedgerModel", name := "newBatch", desc := "(I)V" } : Jvm.MethodName) prog_7_method_9_code (2 : Nat) (Option.none : Option Jvm.ClassFile.FieldType)), (Jvm.Cond.methodLink "OwnerLedgerLaw" (129 : Nat) ({ cls := "OwnerLedgerModel", name := "row", desc := "(IIJ)I" } : Jvm.MethodName)), (Jvm.Cond.instanceMethod ({ cls := "OwnerLedgerModel", name := "row", desc := "(IIJ)I" } : Jvm.MethodName)), (Jvm.Cond.selects "OwnerLedgerModel" ({ cls := "OwnerLedgerModel", name := "row", desc := "(IIJ)I" } : Jvm.MethodName) ({ cls := "OwnerLedgerModel", name := "row", desc := "(IIJ)I" } : Jvm.MethodName)), (Jvm.Cond.code ({ cls := "OwnerLedgerModel", name := "row", desc := "(IIJ)I" } : Jvm.MethodName) prog_7_method_17_code (6 : Nat) (Option.some Jvm.ClassFile.FieldType.int)), (Jvm.Cond.methodLink "OwnerLedgerModel" (102 : Nat) ({ cls := "OwnerLedgerModel", name := "noBatch", desc := "(I)Z" } : Jvm.MethodName)), (Jvm.Cond.instanceMethod ({ cls := "OwnerLedgerModel", name := "noBatch", desc := "(I)Z" } : Jvm.MethodName)), (Jvm.Cond.code ({ cls := "OwnerLedgerModel", name := "noBatch", desc := "(I)Z" } : Jvm.MethodName) prog_7_method_4_code (2 : Nat) (Option.some Jvm.ClassFile.FieldType.boolean)), (Jvm.Cond.constantLong "OwnerLedgerModel" (105 : Nat) (-1000000000 : Int64))]
def gT11 : List Cond := [(Jvm.Cond.constantLong "OwnerLedgerModel" (107 : Nat) (1000000000 : Int64)), (Jvm.Cond.methodLink "OwnerLedgerLaw" (133 : Nat) ({ cls := "OwnerLedgerModel", name := "breaks", desc := "(IIZ)V" } : Jvm.MethodName)), (Jvm.Cond.instanceMethod ({ cls := "OwnerLedgerModel", name := "breaks", desc := "(IIZ)V" } : Jvm.MethodName)), (Jvm.Cond.selects "OwnerLedgerModel" ({ cls := "OwnerLedgerModel", name := "breaks", desc := "(IIZ)V" } : Jvm.MethodName) ({ cls := "OwnerLedgerModel", name := "breaks", desc := "(IIZ)V" } : Jvm.MethodName)), (Jvm.Cond.code ({ cls := "OwnerLedgerModel", name := "breaks", desc := "(IIZ)V" } : Jvm.MethodName) prog_7_method_18_code (4 : Nat) (Option.none : Option Jvm.ClassFile.FieldType)), (Jvm.Cond.methodLink "OwnerLedgerLaw" (136 : Nat) ({ cls := "OwnerLedgerModel", name := "post", desc := "(I)I" } : Jvm.MethodName)), (Jvm.Cond.instanceMethod ({ cls := "OwnerLedgerModel", name := "post", desc := "(I)I" } : Jvm.MethodName)), (Jvm.Cond.selects "OwnerLedgerModel" ({ cls := "OwnerLedgerModel", name := "post", desc := "(I)I" } : Jvm.MethodName) ({ cls := "OwnerLedgerModel", name := "post", desc := "(I)I" } : Jvm.MethodName)), (Jvm.Cond.code ({ cls := "OwnerLedgerModel", name := "post", desc := "(I)I" } : Jvm.MethodName) prog_7_method_19_code (3 : Nat) (Option.some Jvm.ClassFile.FieldType.int)), (Jvm.Cond.methodLink "OwnerLedgerModel" (109 : Nat) ({ cls := "OwnerLedgerModel", name := "sumOf", desc := "(II)J" } : Jvm.MethodName)), (Jvm.Cond.instanceMethod ({ cls := "OwnerLedgerModel", name := "sumOf", desc := "(II)J" } : Jvm.MethodName)), (Jvm.Cond.code ({ cls := "OwnerLedgerModel", name := "sumOf", desc := "(II)J" } : Jvm.MethodName) prog_7_method_8_code (6 : Nat) (Option.some Jvm.ClassFile.FieldType.long)), (Jvm.Cond.methodLink "OwnerLedgerLaw" (139 : Nat) ({ cls := "OwnerLedgerModel", name := "reverse", desc := "(I)I" } : Jvm.MethodName)), (Jvm.Cond.instanceMethod ({ cls := "OwnerLedgerModel", name := "reverse", desc := "(I)I" } : Jvm.MethodName)), (Jvm.Cond.selects "OwnerLedgerModel" ({ cls := "OwnerLedgerModel", name := "reverse", desc := "(I)I" } : Jvm.MethodName) ({ cls := "OwnerLedgerModel", name := "reverse", desc := "(I)I" } : Jvm.MethodName)), (Jvm.Cond.code ({ cls := "OwnerLedgerModel", name := "reverse", desc := "(I)I" } : Jvm.MethodName) prog_7_method_20_code (5 : Nat) (Option.some Jvm.ClassFile.FieldType.int)), (Jvm.Cond.methodLink "OwnerLedgerLaw" (142 : Nat) ({ cls := "OwnerLedgerModel", name := "balance", desc := "(II)J" } : Jvm.MethodName)), (Jvm.Cond.instanceMethod ({ cls := "OwnerLedgerModel", name := "balance", desc := "(II)J" } : Jvm.MethodName)), (Jvm.Cond.selects "OwnerLedgerModel" ({ cls := "OwnerLedgerModel", name := "balance", desc := "(II)J" } : Jvm.MethodName) ({ cls := "OwnerLedgerModel", name := "balance", desc := "(II)J" } : Jvm.MethodName)), (Jvm.Cond.code ({ cls := "OwnerLedgerModel", name := "balance", desc := "(II)J" } : Jvm.MethodName) prog_7_method_21_code (7 : Nat) (Option.some Jvm.ClassFile.FieldType.long)), (Jvm.Cond.constantLong "OwnerLedgerModel" (113 : Nat) (120 : Int64)), (Jvm.Cond.methodLink "OwnerLedgerLaw" (145 : Nat) ({ cls := "OwnerLedgerModel", name := "all", desc := "(I)J" } : Jvm.MethodName)), (Jvm.Cond.instanceMethod ({ cls := "OwnerLedgerModel", name := "all", desc := "(I)J" } : Jvm.MethodName)), (Jvm.Cond.selects "OwnerLedgerModel" ({ cls := "OwnerLedgerModel", name := "all", desc := "(I)J" } : Jvm.MethodName) ({ cls := "OwnerLedgerModel", name := "all", desc := "(I)J" } : Jvm.MethodName)), (Jvm.Cond.code ({ cls := "OwnerLedgerModel", name := "all", desc := "(I)J" } : Jvm.MethodName) prog_7_method_22_code (5 : Nat) (Option.some Jvm.ClassFile.FieldType.long)), (Jvm.Cond.methodLink "OwnerLedgerLaw" (149 : Nat) ({ cls := "OwnerLedgerModel", name := "invoice", desc := "(IJI)I" } : Jvm.MethodName)), (Jvm.Cond.instanceMethod ({ cls := "OwnerLedgerModel", name := "invoice", desc := "(IJI)I" } : Jvm.MethodName)), (Jvm.Cond.selects "OwnerLedgerModel" ({ cls := "OwnerLedgerModel", name := "invoice", desc := "(IJI)I" } : Jvm.MethodName) ({ cls := "OwnerLedgerModel", name := "invoice", desc := "(IJI)I" } : Jvm.MethodName)), (Jvm.Cond.code ({ cls := "OwnerLedgerModel", name := "invoice", desc := "(IJI)I" } : Jvm.MethodName) prog_7_method_23_code (5 : Nat) (Option.some Jvm.ClassFile.FieldType.int)), (Jvm.Cond.methodLink "OwnerLedgerModel" (115 : Nat) ({ cls := "OwnerLedgerModel", name := "meet", desc := "(IJ)J" } : Jvm.MethodName)), (Jvm.Cond.instanceMethod ({ cls := "OwnerLedgerModel", name := "meet", desc := "(IJ)J" } : Jvm.MethodName)), (Jvm.Cond.code ({ cls := "OwnerLedgerModel", name := "meet", desc := "(IJ)J" } : Jvm.MethodName) prog_7_method_10_code (6 : Nat) (Option.some Jvm.ClassFile.FieldType.long)), (Jvm.Cond.methodLink "OwnerLedgerLaw" (153 : Nat) ({ cls := "OwnerLedgerModel", name := "pay", desc := "(IJ)I" } : Jvm.MethodName)), (Jvm.Cond.instanceMethod ({ cls := "OwnerLedgerModel", name := "pay", desc := "(IJ)I" } : Jvm.MethodName)), (Jvm.Cond.selects "OwnerLedgerModel" ({ cls := "OwnerLedgerModel", name := "pay", desc := "(IJ)I" } : Jvm.MethodName) ({ cls := "OwnerLedgerModel", name := "pay", desc := "(IJ)I" } : Jvm.MethodName)), (Jvm.Cond.code ({ cls := "OwnerLedgerModel", name := "pay", desc := "(IJ)I" } : Jvm.MethodName) prog_7_method_24_code (9 : Nat) (Option.some Jvm.ClassFile.FieldType.int)), (Jvm.Cond.methodLink "OwnerLedgerLaw" (156 : Nat) ({ cls := "OwnerLedgerModel", name := "settle", desc := "(IJ)J" } : Jvm.MethodName)), (Jvm.Cond.instanceMethod ({ cls := "OwnerLedgerModel", name := "settle", desc := "(IJ)J" } : Jvm.MethodName)), (Jvm.Cond.selects "OwnerLedgerModel" ({ cls := "OwnerLedgerModel", name := "settle", desc := "(IJ)J" } : Jvm.MethodName) ({ cls := "OwnerLedgerModel", name := "settle", desc := "(IJ)J" } : Jvm.MethodName)), (Jvm.Cond.code ({ cls := "OwnerLedgerModel", name := "settle", desc := "(IJ)J" } : Jvm.MethodName) prog_7_method_25_code (5 : Nat) (Option.some Jvm.ClassFile.FieldType.long))]
def gT12 : List Cond := [(Jvm.Cond.methodLink "OwnerLedgerModel" (119 : Nat) ({ cls := "OwnerLedgerModel", name := "noInvoice", desc := "(I)Z" } : Jvm.MethodName)), (Jvm.Cond.instanceMethod ({ cls := "OwnerLedgerModel", name := "noInvoice", desc := "(I)Z" } : Jvm.MethodName)), (Jvm.Cond.code ({ cls := "OwnerLedgerModel", name := "noInvoice", desc := "(I)Z" } : Jvm.MethodName) prog_7_method_5_code (2 : Nat) (Option.some Jvm.ClassFile.FieldType.boolean)), (Jvm.Cond.methodLink "OwnerLedgerLaw" (160 : Nat) ({ cls := "OwnerLedgerModel", name := "dispute", desc := "(IZ)J" } : Jvm.MethodName)), (Jvm.Cond.instanceMethod ({ cls := "OwnerLedgerModel", name := "dispute", desc := "(IZ)J" } : Jvm.MethodName)), (Jvm.Cond.selects "OwnerLedgerModel" ({ cls := "OwnerLedgerModel", name := "dispute", desc := "(IZ)J" } : Jvm.MethodName) ({ cls := "OwnerLedgerModel", name := "dispute", desc := "(IZ)J" } : Jvm.MethodName)), (Jvm.Cond.code ({ cls := "OwnerLedgerModel", name := "dispute", desc := "(IZ)J" } : Jvm.MethodName) prog_7_method_26_code (3 : Nat) (Option.some Jvm.ClassFile.FieldType.long)), (Jvm.Cond.methodLink "OwnerLedgerLaw" (163 : Nat) ({ cls := "OwnerLedgerModel", name := "dun", desc := "(I)I" } : Jvm.MethodName)), (Jvm.Cond.instanceMethod ({ cls := "OwnerLedgerModel", name := "dun", desc := "(I)I" } : Jvm.MethodName)), (Jvm.Cond.selects "OwnerLedgerModel" ({ cls := "OwnerLedgerModel", name := "dun", desc := "(I)I" } : Jvm.MethodName) ({ cls := "OwnerLedgerModel", name := "dun", desc := "(I)I" } : Jvm.MethodName)), (Jvm.Cond.code ({ cls := "OwnerLedgerModel", name := "dun", desc := "(I)I" } : Jvm.MethodName) prog_7_method_27_code (2 : Nat) (Option.some Jvm.ClassFile.FieldType.int)), (Jvm.Cond.methodLink "OwnerLedgerModel" (85 : Nat) ({ cls := "OwnerLedgerModel", name := "overdue", desc := "(I)Z" } : Jvm.MethodName)), (Jvm.Cond.instanceMethod ({ cls := "OwnerLedgerModel", name := "overdue", desc := "(I)Z" } : Jvm.MethodName)), (Jvm.Cond.code ({ cls := "OwnerLedgerModel", name := "overdue", desc := "(I)Z" } : Jvm.MethodName) prog_7_method_6_code (2 : Nat) (Option.some Jvm.ClassFile.FieldType.boolean)), (Jvm.Cond.methodLink "OwnerLedgerLaw" (166 : Nat) ({ cls := "OwnerLedgerModel", name := "rate", desc := "(I)V" } : Jvm.MethodName)), (Jvm.Cond.instanceMethod ({ cls := "OwnerLedgerModel", name := "rate", desc := "(I)V" } : Jvm.MethodName)), (Jvm.Cond.selects "OwnerLedgerModel" ({ cls := "OwnerLedgerModel", name := "rate", desc := "(I)V" } : Jvm.MethodName) ({ cls := "OwnerLedgerModel", name := "rate", desc := "(I)V" } : Jvm.MethodName)), (Jvm.Cond.code ({ cls := "OwnerLedgerModel", name := "rate", desc := "(I)V" } : Jvm.MethodName) prog_7_method_28_code (2 : Nat) (Option.none : Option Jvm.ClassFile.FieldType)), (Jvm.Cond.constantLong "OwnerLedgerModel" (122 : Nat) (100 : Int64)), (Jvm.Cond.methodLink "OwnerLedgerLaw" (169 : Nat) ({ cls := "OwnerLedgerModel", name := "interest", desc := "(II)J" } : Jvm.MethodName)), (Jvm.Cond.instanceMethod ({ cls := "OwnerLedgerModel", name := "interest", desc := "(II)J" } : Jvm.MethodName)), (Jvm.Cond.selects "OwnerLedgerModel" ({ cls := "OwnerLedgerModel", name := "interest", desc := "(II)J" } : Jvm.MethodName) ({ cls := "OwnerLedgerModel", name := "interest", desc := "(II)J" } : Jvm.MethodName)), (Jvm.Cond.code ({ cls := "OwnerLedgerModel", name := "interest", desc := "(II)J" } : Jvm.MethodName) prog_7_method_29_code (11 : Nat) (Option.some Jvm.ClassFile.FieldType.long)), (Jvm.Cond.constantLong "OwnerLedgerModel" (124 : Nat) (1200 : Int64)), (Jvm.Cond.methodLink "OwnerLedgerLaw" (172 : Nat) ({ cls := "OwnerLedgerModel", name := "hold", desc := "(IZ)I" } : Jvm.MethodName)), (Jvm.Cond.instanceMethod ({ cls := "OwnerLedgerModel", name := "hold", desc := "(IZ)I" } : Jvm.MethodName)), (Jvm.Cond.selects "OwnerLedgerModel" ({ cls := "OwnerLedgerModel", name := "hold", desc := "(IZ)I" } : Jvm.MethodName) ({ cls := "OwnerLedgerModel", name := "hold", desc := "(IZ)I" } : Jvm.MethodName)), (Jvm.Cond.code ({ cls := "OwnerLedgerModel", name := "hold", desc := "(IZ)I" } : Jvm.MethodName) prog_7_method_30_code (3 : Nat) (Option.some Jvm.ClassFile.FieldType.int)), (Jvm.Cond.methodLink "OwnerLedgerModel" (126 : Nat) ({ cls := "OwnerLedgerModel", name := "overdues", desc := "(I)I" } : Jvm.MethodName)), (Jvm.Cond.instanceMethod ({ cls := "OwnerLedgerModel", name := "overdues", desc := "(I)I" } : Jvm.MethodName)), (Jvm.Cond.code ({ cls := "OwnerLedgerModel", name := "overdues", desc := "(I)I" } : Jvm.MethodName) prog_7_method_7_code (4 : Nat) (Option.some Jvm.ClassFile.FieldType.int)), (Jvm.Cond.methodLink "OwnerLedgerLaw" (175 : Nat) ({ cls := "OwnerLedgerModel", name := "told", desc := "(II)I" } : Jvm.MethodName)), (Jvm.Cond.instanceMethod ({ cls := "OwnerLedgerModel", name := "told", desc := "(II)I" } : Jvm.MethodName)), (Jvm.Cond.selects "OwnerLedgerModel" ({ cls := "OwnerLedgerModel", name := "told", desc := "(II)I" } : Jvm.MethodName) ({ cls := "OwnerLedgerModel", name := "told", desc := "(II)I" } : Jvm.MethodName)), (Jvm.Cond.code ({ cls := "OwnerLedgerModel", name := "told", desc := "(II)I" } : Jvm.MethodName) prog_7_method_31_code (4 : Nat) (Option.some Jvm.ClassFile.FieldType.int)), (Jvm.Cond.constantLong "OwnerLedgerModel" (130 : Nat) (4 : Int64)), (Jvm.Cond.methodLink "OwnerLedgerLaw" (178 : Nat) ({ cls := "OwnerLedgerModel", name := "known", desc := "(II)J" } : Jvm.MethodName)), (Jvm.Cond.instanceMethod ({ cls := "OwnerLedgerModel", name := "known", desc := "(II)J" } : Jvm.MethodName)), (Jvm.Cond.selects "OwnerLedgerModel" ({ cls := "OwnerLedgerModel", name := "known", desc := "(II)J" } : Jvm.MethodName) ({ cls := "OwnerLedgerModel", name := "known", desc := "(II)J" } : Jvm.MethodName)), (Jvm.Cond.code ({ cls := "OwnerLedgerModel", name := "known", desc := "(II)J" } : Jvm.MethodName) prog_7_method_32_code (3 : Nat) (Option.some Jvm.ClassFile.FieldType.long))]
def gT13 : List Cond := [(Jvm.Cond.constantLong "OwnerLedgerModel" (132 : Nat) (5 : Int64)), (Jvm.Cond.methodLink "OwnerLedgerLaw" (181 : Nat) ({ cls := "OwnerLedgerModel", name := "credit", desc := "(I)J" } : Jvm.MethodName)), (Jvm.Cond.instanceMethod ({ cls := "OwnerLedgerModel", name := "credit", desc := "(I)J" } : Jvm.MethodName)), (Jvm.Cond.selects "OwnerLedgerModel" ({ cls := "OwnerLedgerModel", name := "credit", desc := "(I)J" } : Jvm.MethodName) ({ cls := "OwnerLedgerModel", name := "credit", desc := "(I)J" } : Jvm.MethodName)), (Jvm.Cond.code ({ cls := "OwnerLedgerModel", name := "credit", desc := "(I)J" } : Jvm.MethodName) prog_7_method_33_code (2 : Nat) (Option.some Jvm.ClassFile.FieldType.long)), (Jvm.Cond.methodLink "OwnerLedgerLaw" (185 : Nat) ({ cls := "OwnerLedgerModel", name := "count", desc := "(I)I" } : Jvm.MethodName)), (Jvm.Cond.instanceMethod ({ cls := "OwnerLedgerModel", name := "count", desc := "(I)I" } : Jvm.MethodName)), (Jvm.Cond.selects "OwnerLedgerModel" ({ cls := "OwnerLedgerModel", name := "count", desc := "(I)I" } : Jvm.MethodName) ({ cls := "OwnerLedgerModel", name := "count", desc := "(I)I" } : Jvm.MethodName)), (Jvm.Cond.code ({ cls := "OwnerLedgerModel", name := "count", desc := "(I)I" } : Jvm.MethodName) prog_7_method_34_code (6 : Nat) (Option.some Jvm.ClassFile.FieldType.int)), (Jvm.Cond.constantLong "OwnerLedgerLaw" (124 : Nat) (4294967295 : Int64)), (Jvm.Cond.selects "OwnerLedger" ({ cls := "OwnerLedger", name := "postedBatches", desc := "()I" } : Jvm.MethodName) ({ cls := "OwnerLedger", name := "postedBatches", desc := "()I" } : Jvm.MethodName)), (Jvm.Cond.selects "OwnerLedger" ({ cls := "OwnerLedger", name := "unpaidInvoices", desc := "()I" } : Jvm.MethodName) ({ cls := "OwnerLedger", name := "unpaidInvoices", desc := "()I" } : Jvm.MethodName)), (Jvm.Cond.selects "OwnerLedger" ({ cls := "OwnerLedger", name := "heldOwners", desc := "()I" } : Jvm.MethodName) ({ cls := "OwnerLedger", name := "heldOwners", desc := "()I" } : Jvm.MethodName)), (Jvm.Cond.selects "OwnerLedger" ({ cls := "OwnerLedger", name := "findOwner", desc := "(I)LOwnerLedger$Owner;" } : Jvm.MethodName) ({ cls := "OwnerLedger", name := "findOwner", desc := "(I)LOwnerLedger$Owner;" } : Jvm.MethodName)), (Jvm.Cond.selects "OwnerLedger" ({ cls := "OwnerLedger", name := "keepBatch", desc := "(LOwnerLedger$Batch;)I" } : Jvm.MethodName) ({ cls := "OwnerLedger", name := "keepBatch", desc := "(LOwnerLedger$Batch;)I" } : Jvm.MethodName)), (Jvm.Cond.selects "OwnerLedger" ({ cls := "OwnerLedger", name := "findBatch", desc := "(I)LOwnerLedger$Batch;" } : Jvm.MethodName) ({ cls := "OwnerLedger", name := "findBatch", desc := "(I)LOwnerLedger$Batch;" } : Jvm.MethodName)), (Jvm.Cond.selects "OwnerLedger" ({ cls := "OwnerLedger", name := "currencyOf", desc := "(I)I" } : Jvm.MethodName) ({ cls := "OwnerLedger", name := "currencyOf", desc := "(I)I" } : Jvm.MethodName)), (Jvm.Cond.selects "OwnerLedger" ({ cls := "OwnerLedger", name := "firstToPay", desc := "(I)LOwnerLedger$Invoice;" } : Jvm.MethodName) ({ cls := "OwnerLedger", name := "firstToPay", desc := "(I)LOwnerLedger$Invoice;" } : Jvm.MethodName)), (Jvm.Cond.selects "OwnerLedger" ({ cls := "OwnerLedger", name := "findInvoice", desc := "(I)LOwnerLedger$Invoice;" } : Jvm.MethodName) ({ cls := "OwnerLedger", name := "findInvoice", desc := "(I)LOwnerLedger$Invoice;" } : Jvm.MethodName)), (Jvm.Cond.selects "OwnerLedger" ({ cls := "OwnerLedger", name := "overdueInvoicesOf", desc := "(I)I" } : Jvm.MethodName) ({ cls := "OwnerLedger", name := "overdueInvoicesOf", desc := "(I)I" } : Jvm.MethodName)), (Jvm.Cond.selects "OwnerLedgerModel" ({ cls := "OwnerLedgerModel", name := "noOwner", desc := "(I)Z" } : Jvm.MethodName) ({ cls := "OwnerLedgerModel", name := "noOwner", desc := "(I)Z" } : Jvm.MethodName)), (Jvm.Cond.selects "OwnerLedgerModel" ({ cls := "OwnerLedgerModel", name := "newBatch", desc := "(I)V" } : Jvm.MethodName) ({ cls := "OwnerLedgerModel", name := "newBatch", desc := "(I)V" } : Jvm.MethodName)), (Jvm.Cond.selects "OwnerLedgerModel" ({ cls := "OwnerLedgerModel", name := "noBatch", desc := "(I)Z" } : Jvm.MethodName) ({ cls := "OwnerLedgerModel", name := "noBatch", desc := "(I)Z" } : Jvm.MethodName)), (Jvm.Cond.selects "OwnerLedgerModel" ({ cls := "OwnerLedgerModel", name := "sumOf", desc := "(II)J" } : Jvm.MethodName) ({ cls := "OwnerLedgerModel", name := "sumOf", desc := "(II)J" } : Jvm.MethodName)), (Jvm.Cond.selects "OwnerLedgerModel" ({ cls := "OwnerLedgerModel", name := "meet", desc := "(IJ)J" } : Jvm.MethodName) ({ cls := "OwnerLedgerModel", name := "meet", desc := "(IJ)J" } : Jvm.MethodName)), (Jvm.Cond.selects "OwnerLedgerModel" ({ cls := "OwnerLedgerModel", name := "noInvoice", desc := "(I)Z" } : Jvm.MethodName) ({ cls := "OwnerLedgerModel", name := "noInvoice", desc := "(I)Z" } : Jvm.MethodName)), (Jvm.Cond.selects "OwnerLedgerModel" ({ cls := "OwnerLedgerModel", name := "overdue", desc := "(I)Z" } : Jvm.MethodName) ({ cls := "OwnerLedgerModel", name := "overdue", desc := "(I)Z" } : Jvm.MethodName)), (Jvm.Cond.selects "OwnerLedgerModel" ({ cls := "OwnerLedgerModel", name := "overdues", desc := "(I)I" } : Jvm.MethodName) ({ cls := "OwnerLedgerModel", name := "overdues", desc := "(I)I" } : Jvm.MethodName))]
def gX0 : List Cond := (vx_atS "OwnerLedger" 250 "java/lang/UnsupportedOperationException" ["java/lang/RuntimeException", "java/lang/Exception"]).filter goodWord
def gX1 : List Cond := (vx_atS "OwnerLedger" 257 "java/util/NoSuchElementException" ["java/lang/RuntimeException", "java/lang/Exception"]).filter goodWord
def gX2 : List Cond := (vx_atS "OwnerLedger" 93 "java/lang/IllegalArgumentException" ["java/lang/RuntimeException", "java/lang/Exception"]).filter goodWord
def gX3 : List Cond := (vx_atS "OwnerLedger" 65 "java/lang/IllegalStateException" ["java/lang/RuntimeException", "java/lang/Exception"]).filter goodWord
def gT : List Cond := gT0 ++ (gT1 ++ (gT2 ++ (gT3 ++ (gT4 ++ (gT5 ++ (gT6 ++ (gT7 ++ (gT8 ++ (gT9 ++ (gT10 ++ (gT11 ++ (gT12 ++ (gT13 ++ (gX0 ++ (gX1 ++ (gX2 ++ (gX3 ++ (u_ws "OwnerLedger$Batch" TX0 6 ++ (u_ws "OwnerLedger$Invoice" TX1 5 ++ (u_ws "OwnerLedger$Owner" TX2 2 ++ (u_ws "OwnerLedger$Row" TX3 4 ++ (u_ws "OwnerLedger" TX4 11 ++ (u_ws "OwnerLedgerModel" TX5 24)))))))))))))))))))))))
theorem gTs_0 : ∀ w ∈ gT0, w ∈ gT := fun w h => List.mem_append_left _ (h)
theorem gTs_1 : ∀ w ∈ gT1, w ∈ gT := fun w h => List.mem_append_right _ (List.mem_append_left _ (h))
theorem gTs_2 : ∀ w ∈ gT2, w ∈ gT := fun w h => List.mem_append_right _ (List.mem_append_right _ (List.mem_append_left _ (h)))
theorem gTs_3 : ∀ w ∈ gT3, w ∈ gT := fun w h => List.mem_append_right _ (List.mem_append_right _ (List.mem_append_right _ (List.mem_append_left _ (h))))
theorem gTs_4 : ∀ w ∈ gT4, w ∈ gT := fun w h => List.mem_append_right _ (List.mem_append_right _ (List.mem_append_right _ (List.mem_append_right _ (List.mem_append_left _ (h)))))
theorem gTs_5 : ∀ w ∈ gT5, w ∈ gT := fun w h => List.mem_append_right _ (List.mem_append_right _ (List.mem_append_right _ (List.mem_append_right _ (List.mem_append_right _ (List.mem_append_left _ (h))))))
theorem gTs_6 : ∀ w ∈ gT6, w ∈ gT := fun w h => List.mem_append_right _ (List.mem_append_right _ (List.mem_append_right _ (List.mem_append_right _ (List.mem_append_right _ (List.mem_append_right _ (List.mem_append_left _ (h)))))))
theorem gTs_7 : ∀ w ∈ gT7, w ∈ gT := fun w h => List.mem_append_right _ (List.mem_append_right _ (List.mem_append_right _ (List.mem_append_right _ (List.mem_append_right _ (List.mem_append_right _ (List.mem_append_right _ (List.mem_append_left _ (h))))))))
theorem gTs_8 : ∀ w ∈ gT8, w ∈ gT := fun w h => List.mem_append_right _ (List.mem_append_right _ (List.mem_append_right _ (List.mem_append_right _ (List.mem_append_right _ (List.mem_append_right _ (List.mem_append_right _ (List.mem_append_right _ (List.mem_append_left _ (h)))))))))
theorem gTs_9 : ∀ w ∈ gT9, w ∈ gT := fun w h => List.mem_append_right _ (List.mem_append_right _ (List.mem_append_right _ (List.mem_append_right _ (List.mem_append_right _ (List.mem_append_right _ (List.mem_append_right _ (List.mem_append_right _ (List.mem_append_right _ (List.mem_append_left _ (h))))))))))
theorem gTs_10 : ∀ w ∈ gT10, w ∈ gT := fun w h => List.mem_append_right _ (List.mem_append_right _ (List.mem_append_right _ (List.mem_append_right _ (List.mem_append_right _ (List.mem_append_right _ (List.mem_append_right _ (List.mem_append_right _ (List.mem_append_right _ (List.mem_append_right _ (List.mem_append_left _ (h)))))))))))
theorem gTs_11 : ∀ w ∈ gT11, w ∈ gT := fun w h => List.mem_append_right _ (List.mem_append_right _ (List.mem_append_right _ (List.mem_append_right _ (List.mem_append_right _ (List.mem_append_right _ (List.mem_append_right _ (List.mem_append_right _ (List.mem_append_right _ (List.mem_append_right _ (List.mem_append_right _ (List.mem_append_left _ (h))))))))))))
theorem gTs_12 : ∀ w ∈ gT12, w ∈ gT := fun w h => List.mem_append_right _ (List.mem_append_right _ (List.mem_append_right _ (List.mem_append_right _ (List.mem_append_right _ (List.mem_append_right _ (List.mem_append_right _ (List.mem_append_right _ (List.mem_append_right _ (List.mem_append_right _ (List.mem_append_right _ (List.mem_append_right _ (List.mem_append_left _ (h)))))))))))))
theorem gTs_13 : ∀ w ∈ gT13, w ∈ gT := fun w h => List.mem_append_right _ (List.mem_append_right _ (List.mem_append_right _ (List.mem_append_right _ (List.mem_append_right _ (List.mem_append_right _ (List.mem_append_right _ (List.mem_append_right _ (List.mem_append_right _ (List.mem_append_right _ (List.mem_append_right _ (List.mem_append_right _ (List.mem_append_right _ (List.mem_append_left _ (h))))))))))))))
theorem gTs_14 : ∀ w ∈ gX0, w ∈ gT := fun w h => List.mem_append_right _ (List.mem_append_right _ (List.mem_append_right _ (List.mem_append_right _ (List.mem_append_right _ (List.mem_append_right _ (List.mem_append_right _ (List.mem_append_right _ (List.mem_append_right _ (List.mem_append_right _ (List.mem_append_right _ (List.mem_append_right _ (List.mem_append_right _ (List.mem_append_right _ (List.mem_append_left _ (h)))))))))))))))
theorem gTs_15 : ∀ w ∈ gX1, w ∈ gT := fun w h => List.mem_append_right _ (List.mem_append_right _ (List.mem_append_right _ (List.mem_append_right _ (List.mem_append_right _ (List.mem_append_right _ (List.mem_append_right _ (List.mem_append_right _ (List.mem_append_right _ (List.mem_append_right _ (List.mem_append_right _ (List.mem_append_right _ (List.mem_append_right _ (List.mem_append_right _ (List.mem_append_right _ (List.mem_append_left _ (h))))))))))))))))
theorem gTs_16 : ∀ w ∈ gX2, w ∈ gT := fun w h => List.mem_append_right _ (List.mem_append_right _ (List.mem_append_right _ (List.mem_append_right _ (List.mem_append_right _ (List.mem_append_right _ (List.mem_append_right _ (List.mem_append_right _ (List.mem_append_right _ (List.mem_append_right _ (List.mem_append_right _ (List.mem_append_right _ (List.mem_append_right _ (List.mem_append_right _ (List.mem_append_right _ (List.mem_append_right _ (List.mem_append_left _ (h)))))))))))))))))
theorem gTs_17 : ∀ w ∈ gX3, w ∈ gT := fun w h => List.mem_append_right _ (List.mem_append_right _ (List.mem_append_right _ (List.mem_append_right _ (List.mem_append_right _ (List.mem_append_right _ (List.mem_append_right _ (List.mem_append_right _ (List.mem_append_right _ (List.mem_append_right _ (List.mem_append_right _ (List.mem_append_right _ (List.mem_append_right _ (List.mem_append_right _ (List.mem_append_right _ (List.mem_append_right _ (List.mem_append_right _ (List.mem_append_left _ (h))))))))))))))))))
theorem gTs_18 : ∀ w ∈ u_ws "OwnerLedger$Batch" TX0 6, w ∈ gT := fun w h => List.mem_append_right _ (List.mem_append_right _ (List.mem_append_right _ (List.mem_append_right _ (List.mem_append_right _ (List.mem_append_right _ (List.mem_append_right _ (List.mem_append_right _ (List.mem_append_right _ (List.mem_append_right _ (List.mem_append_right _ (List.mem_append_right _ (List.mem_append_right _ (List.mem_append_right _ (List.mem_append_right _ (List.mem_append_right _ (List.mem_append_right _ (List.mem_append_right _ (List.mem_append_left _ (h)))))))))))))))))))
theorem gTs_19 : ∀ w ∈ u_ws "OwnerLedger$Invoice" TX1 5, w ∈ gT := fun w h => List.mem_append_right _ (List.mem_append_right _ (List.mem_append_right _ (List.mem_append_right _ (List.mem_append_right _ (List.mem_append_right _ (List.mem_append_right _ (List.mem_append_right _ (List.mem_append_right _ (List.mem_append_right _ (List.mem_append_right _ (List.mem_append_right _ (List.mem_append_right _ (List.mem_append_right _ (List.mem_append_right _ (List.mem_append_right _ (List.mem_append_right _ (List.mem_append_right _ (List.mem_append_right _ (List.mem_append_left _ (h))))))))))))))))))))
theorem gTs_20 : ∀ w ∈ u_ws "OwnerLedger$Owner" TX2 2, w ∈ gT := fun w h => List.mem_append_right _ (List.mem_append_right _ (List.mem_append_right _ (List.mem_append_right _ (List.mem_append_right _ (List.mem_append_right _ (List.mem_append_right _ (List.mem_append_right _ (List.mem_append_right _ (List.mem_append_right _ (List.mem_append_right _ (List.mem_append_right _ (List.mem_append_right _ (List.mem_append_right _ (List.mem_append_right _ (List.mem_append_right _ (List.mem_append_right _ (List.mem_append_right _ (List.mem_append_right _ (List.mem_append_right _ (List.mem_append_left _ (h)))))))))))))))))))))
theorem gTs_21 : ∀ w ∈ u_ws "OwnerLedger$Row" TX3 4, w ∈ gT := fun w h => List.mem_append_right _ (List.mem_append_right _ (List.mem_append_right _ (List.mem_append_right _ (List.mem_append_right _ (List.mem_append_right _ (List.mem_append_right _ (List.mem_append_right _ (List.mem_append_right _ (List.mem_append_right _ (List.mem_append_right _ (List.mem_append_right _ (List.mem_append_right _ (List.mem_append_right _ (List.mem_append_right _ (List.mem_append_right _ (List.mem_append_right _ (List.mem_append_right _ (List.mem_append_right _ (List.mem_append_right _ (List.mem_append_right _ (List.mem_append_left _ (h))))))))))))))))))))))
theorem gTs_22 : ∀ w ∈ u_ws "OwnerLedger" TX4 11, w ∈ gT := fun w h => List.mem_append_right _ (List.mem_append_right _ (List.mem_append_right _ (List.mem_append_right _ (List.mem_append_right _ (List.mem_append_right _ (List.mem_append_right _ (List.mem_append_right _ (List.mem_append_right _ (List.mem_append_right _ (List.mem_append_right _ (List.mem_append_right _ (List.mem_append_right _ (List.mem_append_right _ (List.mem_append_right _ (List.mem_append_right _ (List.mem_append_right _ (List.mem_append_right _ (List.mem_append_right _ (List.mem_append_right _ (List.mem_append_right _ (List.mem_append_right _ (List.mem_append_left _ (h)))))))))))))))))))))))
theorem gTs_23 : ∀ w ∈ u_ws "OwnerLedgerModel" TX5 24, w ∈ gT := fun w h => List.mem_append_right _ (List.mem_append_right _ (List.mem_append_right _ (List.mem_append_right _ (List.mem_append_right _ (List.mem_append_right _ (List.mem_append_right _ (List.mem_append_right _ (List.mem_append_right _ (List.mem_append_right _ (List.mem_append_right _ (List.mem_append_right _ (List.mem_append_right _ (List.mem_append_right _ (List.mem_append_right _ (List.mem_append_right _ (List.mem_append_right _ (List.mem_append_right _ (List.mem_append_right _ (List.mem_append_right _ (List.mem_append_right _ (List.mem_append_right _ (List.mem_append_right _ (h)))))))))))))))))))))))
theorem inX0 : ∀ w ∈ u_ws "OwnerLedger$Batch" TX0 6, w ∈ gT := gTs_18
theorem inX1 : ∀ w ∈ u_ws "OwnerLedger$Invoice" TX1 5, w ∈ gT := gTs_19
theorem inX2 : ∀ w ∈ u_ws "OwnerLedger$Owner" TX2 2, w ∈ gT := gTs_20
theorem inX3 : ∀ w ∈ u_ws "OwnerLedger$Row" TX3 4, w ∈ gT := gTs_21
theorem inX4 : ∀ w ∈ u_ws "OwnerLedger" TX4 11, w ∈ gT := gTs_22
theorem inX5 : ∀ w ∈ u_ws "OwnerLedgerModel" TX5 24, w ∈ gT := gTs_23
set_option maxRecDepth 20000 in
theorem gTg_0 : (gT0).all goodWord = true := by decide +kernel
set_option maxRecDepth 20000 in
theorem gTg_1 : (gT1).all goodWord = true := by decide +kernel
set_option maxRecDepth 20000 in
theorem gTg_2 : (gT2).all goodWord = true := by decide +kernel
set_option maxRecDepth 20000 in
theorem gTg_3 : (gT3).all goodWord = true := by decide +kernel
set_option maxRecDepth 20000 in
theorem gTg_4 : (gT4).all goodWord = true := by decide +kernel
set_option maxRecDepth 20000 in
theorem gTg_5 : (gT5).all goodWord = true := by decide +kernel
set_option maxRecDepth 20000 in
theorem gTg_6 : (gT6).all goodWord = true := by decide +kernel
set_option maxRecDepth 20000 in
theorem gTg_7 : (gT7).all goodWord = true := by decide +kernel
set_option maxRecDepth 20000 in
theorem gTg_8 : (gT8).all goodWord = true := by decide +kernel
set_option maxRecDepth 20000 in
theorem gTg_9 : (gT9).all goodWord = true := by decide +kernel
set_option maxRecDepth 20000 in
theorem gTg_10 : (gT10).all goodWord = true := by decide +kernel
set_option maxRecDepth 20000 in
theorem gTg_11 : (gT11).all goodWord = true := by decide +kernel
set_option maxRecDepth 20000 in
theorem gTg_12 : (gT12).all goodWord = true := by decide +kernel
set_option maxRecDepth 20000 in
theorem gTg_13 : (gT13).all goodWord = true := by decide +kernel
set_option maxRecDepth 20000 in
theorem gTg_14 : (gX0).all goodWord = true := by decide +kernel
set_option maxRecDepth 20000 in
theorem gTg_15 : (gX1).all goodWord = true := by decide +kernel
set_option maxRecDepth 20000 in
theorem gTg_16 : (gX2).all goodWord = true := by decide +kernel
set_option maxRecDepth 20000 in
theorem gTg_17 : (gX3).all goodWord = true := by decide +kernel
set_option maxRecDepth 20000 in
theorem gTg_18 : (u_ws "OwnerLedger$Batch" TX0 6).all goodWord = true := by decide +kernel
set_option maxRecDepth 20000 in
theorem gTg_19 : (u_ws "OwnerLedger$Invoice" TX1 5).all goodWord = true := by decide +kernel
set_option maxRecDepth 20000 in
theorem gTg_20 : (u_ws "OwnerLedger$Owner" TX2 2).all goodWord = true := by decide +kernel
set_option maxRecDepth 20000 in
theorem gTg_21 : (u_ws "OwnerLedger$Row" TX3 4).all goodWord = true := by decide +kernel
set_option maxRecDepth 20000 in
theorem gTg_22 : (u_ws "OwnerLedger" TX4 11).all goodWord = true := by decide +kernel
set_option maxRecDepth 20000 in
theorem gTg_23 : (u_ws "OwnerLedgerModel" TX5 24).all goodWord = true := by decide +kernel
theorem gT_good : ∀ w ∈ gT, goodWord w = true := fun w h => (List.mem_append.mp h).elim (fun h => List.all_eq_true.mp gTg_0 w h) (fun h => (List.mem_append.mp h).elim (fun h => List.all_eq_true.mp gTg_1 w h) (fun h => (List.mem_append.mp h).elim (fun h => List.all_eq_true.mp gTg_2 w h) (fun h => (List.mem_append.mp h).elim (fun h => List.all_eq_true.mp gTg_3 w h) (fun h => (List.mem_append.mp h).elim (fun h => List.all_eq_true.mp gTg_4 w h) (fun h => (List.mem_append.mp h).elim (fun h => List.all_eq_true.mp gTg_5 w h) (fun h => (List.mem_append.mp h).elim (fun h => List.all_eq_true.mp gTg_6 w h) (fun h => (List.mem_append.mp h).elim (fun h => List.all_eq_true.mp gTg_7 w h) (fun h => (List.mem_append.mp h).elim (fun h => List.all_eq_true.mp gTg_8 w h) (fun h => (List.mem_append.mp h).elim (fun h => List.all_eq_true.mp gTg_9 w h) (fun h => (List.mem_append.mp h).elim (fun h => List.all_eq_true.mp gTg_10 w h) (fun h => (List.mem_append.mp h).elim (fun h => List.all_eq_true.mp gTg_11 w h) (fun h => (List.mem_append.mp h).elim (fun h => List.all_eq_true.mp gTg_12 w h) (fun h => (List.mem_append.mp h).elim (fun h => List.all_eq_true.mp gTg_13 w h) (fun h => (List.mem_append.mp h).elim (fun h => List.all_eq_true.mp gTg_14 w h) (fun h => (List.mem_append.mp h).elim (fun h => List.all_eq_true.mp gTg_15 w h) (fun h => (List.mem_append.mp h).elim (fun h => List.all_eq_true.mp gTg_16 w h) (fun h => (List.mem_append.mp h).elim (fun h => List.all_eq_true.mp gTg_17 w h) (fun h => (List.mem_append.mp h).elim (fun h => List.all_eq_true.mp gTg_18 w h) (fun h => (List.mem_append.mp h).elim (fun h => List.all_eq_true.mp gTg_19 w h) (fun h => (List.mem_append.mp h).elim (fun h => List.all_eq_true.mp gTg_20 w h) (fun h => (List.mem_append.mp h).elim (fun h => List.all_eq_true.mp gTg_21 w h) (fun h => (List.mem_append.mp h).elim (fun h => List.all_eq_true.mp gTg_22 w h) (fun h => List.all_eq_true.mp gTg_23 w h)))))))))))))))))))))))
theorem gT_up {c0 w : Cond} (h : w ∈ gT) : w ∈ c0 :: gT := List.mem_cons_of_mem _ h
theorem gT_in {c0 w : Cond} (h : w ∈ gT) : w ∈ c0 :: gT ∧ ((w.onTables && w.keeps) = true ∨ ∃ ty, w = .arrayClass ty) := ⟨gT_up h, good_of_word (gT_good w h)⟩
theorem gG {c0 c1 : Cond} (h : c1 ∈ gT) : GoodIn (c0 :: gT) (c1 :: gT) := fun w hw => (List.mem_cons.mp hw).elim (fun e => by rw [e]; exact gT_in h) (fun z => gT_in z)
theorem gV {c0 c1 : Cond} {own C : String} {idx : Nat} {y : MethodName} (h1 : Cond.methodLink own idx y ∈ gT) (h2 : Cond.instanceMethod y ∈ gT) (h3 : Cond.selects C y y ∈ gT) (h4 : Cond.initialized C ∈ gT) (h5 : c1 ∈ gT) : GoodIn (c0 :: gT) (wsV own idx C y (c1 :: gT)) := by
  intro w hw
  unfold wsV at hw
  rcases List.mem_append.mp hw with h | h
  · simp only [List.mem_cons, List.not_mem_nil, or_false] at h
    rcases h with h | h | h | h <;> rw [h]
    · exact gT_in h1
    · exact gT_in h2
    · exact gT_in h3
    · exact gT_in h4
  · exact gG h5 w h
theorem gS {c0 c1 : Cond} {own : String} {idx : Nat} {y : MethodName} (h1 : Cond.methodLink own idx y ∈ gT) (h2 : Cond.static y ∈ gT) (h4 : Cond.initialized y.cls ∈ gT) (h5 : c1 ∈ gT) : GoodIn (c0 :: gT) (va_wsS own idx y (c1 :: gT)) := by
  intro w hw
  unfold va_wsS at hw
  rcases List.mem_append.mp hw with h | h
  · simp only [List.mem_cons, List.not_mem_nil, or_false] at h
    rcases h with h | h | h <;> rw [h]
    · exact gT_in h1
    · exact gT_in h2
    · exact gT_in h4
  · exact gG h5 w h
theorem kw_0 : (Jvm.Cond.initialized "OwnerLedgerLaw") ∈ gT := gTs_0 _ (List.mem_of_getElem? (i := 0) rfl)
theorem kw_1 : (Jvm.Cond.initialized "OwnerLedger") ∈ gT := gTs_0 _ (List.mem_of_getElem? (i := 1) rfl)
theorem kw_2 : (Jvm.Cond.initialized "OwnerLedgerModel") ∈ gT := gTs_0 _ (List.mem_of_getElem? (i := 2) rfl)
theorem kw_3 : (Jvm.Cond.initialized "java/lang/UnsupportedOperationException") ∈ gT := gTs_0 _ (List.mem_of_getElem? (i := 3) rfl)
theorem kw_4 : (Jvm.Cond.initialized "OwnerLedger$Owner") ∈ gT := gTs_0 _ (List.mem_of_getElem? (i := 4) rfl)
theorem kw_5 : (Jvm.Cond.initialized "java/util/NoSuchElementException") ∈ gT := gTs_0 _ (List.mem_of_getElem? (i := 5) rfl)
theorem kw_6 : (Jvm.Cond.initialized "java/lang/IllegalArgumentException") ∈ gT := gTs_0 _ (List.mem_of_getElem? (i := 6) rfl)
theorem kw_7 : (Jvm.Cond.initialized "java/lang/IllegalStateException") ∈ gT := gTs_0 _ (List.mem_of_getElem? (i := 7) rfl)
theorem kw_8 : (Jvm.Cond.initialized "OwnerLedger$Batch") ∈ gT := gTs_0 _ (List.mem_of_getElem? (i := 8) rfl)
theorem kw_9 : (Jvm.Cond.initialized "OwnerLedger$Row") ∈ gT := gTs_0 _ (List.mem_of_getElem? (i := 9) rfl)
theorem kw_10 : (Jvm.Cond.initialized "OwnerLedger$Invoice") ∈ gT := gTs_0 _ (List.mem_of_getElem? (i := 10) rfl)
theorem kw_11 : (Jvm.Cond.initialized "java/lang/Math") ∈ gT := gTs_0 _ (List.mem_of_getElem? (i := 11) rfl)
theorem kw_12 : (Jvm.Cond.classLink "OwnerLedgerLaw" (8 : Nat) "OwnerLedger") ∈ gT := gTs_0 _ (List.mem_of_getElem? (i := 12) rfl)
theorem kw_13 : (Jvm.Cond.instantiable "OwnerLedger" (11 : Nat)) ∈ gT := gTs_0 _ (List.mem_of_getElem? (i := 13) rfl)
theorem kw_14 : (Jvm.Cond.methodLink "OwnerLedgerLaw" (96 : Nat) ({ cls := "OwnerLedger", name := "<init>", desc := "()V" } : Jvm.MethodName)) ∈ gT := gTs_0 _ (List.mem_of_getElem? (i := 14) rfl)
theorem kw_15 : (Jvm.Cond.instanceMethod ({ cls := "OwnerLedger", name := "<init>", desc := "()V" } : Jvm.MethodName)) ∈ gT := gTs_0 _ (List.mem_of_getElem? (i := 15) rfl)
theorem kw_16 : (Jvm.Cond.code ({ cls := "OwnerLedger", name := "<init>", desc := "()V" } : Jvm.MethodName) prog_1_method_1_code (1 : Nat) (Option.none : Option Jvm.ClassFile.FieldType)) ∈ gT := gTs_0 _ (List.mem_of_getElem? (i := 16) rfl)
theorem kw_17 : (Jvm.Cond.methodLink "OwnerLedger" (1 : Nat) ({ cls := "java/lang/Object", name := "<init>", desc := "()V" } : Jvm.MethodName)) ∈ gT := gTs_0 _ (List.mem_of_getElem? (i := 17) rfl)
theorem kw_18 : (Jvm.Cond.instanceMethod ({ cls := "java/lang/Object", name := "<init>", desc := "()V" } : Jvm.MethodName)) ∈ gT := gTs_0 _ (List.mem_of_getElem? (i := 18) rfl)
theorem kw_19 : (Jvm.Cond.code ({ cls := "java/lang/Object", name := "<init>", desc := "()V" } : Jvm.MethodName) object_method_1_code (1 : Nat) (Option.none : Option Jvm.ClassFile.FieldType)) ∈ gT := gTs_0 _ (List.mem_of_getElem? (i := 19) rfl)
theorem kw_20 : (Jvm.Cond.classLink "OwnerLedger" (9 : Nat) "OwnerLedger$Owner") ∈ gT := gTs_0 _ (List.mem_of_getElem? (i := 20) rfl)
theorem kw_21 : (Jvm.Cond.classLink "OwnerLedger" (19 : Nat) "OwnerLedger$Batch") ∈ gT := gTs_0 _ (List.mem_of_getElem? (i := 21) rfl)
theorem kw_22 : (Jvm.Cond.classLink "OwnerLedger" (25 : Nat) "OwnerLedger$Invoice") ∈ gT := gTs_0 _ (List.mem_of_getElem? (i := 22) rfl)
theorem kw_23 : (Jvm.Cond.fieldLink "OwnerLedger" (11 : Nat) "OwnerLedger" "owners" "[LOwnerLedger$Owner;") ∈ gT := gTs_0 _ (List.mem_of_getElem? (i := 23) rfl)
theorem kw_24 : (Jvm.Cond.fieldLink "OwnerLedger" (15 : Nat) "OwnerLedger" "currencies" "[I") ∈ gT := gTs_0 _ (List.mem_of_getElem? (i := 24) rfl)
theorem kw_25 : (Jvm.Cond.fieldLink "OwnerLedger" (21 : Nat) "OwnerLedger" "batches" "[LOwnerLedger$Batch;") ∈ gT := gTs_0 _ (List.mem_of_getElem? (i := 25) rfl)
theorem kw_26 : (Jvm.Cond.fieldLink "OwnerLedger" (27 : Nat) "OwnerLedger" "invoices" "[LOwnerLedger$Invoice;") ∈ gT := gTs_0 _ (List.mem_of_getElem? (i := 26) rfl)
theorem kw_27 : (Jvm.Cond.fieldLink "OwnerLedger" (31 : Nat) "OwnerLedger" "ownerCount" "I") ∈ gT := gTs_0 _ (List.mem_of_getElem? (i := 27) rfl)
theorem kw_28 : (Jvm.Cond.fieldLink "OwnerLedger" (50 : Nat) "OwnerLedger" "accountCount" "I") ∈ gT := gTs_0 _ (List.mem_of_getElem? (i := 28) rfl)
theorem kw_29 : (Jvm.Cond.fieldLink "OwnerLedger" (232 : Nat) "OwnerLedger" "batchCount" "I") ∈ gT := gTs_0 _ (List.mem_of_getElem? (i := 29) rfl)
theorem kw_30 : (Jvm.Cond.fieldLink "OwnerLedger" (163 : Nat) "OwnerLedger" "invoiceCount" "I") ∈ gT := gTs_0 _ (List.mem_of_getElem? (i := 30) rfl)
theorem kw_31 : (Jvm.Cond.fieldLink "OwnerLedger" (53 : Nat) "OwnerLedger" "currentMonth" "I") ∈ gT := gTs_0 _ (List.mem_of_getElem? (i := 31) rfl)
theorem kw_32 : (Jvm.Cond.fieldLink "OwnerLedger" (58 : Nat) "OwnerLedger" "closedMonths" "I") ∈ gT := gTs_0 _ (List.mem_of_getElem? (i := 32) rfl)
theorem kw_33 : (Jvm.Cond.fieldLink "OwnerLedger" (208 : Nat) "OwnerLedger" "yearlyPercents" "I") ∈ gT := gTs_0 _ (List.mem_of_getElem? (i := 33) rfl)
theorem kw_34 : (Jvm.Cond.arrayClass Jvm.ClassFile.FieldType.int) ∈ gT := gTs_0 _ (List.mem_of_getElem? (i := 34) rfl)
theorem kw_35 : (Jvm.Cond.methodLink "OwnerLedgerLaw" (182 : Nat) ({ cls := "OwnerLedger", name := "count", desc := "(I)I" } : Jvm.MethodName)) ∈ gT := gTs_0 _ (List.mem_of_getElem? (i := 35) rfl)
theorem kw_36 : (Jvm.Cond.instanceMethod ({ cls := "OwnerLedger", name := "count", desc := "(I)I" } : Jvm.MethodName)) ∈ gT := gTs_0 _ (List.mem_of_getElem? (i := 36) rfl)
theorem kw_37 : (Jvm.Cond.selects "OwnerLedger" ({ cls := "OwnerLedger", name := "count", desc := "(I)I" } : Jvm.MethodName) ({ cls := "OwnerLedger", name := "count", desc := "(I)I" } : Jvm.MethodName)) ∈ gT := gTs_0 _ (List.mem_of_getElem? (i := 37) rfl)
theorem kw_38 : (Jvm.Cond.code ({ cls := "OwnerLedger", name := "count", desc := "(I)I" } : Jvm.MethodName) prog_1_method_24_code (2 : Nat) (Option.some Jvm.ClassFile.FieldType.int)) ∈ gT := gTs_0 _ (List.mem_of_getElem? (i := 38) rfl)
theorem kw_39 : (Jvm.Cond.methodLink "OwnerLedger" (235 : Nat) ({ cls := "OwnerLedger", name := "postedBatches", desc := "()I" } : Jvm.MethodName)) ∈ gT := gTs_0 _ (List.mem_of_getElem? (i := 39) rfl)
theorem kw_40 : (Jvm.Cond.instanceMethod ({ cls := "OwnerLedger", name := "postedBatches", desc := "()I" } : Jvm.MethodName)) ∈ gT := gTs_1 _ (List.mem_of_getElem? (i := 0) rfl)
theorem kw_41 : (Jvm.Cond.code ({ cls := "OwnerLedger", name := "postedBatches", desc := "()I" } : Jvm.MethodName) prog_1_method_36_code (6 : Nat) (Option.some Jvm.ClassFile.FieldType.int)) ∈ gT := gTs_1 _ (List.mem_of_getElem? (i := 1) rfl)
theorem kw_42 : (Jvm.Cond.methodLink "OwnerLedger" (238 : Nat) ({ cls := "OwnerLedger", name := "unpaidInvoices", desc := "()I" } : Jvm.MethodName)) ∈ gT := gTs_1 _ (List.mem_of_getElem? (i := 2) rfl)
theorem kw_43 : (Jvm.Cond.instanceMethod ({ cls := "OwnerLedger", name := "unpaidInvoices", desc := "()I" } : Jvm.MethodName)) ∈ gT := gTs_1 _ (List.mem_of_getElem? (i := 3) rfl)
theorem kw_44 : (Jvm.Cond.code ({ cls := "OwnerLedger", name := "unpaidInvoices", desc := "()I" } : Jvm.MethodName) prog_1_method_37_code (6 : Nat) (Option.some Jvm.ClassFile.FieldType.int)) ∈ gT := gTs_1 _ (List.mem_of_getElem? (i := 4) rfl)
theorem kw_45 : (Jvm.Cond.methodLink "OwnerLedger" (241 : Nat) ({ cls := "OwnerLedger", name := "heldOwners", desc := "()I" } : Jvm.MethodName)) ∈ gT := gTs_1 _ (List.mem_of_getElem? (i := 5) rfl)
theorem kw_46 : (Jvm.Cond.instanceMethod ({ cls := "OwnerLedger", name := "heldOwners", desc := "()I" } : Jvm.MethodName)) ∈ gT := gTs_1 _ (List.mem_of_getElem? (i := 6) rfl)
theorem kw_47 : (Jvm.Cond.code ({ cls := "OwnerLedger", name := "heldOwners", desc := "()I" } : Jvm.MethodName) prog_1_method_38_code (6 : Nat) (Option.some Jvm.ClassFile.FieldType.int)) ∈ gT := gTs_1 _ (List.mem_of_getElem? (i := 7) rfl)
theorem kw_48 : (Jvm.Cond.methodLink "OwnerLedgerLaw" (100 : Nat) ({ cls := "OwnerLedgerLaw", name := "owner", desc := "(LOwnerLedger;[J)I" } : Jvm.MethodName)) ∈ gT := gTs_1 _ (List.mem_of_getElem? (i := 8) rfl)
theorem kw_49 : (Jvm.Cond.static ({ cls := "OwnerLedgerLaw", name := "owner", desc := "(LOwnerLedger;[J)I" } : Jvm.MethodName)) ∈ gT := gTs_1 _ (List.mem_of_getElem? (i := 9) rfl)
theorem kw_50 : (Jvm.Cond.codeWith ({ cls := "OwnerLedgerLaw", name := "owner", desc := "(LOwnerLedger;[J)I" } : Jvm.MethodName) method_3_code (3 : Nat) (Option.some Jvm.ClassFile.FieldType.int) [((0 : Nat), (8 : Nat), (11 : Nat), (13 : Nat))]) ∈ gT := gTs_1 _ (List.mem_of_getElem? (i := 10) rfl)
theorem kw_51 : (Jvm.Cond.classLink "OwnerLedgerLaw" (13 : Nat) "java/lang/UnsupportedOperationException") ∈ gT := gTs_1 _ (List.mem_of_getElem? (i := 11) rfl)
theorem kw_52 : (Jvm.Cond.methodLink "OwnerLedgerLaw" (7 : Nat) ({ cls := "OwnerLedger", name := "owner", desc := "()I" } : Jvm.MethodName)) ∈ gT := gTs_1 _ (List.mem_of_getElem? (i := 12) rfl)
theorem kw_53 : (Jvm.Cond.instanceMethod ({ cls := "OwnerLedger", name := "owner", desc := "()I" } : Jvm.MethodName)) ∈ gT := gTs_1 _ (List.mem_of_getElem? (i := 13) rfl)
theorem kw_54 : (Jvm.Cond.selects "OwnerLedger" ({ cls := "OwnerLedger", name := "owner", desc := "()I" } : Jvm.MethodName) ({ cls := "OwnerLedger", name := "owner", desc := "()I" } : Jvm.MethodName)) ∈ gT := gTs_1 _ (List.mem_of_getElem? (i := 14) rfl)
theorem kw_55 : (Jvm.Cond.code ({ cls := "OwnerLedger", name := "owner", desc := "()I" } : Jvm.MethodName) prog_1_method_2_code (2 : Nat) (Option.some Jvm.ClassFile.FieldType.int)) ∈ gT := gTs_1 _ (List.mem_of_getElem? (i := 15) rfl)
theorem kw_56 : (Jvm.Cond.methodLink "OwnerLedger" (35 : Nat) ({ cls := "OwnerLedger", name := "requireRoom", desc := "(II)V" } : Jvm.MethodName)) ∈ gT := gTs_1 _ (List.mem_of_getElem? (i := 16) rfl)
theorem kw_57 : (Jvm.Cond.static ({ cls := "OwnerLedger", name := "requireRoom", desc := "(II)V" } : Jvm.MethodName)) ∈ gT := gTs_1 _ (List.mem_of_getElem? (i := 17) rfl)
theorem kw_58 : (Jvm.Cond.code ({ cls := "OwnerLedger", name := "requireRoom", desc := "(II)V" } : Jvm.MethodName) prog_1_method_26_code (2 : Nat) (Option.none : Option Jvm.ClassFile.FieldType)) ∈ gT := gTs_1 _ (List.mem_of_getElem? (i := 18) rfl)
theorem kw_59 : (Jvm.Cond.classLink "OwnerLedger" (246 : Nat) "java/lang/UnsupportedOperationException") ∈ gT := gTs_1 _ (List.mem_of_getElem? (i := 19) rfl)
theorem kw_60 : (Jvm.Cond.instantiable "java/lang/UnsupportedOperationException" (6 : Nat)) ∈ gT := gTs_1 _ (List.mem_of_getElem? (i := 20) rfl)
theorem kw_61 : (Jvm.Cond.methodLink "OwnerLedger" (250 : Nat) ({ cls := "java/lang/UnsupportedOperationException", name := "<init>", desc := "(Ljava/lang/String;)V" } : Jvm.MethodName)) ∈ gT := gTs_1 _ (List.mem_of_getElem? (i := 21) rfl)
theorem kw_62 : (Jvm.Cond.instanceMethod ({ cls := "java/lang/UnsupportedOperationException", name := "<init>", desc := "(Ljava/lang/String;)V" } : Jvm.MethodName)) ∈ gT := gTs_1 _ (List.mem_of_getElem? (i := 22) rfl)
theorem kw_63 : (Jvm.Cond.code ({ cls := "java/lang/UnsupportedOperationException", name := "<init>", desc := "(Ljava/lang/String;)V" } : Jvm.MethodName) prog_15_method_2_code (2 : Nat) (Option.none : Option Jvm.ClassFile.FieldType)) ∈ gT := gTs_1 _ (List.mem_of_getElem? (i := 23) rfl)
theorem kw_64 : (Jvm.Cond.arrayClass Jvm.ClassFile.FieldType.byte) ∈ gT := gTs_1 _ (List.mem_of_getElem? (i := 24) rfl)
theorem kw_65 : (Jvm.Cond.instantiable "OwnerLedger$Owner" (2 : Nat)) ∈ gT := gTs_1 _ (List.mem_of_getElem? (i := 25) rfl)
theorem kw_66 : (Jvm.Cond.instanceMethod ({ cls := "OwnerLedger$Owner", name := "<init>", desc := "()V" } : Jvm.MethodName)) ∈ gT := gTs_1 _ (List.mem_of_getElem? (i := 26) rfl)
theorem kw_67 : (Jvm.Cond.code ({ cls := "OwnerLedger$Owner", name := "<init>", desc := "()V" } : Jvm.MethodName) prog_4_method_1_code (1 : Nat) (Option.none : Option Jvm.ClassFile.FieldType)) ∈ gT := gTs_1 _ (List.mem_of_getElem? (i := 27) rfl)
theorem kw_68 : (Jvm.Cond.methodLink "OwnerLedger$Owner" (1 : Nat) ({ cls := "java/lang/Object", name := "<init>", desc := "()V" } : Jvm.MethodName)) ∈ gT := gTs_1 _ (List.mem_of_getElem? (i := 28) rfl)
theorem kw_69 : (Jvm.Cond.fieldLink "OwnerLedger" (169 : Nat) "OwnerLedger$Owner" "credit" "J") ∈ gT := gTs_1 _ (List.mem_of_getElem? (i := 29) rfl)
theorem kw_70 : (Jvm.Cond.fieldLink "OwnerLedger" (158 : Nat) "OwnerLedger$Owner" "held" "Z") ∈ gT := gTs_1 _ (List.mem_of_getElem? (i := 30) rfl)
theorem kw_71 : (Jvm.Cond.methodLink "OwnerLedgerLaw" (109 : Nat) ({ cls := "OwnerLedgerLaw", name := "account", desc := "(LOwnerLedger;II[J)I" } : Jvm.MethodName)) ∈ gT := gTs_1 _ (List.mem_of_getElem? (i := 31) rfl)
theorem kw_72 : (Jvm.Cond.static ({ cls := "OwnerLedgerLaw", name := "account", desc := "(LOwnerLedger;II[J)I" } : Jvm.MethodName)) ∈ gT := gTs_1 _ (List.mem_of_getElem? (i := 32) rfl)
theorem kw_73 : (Jvm.Cond.codeWith ({ cls := "OwnerLedgerLaw", name := "account", desc := "(LOwnerLedger;II[J)I" } : Jvm.MethodName) method_4_code (5 : Nat) (Option.some Jvm.ClassFile.FieldType.int) [((0 : Nat), (10 : Nat), (13 : Nat), (19 : Nat)), ((0 : Nat), (10 : Nat), (17 : Nat), (21 : Nat)), ((0 : Nat), (10 : Nat), (21 : Nat), (13 : Nat))]) ∈ gT := gTs_1 _ (List.mem_of_getElem? (i := 33) rfl)
theorem kw_74 : (Jvm.Cond.classLink "OwnerLedgerLaw" (19 : Nat) "java/util/NoSuchElementException") ∈ gT := gTs_1 _ (List.mem_of_getElem? (i := 34) rfl)
theorem kw_75 : (Jvm.Cond.classLink "OwnerLedgerLaw" (21 : Nat) "java/lang/IllegalArgumentException") ∈ gT := gTs_1 _ (List.mem_of_getElem? (i := 35) rfl)
theorem kw_76 : (Jvm.Cond.methodLink "OwnerLedgerLaw" (15 : Nat) ({ cls := "OwnerLedger", name := "account", desc := "(II)I" } : Jvm.MethodName)) ∈ gT := gTs_1 _ (List.mem_of_getElem? (i := 36) rfl)
theorem kw_77 : (Jvm.Cond.instanceMethod ({ cls := "OwnerLedger", name := "account", desc := "(II)I" } : Jvm.MethodName)) ∈ gT := gTs_1 _ (List.mem_of_getElem? (i := 37) rfl)
theorem kw_78 : (Jvm.Cond.selects "OwnerLedger" ({ cls := "OwnerLedger", name := "account", desc := "(II)I" } : Jvm.MethodName) ({ cls := "OwnerLedger", name := "account", desc := "(II)I" } : Jvm.MethodName)) ∈ gT := gTs_1 _ (List.mem_of_getElem? (i := 38) rfl)
theorem kw_79 : (Jvm.Cond.code ({ cls := "OwnerLedger", name := "account", desc := "(II)I" } : Jvm.MethodName) prog_1_method_3_code (4 : Nat) (Option.some Jvm.ClassFile.FieldType.int)) ∈ gT := gTs_1 _ (List.mem_of_getElem? (i := 39) rfl)
theorem kw_80 : (Jvm.Cond.methodLink "OwnerLedger" (40 : Nat) ({ cls := "OwnerLedger", name := "findOwner", desc := "(I)LOwnerLedger$Owner;" } : Jvm.MethodName)) ∈ gT := gTs_2 _ (List.mem_of_getElem? (i := 0) rfl)
theorem kw_81 : (Jvm.Cond.instanceMethod ({ cls := "OwnerLedger", name := "findOwner", desc := "(I)LOwnerLedger$Owner;" } : Jvm.MethodName)) ∈ gT := gTs_2 _ (List.mem_of_getElem? (i := 1) rfl)
theorem kw_82 : (Jvm.Cond.code ({ cls := "OwnerLedger", name := "findOwner", desc := "(I)LOwnerLedger$Owner;" } : Jvm.MethodName) prog_1_method_28_code (3 : Nat) (Option.some (Jvm.ClassFile.FieldType.object "OwnerLedger$Owner"))) ∈ gT := gTs_2 _ (List.mem_of_getElem? (i := 2) rfl)
theorem kw_83 : (Jvm.Cond.classLink "OwnerLedger" (253 : Nat) "java/util/NoSuchElementException") ∈ gT := gTs_2 _ (List.mem_of_getElem? (i := 3) rfl)
theorem kw_84 : (Jvm.Cond.instantiable "java/util/NoSuchElementException" (6 : Nat)) ∈ gT := gTs_2 _ (List.mem_of_getElem? (i := 4) rfl)
theorem kw_85 : (Jvm.Cond.methodLink "OwnerLedger" (257 : Nat) ({ cls := "java/util/NoSuchElementException", name := "<init>", desc := "(Ljava/lang/String;)V" } : Jvm.MethodName)) ∈ gT := gTs_2 _ (List.mem_of_getElem? (i := 5) rfl)
theorem kw_86 : (Jvm.Cond.instanceMethod ({ cls := "java/util/NoSuchElementException", name := "<init>", desc := "(Ljava/lang/String;)V" } : Jvm.MethodName)) ∈ gT := gTs_2 _ (List.mem_of_getElem? (i := 6) rfl)
theorem kw_87 : (Jvm.Cond.code ({ cls := "java/util/NoSuchElementException", name := "<init>", desc := "(Ljava/lang/String;)V" } : Jvm.MethodName) prog_16_method_4_code (2 : Nat) (Option.none : Option Jvm.ClassFile.FieldType)) ∈ gT := gTs_2 _ (List.mem_of_getElem? (i := 7) rfl)
theorem kw_88 : (Jvm.Cond.constantLong "OwnerLedger" (44 : Nat) (2 : Int64)) ∈ gT := gTs_2 _ (List.mem_of_getElem? (i := 8) rfl)
theorem kw_89 : (Jvm.Cond.methodLink "OwnerLedger" (46 : Nat) ({ cls := "OwnerLedger", name := "requireRange", desc := "(JJJ)V" } : Jvm.MethodName)) ∈ gT := gTs_2 _ (List.mem_of_getElem? (i := 9) rfl)
theorem kw_90 : (Jvm.Cond.static ({ cls := "OwnerLedger", name := "requireRange", desc := "(JJJ)V" } : Jvm.MethodName)) ∈ gT := gTs_2 _ (List.mem_of_getElem? (i := 10) rfl)
theorem kw_91 : (Jvm.Cond.code ({ cls := "OwnerLedger", name := "requireRange", desc := "(JJJ)V" } : Jvm.MethodName) prog_1_method_25_code (6 : Nat) (Option.none : Option Jvm.ClassFile.FieldType)) ∈ gT := gTs_2 _ (List.mem_of_getElem? (i := 11) rfl)
theorem kw_92 : (Jvm.Cond.classLink "OwnerLedger" (89 : Nat) "java/lang/IllegalArgumentException") ∈ gT := gTs_2 _ (List.mem_of_getElem? (i := 12) rfl)
theorem kw_93 : (Jvm.Cond.instantiable "java/lang/IllegalArgumentException" (6 : Nat)) ∈ gT := gTs_2 _ (List.mem_of_getElem? (i := 13) rfl)
theorem kw_94 : (Jvm.Cond.methodLink "OwnerLedger" (93 : Nat) ({ cls := "java/lang/IllegalArgumentException", name := "<init>", desc := "(Ljava/lang/String;)V" } : Jvm.MethodName)) ∈ gT := gTs_2 _ (List.mem_of_getElem? (i := 14) rfl)
theorem kw_95 : (Jvm.Cond.instanceMethod ({ cls := "java/lang/IllegalArgumentException", name := "<init>", desc := "(Ljava/lang/String;)V" } : Jvm.MethodName)) ∈ gT := gTs_2 _ (List.mem_of_getElem? (i := 15) rfl)
theorem kw_96 : (Jvm.Cond.code ({ cls := "java/lang/IllegalArgumentException", name := "<init>", desc := "(Ljava/lang/String;)V" } : Jvm.MethodName) prog_9_method_2_code (2 : Nat) (Option.none : Option Jvm.ClassFile.FieldType)) ∈ gT := gTs_2 _ (List.mem_of_getElem? (i := 16) rfl)
theorem kw_97 : (Jvm.Cond.methodLink "OwnerLedgerLaw" (113 : Nat) ({ cls := "OwnerLedgerLaw", name := "month", desc := "(LOwnerLedger;I)I" } : Jvm.MethodName)) ∈ gT := gTs_2 _ (List.mem_of_getElem? (i := 17) rfl)
theorem kw_98 : (Jvm.Cond.static ({ cls := "OwnerLedgerLaw", name := "month", desc := "(LOwnerLedger;I)I" } : Jvm.MethodName)) ∈ gT := gTs_2 _ (List.mem_of_getElem? (i := 18) rfl)
theorem kw_99 : (Jvm.Cond.codeWith ({ cls := "OwnerLedgerLaw", name := "month", desc := "(LOwnerLedger;I)I" } : Jvm.MethodName) method_5_code (3 : Nat) (Option.some Jvm.ClassFile.FieldType.int) [((0 : Nat), (5 : Nat), (8 : Nat), (21 : Nat))]) ∈ gT := gTs_2 _ (List.mem_of_getElem? (i := 19) rfl)
theorem kw_100 : (Jvm.Cond.methodLink "OwnerLedgerLaw" (23 : Nat) ({ cls := "OwnerLedger", name := "month", desc := "(I)V" } : Jvm.MethodName)) ∈ gT := gTs_2 _ (List.mem_of_getElem? (i := 20) rfl)
theorem kw_101 : (Jvm.Cond.instanceMethod ({ cls := "OwnerLedger", name := "month", desc := "(I)V" } : Jvm.MethodName)) ∈ gT := gTs_2 _ (List.mem_of_getElem? (i := 21) rfl)
theorem kw_102 : (Jvm.Cond.selects "OwnerLedger" ({ cls := "OwnerLedger", name := "month", desc := "(I)V" } : Jvm.MethodName) ({ cls := "OwnerLedger", name := "month", desc := "(I)V" } : Jvm.MethodName)) ∈ gT := gTs_2 _ (List.mem_of_getElem? (i := 22) rfl)
theorem kw_103 : (Jvm.Cond.code ({ cls := "OwnerLedger", name := "month", desc := "(I)V" } : Jvm.MethodName) prog_1_method_4_code (2 : Nat) (Option.none : Option Jvm.ClassFile.FieldType)) ∈ gT := gTs_2 _ (List.mem_of_getElem? (i := 23) rfl)
theorem kw_104 : (Jvm.Cond.constantLong "OwnerLedger" (56 : Nat) (120 : Int64)) ∈ gT := gTs_2 _ (List.mem_of_getElem? (i := 24) rfl)
theorem kw_105 : (Jvm.Cond.methodLink "OwnerLedgerLaw" (117 : Nat) ({ cls := "OwnerLedgerLaw", name := "close", desc := "(LOwnerLedger;I[J)I" } : Jvm.MethodName)) ∈ gT := gTs_2 _ (List.mem_of_getElem? (i := 25) rfl)
theorem kw_106 : (Jvm.Cond.static ({ cls := "OwnerLedgerLaw", name := "close", desc := "(LOwnerLedger;I[J)I" } : Jvm.MethodName)) ∈ gT := gTs_2 _ (List.mem_of_getElem? (i := 26) rfl)
theorem kw_107 : (Jvm.Cond.codeWith ({ cls := "OwnerLedgerLaw", name := "close", desc := "(LOwnerLedger;I[J)I" } : Jvm.MethodName) method_6_code (4 : Nat) (Option.some Jvm.ClassFile.FieldType.int) [((0 : Nat), (9 : Nat), (12 : Nat), (21 : Nat)), ((0 : Nat), (9 : Nat), (15 : Nat), (31 : Nat))]) ∈ gT := gTs_2 _ (List.mem_of_getElem? (i := 27) rfl)
theorem kw_108 : (Jvm.Cond.classLink "OwnerLedgerLaw" (31 : Nat) "java/lang/IllegalStateException") ∈ gT := gTs_2 _ (List.mem_of_getElem? (i := 28) rfl)
theorem kw_109 : (Jvm.Cond.methodLink "OwnerLedgerLaw" (27 : Nat) ({ cls := "OwnerLedger", name := "close", desc := "(I)I" } : Jvm.MethodName)) ∈ gT := gTs_2 _ (List.mem_of_getElem? (i := 29) rfl)
theorem kw_110 : (Jvm.Cond.instanceMethod ({ cls := "OwnerLedger", name := "close", desc := "(I)I" } : Jvm.MethodName)) ∈ gT := gTs_2 _ (List.mem_of_getElem? (i := 30) rfl)
theorem kw_111 : (Jvm.Cond.selects "OwnerLedger" ({ cls := "OwnerLedger", name := "close", desc := "(I)I" } : Jvm.MethodName) ({ cls := "OwnerLedger", name := "close", desc := "(I)I" } : Jvm.MethodName)) ∈ gT := gTs_2 _ (List.mem_of_getElem? (i := 31) rfl)
theorem kw_112 : (Jvm.Cond.code ({ cls := "OwnerLedger", name := "close", desc := "(I)I" } : Jvm.MethodName) prog_1_method_5_code (3 : Nat) (Option.some Jvm.ClassFile.FieldType.int)) ∈ gT := gTs_2 _ (List.mem_of_getElem? (i := 32) rfl)
theorem kw_113 : (Jvm.Cond.classLink "OwnerLedger" (61 : Nat) "java/lang/IllegalStateException") ∈ gT := gTs_2 _ (List.mem_of_getElem? (i := 33) rfl)
theorem kw_114 : (Jvm.Cond.instantiable "java/lang/IllegalStateException" (6 : Nat)) ∈ gT := gTs_2 _ (List.mem_of_getElem? (i := 34) rfl)
theorem kw_115 : (Jvm.Cond.methodLink "OwnerLedger" (65 : Nat) ({ cls := "java/lang/IllegalStateException", name := "<init>", desc := "(Ljava/lang/String;)V" } : Jvm.MethodName)) ∈ gT := gTs_2 _ (List.mem_of_getElem? (i := 35) rfl)
theorem kw_116 : (Jvm.Cond.instanceMethod ({ cls := "java/lang/IllegalStateException", name := "<init>", desc := "(Ljava/lang/String;)V" } : Jvm.MethodName)) ∈ gT := gTs_2 _ (List.mem_of_getElem? (i := 36) rfl)
theorem kw_117 : (Jvm.Cond.code ({ cls := "java/lang/IllegalStateException", name := "<init>", desc := "(Ljava/lang/String;)V" } : Jvm.MethodName) prog_10_method_2_code (2 : Nat) (Option.none : Option Jvm.ClassFile.FieldType)) ∈ gT := gTs_2 _ (List.mem_of_getElem? (i := 37) rfl)
theorem kw_118 : (Jvm.Cond.methodLink "OwnerLedgerLaw" (121 : Nat) ({ cls := "OwnerLedgerLaw", name := "batch", desc := "(LOwnerLedger;I[J)I" } : Jvm.MethodName)) ∈ gT := gTs_2 _ (List.mem_of_getElem? (i := 38) rfl)
theorem kw_119 : (Jvm.Cond.static ({ cls := "OwnerLedgerLaw", name := "batch", desc := "(LOwnerLedger;I[J)I" } : Jvm.MethodName)) ∈ gT := gTs_2 _ (List.mem_of_getElem? (i := 39) rfl)
theorem kw_120 : (Jvm.Cond.codeWith ({ cls := "OwnerLedgerLaw", name := "batch", desc := "(LOwnerLedger;I[J)I" } : Jvm.MethodName) method_7_code (4 : Nat) (Option.some Jvm.ClassFile.FieldType.int) [((0 : Nat), (9 : Nat), (12 : Nat), (21 : Nat)), ((0 : Nat), (9 : Nat), (15 : Nat), (31 : Nat)), ((0 : Nat), (9 : Nat), (18 : Nat), (13 : Nat))]) ∈ gT := gTs_3 _ (List.mem_of_getElem? (i := 0) rfl)
theorem kw_121 : (Jvm.Cond.methodLink "OwnerLedgerLaw" (33 : Nat) ({ cls := "OwnerLedger", name := "batch", desc := "(I)I" } : Jvm.MethodName)) ∈ gT := gTs_3 _ (List.mem_of_getElem? (i := 1) rfl)
theorem kw_122 : (Jvm.Cond.instanceMethod ({ cls := "OwnerLedger", name := "batch", desc := "(I)I" } : Jvm.MethodName)) ∈ gT := gTs_3 _ (List.mem_of_getElem? (i := 2) rfl)
theorem kw_123 : (Jvm.Cond.selects "OwnerLedger" ({ cls := "OwnerLedger", name := "batch", desc := "(I)I" } : Jvm.MethodName) ({ cls := "OwnerLedger", name := "batch", desc := "(I)I" } : Jvm.MethodName)) ∈ gT := gTs_3 _ (List.mem_of_getElem? (i := 3) rfl)
theorem kw_124 : (Jvm.Cond.code ({ cls := "OwnerLedger", name := "batch", desc := "(I)I" } : Jvm.MethodName) prog_1_method_6_code (2 : Nat) (Option.some Jvm.ClassFile.FieldType.int)) ∈ gT := gTs_3 _ (List.mem_of_getElem? (i := 4) rfl)
theorem kw_125 : (Jvm.Cond.instantiable "OwnerLedger$Batch" (6 : Nat)) ∈ gT := gTs_3 _ (List.mem_of_getElem? (i := 5) rfl)
theorem kw_126 : (Jvm.Cond.methodLink "OwnerLedger" (70 : Nat) ({ cls := "OwnerLedger$Batch", name := "<init>", desc := "(I)V" } : Jvm.MethodName)) ∈ gT := gTs_3 _ (List.mem_of_getElem? (i := 6) rfl)
theorem kw_127 : (Jvm.Cond.instanceMethod ({ cls := "OwnerLedger$Batch", name := "<init>", desc := "(I)V" } : Jvm.MethodName)) ∈ gT := gTs_3 _ (List.mem_of_getElem? (i := 7) rfl)
theorem kw_128 : (Jvm.Cond.code ({ cls := "OwnerLedger$Batch", name := "<init>", desc := "(I)V" } : Jvm.MethodName) prog_2_method_1_code (2 : Nat) (Option.none : Option Jvm.ClassFile.FieldType)) ∈ gT := gTs_3 _ (List.mem_of_getElem? (i := 8) rfl)
theorem kw_129 : (Jvm.Cond.methodLink "OwnerLedger$Batch" (3 : Nat) ({ cls := "java/lang/Object", name := "<init>", desc := "()V" } : Jvm.MethodName)) ∈ gT := gTs_3 _ (List.mem_of_getElem? (i := 9) rfl)
theorem kw_130 : (Jvm.Cond.classLink "OwnerLedger$Batch" (15 : Nat) "OwnerLedger$Row") ∈ gT := gTs_3 _ (List.mem_of_getElem? (i := 10) rfl)
theorem kw_131 : (Jvm.Cond.fieldLink "OwnerLedger$Batch" (9 : Nat) "OwnerLedger$Batch" "month" "I") ∈ gT := gTs_3 _ (List.mem_of_getElem? (i := 11) rfl)
theorem kw_132 : (Jvm.Cond.fieldLink "OwnerLedger" (118 : Nat) "OwnerLedger$Batch" "month" "I") ∈ gT := gTs_3 _ (List.mem_of_getElem? (i := 12) rfl)
theorem kw_133 : (Jvm.Cond.fieldLink "OwnerLedger$Batch" (17 : Nat) "OwnerLedger$Batch" "rows" "[LOwnerLedger$Row;") ∈ gT := gTs_3 _ (List.mem_of_getElem? (i := 13) rfl)
theorem kw_134 : (Jvm.Cond.fieldLink "OwnerLedger" (262 : Nat) "OwnerLedger$Batch" "rows" "[LOwnerLedger$Row;") ∈ gT := gTs_3 _ (List.mem_of_getElem? (i := 14) rfl)
theorem kw_135 : (Jvm.Cond.fieldLink "OwnerLedger$Batch" (24 : Nat) "OwnerLedger$Batch" "rowCount" "I") ∈ gT := gTs_3 _ (List.mem_of_getElem? (i := 15) rfl)
theorem kw_136 : (Jvm.Cond.fieldLink "OwnerLedger" (107 : Nat) "OwnerLedger$Batch" "rowCount" "I") ∈ gT := gTs_3 _ (List.mem_of_getElem? (i := 16) rfl)
theorem kw_137 : (Jvm.Cond.fieldLink "OwnerLedger$Batch" (21 : Nat) "OwnerLedger$Batch" "state" "I") ∈ gT := gTs_3 _ (List.mem_of_getElem? (i := 17) rfl)
theorem kw_138 : (Jvm.Cond.fieldLink "OwnerLedger" (133 : Nat) "OwnerLedger$Batch" "state" "I") ∈ gT := gTs_3 _ (List.mem_of_getElem? (i := 18) rfl)
theorem kw_139 : (Jvm.Cond.fieldLink "OwnerLedger" (138 : Nat) "OwnerLedger$Batch" "reversedBy" "I") ∈ gT := gTs_3 _ (List.mem_of_getElem? (i := 19) rfl)
theorem kw_140 : (Jvm.Cond.fieldLink "OwnerLedger" (143 : Nat) "OwnerLedger$Batch" "reversalOf" "I") ∈ gT := gTs_3 _ (List.mem_of_getElem? (i := 20) rfl)
theorem kw_141 : (Jvm.Cond.methodLink "OwnerLedger" (73 : Nat) ({ cls := "OwnerLedger", name := "keepBatch", desc := "(LOwnerLedger$Batch;)I" } : Jvm.MethodName)) ∈ gT := gTs_3 _ (List.mem_of_getElem? (i := 21) rfl)
theorem kw_142 : (Jvm.Cond.instanceMethod ({ cls := "OwnerLedger", name := "keepBatch", desc := "(LOwnerLedger$Batch;)I" } : Jvm.MethodName)) ∈ gT := gTs_3 _ (List.mem_of_getElem? (i := 22) rfl)
theorem kw_143 : (Jvm.Cond.code ({ cls := "OwnerLedger", name := "keepBatch", desc := "(LOwnerLedger$Batch;)I" } : Jvm.MethodName) prog_1_method_33_code (2 : Nat) (Option.some Jvm.ClassFile.FieldType.int)) ∈ gT := gTs_3 _ (List.mem_of_getElem? (i := 23) rfl)
theorem kw_144 : (Jvm.Cond.methodLink "OwnerLedgerLaw" (126 : Nat) ({ cls := "OwnerLedgerLaw", name := "row", desc := "(LOwnerLedger;IIJ[J)I" } : Jvm.MethodName)) ∈ gT := gTs_3 _ (List.mem_of_getElem? (i := 24) rfl)
theorem kw_145 : (Jvm.Cond.static ({ cls := "OwnerLedgerLaw", name := "row", desc := "(LOwnerLedger;IIJ[J)I" } : Jvm.MethodName)) ∈ gT := gTs_3 _ (List.mem_of_getElem? (i := 25) rfl)
theorem kw_146 : (Jvm.Cond.codeWith ({ cls := "OwnerLedgerLaw", name := "row", desc := "(LOwnerLedger;IIJ[J)I" } : Jvm.MethodName) method_8_code (7 : Nat) (Option.some Jvm.ClassFile.FieldType.int) [((0 : Nat), (12 : Nat), (15 : Nat), (19 : Nat)), ((0 : Nat), (12 : Nat), (19 : Nat), (21 : Nat)), ((0 : Nat), (12 : Nat), (23 : Nat), (31 : Nat)), ((0 : Nat), (12 : Nat), (27 : Nat), (13 : Nat))]) ∈ gT := gTs_3 _ (List.mem_of_getElem? (i := 26) rfl)
theorem kw_147 : (Jvm.Cond.methodLink "OwnerLedgerLaw" (36 : Nat) ({ cls := "OwnerLedger", name := "row", desc := "(IIJ)I" } : Jvm.MethodName)) ∈ gT := gTs_3 _ (List.mem_of_getElem? (i := 27) rfl)
theorem kw_148 : (Jvm.Cond.instanceMethod ({ cls := "OwnerLedger", name := "row", desc := "(IIJ)I" } : Jvm.MethodName)) ∈ gT := gTs_3 _ (List.mem_of_getElem? (i := 28) rfl)
theorem kw_149 : (Jvm.Cond.selects "OwnerLedger" ({ cls := "OwnerLedger", name := "row", desc := "(IIJ)I" } : Jvm.MethodName) ({ cls := "OwnerLedger", name := "row", desc := "(IIJ)I" } : Jvm.MethodName)) ∈ gT := gTs_3 _ (List.mem_of_getElem? (i := 29) rfl)
theorem kw_150 : (Jvm.Cond.code ({ cls := "OwnerLedger", name := "row", desc := "(IIJ)I" } : Jvm.MethodName) prog_1_method_7_code (7 : Nat) (Option.some Jvm.ClassFile.FieldType.int)) ∈ gT := gTs_3 _ (List.mem_of_getElem? (i := 30) rfl)
theorem kw_151 : (Jvm.Cond.methodLink "OwnerLedger" (77 : Nat) ({ cls := "OwnerLedger", name := "findBatch", desc := "(I)LOwnerLedger$Batch;" } : Jvm.MethodName)) ∈ gT := gTs_3 _ (List.mem_of_getElem? (i := 31) rfl)
theorem kw_152 : (Jvm.Cond.instanceMethod ({ cls := "OwnerLedger", name := "findBatch", desc := "(I)LOwnerLedger$Batch;" } : Jvm.MethodName)) ∈ gT := gTs_3 _ (List.mem_of_getElem? (i := 32) rfl)
theorem kw_153 : (Jvm.Cond.code ({ cls := "OwnerLedger", name := "findBatch", desc := "(I)LOwnerLedger$Batch;" } : Jvm.MethodName) prog_1_method_30_code (3 : Nat) (Option.some (Jvm.ClassFile.FieldType.object "OwnerLedger$Batch"))) ∈ gT := gTs_3 _ (List.mem_of_getElem? (i := 33) rfl)
theorem kw_154 : (Jvm.Cond.methodLink "OwnerLedger" (81 : Nat) ({ cls := "OwnerLedger", name := "currencyOf", desc := "(I)I" } : Jvm.MethodName)) ∈ gT := gTs_3 _ (List.mem_of_getElem? (i := 34) rfl)
theorem kw_155 : (Jvm.Cond.instanceMethod ({ cls := "OwnerLedger", name := "currencyOf", desc := "(I)I" } : Jvm.MethodName)) ∈ gT := gTs_3 _ (List.mem_of_getElem? (i := 35) rfl)
theorem kw_156 : (Jvm.Cond.code ({ cls := "OwnerLedger", name := "currencyOf", desc := "(I)I" } : Jvm.MethodName) prog_1_method_29_code (2 : Nat) (Option.some Jvm.ClassFile.FieldType.int)) ∈ gT := gTs_3 _ (List.mem_of_getElem? (i := 36) rfl)
theorem kw_157 : (Jvm.Cond.constantLong "OwnerLedger" (85 : Nat) (-1000000000 : Int64)) ∈ gT := gTs_3 _ (List.mem_of_getElem? (i := 37) rfl)
theorem kw_158 : (Jvm.Cond.constantLong "OwnerLedger" (87 : Nat) (1000000000 : Int64)) ∈ gT := gTs_3 _ (List.mem_of_getElem? (i := 38) rfl)
theorem kw_159 : (Jvm.Cond.methodLink "OwnerLedger" (94 : Nat) ({ cls := "OwnerLedger", name := "requireOpen", desc := "(LOwnerLedger$Batch;)V" } : Jvm.MethodName)) ∈ gT := gTs_3 _ (List.mem_of_getElem? (i := 39) rfl)
theorem kw_160 : (Jvm.Cond.static ({ cls := "OwnerLedger", name := "requireOpen", desc := "(LOwnerLedger$Batch;)V" } : Jvm.MethodName)) ∈ gT := gTs_4 _ (List.mem_of_getElem? (i := 0) rfl)
theorem kw_161 : (Jvm.Cond.code ({ cls := "OwnerLedger", name := "requireOpen", desc := "(LOwnerLedger$Batch;)V" } : Jvm.MethodName) prog_1_method_27_code (1 : Nat) (Option.none : Option Jvm.ClassFile.FieldType)) ∈ gT := gTs_4 _ (List.mem_of_getElem? (i := 1) rfl)
theorem kw_162 : (Jvm.Cond.classLink "OwnerLedger" (98 : Nat) "OwnerLedger$Row") ∈ gT := gTs_4 _ (List.mem_of_getElem? (i := 2) rfl)
theorem kw_163 : (Jvm.Cond.instantiable "OwnerLedger$Row" (4 : Nat)) ∈ gT := gTs_4 _ (List.mem_of_getElem? (i := 3) rfl)
theorem kw_164 : (Jvm.Cond.methodLink "OwnerLedger" (100 : Nat) ({ cls := "OwnerLedger$Row", name := "<init>", desc := "(IIJ)V" } : Jvm.MethodName)) ∈ gT := gTs_4 _ (List.mem_of_getElem? (i := 4) rfl)
theorem kw_165 : (Jvm.Cond.instanceMethod ({ cls := "OwnerLedger$Row", name := "<init>", desc := "(IIJ)V" } : Jvm.MethodName)) ∈ gT := gTs_4 _ (List.mem_of_getElem? (i := 5) rfl)
theorem kw_166 : (Jvm.Cond.code ({ cls := "OwnerLedger$Row", name := "<init>", desc := "(IIJ)V" } : Jvm.MethodName) prog_5_method_1_code (5 : Nat) (Option.none : Option Jvm.ClassFile.FieldType)) ∈ gT := gTs_4 _ (List.mem_of_getElem? (i := 6) rfl)
theorem kw_167 : (Jvm.Cond.methodLink "OwnerLedger$Row" (1 : Nat) ({ cls := "java/lang/Object", name := "<init>", desc := "()V" } : Jvm.MethodName)) ∈ gT := gTs_4 _ (List.mem_of_getElem? (i := 7) rfl)
theorem kw_168 : (Jvm.Cond.fieldLink "OwnerLedger$Row" (7 : Nat) "OwnerLedger$Row" "account" "I") ∈ gT := gTs_4 _ (List.mem_of_getElem? (i := 8) rfl)
theorem kw_169 : (Jvm.Cond.fieldLink "OwnerLedger$Batch" (31 : Nat) "OwnerLedger$Row" "account" "I") ∈ gT := gTs_4 _ (List.mem_of_getElem? (i := 9) rfl)
theorem kw_170 : (Jvm.Cond.fieldLink "OwnerLedger$Row" (13 : Nat) "OwnerLedger$Row" "currency" "I") ∈ gT := gTs_4 _ (List.mem_of_getElem? (i := 10) rfl)
theorem kw_171 : (Jvm.Cond.fieldLink "OwnerLedger$Batch" (34 : Nat) "OwnerLedger$Row" "currency" "I") ∈ gT := gTs_4 _ (List.mem_of_getElem? (i := 11) rfl)
theorem kw_172 : (Jvm.Cond.fieldLink "OwnerLedger$Row" (16 : Nat) "OwnerLedger$Row" "cents" "J") ∈ gT := gTs_4 _ (List.mem_of_getElem? (i := 12) rfl)
theorem kw_173 : (Jvm.Cond.fieldLink "OwnerLedger$Batch" (37 : Nat) "OwnerLedger$Row" "cents" "J") ∈ gT := gTs_4 _ (List.mem_of_getElem? (i := 13) rfl)
theorem kw_174 : (Jvm.Cond.fieldLink "OwnerLedger$Batch" (44 : Nat) "OwnerLedger$Row" "breaking" "Z") ∈ gT := gTs_4 _ (List.mem_of_getElem? (i := 14) rfl)
theorem kw_175 : (Jvm.Cond.fieldLink "OwnerLedger" (114 : Nat) "OwnerLedger$Row" "breaking" "Z") ∈ gT := gTs_4 _ (List.mem_of_getElem? (i := 15) rfl)
theorem kw_176 : (Jvm.Cond.methodLink "OwnerLedger" (103 : Nat) ({ cls := "OwnerLedger$Batch", name := "addRow", desc := "(LOwnerLedger$Row;)V" } : Jvm.MethodName)) ∈ gT := gTs_4 _ (List.mem_of_getElem? (i := 16) rfl)
theorem kw_177 : (Jvm.Cond.instanceMethod ({ cls := "OwnerLedger$Batch", name := "addRow", desc := "(LOwnerLedger$Row;)V" } : Jvm.MethodName)) ∈ gT := gTs_4 _ (List.mem_of_getElem? (i := 17) rfl)
theorem kw_178 : (Jvm.Cond.selects "OwnerLedger$Batch" ({ cls := "OwnerLedger$Batch", name := "addRow", desc := "(LOwnerLedger$Row;)V" } : Jvm.MethodName) ({ cls := "OwnerLedger$Batch", name := "addRow", desc := "(LOwnerLedger$Row;)V" } : Jvm.MethodName)) ∈ gT := gTs_4 _ (List.mem_of_getElem? (i := 18) rfl)
theorem kw_179 : (Jvm.Cond.code ({ cls := "OwnerLedger$Batch", name := "addRow", desc := "(LOwnerLedger$Row;)V" } : Jvm.MethodName) prog_2_method_2_code (2 : Nat) (Option.none : Option Jvm.ClassFile.FieldType)) ∈ gT := gTs_4 _ (List.mem_of_getElem? (i := 19) rfl)
theorem kw_180 : (Jvm.Cond.methodLink "OwnerLedgerLaw" (130 : Nat) ({ cls := "OwnerLedgerLaw", name := "breaks", desc := "(LOwnerLedger;IIZ)I" } : Jvm.MethodName)) ∈ gT := gTs_4 _ (List.mem_of_getElem? (i := 20) rfl)
theorem kw_181 : (Jvm.Cond.static ({ cls := "OwnerLedgerLaw", name := "breaks", desc := "(LOwnerLedger;IIZ)I" } : Jvm.MethodName)) ∈ gT := gTs_4 _ (List.mem_of_getElem? (i := 21) rfl)
theorem kw_182 : (Jvm.Cond.codeWith ({ cls := "OwnerLedgerLaw", name := "breaks", desc := "(LOwnerLedger;IIZ)I" } : Jvm.MethodName) method_9_code (5 : Nat) (Option.some Jvm.ClassFile.FieldType.int) [((0 : Nat), (7 : Nat), (10 : Nat), (19 : Nat)), ((0 : Nat), (7 : Nat), (14 : Nat), (31 : Nat))]) ∈ gT := gTs_4 _ (List.mem_of_getElem? (i := 22) rfl)
theorem kw_183 : (Jvm.Cond.methodLink "OwnerLedgerLaw" (40 : Nat) ({ cls := "OwnerLedger", name := "breaks", desc := "(IIZ)V" } : Jvm.MethodName)) ∈ gT := gTs_4 _ (List.mem_of_getElem? (i := 23) rfl)
theorem kw_184 : (Jvm.Cond.instanceMethod ({ cls := "OwnerLedger", name := "breaks", desc := "(IIZ)V" } : Jvm.MethodName)) ∈ gT := gTs_4 _ (List.mem_of_getElem? (i := 24) rfl)
theorem kw_185 : (Jvm.Cond.selects "OwnerLedger" ({ cls := "OwnerLedger", name := "breaks", desc := "(IIZ)V" } : Jvm.MethodName) ({ cls := "OwnerLedger", name := "breaks", desc := "(IIZ)V" } : Jvm.MethodName)) ∈ gT := gTs_4 _ (List.mem_of_getElem? (i := 25) rfl)
theorem kw_186 : (Jvm.Cond.code ({ cls := "OwnerLedger", name := "breaks", desc := "(IIZ)V" } : Jvm.MethodName) prog_1_method_8_code (6 : Nat) (Option.none : Option Jvm.ClassFile.FieldType)) ∈ gT := gTs_4 _ (List.mem_of_getElem? (i := 26) rfl)
theorem kw_187 : (Jvm.Cond.methodLink "OwnerLedger" (110 : Nat) ({ cls := "OwnerLedger", name := "findRow", desc := "(LOwnerLedger$Batch;I)LOwnerLedger$Row;" } : Jvm.MethodName)) ∈ gT := gTs_4 _ (List.mem_of_getElem? (i := 27) rfl)
theorem kw_188 : (Jvm.Cond.static ({ cls := "OwnerLedger", name := "findRow", desc := "(LOwnerLedger$Batch;I)LOwnerLedger$Row;" } : Jvm.MethodName)) ∈ gT := gTs_4 _ (List.mem_of_getElem? (i := 28) rfl)
theorem kw_189 : (Jvm.Cond.code ({ cls := "OwnerLedger", name := "findRow", desc := "(LOwnerLedger$Batch;I)LOwnerLedger$Row;" } : Jvm.MethodName) prog_1_method_31_code (3 : Nat) (Option.some (Jvm.ClassFile.FieldType.object "OwnerLedger$Row"))) ∈ gT := gTs_4 _ (List.mem_of_getElem? (i := 29) rfl)
theorem kw_190 : (Jvm.Cond.methodLink "OwnerLedgerLaw" (134 : Nat) ({ cls := "OwnerLedgerLaw", name := "post", desc := "(LOwnerLedger;I[J)I" } : Jvm.MethodName)) ∈ gT := gTs_4 _ (List.mem_of_getElem? (i := 30) rfl)
theorem kw_191 : (Jvm.Cond.static ({ cls := "OwnerLedgerLaw", name := "post", desc := "(LOwnerLedger;I[J)I" } : Jvm.MethodName)) ∈ gT := gTs_4 _ (List.mem_of_getElem? (i := 31) rfl)
theorem kw_192 : (Jvm.Cond.codeWith ({ cls := "OwnerLedgerLaw", name := "post", desc := "(LOwnerLedger;I[J)I" } : Jvm.MethodName) method_10_code (4 : Nat) (Option.some Jvm.ClassFile.FieldType.int) [((0 : Nat), (9 : Nat), (12 : Nat), (19 : Nat)), ((0 : Nat), (9 : Nat), (15 : Nat), (31 : Nat))]) ∈ gT := gTs_4 _ (List.mem_of_getElem? (i := 32) rfl)
theorem kw_193 : (Jvm.Cond.methodLink "OwnerLedgerLaw" (44 : Nat) ({ cls := "OwnerLedger", name := "post", desc := "(I)I" } : Jvm.MethodName)) ∈ gT := gTs_4 _ (List.mem_of_getElem? (i := 33) rfl)
theorem kw_194 : (Jvm.Cond.instanceMethod ({ cls := "OwnerLedger", name := "post", desc := "(I)I" } : Jvm.MethodName)) ∈ gT := gTs_4 _ (List.mem_of_getElem? (i := 34) rfl)
theorem kw_195 : (Jvm.Cond.selects "OwnerLedger" ({ cls := "OwnerLedger", name := "post", desc := "(I)I" } : Jvm.MethodName) ({ cls := "OwnerLedger", name := "post", desc := "(I)I" } : Jvm.MethodName)) ∈ gT := gTs_4 _ (List.mem_of_getElem? (i := 35) rfl)
theorem kw_196 : (Jvm.Cond.code ({ cls := "OwnerLedger", name := "post", desc := "(I)I" } : Jvm.MethodName) prog_1_method_9_code (5 : Nat) (Option.some Jvm.ClassFile.FieldType.int)) ∈ gT := gTs_4 _ (List.mem_of_getElem? (i := 36) rfl)
theorem kw_197 : (Jvm.Cond.methodLink "OwnerLedger" (125 : Nat) ({ cls := "OwnerLedger$Batch", name := "firstBreaking", desc := "()I" } : Jvm.MethodName)) ∈ gT := gTs_4 _ (List.mem_of_getElem? (i := 37) rfl)
theorem kw_198 : (Jvm.Cond.instanceMethod ({ cls := "OwnerLedger$Batch", name := "firstBreaking", desc := "()I" } : Jvm.MethodName)) ∈ gT := gTs_4 _ (List.mem_of_getElem? (i := 38) rfl)
theorem kw_199 : (Jvm.Cond.selects "OwnerLedger$Batch" ({ cls := "OwnerLedger$Batch", name := "firstBreaking", desc := "()I" } : Jvm.MethodName) ({ cls := "OwnerLedger$Batch", name := "firstBreaking", desc := "()I" } : Jvm.MethodName)) ∈ gT := gTs_4 _ (List.mem_of_getElem? (i := 39) rfl)
theorem kw_200 : (Jvm.Cond.code ({ cls := "OwnerLedger$Batch", name := "firstBreaking", desc := "()I" } : Jvm.MethodName) prog_2_method_4_code (3 : Nat) (Option.some Jvm.ClassFile.FieldType.int)) ∈ gT := gTs_5 _ (List.mem_of_getElem? (i := 0) rfl)
theorem kw_201 : (Jvm.Cond.methodLink "OwnerLedger" (129 : Nat) ({ cls := "OwnerLedger$Batch", name := "sumsToZero", desc := "()Z" } : Jvm.MethodName)) ∈ gT := gTs_5 _ (List.mem_of_getElem? (i := 1) rfl)
theorem kw_202 : (Jvm.Cond.instanceMethod ({ cls := "OwnerLedger$Batch", name := "sumsToZero", desc := "()Z" } : Jvm.MethodName)) ∈ gT := gTs_5 _ (List.mem_of_getElem? (i := 2) rfl)
theorem kw_203 : (Jvm.Cond.selects "OwnerLedger$Batch" ({ cls := "OwnerLedger$Batch", name := "sumsToZero", desc := "()Z" } : Jvm.MethodName) ({ cls := "OwnerLedger$Batch", name := "sumsToZero", desc := "()Z" } : Jvm.MethodName)) ∈ gT := gTs_5 _ (List.mem_of_getElem? (i := 3) rfl)
theorem kw_204 : (Jvm.Cond.code ({ cls := "OwnerLedger$Batch", name := "sumsToZero", desc := "()Z" } : Jvm.MethodName) prog_2_method_5_code (2 : Nat) (Option.some Jvm.ClassFile.FieldType.boolean)) ∈ gT := gTs_5 _ (List.mem_of_getElem? (i := 4) rfl)
theorem kw_205 : (Jvm.Cond.methodLink "OwnerLedger$Batch" (48 : Nat) ({ cls := "OwnerLedger$Batch", name := "sumOfCurrency", desc := "(I)J" } : Jvm.MethodName)) ∈ gT := gTs_5 _ (List.mem_of_getElem? (i := 5) rfl)
theorem kw_206 : (Jvm.Cond.instanceMethod ({ cls := "OwnerLedger$Batch", name := "sumOfCurrency", desc := "(I)J" } : Jvm.MethodName)) ∈ gT := gTs_5 _ (List.mem_of_getElem? (i := 6) rfl)
theorem kw_207 : (Jvm.Cond.selects "OwnerLedger$Batch" ({ cls := "OwnerLedger$Batch", name := "sumOfCurrency", desc := "(I)J" } : Jvm.MethodName) ({ cls := "OwnerLedger$Batch", name := "sumOfCurrency", desc := "(I)J" } : Jvm.MethodName)) ∈ gT := gTs_5 _ (List.mem_of_getElem? (i := 7) rfl)
theorem kw_208 : (Jvm.Cond.code ({ cls := "OwnerLedger$Batch", name := "sumOfCurrency", desc := "(I)J" } : Jvm.MethodName) prog_2_method_6_code (8 : Nat) (Option.some Jvm.ClassFile.FieldType.long)) ∈ gT := gTs_5 _ (List.mem_of_getElem? (i := 8) rfl)
theorem kw_209 : (Jvm.Cond.methodLink "OwnerLedgerLaw" (137 : Nat) ({ cls := "OwnerLedgerLaw", name := "reverse", desc := "(LOwnerLedger;I[J)I" } : Jvm.MethodName)) ∈ gT := gTs_5 _ (List.mem_of_getElem? (i := 9) rfl)
theorem kw_210 : (Jvm.Cond.static ({ cls := "OwnerLedgerLaw", name := "reverse", desc := "(LOwnerLedger;I[J)I" } : Jvm.MethodName)) ∈ gT := gTs_5 _ (List.mem_of_getElem? (i := 10) rfl)
theorem kw_211 : (Jvm.Cond.codeWith ({ cls := "OwnerLedgerLaw", name := "reverse", desc := "(LOwnerLedger;I[J)I" } : Jvm.MethodName) method_11_code (4 : Nat) (Option.some Jvm.ClassFile.FieldType.int) [((0 : Nat), (9 : Nat), (12 : Nat), (19 : Nat)), ((0 : Nat), (9 : Nat), (15 : Nat), (31 : Nat)), ((0 : Nat), (9 : Nat), (18 : Nat), (13 : Nat))]) ∈ gT := gTs_5 _ (List.mem_of_getElem? (i := 11) rfl)
theorem kw_212 : (Jvm.Cond.methodLink "OwnerLedgerLaw" (47 : Nat) ({ cls := "OwnerLedger", name := "reverse", desc := "(I)I" } : Jvm.MethodName)) ∈ gT := gTs_5 _ (List.mem_of_getElem? (i := 12) rfl)
theorem kw_213 : (Jvm.Cond.instanceMethod ({ cls := "OwnerLedger", name := "reverse", desc := "(I)I" } : Jvm.MethodName)) ∈ gT := gTs_5 _ (List.mem_of_getElem? (i := 13) rfl)
theorem kw_214 : (Jvm.Cond.selects "OwnerLedger" ({ cls := "OwnerLedger", name := "reverse", desc := "(I)I" } : Jvm.MethodName) ({ cls := "OwnerLedger", name := "reverse", desc := "(I)I" } : Jvm.MethodName)) ∈ gT := gTs_5 _ (List.mem_of_getElem? (i := 14) rfl)
theorem kw_215 : (Jvm.Cond.code ({ cls := "OwnerLedger", name := "reverse", desc := "(I)I" } : Jvm.MethodName) prog_1_method_10_code (4 : Nat) (Option.some Jvm.ClassFile.FieldType.int)) ∈ gT := gTs_5 _ (List.mem_of_getElem? (i := 15) rfl)
theorem kw_216 : (Jvm.Cond.methodLink "OwnerLedger" (148 : Nat) ({ cls := "OwnerLedger$Batch", name := "copyOpposites", desc := "(LOwnerLedger$Batch;)V" } : Jvm.MethodName)) ∈ gT := gTs_5 _ (List.mem_of_getElem? (i := 16) rfl)
theorem kw_217 : (Jvm.Cond.instanceMethod ({ cls := "OwnerLedger$Batch", name := "copyOpposites", desc := "(LOwnerLedger$Batch;)V" } : Jvm.MethodName)) ∈ gT := gTs_5 _ (List.mem_of_getElem? (i := 17) rfl)
theorem kw_218 : (Jvm.Cond.selects "OwnerLedger$Batch" ({ cls := "OwnerLedger$Batch", name := "copyOpposites", desc := "(LOwnerLedger$Batch;)V" } : Jvm.MethodName) ({ cls := "OwnerLedger$Batch", name := "copyOpposites", desc := "(LOwnerLedger$Batch;)V" } : Jvm.MethodName)) ∈ gT := gTs_5 _ (List.mem_of_getElem? (i := 18) rfl)
theorem kw_219 : (Jvm.Cond.code ({ cls := "OwnerLedger$Batch", name := "copyOpposites", desc := "(LOwnerLedger$Batch;)V" } : Jvm.MethodName) prog_2_method_3_code (4 : Nat) (Option.none : Option Jvm.ClassFile.FieldType)) ∈ gT := gTs_5 _ (List.mem_of_getElem? (i := 19) rfl)
theorem kw_220 : (Jvm.Cond.methodLink "OwnerLedger$Batch" (41 : Nat) ({ cls := "OwnerLedger$Row", name := "<init>", desc := "(IIJ)V" } : Jvm.MethodName)) ∈ gT := gTs_5 _ (List.mem_of_getElem? (i := 20) rfl)
theorem kw_221 : (Jvm.Cond.methodLink "OwnerLedgerLaw" (140 : Nat) ({ cls := "OwnerLedgerLaw", name := "balance", desc := "(LOwnerLedger;II[J)I" } : Jvm.MethodName)) ∈ gT := gTs_5 _ (List.mem_of_getElem? (i := 21) rfl)
theorem kw_222 : (Jvm.Cond.static ({ cls := "OwnerLedgerLaw", name := "balance", desc := "(LOwnerLedger;II[J)I" } : Jvm.MethodName)) ∈ gT := gTs_5 _ (List.mem_of_getElem? (i := 22) rfl)
theorem kw_223 : (Jvm.Cond.codeWith ({ cls := "OwnerLedgerLaw", name := "balance", desc := "(LOwnerLedger;II[J)I" } : Jvm.MethodName) method_12_code (5 : Nat) (Option.some Jvm.ClassFile.FieldType.int) [((0 : Nat), (9 : Nat), (12 : Nat), (19 : Nat)), ((0 : Nat), (9 : Nat), (16 : Nat), (21 : Nat))]) ∈ gT := gTs_5 _ (List.mem_of_getElem? (i := 23) rfl)
theorem kw_224 : (Jvm.Cond.methodLink "OwnerLedgerLaw" (50 : Nat) ({ cls := "OwnerLedger", name := "balance", desc := "(II)J" } : Jvm.MethodName)) ∈ gT := gTs_5 _ (List.mem_of_getElem? (i := 24) rfl)
theorem kw_225 : (Jvm.Cond.instanceMethod ({ cls := "OwnerLedger", name := "balance", desc := "(II)J" } : Jvm.MethodName)) ∈ gT := gTs_5 _ (List.mem_of_getElem? (i := 25) rfl)
theorem kw_226 : (Jvm.Cond.selects "OwnerLedger" ({ cls := "OwnerLedger", name := "balance", desc := "(II)J" } : Jvm.MethodName) ({ cls := "OwnerLedger", name := "balance", desc := "(II)J" } : Jvm.MethodName)) ∈ gT := gTs_5 _ (List.mem_of_getElem? (i := 26) rfl)
theorem kw_227 : (Jvm.Cond.code ({ cls := "OwnerLedger", name := "balance", desc := "(II)J" } : Jvm.MethodName) prog_1_method_11_code (9 : Nat) (Option.some Jvm.ClassFile.FieldType.long)) ∈ gT := gTs_5 _ (List.mem_of_getElem? (i := 27) rfl)
theorem kw_228 : (Jvm.Cond.methodLink "OwnerLedger" (151 : Nat) ({ cls := "OwnerLedger$Batch", name := "sumOfAccount", desc := "(I)J" } : Jvm.MethodName)) ∈ gT := gTs_5 _ (List.mem_of_getElem? (i := 28) rfl)
theorem kw_229 : (Jvm.Cond.instanceMethod ({ cls := "OwnerLedger$Batch", name := "sumOfAccount", desc := "(I)J" } : Jvm.MethodName)) ∈ gT := gTs_5 _ (List.mem_of_getElem? (i := 29) rfl)
theorem kw_230 : (Jvm.Cond.selects "OwnerLedger$Batch" ({ cls := "OwnerLedger$Batch", name := "sumOfAccount", desc := "(I)J" } : Jvm.MethodName) ({ cls := "OwnerLedger$Batch", name := "sumOfAccount", desc := "(I)J" } : Jvm.MethodName)) ∈ gT := gTs_5 _ (List.mem_of_getElem? (i := 30) rfl)
theorem kw_231 : (Jvm.Cond.code ({ cls := "OwnerLedger$Batch", name := "sumOfAccount", desc := "(I)J" } : Jvm.MethodName) prog_2_method_7_code (8 : Nat) (Option.some Jvm.ClassFile.FieldType.long)) ∈ gT := gTs_5 _ (List.mem_of_getElem? (i := 31) rfl)
theorem kw_232 : (Jvm.Cond.methodLink "OwnerLedgerLaw" (143 : Nat) ({ cls := "OwnerLedgerLaw", name := "all", desc := "(LOwnerLedger;I[J)I" } : Jvm.MethodName)) ∈ gT := gTs_5 _ (List.mem_of_getElem? (i := 32) rfl)
theorem kw_233 : (Jvm.Cond.static ({ cls := "OwnerLedgerLaw", name := "all", desc := "(LOwnerLedger;I[J)I" } : Jvm.MethodName)) ∈ gT := gTs_5 _ (List.mem_of_getElem? (i := 33) rfl)
theorem kw_234 : (Jvm.Cond.codeWith ({ cls := "OwnerLedgerLaw", name := "all", desc := "(LOwnerLedger;I[J)I" } : Jvm.MethodName) method_13_code (4 : Nat) (Option.some Jvm.ClassFile.FieldType.int) [((0 : Nat), (8 : Nat), (11 : Nat), (21 : Nat))]) ∈ gT := gTs_5 _ (List.mem_of_getElem? (i := 34) rfl)
theorem kw_235 : (Jvm.Cond.methodLink "OwnerLedgerLaw" (54 : Nat) ({ cls := "OwnerLedger", name := "all", desc := "(I)J" } : Jvm.MethodName)) ∈ gT := gTs_5 _ (List.mem_of_getElem? (i := 35) rfl)
theorem kw_236 : (Jvm.Cond.instanceMethod ({ cls := "OwnerLedger", name := "all", desc := "(I)J" } : Jvm.MethodName)) ∈ gT := gTs_5 _ (List.mem_of_getElem? (i := 36) rfl)
theorem kw_237 : (Jvm.Cond.selects "OwnerLedger" ({ cls := "OwnerLedger", name := "all", desc := "(I)J" } : Jvm.MethodName) ({ cls := "OwnerLedger", name := "all", desc := "(I)J" } : Jvm.MethodName)) ∈ gT := gTs_5 _ (List.mem_of_getElem? (i := 37) rfl)
theorem kw_238 : (Jvm.Cond.code ({ cls := "OwnerLedger", name := "all", desc := "(I)J" } : Jvm.MethodName) prog_1_method_12_code (8 : Nat) (Option.some Jvm.ClassFile.FieldType.long)) ∈ gT := gTs_5 _ (List.mem_of_getElem? (i := 38) rfl)
theorem kw_239 : (Jvm.Cond.methodLink "OwnerLedger" (155 : Nat) ({ cls := "OwnerLedger$Batch", name := "sumOfCurrency", desc := "(I)J" } : Jvm.MethodName)) ∈ gT := gTs_5 _ (List.mem_of_getElem? (i := 39) rfl)
theorem kw_240 : (Jvm.Cond.methodLink "OwnerLedgerLaw" (146 : Nat) ({ cls := "OwnerLedgerLaw", name := "invoice", desc := "(LOwnerLedger;IJI[J)I" } : Jvm.MethodName)) ∈ gT := gTs_6 _ (List.mem_of_getElem? (i := 0) rfl)
theorem kw_241 : (Jvm.Cond.static ({ cls := "OwnerLedgerLaw", name := "invoice", desc := "(LOwnerLedger;IJI[J)I" } : Jvm.MethodName)) ∈ gT := gTs_6 _ (List.mem_of_getElem? (i := 1) rfl)
theorem kw_242 : (Jvm.Cond.codeWith ({ cls := "OwnerLedgerLaw", name := "invoice", desc := "(LOwnerLedger;IJI[J)I" } : Jvm.MethodName) method_14_code (7 : Nat) (Option.some Jvm.ClassFile.FieldType.int) [((0 : Nat), (13 : Nat), (16 : Nat), (19 : Nat)), ((0 : Nat), (13 : Nat), (20 : Nat), (21 : Nat)), ((0 : Nat), (13 : Nat), (24 : Nat), (31 : Nat)), ((0 : Nat), (13 : Nat), (28 : Nat), (13 : Nat))]) ∈ gT := gTs_6 _ (List.mem_of_getElem? (i := 2) rfl)
theorem kw_243 : (Jvm.Cond.methodLink "OwnerLedgerLaw" (58 : Nat) ({ cls := "OwnerLedger", name := "invoice", desc := "(IJI)I" } : Jvm.MethodName)) ∈ gT := gTs_6 _ (List.mem_of_getElem? (i := 3) rfl)
theorem kw_244 : (Jvm.Cond.instanceMethod ({ cls := "OwnerLedger", name := "invoice", desc := "(IJI)I" } : Jvm.MethodName)) ∈ gT := gTs_6 _ (List.mem_of_getElem? (i := 4) rfl)
theorem kw_245 : (Jvm.Cond.selects "OwnerLedger" ({ cls := "OwnerLedger", name := "invoice", desc := "(IJI)I" } : Jvm.MethodName) ({ cls := "OwnerLedger", name := "invoice", desc := "(IJI)I" } : Jvm.MethodName)) ∈ gT := gTs_6 _ (List.mem_of_getElem? (i := 5) rfl)
theorem kw_246 : (Jvm.Cond.code ({ cls := "OwnerLedger", name := "invoice", desc := "(IJI)I" } : Jvm.MethodName) prog_1_method_13_code (7 : Nat) (Option.some Jvm.ClassFile.FieldType.int)) ∈ gT := gTs_6 _ (List.mem_of_getElem? (i := 6) rfl)
theorem kw_247 : (Jvm.Cond.instantiable "OwnerLedger$Invoice" (5 : Nat)) ∈ gT := gTs_6 _ (List.mem_of_getElem? (i := 7) rfl)
theorem kw_248 : (Jvm.Cond.methodLink "OwnerLedger" (166 : Nat) ({ cls := "OwnerLedger$Invoice", name := "<init>", desc := "(IJI)V" } : Jvm.MethodName)) ∈ gT := gTs_6 _ (List.mem_of_getElem? (i := 8) rfl)
theorem kw_249 : (Jvm.Cond.instanceMethod ({ cls := "OwnerLedger$Invoice", name := "<init>", desc := "(IJI)V" } : Jvm.MethodName)) ∈ gT := gTs_6 _ (List.mem_of_getElem? (i := 9) rfl)
theorem kw_250 : (Jvm.Cond.code ({ cls := "OwnerLedger$Invoice", name := "<init>", desc := "(IJI)V" } : Jvm.MethodName) prog_3_method_1_code (5 : Nat) (Option.none : Option Jvm.ClassFile.FieldType)) ∈ gT := gTs_6 _ (List.mem_of_getElem? (i := 10) rfl)
theorem kw_251 : (Jvm.Cond.methodLink "OwnerLedger$Invoice" (1 : Nat) ({ cls := "java/lang/Object", name := "<init>", desc := "()V" } : Jvm.MethodName)) ∈ gT := gTs_6 _ (List.mem_of_getElem? (i := 11) rfl)
theorem kw_252 : (Jvm.Cond.fieldLink "OwnerLedger$Invoice" (7 : Nat) "OwnerLedger$Invoice" "owner" "I") ∈ gT := gTs_6 _ (List.mem_of_getElem? (i := 12) rfl)
theorem kw_253 : (Jvm.Cond.fieldLink "OwnerLedger" (187 : Nat) "OwnerLedger$Invoice" "owner" "I") ∈ gT := gTs_6 _ (List.mem_of_getElem? (i := 13) rfl)
theorem kw_254 : (Jvm.Cond.fieldLink "OwnerLedger$Invoice" (17 : Nat) "OwnerLedger$Invoice" "dueMonth" "I") ∈ gT := gTs_6 _ (List.mem_of_getElem? (i := 14) rfl)
theorem kw_255 : (Jvm.Cond.fieldLink "OwnerLedger" (229 : Nat) "OwnerLedger$Invoice" "dueMonth" "I") ∈ gT := gTs_6 _ (List.mem_of_getElem? (i := 15) rfl)
theorem kw_256 : (Jvm.Cond.fieldLink "OwnerLedger$Invoice" (13 : Nat) "OwnerLedger$Invoice" "open" "J") ∈ gT := gTs_6 _ (List.mem_of_getElem? (i := 16) rfl)
theorem kw_257 : (Jvm.Cond.fieldLink "OwnerLedger" (181 : Nat) "OwnerLedger$Invoice" "open" "J") ∈ gT := gTs_6 _ (List.mem_of_getElem? (i := 17) rfl)
theorem kw_258 : (Jvm.Cond.fieldLink "OwnerLedger" (201 : Nat) "OwnerLedger$Invoice" "stage" "I") ∈ gT := gTs_6 _ (List.mem_of_getElem? (i := 18) rfl)
theorem kw_259 : (Jvm.Cond.fieldLink "OwnerLedger$Invoice" (26 : Nat) "OwnerLedger$Invoice" "disputed" "Z") ∈ gT := gTs_6 _ (List.mem_of_getElem? (i := 19) rfl)
theorem kw_260 : (Jvm.Cond.fieldLink "OwnerLedger" (190 : Nat) "OwnerLedger$Invoice" "disputed" "Z") ∈ gT := gTs_6 _ (List.mem_of_getElem? (i := 20) rfl)
theorem kw_261 : (Jvm.Cond.methodLink "OwnerLedger" (173 : Nat) ({ cls := "OwnerLedger$Invoice", name := "takeFrom", desc := "(J)J" } : Jvm.MethodName)) ∈ gT := gTs_6 _ (List.mem_of_getElem? (i := 21) rfl)
theorem kw_262 : (Jvm.Cond.instanceMethod ({ cls := "OwnerLedger$Invoice", name := "takeFrom", desc := "(J)J" } : Jvm.MethodName)) ∈ gT := gTs_6 _ (List.mem_of_getElem? (i := 22) rfl)
theorem kw_263 : (Jvm.Cond.selects "OwnerLedger$Invoice" ({ cls := "OwnerLedger$Invoice", name := "takeFrom", desc := "(J)J" } : Jvm.MethodName) ({ cls := "OwnerLedger$Invoice", name := "takeFrom", desc := "(J)J" } : Jvm.MethodName)) ∈ gT := gTs_6 _ (List.mem_of_getElem? (i := 23) rfl)
theorem kw_264 : (Jvm.Cond.code ({ cls := "OwnerLedger$Invoice", name := "takeFrom", desc := "(J)J" } : Jvm.MethodName) prog_3_method_2_code (5 : Nat) (Option.some Jvm.ClassFile.FieldType.long)) ∈ gT := gTs_6 _ (List.mem_of_getElem? (i := 24) rfl)
theorem kw_265 : (Jvm.Cond.methodLink "OwnerLedger$Invoice" (20 : Nat) ({ cls := "java/lang/Math", name := "min", desc := "(JJ)J" } : Jvm.MethodName)) ∈ gT := gTs_6 _ (List.mem_of_getElem? (i := 25) rfl)
theorem kw_266 : (Jvm.Cond.static ({ cls := "java/lang/Math", name := "min", desc := "(JJ)J" } : Jvm.MethodName)) ∈ gT := gTs_6 _ (List.mem_of_getElem? (i := 26) rfl)
theorem kw_267 : (Jvm.Cond.code ({ cls := "java/lang/Math", name := "min", desc := "(JJ)J" } : Jvm.MethodName) prog_11_method_70_code (4 : Nat) (Option.some Jvm.ClassFile.FieldType.long)) ∈ gT := gTs_6 _ (List.mem_of_getElem? (i := 27) rfl)
theorem kw_268 : (Jvm.Cond.methodLink "OwnerLedgerLaw" (150 : Nat) ({ cls := "OwnerLedgerLaw", name := "pay", desc := "(LOwnerLedger;IJ[J)I" } : Jvm.MethodName)) ∈ gT := gTs_6 _ (List.mem_of_getElem? (i := 28) rfl)
theorem kw_269 : (Jvm.Cond.static ({ cls := "OwnerLedgerLaw", name := "pay", desc := "(LOwnerLedger;IJ[J)I" } : Jvm.MethodName)) ∈ gT := gTs_6 _ (List.mem_of_getElem? (i := 29) rfl)
theorem kw_270 : (Jvm.Cond.codeWith ({ cls := "OwnerLedgerLaw", name := "pay", desc := "(LOwnerLedger;IJ[J)I" } : Jvm.MethodName) method_15_code (6 : Nat) (Option.some Jvm.ClassFile.FieldType.int) [((0 : Nat), (11 : Nat), (14 : Nat), (19 : Nat)), ((0 : Nat), (11 : Nat), (18 : Nat), (21 : Nat))]) ∈ gT := gTs_6 _ (List.mem_of_getElem? (i := 30) rfl)
theorem kw_271 : (Jvm.Cond.methodLink "OwnerLedgerLaw" (62 : Nat) ({ cls := "OwnerLedger", name := "pay", desc := "(IJ)I" } : Jvm.MethodName)) ∈ gT := gTs_6 _ (List.mem_of_getElem? (i := 31) rfl)
theorem kw_272 : (Jvm.Cond.instanceMethod ({ cls := "OwnerLedger", name := "pay", desc := "(IJ)I" } : Jvm.MethodName)) ∈ gT := gTs_6 _ (List.mem_of_getElem? (i := 32) rfl)
theorem kw_273 : (Jvm.Cond.selects "OwnerLedger" ({ cls := "OwnerLedger", name := "pay", desc := "(IJ)I" } : Jvm.MethodName) ({ cls := "OwnerLedger", name := "pay", desc := "(IJ)I" } : Jvm.MethodName)) ∈ gT := gTs_6 _ (List.mem_of_getElem? (i := 33) rfl)
theorem kw_274 : (Jvm.Cond.code ({ cls := "OwnerLedger", name := "pay", desc := "(IJ)I" } : Jvm.MethodName) prog_1_method_14_code (10 : Nat) (Option.some Jvm.ClassFile.FieldType.int)) ∈ gT := gTs_6 _ (List.mem_of_getElem? (i := 34) rfl)
theorem kw_275 : (Jvm.Cond.methodLink "OwnerLedger" (177 : Nat) ({ cls := "OwnerLedger", name := "firstToPay", desc := "(I)LOwnerLedger$Invoice;" } : Jvm.MethodName)) ∈ gT := gTs_6 _ (List.mem_of_getElem? (i := 35) rfl)
theorem kw_276 : (Jvm.Cond.instanceMethod ({ cls := "OwnerLedger", name := "firstToPay", desc := "(I)LOwnerLedger$Invoice;" } : Jvm.MethodName)) ∈ gT := gTs_6 _ (List.mem_of_getElem? (i := 36) rfl)
theorem kw_277 : (Jvm.Cond.code ({ cls := "OwnerLedger", name := "firstToPay", desc := "(I)LOwnerLedger$Invoice;" } : Jvm.MethodName) prog_1_method_34_code (7 : Nat) (Option.some (Jvm.ClassFile.FieldType.object "OwnerLedger$Invoice"))) ∈ gT := gTs_6 _ (List.mem_of_getElem? (i := 37) rfl)
theorem kw_278 : (Jvm.Cond.methodLink "OwnerLedgerLaw" (154 : Nat) ({ cls := "OwnerLedgerLaw", name := "settle", desc := "(LOwnerLedger;IJ[J)I" } : Jvm.MethodName)) ∈ gT := gTs_6 _ (List.mem_of_getElem? (i := 38) rfl)
theorem kw_279 : (Jvm.Cond.static ({ cls := "OwnerLedgerLaw", name := "settle", desc := "(LOwnerLedger;IJ[J)I" } : Jvm.MethodName)) ∈ gT := gTs_6 _ (List.mem_of_getElem? (i := 39) rfl)
theorem kw_280 : (Jvm.Cond.codeWith ({ cls := "OwnerLedgerLaw", name := "settle", desc := "(LOwnerLedger;IJ[J)I" } : Jvm.MethodName) method_16_code (6 : Nat) (Option.some Jvm.ClassFile.FieldType.int) [((0 : Nat), (10 : Nat), (13 : Nat), (19 : Nat)), ((0 : Nat), (10 : Nat), (17 : Nat), (21 : Nat))]) ∈ gT := gTs_7 _ (List.mem_of_getElem? (i := 0) rfl)
theorem kw_281 : (Jvm.Cond.methodLink "OwnerLedgerLaw" (66 : Nat) ({ cls := "OwnerLedger", name := "settle", desc := "(IJ)J" } : Jvm.MethodName)) ∈ gT := gTs_7 _ (List.mem_of_getElem? (i := 1) rfl)
theorem kw_282 : (Jvm.Cond.instanceMethod ({ cls := "OwnerLedger", name := "settle", desc := "(IJ)J" } : Jvm.MethodName)) ∈ gT := gTs_7 _ (List.mem_of_getElem? (i := 2) rfl)
theorem kw_283 : (Jvm.Cond.selects "OwnerLedger" ({ cls := "OwnerLedger", name := "settle", desc := "(IJ)J" } : Jvm.MethodName) ({ cls := "OwnerLedger", name := "settle", desc := "(IJ)J" } : Jvm.MethodName)) ∈ gT := gTs_7 _ (List.mem_of_getElem? (i := 3) rfl)
theorem kw_284 : (Jvm.Cond.code ({ cls := "OwnerLedger", name := "settle", desc := "(IJ)J" } : Jvm.MethodName) prog_1_method_15_code (6 : Nat) (Option.some Jvm.ClassFile.FieldType.long)) ∈ gT := gTs_7 _ (List.mem_of_getElem? (i := 4) rfl)
theorem kw_285 : (Jvm.Cond.methodLink "OwnerLedger" (184 : Nat) ({ cls := "OwnerLedger", name := "findInvoice", desc := "(I)LOwnerLedger$Invoice;" } : Jvm.MethodName)) ∈ gT := gTs_7 _ (List.mem_of_getElem? (i := 5) rfl)
theorem kw_286 : (Jvm.Cond.instanceMethod ({ cls := "OwnerLedger", name := "findInvoice", desc := "(I)LOwnerLedger$Invoice;" } : Jvm.MethodName)) ∈ gT := gTs_7 _ (List.mem_of_getElem? (i := 6) rfl)
theorem kw_287 : (Jvm.Cond.code ({ cls := "OwnerLedger", name := "findInvoice", desc := "(I)LOwnerLedger$Invoice;" } : Jvm.MethodName) prog_1_method_32_code (3 : Nat) (Option.some (Jvm.ClassFile.FieldType.object "OwnerLedger$Invoice"))) ∈ gT := gTs_7 _ (List.mem_of_getElem? (i := 7) rfl)
theorem kw_288 : (Jvm.Cond.methodLink "OwnerLedgerLaw" (157 : Nat) ({ cls := "OwnerLedgerLaw", name := "dispute", desc := "(LOwnerLedger;IZ[J)I" } : Jvm.MethodName)) ∈ gT := gTs_7 _ (List.mem_of_getElem? (i := 8) rfl)
theorem kw_289 : (Jvm.Cond.static ({ cls := "OwnerLedgerLaw", name := "dispute", desc := "(LOwnerLedger;IZ[J)I" } : Jvm.MethodName)) ∈ gT := gTs_7 _ (List.mem_of_getElem? (i := 9) rfl)
theorem kw_290 : (Jvm.Cond.codeWith ({ cls := "OwnerLedgerLaw", name := "dispute", desc := "(LOwnerLedger;IZ[J)I" } : Jvm.MethodName) method_17_code (5 : Nat) (Option.some Jvm.ClassFile.FieldType.int) [((0 : Nat), (9 : Nat), (12 : Nat), (19 : Nat)), ((0 : Nat), (9 : Nat), (16 : Nat), (31 : Nat))]) ∈ gT := gTs_7 _ (List.mem_of_getElem? (i := 10) rfl)
theorem kw_291 : (Jvm.Cond.methodLink "OwnerLedgerLaw" (70 : Nat) ({ cls := "OwnerLedger", name := "dispute", desc := "(IZ)J" } : Jvm.MethodName)) ∈ gT := gTs_7 _ (List.mem_of_getElem? (i := 11) rfl)
theorem kw_292 : (Jvm.Cond.instanceMethod ({ cls := "OwnerLedger", name := "dispute", desc := "(IZ)J" } : Jvm.MethodName)) ∈ gT := gTs_7 _ (List.mem_of_getElem? (i := 12) rfl)
theorem kw_293 : (Jvm.Cond.selects "OwnerLedger" ({ cls := "OwnerLedger", name := "dispute", desc := "(IZ)J" } : Jvm.MethodName) ({ cls := "OwnerLedger", name := "dispute", desc := "(IZ)J" } : Jvm.MethodName)) ∈ gT := gTs_7 _ (List.mem_of_getElem? (i := 13) rfl)
theorem kw_294 : (Jvm.Cond.code ({ cls := "OwnerLedger", name := "dispute", desc := "(IZ)J" } : Jvm.MethodName) prog_1_method_16_code (4 : Nat) (Option.some Jvm.ClassFile.FieldType.long)) ∈ gT := gTs_7 _ (List.mem_of_getElem? (i := 14) rfl)
theorem kw_295 : (Jvm.Cond.methodLink "OwnerLedgerLaw" (161 : Nat) ({ cls := "OwnerLedgerLaw", name := "dun", desc := "(LOwnerLedger;I[J)I" } : Jvm.MethodName)) ∈ gT := gTs_7 _ (List.mem_of_getElem? (i := 15) rfl)
theorem kw_296 : (Jvm.Cond.static ({ cls := "OwnerLedgerLaw", name := "dun", desc := "(LOwnerLedger;I[J)I" } : Jvm.MethodName)) ∈ gT := gTs_7 _ (List.mem_of_getElem? (i := 16) rfl)
theorem kw_297 : (Jvm.Cond.codeWith ({ cls := "OwnerLedgerLaw", name := "dun", desc := "(LOwnerLedger;I[J)I" } : Jvm.MethodName) method_18_code (4 : Nat) (Option.some Jvm.ClassFile.FieldType.int) [((0 : Nat), (9 : Nat), (12 : Nat), (19 : Nat)), ((0 : Nat), (9 : Nat), (15 : Nat), (31 : Nat))]) ∈ gT := gTs_7 _ (List.mem_of_getElem? (i := 17) rfl)
theorem kw_298 : (Jvm.Cond.methodLink "OwnerLedgerLaw" (74 : Nat) ({ cls := "OwnerLedger", name := "dun", desc := "(I)I" } : Jvm.MethodName)) ∈ gT := gTs_7 _ (List.mem_of_getElem? (i := 18) rfl)
theorem kw_299 : (Jvm.Cond.instanceMethod ({ cls := "OwnerLedger", name := "dun", desc := "(I)I" } : Jvm.MethodName)) ∈ gT := gTs_7 _ (List.mem_of_getElem? (i := 19) rfl)
theorem kw_300 : (Jvm.Cond.selects "OwnerLedger" ({ cls := "OwnerLedger", name := "dun", desc := "(I)I" } : Jvm.MethodName) ({ cls := "OwnerLedger", name := "dun", desc := "(I)I" } : Jvm.MethodName)) ∈ gT := gTs_7 _ (List.mem_of_getElem? (i := 20) rfl)
theorem kw_301 : (Jvm.Cond.code ({ cls := "OwnerLedger", name := "dun", desc := "(I)I" } : Jvm.MethodName) prog_1_method_17_code (3 : Nat) (Option.some Jvm.ClassFile.FieldType.int)) ∈ gT := gTs_7 _ (List.mem_of_getElem? (i := 21) rfl)
theorem kw_302 : (Jvm.Cond.methodLink "OwnerLedger" (195 : Nat) ({ cls := "OwnerLedger$Invoice", name := "isOverdue", desc := "(I)Z" } : Jvm.MethodName)) ∈ gT := gTs_7 _ (List.mem_of_getElem? (i := 22) rfl)
theorem kw_303 : (Jvm.Cond.instanceMethod ({ cls := "OwnerLedger$Invoice", name := "isOverdue", desc := "(I)Z" } : Jvm.MethodName)) ∈ gT := gTs_7 _ (List.mem_of_getElem? (i := 23) rfl)
theorem kw_304 : (Jvm.Cond.selects "OwnerLedger$Invoice" ({ cls := "OwnerLedger$Invoice", name := "isOverdue", desc := "(I)Z" } : Jvm.MethodName) ({ cls := "OwnerLedger$Invoice", name := "isOverdue", desc := "(I)Z" } : Jvm.MethodName)) ∈ gT := gTs_7 _ (List.mem_of_getElem? (i := 24) rfl)
theorem kw_305 : (Jvm.Cond.code ({ cls := "OwnerLedger$Invoice", name := "isOverdue", desc := "(I)Z" } : Jvm.MethodName) prog_3_method_3_code (2 : Nat) (Option.some Jvm.ClassFile.FieldType.boolean)) ∈ gT := gTs_7 _ (List.mem_of_getElem? (i := 25) rfl)
theorem kw_306 : (Jvm.Cond.methodLink "OwnerLedgerLaw" (164 : Nat) ({ cls := "OwnerLedgerLaw", name := "rate", desc := "(LOwnerLedger;I)I" } : Jvm.MethodName)) ∈ gT := gTs_7 _ (List.mem_of_getElem? (i := 26) rfl)
theorem kw_307 : (Jvm.Cond.static ({ cls := "OwnerLedgerLaw", name := "rate", desc := "(LOwnerLedger;I)I" } : Jvm.MethodName)) ∈ gT := gTs_7 _ (List.mem_of_getElem? (i := 27) rfl)
theorem kw_308 : (Jvm.Cond.codeWith ({ cls := "OwnerLedgerLaw", name := "rate", desc := "(LOwnerLedger;I)I" } : Jvm.MethodName) method_19_code (3 : Nat) (Option.some Jvm.ClassFile.FieldType.int) [((0 : Nat), (5 : Nat), (8 : Nat), (21 : Nat))]) ∈ gT := gTs_7 _ (List.mem_of_getElem? (i := 28) rfl)
theorem kw_309 : (Jvm.Cond.methodLink "OwnerLedgerLaw" (77 : Nat) ({ cls := "OwnerLedger", name := "rate", desc := "(I)V" } : Jvm.MethodName)) ∈ gT := gTs_7 _ (List.mem_of_getElem? (i := 29) rfl)
theorem kw_310 : (Jvm.Cond.instanceMethod ({ cls := "OwnerLedger", name := "rate", desc := "(I)V" } : Jvm.MethodName)) ∈ gT := gTs_7 _ (List.mem_of_getElem? (i := 30) rfl)
theorem kw_311 : (Jvm.Cond.selects "OwnerLedger" ({ cls := "OwnerLedger", name := "rate", desc := "(I)V" } : Jvm.MethodName) ({ cls := "OwnerLedger", name := "rate", desc := "(I)V" } : Jvm.MethodName)) ∈ gT := gTs_7 _ (List.mem_of_getElem? (i := 31) rfl)
theorem kw_312 : (Jvm.Cond.code ({ cls := "OwnerLedger", name := "rate", desc := "(I)V" } : Jvm.MethodName) prog_1_method_18_code (2 : Nat) (Option.none : Option Jvm.ClassFile.FieldType)) ∈ gT := gTs_7 _ (List.mem_of_getElem? (i := 32) rfl)
theorem kw_313 : (Jvm.Cond.constantLong "OwnerLedger" (206 : Nat) (100 : Int64)) ∈ gT := gTs_7 _ (List.mem_of_getElem? (i := 33) rfl)
theorem kw_314 : (Jvm.Cond.methodLink "OwnerLedgerLaw" (167 : Nat) ({ cls := "OwnerLedgerLaw", name := "interest", desc := "(LOwnerLedger;II[J)I" } : Jvm.MethodName)) ∈ gT := gTs_7 _ (List.mem_of_getElem? (i := 34) rfl)
theorem kw_315 : (Jvm.Cond.static ({ cls := "OwnerLedgerLaw", name := "interest", desc := "(LOwnerLedger;II[J)I" } : Jvm.MethodName)) ∈ gT := gTs_7 _ (List.mem_of_getElem? (i := 35) rfl)
theorem kw_316 : (Jvm.Cond.codeWith ({ cls := "OwnerLedgerLaw", name := "interest", desc := "(LOwnerLedger;II[J)I" } : Jvm.MethodName) method_20_code (5 : Nat) (Option.some Jvm.ClassFile.FieldType.int) [((0 : Nat), (9 : Nat), (12 : Nat), (19 : Nat)), ((0 : Nat), (9 : Nat), (16 : Nat), (21 : Nat))]) ∈ gT := gTs_7 _ (List.mem_of_getElem? (i := 36) rfl)
theorem kw_317 : (Jvm.Cond.methodLink "OwnerLedgerLaw" (80 : Nat) ({ cls := "OwnerLedger", name := "interest", desc := "(II)J" } : Jvm.MethodName)) ∈ gT := gTs_7 _ (List.mem_of_getElem? (i := 37) rfl)
theorem kw_318 : (Jvm.Cond.instanceMethod ({ cls := "OwnerLedger", name := "interest", desc := "(II)J" } : Jvm.MethodName)) ∈ gT := gTs_7 _ (List.mem_of_getElem? (i := 38) rfl)
theorem kw_319 : (Jvm.Cond.selects "OwnerLedger" ({ cls := "OwnerLedger", name := "interest", desc := "(II)J" } : Jvm.MethodName) ({ cls := "OwnerLedger", name := "interest", desc := "(II)J" } : Jvm.MethodName)) ∈ gT := gTs_7 _ (List.mem_of_getElem? (i := 39) rfl)
theorem kw_320 : (Jvm.Cond.code ({ cls := "OwnerLedger", name := "interest", desc := "(II)J" } : Jvm.MethodName) prog_1_method_19_code (8 : Nat) (Option.some Jvm.ClassFile.FieldType.long)) ∈ gT := gTs_8 _ (List.mem_of_getElem? (i := 0) rfl)
theorem kw_321 : (Jvm.Cond.methodLink "OwnerLedger" (211 : Nat) ({ cls := "OwnerLedger$Invoice", name := "monthsOverdue", desc := "(I)I" } : Jvm.MethodName)) ∈ gT := gTs_8 _ (List.mem_of_getElem? (i := 1) rfl)
theorem kw_322 : (Jvm.Cond.instanceMethod ({ cls := "OwnerLedger$Invoice", name := "monthsOverdue", desc := "(I)I" } : Jvm.MethodName)) ∈ gT := gTs_8 _ (List.mem_of_getElem? (i := 2) rfl)
theorem kw_323 : (Jvm.Cond.selects "OwnerLedger$Invoice" ({ cls := "OwnerLedger$Invoice", name := "monthsOverdue", desc := "(I)I" } : Jvm.MethodName) ({ cls := "OwnerLedger$Invoice", name := "monthsOverdue", desc := "(I)I" } : Jvm.MethodName)) ∈ gT := gTs_8 _ (List.mem_of_getElem? (i := 3) rfl)
theorem kw_324 : (Jvm.Cond.code ({ cls := "OwnerLedger$Invoice", name := "monthsOverdue", desc := "(I)I" } : Jvm.MethodName) prog_3_method_4_code (2 : Nat) (Option.some Jvm.ClassFile.FieldType.int)) ∈ gT := gTs_8 _ (List.mem_of_getElem? (i := 4) rfl)
theorem kw_325 : (Jvm.Cond.methodLink "OwnerLedger$Invoice" (30 : Nat) ({ cls := "OwnerLedger$Invoice", name := "isOverdue", desc := "(I)Z" } : Jvm.MethodName)) ∈ gT := gTs_8 _ (List.mem_of_getElem? (i := 5) rfl)
theorem kw_326 : (Jvm.Cond.constantLong "OwnerLedger" (214 : Nat) (1200 : Int64)) ∈ gT := gTs_8 _ (List.mem_of_getElem? (i := 6) rfl)
theorem kw_327 : (Jvm.Cond.methodLink "OwnerLedger" (216 : Nat) ({ cls := "OwnerLedger", name := "commonDivisor", desc := "(JJ)J" } : Jvm.MethodName)) ∈ gT := gTs_8 _ (List.mem_of_getElem? (i := 7) rfl)
theorem kw_328 : (Jvm.Cond.static ({ cls := "OwnerLedger", name := "commonDivisor", desc := "(JJ)J" } : Jvm.MethodName)) ∈ gT := gTs_8 _ (List.mem_of_getElem? (i := 8) rfl)
theorem kw_329 : (Jvm.Cond.code ({ cls := "OwnerLedger", name := "commonDivisor", desc := "(JJ)J" } : Jvm.MethodName) prog_1_method_39_code (11 : Nat) (Option.some Jvm.ClassFile.FieldType.long)) ∈ gT := gTs_8 _ (List.mem_of_getElem? (i := 9) rfl)
theorem kw_330 : (Jvm.Cond.methodLink "OwnerLedger" (270 : Nat) ({ cls := "java/lang/Math", name := "max", desc := "(JJ)J" } : Jvm.MethodName)) ∈ gT := gTs_8 _ (List.mem_of_getElem? (i := 10) rfl)
theorem kw_331 : (Jvm.Cond.static ({ cls := "java/lang/Math", name := "max", desc := "(JJ)J" } : Jvm.MethodName)) ∈ gT := gTs_8 _ (List.mem_of_getElem? (i := 11) rfl)
theorem kw_332 : (Jvm.Cond.code ({ cls := "java/lang/Math", name := "max", desc := "(JJ)J" } : Jvm.MethodName) prog_11_method_66_code (4 : Nat) (Option.some Jvm.ClassFile.FieldType.long)) ∈ gT := gTs_8 _ (List.mem_of_getElem? (i := 12) rfl)
theorem kw_333 : (Jvm.Cond.methodLink "OwnerLedgerLaw" (170 : Nat) ({ cls := "OwnerLedgerLaw", name := "hold", desc := "(LOwnerLedger;IZ[J)I" } : Jvm.MethodName)) ∈ gT := gTs_8 _ (List.mem_of_getElem? (i := 13) rfl)
theorem kw_334 : (Jvm.Cond.static ({ cls := "OwnerLedgerLaw", name := "hold", desc := "(LOwnerLedger;IZ[J)I" } : Jvm.MethodName)) ∈ gT := gTs_8 _ (List.mem_of_getElem? (i := 14) rfl)
theorem kw_335 : (Jvm.Cond.codeWith ({ cls := "OwnerLedgerLaw", name := "hold", desc := "(LOwnerLedger;IZ[J)I" } : Jvm.MethodName) method_21_code (5 : Nat) (Option.some Jvm.ClassFile.FieldType.int) [((0 : Nat), (10 : Nat), (13 : Nat), (19 : Nat)), ((0 : Nat), (10 : Nat), (17 : Nat), (31 : Nat))]) ∈ gT := gTs_8 _ (List.mem_of_getElem? (i := 15) rfl)
theorem kw_336 : (Jvm.Cond.methodLink "OwnerLedgerLaw" (83 : Nat) ({ cls := "OwnerLedger", name := "hold", desc := "(IZ)I" } : Jvm.MethodName)) ∈ gT := gTs_8 _ (List.mem_of_getElem? (i := 16) rfl)
theorem kw_337 : (Jvm.Cond.instanceMethod ({ cls := "OwnerLedger", name := "hold", desc := "(IZ)I" } : Jvm.MethodName)) ∈ gT := gTs_8 _ (List.mem_of_getElem? (i := 17) rfl)
theorem kw_338 : (Jvm.Cond.selects "OwnerLedger" ({ cls := "OwnerLedger", name := "hold", desc := "(IZ)I" } : Jvm.MethodName) ({ cls := "OwnerLedger", name := "hold", desc := "(IZ)I" } : Jvm.MethodName)) ∈ gT := gTs_8 _ (List.mem_of_getElem? (i := 18) rfl)
theorem kw_339 : (Jvm.Cond.code ({ cls := "OwnerLedger", name := "hold", desc := "(IZ)I" } : Jvm.MethodName) prog_1_method_20_code (4 : Nat) (Option.some Jvm.ClassFile.FieldType.int)) ∈ gT := gTs_8 _ (List.mem_of_getElem? (i := 19) rfl)
theorem kw_340 : (Jvm.Cond.methodLink "OwnerLedger" (222 : Nat) ({ cls := "OwnerLedger", name := "overdueInvoicesOf", desc := "(I)I" } : Jvm.MethodName)) ∈ gT := gTs_8 _ (List.mem_of_getElem? (i := 20) rfl)
theorem kw_341 : (Jvm.Cond.instanceMethod ({ cls := "OwnerLedger", name := "overdueInvoicesOf", desc := "(I)I" } : Jvm.MethodName)) ∈ gT := gTs_8 _ (List.mem_of_getElem? (i := 21) rfl)
theorem kw_342 : (Jvm.Cond.code ({ cls := "OwnerLedger", name := "overdueInvoicesOf", desc := "(I)I" } : Jvm.MethodName) prog_1_method_35_code (7 : Nat) (Option.some Jvm.ClassFile.FieldType.int)) ∈ gT := gTs_8 _ (List.mem_of_getElem? (i := 22) rfl)
theorem kw_343 : (Jvm.Cond.methodLink "OwnerLedgerLaw" (173 : Nat) ({ cls := "OwnerLedgerLaw", name := "told", desc := "(LOwnerLedger;II[J)I" } : Jvm.MethodName)) ∈ gT := gTs_8 _ (List.mem_of_getElem? (i := 23) rfl)
theorem kw_344 : (Jvm.Cond.static ({ cls := "OwnerLedgerLaw", name := "told", desc := "(LOwnerLedger;II[J)I" } : Jvm.MethodName)) ∈ gT := gTs_8 _ (List.mem_of_getElem? (i := 24) rfl)
theorem kw_345 : (Jvm.Cond.codeWith ({ cls := "OwnerLedgerLaw", name := "told", desc := "(LOwnerLedger;II[J)I" } : Jvm.MethodName) method_22_code (5 : Nat) (Option.some Jvm.ClassFile.FieldType.int) [((0 : Nat), (10 : Nat), (13 : Nat), (19 : Nat)), ((0 : Nat), (10 : Nat), (17 : Nat), (21 : Nat))]) ∈ gT := gTs_8 _ (List.mem_of_getElem? (i := 25) rfl)
theorem kw_346 : (Jvm.Cond.methodLink "OwnerLedgerLaw" (87 : Nat) ({ cls := "OwnerLedger", name := "told", desc := "(II)I" } : Jvm.MethodName)) ∈ gT := gTs_8 _ (List.mem_of_getElem? (i := 26) rfl)
theorem kw_347 : (Jvm.Cond.instanceMethod ({ cls := "OwnerLedger", name := "told", desc := "(II)I" } : Jvm.MethodName)) ∈ gT := gTs_8 _ (List.mem_of_getElem? (i := 27) rfl)
theorem kw_348 : (Jvm.Cond.selects "OwnerLedger" ({ cls := "OwnerLedger", name := "told", desc := "(II)I" } : Jvm.MethodName) ({ cls := "OwnerLedger", name := "told", desc := "(II)I" } : Jvm.MethodName)) ∈ gT := gTs_8 _ (List.mem_of_getElem? (i := 28) rfl)
theorem kw_349 : (Jvm.Cond.code ({ cls := "OwnerLedger", name := "told", desc := "(II)I" } : Jvm.MethodName) prog_1_method_21_code (4 : Nat) (Option.some Jvm.ClassFile.FieldType.int)) ∈ gT := gTs_8 _ (List.mem_of_getElem? (i := 29) rfl)
theorem kw_350 : (Jvm.Cond.constantLong "OwnerLedger" (225 : Nat) (4 : Int64)) ∈ gT := gTs_8 _ (List.mem_of_getElem? (i := 30) rfl)
theorem kw_351 : (Jvm.Cond.methodLink "OwnerLedgerLaw" (176 : Nat) ({ cls := "OwnerLedgerLaw", name := "known", desc := "(LOwnerLedger;II[J)I" } : Jvm.MethodName)) ∈ gT := gTs_8 _ (List.mem_of_getElem? (i := 31) rfl)
theorem kw_352 : (Jvm.Cond.static ({ cls := "OwnerLedgerLaw", name := "known", desc := "(LOwnerLedger;II[J)I" } : Jvm.MethodName)) ∈ gT := gTs_8 _ (List.mem_of_getElem? (i := 32) rfl)
theorem kw_353 : (Jvm.Cond.codeWith ({ cls := "OwnerLedgerLaw", name := "known", desc := "(LOwnerLedger;II[J)I" } : Jvm.MethodName) method_23_code (5 : Nat) (Option.some Jvm.ClassFile.FieldType.int) [((0 : Nat), (9 : Nat), (12 : Nat), (19 : Nat)), ((0 : Nat), (9 : Nat), (16 : Nat), (21 : Nat))]) ∈ gT := gTs_8 _ (List.mem_of_getElem? (i := 33) rfl)
theorem kw_354 : (Jvm.Cond.methodLink "OwnerLedgerLaw" (90 : Nat) ({ cls := "OwnerLedger", name := "known", desc := "(II)J" } : Jvm.MethodName)) ∈ gT := gTs_8 _ (List.mem_of_getElem? (i := 34) rfl)
theorem kw_355 : (Jvm.Cond.instanceMethod ({ cls := "OwnerLedger", name := "known", desc := "(II)J" } : Jvm.MethodName)) ∈ gT := gTs_8 _ (List.mem_of_getElem? (i := 35) rfl)
theorem kw_356 : (Jvm.Cond.selects "OwnerLedger" ({ cls := "OwnerLedger", name := "known", desc := "(II)J" } : Jvm.MethodName) ({ cls := "OwnerLedger", name := "known", desc := "(II)J" } : Jvm.MethodName)) ∈ gT := gTs_8 _ (List.mem_of_getElem? (i := 36) rfl)
theorem kw_357 : (Jvm.Cond.code ({ cls := "OwnerLedger", name := "known", desc := "(II)J" } : Jvm.MethodName) prog_1_method_22_code (4 : Nat) (Option.some Jvm.ClassFile.FieldType.long)) ∈ gT := gTs_8 _ (List.mem_of_getElem? (i := 37) rfl)
theorem kw_358 : (Jvm.Cond.constantLong "OwnerLedger" (227 : Nat) (5 : Int64)) ∈ gT := gTs_8 _ (List.mem_of_getElem? (i := 38) rfl)
theorem kw_359 : (Jvm.Cond.methodLink "OwnerLedgerLaw" (179 : Nat) ({ cls := "OwnerLedgerLaw", name := "credit", desc := "(LOwnerLedger;I[J)I" } : Jvm.MethodName)) ∈ gT := gTs_8 _ (List.mem_of_getElem? (i := 39) rfl)
theorem kw_360 : (Jvm.Cond.static ({ cls := "OwnerLedgerLaw", name := "credit", desc := "(LOwnerLedger;I[J)I" } : Jvm.MethodName)) ∈ gT := gTs_9 _ (List.mem_of_getElem? (i := 0) rfl)
theorem kw_361 : (Jvm.Cond.codeWith ({ cls := "OwnerLedgerLaw", name := "credit", desc := "(LOwnerLedger;I[J)I" } : Jvm.MethodName) method_24_code (4 : Nat) (Option.some Jvm.ClassFile.FieldType.int) [((0 : Nat), (8 : Nat), (11 : Nat), (19 : Nat))]) ∈ gT := gTs_9 _ (List.mem_of_getElem? (i := 1) rfl)
theorem kw_362 : (Jvm.Cond.methodLink "OwnerLedgerLaw" (93 : Nat) ({ cls := "OwnerLedger", name := "credit", desc := "(I)J" } : Jvm.MethodName)) ∈ gT := gTs_9 _ (List.mem_of_getElem? (i := 2) rfl)
theorem kw_363 : (Jvm.Cond.instanceMethod ({ cls := "OwnerLedger", name := "credit", desc := "(I)J" } : Jvm.MethodName)) ∈ gT := gTs_9 _ (List.mem_of_getElem? (i := 3) rfl)
theorem kw_364 : (Jvm.Cond.selects "OwnerLedger" ({ cls := "OwnerLedger", name := "credit", desc := "(I)J" } : Jvm.MethodName) ({ cls := "OwnerLedger", name := "credit", desc := "(I)J" } : Jvm.MethodName)) ∈ gT := gTs_9 _ (List.mem_of_getElem? (i := 4) rfl)
theorem kw_365 : (Jvm.Cond.code ({ cls := "OwnerLedger", name := "credit", desc := "(I)J" } : Jvm.MethodName) prog_1_method_23_code (2 : Nat) (Option.some Jvm.ClassFile.FieldType.long)) ∈ gT := gTs_9 _ (List.mem_of_getElem? (i := 5) rfl)
theorem kw_366 : (Jvm.Cond.classLink "OwnerLedgerLaw" (97 : Nat) "OwnerLedgerModel") ∈ gT := gTs_9 _ (List.mem_of_getElem? (i := 6) rfl)
theorem kw_367 : (Jvm.Cond.instantiable "OwnerLedgerModel" (24 : Nat)) ∈ gT := gTs_9 _ (List.mem_of_getElem? (i := 7) rfl)
theorem kw_368 : (Jvm.Cond.methodLink "OwnerLedgerLaw" (99 : Nat) ({ cls := "OwnerLedgerModel", name := "<init>", desc := "()V" } : Jvm.MethodName)) ∈ gT := gTs_9 _ (List.mem_of_getElem? (i := 8) rfl)
theorem kw_369 : (Jvm.Cond.instanceMethod ({ cls := "OwnerLedgerModel", name := "<init>", desc := "()V" } : Jvm.MethodName)) ∈ gT := gTs_9 _ (List.mem_of_getElem? (i := 9) rfl)
theorem kw_370 : (Jvm.Cond.code ({ cls := "OwnerLedgerModel", name := "<init>", desc := "()V" } : Jvm.MethodName) prog_7_method_1_code (1 : Nat) (Option.none : Option Jvm.ClassFile.FieldType)) ∈ gT := gTs_9 _ (List.mem_of_getElem? (i := 10) rfl)
theorem kw_371 : (Jvm.Cond.methodLink "OwnerLedgerModel" (1 : Nat) ({ cls := "java/lang/Object", name := "<init>", desc := "()V" } : Jvm.MethodName)) ∈ gT := gTs_9 _ (List.mem_of_getElem? (i := 11) rfl)
theorem kw_372 : (Jvm.Cond.fieldLink "OwnerLedgerModel" (7 : Nat) "OwnerLedgerModel" "thrownCode" "I") ∈ gT := gTs_9 _ (List.mem_of_getElem? (i := 12) rfl)
theorem kw_373 : (Jvm.Cond.fieldLink "OwnerLedgerModel" (13 : Nat) "OwnerLedgerModel" "now" "I") ∈ gT := gTs_9 _ (List.mem_of_getElem? (i := 13) rfl)
theorem kw_374 : (Jvm.Cond.fieldLink "OwnerLedgerModel" (16 : Nat) "OwnerLedgerModel" "closed" "I") ∈ gT := gTs_9 _ (List.mem_of_getElem? (i := 14) rfl)
theorem kw_375 : (Jvm.Cond.fieldLink "OwnerLedgerModel" (19 : Nat) "OwnerLedgerModel" "owners" "I") ∈ gT := gTs_9 _ (List.mem_of_getElem? (i := 15) rfl)
theorem kw_376 : (Jvm.Cond.fieldLink "OwnerLedgerModel" (22 : Nat) "OwnerLedgerModel" "held" "[Z") ∈ gT := gTs_9 _ (List.mem_of_getElem? (i := 16) rfl)
theorem kw_377 : (Jvm.Cond.fieldLink "OwnerLedgerModel" (26 : Nat) "OwnerLedgerModel" "credits" "[J") ∈ gT := gTs_9 _ (List.mem_of_getElem? (i := 17) rfl)
theorem kw_378 : (Jvm.Cond.fieldLink "OwnerLedgerModel" (30 : Nat) "OwnerLedgerModel" "accounts" "I") ∈ gT := gTs_9 _ (List.mem_of_getElem? (i := 18) rfl)
theorem kw_379 : (Jvm.Cond.fieldLink "OwnerLedgerModel" (33 : Nat) "OwnerLedgerModel" "currency" "[I") ∈ gT := gTs_9 _ (List.mem_of_getElem? (i := 19) rfl)
theorem kw_380 : (Jvm.Cond.fieldLink "OwnerLedgerModel" (37 : Nat) "OwnerLedgerModel" "batches" "I") ∈ gT := gTs_9 _ (List.mem_of_getElem? (i := 20) rfl)
theorem kw_381 : (Jvm.Cond.fieldLink "OwnerLedgerModel" (40 : Nat) "OwnerLedgerModel" "state" "[I") ∈ gT := gTs_9 _ (List.mem_of_getElem? (i := 21) rfl)
theorem kw_382 : (Jvm.Cond.fieldLink "OwnerLedgerModel" (43 : Nat) "OwnerLedgerModel" "monthOf" "[I") ∈ gT := gTs_9 _ (List.mem_of_getElem? (i := 22) rfl)
theorem kw_383 : (Jvm.Cond.fieldLink "OwnerLedgerModel" (46 : Nat) "OwnerLedgerModel" "rows" "[I") ∈ gT := gTs_9 _ (List.mem_of_getElem? (i := 23) rfl)
theorem kw_384 : (Jvm.Cond.fieldLink "OwnerLedgerModel" (49 : Nat) "OwnerLedgerModel" "reversedBy" "[I") ∈ gT := gTs_9 _ (List.mem_of_getElem? (i := 24) rfl)
theorem kw_385 : (Jvm.Cond.fieldLink "OwnerLedgerModel" (52 : Nat) "OwnerLedgerModel" "reverses" "[I") ∈ gT := gTs_9 _ (List.mem_of_getElem? (i := 25) rfl)
theorem kw_386 : (Jvm.Cond.fieldLink "OwnerLedgerModel" (55 : Nat) "OwnerLedgerModel" "rowAccount" "[I") ∈ gT := gTs_9 _ (List.mem_of_getElem? (i := 26) rfl)
theorem kw_387 : (Jvm.Cond.fieldLink "OwnerLedgerModel" (58 : Nat) "OwnerLedgerModel" "rowCents" "[J") ∈ gT := gTs_9 _ (List.mem_of_getElem? (i := 27) rfl)
theorem kw_388 : (Jvm.Cond.fieldLink "OwnerLedgerModel" (61 : Nat) "OwnerLedgerModel" "rowBreaks" "[Z") ∈ gT := gTs_9 _ (List.mem_of_getElem? (i := 28) rfl)
theorem kw_389 : (Jvm.Cond.fieldLink "OwnerLedgerModel" (64 : Nat) "OwnerLedgerModel" "invoices" "I") ∈ gT := gTs_9 _ (List.mem_of_getElem? (i := 29) rfl)
theorem kw_390 : (Jvm.Cond.fieldLink "OwnerLedgerModel" (67 : Nat) "OwnerLedgerModel" "ownerOf" "[I") ∈ gT := gTs_9 _ (List.mem_of_getElem? (i := 30) rfl)
theorem kw_391 : (Jvm.Cond.fieldLink "OwnerLedgerModel" (70 : Nat) "OwnerLedgerModel" "open" "[J") ∈ gT := gTs_9 _ (List.mem_of_getElem? (i := 31) rfl)
theorem kw_392 : (Jvm.Cond.fieldLink "OwnerLedgerModel" (73 : Nat) "OwnerLedgerModel" "due" "[I") ∈ gT := gTs_9 _ (List.mem_of_getElem? (i := 32) rfl)
theorem kw_393 : (Jvm.Cond.fieldLink "OwnerLedgerModel" (76 : Nat) "OwnerLedgerModel" "stage" "[I") ∈ gT := gTs_9 _ (List.mem_of_getElem? (i := 33) rfl)
theorem kw_394 : (Jvm.Cond.fieldLink "OwnerLedgerModel" (79 : Nat) "OwnerLedgerModel" "disputed" "[Z") ∈ gT := gTs_9 _ (List.mem_of_getElem? (i := 34) rfl)
theorem kw_395 : (Jvm.Cond.fieldLink "OwnerLedgerModel" (82 : Nat) "OwnerLedgerModel" "percent" "I") ∈ gT := gTs_9 _ (List.mem_of_getElem? (i := 35) rfl)
theorem kw_396 : (Jvm.Cond.arrayClass Jvm.ClassFile.FieldType.boolean) ∈ gT := gTs_9 _ (List.mem_of_getElem? (i := 36) rfl)
theorem kw_397 : (Jvm.Cond.arrayClass Jvm.ClassFile.FieldType.long) ∈ gT := gTs_9 _ (List.mem_of_getElem? (i := 37) rfl)
theorem kw_398 : (Jvm.Cond.methodLink "OwnerLedgerLaw" (106 : Nat) ({ cls := "OwnerLedgerModel", name := "thrown", desc := "()I" } : Jvm.MethodName)) ∈ gT := gTs_9 _ (List.mem_of_getElem? (i := 38) rfl)
theorem kw_399 : (Jvm.Cond.instanceMethod ({ cls := "OwnerLedgerModel", name := "thrown", desc := "()I" } : Jvm.MethodName)) ∈ gT := gTs_9 _ (List.mem_of_getElem? (i := 39) rfl)
theorem kw_400 : (Jvm.Cond.selects "OwnerLedgerModel" ({ cls := "OwnerLedgerModel", name := "thrown", desc := "()I" } : Jvm.MethodName) ({ cls := "OwnerLedgerModel", name := "thrown", desc := "()I" } : Jvm.MethodName)) ∈ gT := gTs_10 _ (List.mem_of_getElem? (i := 0) rfl)
theorem kw_401 : (Jvm.Cond.code ({ cls := "OwnerLedgerModel", name := "thrown", desc := "()I" } : Jvm.MethodName) prog_7_method_11_code (1 : Nat) (Option.some Jvm.ClassFile.FieldType.int)) ∈ gT := gTs_10 _ (List.mem_of_getElem? (i := 1) rfl)
theorem kw_402 : (Jvm.Cond.methodLink "OwnerLedgerLaw" (105 : Nat) ({ cls := "OwnerLedgerModel", name := "owner", desc := "()I" } : Jvm.MethodName)) ∈ gT := gTs_10 _ (List.mem_of_getElem? (i := 2) rfl)
theorem kw_403 : (Jvm.Cond.instanceMethod ({ cls := "OwnerLedgerModel", name := "owner", desc := "()I" } : Jvm.MethodName)) ∈ gT := gTs_10 _ (List.mem_of_getElem? (i := 3) rfl)
theorem kw_404 : (Jvm.Cond.selects "OwnerLedgerModel" ({ cls := "OwnerLedgerModel", name := "owner", desc := "()I" } : Jvm.MethodName) ({ cls := "OwnerLedgerModel", name := "owner", desc := "()I" } : Jvm.MethodName)) ∈ gT := gTs_10 _ (List.mem_of_getElem? (i := 4) rfl)
theorem kw_405 : (Jvm.Cond.code ({ cls := "OwnerLedgerModel", name := "owner", desc := "()I" } : Jvm.MethodName) prog_7_method_12_code (1 : Nat) (Option.some Jvm.ClassFile.FieldType.int)) ∈ gT := gTs_10 _ (List.mem_of_getElem? (i := 5) rfl)
theorem kw_406 : (Jvm.Cond.methodLink "OwnerLedgerLaw" (112 : Nat) ({ cls := "OwnerLedgerModel", name := "account", desc := "(II)I" } : Jvm.MethodName)) ∈ gT := gTs_10 _ (List.mem_of_getElem? (i := 6) rfl)
theorem kw_407 : (Jvm.Cond.instanceMethod ({ cls := "OwnerLedgerModel", name := "account", desc := "(II)I" } : Jvm.MethodName)) ∈ gT := gTs_10 _ (List.mem_of_getElem? (i := 7) rfl)
theorem kw_408 : (Jvm.Cond.selects "OwnerLedgerModel" ({ cls := "OwnerLedgerModel", name := "account", desc := "(II)I" } : Jvm.MethodName) ({ cls := "OwnerLedgerModel", name := "account", desc := "(II)I" } : Jvm.MethodName)) ∈ gT := gTs_10 _ (List.mem_of_getElem? (i := 8) rfl)
theorem kw_409 : (Jvm.Cond.code ({ cls := "OwnerLedgerModel", name := "account", desc := "(II)I" } : Jvm.MethodName) prog_7_method_13_code (3 : Nat) (Option.some Jvm.ClassFile.FieldType.int)) ∈ gT := gTs_10 _ (List.mem_of_getElem? (i := 9) rfl)
theorem kw_410 : (Jvm.Cond.methodLink "OwnerLedgerModel" (89 : Nat) ({ cls := "OwnerLedgerModel", name := "noOwner", desc := "(I)Z" } : Jvm.MethodName)) ∈ gT := gTs_10 _ (List.mem_of_getElem? (i := 10) rfl)
theorem kw_411 : (Jvm.Cond.instanceMethod ({ cls := "OwnerLedgerModel", name := "noOwner", desc := "(I)Z" } : Jvm.MethodName)) ∈ gT := gTs_10 _ (List.mem_of_getElem? (i := 11) rfl)
theorem kw_412 : (Jvm.Cond.code ({ cls := "OwnerLedgerModel", name := "noOwner", desc := "(I)Z" } : Jvm.MethodName) prog_7_method_3_code (2 : Nat) (Option.some Jvm.ClassFile.FieldType.boolean)) ∈ gT := gTs_10 _ (List.mem_of_getElem? (i := 12) rfl)
theorem kw_413 : (Jvm.Cond.constantLong "OwnerLedgerModel" (92 : Nat) (2 : Int64)) ∈ gT := gTs_10 _ (List.mem_of_getElem? (i := 13) rfl)
theorem kw_414 : (Jvm.Cond.methodLink "OwnerLedgerModel" (94 : Nat) ({ cls := "OwnerLedgerModel", name := "not", desc := "(JJJ)Z" } : Jvm.MethodName)) ∈ gT := gTs_10 _ (List.mem_of_getElem? (i := 14) rfl)
theorem kw_415 : (Jvm.Cond.static ({ cls := "OwnerLedgerModel", name := "not", desc := "(JJJ)Z" } : Jvm.MethodName)) ∈ gT := gTs_10 _ (List.mem_of_getElem? (i := 15) rfl)
theorem kw_416 : (Jvm.Cond.code ({ cls := "OwnerLedgerModel", name := "not", desc := "(JJJ)Z" } : Jvm.MethodName) prog_7_method_2_code (6 : Nat) (Option.some Jvm.ClassFile.FieldType.boolean)) ∈ gT := gTs_10 _ (List.mem_of_getElem? (i := 16) rfl)
theorem kw_417 : (Jvm.Cond.methodLink "OwnerLedgerLaw" (116 : Nat) ({ cls := "OwnerLedgerModel", name := "month", desc := "(I)V" } : Jvm.MethodName)) ∈ gT := gTs_10 _ (List.mem_of_getElem? (i := 17) rfl)
theorem kw_418 : (Jvm.Cond.instanceMethod ({ cls := "OwnerLedgerModel", name := "month", desc := "(I)V" } : Jvm.MethodName)) ∈ gT := gTs_10 _ (List.mem_of_getElem? (i := 18) rfl)
theorem kw_419 : (Jvm.Cond.selects "OwnerLedgerModel" ({ cls := "OwnerLedgerModel", name := "month", desc := "(I)V" } : Jvm.MethodName) ({ cls := "OwnerLedgerModel", name := "month", desc := "(I)V" } : Jvm.MethodName)) ∈ gT := gTs_10 _ (List.mem_of_getElem? (i := 19) rfl)
theorem kw_420 : (Jvm.Cond.code ({ cls := "OwnerLedgerModel", name := "month", desc := "(I)V" } : Jvm.MethodName) prog_7_method_14_code (2 : Nat) (Option.none : Option Jvm.ClassFile.FieldType)) ∈ gT := gTs_10 _ (List.mem_of_getElem? (i := 20) rfl)
theorem kw_421 : (Jvm.Cond.methodLink "OwnerLedgerLaw" (120 : Nat) ({ cls := "OwnerLedgerModel", name := "close", desc := "(I)I" } : Jvm.MethodName)) ∈ gT := gTs_10 _ (List.mem_of_getElem? (i := 21) rfl)
theorem kw_422 : (Jvm.Cond.instanceMethod ({ cls := "OwnerLedgerModel", name := "close", desc := "(I)I" } : Jvm.MethodName)) ∈ gT := gTs_10 _ (List.mem_of_getElem? (i := 22) rfl)
theorem kw_423 : (Jvm.Cond.selects "OwnerLedgerModel" ({ cls := "OwnerLedgerModel", name := "close", desc := "(I)I" } : Jvm.MethodName) ({ cls := "OwnerLedgerModel", name := "close", desc := "(I)I" } : Jvm.MethodName)) ∈ gT := gTs_10 _ (List.mem_of_getElem? (i := 23) rfl)
theorem kw_424 : (Jvm.Cond.code ({ cls := "OwnerLedgerModel", name := "close", desc := "(I)I" } : Jvm.MethodName) prog_7_method_15_code (3 : Nat) (Option.some Jvm.ClassFile.FieldType.int)) ∈ gT := gTs_10 _ (List.mem_of_getElem? (i := 24) rfl)
theorem kw_425 : (Jvm.Cond.methodLink "OwnerLedgerLaw" (123 : Nat) ({ cls := "OwnerLedgerModel", name := "batch", desc := "(I)I" } : Jvm.MethodName)) ∈ gT := gTs_10 _ (List.mem_of_getElem? (i := 25) rfl)
theorem kw_426 : (Jvm.Cond.instanceMethod ({ cls := "OwnerLedgerModel", name := "batch", desc := "(I)I" } : Jvm.MethodName)) ∈ gT := gTs_10 _ (List.mem_of_getElem? (i := 26) rfl)
theorem kw_427 : (Jvm.Cond.selects "OwnerLedgerModel" ({ cls := "OwnerLedgerModel", name := "batch", desc := "(I)I" } : Jvm.MethodName) ({ cls := "OwnerLedgerModel", name := "batch", desc := "(I)I" } : Jvm.MethodName)) ∈ gT := gTs_10 _ (List.mem_of_getElem? (i := 27) rfl)
theorem kw_428 : (Jvm.Cond.code ({ cls := "OwnerLedgerModel", name := "batch", desc := "(I)I" } : Jvm.MethodName) prog_7_method_16_code (2 : Nat) (Option.some Jvm.ClassFile.FieldType.int)) ∈ gT := gTs_10 _ (List.mem_of_getElem? (i := 28) rfl)
theorem kw_429 : (Jvm.Cond.methodLink "OwnerLedgerModel" (98 : Nat) ({ cls := "OwnerLedgerModel", name := "newBatch", desc := "(I)V" } : Jvm.MethodName)) ∈ gT := gTs_10 _ (List.mem_of_getElem? (i := 29) rfl)
theorem kw_430 : (Jvm.Cond.instanceMethod ({ cls := "OwnerLedgerModel", name := "newBatch", desc := "(I)V" } : Jvm.MethodName)) ∈ gT := gTs_10 _ (List.mem_of_getElem? (i := 30) rfl)
theorem kw_431 : (Jvm.Cond.code ({ cls := "OwnerLedgerModel", name := "newBatch", desc := "(I)V" } : Jvm.MethodName) prog_7_method_9_code (2 : Nat) (Option.none : Option Jvm.ClassFile.FieldType)) ∈ gT := gTs_10 _ (List.mem_of_getElem? (i := 31) rfl)
theorem kw_432 : (Jvm.Cond.methodLink "OwnerLedgerLaw" (129 : Nat) ({ cls := "OwnerLedgerModel", name := "row", desc := "(IIJ)I" } : Jvm.MethodName)) ∈ gT := gTs_10 _ (List.mem_of_getElem? (i := 32) rfl)
theorem kw_433 : (Jvm.Cond.instanceMethod ({ cls := "OwnerLedgerModel", name := "row", desc := "(IIJ)I" } : Jvm.MethodName)) ∈ gT := gTs_10 _ (List.mem_of_getElem? (i := 33) rfl)
theorem kw_434 : (Jvm.Cond.selects "OwnerLedgerModel" ({ cls := "OwnerLedgerModel", name := "row", desc := "(IIJ)I" } : Jvm.MethodName) ({ cls := "OwnerLedgerModel", name := "row", desc := "(IIJ)I" } : Jvm.MethodName)) ∈ gT := gTs_10 _ (List.mem_of_getElem? (i := 34) rfl)
theorem kw_435 : (Jvm.Cond.code ({ cls := "OwnerLedgerModel", name := "row", desc := "(IIJ)I" } : Jvm.MethodName) prog_7_method_17_code (6 : Nat) (Option.some Jvm.ClassFile.FieldType.int)) ∈ gT := gTs_10 _ (List.mem_of_getElem? (i := 35) rfl)
theorem kw_436 : (Jvm.Cond.methodLink "OwnerLedgerModel" (102 : Nat) ({ cls := "OwnerLedgerModel", name := "noBatch", desc := "(I)Z" } : Jvm.MethodName)) ∈ gT := gTs_10 _ (List.mem_of_getElem? (i := 36) rfl)
theorem kw_437 : (Jvm.Cond.instanceMethod ({ cls := "OwnerLedgerModel", name := "noBatch", desc := "(I)Z" } : Jvm.MethodName)) ∈ gT := gTs_10 _ (List.mem_of_getElem? (i := 37) rfl)
theorem kw_438 : (Jvm.Cond.code ({ cls := "OwnerLedgerModel", name := "noBatch", desc := "(I)Z" } : Jvm.MethodName) prog_7_method_4_code (2 : Nat) (Option.some Jvm.ClassFile.FieldType.boolean)) ∈ gT := gTs_10 _ (List.mem_of_getElem? (i := 38) rfl)
theorem kw_439 : (Jvm.Cond.constantLong "OwnerLedgerModel" (105 : Nat) (-1000000000 : Int64)) ∈ gT := gTs_10 _ (List.mem_of_getElem? (i := 39) rfl)
theorem kw_440 : (Jvm.Cond.constantLong "OwnerLedgerModel" (107 : Nat) (1000000000 : Int64)) ∈ gT := gTs_11 _ (List.mem_of_getElem? (i := 0) rfl)
theorem kw_441 : (Jvm.Cond.methodLink "OwnerLedgerLaw" (133 : Nat) ({ cls := "OwnerLedgerModel", name := "breaks", desc := "(IIZ)V" } : Jvm.MethodName)) ∈ gT := gTs_11 _ (List.mem_of_getElem? (i := 1) rfl)
theorem kw_442 : (Jvm.Cond.instanceMethod ({ cls := "OwnerLedgerModel", name := "breaks", desc := "(IIZ)V" } : Jvm.MethodName)) ∈ gT := gTs_11 _ (List.mem_of_getElem? (i := 2) rfl)
theorem kw_443 : (Jvm.Cond.selects "OwnerLedgerModel" ({ cls := "OwnerLedgerModel", name := "breaks", desc := "(IIZ)V" } : Jvm.MethodName) ({ cls := "OwnerLedgerModel", name := "breaks", desc := "(IIZ)V" } : Jvm.MethodName)) ∈ gT := gTs_11 _ (List.mem_of_getElem? (i := 3) rfl)
theorem kw_444 : (Jvm.Cond.code ({ cls := "OwnerLedgerModel", name := "breaks", desc := "(IIZ)V" } : Jvm.MethodName) prog_7_method_18_code (4 : Nat) (Option.none : Option Jvm.ClassFile.FieldType)) ∈ gT := gTs_11 _ (List.mem_of_getElem? (i := 4) rfl)
theorem kw_445 : (Jvm.Cond.methodLink "OwnerLedgerLaw" (136 : Nat) ({ cls := "OwnerLedgerModel", name := "post", desc := "(I)I" } : Jvm.MethodName)) ∈ gT := gTs_11 _ (List.mem_of_getElem? (i := 5) rfl)
theorem kw_446 : (Jvm.Cond.instanceMethod ({ cls := "OwnerLedgerModel", name := "post", desc := "(I)I" } : Jvm.MethodName)) ∈ gT := gTs_11 _ (List.mem_of_getElem? (i := 6) rfl)
theorem kw_447 : (Jvm.Cond.selects "OwnerLedgerModel" ({ cls := "OwnerLedgerModel", name := "post", desc := "(I)I" } : Jvm.MethodName) ({ cls := "OwnerLedgerModel", name := "post", desc := "(I)I" } : Jvm.MethodName)) ∈ gT := gTs_11 _ (List.mem_of_getElem? (i := 7) rfl)
theorem kw_448 : (Jvm.Cond.code ({ cls := "OwnerLedgerModel", name := "post", desc := "(I)I" } : Jvm.MethodName) prog_7_method_19_code (3 : Nat) (Option.some Jvm.ClassFile.FieldType.int)) ∈ gT := gTs_11 _ (List.mem_of_getElem? (i := 8) rfl)
theorem kw_449 : (Jvm.Cond.methodLink "OwnerLedgerModel" (109 : Nat) ({ cls := "OwnerLedgerModel", name := "sumOf", desc := "(II)J" } : Jvm.MethodName)) ∈ gT := gTs_11 _ (List.mem_of_getElem? (i := 9) rfl)
theorem kw_450 : (Jvm.Cond.instanceMethod ({ cls := "OwnerLedgerModel", name := "sumOf", desc := "(II)J" } : Jvm.MethodName)) ∈ gT := gTs_11 _ (List.mem_of_getElem? (i := 10) rfl)
theorem kw_451 : (Jvm.Cond.code ({ cls := "OwnerLedgerModel", name := "sumOf", desc := "(II)J" } : Jvm.MethodName) prog_7_method_8_code (6 : Nat) (Option.some Jvm.ClassFile.FieldType.long)) ∈ gT := gTs_11 _ (List.mem_of_getElem? (i := 11) rfl)
theorem kw_452 : (Jvm.Cond.methodLink "OwnerLedgerLaw" (139 : Nat) ({ cls := "OwnerLedgerModel", name := "reverse", desc := "(I)I" } : Jvm.MethodName)) ∈ gT := gTs_11 _ (List.mem_of_getElem? (i := 12) rfl)
theorem kw_453 : (Jvm.Cond.instanceMethod ({ cls := "OwnerLedgerModel", name := "reverse", desc := "(I)I" } : Jvm.MethodName)) ∈ gT := gTs_11 _ (List.mem_of_getElem? (i := 13) rfl)
theorem kw_454 : (Jvm.Cond.selects "OwnerLedgerModel" ({ cls := "OwnerLedgerModel", name := "reverse", desc := "(I)I" } : Jvm.MethodName) ({ cls := "OwnerLedgerModel", name := "reverse", desc := "(I)I" } : Jvm.MethodName)) ∈ gT := gTs_11 _ (List.mem_of_getElem? (i := 14) rfl)
theorem kw_455 : (Jvm.Cond.code ({ cls := "OwnerLedgerModel", name := "reverse", desc := "(I)I" } : Jvm.MethodName) prog_7_method_20_code (5 : Nat) (Option.some Jvm.ClassFile.FieldType.int)) ∈ gT := gTs_11 _ (List.mem_of_getElem? (i := 15) rfl)
theorem kw_456 : (Jvm.Cond.methodLink "OwnerLedgerLaw" (142 : Nat) ({ cls := "OwnerLedgerModel", name := "balance", desc := "(II)J" } : Jvm.MethodName)) ∈ gT := gTs_11 _ (List.mem_of_getElem? (i := 16) rfl)
theorem kw_457 : (Jvm.Cond.instanceMethod ({ cls := "OwnerLedgerModel", name := "balance", desc := "(II)J" } : Jvm.MethodName)) ∈ gT := gTs_11 _ (List.mem_of_getElem? (i := 17) rfl)
theorem kw_458 : (Jvm.Cond.selects "OwnerLedgerModel" ({ cls := "OwnerLedgerModel", name := "balance", desc := "(II)J" } : Jvm.MethodName) ({ cls := "OwnerLedgerModel", name := "balance", desc := "(II)J" } : Jvm.MethodName)) ∈ gT := gTs_11 _ (List.mem_of_getElem? (i := 18) rfl)
theorem kw_459 : (Jvm.Cond.code ({ cls := "OwnerLedgerModel", name := "balance", desc := "(II)J" } : Jvm.MethodName) prog_7_method_21_code (7 : Nat) (Option.some Jvm.ClassFile.FieldType.long)) ∈ gT := gTs_11 _ (List.mem_of_getElem? (i := 19) rfl)
theorem kw_460 : (Jvm.Cond.constantLong "OwnerLedgerModel" (113 : Nat) (120 : Int64)) ∈ gT := gTs_11 _ (List.mem_of_getElem? (i := 20) rfl)
theorem kw_461 : (Jvm.Cond.methodLink "OwnerLedgerLaw" (145 : Nat) ({ cls := "OwnerLedgerModel", name := "all", desc := "(I)J" } : Jvm.MethodName)) ∈ gT := gTs_11 _ (List.mem_of_getElem? (i := 21) rfl)
theorem kw_462 : (Jvm.Cond.instanceMethod ({ cls := "OwnerLedgerModel", name := "all", desc := "(I)J" } : Jvm.MethodName)) ∈ gT := gTs_11 _ (List.mem_of_getElem? (i := 22) rfl)
theorem kw_463 : (Jvm.Cond.selects "OwnerLedgerModel" ({ cls := "OwnerLedgerModel", name := "all", desc := "(I)J" } : Jvm.MethodName) ({ cls := "OwnerLedgerModel", name := "all", desc := "(I)J" } : Jvm.MethodName)) ∈ gT := gTs_11 _ (List.mem_of_getElem? (i := 23) rfl)
theorem kw_464 : (Jvm.Cond.code ({ cls := "OwnerLedgerModel", name := "all", desc := "(I)J" } : Jvm.MethodName) prog_7_method_22_code (5 : Nat) (Option.some Jvm.ClassFile.FieldType.long)) ∈ gT := gTs_11 _ (List.mem_of_getElem? (i := 24) rfl)
theorem kw_465 : (Jvm.Cond.methodLink "OwnerLedgerLaw" (149 : Nat) ({ cls := "OwnerLedgerModel", name := "invoice", desc := "(IJI)I" } : Jvm.MethodName)) ∈ gT := gTs_11 _ (List.mem_of_getElem? (i := 25) rfl)
theorem kw_466 : (Jvm.Cond.instanceMethod ({ cls := "OwnerLedgerModel", name := "invoice", desc := "(IJI)I" } : Jvm.MethodName)) ∈ gT := gTs_11 _ (List.mem_of_getElem? (i := 26) rfl)
theorem kw_467 : (Jvm.Cond.selects "OwnerLedgerModel" ({ cls := "OwnerLedgerModel", name := "invoice", desc := "(IJI)I" } : Jvm.MethodName) ({ cls := "OwnerLedgerModel", name := "invoice", desc := "(IJI)I" } : Jvm.MethodName)) ∈ gT := gTs_11 _ (List.mem_of_getElem? (i := 27) rfl)
theorem kw_468 : (Jvm.Cond.code ({ cls := "OwnerLedgerModel", name := "invoice", desc := "(IJI)I" } : Jvm.MethodName) prog_7_method_23_code (5 : Nat) (Option.some Jvm.ClassFile.FieldType.int)) ∈ gT := gTs_11 _ (List.mem_of_getElem? (i := 28) rfl)
theorem kw_469 : (Jvm.Cond.methodLink "OwnerLedgerModel" (115 : Nat) ({ cls := "OwnerLedgerModel", name := "meet", desc := "(IJ)J" } : Jvm.MethodName)) ∈ gT := gTs_11 _ (List.mem_of_getElem? (i := 29) rfl)
theorem kw_470 : (Jvm.Cond.instanceMethod ({ cls := "OwnerLedgerModel", name := "meet", desc := "(IJ)J" } : Jvm.MethodName)) ∈ gT := gTs_11 _ (List.mem_of_getElem? (i := 30) rfl)
theorem kw_471 : (Jvm.Cond.code ({ cls := "OwnerLedgerModel", name := "meet", desc := "(IJ)J" } : Jvm.MethodName) prog_7_method_10_code (6 : Nat) (Option.some Jvm.ClassFile.FieldType.long)) ∈ gT := gTs_11 _ (List.mem_of_getElem? (i := 31) rfl)
theorem kw_472 : (Jvm.Cond.methodLink "OwnerLedgerLaw" (153 : Nat) ({ cls := "OwnerLedgerModel", name := "pay", desc := "(IJ)I" } : Jvm.MethodName)) ∈ gT := gTs_11 _ (List.mem_of_getElem? (i := 32) rfl)
theorem kw_473 : (Jvm.Cond.instanceMethod ({ cls := "OwnerLedgerModel", name := "pay", desc := "(IJ)I" } : Jvm.MethodName)) ∈ gT := gTs_11 _ (List.mem_of_getElem? (i := 33) rfl)
theorem kw_474 : (Jvm.Cond.selects "OwnerLedgerModel" ({ cls := "OwnerLedgerModel", name := "pay", desc := "(IJ)I" } : Jvm.MethodName) ({ cls := "OwnerLedgerModel", name := "pay", desc := "(IJ)I" } : Jvm.MethodName)) ∈ gT := gTs_11 _ (List.mem_of_getElem? (i := 34) rfl)
theorem kw_475 : (Jvm.Cond.code ({ cls := "OwnerLedgerModel", name := "pay", desc := "(IJ)I" } : Jvm.MethodName) prog_7_method_24_code (9 : Nat) (Option.some Jvm.ClassFile.FieldType.int)) ∈ gT := gTs_11 _ (List.mem_of_getElem? (i := 35) rfl)
theorem kw_476 : (Jvm.Cond.methodLink "OwnerLedgerLaw" (156 : Nat) ({ cls := "OwnerLedgerModel", name := "settle", desc := "(IJ)J" } : Jvm.MethodName)) ∈ gT := gTs_11 _ (List.mem_of_getElem? (i := 36) rfl)
theorem kw_477 : (Jvm.Cond.instanceMethod ({ cls := "OwnerLedgerModel", name := "settle", desc := "(IJ)J" } : Jvm.MethodName)) ∈ gT := gTs_11 _ (List.mem_of_getElem? (i := 37) rfl)
theorem kw_478 : (Jvm.Cond.selects "OwnerLedgerModel" ({ cls := "OwnerLedgerModel", name := "settle", desc := "(IJ)J" } : Jvm.MethodName) ({ cls := "OwnerLedgerModel", name := "settle", desc := "(IJ)J" } : Jvm.MethodName)) ∈ gT := gTs_11 _ (List.mem_of_getElem? (i := 38) rfl)
theorem kw_479 : (Jvm.Cond.code ({ cls := "OwnerLedgerModel", name := "settle", desc := "(IJ)J" } : Jvm.MethodName) prog_7_method_25_code (5 : Nat) (Option.some Jvm.ClassFile.FieldType.long)) ∈ gT := gTs_11 _ (List.mem_of_getElem? (i := 39) rfl)
theorem kw_480 : (Jvm.Cond.methodLink "OwnerLedgerModel" (119 : Nat) ({ cls := "OwnerLedgerModel", name := "noInvoice", desc := "(I)Z" } : Jvm.MethodName)) ∈ gT := gTs_12 _ (List.mem_of_getElem? (i := 0) rfl)
theorem kw_481 : (Jvm.Cond.instanceMethod ({ cls := "OwnerLedgerModel", name := "noInvoice", desc := "(I)Z" } : Jvm.MethodName)) ∈ gT := gTs_12 _ (List.mem_of_getElem? (i := 1) rfl)
theorem kw_482 : (Jvm.Cond.code ({ cls := "OwnerLedgerModel", name := "noInvoice", desc := "(I)Z" } : Jvm.MethodName) prog_7_method_5_code (2 : Nat) (Option.some Jvm.ClassFile.FieldType.boolean)) ∈ gT := gTs_12 _ (List.mem_of_getElem? (i := 2) rfl)
theorem kw_483 : (Jvm.Cond.methodLink "OwnerLedgerLaw" (160 : Nat) ({ cls := "OwnerLedgerModel", name := "dispute", desc := "(IZ)J" } : Jvm.MethodName)) ∈ gT := gTs_12 _ (List.mem_of_getElem? (i := 3) rfl)
theorem kw_484 : (Jvm.Cond.instanceMethod ({ cls := "OwnerLedgerModel", name := "dispute", desc := "(IZ)J" } : Jvm.MethodName)) ∈ gT := gTs_12 _ (List.mem_of_getElem? (i := 4) rfl)
theorem kw_485 : (Jvm.Cond.selects "OwnerLedgerModel" ({ cls := "OwnerLedgerModel", name := "dispute", desc := "(IZ)J" } : Jvm.MethodName) ({ cls := "OwnerLedgerModel", name := "dispute", desc := "(IZ)J" } : Jvm.MethodName)) ∈ gT := gTs_12 _ (List.mem_of_getElem? (i := 5) rfl)
theorem kw_486 : (Jvm.Cond.code ({ cls := "OwnerLedgerModel", name := "dispute", desc := "(IZ)J" } : Jvm.MethodName) prog_7_method_26_code (3 : Nat) (Option.some Jvm.ClassFile.FieldType.long)) ∈ gT := gTs_12 _ (List.mem_of_getElem? (i := 6) rfl)
theorem kw_487 : (Jvm.Cond.methodLink "OwnerLedgerLaw" (163 : Nat) ({ cls := "OwnerLedgerModel", name := "dun", desc := "(I)I" } : Jvm.MethodName)) ∈ gT := gTs_12 _ (List.mem_of_getElem? (i := 7) rfl)
theorem kw_488 : (Jvm.Cond.instanceMethod ({ cls := "OwnerLedgerModel", name := "dun", desc := "(I)I" } : Jvm.MethodName)) ∈ gT := gTs_12 _ (List.mem_of_getElem? (i := 8) rfl)
theorem kw_489 : (Jvm.Cond.selects "OwnerLedgerModel" ({ cls := "OwnerLedgerModel", name := "dun", desc := "(I)I" } : Jvm.MethodName) ({ cls := "OwnerLedgerModel", name := "dun", desc := "(I)I" } : Jvm.MethodName)) ∈ gT := gTs_12 _ (List.mem_of_getElem? (i := 9) rfl)
theorem kw_490 : (Jvm.Cond.code ({ cls := "OwnerLedgerModel", name := "dun", desc := "(I)I" } : Jvm.MethodName) prog_7_method_27_code (2 : Nat) (Option.some Jvm.ClassFile.FieldType.int)) ∈ gT := gTs_12 _ (List.mem_of_getElem? (i := 10) rfl)
theorem kw_491 : (Jvm.Cond.methodLink "OwnerLedgerModel" (85 : Nat) ({ cls := "OwnerLedgerModel", name := "overdue", desc := "(I)Z" } : Jvm.MethodName)) ∈ gT := gTs_12 _ (List.mem_of_getElem? (i := 11) rfl)
theorem kw_492 : (Jvm.Cond.instanceMethod ({ cls := "OwnerLedgerModel", name := "overdue", desc := "(I)Z" } : Jvm.MethodName)) ∈ gT := gTs_12 _ (List.mem_of_getElem? (i := 12) rfl)
theorem kw_493 : (Jvm.Cond.code ({ cls := "OwnerLedgerModel", name := "overdue", desc := "(I)Z" } : Jvm.MethodName) prog_7_method_6_code (2 : Nat) (Option.some Jvm.ClassFile.FieldType.boolean)) ∈ gT := gTs_12 _ (List.mem_of_getElem? (i := 13) rfl)
theorem kw_494 : (Jvm.Cond.methodLink "OwnerLedgerLaw" (166 : Nat) ({ cls := "OwnerLedgerModel", name := "rate", desc := "(I)V" } : Jvm.MethodName)) ∈ gT := gTs_12 _ (List.mem_of_getElem? (i := 14) rfl)
theorem kw_495 : (Jvm.Cond.instanceMethod ({ cls := "OwnerLedgerModel", name := "rate", desc := "(I)V" } : Jvm.MethodName)) ∈ gT := gTs_12 _ (List.mem_of_getElem? (i := 15) rfl)
theorem kw_496 : (Jvm.Cond.selects "OwnerLedgerModel" ({ cls := "OwnerLedgerModel", name := "rate", desc := "(I)V" } : Jvm.MethodName) ({ cls := "OwnerLedgerModel", name := "rate", desc := "(I)V" } : Jvm.MethodName)) ∈ gT := gTs_12 _ (List.mem_of_getElem? (i := 16) rfl)
theorem kw_497 : (Jvm.Cond.code ({ cls := "OwnerLedgerModel", name := "rate", desc := "(I)V" } : Jvm.MethodName) prog_7_method_28_code (2 : Nat) (Option.none : Option Jvm.ClassFile.FieldType)) ∈ gT := gTs_12 _ (List.mem_of_getElem? (i := 17) rfl)
theorem kw_498 : (Jvm.Cond.constantLong "OwnerLedgerModel" (122 : Nat) (100 : Int64)) ∈ gT := gTs_12 _ (List.mem_of_getElem? (i := 18) rfl)
theorem kw_499 : (Jvm.Cond.methodLink "OwnerLedgerLaw" (169 : Nat) ({ cls := "OwnerLedgerModel", name := "interest", desc := "(II)J" } : Jvm.MethodName)) ∈ gT := gTs_12 _ (List.mem_of_getElem? (i := 19) rfl)
theorem kw_500 : (Jvm.Cond.instanceMethod ({ cls := "OwnerLedgerModel", name := "interest", desc := "(II)J" } : Jvm.MethodName)) ∈ gT := gTs_12 _ (List.mem_of_getElem? (i := 20) rfl)
theorem kw_501 : (Jvm.Cond.selects "OwnerLedgerModel" ({ cls := "OwnerLedgerModel", name := "interest", desc := "(II)J" } : Jvm.MethodName) ({ cls := "OwnerLedgerModel", name := "interest", desc := "(II)J" } : Jvm.MethodName)) ∈ gT := gTs_12 _ (List.mem_of_getElem? (i := 21) rfl)
theorem kw_502 : (Jvm.Cond.code ({ cls := "OwnerLedgerModel", name := "interest", desc := "(II)J" } : Jvm.MethodName) prog_7_method_29_code (11 : Nat) (Option.some Jvm.ClassFile.FieldType.long)) ∈ gT := gTs_12 _ (List.mem_of_getElem? (i := 22) rfl)
theorem kw_503 : (Jvm.Cond.constantLong "OwnerLedgerModel" (124 : Nat) (1200 : Int64)) ∈ gT := gTs_12 _ (List.mem_of_getElem? (i := 23) rfl)
theorem kw_504 : (Jvm.Cond.methodLink "OwnerLedgerLaw" (172 : Nat) ({ cls := "OwnerLedgerModel", name := "hold", desc := "(IZ)I" } : Jvm.MethodName)) ∈ gT := gTs_12 _ (List.mem_of_getElem? (i := 24) rfl)
theorem kw_505 : (Jvm.Cond.instanceMethod ({ cls := "OwnerLedgerModel", name := "hold", desc := "(IZ)I" } : Jvm.MethodName)) ∈ gT := gTs_12 _ (List.mem_of_getElem? (i := 25) rfl)
theorem kw_506 : (Jvm.Cond.selects "OwnerLedgerModel" ({ cls := "OwnerLedgerModel", name := "hold", desc := "(IZ)I" } : Jvm.MethodName) ({ cls := "OwnerLedgerModel", name := "hold", desc := "(IZ)I" } : Jvm.MethodName)) ∈ gT := gTs_12 _ (List.mem_of_getElem? (i := 26) rfl)
theorem kw_507 : (Jvm.Cond.code ({ cls := "OwnerLedgerModel", name := "hold", desc := "(IZ)I" } : Jvm.MethodName) prog_7_method_30_code (3 : Nat) (Option.some Jvm.ClassFile.FieldType.int)) ∈ gT := gTs_12 _ (List.mem_of_getElem? (i := 27) rfl)
theorem kw_508 : (Jvm.Cond.methodLink "OwnerLedgerModel" (126 : Nat) ({ cls := "OwnerLedgerModel", name := "overdues", desc := "(I)I" } : Jvm.MethodName)) ∈ gT := gTs_12 _ (List.mem_of_getElem? (i := 28) rfl)
theorem kw_509 : (Jvm.Cond.instanceMethod ({ cls := "OwnerLedgerModel", name := "overdues", desc := "(I)I" } : Jvm.MethodName)) ∈ gT := gTs_12 _ (List.mem_of_getElem? (i := 29) rfl)
theorem kw_510 : (Jvm.Cond.code ({ cls := "OwnerLedgerModel", name := "overdues", desc := "(I)I" } : Jvm.MethodName) prog_7_method_7_code (4 : Nat) (Option.some Jvm.ClassFile.FieldType.int)) ∈ gT := gTs_12 _ (List.mem_of_getElem? (i := 30) rfl)
theorem kw_511 : (Jvm.Cond.methodLink "OwnerLedgerLaw" (175 : Nat) ({ cls := "OwnerLedgerModel", name := "told", desc := "(II)I" } : Jvm.MethodName)) ∈ gT := gTs_12 _ (List.mem_of_getElem? (i := 31) rfl)
theorem kw_512 : (Jvm.Cond.instanceMethod ({ cls := "OwnerLedgerModel", name := "told", desc := "(II)I" } : Jvm.MethodName)) ∈ gT := gTs_12 _ (List.mem_of_getElem? (i := 32) rfl)
theorem kw_513 : (Jvm.Cond.selects "OwnerLedgerModel" ({ cls := "OwnerLedgerModel", name := "told", desc := "(II)I" } : Jvm.MethodName) ({ cls := "OwnerLedgerModel", name := "told", desc := "(II)I" } : Jvm.MethodName)) ∈ gT := gTs_12 _ (List.mem_of_getElem? (i := 33) rfl)
theorem kw_514 : (Jvm.Cond.code ({ cls := "OwnerLedgerModel", name := "told", desc := "(II)I" } : Jvm.MethodName) prog_7_method_31_code (4 : Nat) (Option.some Jvm.ClassFile.FieldType.int)) ∈ gT := gTs_12 _ (List.mem_of_getElem? (i := 34) rfl)
theorem kw_515 : (Jvm.Cond.constantLong "OwnerLedgerModel" (130 : Nat) (4 : Int64)) ∈ gT := gTs_12 _ (List.mem_of_getElem? (i := 35) rfl)
theorem kw_516 : (Jvm.Cond.methodLink "OwnerLedgerLaw" (178 : Nat) ({ cls := "OwnerLedgerModel", name := "known", desc := "(II)J" } : Jvm.MethodName)) ∈ gT := gTs_12 _ (List.mem_of_getElem? (i := 36) rfl)
theorem kw_517 : (Jvm.Cond.instanceMethod ({ cls := "OwnerLedgerModel", name := "known", desc := "(II)J" } : Jvm.MethodName)) ∈ gT := gTs_12 _ (List.mem_of_getElem? (i := 37) rfl)
theorem kw_518 : (Jvm.Cond.selects "OwnerLedgerModel" ({ cls := "OwnerLedgerModel", name := "known", desc := "(II)J" } : Jvm.MethodName) ({ cls := "OwnerLedgerModel", name := "known", desc := "(II)J" } : Jvm.MethodName)) ∈ gT := gTs_12 _ (List.mem_of_getElem? (i := 38) rfl)
theorem kw_519 : (Jvm.Cond.code ({ cls := "OwnerLedgerModel", name := "known", desc := "(II)J" } : Jvm.MethodName) prog_7_method_32_code (3 : Nat) (Option.some Jvm.ClassFile.FieldType.long)) ∈ gT := gTs_12 _ (List.mem_of_getElem? (i := 39) rfl)
theorem kw_520 : (Jvm.Cond.constantLong "OwnerLedgerModel" (132 : Nat) (5 : Int64)) ∈ gT := gTs_13 _ (List.mem_of_getElem? (i := 0) rfl)
theorem kw_521 : (Jvm.Cond.methodLink "OwnerLedgerLaw" (181 : Nat) ({ cls := "OwnerLedgerModel", name := "credit", desc := "(I)J" } : Jvm.MethodName)) ∈ gT := gTs_13 _ (List.mem_of_getElem? (i := 1) rfl)
theorem kw_522 : (Jvm.Cond.instanceMethod ({ cls := "OwnerLedgerModel", name := "credit", desc := "(I)J" } : Jvm.MethodName)) ∈ gT := gTs_13 _ (List.mem_of_getElem? (i := 2) rfl)
theorem kw_523 : (Jvm.Cond.selects "OwnerLedgerModel" ({ cls := "OwnerLedgerModel", name := "credit", desc := "(I)J" } : Jvm.MethodName) ({ cls := "OwnerLedgerModel", name := "credit", desc := "(I)J" } : Jvm.MethodName)) ∈ gT := gTs_13 _ (List.mem_of_getElem? (i := 3) rfl)
theorem kw_524 : (Jvm.Cond.code ({ cls := "OwnerLedgerModel", name := "credit", desc := "(I)J" } : Jvm.MethodName) prog_7_method_33_code (2 : Nat) (Option.some Jvm.ClassFile.FieldType.long)) ∈ gT := gTs_13 _ (List.mem_of_getElem? (i := 4) rfl)
theorem kw_525 : (Jvm.Cond.methodLink "OwnerLedgerLaw" (185 : Nat) ({ cls := "OwnerLedgerModel", name := "count", desc := "(I)I" } : Jvm.MethodName)) ∈ gT := gTs_13 _ (List.mem_of_getElem? (i := 5) rfl)
theorem kw_526 : (Jvm.Cond.instanceMethod ({ cls := "OwnerLedgerModel", name := "count", desc := "(I)I" } : Jvm.MethodName)) ∈ gT := gTs_13 _ (List.mem_of_getElem? (i := 6) rfl)
theorem kw_527 : (Jvm.Cond.selects "OwnerLedgerModel" ({ cls := "OwnerLedgerModel", name := "count", desc := "(I)I" } : Jvm.MethodName) ({ cls := "OwnerLedgerModel", name := "count", desc := "(I)I" } : Jvm.MethodName)) ∈ gT := gTs_13 _ (List.mem_of_getElem? (i := 7) rfl)
theorem kw_528 : (Jvm.Cond.code ({ cls := "OwnerLedgerModel", name := "count", desc := "(I)I" } : Jvm.MethodName) prog_7_method_34_code (6 : Nat) (Option.some Jvm.ClassFile.FieldType.int)) ∈ gT := gTs_13 _ (List.mem_of_getElem? (i := 8) rfl)
theorem kw_529 : (Jvm.Cond.constantLong "OwnerLedgerLaw" (124 : Nat) (4294967295 : Int64)) ∈ gT := gTs_13 _ (List.mem_of_getElem? (i := 9) rfl)
theorem kw_530 : (Jvm.Cond.selects "OwnerLedger" ({ cls := "OwnerLedger", name := "postedBatches", desc := "()I" } : Jvm.MethodName) ({ cls := "OwnerLedger", name := "postedBatches", desc := "()I" } : Jvm.MethodName)) ∈ gT := gTs_13 _ (List.mem_of_getElem? (i := 10) rfl)
theorem kw_531 : (Jvm.Cond.selects "OwnerLedger" ({ cls := "OwnerLedger", name := "unpaidInvoices", desc := "()I" } : Jvm.MethodName) ({ cls := "OwnerLedger", name := "unpaidInvoices", desc := "()I" } : Jvm.MethodName)) ∈ gT := gTs_13 _ (List.mem_of_getElem? (i := 11) rfl)
theorem kw_532 : (Jvm.Cond.selects "OwnerLedger" ({ cls := "OwnerLedger", name := "heldOwners", desc := "()I" } : Jvm.MethodName) ({ cls := "OwnerLedger", name := "heldOwners", desc := "()I" } : Jvm.MethodName)) ∈ gT := gTs_13 _ (List.mem_of_getElem? (i := 12) rfl)
theorem kw_533 : (Jvm.Cond.selects "OwnerLedger" ({ cls := "OwnerLedger", name := "findOwner", desc := "(I)LOwnerLedger$Owner;" } : Jvm.MethodName) ({ cls := "OwnerLedger", name := "findOwner", desc := "(I)LOwnerLedger$Owner;" } : Jvm.MethodName)) ∈ gT := gTs_13 _ (List.mem_of_getElem? (i := 13) rfl)
theorem kw_534 : (Jvm.Cond.selects "OwnerLedger" ({ cls := "OwnerLedger", name := "keepBatch", desc := "(LOwnerLedger$Batch;)I" } : Jvm.MethodName) ({ cls := "OwnerLedger", name := "keepBatch", desc := "(LOwnerLedger$Batch;)I" } : Jvm.MethodName)) ∈ gT := gTs_13 _ (List.mem_of_getElem? (i := 14) rfl)
theorem kw_535 : (Jvm.Cond.selects "OwnerLedger" ({ cls := "OwnerLedger", name := "findBatch", desc := "(I)LOwnerLedger$Batch;" } : Jvm.MethodName) ({ cls := "OwnerLedger", name := "findBatch", desc := "(I)LOwnerLedger$Batch;" } : Jvm.MethodName)) ∈ gT := gTs_13 _ (List.mem_of_getElem? (i := 15) rfl)
theorem kw_536 : (Jvm.Cond.selects "OwnerLedger" ({ cls := "OwnerLedger", name := "currencyOf", desc := "(I)I" } : Jvm.MethodName) ({ cls := "OwnerLedger", name := "currencyOf", desc := "(I)I" } : Jvm.MethodName)) ∈ gT := gTs_13 _ (List.mem_of_getElem? (i := 16) rfl)
theorem kw_537 : (Jvm.Cond.selects "OwnerLedger" ({ cls := "OwnerLedger", name := "firstToPay", desc := "(I)LOwnerLedger$Invoice;" } : Jvm.MethodName) ({ cls := "OwnerLedger", name := "firstToPay", desc := "(I)LOwnerLedger$Invoice;" } : Jvm.MethodName)) ∈ gT := gTs_13 _ (List.mem_of_getElem? (i := 17) rfl)
theorem kw_538 : (Jvm.Cond.selects "OwnerLedger" ({ cls := "OwnerLedger", name := "findInvoice", desc := "(I)LOwnerLedger$Invoice;" } : Jvm.MethodName) ({ cls := "OwnerLedger", name := "findInvoice", desc := "(I)LOwnerLedger$Invoice;" } : Jvm.MethodName)) ∈ gT := gTs_13 _ (List.mem_of_getElem? (i := 18) rfl)
theorem kw_539 : (Jvm.Cond.selects "OwnerLedger" ({ cls := "OwnerLedger", name := "overdueInvoicesOf", desc := "(I)I" } : Jvm.MethodName) ({ cls := "OwnerLedger", name := "overdueInvoicesOf", desc := "(I)I" } : Jvm.MethodName)) ∈ gT := gTs_13 _ (List.mem_of_getElem? (i := 19) rfl)
theorem kw_540 : (Jvm.Cond.selects "OwnerLedgerModel" ({ cls := "OwnerLedgerModel", name := "noOwner", desc := "(I)Z" } : Jvm.MethodName) ({ cls := "OwnerLedgerModel", name := "noOwner", desc := "(I)Z" } : Jvm.MethodName)) ∈ gT := gTs_13 _ (List.mem_of_getElem? (i := 20) rfl)
theorem kw_541 : (Jvm.Cond.selects "OwnerLedgerModel" ({ cls := "OwnerLedgerModel", name := "newBatch", desc := "(I)V" } : Jvm.MethodName) ({ cls := "OwnerLedgerModel", name := "newBatch", desc := "(I)V" } : Jvm.MethodName)) ∈ gT := gTs_13 _ (List.mem_of_getElem? (i := 21) rfl)
theorem kw_542 : (Jvm.Cond.selects "OwnerLedgerModel" ({ cls := "OwnerLedgerModel", name := "noBatch", desc := "(I)Z" } : Jvm.MethodName) ({ cls := "OwnerLedgerModel", name := "noBatch", desc := "(I)Z" } : Jvm.MethodName)) ∈ gT := gTs_13 _ (List.mem_of_getElem? (i := 22) rfl)
theorem kw_543 : (Jvm.Cond.selects "OwnerLedgerModel" ({ cls := "OwnerLedgerModel", name := "sumOf", desc := "(II)J" } : Jvm.MethodName) ({ cls := "OwnerLedgerModel", name := "sumOf", desc := "(II)J" } : Jvm.MethodName)) ∈ gT := gTs_13 _ (List.mem_of_getElem? (i := 23) rfl)
theorem kw_544 : (Jvm.Cond.selects "OwnerLedgerModel" ({ cls := "OwnerLedgerModel", name := "meet", desc := "(IJ)J" } : Jvm.MethodName) ({ cls := "OwnerLedgerModel", name := "meet", desc := "(IJ)J" } : Jvm.MethodName)) ∈ gT := gTs_13 _ (List.mem_of_getElem? (i := 24) rfl)
theorem kw_545 : (Jvm.Cond.selects "OwnerLedgerModel" ({ cls := "OwnerLedgerModel", name := "noInvoice", desc := "(I)Z" } : Jvm.MethodName) ({ cls := "OwnerLedgerModel", name := "noInvoice", desc := "(I)Z" } : Jvm.MethodName)) ∈ gT := gTs_13 _ (List.mem_of_getElem? (i := 25) rfl)
theorem kw_546 : (Jvm.Cond.selects "OwnerLedgerModel" ({ cls := "OwnerLedgerModel", name := "overdue", desc := "(I)Z" } : Jvm.MethodName) ({ cls := "OwnerLedgerModel", name := "overdue", desc := "(I)Z" } : Jvm.MethodName)) ∈ gT := gTs_13 _ (List.mem_of_getElem? (i := 26) rfl)
theorem kw_547 : (Jvm.Cond.selects "OwnerLedgerModel" ({ cls := "OwnerLedgerModel", name := "overdues", desc := "(I)I" } : Jvm.MethodName) ({ cls := "OwnerLedgerModel", name := "overdues", desc := "(I)I" } : Jvm.MethodName)) ∈ gT := gTs_13 _ (List.mem_of_getElem? (i := 27) rfl)
def wsX4_init : List Cond := (Jvm.Cond.code ({ cls := "OwnerLedger", name := "<init>", desc := "()V" } : Jvm.MethodName) prog_1_method_1_code (1 : Nat) (Option.none : Option Jvm.ClassFile.FieldType)) :: gT
def wsX4_owner : List Cond := (Jvm.Cond.code ({ cls := "OwnerLedger", name := "owner", desc := "()I" } : Jvm.MethodName) prog_1_method_2_code (2 : Nat) (Option.some Jvm.ClassFile.FieldType.int)) :: gT
def wsX4_account : List Cond := (Jvm.Cond.code ({ cls := "OwnerLedger", name := "account", desc := "(II)I" } : Jvm.MethodName) prog_1_method_3_code (4 : Nat) (Option.some Jvm.ClassFile.FieldType.int)) :: gT
def wsX4_month : List Cond := (Jvm.Cond.code ({ cls := "OwnerLedger", name := "month", desc := "(I)V" } : Jvm.MethodName) prog_1_method_4_code (2 : Nat) (Option.none : Option Jvm.ClassFile.FieldType)) :: gT
def wsX4_close : List Cond := (Jvm.Cond.code ({ cls := "OwnerLedger", name := "close", desc := "(I)I" } : Jvm.MethodName) prog_1_method_5_code (3 : Nat) (Option.some Jvm.ClassFile.FieldType.int)) :: gT
def wsX4_batch : List Cond := (Jvm.Cond.code ({ cls := "OwnerLedger", name := "batch", desc := "(I)I" } : Jvm.MethodName) prog_1_method_6_code (2 : Nat) (Option.some Jvm.ClassFile.FieldType.int)) :: gT
def wsX4_row : List Cond := (Jvm.Cond.code ({ cls := "OwnerLedger", name := "row", desc := "(IIJ)I" } : Jvm.MethodName) prog_1_method_7_code (7 : Nat) (Option.some Jvm.ClassFile.FieldType.int)) :: gT
def wsX4_breaks : List Cond := (Jvm.Cond.code ({ cls := "OwnerLedger", name := "breaks", desc := "(IIZ)V" } : Jvm.MethodName) prog_1_method_8_code (6 : Nat) (Option.none : Option Jvm.ClassFile.FieldType)) :: gT
def wsX4_post : List Cond := (Jvm.Cond.code ({ cls := "OwnerLedger", name := "post", desc := "(I)I" } : Jvm.MethodName) prog_1_method_9_code (5 : Nat) (Option.some Jvm.ClassFile.FieldType.int)) :: gT
def wsX4_reverse : List Cond := (Jvm.Cond.code ({ cls := "OwnerLedger", name := "reverse", desc := "(I)I" } : Jvm.MethodName) prog_1_method_10_code (4 : Nat) (Option.some Jvm.ClassFile.FieldType.int)) :: gT
def wsX4_balance : List Cond := (Jvm.Cond.code ({ cls := "OwnerLedger", name := "balance", desc := "(II)J" } : Jvm.MethodName) prog_1_method_11_code (9 : Nat) (Option.some Jvm.ClassFile.FieldType.long)) :: gT
def wsX4_all : List Cond := (Jvm.Cond.code ({ cls := "OwnerLedger", name := "all", desc := "(I)J" } : Jvm.MethodName) prog_1_method_12_code (8 : Nat) (Option.some Jvm.ClassFile.FieldType.long)) :: gT
def wsX4_invoice : List Cond := (Jvm.Cond.code ({ cls := "OwnerLedger", name := "invoice", desc := "(IJI)I" } : Jvm.MethodName) prog_1_method_13_code (7 : Nat) (Option.some Jvm.ClassFile.FieldType.int)) :: gT
def wsX4_pay : List Cond := (Jvm.Cond.code ({ cls := "OwnerLedger", name := "pay", desc := "(IJ)I" } : Jvm.MethodName) prog_1_method_14_code (10 : Nat) (Option.some Jvm.ClassFile.FieldType.int)) :: gT
def wsX4_settle : List Cond := (Jvm.Cond.code ({ cls := "OwnerLedger", name := "settle", desc := "(IJ)J" } : Jvm.MethodName) prog_1_method_15_code (6 : Nat) (Option.some Jvm.ClassFile.FieldType.long)) :: gT
def wsX4_dispute : List Cond := (Jvm.Cond.code ({ cls := "OwnerLedger", name := "dispute", desc := "(IZ)J" } : Jvm.MethodName) prog_1_method_16_code (4 : Nat) (Option.some Jvm.ClassFile.FieldType.long)) :: gT
def wsX4_dun : List Cond := (Jvm.Cond.code ({ cls := "OwnerLedger", name := "dun", desc := "(I)I" } : Jvm.MethodName) prog_1_method_17_code (3 : Nat) (Option.some Jvm.ClassFile.FieldType.int)) :: gT
def wsX4_rate : List Cond := (Jvm.Cond.code ({ cls := "OwnerLedger", name := "rate", desc := "(I)V" } : Jvm.MethodName) prog_1_method_18_code (2 : Nat) (Option.none : Option Jvm.ClassFile.FieldType)) :: gT
def wsX4_interest : List Cond := (Jvm.Cond.code ({ cls := "OwnerLedger", name := "interest", desc := "(II)J" } : Jvm.MethodName) prog_1_method_19_code (8 : Nat) (Option.some Jvm.ClassFile.FieldType.long)) :: gT
def wsX4_hold : List Cond := (Jvm.Cond.code ({ cls := "OwnerLedger", name := "hold", desc := "(IZ)I" } : Jvm.MethodName) prog_1_method_20_code (4 : Nat) (Option.some Jvm.ClassFile.FieldType.int)) :: gT
def wsX4_told : List Cond := (Jvm.Cond.code ({ cls := "OwnerLedger", name := "told", desc := "(II)I" } : Jvm.MethodName) prog_1_method_21_code (4 : Nat) (Option.some Jvm.ClassFile.FieldType.int)) :: gT
def wsX4_known : List Cond := (Jvm.Cond.code ({ cls := "OwnerLedger", name := "known", desc := "(II)J" } : Jvm.MethodName) prog_1_method_22_code (4 : Nat) (Option.some Jvm.ClassFile.FieldType.long)) :: gT
def wsX4_credit : List Cond := (Jvm.Cond.code ({ cls := "OwnerLedger", name := "credit", desc := "(I)J" } : Jvm.MethodName) prog_1_method_23_code (2 : Nat) (Option.some Jvm.ClassFile.FieldType.long)) :: gT
def wsX4_count : List Cond := (Jvm.Cond.code ({ cls := "OwnerLedger", name := "count", desc := "(I)I" } : Jvm.MethodName) prog_1_method_24_code (2 : Nat) (Option.some Jvm.ClassFile.FieldType.int)) :: gT
def wsX4_requireRange : List Cond := (Jvm.Cond.code ({ cls := "OwnerLedger", name := "requireRange", desc := "(JJJ)V" } : Jvm.MethodName) prog_1_method_25_code (6 : Nat) (Option.none : Option Jvm.ClassFile.FieldType)) :: gT
def wsX4_requireRoom : List Cond := (Jvm.Cond.code ({ cls := "OwnerLedger", name := "requireRoom", desc := "(II)V" } : Jvm.MethodName) prog_1_method_26_code (2 : Nat) (Option.none : Option Jvm.ClassFile.FieldType)) :: gT
def wsX4_requireOpen : List Cond := (Jvm.Cond.code ({ cls := "OwnerLedger", name := "requireOpen", desc := "(LOwnerLedger$Batch;)V" } : Jvm.MethodName) prog_1_method_27_code (1 : Nat) (Option.none : Option Jvm.ClassFile.FieldType)) :: gT
def wsX4_findOwner : List Cond := (Jvm.Cond.code ({ cls := "OwnerLedger", name := "findOwner", desc := "(I)LOwnerLedger$Owner;" } : Jvm.MethodName) prog_1_method_28_code (3 : Nat) (Option.some (Jvm.ClassFile.FieldType.object "OwnerLedger$Owner"))) :: gT
def wsX4_currencyOf : List Cond := (Jvm.Cond.code ({ cls := "OwnerLedger", name := "currencyOf", desc := "(I)I" } : Jvm.MethodName) prog_1_method_29_code (2 : Nat) (Option.some Jvm.ClassFile.FieldType.int)) :: gT
def wsX4_findBatch : List Cond := (Jvm.Cond.code ({ cls := "OwnerLedger", name := "findBatch", desc := "(I)LOwnerLedger$Batch;" } : Jvm.MethodName) prog_1_method_30_code (3 : Nat) (Option.some (Jvm.ClassFile.FieldType.object "OwnerLedger$Batch"))) :: gT
def wsX4_findRow : List Cond := (Jvm.Cond.code ({ cls := "OwnerLedger", name := "findRow", desc := "(LOwnerLedger$Batch;I)LOwnerLedger$Row;" } : Jvm.MethodName) prog_1_method_31_code (3 : Nat) (Option.some (Jvm.ClassFile.FieldType.object "OwnerLedger$Row"))) :: gT
def wsX4_findInvoice : List Cond := (Jvm.Cond.code ({ cls := "OwnerLedger", name := "findInvoice", desc := "(I)LOwnerLedger$Invoice;" } : Jvm.MethodName) prog_1_method_32_code (3 : Nat) (Option.some (Jvm.ClassFile.FieldType.object "OwnerLedger$Invoice"))) :: gT
def wsX4_keepBatch : List Cond := (Jvm.Cond.code ({ cls := "OwnerLedger", name := "keepBatch", desc := "(LOwnerLedger$Batch;)I" } : Jvm.MethodName) prog_1_method_33_code (2 : Nat) (Option.some Jvm.ClassFile.FieldType.int)) :: gT
def wsX4_firstToPay : List Cond := (Jvm.Cond.code ({ cls := "OwnerLedger", name := "firstToPay", desc := "(I)LOwnerLedger$Invoice;" } : Jvm.MethodName) prog_1_method_34_code (7 : Nat) (Option.some (Jvm.ClassFile.FieldType.object "OwnerLedger$Invoice"))) :: gT
def wsX4_overdueInvoicesOf : List Cond := (Jvm.Cond.code ({ cls := "OwnerLedger", name := "overdueInvoicesOf", desc := "(I)I" } : Jvm.MethodName) prog_1_method_35_code (7 : Nat) (Option.some Jvm.ClassFile.FieldType.int)) :: gT
def wsX4_postedBatches : List Cond := (Jvm.Cond.code ({ cls := "OwnerLedger", name := "postedBatches", desc := "()I" } : Jvm.MethodName) prog_1_method_36_code (6 : Nat) (Option.some Jvm.ClassFile.FieldType.int)) :: gT
def wsX4_unpaidInvoices : List Cond := (Jvm.Cond.code ({ cls := "OwnerLedger", name := "unpaidInvoices", desc := "()I" } : Jvm.MethodName) prog_1_method_37_code (6 : Nat) (Option.some Jvm.ClassFile.FieldType.int)) :: gT
def wsX4_heldOwners : List Cond := (Jvm.Cond.code ({ cls := "OwnerLedger", name := "heldOwners", desc := "()I" } : Jvm.MethodName) prog_1_method_38_code (6 : Nat) (Option.some Jvm.ClassFile.FieldType.int)) :: gT
def wsX4_commonDivisor : List Cond := (Jvm.Cond.code ({ cls := "OwnerLedger", name := "commonDivisor", desc := "(JJ)J" } : Jvm.MethodName) prog_1_method_39_code (11 : Nat) (Option.some Jvm.ClassFile.FieldType.long)) :: gT
def wsX5_init : List Cond := (Jvm.Cond.code ({ cls := "OwnerLedgerModel", name := "<init>", desc := "()V" } : Jvm.MethodName) prog_7_method_1_code (1 : Nat) (Option.none : Option Jvm.ClassFile.FieldType)) :: gT
def wsX5_not : List Cond := (Jvm.Cond.code ({ cls := "OwnerLedgerModel", name := "not", desc := "(JJJ)Z" } : Jvm.MethodName) prog_7_method_2_code (6 : Nat) (Option.some Jvm.ClassFile.FieldType.boolean)) :: gT
def wsX5_noOwner : List Cond := (Jvm.Cond.code ({ cls := "OwnerLedgerModel", name := "noOwner", desc := "(I)Z" } : Jvm.MethodName) prog_7_method_3_code (2 : Nat) (Option.some Jvm.ClassFile.FieldType.boolean)) :: gT
def wsX5_noBatch : List Cond := (Jvm.Cond.code ({ cls := "OwnerLedgerModel", name := "noBatch", desc := "(I)Z" } : Jvm.MethodName) prog_7_method_4_code (2 : Nat) (Option.some Jvm.ClassFile.FieldType.boolean)) :: gT
def wsX5_noInvoice : List Cond := (Jvm.Cond.code ({ cls := "OwnerLedgerModel", name := "noInvoice", desc := "(I)Z" } : Jvm.MethodName) prog_7_method_5_code (2 : Nat) (Option.some Jvm.ClassFile.FieldType.boolean)) :: gT
def wsX5_overdue : List Cond := (Jvm.Cond.code ({ cls := "OwnerLedgerModel", name := "overdue", desc := "(I)Z" } : Jvm.MethodName) prog_7_method_6_code (2 : Nat) (Option.some Jvm.ClassFile.FieldType.boolean)) :: gT
def wsX5_overdues : List Cond := (Jvm.Cond.code ({ cls := "OwnerLedgerModel", name := "overdues", desc := "(I)I" } : Jvm.MethodName) prog_7_method_7_code (4 : Nat) (Option.some Jvm.ClassFile.FieldType.int)) :: gT
def wsX5_sumOf : List Cond := (Jvm.Cond.code ({ cls := "OwnerLedgerModel", name := "sumOf", desc := "(II)J" } : Jvm.MethodName) prog_7_method_8_code (6 : Nat) (Option.some Jvm.ClassFile.FieldType.long)) :: gT
def wsX5_newBatch : List Cond := (Jvm.Cond.code ({ cls := "OwnerLedgerModel", name := "newBatch", desc := "(I)V" } : Jvm.MethodName) prog_7_method_9_code (2 : Nat) (Option.none : Option Jvm.ClassFile.FieldType)) :: gT
def wsX5_meet : List Cond := (Jvm.Cond.code ({ cls := "OwnerLedgerModel", name := "meet", desc := "(IJ)J" } : Jvm.MethodName) prog_7_method_10_code (6 : Nat) (Option.some Jvm.ClassFile.FieldType.long)) :: gT
def wsX5_thrown : List Cond := (Jvm.Cond.code ({ cls := "OwnerLedgerModel", name := "thrown", desc := "()I" } : Jvm.MethodName) prog_7_method_11_code (1 : Nat) (Option.some Jvm.ClassFile.FieldType.int)) :: gT
def wsX5_owner : List Cond := (Jvm.Cond.code ({ cls := "OwnerLedgerModel", name := "owner", desc := "()I" } : Jvm.MethodName) prog_7_method_12_code (1 : Nat) (Option.some Jvm.ClassFile.FieldType.int)) :: gT
def wsX5_account : List Cond := (Jvm.Cond.code ({ cls := "OwnerLedgerModel", name := "account", desc := "(II)I" } : Jvm.MethodName) prog_7_method_13_code (3 : Nat) (Option.some Jvm.ClassFile.FieldType.int)) :: gT
def wsX5_month : List Cond := (Jvm.Cond.code ({ cls := "OwnerLedgerModel", name := "month", desc := "(I)V" } : Jvm.MethodName) prog_7_method_14_code (2 : Nat) (Option.none : Option Jvm.ClassFile.FieldType)) :: gT
def wsX5_close : List Cond := (Jvm.Cond.code ({ cls := "OwnerLedgerModel", name := "close", desc := "(I)I" } : Jvm.MethodName) prog_7_method_15_code (3 : Nat) (Option.some Jvm.ClassFile.FieldType.int)) :: gT
def wsX5_batch : List Cond := (Jvm.Cond.code ({ cls := "OwnerLedgerModel", name := "batch", desc := "(I)I" } : Jvm.MethodName) prog_7_method_16_code (2 : Nat) (Option.some Jvm.ClassFile.FieldType.int)) :: gT
def wsX5_row : List Cond := (Jvm.Cond.code ({ cls := "OwnerLedgerModel", name := "row", desc := "(IIJ)I" } : Jvm.MethodName) prog_7_method_17_code (6 : Nat) (Option.some Jvm.ClassFile.FieldType.int)) :: gT
def wsX5_breaks : List Cond := (Jvm.Cond.code ({ cls := "OwnerLedgerModel", name := "breaks", desc := "(IIZ)V" } : Jvm.MethodName) prog_7_method_18_code (4 : Nat) (Option.none : Option Jvm.ClassFile.FieldType)) :: gT
def wsX5_post : List Cond := (Jvm.Cond.code ({ cls := "OwnerLedgerModel", name := "post", desc := "(I)I" } : Jvm.MethodName) prog_7_method_19_code (3 : Nat) (Option.some Jvm.ClassFile.FieldType.int)) :: gT
def wsX5_reverse : List Cond := (Jvm.Cond.code ({ cls := "OwnerLedgerModel", name := "reverse", desc := "(I)I" } : Jvm.MethodName) prog_7_method_20_code (5 : Nat) (Option.some Jvm.ClassFile.FieldType.int)) :: gT
def wsX5_balance : List Cond := (Jvm.Cond.code ({ cls := "OwnerLedgerModel", name := "balance", desc := "(II)J" } : Jvm.MethodName) prog_7_method_21_code (7 : Nat) (Option.some Jvm.ClassFile.FieldType.long)) :: gT
def wsX5_all : List Cond := (Jvm.Cond.code ({ cls := "OwnerLedgerModel", name := "all", desc := "(I)J" } : Jvm.MethodName) prog_7_method_22_code (5 : Nat) (Option.some Jvm.ClassFile.FieldType.long)) :: gT
def wsX5_invoice : List Cond := (Jvm.Cond.code ({ cls := "OwnerLedgerModel", name := "invoice", desc := "(IJI)I" } : Jvm.MethodName) prog_7_method_23_code (5 : Nat) (Option.some Jvm.ClassFile.FieldType.int)) :: gT
def wsX5_pay : List Cond := (Jvm.Cond.code ({ cls := "OwnerLedgerModel", name := "pay", desc := "(IJ)I" } : Jvm.MethodName) prog_7_method_24_code (9 : Nat) (Option.some Jvm.ClassFile.FieldType.int)) :: gT
def wsX5_settle : List Cond := (Jvm.Cond.code ({ cls := "OwnerLedgerModel", name := "settle", desc := "(IJ)J" } : Jvm.MethodName) prog_7_method_25_code (5 : Nat) (Option.some Jvm.ClassFile.FieldType.long)) :: gT
def wsX5_dispute : List Cond := (Jvm.Cond.code ({ cls := "OwnerLedgerModel", name := "dispute", desc := "(IZ)J" } : Jvm.MethodName) prog_7_method_26_code (3 : Nat) (Option.some Jvm.ClassFile.FieldType.long)) :: gT
def wsX5_dun : List Cond := (Jvm.Cond.code ({ cls := "OwnerLedgerModel", name := "dun", desc := "(I)I" } : Jvm.MethodName) prog_7_method_27_code (2 : Nat) (Option.some Jvm.ClassFile.FieldType.int)) :: gT
def wsX5_rate : List Cond := (Jvm.Cond.code ({ cls := "OwnerLedgerModel", name := "rate", desc := "(I)V" } : Jvm.MethodName) prog_7_method_28_code (2 : Nat) (Option.none : Option Jvm.ClassFile.FieldType)) :: gT
def wsX5_interest : List Cond := (Jvm.Cond.code ({ cls := "OwnerLedgerModel", name := "interest", desc := "(II)J" } : Jvm.MethodName) prog_7_method_29_code (11 : Nat) (Option.some Jvm.ClassFile.FieldType.long)) :: gT
def wsX5_hold : List Cond := (Jvm.Cond.code ({ cls := "OwnerLedgerModel", name := "hold", desc := "(IZ)I" } : Jvm.MethodName) prog_7_method_30_code (3 : Nat) (Option.some Jvm.ClassFile.FieldType.int)) :: gT
def wsX5_told : List Cond := (Jvm.Cond.code ({ cls := "OwnerLedgerModel", name := "told", desc := "(II)I" } : Jvm.MethodName) prog_7_method_31_code (4 : Nat) (Option.some Jvm.ClassFile.FieldType.int)) :: gT
def wsX5_known : List Cond := (Jvm.Cond.code ({ cls := "OwnerLedgerModel", name := "known", desc := "(II)J" } : Jvm.MethodName) prog_7_method_32_code (3 : Nat) (Option.some Jvm.ClassFile.FieldType.long)) :: gT
def wsX5_credit : List Cond := (Jvm.Cond.code ({ cls := "OwnerLedgerModel", name := "credit", desc := "(I)J" } : Jvm.MethodName) prog_7_method_33_code (2 : Nat) (Option.some Jvm.ClassFile.FieldType.long)) :: gT
def wsX5_count : List Cond := (Jvm.Cond.code ({ cls := "OwnerLedgerModel", name := "count", desc := "(I)I" } : Jvm.MethodName) prog_7_method_34_code (6 : Nat) (Option.some Jvm.ClassFile.FieldType.int)) :: gT
def wsX0_init : List Cond := (Jvm.Cond.code ({ cls := "OwnerLedger$Batch", name := "<init>", desc := "(I)V" } : Jvm.MethodName) prog_2_method_1_code (2 : Nat) (Option.none : Option Jvm.ClassFile.FieldType)) :: gT
def wsX0_addRow : List Cond := (Jvm.Cond.code ({ cls := "OwnerLedger$Batch", name := "addRow", desc := "(LOwnerLedger$Row;)V" } : Jvm.MethodName) prog_2_method_2_code (2 : Nat) (Option.none : Option Jvm.ClassFile.FieldType)) :: gT
def wsX0_copyOpposites : List Cond := (Jvm.Cond.code ({ cls := "OwnerLedger$Batch", name := "copyOpposites", desc := "(LOwnerLedger$Batch;)V" } : Jvm.MethodName) prog_2_method_3_code (4 : Nat) (Option.none : Option Jvm.ClassFile.FieldType)) :: gT
def wsX0_firstBreaking : List Cond := (Jvm.Cond.code ({ cls := "OwnerLedger$Batch", name := "firstBreaking", desc := "()I" } : Jvm.MethodName) prog_2_method_4_code (3 : Nat) (Option.some Jvm.ClassFile.FieldType.int)) :: gT
def wsX0_sumsToZero : List Cond := (Jvm.Cond.code ({ cls := "OwnerLedger$Batch", name := "sumsToZero", desc := "()Z" } : Jvm.MethodName) prog_2_method_5_code (2 : Nat) (Option.some Jvm.ClassFile.FieldType.boolean)) :: gT
def wsX0_sumOfCurrency : List Cond := (Jvm.Cond.code ({ cls := "OwnerLedger$Batch", name := "sumOfCurrency", desc := "(I)J" } : Jvm.MethodName) prog_2_method_6_code (8 : Nat) (Option.some Jvm.ClassFile.FieldType.long)) :: gT
def wsX0_sumOfAccount : List Cond := (Jvm.Cond.code ({ cls := "OwnerLedger$Batch", name := "sumOfAccount", desc := "(I)J" } : Jvm.MethodName) prog_2_method_7_code (8 : Nat) (Option.some Jvm.ClassFile.FieldType.long)) :: gT
def wsX1_init : List Cond := (Jvm.Cond.code ({ cls := "OwnerLedger$Invoice", name := "<init>", desc := "(IJI)V" } : Jvm.MethodName) prog_3_method_1_code (5 : Nat) (Option.none : Option Jvm.ClassFile.FieldType)) :: gT
def wsX1_takeFrom : List Cond := (Jvm.Cond.code ({ cls := "OwnerLedger$Invoice", name := "takeFrom", desc := "(J)J" } : Jvm.MethodName) prog_3_method_2_code (5 : Nat) (Option.some Jvm.ClassFile.FieldType.long)) :: gT
def wsX1_isOverdue : List Cond := (Jvm.Cond.code ({ cls := "OwnerLedger$Invoice", name := "isOverdue", desc := "(I)Z" } : Jvm.MethodName) prog_3_method_3_code (2 : Nat) (Option.some Jvm.ClassFile.FieldType.boolean)) :: gT
def wsX1_monthsOverdue : List Cond := (Jvm.Cond.code ({ cls := "OwnerLedger$Invoice", name := "monthsOverdue", desc := "(I)I" } : Jvm.MethodName) prog_3_method_4_code (2 : Nat) (Option.some Jvm.ClassFile.FieldType.int)) :: gT
def wsX2_init : List Cond := (Jvm.Cond.code ({ cls := "OwnerLedger$Owner", name := "<init>", desc := "()V" } : Jvm.MethodName) prog_4_method_1_code (1 : Nat) (Option.none : Option Jvm.ClassFile.FieldType)) :: gT
def wsX3_init : List Cond := (Jvm.Cond.code ({ cls := "OwnerLedger$Row", name := "<init>", desc := "(IIJ)V" } : Jvm.MethodName) prog_5_method_1_code (5 : Nat) (Option.none : Option Jvm.ClassFile.FieldType)) :: gT
def wsL_owner : List Cond := (Jvm.Cond.codeWith ({ cls := "OwnerLedgerLaw", name := "owner", desc := "(LOwnerLedger;[J)I" } : Jvm.MethodName) method_3_code (3 : Nat) (Option.some Jvm.ClassFile.FieldType.int) [((0 : Nat), (8 : Nat), (11 : Nat), (13 : Nat))]) :: gT
def wsL_account : List Cond := (Jvm.Cond.codeWith ({ cls := "OwnerLedgerLaw", name := "account", desc := "(LOwnerLedger;II[J)I" } : Jvm.MethodName) method_4_code (5 : Nat) (Option.some Jvm.ClassFile.FieldType.int) [((0 : Nat), (10 : Nat), (13 : Nat), (19 : Nat)), ((0 : Nat), (10 : Nat), (17 : Nat), (21 : Nat)), ((0 : Nat), (10 : Nat), (21 : Nat), (13 : Nat))]) :: gT
def wsL_month : List Cond := (Jvm.Cond.codeWith ({ cls := "OwnerLedgerLaw", name := "month", desc := "(LOwnerLedger;I)I" } : Jvm.MethodName) method_5_code (3 : Nat) (Option.some Jvm.ClassFile.FieldType.int) [((0 : Nat), (5 : Nat), (8 : Nat), (21 : Nat))]) :: gT
def wsL_close : List Cond := (Jvm.Cond.codeWith ({ cls := "OwnerLedgerLaw", name := "close", desc := "(LOwnerLedger;I[J)I" } : Jvm.MethodName) method_6_code (4 : Nat) (Option.some Jvm.ClassFile.FieldType.int) [((0 : Nat), (9 : Nat), (12 : Nat), (21 : Nat)), ((0 : Nat), (9 : Nat), (15 : Nat), (31 : Nat))]) :: gT
def wsL_batch : List Cond := (Jvm.Cond.codeWith ({ cls := "OwnerLedgerLaw", name := "batch", desc := "(LOwnerLedger;I[J)I" } : Jvm.MethodName) method_7_code (4 : Nat) (Option.some Jvm.ClassFile.FieldType.int) [((0 : Nat), (9 : Nat), (12 : Nat), (21 : Nat)), ((0 : Nat), (9 : Nat), (15 : Nat), (31 : Nat)), ((0 : Nat), (9 : Nat), (18 : Nat), (13 : Nat))]) :: gT
def wsL_row : List Cond := (Jvm.Cond.codeWith ({ cls := "OwnerLedgerLaw", name := "row", desc := "(LOwnerLedger;IIJ[J)I" } : Jvm.MethodName) method_8_code (7 : Nat) (Option.some Jvm.ClassFile.FieldType.int) [((0 : Nat), (12 : Nat), (15 : Nat), (19 : Nat)), ((0 : Nat), (12 : Nat), (19 : Nat), (21 : Nat)), ((0 : Nat), (12 : Nat), (23 : Nat), (31 : Nat)), ((0 : Nat), (12 : Nat), (27 : Nat), (13 : Nat))]) :: gT
def wsL_breaks : List Cond := (Jvm.Cond.codeWith ({ cls := "OwnerLedgerLaw", name := "breaks", desc := "(LOwnerLedger;IIZ)I" } : Jvm.MethodName) method_9_code (5 : Nat) (Option.some Jvm.ClassFile.FieldType.int) [((0 : Nat), (7 : Nat), (10 : Nat), (19 : Nat)), ((0 : Nat), (7 : Nat), (14 : Nat), (31 : Nat))]) :: gT
def wsL_post : List Cond := (Jvm.Cond.codeWith ({ cls := "OwnerLedgerLaw", name := "post", desc := "(LOwnerLedger;I[J)I" } : Jvm.MethodName) method_10_code (4 : Nat) (Option.some Jvm.ClassFile.FieldType.int) [((0 : Nat), (9 : Nat), (12 : Nat), (19 : Nat)), ((0 : Nat), (9 : Nat), (15 : Nat), (31 : Nat))]) :: gT
def wsL_reverse : List Cond := (Jvm.Cond.codeWith ({ cls := "OwnerLedgerLaw", name := "reverse", desc := "(LOwnerLedger;I[J)I" } : Jvm.MethodName) method_11_code (4 : Nat) (Option.some Jvm.ClassFile.FieldType.int) [((0 : Nat), (9 : Nat), (12 : Nat), (19 : Nat)), ((0 : Nat), (9 : Nat), (15 : Nat), (31 : Nat)), ((0 : Nat), (9 : Nat), (18 : Nat), (13 : Nat))]) :: gT
def wsL_balance : List Cond := (Jvm.Cond.codeWith ({ cls := "OwnerLedgerLaw", name := "balance", desc := "(LOwnerLedger;II[J)I" } : Jvm.MethodName) method_12_code (5 : Nat) (Option.some Jvm.ClassFile.FieldType.int) [((0 : Nat), (9 : Nat), (12 : Nat), (19 : Nat)), ((0 : Nat), (9 : Nat), (16 : Nat), (21 : Nat))]) :: gT
def wsL_all : List Cond := (Jvm.Cond.codeWith ({ cls := "OwnerLedgerLaw", name := "all", desc := "(LOwnerLedger;I[J)I" } : Jvm.MethodName) method_13_code (4 : Nat) (Option.some Jvm.ClassFile.FieldType.int) [((0 : Nat), (8 : Nat), (11 : Nat), (21 : Nat))]) :: gT
def wsL_invoice : List Cond := (Jvm.Cond.codeWith ({ cls := "OwnerLedgerLaw", name := "invoice", desc := "(LOwnerLedger;IJI[J)I" } : Jvm.MethodName) method_14_code (7 : Nat) (Option.some Jvm.ClassFile.FieldType.int) [((0 : Nat), (13 : Nat), (16 : Nat), (19 : Nat)), ((0 : Nat), (13 : Nat), (20 : Nat), (21 : Nat)), ((0 : Nat), (13 : Nat), (24 : Nat), (31 : Nat)), ((0 : Nat), (13 : Nat), (28 : Nat), (13 : Nat))]) :: gT
def wsL_pay : List Cond := (Jvm.Cond.codeWith ({ cls := "OwnerLedgerLaw", name := "pay", desc := "(LOwnerLedger;IJ[J)I" } : Jvm.MethodName) method_15_code (6 : Nat) (Option.some Jvm.ClassFile.FieldType.int) [((0 : Nat), (11 : Nat), (14 : Nat), (19 : Nat)), ((0 : Nat), (11 : Nat), (18 : Nat), (21 : Nat))]) :: gT
def wsL_settle : List Cond := (Jvm.Cond.codeWith ({ cls := "OwnerLedgerLaw", name := "settle", desc := "(LOwnerLedger;IJ[J)I" } : Jvm.MethodName) method_16_code (6 : Nat) (Option.some Jvm.ClassFile.FieldType.int) [((0 : Nat), (10 : Nat), (13 : Nat), (19 : Nat)), ((0 : Nat), (10 : Nat), (17 : Nat), (21 : Nat))]) :: gT
def wsL_dispute : List Cond := (Jvm.Cond.codeWith ({ cls := "OwnerLedgerLaw", name := "dispute", desc := "(LOwnerLedger;IZ[J)I" } : Jvm.MethodName) method_17_code (5 : Nat) (Option.some Jvm.ClassFile.FieldType.int) [((0 : Nat), (9 : Nat), (12 : Nat), (19 : Nat)), ((0 : Nat), (9 : Nat), (16 : Nat), (31 : Nat))]) :: gT
def wsL_dun : List Cond := (Jvm.Cond.codeWith ({ cls := "OwnerLedgerLaw", name := "dun", desc := "(LOwnerLedger;I[J)I" } : Jvm.MethodName) method_18_code (4 : Nat) (Option.some Jvm.ClassFile.FieldType.int) [((0 : Nat), (9 : Nat), (12 : Nat), (19 : Nat)), ((0 : Nat), (9 : Nat), (15 : Nat), (31 : Nat))]) :: gT
def wsL_rate : List Cond := (Jvm.Cond.codeWith ({ cls := "OwnerLedgerLaw", name := "rate", desc := "(LOwnerLedger;I)I" } : Jvm.MethodName) method_19_code (3 : Nat) (Option.some Jvm.ClassFile.FieldType.int) [((0 : Nat), (5 : Nat), (8 : Nat), (21 : Nat))]) :: gT
def wsL_interest : List Cond := (Jvm.Cond.codeWith ({ cls := "OwnerLedgerLaw", name := "interest", desc := "(LOwnerLedger;II[J)I" } : Jvm.MethodName) method_20_code (5 : Nat) (Option.some Jvm.ClassFile.FieldType.int) [((0 : Nat), (9 : Nat), (12 : Nat), (19 : Nat)), ((0 : Nat), (9 : Nat), (16 : Nat), (21 : Nat))]) :: gT
def wsL_hold : List Cond := (Jvm.Cond.codeWith ({ cls := "OwnerLedgerLaw", name := "hold", desc := "(LOwnerLedger;IZ[J)I" } : Jvm.MethodName) method_21_code (5 : Nat) (Option.some Jvm.ClassFile.FieldType.int) [((0 : Nat), (10 : Nat), (13 : Nat), (19 : Nat)), ((0 : Nat), (10 : Nat), (17 : Nat), (31 : Nat))]) :: gT
def wsL_told : List Cond := (Jvm.Cond.codeWith ({ cls := "OwnerLedgerLaw", name := "told", desc := "(LOwnerLedger;II[J)I" } : Jvm.MethodName) method_22_code (5 : Nat) (Option.some Jvm.ClassFile.FieldType.int) [((0 : Nat), (10 : Nat), (13 : Nat), (19 : Nat)), ((0 : Nat), (10 : Nat), (17 : Nat), (21 : Nat))]) :: gT
def wsL_known : List Cond := (Jvm.Cond.codeWith ({ cls := "OwnerLedgerLaw", name := "known", desc := "(LOwnerLedger;II[J)I" } : Jvm.MethodName) method_23_code (5 : Nat) (Option.some Jvm.ClassFile.FieldType.int) [((0 : Nat), (9 : Nat), (12 : Nat), (19 : Nat)), ((0 : Nat), (9 : Nat), (16 : Nat), (21 : Nat))]) :: gT
def wsL_credit : List Cond := (Jvm.Cond.codeWith ({ cls := "OwnerLedgerLaw", name := "credit", desc := "(LOwnerLedger;I[J)I" } : Jvm.MethodName) method_24_code (4 : Nat) (Option.some Jvm.ClassFile.FieldType.int) [((0 : Nat), (8 : Nat), (11 : Nat), (19 : Nat))]) :: gT
end
section
/-! Kinds of arrays; what of the start no list of words carries (Env): texts, nest mates, classes that catch. -/
abbrev gh_ty (AC : Nat → ClassId) : List (ClassId × FieldType) := [(AC 0, .int), (AC 1, .long), (AC 2, .boolean), (AC 3, (.object "OwnerLedger$Owner")), (AC 4, (.object "OwnerLedger$Batch")), (AC 5, (.object "OwnerLedger$Invoice")), (AC 6, (.object "OwnerLedger$Row"))]
theorem gh_tyat (AC : Nat → ClassId) {k : Nat} (h : k < 7) : ∃ ty, (gh_ty AC)[k]? = some (AC k, ty) := by
  rcases (show k = 0 ∨ k = 1 ∨ k = 2 ∨ k = 3 ∨ k = 4 ∨ k = 5 ∨ k = 6 by omega) with rfl | rfl | rfl | rfl | rfl | rfl | rfl <;> exact ⟨_, rfl⟩
def gh_isq (k : Nat) : Bool := decide (3 ≤ k) && decide (k < 7)
theorem gh_tyq (AC : Nat → ClassId) {k : Nat} (h : gh_isq k = true) : ∃ C, (gh_ty AC)[k]? = some (AC k, .object C) := by
  unfold gh_isq at h
  simp only [Bool.and_eq_true, decide_eq_true_eq] at h
  rcases (show k = 3 ∨ k = 4 ∨ k = 5 ∨ k = 6 by omega) with rfl | rfl | rfl | rfl <;> exact ⟨_, rfl⟩
def gh_elk (k ci : Nat) : Bool := (k == 3 && ci == 2) || (k == 4 && ci == 0) || (k == 5 && ci == 1) || (k == 6 && ci == 3)
theorem gh_tyel (AC : Nat → ClassId) {k ci : Nat} (h : gh_elk k ci = true) : ∃ r : vw_C, vwCl[ci]? = some r ∧ (gh_ty AC)[k]? = some (AC k, .object r.1) := by
  unfold gh_elk at h
  simp only [Bool.or_eq_true, Bool.and_eq_true, beq_iff_eq] at h
  have h2 : (k = 3 ∧ ci = 2) ∨ (k = 4 ∧ ci = 0) ∨ (k = 5 ∧ ci = 1) ∨ (k = 6 ∧ ci = 3) := by omega
  rcases h2 with ⟨rfl, rfl⟩ | ⟨rfl, rfl⟩ | ⟨rfl, rfl⟩ | ⟨rfl, rfl⟩ <;> exact ⟨_, rfl, rfl⟩
def gh_strs : List (String × Nat × String) := [("OwnerLedger", 248, "there is no room for more"), ("OwnerLedger", 255, "there is no such owner"), ("OwnerLedger", 244, "a number is outside its range"), ("OwnerLedger", 63, "closed months do not open again"), ("OwnerLedger", 68, "the month is closed"), ("OwnerLedger", 260, "there is no such batch"), ("OwnerLedger", 258, "there is no such account"), ("OwnerLedger", 91, "a row of no cents"), ("OwnerLedger", 251, "the batch is not open"), ("OwnerLedger", 266, "there is no such row"), ("OwnerLedger", 121, "the month of the batch is closed by now"), ("OwnerLedger", 123, "the batch has no rows"), ("OwnerLedger", 136, "the batch is not posted"), ("OwnerLedger", 141, "the batch was reversed"), ("OwnerLedger", 146, "the batch is a reversal"), ("OwnerLedger", 161, "the owner is held"), ("OwnerLedger", 268, "there is no such invoice"), ("OwnerLedger", 193, "the invoice is so already"), ("OwnerLedger", 199, "the invoice is not overdue"), ("OwnerLedger", 204, "the invoice is in its last stage"), ("OwnerLedger", 220, "the owner is so already")]
def gh_cas : List (String × String) := [("java/lang/UnsupportedOperationException", "java/lang/UnsupportedOperationException"), ("java/util/NoSuchElementException", "java/util/NoSuchElementException"), ("java/lang/IllegalArgumentException", "java/lang/IllegalArgumentException"), ("java/lang/IllegalStateException", "java/lang/IllegalStateException")]
def gh_decs : List MethodName := [({ cls := "java/lang/RuntimeException", name := "<init>", desc := "()V" } : Jvm.MethodName), ({ cls := "java/lang/RuntimeException", name := "<init>", desc := "(Ljava/lang/String;)V" } : Jvm.MethodName), ({ cls := "java/lang/Exception", name := "<init>", desc := "()V" } : Jvm.MethodName), ({ cls := "java/lang/Exception", name := "<init>", desc := "(Ljava/lang/String;)V" } : Jvm.MethodName), ({ cls := "java/lang/Throwable", name := "<init>", desc := "()V" } : Jvm.MethodName), ({ cls := "java/lang/Throwable", name := "<init>", desc := "(Ljava/lang/String;)V" } : Jvm.MethodName)]
def gh_nsts : List (String × Nat × MethodName × String) := [("OwnerLedger", 39, ({ cls := "OwnerLedger$Owner", name := "<init>", desc := "()V" } : Jvm.MethodName), "OwnerLedger"), ("OwnerLedger$Batch", 27, ({ cls := "OwnerLedger", name := "requireRoom", desc := "(II)V" } : Jvm.MethodName), "OwnerLedger")]
def gh_aos : List String := ["OwnerLedger$Owner", "OwnerLedger$Batch", "OwnerLedger$Invoice", "OwnerLedger$Row"]
def gh_ncl : List (String × String) := [("java/lang/IllegalArgumentException", "java/lang/IllegalStateException"), ("java/lang/IllegalArgumentException", "java/lang/UnsupportedOperationException"), ("java/lang/IllegalArgumentException", "java/util/NoSuchElementException"), ("java/lang/IllegalStateException", "java/lang/IllegalArgumentException"), ("java/lang/IllegalStateException", "java/lang/UnsupportedOperationException"), ("java/lang/IllegalStateException", "java/util/NoSuchElementException"), ("java/lang/UnsupportedOperationException", "java/lang/IllegalArgumentException"), ("java/lang/UnsupportedOperationException", "java/lang/IllegalStateException"), ("java/lang/UnsupportedOperationException", "java/util/NoSuchElementException"), ("java/util/NoSuchElementException", "java/lang/IllegalArgumentException"), ("java/util/NoSuchElementException", "java/lang/IllegalStateException"), ("java/util/NoSuchElementException", "java/lang/UnsupportedOperationException")]
abbrev gh_SA : Type := String → Nat → Nat
def gh_En (sa : gh_SA) (A : Nat → Prop) (U : State) (H : Heap) : Prop :=
  vx_Zq Bundle.tN "UNASSIGNED_STACK" Bundle.steD A U H ∧ vx_Zq Bundle.tN "SUPPRESSED_SENTINEL" Bundle.listD A U H ∧ (∀ q ∈ gh_strs, vk_R q.1 q.2.1 q.2.2 (sa q.1 q.2.1) U) ∧ (∀ q ∈ gh_cas, va_Nw (.castable q.1 q.2) U) ∧ (∀ y ∈ gh_decs, va_Nw (.declares y) U) ∧ (∀ q ∈ gh_nsts, va_Nw (.methodLinkNest q.1 q.2.1 q.2.2.1 q.2.2.2) U) ∧ (∀ C ∈ gh_aos, va_AO C U) ∧ (∀ q ∈ gh_ncl, va_Nc q.1 q.2 U)
theorem gh_En_ok {sa : gh_SA} : gh_Ok (gh_En sa) := by
  refine ⟨?_, ?_⟩
  · intro A U U' H hv h
    have ha : U.vm.Alike U'.vm := by rw [hv]; exact Vm.Alike.refl _
    obtain ⟨h1, h2, h3, h4, h5, h6, h7, h8⟩ := h
    exact ⟨h1.moved ha, h2.moved ha, fun q hq => vk_R.same hv.symm (h3 q hq), fun q hq => va_Nw.same rfl hv (h4 q hq), fun q hq => va_Nw.same rfl hv (h5 q hq), fun q hq => va_Nw.same rfl hv (h6 q hq), fun q hq => (h7 q hq).moved ha, fun q hq => (h8 q hq).moved ha⟩
  · intro A B s U H hW hAB hk h
    obtain ⟨h1, h2, h3, h4, h5, h6, h7, h8⟩ := h
    exact ⟨((h1.kept hk).narrow hAB).moved hW.alike, ((h2.kept hk).narrow hAB).moved hW.alike, fun q hq => vk_R.warm hW (h3 q hq), fun q hq => va_Nw.warmC hW (h4 q hq), fun q hq => va_Nw.warmD hW (h5 q hq), fun q hq => va_Nw.warmM hW (h6 q hq), fun q hq => (h7 q hq).moved hW.alike, fun q hq => (h8 q hq).moved hW.alike⟩
theorem gh_str {sa : gh_SA} {A : Nat → Prop} {U : State} {H : Heap} (h : gh_En sa A U H) {own : String} {k : Nat} {tx : String} (hm : (own, k, tx) ∈ gh_strs) : vk_R own k tx (sa own k) U := h.2.2.1 _ hm
theorem gh_cst {sa : gh_SA} {A : Nat → Prop} {U : State} {H : Heap} (h : gh_En sa A U H) {a b : String} (hm : (a, b) ∈ gh_cas) : va_Nw (.castable a b) U := h.2.2.2.1 _ hm
theorem gh_dec {sa : gh_SA} {A : Nat → Prop} {U : State} {H : Heap} (h : gh_En sa A U H) {y : MethodName} (hm : y ∈ gh_decs) : va_Nw (.declares y) U := h.2.2.2.2.1 _ hm
theorem gh_nst {sa : gh_SA} {A : Nat → Prop} {U : State} {H : Heap} (h : gh_En sa A U H) {a b : String} {k : Nat} {y : MethodName} (hm : (a, k, y, b) ∈ gh_nsts) : va_Nw (.methodLinkNest a k y b) U := h.2.2.2.2.2.1 _ hm
theorem gh_ao {sa : gh_SA} {A : Nat → Prop} {U : State} {H : Heap} (h : gh_En sa A U H) {a : String} (hm : a ∈ gh_aos) : va_AO a U := h.2.2.2.2.2.2.1 _ hm
theorem gh_ncs {sa : gh_SA} {A : Nat → Prop} {U : State} {H : Heap} (h : gh_En sa A U H) {a b : String} (hm : (a, b) ∈ gh_ncl) : va_Nc a b U := h.2.2.2.2.2.2.2 _ hm
theorem gh_h.grow {D : va_G} {cl : List vw_C} {AC : Nat → ClassId} {A : Nat → Prop} {G : gh_H} {H H1 : Heap} (h : gh_h D cl AC A G H) (hk : ∀ q : Nat, q < H.size → H1[q]? = H[q]?) : gh_h D cl AC A G H1 := by
  obtain ⟨ws, hP, hD, hG⟩ := h
  exact ⟨ws, hP.kept (fun k q hq => hk q.1 (hP k q hq).lt), hD, hG⟩
theorem gh_thrown {D : va_G} {cl : List vw_C} {AC : Nat → ClassId} {A : Nat → Prop} {G : gh_H} {H : Heap} {s : State} {locs : List Loc} {E : String} {px : String → gh_H → Prop} (hP : gh_h D cl AC A G H) (hS : va_S A s.heap H locs) (hw : px E G) : ∀ t : State, s.vm.Alike t.vm → H.size ≤ t.heap.size → (∀ q : Nat, q < H.size → t.heap[q]? = H[q]?) → gh_X D cl AC px A E s t :=
  fun t _ hsz hk => ⟨(E, G), hw, ⟨rfl, hP.grow hk⟩, Nat.le_trans hS.1 hsz, fun q h1 h2 => (hk q (Nat.lt_of_lt_of_le h1 hS.1)).trans (hS.2.1 q h1 h2)⟩
theorem gh_notab {p : Program} {l : Launch} {y : MethodName} {S : Spec} {cc bytes : ByteArray} {maxL maxL' : Nat} {ret ret' : Option FieldType} {e : Env} {s s₁ : State} {m : MethodId} {args : Array Value} {below : List Frame} {meth : Method} {c : Code} (B : BodyLoose p l y S cc maxL ret e s m args below meth c s₁) (h : (Cond.code y bytes maxL' ret').before args s = true) : c.exceptionTable.toList = [] := by
  obtain ⟨meth9, c9, h1, h2, -, -, -, -, h7, -⟩ := Cond.code_spec B.named h
  cases Option.some.inj (h1.symm.trans B.method)
  cases Option.some.inj (h2.symm.trans (Stand.of_body B).code)
  rw [Array.isEmpty_iff.mp h7]
section GHM
variable {p : Program} {l : Launch} {e : Env} {R : Room} {s : State} {m : MethodId} {args : Array Value} {below : List Frame} {meth : Method} {c : Code} {H : Heap} {locs : List Loc} {cells slots : Nat} {Q : State → Prop}
variable {cc : ByteArray} {pc : Nat} {ls : Array Slot} {rest st0 : List Value} {D : va_G} {cl : List vw_C} {AC : Nat → ClassId} {A : Nat → Prop} {G Gc F : gh_H} {mc ms mc' ms' : Nat} {a : Array Value}
theorem gh_vretM {post : gh_H → Prop} (hx : p.tables.exec = Jvm.exec) (hb : c.code = cc) (hr : meth.sig.returnType = none) (hlocks : meth.locks = false) (hq : post G) (hP : gh_h D cl AC A G H) (hS : va_S A s.heap H locs) (hc : cells ≤ mc) (hs : slots ≤ ms) (hdg : decode cc pc = .ok (.return_, 1)) :
    W p l e R s m args below meth c H locs cells slots (MQ below (va_Qv post (gh_B D cl AC A) A) args s mc ms A) (F0 m pc ls []) :=
  W.widen hc hs (W.vret hx hb hr (fun t ht _ => ⟨⟨G, rfl, hq, by show gh_h D cl AC A G t.heap; rw [ht]; exact hP⟩, hS.F ht⟩) hS.2.2 hdg hlocks)
theorem gh_cM {post' : gh_H → Prop} (hr : va_Run p l e R s m args below meth c H locs cells slots mc' ms' (F0 m pc ls st0) rest (va_Qv post' (gh_B D cl AC (gh_A G H.size)) (gh_A G H.size) a) (gh_A G H.size)) (hP : gh_h D cl AC A G H) (hS : va_S A s.heap H locs) (hA : ∀ q, s.heap.size ≤ q → A q)
    (kk : ∀ (G1 : gh_H) (H1 : Heap) (locs1 : List Loc), post' G1 → gh_h D cl AC A G1 H1 → va_S A s.heap H1 locs1 → W p l e R s m args below meth c H1 locs1 (cells + mc') (slots + ms') Q (F0 m (pc + 3) ls rest)) : W p l e R s m args below meth c H locs cells slots Q (F0 m pc ls st0) :=
  va_callv hr hS (fun q _ h => hP.subA hS hA q h) (hP.subA hS hA) (fun u t H1 locs1 ht _ hp hb _ _ hS1 => kk u H1 locs1 hp (by rw [← ht]; exact gh_h.weaken hb (hP.subA hS hA)) hS1)
theorem gh_fM {post' : gh_H → Prop} (h2 : gh_two G Gc F) (hP : gh_h D cl AC A G H) (hS : va_S A s.heap H locs) (hA : ∀ q, s.heap.size ≤ q → A q) (hr : va_Run p l e R s m args below meth c H locs cells slots mc' ms' (F0 m pc ls st0) rest (va_Qv post' (gh_B D cl AC (gh_A Gc H.size)) (gh_A Gc H.size) a) (gh_A Gc H.size))
    (kk : ∀ (G1 : gh_H) (H1 : Heap) (locs1 : List Loc), post' G1 → gh_h D cl AC A (gh_j G1 F) H1 → (∀ a, G1 a ≠ none → F a = none) → va_S A s.heap H1 locs1 → W p l e R s m args below meth c H1 locs1 (cells + mc') (slots + ms') Q (F0 m (pc + 3) ls rest)) : W p l e R s m args below meth c H locs cells slots Q (F0 m pc ls st0) := by
  have hsub : ∀ q, gh_A Gc H.size q → A q := (hP.sub (gh_twoL h2)).subA hS hA
  exact va_callv hr hS (fun q _ h => hsub q h) hsub (fun u t H1 locs1 ht _ hp hb _ hk hS1 => by
      have hb1 : gh_h D cl AC (gh_A Gc H.size) u H1 := by rw [← ht]; exact hb
      obtain ⟨q1, q2⟩ := gh_back h2 hP hsub hb1 hk
      exact kk u H1 locs1 hp q1 q2 hS1)
end GHM
theorem gh_hat0 {sa : gh_SA} {A : Nat → Prop} {s : State} {args : Array Value} {c0 : Cond} (hts : ∀ w ∈ c0 :: gT, w.before args s = true) (hE : gh_En sa A s s.heap) : ∀ w ∈ vx_atS "OwnerLedger" 250 "java/lang/UnsupportedOperationException" ["java/lang/RuntimeException", "java/lang/Exception"], w.before args s = true := vx_hat (B := [.castable "java/lang/UnsupportedOperationException" "java/lang/UnsupportedOperationException", .declares ⟨"java/lang/RuntimeException", "<init>", "(Ljava/lang/String;)V"⟩, .declares ⟨"java/lang/Exception", "<init>", "(Ljava/lang/String;)V"⟩, .declares ⟨"java/lang/Throwable", "<init>", "(Ljava/lang/String;)V"⟩]) (fun w hw => hts w (gT_up (gTs_14 w hw))) (by decide +kernel) (vx_c (va_Nw.use rfl (gh_cst hE (by decide))) (vx_c (va_Nw.use rfl (gh_dec hE (by decide))) (vx_c (va_Nw.use rfl (gh_dec hE (by decide))) (vx_c (va_Nw.use rfl (gh_dec hE (by decide))) (vx_n)))))
theorem gh_got0 : ∀ w ∈ Cond.classLink "OwnerLedger" 246 "java/lang/UnsupportedOperationException" :: Cond.initialized "java/lang/UnsupportedOperationException" :: vx_atS "OwnerLedger" 250 "java/lang/UnsupportedOperationException" ["java/lang/RuntimeException", "java/lang/Exception"], vx_ot w = true := by decide +kernel
theorem gh_hat1 {sa : gh_SA} {A : Nat → Prop} {s : State} {args : Array Value} {c0 : Cond} (hts : ∀ w ∈ c0 :: gT, w.before args s = true) (hE : gh_En sa A s s.heap) : ∀ w ∈ vx_atS "OwnerLedger" 257 "java/util/NoSuchElementException" ["java/lang/RuntimeException", "java/lang/Exception"], w.before args s = true := vx_hat (B := [.castable "java/util/NoSuchElementException" "java/util/NoSuchElementException", .declares ⟨"java/lang/RuntimeException", "<init>", "(Ljava/lang/String;)V"⟩, .declares ⟨"java/lang/Exception", "<init>", "(Ljava/lang/String;)V"⟩, .declares ⟨"java/lang/Throwable", "<init>", "(Ljava/lang/String;)V"⟩]) (fun w hw => hts w (gT_up (gTs_15 w hw))) (by decide +kernel) (vx_c (va_Nw.use rfl (gh_cst hE (by decide))) (vx_c (va_Nw.use rfl (gh_dec hE (by decide))) (vx_c (va_Nw.use rfl (gh_dec hE (by decide))) (vx_c (va_Nw.use rfl (gh_dec hE (by decide))) (vx_n)))))
theorem gh_got1 : ∀ w ∈ Cond.classLink "OwnerLedger" 253 "java/util/NoSuchElementException" :: Cond.initialized "java/util/NoSuchElementException" :: vx_atS "OwnerLedger" 257 "java/util/NoSuchElementException" ["java/lang/RuntimeException", "java/lang/Exception"], vx_ot w = true := by decide +kernel
theorem gh_hat2 {sa : gh_SA} {A : Nat → Prop} {s : State} {args : Array Value} {c0 : Cond} (hts : ∀ w ∈ c0 :: gT, w.before args s = true) (hE : gh_En sa A s s.heap) : ∀ w ∈ vx_atS "OwnerLedger" 93 "java/lang/IllegalArgumentException" ["java/lang/RuntimeException", "java/lang/Exception"], w.before args s = true := vx_hat (B := [.castable "java/lang/IllegalArgumentException" "java/lang/IllegalArgumentException", .declares ⟨"java/lang/RuntimeException", "<init>", "(Ljava/lang/String;)V"⟩, .declares ⟨"java/lang/Exception", "<init>", "(Ljava/lang/String;)V"⟩, .declares ⟨"java/lang/Throwable", "<init>", "(Ljava/lang/String;)V"⟩]) (fun w hw => hts w (gT_up (gTs_16 w hw))) (by decide +kernel) (vx_c (va_Nw.use rfl (gh_cst hE (by decide))) (vx_c (va_Nw.use rfl (gh_dec hE (by decide))) (vx_c (va_Nw.use rfl (gh_dec hE (by decide))) (vx_c (va_Nw.use rfl (gh_dec hE (by decide))) (vx_n)))))
theorem gh_got2 : ∀ w ∈ Cond.classLink "OwnerLedger" 89 "java/lang/IllegalArgumentException" :: Cond.initialized "java/lang/IllegalArgumentException" :: vx_atS "OwnerLedger" 93 "java/lang/IllegalArgumentException" ["java/lang/RuntimeException", "java/lang/Exception"], vx_ot w = true := by decide +kernel
theorem gh_hat3 {sa : gh_SA} {A : Nat → Prop} {s : State} {args : Array Value} {c0 : Cond} (hts : ∀ w ∈ c0 :: gT, w.before args s = true) (hE : gh_En sa A s s.heap) : ∀ w ∈ vx_atS "OwnerLedger" 65 "java/lang/IllegalStateException" ["java/lang/RuntimeException", "java/lang/Exception"], w.before args s = true := vx_hat (B := [.castable "java/lang/IllegalStateException" "java/lang/IllegalStateException", .declares ⟨"java/lang/RuntimeException", "<init>", "(Ljava/lang/String;)V"⟩, .declares ⟨"java/lang/Exception", "<init>", "(Ljava/lang/String;)V"⟩, .declares ⟨"java/lang/Throwable", "<init>", "(Ljava/lang/String;)V"⟩]) (fun w hw => hts w (gT_up (gTs_17 w hw))) (by decide +kernel) (vx_c (va_Nw.use rfl (gh_cst hE (by decide))) (vx_c (va_Nw.use rfl (gh_dec hE (by decide))) (vx_c (va_Nw.use rfl (gh_dec hE (by decide))) (vx_c (va_Nw.use rfl (gh_dec hE (by decide))) (vx_n)))))
theorem gh_got3 : ∀ w ∈ Cond.classLink "OwnerLedger" 61 "java/lang/IllegalStateException" :: Cond.initialized "java/lang/IllegalStateException" :: vx_atS "OwnerLedger" 65 "java/lang/IllegalStateException" ["java/lang/RuntimeException", "java/lang/Exception"], vx_ot w = true := by decide +kernel
end
