/-! Contracts over the ghost heap, ends, calls. 'post r G' is what the walk behind it wants; 'px E G' what it wants where E is thrown. -/
section GHC
def gh_B (D : va_G) (cl : List vw_C) (AC : Nat → ClassId) (A : Nat → Prop) : gh_H → State → Prop := fun G t => gh_h D cl AC A G t.heap
def gh_X (D : va_G) (cl : List vw_C) (AC : Nat → ClassId) (px : String → gh_H → Prop) (A : Nat → Prop) : String → State → State → Prop := vx_X (fun u : String × gh_H => px u.1 u.2) (fun E u t => E = u.1 ∧ gh_h D cl AC A u.2 t.heap) A
/-- the words of the tables that no list of words carries, and the statics that a throw reads: Env A U H -/
def gh_Pc (D : va_G) (cl : List vw_C) (AC : Nat → ClassId) (tys : List (ClassId × FieldType)) (Env : (Nat → Prop) → State → Heap → Prop) (G : gh_H) (sz : Nat) (av : List Value) : Array Value → State → Prop :=
  va_Pc av (fun U => U.heap.size = sz ∧ gh_h D cl AC (gh_A G sz) G U.heap ∧ va_K D cl tys U ∧ Env (gh_A G sz) U U.heap)
/-- what Env must bear: other frames over the same tables, a warmer machine, writes in A, a smaller A -/
def gh_Ok (Env : (Nat → Prop) → State → Heap → Prop) : Prop :=
  (∀ (A : Nat → Prop) (U U' : State) (H : Heap), U.vm = U'.vm → Env A U H → Env A U' H) ∧
  (∀ (A B : Nat → Prop) (s U : State) (H : Heap), s.WarmedH U.vm → (∀ q, B q → A q) → (∀ q : Nat, q < s.heap.size → ¬ A q → H[q]? = s.heap[q]?) → Env A s s.heap → Env B U H)
theorem gh_blind {D : va_G} {cl : List vw_C} {AC : Nat → ClassId} {tys : List (ClassId × FieldType)} {Env : (Nat → Prop) → State → Heap → Prop} (hO : gh_Ok Env) {G : gh_H} {sz : Nat} {av : List Value} : FrameBlind (gh_Pc D cl AC tys Env G sz av) := by
  intro a U g mk q
  obtain ⟨q0, q1, qP, qK, qE⟩ := q
  exact ⟨q0, q1, qP, va_K.moved (u := U) (U := U.calling g mk a) (Vm.Alike.refl U.vm) qK, hO.1 _ U (U.calling g mk a) _ rfl qE⟩
section GHC2
variable {p : Program} {l : Launch} {e : Env} {R : Room} {s : State} {m : MethodId} {args : Array Value} {below : List Frame} {meth : Method} {c : Code} {H : Heap} {locs : List Loc} {cells slots : Nat} {Q : State → Prop}
variable {cc : ByteArray} {pc : Nat} {ls : Array Slot} {rest st0 : List Value} {D : va_G} {cl : List vw_C} {AC : Nat → ClassId} {A : Nat → Prop} {tys : List (ClassId × FieldType)} {G : gh_H} {En : (Nat → Prop) → State → Heap → Prop}
variable {px : String → gh_H → Prop} {Qc : Array Value → State → Outcome → State → Prop} {mc ms mc' ms' : Nat} {a : Array Value}
theorem gh_pre (hO : gh_Ok En) (hK : va_K D cl tys s) (hE : En A s s.heap) (hP : gh_h D cl AC A G H) (hS : va_S A s.heap H locs) (hA : ∀ q, s.heap.size ≤ q → A q) (As : List Value) : PreS s H (gh_Pc D cl AC tys En G H.size As) As := by
  refine ⟨gh_blind hO, fun U hU hW => ⟨rfl, by rw [hU], by rw [hU]; exact hP.selfA, va_K.moved hW.alike hK, ?_⟩⟩
  rw [hU]
  exact hO.2 A _ s U H hW (hP.subA hS hA) hS.2.1 hE
theorem gh_preV (hO : gh_Ok En) (hK : va_K D cl tys s) (hE : En A s s.heap) (hP : gh_h D cl AC A G H) (hS : va_S A s.heap H locs) (hA : ∀ q, s.heap.size ≤ q → A q) {b ci : Nat} {C : String} {T : u_T} {N : Nat} {fs : List Value} (he : G b = some (.inr (ci, fs))) (hc : cl[ci]? = some (C, T, N)) (As : List Value) : PreV s H C b (gh_Pc D cl AC tys En G H.size (.ref b :: As)) As := by
  obtain ⟨h1, h2⟩ := gh_pre hO hK hE hP hS hA (.ref b :: As)
  obtain ⟨ws, hW, -, hG⟩ := hP
  obtain ⟨q0, hq⟩ := hG b _ he
  exact ⟨h1, va_recv hK hW hc hq, h2⟩
theorem gh_iret {post : Int32 → gh_H → Prop} (hx : p.tables.exec = Jvm.exec) (hb : c.code = cc) (hr : meth.sig.returnType = some .int) (hlocks : meth.locks = false) {v : Int32} (hq : post v G) (hP : gh_h D cl AC A G H) (hS : va_S A s.heap H locs) (hc : cells ≤ mc) (hs : slots ≤ ms) (hdg : decode cc pc = .ok (.ireturn, 1)) :
    W p l e R s m args below meth c H locs cells slots (vx_MQ below (va_Qi post (gh_B D cl AC A) A) (gh_X D cl AC px A) args s mc ms A) (F0 m pc ls [.int v]) :=
  W.widen hc hs (vx_ret (W.iret (v := v) hx hb hr (fun t ht _ => ⟨⟨v, G, rfl, hq, by show gh_h D cl AC A G t.heap; rw [ht]; exact hP⟩, hS.F ht⟩) hS.2.2 hdg hlocks))
theorem gh_zret {post : Int32 → gh_H → Prop} {ty : FieldType} (hx : p.tables.exec = Jvm.exec) (hb : c.code = cc) (hr : meth.sig.returnType = some ty) (hlocks : meth.locks = false) {v : Int32} (hn : narrow ty (.int v) = .int v) (hq : post v G) (hP : gh_h D cl AC A G H) (hS : va_S A s.heap H locs) (hc : cells ≤ mc) (hs : slots ≤ ms) (hdg : decode cc pc = .ok (.ireturn, 1)) :
    W p l e R s m args below meth c H locs cells slots (vx_MQ below (va_Qi post (gh_B D cl AC A) A) (gh_X D cl AC px A) args s mc ms A) (F0 m pc ls [.int v]) :=
  W.widen hc hs (vx_ret (W.zret (v := v) hx hb hr hn (fun t ht _ => ⟨⟨v, G, rfl, hq, by show gh_h D cl AC A G t.heap; rw [ht]; exact hP⟩, hS.F ht⟩) hS.2.2 hdg hlocks))
theorem gh_lret {post : Int64 → gh_H → Prop} (hx : p.tables.exec = Jvm.exec) (hb : c.code = cc) (hr : meth.sig.returnType = some .long) (hlocks : meth.locks = false) {v : Int64} (hq : post v G) (hP : gh_h D cl AC A G H) (hS : va_S A s.heap H locs) (hc : cells ≤ mc) (hs : slots ≤ ms) (hdg : decode cc pc = .ok (.lreturn, 1)) :
    W p l e R s m args below meth c H locs cells slots (vx_MQ below (va_Ql post (gh_B D cl AC A) A) (gh_X D cl AC px A) args s mc ms A) (F0 m pc ls [.long v]) :=
  W.widen hc hs (vx_ret (W.lret (v := v) hx hb hr (fun t ht _ => ⟨⟨v, G, rfl, hq, by show gh_h D cl AC A G t.heap; rw [ht]; exact hP⟩, hS.F ht⟩) hS.2.2 hdg hlocks))
theorem gh_vret {post : gh_H → Prop} (hx : p.tables.exec = Jvm.exec) (hb : c.code = cc) (hr : meth.sig.returnType = none) (hlocks : meth.locks = false) (hq : post G) (hP : gh_h D cl AC A G H) (hS : va_S A s.heap H locs) (hc : cells ≤ mc) (hs : slots ≤ ms) (hdg : decode cc pc = .ok (.return_, 1)) :
    W p l e R s m args below meth c H locs cells slots (vx_MQ below (va_Qv post (gh_B D cl AC A) A) (gh_X D cl AC px A) args s mc ms A) (F0 m pc ls []) :=
  W.widen hc hs (vx_ret (W.vret hx hb hr (fun t ht _ => ⟨⟨G, rfl, hq, by show gh_h D cl AC A G t.heap; rw [ht]; exact hP⟩, hS.F ht⟩) hS.2.2 hdg hlocks))
theorem gh_aret {post : Option Nat → gh_H → Prop} {rt : String} (hx : p.tables.exec = Jvm.exec) (hb : c.code = cc) (hr : meth.sig.returnType = some (.object rt)) (hlocks : meth.locks = false) {o : Option Nat} (hq : post o G) (hP : gh_h D cl AC A G H) (hS : va_S A s.heap H locs) (hc : cells ≤ mc) (hs : slots ≤ ms) (hdg : decode cc pc = .ok (.areturn, 1)) :
    W p l e R s m args below meth c H locs cells slots (vx_MQ below (va_Qq post (gh_B D cl AC A) A) (gh_X D cl AC px A) args s mc ms A) (F0 m pc ls [va_rf o]) :=
  W.widen hc hs (vx_ret (W.aret (v := va_rf o) hx hb hr (Or.inl ⟨_, rfl⟩) (va_rf_or o) (fun t ht _ => ⟨⟨o, G, rfl, hq, by show gh_h D cl AC A G t.heap; rw [ht]; exact hP⟩, hS.F ht⟩) hS.2.2 hdg hlocks))
/-- it is thrown on, to the caller -/
theorem gh_out {E : String} {ce : Cell} {q : Addr} (hlocks : meth.locks = false) (hout : ∀ x ∈ c.exceptionTable.toList, covers x pc = false) (hcell : H[q]? = some ce) (hv : ce.vm = .none) (hcl : s.vm.findClass E = some ce.cls) (hp : px E G) (hP : gh_h D cl AC A G H) (hS : va_S A s.heap H locs) (hc : cells ≤ mc) (hs : slots ≤ ms) :
    vx_W p l e R s m args below meth c H locs cells slots (vx_MQ below Qc (gh_X D cl AC px A) args s mc ms A) (F0 m pc ls rest) q :=
  vx_out hout hlocks hcell hv hcl (fun t ht _ => ⟨(E, G), hp, ⟨rfl, by show gh_h D cl AC A G t.heap; rw [ht]; exact hP⟩, hS.F ht⟩) hS.2.2 hc hs
/-- a call, whatever is done with what it throws -/
theorem gh_cxi {post' : Int32 → gh_H → Prop} {px' : String → gh_H → Prop} (hr : vx_Run p l e R s m args below meth c H locs cells slots mc' ms' (F0 m pc ls st0) rest (va_Qi post' (gh_B D cl AC (gh_A G H.size)) (gh_A G H.size) a) (gh_X D cl AC px' (gh_A G H.size)) (gh_A G H.size)) (hP : gh_h D cl AC A G H) (hS : va_S A s.heap H locs) (hA : ∀ q, s.heap.size ≤ q → A q)
    (kx : ∀ (E : String) (ce : Cell) (q9 : Addr) (G1 : gh_H) (H1 : Heap) (locs1 : List Loc), px' E G1 → gh_h D cl AC A G1 H1 → va_S A s.heap H1 locs1 → H1[q9]? = some ce → ce.vm = .none → s.vm.findClass E = some ce.cls → vx_W p l e R s m args below meth c H1 locs1 (cells + mc') (slots + ms') Q (F0 m pc ls rest) q9)
    (kk : ∀ (r : Int32) (G1 : gh_H) (H1 : Heap) (locs1 : List Loc), post' r G1 → gh_h D cl AC A G1 H1 → va_S A s.heap H1 locs1 → W p l e R s m args below meth c H1 locs1 (cells + mc') (slots + ms') Q (F0 m (pc + 3) ls (.int r :: rest))) : W p l e R s m args below meth c H locs cells slots Q (F0 m pc ls st0) :=
  vx_calli hr hS (fun q _ h => hP.subA hS hA q h) (hP.subA hS hA) (fun q _ h => hP.subA hS hA q h)
    (fun E ce q9 u t H1 locs1 ht _ hp hb _ _ hS1 h1 h2 h3 => kx E ce q9 u.2 H1 locs1 (by rw [hb.1]; exact hp) (by rw [← ht]; exact hb.2.weaken (hP.subA hS hA)) hS1 h1 h2 h3)
    (fun r u t H1 locs1 ht _ hp hb _ _ hS1 => kk r u H1 locs1 hp (by rw [← ht]; exact gh_h.weaken hb (hP.subA hS hA)) hS1)
theorem gh_cxl {post' : Int64 → gh_H → Prop} {px' : String → gh_H → Prop} (hr : vx_Run p l e R s m args below meth c H locs cells slots mc' ms' (F0 m pc ls st0) rest (va_Ql post' (gh_B D cl AC (gh_A G H.size)) (gh_A G H.size) a) (gh_X D cl AC px' (gh_A G H.size)) (gh_A G H.size)) (hP : gh_h D cl AC A G H) (hS : va_S A s.heap H locs) (hA : ∀ q, s.heap.size ≤ q → A q)
    (kx : ∀ (E : String) (ce : Cell) (q9 : Addr) (G1 : gh_H) (H1 : Heap) (locs1 : List Loc), px' E G1 → gh_h D cl AC A G1 H1 → va_S A s.heap H1 locs1 → H1[q9]? = some ce → ce.vm = .none → s.vm.findClass E = some ce.cls → vx_W p l e R s m args below meth c H1 locs1 (cells + mc') (slots + ms') Q (F0 m pc ls rest) q9)
    (kk : ∀ (r : Int64) (G1 : gh_H) (H1 : Heap) (locs1 : List Loc), post' r G1 → gh_h D cl AC A G1 H1 → va_S A s.heap H1 locs1 → W p l e R s m args below meth c H1 locs1 (cells + mc') (slots + ms') Q (F0 m (pc + 3) ls (.long r :: rest))) : W p l e R s m args below meth c H locs cells slots Q (F0 m pc ls st0) :=
  vx_calll hr hS (fun q _ h => hP.subA hS hA q h) (hP.subA hS hA) (fun q _ h => hP.subA hS hA q h)
    (fun E ce q9 u t H1 locs1 ht _ hp hb _ _ hS1 h1 h2 h3 => kx E ce q9 u.2 H1 locs1 (by rw [hb.1]; exact hp) (by rw [← ht]; exact hb.2.weaken (hP.subA hS hA)) hS1 h1 h2 h3)
    (fun r u t H1 locs1 ht _ hp hb _ _ hS1 => kk r u H1 locs1 hp (by rw [← ht]; exact gh_h.weaken hb (hP.subA hS hA)) hS1)
theorem gh_cxq {post' : Option Nat → gh_H → Prop} {px' : String → gh_H → Prop} (hr : vx_Run p l e R s m args below meth c H locs cells slots mc' ms' (F0 m pc ls st0) rest (va_Qq post' (gh_B D cl AC (gh_A G H.size)) (gh_A G H.size) a) (gh_X D cl AC px' (gh_A G H.size)) (gh_A G H.size)) (hP : gh_h D cl AC A G H) (hS : va_S A s.heap H locs) (hA : ∀ q, s.heap.size ≤ q → A q)
    (kx : ∀ (E : String) (ce : Cell) (q9 : Addr) (G1 : gh_H) (H1 : Heap) (locs1 : List Loc), px' E G1 → gh_h D cl AC A G1 H1 → va_S A s.heap H1 locs1 → H1[q9]? = some ce → ce.vm = .none → s.vm.findClass E = some ce.cls → vx_W p l e R s m args below meth c H1 locs1 (cells + mc') (slots + ms') Q (F0 m pc ls rest) q9)
    (kk : ∀ (r : Option Nat) (G1 : gh_H) (H1 : Heap) (locs1 : List Loc), post' r G1 → gh_h D cl AC A G1 H1 → va_S A s.heap H1 locs1 → W p l e R s m args below meth c H1 locs1 (cells + mc') (slots + ms') Q (F0 m (pc + 3) ls (va_rf r :: rest))) : W p l e R s m args below meth c H locs cells slots Q (F0 m pc ls st0) :=
  gx_callq hr hS (fun q _ h => hP.subA hS hA q h) (hP.subA hS hA) (fun q _ h => hP.subA hS hA q h)
    (fun E ce q9 u t H1 locs1 ht _ hp hb _ _ hS1 h1 h2 h3 => kx E ce q9 u.2 H1 locs1 (by rw [hb.1]; exact hp) (by rw [← ht]; exact hb.2.weaken (hP.subA hS hA)) hS1 h1 h2 h3)
    (fun r u t H1 locs1 ht _ hp hb _ _ hS1 => kk r u H1 locs1 hp (by rw [← ht]; exact gh_h.weaken hb (hP.subA hS hA)) hS1)
theorem gh_cxv {post' : gh_H → Prop} {px' : String → gh_H → Prop} (hr : vx_Run p l e R s m args below meth c H locs cells slots mc' ms' (F0 m pc ls st0) rest (va_Qv post' (gh_B D cl AC (gh_A G H.size)) (gh_A G H.size) a) (gh_X D cl AC px' (gh_A G H.size)) (gh_A G H.size)) (hP : gh_h D cl AC A G H) (hS : va_S A s.heap H locs) (hA : ∀ q, s.heap.size ≤ q → A q)
    (kx : ∀ (E : String) (ce : Cell) (q9 : Addr) (G1 : gh_H) (H1 : Heap) (locs1 : List Loc), px' E G1 → gh_h D cl AC A G1 H1 → va_S A s.heap H1 locs1 → H1[q9]? = some ce → ce.vm = .none → s.vm.findClass E = some ce.cls → vx_W p l e R s m args below meth c H1 locs1 (cells + mc') (slots + ms') Q (F0 m pc ls rest) q9)
    (kk : ∀ (G1 : gh_H) (H1 : Heap) (locs1 : List Loc), post' G1 → gh_h D cl AC A G1 H1 → va_S A s.heap H1 locs1 → W p l e R s m args below meth c H1 locs1 (cells + mc') (slots + ms') Q (F0 m (pc + 3) ls rest)) : W p l e R s m args below meth c H locs cells slots Q (F0 m pc ls st0) :=
  vx_callv hr hS (fun q _ h => hP.subA hS hA q h) (hP.subA hS hA) (fun q _ h => hP.subA hS hA q h)
    (fun E ce q9 u t H1 locs1 ht _ hp hb _ _ hS1 h1 h2 h3 => kx E ce q9 u.2 H1 locs1 (by rw [hb.1]; exact hp) (by rw [← ht]; exact hb.2.weaken (hP.subA hS hA)) hS1 h1 h2 h3)
    (fun u t H1 locs1 ht _ hp hb _ _ hS1 => kk u H1 locs1 hp (by rw [← ht]; exact gh_h.weaken hb (hP.subA hS hA)) hS1)
/-- a call in a method that catches nothing there -/
theorem gh_ci {post' : Int32 → gh_H → Prop} (hlocks : meth.locks = false) (hout : ∀ x ∈ c.exceptionTable.toList, covers x pc = false) (hr : vx_Run p l e R s m args below meth c H locs cells slots mc' ms' (F0 m pc ls st0) rest (va_Qi post' (gh_B D cl AC (gh_A G H.size)) (gh_A G H.size) a) (gh_X D cl AC px (gh_A G H.size)) (gh_A G H.size)) (hP : gh_h D cl AC A G H) (hS : va_S A s.heap H locs) (hA : ∀ q, s.heap.size ≤ q → A q) (hc : cells + mc' ≤ mc) (hs : slots + ms' ≤ ms)
    (kk : ∀ (r : Int32) (G1 : gh_H) (H1 : Heap) (locs1 : List Loc), post' r G1 → gh_h D cl AC A G1 H1 → va_S A s.heap H1 locs1 → W p l e R s m args below meth c H1 locs1 (cells + mc') (slots + ms') (vx_MQ below Qc (gh_X D cl AC px A) args s mc ms A) (F0 m (pc + 3) ls (.int r :: rest))) : W p l e R s m args below meth c H locs cells slots (vx_MQ below Qc (gh_X D cl AC px A) args s mc ms A) (F0 m pc ls st0) :=
  gh_cxi hr hP hS hA (fun E ce q9 G1 H1 locs1 hp hP1 hS1 h1 h2 h3 => gh_out hlocks hout h1 h2 h3 hp hP1 hS1 hc hs) kk
theorem gh_cl {post' : Int64 → gh_H → Prop} (hlocks : meth.locks = false) (hout : ∀ x ∈ c.exceptionTable.toList, covers x pc = false) (hr : vx_Run p l e R s m args below meth c H locs cells slots mc' ms' (F0 m pc ls st0) rest (va_Ql post' (gh_B D cl AC (gh_A G H.size)) (gh_A G H.size) a) (gh_X D cl AC px (gh_A G H.size)) (gh_A G H.size)) (hP : gh_h D cl AC A G H) (hS : va_S A s.heap H locs) (hA : ∀ q, s.heap.size ≤ q → A q) (hc : cells + mc' ≤ mc) (hs : slots + ms' ≤ ms)
    (kk : ∀ (r : Int64) (G1 : gh_H) (H1 : Heap) (locs1 : List Loc), post' r G1 → gh_h D cl AC A G1 H1 → va_S A s.heap H1 locs1 → W p l e R s m args below meth c H1 locs1 (cells + mc') (slots + ms') (vx_MQ below Qc (gh_X D cl AC px A) args s mc ms A) (F0 m (pc + 3) ls (.long r :: rest))) : W p l e R s m args below meth c H locs cells slots (vx_MQ below Qc (gh_X D cl AC px A) args s mc ms A) (F0 m pc ls st0) :=
  gh_cxl hr hP hS hA (fun E ce q9 G1 H1 locs1 hp hP1 hS1 h1 h2 h3 => gh_out hlocks hout h1 h2 h3 hp hP1 hS1 hc hs) kk
theorem gh_cq {post' : Option Nat → gh_H → Prop} (hlocks : meth.locks = false) (hout : ∀ x ∈ c.exceptionTable.toList, covers x pc = false) (hr : vx_Run p l e R s m args below meth c H locs cells slots mc' ms' (F0 m pc ls st0) rest (va_Qq post' (gh_B D cl AC (gh_A G H.size)) (gh_A G H.size) a) (gh_X D cl AC px (gh_A G H.size)) (gh_A G H.size)) (hP : gh_h D cl AC A G H) (hS : va_S A s.heap H locs) (hA : ∀ q, s.heap.size ≤ q → A q) (hc : cells + mc' ≤ mc) (hs : slots + ms' ≤ ms)
    (kk : ∀ (r : Option Nat) (G1 : gh_H) (H1 : Heap) (locs1 : List Loc), post' r G1 → gh_h D cl AC A G1 H1 → va_S A s.heap H1 locs1 → W p l e R s m args below meth c H1 locs1 (cells + mc') (slots + ms') (vx_MQ below Qc (gh_X D cl AC px A) args s mc ms A) (F0 m (pc + 3) ls (va_rf r :: rest))) : W p l e R s m args below meth c H locs cells slots (vx_MQ below Qc (gh_X D cl AC px A) args s mc ms A) (F0 m pc ls st0) :=
  gh_cxq hr hP hS hA (fun E ce q9 G1 H1 locs1 hp hP1 hS1 h1 h2 h3 => gh_out hlocks hout h1 h2 h3 hp hP1 hS1 hc hs) kk
theorem gh_cv_ {post' : gh_H → Prop} (hlocks : meth.locks = false) (hout : ∀ x ∈ c.exceptionTable.toList, covers x pc = false) (hr : vx_Run p l e R s m args below meth c H locs cells slots mc' ms' (F0 m pc ls st0) rest (va_Qv post' (gh_B D cl AC (gh_A G H.size)) (gh_A G H.size) a) (gh_X D cl AC px (gh_A G H.size)) (gh_A G H.size)) (hP : gh_h D cl AC A G H) (hS : va_S A s.heap H locs) (hA : ∀ q, s.heap.size ≤ q → A q) (hc : cells + mc' ≤ mc) (hs : slots + ms' ≤ ms)
    (kk : ∀ (G1 : gh_H) (H1 : Heap) (locs1 : List Loc), post' G1 → gh_h D cl AC A G1 H1 → va_S A s.heap H1 locs1 → W p l e R s m args below meth c H1 locs1 (cells + mc') (slots + ms') (vx_MQ below Qc (gh_X D cl AC px A) args s mc ms A) (F0 m (pc + 3) ls rest)) : W p l e R s m args below meth c H locs cells slots (vx_MQ below Qc (gh_X D cl AC px A) args s mc ms A) (F0 m pc ls st0) :=
  gh_cxv hr hP hS hA (fun E ce q9 G1 H1 locs1 hp hP1 hS1 h1 h2 h3 => gh_out hlocks hout h1 h2 h3 hp hP1 hS1 hc hs) kk
end GHC2
end GHC
