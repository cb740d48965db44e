/-! The ghost heap: what a walk knows of the cells, by their addresses. An array has a kind k (its class is AC k), an object its class's number. -/
section GHA
abbrev gh_E : Type := (Nat × vp_A) ⊕ (Nat × List Value)
abbrev gh_H : Type := Nat → Option gh_E
def gh_cv (AC : Nat → ClassId) (x : gh_E) : va_E := match x with
  | .inl a => .inl (AC a.1, a.2)
  | .inr o => .inr o
def gh_up (G : gh_H) (a : Nat) (x : gh_E) : gh_H := fun b => if b = a then some x else G b
theorem gh_up_s (G : gh_H) (a : Nat) (x : gh_E) : gh_up G a x a = some x := by simp [gh_up]
theorem gh_up_n {G : gh_H} {a b : Nat} {x : gh_E} (h : b ≠ a) : gh_up G a x b = G b := by simp [gh_up, h]
/-- the world ws holds all that G tells -/
def gh_in (AC : Nat → ClassId) (G : gh_H) (ws : va_W) : Prop := ∀ (a : Nat) (x : gh_E), G a = some x → ∃ k : Nat, ws[k]? = some (a, gh_cv AC x)
def gh_h (D : va_G) (cl : List vw_C) (AC : Nat → ClassId) (A : Nat → Prop) (G : gh_H) (H : Heap) : Prop := ∃ ws : va_W, va_P D cl ws H ∧ va_D A ws ∧ gh_in AC G ws
/-- what a method over G may write: G's cells, and new ones -/
def gh_A (G : gh_H) (sz : Nat) : Nat → Prop := fun q => G q ≠ none ∨ sz ≤ q
theorem gh_set {A : Nat → Prop} {AC : Nat → ClassId} {G : gh_H} {ws : va_W} {q0 a : Nat} {e0 : va_E} (hG : gh_in AC G ws) (hq : ws[q0]? = some (a, e0)) (x : gh_E) : gh_in AC (gh_up G a x) (ws.set q0 (a, gh_cv AC x)) := by
  intro b y h
  by_cases hb : b = a
  · subst hb
    rw [gh_up_s] at h
    cases h
    exact ⟨q0, List.getElem?_set_self (List.getElem?_eq_some_iff.mp hq).1⟩
  · rw [gh_up_n hb] at h
    obtain ⟨k, hk⟩ := hG b y h
    refine ⟨k, ?_⟩
    rw [List.getElem?_set_ne (fun e => ?_)]
    · exact hk
    · subst e
      rw [hq] at hk
      cases hk
      exact hb rfl
theorem gh_push {AC : Nat → ClassId} {G : gh_H} {ws : va_W} {q : Nat} (hG : gh_in AC G ws) (x : gh_E) : gh_in AC (gh_up G q x) (ws ++ [(q, gh_cv AC x)]) := by
  intro b y h
  by_cases hb : b = q
  · subst hb
    rw [gh_up_s] at h
    cases h
    exact ⟨ws.length, by rw [List.getElem?_append_right (Nat.le_refl _), Nat.sub_self]; rfl⟩
  · rw [gh_up_n hb] at h
    obtain ⟨k, hk⟩ := hG b y h
    exact ⟨k, by rw [List.getElem?_append_left (List.getElem?_eq_some_iff.mp hk).1]; exact hk⟩
theorem gh_fresh {A : Nat → Prop} {AC : Nat → ClassId} {G : gh_H} {ws : va_W} {q : Nat} {e0 : va_E} (hG : gh_in AC G ws) (hD : va_D A (ws ++ [(q, e0)])) : G q = none := by
  cases h : G q with
  | none => rfl
  | some x =>
    obtain ⟨k, hk⟩ := hG q x h
    have hl := (List.getElem?_eq_some_iff.mp hk).1
    have h1 : (ws ++ [(q, e0)])[k]? = some (q, gh_cv AC x) := by rw [List.getElem?_append_left hl]; exact hk
    have h2 : (ws ++ [(q, e0)])[ws.length]? = some (q, e0) := by rw [List.getElem?_append_right (Nat.le_refl _), Nat.sub_self]; rfl
    have := hD.1 _ _ _ _ h1 h2 rfl
    omega
theorem gh_h.lt {D : va_G} {cl : List vw_C} {AC : Nat → ClassId} {A : Nat → Prop} {G : gh_H} {H : Heap} (h : gh_h D cl AC A G H) {a : Nat} (ha : G a ≠ none) : a < H.size := by
  obtain ⟨ws, hP, -, hG⟩ := h
  cases hx : G a with
  | none => exact absurd hx ha
  | some x =>
    obtain ⟨k, hk⟩ := hG a x hx
    exact (hP k _ hk).lt
theorem gh_h.weaken {D : va_G} {cl : List vw_C} {AC : Nat → ClassId} {A B : Nat → Prop} {G : gh_H} {H : Heap} (h : gh_h D cl AC A G H) (hAB : ∀ q, A q → B q) : gh_h D cl AC B G H := by
  obtain ⟨ws, hP, hD, hG⟩ := h
  exact ⟨ws, hP, hD.weaken (fun _ _ _ z => hAB _ z), hG⟩
theorem gh_h.sub {D : va_G} {cl : List vw_C} {AC : Nat → ClassId} {A : Nat → Prop} {G G' : gh_H} {H : Heap} (h : gh_h D cl AC A G H) (hs : ∀ a x, G' a = some x → G a = some x) : gh_h D cl AC A G' H := by
  obtain ⟨ws, hP, hD, hG⟩ := h
  exact ⟨ws, hP, hD, fun a x hx => hG a x (hs a x hx)⟩
theorem gh_h.inA {D : va_G} {cl : List vw_C} {AC : Nat → ClassId} {A : Nat → Prop} {G : gh_H} {H : Heap} (h : gh_h D cl AC A G H) {a : Nat} (ha : G a ≠ none) : A a := by
  obtain ⟨ws, -, hD, hG⟩ := h
  cases hx : G a with
  | none => exact absurd hx ha
  | some x =>
    obtain ⟨k, hk⟩ := hG a x hx
    exact hD.2 k _ hk
/-- of a larger world only G's own cells -/
theorem gh_h.own {D : va_G} {cl : List vw_C} {AC : Nat → ClassId} {A : Nat → Prop} {G : gh_H} {H : Heap} (h : gh_h D cl AC A G H) : gh_h D cl AC (fun q => G q ≠ none) G H := by
  obtain ⟨ws, hP, hD, hG⟩ := h
  have hpw : ws.Pairwise (fun p q => p.1 ≠ q.1) := by
    rw [List.pairwise_iff_getElem]
    intro i j hi hj hij he
    have := hD.1 i j _ _ (List.getElem?_eq_getElem hi) (List.getElem?_eq_getElem hj) he
    omega
  have hpf : (ws.filter (fun q => (G q.1).isSome)).Pairwise (fun p q => p.1 ≠ q.1) := hpw.filter _
  rw [List.pairwise_iff_getElem] at hpf
  refine ⟨ws.filter (fun q => (G q.1).isSome), ?_, ⟨?_, ?_⟩, ?_⟩
  · intro k q hk
    obtain ⟨i, hi⟩ := List.getElem?_of_mem (List.mem_filter.mp (List.mem_of_getElem? hk)).1
    exact hP i q hi
  · intro i j p q hi hj he
    obtain ⟨li, ei⟩ := List.getElem?_eq_some_iff.mp hi
    obtain ⟨lj, ej⟩ := List.getElem?_eq_some_iff.mp hj
    rcases Nat.lt_trichotomy i j with h | h | h
    · exact absurd (by rw [ei, ej]; exact he) (hpf i j li lj h)
    · exact h
    · exact absurd (by rw [ei, ej]; exact he.symm) (hpf j i lj li h)
  · intro k q hk hn
    have h9 : (G q.1).isSome = true := (List.mem_filter.mp (List.mem_of_getElem? hk)).2
    rw [hn] at h9
    cases h9
  · intro a x hx
    obtain ⟨k, hk⟩ := hG a x hx
    exact List.getElem?_of_mem (List.mem_filter.mpr ⟨List.mem_of_getElem? hk, by show (G a).isSome = true; rw [hx]; rfl⟩)
theorem gh_h.selfA {D : va_G} {cl : List vw_C} {AC : Nat → ClassId} {A : Nat → Prop} {G : gh_H} {H : Heap} {sz : Nat} (h : gh_h D cl AC A G H) : gh_h D cl AC (gh_A G sz) G H := h.own.weaken (fun _ z => Or.inl z)
theorem gh_h.subA {D : va_G} {cl : List vw_C} {AC : Nat → ClassId} {A : Nat → Prop} {G : gh_H} {H H0 : Heap} {locs : List Loc} (h : gh_h D cl AC A G H) (hS : va_S A H0 H locs) (hA : ∀ q, H0.size ≤ q → A q) : ∀ q, gh_A G H.size q → A q := by
  intro q hq
  rcases hq with z | z
  · exact h.inA z
  · exact hA q (Nat.le_trans hS.1 z)
/-- G's own cells, where none of them has changed -/
theorem gh_h.kept {D : va_G} {cl : List vw_C} {AC : Nat → ClassId} {A : Nat → Prop} {G : gh_H} {H H1 : Heap} (h : gh_h D cl AC A G H) (hk : ∀ a, G a ≠ none → H1[a]? = H[a]?) : gh_h D cl AC (fun q => G q ≠ none) G H1 := by
  obtain ⟨ws, hP, hD, hG⟩ := h.own
  exact ⟨ws, hP.kept (fun k q hq => hk q.1 (hD.2 k q hq)), hD, hG⟩
/-- two ghosts side by side -/
def gh_j (G F : gh_H) : gh_H := fun a => match G a with
  | some x => some x
  | none => F a
theorem gh_h.join {D : va_G} {cl : List vw_C} {AC : Nat → ClassId} {A A0 : Nat → Prop} {G F : gh_H} {H : Heap} (h : gh_h D cl AC A G H) (hF : gh_h D cl AC (fun q => F q ≠ none) F H) (hd : ∀ q, A q → F q = none) (h1 : ∀ q, A q → A0 q) (h2 : ∀ q, F q ≠ none → A0 q) : gh_h D cl AC A0 (gh_j G F) H := by
  obtain ⟨w1, p1, d1, g1⟩ := h
  obtain ⟨w2, p2, d2, g2⟩ := hF
  refine ⟨w1 ++ w2, p1.app p2, va_D.app (d1.weaken (fun _ _ _ z => h1 _ z)) (d2.weaken (fun _ _ _ z => h2 _ z)) ?_, ?_⟩
  · intro i j p q hp hq e
    have z1 := hd _ (d1.2 i p hp)
    have z2 := d2.2 j q hq
    rw [e] at z1
    exact z2 z1
  · intro a x hx
    unfold gh_j at hx
    cases hg : G a with
    | some y =>
      rw [hg] at hx
      have hxy : y = x := Option.some.inj hx
      subst hxy
      obtain ⟨k, hk⟩ := g1 a y hg
      exact ⟨k, by rw [List.getElem?_append_left (List.getElem?_eq_some_iff.mp hk).1]; exact hk⟩
    | none =>
      rw [hg] at hx
      obtain ⟨k, hk⟩ := g2 a x hx
      exact ⟨w1.length + k, by rw [List.getElem?_append_right (Nat.le_add_right _ _), Nat.add_sub_cancel_left]; exact hk⟩
end GHA
/-! rows: an instruction that reads or writes cells, over the ghost heap -/
section GHR
variable {p : Program} {l : Launch} {e : Env} {R : Room} {s : State} {m : MethodId} {args : Array Value} {below : List Frame} {meth : Method} {c : Code} {H : Heap} {locs : List Loc} {cells slots : Nat} {Q : State → Prop}
variable {cc : ByteArray} {pc : Nat} {ls : Array Slot} {rest : List Value} {D : va_G} {cl : List vw_C} {AC : Nat → ClassId} {A : Nat → Prop} {a : Nat} {tys : List (ClassId × FieldType)} {H0 : Heap} {G : gh_H}
theorem gh_get (hexec : p.tables.exec = Jvm.exec) (hb : c.code = cc) {own ref C : String} {T : u_T} {N ci index : Nat} {Ts : List Cond} (hts : ∀ w ∈ Ts, w.before args s = true) (hin : ∀ w ∈ u_ws C T N, w ∈ Ts) (hown : s.vm.findClass own = some m.cls) (hK : va_K D cl tys s) (hP : gh_h D cl AC A G H) {fs : List Value} (he : G a = some (.inr (ci, fs))) (hc : cl[ci]? = some (C, T, N)) (k : Nat) (hk : k < N) (hlink : (Cond.fieldLink own index ref (T k).2.1 (T k).2.2.1).before args s = true) (hsame : ∀ x, s.fieldFound? (T k).1 (T k).2.1 (T k).2.2.1 = some x → s.fieldFound? ref (T k).2.1 (T k).2.2.1 = some x) {v : Value} (hv : fs[k]? = some v) (hdg : decode cc pc = .ok (.getfield index, 3))
    (kk : W p l e R s m args below meth c H locs cells slots Q (F0 m (pc + 3) ls (v :: rest))) : W p l e R s m args below meth c H locs cells slots Q (F0 m pc ls (.ref a :: rest)) := by
  obtain ⟨ws, hW, -, hG⟩ := hP
  obtain ⟨q0, hq⟩ := hG a _ he
  exact va_get hexec hb hts hin hown hK hW q0 hq hc k hk hlink hsame hv hdg kk
theorem gh_put (hexec : p.tables.exec = Jvm.exec) (hb : c.code = cc) {own ref C : String} {T : u_T} {N ci index : Nat} {Ts : List Cond} (hts : ∀ w ∈ Ts, w.before args s = true) (hin : ∀ w ∈ u_ws C T N, w ∈ Ts) (ty0 : Nat → FieldType) (hty : ∀ k, k < N → parseFieldDescriptor (T k).2.2.1 = some (ty0 k)) (hnm : ∀ a, a < N → ∀ b, b < N → a ≠ b → (T a).2.1 ≠ (T b).2.1) (hown : s.vm.findClass own = some m.cls) (hK : va_K D cl tys s) (hP : gh_h D cl AC A G H) (hS0 : va_S A H0 H locs) {fs : List Value} (he : G a = some (.inr (ci, fs))) (hc : cl[ci]? = some (C, T, N)) (k : Nat) (hk : k < N) (hlink : (Cond.fieldLink own index ref (T k).2.1 (T k).2.2.1).before args s = true) (hsame : ∀ x, s.fieldFound? (T k).1 (T k).2.1 (T k).2.2.1 = some x → s.fieldFound? ref (T k).2.1 (T k).2.2.1 = some x) (hfin : (T k).2.2.2 = false) {ty : FieldType} {v : Value} (hd : parseFieldDescriptor (T k).2.2.1 = some ty) (hn : narrow ty v = v) (hfit : fits ty v = true) (hl : k < fs.length)
    (hdg : decode cc pc = .ok (.putfield index, 3)) (kk : ∀ (G1 : gh_H) (H1 : Heap) (locs1 : List Loc), G1 = gh_up G a (.inr (ci, fs.set k v)) → gh_h D cl AC A G1 H1 → va_S A H0 H1 locs1 → W p l e R s m args below meth c H1 locs1 cells slots Q (F0 m (pc + 3) ls rest)) : W p l e R s m args below meth c H locs cells slots Q (F0 m pc ls (v :: .ref a :: rest)) := by
  obtain ⟨ws, hW, hD, hG⟩ := hP
  obtain ⟨q0, hq⟩ := hG a _ he
  exact va_put hexec hb hts hin ty0 hty hnm hown hK hW hD hS0 q0 hq hc k hk hlink hsame hfin hd hn hfit hl hdg (fun H1 locs1 h1 h2 h3 => kk _ H1 locs1 rfl ⟨_, h1, h2, gh_set (A := A) hG hq _⟩ h3)
theorem gh_putF (hexec : p.tables.exec = Jvm.exec) (hb : c.code = cc) {own ref C : String} {T : u_T} {N ci index : Nat} {Ts : List Cond} (hts : ∀ w ∈ Ts, w.before args s = true) (hin : ∀ w ∈ u_ws C T N, w ∈ Ts) (ty0 : Nat → FieldType) (hty : ∀ k, k < N → parseFieldDescriptor (T k).2.2.1 = some (ty0 k)) (hnm : ∀ a, a < N → ∀ b, b < N → a ≠ b → (T a).2.1 ≠ (T b).2.1) (hown : s.vm.findClass own = some m.cls) (hK : va_K D cl tys s) (hP : gh_h D cl AC A G H) (hS0 : va_S A H0 H locs) {fs : List Value} (he : G a = some (.inr (ci, fs))) (hc : cl[ci]? = some (C, T, N)) (k : Nat) (hk : k < N) (hlink : (Cond.fieldLink own index ref (T k).2.1 (T k).2.2.1).before args s = true) (hsame : ∀ x, s.fieldFound? (T k).1 (T k).2.1 (T k).2.2.1 = some x → s.fieldFound? ref (T k).2.1 (T k).2.2.1 = some x) (hfin : (T k).2.2.2 = true) (hin2 : meth.name = "<init>") (hdecl : (T k).1 = own) {ty : FieldType} {v : Value} (hd : parseFieldDescriptor (T k).2.2.1 = some ty) (hn : narrow ty v = v) (hfit : fits ty v = true) (hl : k < fs.length)
    (hdg : decode cc pc = .ok (.putfield index, 3)) (kk : ∀ (G1 : gh_H) (H1 : Heap) (locs1 : List Loc), G1 = gh_up G a (.inr (ci, fs.set k v)) → gh_h D cl AC A G1 H1 → va_S A H0 H1 locs1 → W p l e R s m args below meth c H1 locs1 cells slots Q (F0 m (pc + 3) ls rest)) : W p l e R s m args below meth c H locs cells slots Q (F0 m pc ls (v :: .ref a :: rest)) := by
  obtain ⟨ws, hW, hD, hG⟩ := hP
  obtain ⟨q0, hq⟩ := hG a _ he
  exact va_putF hexec hb hts hin ty0 hty hnm hown hK hW hD hS0 q0 hq hc k hk hlink hsame hfin hin2 hdecl hd hn hfit hl hdg (fun H1 locs1 h1 h2 h3 => kk _ H1 locs1 rfl ⟨_, h1, h2, gh_set (A := A) hG hq _⟩ h3)
theorem gh_iald (hexec : p.tables.exec = Jvm.exec) (hb : c.code = cc) (hK : va_K D cl tys s) (hP : gh_h D cl AC A G H) {k n : Nat} {f : Nat → Int32} (he : G a = some (.inl (k, n, .inl f))) (ht : tys[k]? = some (AC k, .int)) {i : Int32} (hin : vp_in i n) (hdg : decode cc pc = .ok (.iaload, 1))
    (kk : W p l e R s m args below meth c H locs cells slots Q (F0 m (pc + 1) ls (.int (f i.toNatClampNeg) :: rest))) : W p l e R s m args below meth c H locs cells slots Q (F0 m pc ls (.int i :: .ref a :: rest)) := by
  obtain ⟨ws, hW, -, hG⟩ := hP
  obtain ⟨q0, hq⟩ := hG a _ he
  exact va_iald hexec hb hK hW q0 k hq ht hin hdg kk
theorem gh_lald (hexec : p.tables.exec = Jvm.exec) (hb : c.code = cc) (hK : va_K D cl tys s) (hP : gh_h D cl AC A G H) {k n : Nat} {f : Nat → Int64} (he : G a = some (.inl (k, n, .inr (.inl f)))) (ht : tys[k]? = some (AC k, .long)) {i : Int32} (hin : vp_in i n) (hdg : decode cc pc = .ok (.laload, 1))
    (kk : W p l e R s m args below meth c H locs cells slots Q (F0 m (pc + 1) ls (.long (f i.toNatClampNeg) :: rest))) : W p l e R s m args below meth c H locs cells slots Q (F0 m pc ls (.int i :: .ref a :: rest)) := by
  obtain ⟨ws, hW, -, hG⟩ := hP
  obtain ⟨q0, hq⟩ := hG a _ he
  exact va_lald hexec hb hK hW q0 k hq ht hin hdg kk
theorem gh_zald (hexec : p.tables.exec = Jvm.exec) (hb : c.code = cc) (hK : va_K D cl tys s) (hP : gh_h D cl AC A G H) {k n : Nat} {f : Nat → Int32} (he : G a = some (.inl (k, n, .inl f))) (ht : tys[k]? = some (AC k, .boolean)) {i : Int32} (hin : vp_in i n) (hdg : decode cc pc = .ok (.baload, 1))
    (kk : W p l e R s m args below meth c H locs cells slots Q (F0 m (pc + 1) ls (.int (f i.toNatClampNeg) :: rest))) : W p l e R s m args below meth c H locs cells slots Q (F0 m pc ls (.int i :: .ref a :: rest)) := by
  obtain ⟨ws, hW, -, hG⟩ := hP
  obtain ⟨q0, hq⟩ := hG a _ he
  exact va_zald hexec hb hK hW q0 k hq ht hin hdg kk
theorem gh_aald (hexec : p.tables.exec = Jvm.exec) (hb : c.code = cc) (hK : va_K D cl tys s) (hP : gh_h D cl AC A G H) {k n : Nat} {C : String} {f : Nat → Option Nat} (he : G a = some (.inl (k, n, .inr (.inr (.inr (.inr f)))))) (ht : tys[k]? = some (AC k, .object C)) {i : Int32} (hin : vp_in i n) (hdg : decode cc pc = .ok (.aaload, 1))
    (kk : W p l e R s m args below meth c H locs cells slots Q (F0 m (pc + 1) ls (va_rf (f i.toNatClampNeg) :: rest))) : W p l e R s m args below meth c H locs cells slots Q (F0 m pc ls (.int i :: .ref a :: rest)) := by
  obtain ⟨ws, hW, -, hG⟩ := hP
  obtain ⟨q0, hq⟩ := hG a _ he
  exact va_aldq hexec hb hK hW q0 k hq ht hin hdg kk
theorem gh_alen (hexec : p.tables.exec = Jvm.exec) (hb : c.code = cc) (hK : va_K D cl tys s) (hP : gh_h D cl AC A G H) {k : Nat} {x : vp_A} (he : G a = some (.inl (k, x))) {ty : FieldType} (ht : tys[k]? = some (AC k, ty)) {v : Int32} (hv : Int32.ofNat x.1 = v) (hdg : decode cc pc = .ok (.arraylength, 1))
    (kk : W p l e R s m args below meth c H locs cells slots Q (F0 m (pc + 1) ls (.int v :: rest))) : W p l e R s m args below meth c H locs cells slots Q (F0 m pc ls (.ref a :: rest)) := by
  obtain ⟨ws, hW, -, hG⟩ := hP
  obtain ⟨q0, hq⟩ := hG a _ he
  exact va_alen hexec hb hK hW q0 k hq ht hv hdg kk
theorem gh_iast (hexec : p.tables.exec = Jvm.exec) (hb : c.code = cc) (hK : va_K D cl tys s) (hP : gh_h D cl AC A G H) (hS : va_S A H0 H locs) {k n : Nat} {f : Nat → Int32} (he : G a = some (.inl (k, n, .inl f))) (ht : tys[k]? = some (AC k, .int)) {i x : Int32} (hin : vp_in i n) (hdg : decode cc pc = .ok (.iastore, 1))
    (kk : ∀ (G1 : gh_H) (H1 : Heap) (locs1 : List Loc), G1 = gh_up G a (.inl (k, n, .inl (upd f i.toNatClampNeg x))) → gh_h D cl AC A G1 H1 → va_S A H0 H1 locs1 → W p l e R s m args below meth c H1 locs1 cells slots Q (F0 m (pc + 1) ls rest)) : W p l e R s m args below meth c H locs cells slots Q (F0 m pc ls (.int x :: .int i :: .ref a :: rest)) := by
  obtain ⟨ws, hW, hD, hG⟩ := hP
  obtain ⟨q0, hq⟩ := hG a _ he
  exact va_iast hexec hb hK hW hD hS q0 k hq ht hin hdg (fun H1 locs1 h1 h2 h3 => kk _ H1 locs1 rfl ⟨_, h1, h2, gh_set (A := A) hG hq _⟩ h3)
theorem gh_last (hexec : p.tables.exec = Jvm.exec) (hb : c.code = cc) (hK : va_K D cl tys s) (hP : gh_h D cl AC A G H) (hS : va_S A H0 H locs) {k n : Nat} {f : Nat → Int64} (he : G a = some (.inl (k, n, .inr (.inl f)))) (ht : tys[k]? = some (AC k, .long)) {i : Int32} {x : Int64} (hin : vp_in i n) (hdg : decode cc pc = .ok (.lastore, 1))
    (kk : ∀ (G1 : gh_H) (H1 : Heap) (locs1 : List Loc), G1 = gh_up G a (.inl (k, n, .inr (.inl (vp_updL f i.toNatClampNeg x)))) → gh_h D cl AC A G1 H1 → va_S A H0 H1 locs1 → W p l e R s m args below meth c H1 locs1 cells slots Q (F0 m (pc + 1) ls rest)) : W p l e R s m args below meth c H locs cells slots Q (F0 m pc ls (.long x :: .int i :: .ref a :: rest)) := by
  obtain ⟨ws, hW, hD, hG⟩ := hP
  obtain ⟨q0, hq⟩ := hG a _ he
  exact va_last hexec hb hK hW hD hS q0 k hq ht hin hdg (fun H1 locs1 h1 h2 h3 => kk _ H1 locs1 rfl ⟨_, h1, h2, gh_set (A := A) hG hq _⟩ h3)
theorem gh_aast (hexec : p.tables.exec = Jvm.exec) (hb : c.code = cc) (hK : va_K D cl tys s) (hP : gh_h D cl AC A G H) (hS : va_S A H0 H locs) {k n v ci : Nat} {r : vw_C} {vs : List Value} {f : Nat → Option Nat} (he : G a = some (.inl (k, n, .inr (.inr (.inr (.inr f)))))) (ht : tys[k]? = some (AC k, .object r.1)) (hv : G v = some (.inr (ci, vs))) (hc : cl[ci]? = some r) {i : Int32} (hin : vp_in i n) (hdg : decode cc pc = .ok (.aastore, 1))
    (kk : ∀ (G1 : gh_H) (H1 : Heap) (locs1 : List Loc), G1 = gh_up G a (.inl (k, n, .inr (.inr (.inr (.inr (va_up f i.toNatClampNeg (some v))))))) → gh_h D cl AC A G1 H1 → va_S A H0 H1 locs1 → W p l e R s m args below meth c H1 locs1 cells slots Q (F0 m (pc + 1) ls rest)) : W p l e R s m args below meth c H locs cells slots Q (F0 m pc ls (.ref v :: .int i :: .ref a :: rest)) := by
  obtain ⟨ws, hW, hD, hG⟩ := hP
  obtain ⟨q0, hq⟩ := hG a _ he
  obtain ⟨q1, hq1⟩ := hG v _ hv
  exact va_astq hexec hb hK hW hD hS q0 k q1 ci hq ht hq1 hc hin hdg (fun H1 locs1 h1 h2 h3 => kk _ H1 locs1 rfl ⟨_, h1, h2, gh_set (A := A) hG hq _⟩ h3)
theorem gh_aastN (hexec : p.tables.exec = Jvm.exec) (hb : c.code = cc) (hK : va_K D cl tys s) (hP : gh_h D cl AC A G H) (hS : va_S A H0 H locs) {k n : Nat} {C : String} {f : Nat → Option Nat} (he : G a = some (.inl (k, n, .inr (.inr (.inr (.inr f)))))) (ht : tys[k]? = some (AC k, .object C)) {i : Int32} (hin : vp_in i n) (hdg : decode cc pc = .ok (.aastore, 1))
    (kk : ∀ (G1 : gh_H) (H1 : Heap) (locs1 : List Loc), G1 = gh_up G a (.inl (k, n, .inr (.inr (.inr (.inr (va_up f i.toNatClampNeg none)))))) → gh_h D cl AC A G1 H1 → va_S A H0 H1 locs1 → W p l e R s m args below meth c H1 locs1 cells slots Q (F0 m (pc + 1) ls rest)) : W p l e R s m args below meth c H locs cells slots Q (F0 m pc ls (.null :: .int i :: .ref a :: rest)) := by
  obtain ⟨ws, hW, hD, hG⟩ := hP
  obtain ⟨q0, hq⟩ := hG a _ he
  exact va_astqN hexec hb hK hW hD hS q0 k hq ht hin hdg (fun H1 locs1 h1 h2 h3 => kk _ H1 locs1 rfl ⟨_, h1, h2, gh_set (A := A) hG hq _⟩ h3)
theorem gh_new (hexec : p.tables.exec = Jvm.exec) (hb : c.code = cc) {own C : String} {T : u_T} {N ci index : Nat} {Ts : List Cond} (hts : ∀ w ∈ Ts, w.before args s = true) (hin : ∀ w ∈ u_ws C T N, w ∈ Ts) (ty : Nat → FieldType) (hty : ∀ k, k < N → parseFieldDescriptor (T k).2.2.1 = some (ty k)) (hown : s.vm.findClass own = some m.cls) (hcl : (Cond.classLink own index C).before args s = true) (hinst : (Cond.instantiable C N).before args s = true) (hini : (Cond.initialized C).before args s = true)
    (hK : va_K D cl tys s) (hP : gh_h D cl AC A G H) (hS : va_S A H0 H locs) (hA : ∀ q, H0.size ≤ q → A q) (hc : cl[ci]? = some (C, T, N)) {fs : List Value} (hfs : ∀ j, j < N → defaultValue (ty j) = vp_V fs j) (hcells : cells + 1 ≤ R.cells) (hslots : slots + N ≤ R.slots) (hdg : decode cc pc = .ok (.new index, 3))
    (kk : ∀ (q : Nat) (G1 : gh_H) (H1 : Heap), G q = none → G1 = gh_up G q (.inr (ci, fs)) → gh_h D cl AC A G1 H1 → va_S A H0 H1 locs →
      W p l e R s m args below meth c H1 locs (cells + 1) (slots + N) Q (F0 m (pc + 3) ls (.ref q :: rest))) : W p l e R s m args below meth c H locs cells slots Q (F0 m pc ls rest) := by
  obtain ⟨ws, hW, hD, hG⟩ := hP
  exact va_new hexec hb hts hin ty hty hown hcl hinst hini hK hW hD hS hA hc hfs hcells hslots hdg (fun q H1 h1 h2 h3 => kk q _ H1 (gh_fresh hG h2) rfl ⟨_, h1, h2, gh_push hG _⟩ h3)
theorem gh_newq (hexec : p.tables.exec = Jvm.exec) (hb : c.code = cc) {own C : String} {index k : Nat} (hown : s.vm.findClass own = some m.cls) (hclink : (Cond.classLink own index C).before args s = true) (hover : va_AO C s) (hK : va_K D cl tys s) (ht : tys[k]? = some (AC k, .object C)) (hP : gh_h D cl AC A G H) (hS : va_S A H0 H locs) (hA : ∀ q, H0.size ≤ q → A q)
    {n : Int32} {N' : Nat} (hn : ¬ n < 0) (hN : n.toNatClampNeg = N') (hbytes : N' * 4 ≤ 536870912) (hcells : cells + 1 ≤ R.cells) (hslots : slots + N' ≤ R.slots) (hdg : decode cc pc = .ok (.anewarray index, 3))
    (kk : ∀ (q : Nat) (G1 : gh_H) (H1 : Heap), G q = none → G1 = gh_up G q (.inl (k, N', .inr (.inr (.inr (.inr (fun _ => none)))))) → gh_h D cl AC A G1 H1 → va_S A H0 H1 locs →
      W p l e R s m args below meth c H1 locs (cells + 1) (slots + N') Q (F0 m (pc + 3) ls (.ref q :: rest))) : W p l e R s m args below meth c H locs cells slots Q (F0 m pc ls (.int n :: rest)) := by
  obtain ⟨ws, hW, hD, hG⟩ := hP
  refine va_newq hexec hb hown hclink hover hK hW hD hS hA hn hN hbytes hcells hslots hdg (fun q cA H1 hK1 h1 h2 h3 => ?_)
  have e1 := (hK1.2 tys.length (cA, .object C) (by rw [List.getElem?_append_right (Nat.le_refl _), Nat.sub_self]; rfl)).2
  have e2 := (hK.2 k _ ht).2
  obtain ⟨_, _, _, _, _, f1⟩ := e1
  obtain ⟨_, _, _, _, _, f2⟩ := e2
  cases Option.some.inj (f1.symm.trans f2)
  exact kk q _ H1 (gh_fresh hG h2) rfl ⟨_, h1, h2, gh_push hG (.inl (k, N', .inr (.inr (.inr (.inr (fun _ => none))))))⟩ h3
theorem gh_newi (hexec : p.tables.exec = Jvm.exec) (hb : c.code = cc) {k : Nat} (harr : (Cond.arrayClass .int).before args s = true) (hK : va_K D cl tys s) (ht : tys[k]? = some (AC k, .int)) (hP : gh_h D cl AC A G H) (hS : va_S A H0 H locs) (hA : ∀ q, H0.size ≤ q → A q)
    {n : Int32} {N' : Nat} (hn : ¬ n < 0) (hN : n.toNatClampNeg = N') (hbytes : N' * componentBytes .int ≤ 536870912) (hcells : cells + 1 ≤ R.cells) (hslots : slots + N' ≤ R.slots) (hdg : decode cc pc = .ok (.newarray .int, 2))
    (kk : ∀ (q : Nat) (G1 : gh_H) (H1 : Heap), G q = none → G1 = gh_up G q (.inl (k, N', .inl (fun _ => 0))) → gh_h D cl AC A G1 H1 → va_S A H0 H1 locs →
      W p l e R s m args below meth c H1 locs (cells + 1) (slots + N') Q (F0 m (pc + 2) ls (.ref q :: rest))) : W p l e R s m args below meth c H locs cells slots Q (F0 m pc ls (.int n :: rest)) := by
  obtain ⟨ws, hW, hD, hG⟩ := hP
  refine va_newa (atype := .int) (ty := .int) (N' := N') (a0 := (N', .inl (fun _ => 0))) hexec hb harr rfl hK hW hD hS hA (fun cA => by rw [vp_cell_i]; rfl) hn hN hbytes hcells hslots hdg (fun q cA H1 hK1 h1 h2 h3 => ?_)
  have e1 := (hK1.2 tys.length (cA, .int) (by rw [List.getElem?_append_right (Nat.le_refl _), Nat.sub_self]; rfl)).2
  have e2 := (hK.2 k _ ht).2
  cases Option.some.inj (Eq.trans (Eq.symm e1) e2)
  exact kk q _ H1 (gh_fresh hG h2) rfl ⟨_, h1, h2, gh_push hG (.inl (k, N', .inl (fun _ => 0)))⟩ h3
theorem gh_newl (hexec : p.tables.exec = Jvm.exec) (hb : c.code = cc) {k : Nat} (harr : (Cond.arrayClass .long).before args s = true) (hK : va_K D cl tys s) (ht : tys[k]? = some (AC k, .long)) (hP : gh_h D cl AC A G H) (hS : va_S A H0 H locs) (hA : ∀ q, H0.size ≤ q → A q)
    {n : Int32} {N' : Nat} (hn : ¬ n < 0) (hN : n.toNatClampNeg = N') (hbytes : N' * componentBytes .long ≤ 536870912) (hcells : cells + 1 ≤ R.cells) (hslots : slots + N' ≤ R.slots) (hdg : decode cc pc = .ok (.newarray .long, 2))
    (kk : ∀ (q : Nat) (G1 : gh_H) (H1 : Heap), G q = none → G1 = gh_up G q (.inl (k, N', .inr (.inl (fun _ => 0)))) → gh_h D cl AC A G1 H1 → va_S A H0 H1 locs →
      W p l e R s m args below meth c H1 locs (cells + 1) (slots + N') Q (F0 m (pc + 2) ls (.ref q :: rest))) : W p l e R s m args below meth c H locs cells slots Q (F0 m pc ls (.int n :: rest)) := by
  obtain ⟨ws, hW, hD, hG⟩ := hP
  refine va_newa (atype := .long) (ty := .long) (N' := N') (a0 := (N', .inr (.inl (fun _ => 0)))) hexec hb harr rfl hK hW hD hS hA (fun cA => by rw [vp_cell_l]; rfl) hn hN hbytes hcells hslots hdg (fun q cA H1 hK1 h1 h2 h3 => ?_)
  have e1 := (hK1.2 tys.length (cA, .long) (by rw [List.getElem?_append_right (Nat.le_refl _), Nat.sub_self]; rfl)).2
  have e2 := (hK.2 k _ ht).2
  cases Option.some.inj (Eq.trans (Eq.symm e1) e2)
  exact kk q _ H1 (gh_fresh hG h2) rfl ⟨_, h1, h2, gh_push hG (.inl (k, N', .inr (.inl (fun _ => 0))))⟩ h3
theorem gh_newz (hexec : p.tables.exec = Jvm.exec) (hb : c.code = cc) {k : Nat} (harr : (Cond.arrayClass .boolean).before args s = true) (hK : va_K D cl tys s) (ht : tys[k]? = some (AC k, .boolean)) (hP : gh_h D cl AC A G H) (hS : va_S A H0 H locs) (hA : ∀ q, H0.size ≤ q → A q)
    {n : Int32} {N' : Nat} (hn : ¬ n < 0) (hN : n.toNatClampNeg = N') (hbytes : N' * componentBytes .boolean ≤ 536870912) (hcells : cells + 1 ≤ R.cells) (hslots : slots + N' ≤ R.slots) (hdg : decode cc pc = .ok (.newarray .boolean, 2))
    (kk : ∀ (q : Nat) (G1 : gh_H) (H1 : Heap), G q = none → G1 = gh_up G q (.inl (k, N', .inl (fun _ => 0))) → gh_h D cl AC A G1 H1 → va_S A H0 H1 locs →
      W p l e R s m args below meth c H1 locs (cells + 1) (slots + N') Q (F0 m (pc + 2) ls (.ref q :: rest))) : W p l e R s m args below meth c H locs cells slots Q (F0 m pc ls (.int n :: rest)) := by
  obtain ⟨ws, hW, hD, hG⟩ := hP
  refine va_newa (atype := .boolean) (ty := .boolean) (N' := N') (a0 := (N', .inl (fun _ => 0))) hexec hb harr rfl hK hW hD hS hA (fun cA => by rw [vp_cell_i]; rfl) hn hN hbytes hcells hslots hdg (fun q cA H1 hK1 h1 h2 h3 => ?_)
  have e1 := (hK1.2 tys.length (cA, .boolean) (by rw [List.getElem?_append_right (Nat.le_refl _), Nat.sub_self]; rfl)).2
  have e2 := (hK.2 k _ ht).2
  cases Option.some.inj (Eq.trans (Eq.symm e1) e2)
  exact kk q _ H1 (gh_fresh hG h2) rfl ⟨_, h1, h2, gh_push hG (.inl (k, N', .inl (fun _ => 0)))⟩ h3
theorem gh_zast (hexec : p.tables.exec = Jvm.exec) (hb : c.code = cc) (hK : va_K D cl tys s) (hP : gh_h D cl AC A G H) (hS : va_S A H0 H locs) {k n : Nat} {f : Nat → Int32} (he : G a = some (.inl (k, n, .inl f))) (ht : tys[k]? = some (AC k, .boolean)) {i x : Int32} (hin : vp_in i n) (hdg : decode cc pc = .ok (.bastore, 1))
    (kk : ∀ (G1 : gh_H) (H1 : Heap) (locs1 : List Loc), G1 = gh_up G a (.inl (k, n, .inl (upd f i.toNatClampNeg (vp_nar .boolean x)))) → gh_h D cl AC A G1 H1 → va_S A H0 H1 locs1 → W p l e R s m args below meth c H1 locs1 cells slots Q (F0 m (pc + 1) ls rest)) : W p l e R s m args below meth c H locs cells slots Q (F0 m pc ls (.int x :: .int i :: .ref a :: rest)) := by
  obtain ⟨ws, hW, hD, hG⟩ := hP
  obtain ⟨q0, hq⟩ := hG a _ he
  exact va_zast hexec hb hK hW hD hS q0 k hq ht hin hdg (fun H1 locs1 h1 h2 h3 => kk _ H1 locs1 rfl ⟨_, h1, h2, gh_set (A := A) hG hq _⟩ h3)
end GHR
