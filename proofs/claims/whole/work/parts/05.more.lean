/-! references that may be null, in locals and on the stack; calls with a part of the ghost heap set aside -/
section GHQ
variable {p : Program} {l : Launch} {e : Env} {R : Room} {s : State} {m : MethodId} {args : Array Value} {below : List Frame} {meth : Method} {c : Code} {H : Heap} {locs : List Loc} {cells slots : Nat} {Q : State → Prop}
variable {cc : ByteArray} {pc : Nat} {ls : Array Slot} {rest st0 : List Value} {D : va_G} {cl : List vw_C} {AC : Nat → ClassId} {A : Nat → Prop} {tys : List (ClassId × FieldType)} {G Gc F : gh_H} {En : (Nat → Prop) → State → Heap → Prop}
variable {mc' ms' : Nat} {a : Array Value}
theorem gh_cat (o : Option Nat) : (va_rf o).category = 1 := by cases o <;> rfl
theorem gh_aload_n (hexec : p.tables.exec = Jvm.exec) (hb : c.code = cc) {k : Fin 4} {i : Nat} {o : Option Nat} (hdg : decode cc pc = .ok (.aload_n k, 1)) (hi : (k : Nat) = i) (hl : ls[i]? = some (.val (va_rf o)))
    (kk : W p l e R s m args below meth c H locs cells slots Q (F0 m (pc + 1) ls (va_rf o :: rest))) : W p l e R s m args below meth c H locs cells slots Q (F0 m pc ls rest) := by
  cases o with
  | none => exact lv_aload_nN hexec hb hdg hi hl kk
  | some x => exact lv_aload_n hexec hb hdg hi hl kk
theorem gh_aload (hexec : p.tables.exec = Jvm.exec) (hb : c.code = cc) {i : Nat} {o : Option Nat} (hdg : decode cc pc = .ok (.aload i, 2)) (hl : ls[i]? = some (.val (va_rf o)))
    (kk : W p l e R s m args below meth c H locs cells slots Q (F0 m (pc + 2) ls (va_rf o :: rest))) : W p l e R s m args below meth c H locs cells slots Q (F0 m pc ls rest) := by
  cases o with
  | none => exact lv_aloadN hexec hb hdg hl kk
  | some x => exact lv_aload hexec hb hdg hl kk
theorem gh_astore_n (hexec : p.tables.exec = Jvm.exec) (hb : c.code = cc) {k : Fin 4} {i nL : Nat} {o : Option Nat} {lv lv' : List (Nat × Value)} (hdg : decode cc pc = .ok (.astore_n k, 1)) (hi : (k : Nat) = i) (h : lv_has ls nL lv) (hn : i < nL) (hl : (i, va_rf o) :: lv.filter (fun q => !(q.1 == i) && !(q.1 + 1 == i && q.2.category == 2)) = lv')
    (kk : ∀ ls' : Array Slot, lv_has ls' nL lv' → W p l e R s m args below meth c H locs cells slots Q (F0 m (pc + 1) ls' rest)) : W p l e R s m args below meth c H locs cells slots Q (F0 m pc ls (va_rf o :: rest)) := by
  cases o with
  | none => exact lv_astore_nN hexec hb hdg hi h hn hl kk
  | some x => exact lv_astore_n hexec hb hdg hi h hn hl kk
theorem gh_astore (hexec : p.tables.exec = Jvm.exec) (hb : c.code = cc) {i nL : Nat} {o : Option Nat} {lv lv' : List (Nat × Value)} (hdg : decode cc pc = .ok (.astore i, 2)) (h : lv_has ls nL lv) (hn : i < nL) (hl : (i, va_rf o) :: lv.filter (fun q => !(q.1 == i) && !(q.1 + 1 == i && q.2.category == 2)) = lv')
    (kk : ∀ ls' : Array Slot, lv_has ls' nL lv' → W p l e R s m args below meth c H locs cells slots Q (F0 m (pc + 2) ls' rest)) : W p l e R s m args below meth c H locs cells slots Q (F0 m pc ls (va_rf o :: rest)) := by
  cases o with
  | none => exact lv_astoreN hexec hb hdg h hn hl kk
  | some x => exact lv_astore hexec hb hdg h hn hl kk
/-- G in two parts -/
def gh_two (G Gc F : gh_H) : Prop := (∀ a, G a = gh_j Gc F a) ∧ ∀ a, Gc a ≠ none → F a = none
theorem gh_twoL (h : gh_two G Gc F) : ∀ a x, Gc a = some x → G a = some x := by
  intro a x hx
  rw [h.1 a]
  simp [gh_j, hx]
theorem gh_twoR (h : gh_two G Gc F) : ∀ a x, F a = some x → G a = some x := by
  intro a x hx
  rw [h.1 a]
  unfold gh_j
  cases hg : Gc a with
  | none => exact hx
  | some y =>
    have := h.2 a (by rw [hg]; exact fun z => by cases z)
    rw [hx] at this
    cases this
/-- behind the call: the part that came back beside the part that was set aside -/
theorem gh_back {G1 : gh_H} {H1 : Heap} (h2 : gh_two G Gc F) (hP : gh_h D cl AC A G H) (hA1 : ∀ q, gh_A Gc H.size q → A q) (hb : gh_h D cl AC (gh_A Gc H.size) G1 H1) (hk : ∀ q : Nat, q < H.size → ¬ gh_A Gc H.size q → H1[q]? = H[q]?) : gh_h D cl AC A (gh_j G1 F) H1 ∧ ∀ a, G1 a ≠ none → F a = none := by
  have hF : gh_h D cl AC A F H := hP.sub (gh_twoR h2)
  have hlt : ∀ q, F q ≠ none → q < H.size := fun q z => hF.lt z
  have hno : ∀ q, gh_A Gc H.size q → F q = none := by
    intro q hq
    rcases hq with z | z
    · exact h2.2 q z
    · cases hf : F q with
      | none => rfl
      | some x =>
        have := hlt q (by rw [hf]; exact fun z => by cases z)
        omega
  refine ⟨hb.join (hF.kept (fun q z => hk q (hlt q z) (fun y => z (hno q y)))) hno hA1 (fun q z => hF.inA z), fun q z => hno q (hb.inA z)⟩
theorem gh_fxi {post' : Int32 → gh_H → Prop} (h2 : gh_two G Gc F) (hP : gh_h D cl AC A G H) (hS : va_S A s.heap H locs) (hA : ∀ q, s.heap.size ≤ q → A q) (hr : vx_Run p l e R s m args below meth c H locs cells slots mc' ms' (F0 m pc ls st0) rest (va_Qi post' (gh_B D cl AC (gh_A Gc H.size)) (gh_A Gc H.size) a) (gh_X D cl AC (fun _ _ => False) (gh_A Gc H.size)) (gh_A Gc H.size))
    (kk : ∀ (r : Int32) (G1 : gh_H) (H1 : Heap) (locs1 : List Loc), post' r G1 → gh_h D cl AC A (gh_j G1 F) H1 → (∀ a, G1 a ≠ none → F a = none) → va_S A s.heap H1 locs1 → W p l e R s m args below meth c H1 locs1 (cells + mc') (slots + ms') Q (F0 m (pc + 3) ls (.int r :: rest))) : W p l e R s m args below meth c H locs cells slots Q (F0 m pc ls st0) := by
  have hsub : ∀ q, gh_A Gc H.size q → A q := (hP.sub (gh_twoL h2)).subA hS hA
  exact vx_calli hr hS (fun q _ h => hsub q h) hsub (fun q _ h => hsub q h) (fun E ce q9 u t H1 locs1 ht _ hp hb _ _ hS1 h1 h2 h3 => False.elim hp)
    (fun r u t H1 locs1 ht _ hp hb _ hk hS1 => by
      have hb1 : gh_h D cl AC (gh_A Gc H.size) u H1 := by rw [← ht]; exact hb
      obtain ⟨q1, q2⟩ := gh_back h2 hP hsub hb1 hk
      exact kk r u H1 locs1 hp q1 q2 hS1)
theorem gh_fxl {post' : Int64 → gh_H → Prop} (h2 : gh_two G Gc F) (hP : gh_h D cl AC A G H) (hS : va_S A s.heap H locs) (hA : ∀ q, s.heap.size ≤ q → A q) (hr : vx_Run p l e R s m args below meth c H locs cells slots mc' ms' (F0 m pc ls st0) rest (va_Ql post' (gh_B D cl AC (gh_A Gc H.size)) (gh_A Gc H.size) a) (gh_X D cl AC (fun _ _ => False) (gh_A Gc H.size)) (gh_A Gc H.size))
    (kk : ∀ (r : Int64) (G1 : gh_H) (H1 : Heap) (locs1 : List Loc), post' r G1 → gh_h D cl AC A (gh_j G1 F) H1 → (∀ a, G1 a ≠ none → F a = none) → va_S A s.heap H1 locs1 → W p l e R s m args below meth c H1 locs1 (cells + mc') (slots + ms') Q (F0 m (pc + 3) ls (.long r :: rest))) : W p l e R s m args below meth c H locs cells slots Q (F0 m pc ls st0) := by
  have hsub : ∀ q, gh_A Gc H.size q → A q := (hP.sub (gh_twoL h2)).subA hS hA
  exact vx_calll hr hS (fun q _ h => hsub q h) hsub (fun q _ h => hsub q h) (fun E ce q9 u t H1 locs1 ht _ hp hb _ _ hS1 h1 h2 h3 => False.elim hp)
    (fun r u t H1 locs1 ht _ hp hb _ hk hS1 => by
      have hb1 : gh_h D cl AC (gh_A Gc H.size) u H1 := by rw [← ht]; exact hb
      obtain ⟨q1, q2⟩ := gh_back h2 hP hsub hb1 hk
      exact kk r u H1 locs1 hp q1 q2 hS1)
theorem gh_fxv {post' : gh_H → Prop} (h2 : gh_two G Gc F) (hP : gh_h D cl AC A G H) (hS : va_S A s.heap H locs) (hA : ∀ q, s.heap.size ≤ q → A q) (hr : vx_Run p l e R s m args below meth c H locs cells slots mc' ms' (F0 m pc ls st0) rest (va_Qv post' (gh_B D cl AC (gh_A Gc H.size)) (gh_A Gc H.size) a) (gh_X D cl AC (fun _ _ => False) (gh_A Gc H.size)) (gh_A Gc H.size))
    (kk : ∀ (G1 : gh_H) (H1 : Heap) (locs1 : List Loc), post' G1 → gh_h D cl AC A (gh_j G1 F) H1 → (∀ a, G1 a ≠ none → F a = none) → va_S A s.heap H1 locs1 → W p l e R s m args below meth c H1 locs1 (cells + mc') (slots + ms') Q (F0 m (pc + 3) ls rest)) : W p l e R s m args below meth c H locs cells slots Q (F0 m pc ls st0) := by
  have hsub : ∀ q, gh_A Gc H.size q → A q := (hP.sub (gh_twoL h2)).subA hS hA
  exact vx_callv hr hS (fun q _ h => hsub q h) hsub (fun q _ h => hsub q h) (fun E ce q9 u t H1 locs1 ht _ hp hb _ _ hS1 h1 h2 h3 => False.elim hp)
    (fun u t H1 locs1 ht _ hp hb _ hk hS1 => by
      have hb1 : gh_h D cl AC (gh_A Gc H.size) u H1 := by rw [← ht]; exact hb
      obtain ⟨q1, q2⟩ := gh_back h2 hP hsub hb1 hk
      exact kk u H1 locs1 hp q1 q2 hS1)
end GHQ
