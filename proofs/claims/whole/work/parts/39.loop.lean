/-! The two constructors, and the law's loop. -/
def cK (G : gh_H) (l : List (Nat × gh_E)) : Prop := (l.map Prod.fst).Nodup ∧ ∀ p, p ∈ l → G p.1 = some p.2
theorem cK.new {G G1 : gh_H} {l : List (Nat × gh_E)} {t q : Nat} {x c : gh_E} (h : cK G ((t, x) :: l)) (hq : G q = none) (hG : G1 = gh_up G q c) : cK G1 ((t, x) :: (q, c) :: l) := by
  have hn : ∀ p, p ∈ (t, x) :: l → p.1 ≠ q := fun p hp e => by
    have := h.2 p hp
    rw [e, hq] at this
    cases this
  have hd := h.1
  simp only [List.map_cons, List.nodup_cons, List.mem_cons, not_or] at hd ⊢
  refine ⟨?_, fun p hp => ?_⟩
  · simp only [List.map_cons, List.nodup_cons, List.mem_cons, not_or]
    refine ⟨⟨hn (t, x) (List.mem_cons_self ..), hd.1⟩, fun hm => ?_, hd.2⟩
    obtain ⟨p, hp, e⟩ := List.mem_map.mp hm
    exact hn p (List.mem_cons_of_mem _ hp) e
  · rw [hG]
    rcases List.mem_cons.mp hp with e | hp
    · subst e
      rw [gh_up_n (hn (t, x) (List.mem_cons_self ..))]
      exact h.2 _ (List.mem_cons_self ..)
    · rcases List.mem_cons.mp hp with e | hp
      · subst e
        exact gh_up_s ..
      · rw [gh_up_n (hn p (List.mem_cons_of_mem _ hp))]
        exact h.2 p (List.mem_cons_of_mem _ hp)
theorem cK.set {G G1 : gh_H} {l : List (Nat × gh_E)} {t : Nat} {x y : gh_E} (h : cK G ((t, x) :: l)) (hG : G1 = gh_up G t y) : cK G1 ((t, y) :: l) := by
  refine ⟨h.1, fun p hp => ?_⟩
  rw [hG]
  rcases List.mem_cons.mp hp with e | hp
  · subst e
    exact gh_up_s ..
  · have hd := h.1
    simp only [List.map_cons, List.nodup_cons] at hd
    have hne : p.1 ≠ t := fun e => hd.1 (List.mem_map.mpr ⟨p, hp, e⟩)
    rw [gh_up_n hne]
    exact h.2 p (List.mem_cons_of_mem _ hp)
theorem cK.hd {G : gh_H} {l : List (Nat × gh_E)} {t : Nat} {x : gh_E} (h : cK G ((t, x) :: l)) : G t = some x := h.2 (t, x) (List.mem_cons_self ..)
theorem cK.inj {G : gh_H} {l : List (Nat × gh_E)} (h : cK G l) {i j a : Nat} (h1 : (l.map Prod.fst)[i]? = some a) (h2 : (l.map Prod.fst)[j]? = some a) : i = j := by
  have hl : i < (l.map Prod.fst).length := by
    rcases Nat.lt_or_ge i (l.map Prod.fst).length with z | z
    · exact z
    · rw [List.getElem?_eq_none z] at h1
      cases h1
  exact (List.getElem?_inj hl h.1).mp (h1.trans h2.symm)
section C39
variable {G : gh_H} {px : String → gh_H → Prop} {t : Nat}
theorem c_init {post : gh_H → Prop} (h : G t = some (.inr (4, [.null, .null, .null, .null, .int 0, .int 0, .int 0, .int 0, .int 0, .int 0, .int 0]))) (hp : ∀ q1 q2 q3 q4 G', cK G' [(t, .inr (4, [.ref q1, .ref q2, .ref q3, .ref q4, .int 0, .int 0, .int 0, .int 0, .int 0, .int 0, .int 0])), (q4, .inl (5, 20, .inr (.inr (.inr (.inr (fun _ => none)))))), (q3, .inl (4, 30, .inr (.inr (.inr (.inr (fun _ => none)))))), (q2, .inl (0, 20, .inl (fun _ => 0))), (q1, .inl (3, 6, .inr (.inr (.inr (.inr (fun _ => none))))))] → post G') : wX4_init post px G t := by
  have k0 : cK G [(t, .inr (4, [.null, .null, .null, .null, .int 0, .int 0, .int 0, .int 0, .int 0, .int 0, .int 0]))] := ⟨by simp, fun p hp => by rw [List.mem_singleton] at hp; subst hp; exact h⟩
  unfold wX4_init
  intro q1 h1 G1 e1
  have a1 := cK.new k0 h1 e1
  refine ⟨_, a1.hd, oLt rfl, ?_⟩
  intro F1 f1
  have k1 := cK.set a1 f1
  intro q2 h2 G2 e2
  have a2 := cK.new k1 h2 e2
  refine ⟨_, a2.hd, oLt rfl, ?_⟩
  intro F2 f2
  have k2 := cK.set a2 f2
  intro q3 h3 G3 e3
  have a3 := cK.new k2 h3 e3
  refine ⟨_, a3.hd, oLt rfl, ?_⟩
  intro F3 f3
  have k3 := cK.set a3 f3
  intro q4 h4 G4 e4
  have a4 := cK.new k3 h4 e4
  refine ⟨_, a4.hd, oLt rfl, ?_⟩
  intro F4 f4
  have k4 := cK.set a4 f4
  exact hp q1 q2 q3 q4 _ k4
theorem m_init {post : gh_H → Prop} (h : G t = some (.inr (5, [.int 0, .int 0, .int 0, .int 0, .null, .null, .int 0, .null, .int 0, .null, .null, .null, .null, .null, .null, .null, .null, .int 0, .null, .null, .null, .null, .null, .int 0]))) (hp : ∀ q4 q5 q7 q9 q10 q11 q12 q13 q14 q15 q16 q18 q19 q20 q21 q22 G', cK G' [(t, .inr (5, [.int 0, .int 0, .int 0, .int 0, .ref q4, .ref q5, .int 0, .ref q7, .int 0, .ref q9, .ref q10, .ref q11, .ref q12, .ref q13, .ref q14, .ref q15, .ref q16, .int 0, .ref q18, .ref q19, .ref q20, .ref q21, .ref q22, .int 0])), (q22, .inl (2, 20, .inl (fun _ => 0))), (q21, .inl (0, 20, .inl (fun _ => 0))), (q20, .inl (0, 20, .inl (fun _ => 0))), (q19, .inl (1, 20, .inr (.inl (fun _ => 0)))), (q18, .inl (0, 20, .inl (fun _ => 0))), (q16, .inl (2, 240, .inl (fun _ => 0))), (q15, .inl (1, 240, .inr (.inl (fun _ => 0)))), (q14, .inl (0, 240, .inl (fun _ => 0))), (q13, .inl (0, 30, .inl (fun _ => 0))), (q12, .inl (0, 30, .inl (fun _ => 0))), (q11, .inl (0, 30, .inl (fun _ => 0))), (q10, .inl (0, 30, .inl (fun _ => 0))), (q9, .inl (0, 30, .inl (fun _ => 0))), (q7, .inl (0, 20, .inl (fun _ => 0))), (q5, .inl (1, 6, .inr (.inl (fun _ => 0)))), (q4, .inl (2, 6, .inl (fun _ => 0)))] → post G') : wX5_init post px G t := by
  have k0 : cK G [(t, .inr (5, [.int 0, .int 0, .int 0, .int 0, .null, .null, .int 0, .null, .int 0, .null, .null, .null, .null, .null, .null, .null, .null, .int 0, .null, .null, .null, .null, .null, .int 0]))] := ⟨by simp, fun p hp => by rw [List.mem_singleton] at hp; subst hp; exact h⟩
  unfold wX5_init
  refine ⟨_, k0.hd, oLt rfl, ?_⟩
  intro F0 f0
  have k_0 : cK F0 [(t, .inr (5, [.int 0, .int 0, .int 0, .int 0, .null, .null, .int 0, .null, .int 0, .null, .null, .null, .null, .null, .null, .null, .null, .int 0, .null, .null, .null, .null, .null, .int 0]))] := cK.set k0 f0
  refine ⟨_, k_0.hd, oLt rfl, ?_⟩
  intro F1 f1
  have k_1 : cK F1 [(t, .inr (5, [.int 0, .int 0, .int 0, .int 0, .null, .null, .int 0, .null, .int 0, .null, .null, .null, .null, .null, .null, .null, .null, .int 0, .null, .null, .null, .null, .null, .int 0]))] := cK.set k_0 f1
  refine ⟨_, k_1.hd, oLt rfl, ?_⟩
  intro F2 f2
  have k_2 : cK F2 [(t, .inr (5, [.int 0, .int 0, .int 0, .int 0, .null, .null, .int 0, .null, .int 0, .null, .null, .null, .null, .null, .null, .null, .null, .int 0, .null, .null, .null, .null, .null, .int 0]))] := cK.set k_1 f2
  refine ⟨_, k_2.hd, oLt rfl, ?_⟩
  intro F3 f3
  have k_3 : cK F3 [(t, .inr (5, [.int 0, .int 0, .int 0, .int 0, .null, .null, .int 0, .null, .int 0, .null, .null, .null, .null, .null, .null, .null, .null, .int 0, .null, .null, .null, .null, .null, .int 0]))] := cK.set k_2 f3
  intro q4 h4 G4 e4
  have a4 : cK G4 [(t, .inr (5, [.int 0, .int 0, .int 0, .int 0, .null, .null, .int 0, .null, .int 0, .null, .null, .null, .null, .null, .null, .null, .null, .int 0, .null, .null, .null, .null, .null, .int 0])), (q4, .inl (2, 6, .inl (fun _ => 0)))] := cK.new k_3 h4 e4
  refine ⟨_, a4.hd, oLt rfl, ?_⟩
  intro F4 f4
  have k_4 : cK F4 [(t, .inr (5, [.int 0, .int 0, .int 0, .int 0, .ref q4, .null, .int 0, .null, .int 0, .null, .null, .null, .null, .null, .null, .null, .null, .int 0, .null, .null, .null, .null, .null, .int 0])), (q4, .inl (2, 6, .inl (fun _ => 0)))] := cK.set a4 f4
  intro q5 h5 G5 e5
  have a5 : cK G5 [(t, .inr (5, [.int 0, .int 0, .int 0, .int 0, .ref q4, .null, .int 0, .null, .int 0, .null, .null, .null, .null, .null, .null, .null, .null, .int 0, .null, .null, .null, .null, .null, .int 0])), (q5, .inl (1, 6, .inr (.inl (fun _ => 0)))), (q4, .inl (2, 6, .inl (fun _ => 0)))] := cK.new k_4 h5 e5
  refine ⟨_, a5.hd, oLt rfl, ?_⟩
  intro F5 f5
  have k_5 : cK F5 [(t, .inr (5, [.int 0, .int 0, .int 0, .int 0, .ref q4, .ref q5, .int 0, .null, .int 0, .null, .null, .null, .null, .null, .null, .null, .null, .int 0, .null, .null, .null, .null, .null, .int 0])), (q5, .inl (1, 6, .inr (.inl (fun _ => 0)))), (q4, .inl (2, 6, .inl (fun _ => 0)))] := cK.set a5 f5
  refine ⟨_, k_5.hd, oLt rfl, ?_⟩
  intro F6 f6
  have k_6 : cK F6 [(t, .inr (5, [.int 0, .int 0, .int 0, .int 0, .ref q4, .ref q5, .int 0, .null, .int 0, .null, .null, .null, .null, .null, .null, .null, .null, .int 0, .null, .null, .null, .null, .null, .int 0])), (q5, .inl (1, 6, .inr (.inl (fun _ => 0)))), (q4, .inl (2, 6, .inl (fun _ => 0)))] := cK.set k_5 f6
  intro q7 h7 G7 e7
  have a7 : cK G7 [(t, .inr (5, [.int 0, .int 0, .int 0, .int 0, .ref q4, .ref q5, .int 0, .null, .int 0, .null, .null, .null, .null, .null, .null, .null, .null, .int 0, .null, .null, .null, .null, .null, .int 0])), (q7, .inl (0, 20, .inl (fun _ => 0))), (q5, .inl (1, 6, .inr (.inl (fun _ => 0)))), (q4, .inl (2, 6, .inl (fun _ => 0)))] := cK.new k_6 h7 e7
  refine ⟨_, a7.hd, oLt rfl, ?_⟩
  intro F7 f7
  have k_7 : cK F7 [(t, .inr (5, [.int 0, .int 0, .int 0, .int 0, .ref q4, .ref q5, .int 0, .ref q7, .int 0, .null, .null, .null, .null, .null, .null, .null, .null, .int 0, .null, .null, .null, .null, .null, .int 0])), (q7, .inl (0, 20, .inl (fun _ => 0))), (q5, .inl (1, 6, .inr (.inl (fun _ => 0)))), (q4, .inl (2, 6, .inl (fun _ => 0)))] := cK.set a7 f7
  refine ⟨_, k_7.hd, oLt rfl, ?_⟩
  intro F8 f8
  have k_8 : cK F8 [(t, .inr (5, [.int 0, .int 0, .int 0, .int 0, .ref q4, .ref q5, .int 0, .ref q7, .int 0, .null, .null, .null, .null, .null, .null, .null, .null, .int 0, .null, .null, .null, .null, .null, .int 0])), (q7, .inl (0, 20, .inl (fun _ => 0))), (q5, .inl (1, 6, .inr (.inl (fun _ => 0)))), (q4, .inl (2, 6, .inl (fun _ => 0)))] := cK.set k_7 f8
  intro q9 h9 G9 e9
  have a9 : cK G9 [(t, .inr (5, [.int 0, .int 0, .int 0, .int 0, .ref q4, .ref q5, .int 0, .ref q7, .int 0, .null, .null, .null, .null, .null, .null, .null, .null, .int 0, .null, .null, .null, .null, .null, .int 0])), (q9, .inl (0, 30, .inl (fun _ => 0))), (q7, .inl (0, 20, .inl (fun _ => 0))), (q5, .inl (1, 6, .inr (.inl (fun _ => 0)))), (q4, .inl (2, 6, .inl (fun _ => 0)))] := cK.new k_8 h9 e9
  refine ⟨_, a9.hd, oLt rfl, ?_⟩
  intro F9 f9
  have k_9 : cK F9 [(t, .inr (5, [.int 0, .int 0, .int 0, .int 0, .ref q4, .ref q5, .int 0, .ref q7, .int 0, .ref q9, .null, .null, .null, .null, .null, .null, .null, .int 0, .null, .null, .null, .null, .null, .int 0])), (q9, .inl (0, 30, .inl (fun _ => 0))), (q7, .inl (0, 20, .inl (fun _ => 0))), (q5, .inl (1, 6, .inr (.inl (fun _ => 0)))), (q4, .inl (2, 6, .inl (fun _ => 0)))] := cK.set a9 f9
  intro q10 h10 G10 e10
  have a10 : cK G10 [(t, .inr (5, [.int 0, .int 0, .int 0, .int 0, .ref q4, .ref q5, .int 0, .ref q7, .int 0, .ref q9, .null, .null, .null, .null, .null, .null, .null, .int 0, .null, .null, .null, .null, .null, .int 0])), (q10, .inl (0, 30, .inl (fun _ => 0))), (q9, .inl (0, 30, .inl (fun _ => 0))), (q7, .inl (0, 20, .inl (fun _ => 0))), (q5, .inl (1, 6, .inr (.inl (fun _ => 0)))), (q4, .inl (2, 6, .inl (fun _ => 0)))] := cK.new k_9 h10 e10
  refine ⟨_, a10.hd, oLt rfl, ?_⟩
  intro F10 f10
  have k_10 : cK F10 [(t, .inr (5, [.int 0, .int 0, .int 0, .int 0, .ref q4, .ref q5, .int 0, .ref q7, .int 0, .ref q9, .ref q10, .null, .null, .null, .null, .null, .null, .int 0, .null, .null, .null, .null, .null, .int 0])), (q10, .inl (0, 30, .inl (fun _ => 0))), (q9, .inl (0, 30, .inl (fun _ => 0))), (q7, .inl (0, 20, .inl (fun _ => 0))), (q5, .inl (1, 6, .inr (.inl (fun _ => 0)))), (q4, .inl (2, 6, .inl (fun _ => 0)))] := cK.set a10 f10
  intro q11 h11 G11 e11
  have a11 : cK G11 [(t, .inr (5, [.int 0, .int 0, .int 0, .int 0, .ref q4, .ref q5, .int 0, .ref q7, .int 0, .ref q9, .ref q10, .null, .null, .null, .null, .null, .null, .int 0, .null, .null, .null, .null, .null, .int 0])), (q11, .inl (0, 30, .inl (fun _ => 0))), (q10, .inl (0, 30, .inl (fun _ => 0))), (q9, .inl (0, 30, .inl (fun _ => 0))), (q7, .inl (0, 20, .inl (fun _ => 0))), (q5, .inl (1, 6, .inr (.inl (fun _ => 0)))), (q4, .inl (2, 6, .inl (fun _ => 0)))] := cK.new k_10 h11 e11
  refine ⟨_, a11.hd, oLt rfl, ?_⟩
  intro F11 f11
  have k_11 : cK F11 [(t, .inr (5, [.int 0, .int 0, .int 0, .int 0, .ref q4, .ref q5, .int 0, .ref q7, .int 0, .ref q9, .ref q10, .ref q11, .null, .null, .null, .null, .null, .int 0, .null, .null, .null, .null, .null, .int 0])), (q11, .inl (0, 30, .inl (fun _ => 0))), (q10, .inl (0, 30, .inl (fun _ => 0))), (q9, .inl (0, 30, .inl (fun _ => 0))), (q7, .inl (0, 20, .inl (fun _ => 0))), (q5, .inl (1, 6, .inr (.inl (fun _ => 0)))), (q4, .inl (2, 6, .inl (fun _ => 0)))] := cK.set a11 f11
  intro q12 h12 G12 e12
  have a12 : cK G12 [(t, .inr (5, [.int 0, .int 0, .int 0, .int 0, .ref q4, .ref q5, .int 0, .ref q7, .int 0, .ref q9, .ref q10, .ref q11, .null, .null, .null, .null, .null, .int 0, .null, .null, .null, .null, .null, .int 0])), (q12, .inl (0, 30, .inl (fun _ => 0))), (q11, .inl (0, 30, .inl (fun _ => 0))), (q10, .inl (0, 30, .inl (fun _ => 0))), (q9, .inl (0, 30, .inl (fun _ => 0))), (q7, .inl (0, 20, .inl (fun _ => 0))), (q5, .inl (1, 6, .inr (.inl (fun _ => 0)))), (q4, .inl (2, 6, .inl (fun _ => 0)))] := cK.new k_11 h12 e12
  refine ⟨_, a12.hd, oLt rfl, ?_⟩
  intro F12 f12
  have k_12 : cK F12 [(t, .inr (5, [.int 0, .int 0, .int 0, .int 0, .ref q4, .ref q5, .int 0, .ref q7, .int 0, .ref q9, .ref q10, .ref q11, .ref q12, .null, .null, .null, .null, .int 0, .null, .null, .null, .null, .null, .int 0])), (q12, .inl (0, 30, .inl (fun _ => 0))), (q11, .inl (0, 30, .inl (fun _ => 0))), (q10, .inl (0, 30, .inl (fun _ => 0))), (q9, .inl (0, 30, .inl (fun _ => 0))), (q7, .inl (0, 20, .inl (fun _ => 0))), (q5, .inl (1, 6, .inr (.inl (fun _ => 0)))), (q4, .inl (2, 6, .inl (fun _ => 0)))] := cK.set a12 f12
  intro q13 h13 G13 e13
  have a13 : cK G13 [(t, .inr (5, [.int 0, .int 0, .int 0, .int 0, .ref q4, .ref q5, .int 0, .ref q7, .int 0, .ref q9, .ref q10, .ref q11, .ref q12, .null, .null, .null, .null, .int 0, .null, .null, .null, .null, .null, .int 0])), (q13, .inl (0, 30, .inl (fun _ => 0))), (q12, .inl (0, 30, .inl (fun _ => 0))), (q11, .inl (0, 30, .inl (fun _ => 0))), (q10, .inl (0, 30, .inl (fun _ => 0))), (q9, .inl (0, 30, .inl (fun _ => 0))), (q7, .inl (0, 20, .inl (fun _ => 0))), (q5, .inl (1, 6, .inr (.inl (fun _ => 0)))), (q4, .inl (2, 6, .inl (fun _ => 0)))] := cK.new k_12 h13 e13
  refine ⟨_, a13.hd, oLt rfl, ?_⟩
  intro F13 f13
  have k_13 : cK F13 [(t, .inr (5, [.int 0, .int 0, .int 0, .int 0, .ref q4, .ref q5, .int 0, .ref q7, .int 0, .ref q9, .ref q10, .ref q11, .ref q12, .ref q13, .null, .null, .null, .int 0, .null, .null, .null, .null, .null, .int 0])), (q13, .inl (0, 30, .inl (fun _ => 0))), (q12, .inl (0, 30, .inl (fun _ => 0))), (q11, .inl (0, 30, .inl (fun _ => 0))), (q10, .inl (0, 30, .inl (fun _ => 0))), (q9, .inl (0, 30, .inl (fun _ => 0))), (q7, .inl (0, 20, .inl (fun _ => 0))), (q5, .inl (1, 6, .inr (.inl (fun _ => 0)))), (q4, .inl (2, 6, .inl (fun _ => 0)))] := cK.set a13 f13
  intro q14 h14 G14 e14
  have a14 : cK G14 [(t, .inr (5, [.int 0, .int 0, .int 0, .int 0, .ref q4, .ref q5, .int 0, .ref q7, .int 0, .ref q9, .ref q10, .ref q11, .ref q12, .ref q13, .null, .null, .null, .int 0, .null, .null, .null, .null, .null, .int 0])), (q14, .inl (0, 240, .inl (fun _ => 0))), (q13, .inl (0, 30, .inl (fun _ => 0))), (q12, .inl (0, 30, .inl (fun _ => 0))), (q11, .inl (0, 30, .inl (fun _ => 0))), (q10, .inl (0, 30, .inl (fun _ => 0))), (q9, .inl (0, 30, .inl (fun _ => 0))), (q7, .inl (0, 20, .inl (fun _ => 0))), (q5, .inl (1, 6, .inr (.inl (fun _ => 0)))), (q4, .inl (2, 6, .inl (fun _ => 0)))] := cK.new k_13 h14 e14
  refine ⟨_, a14.hd, oLt rfl, ?_⟩
  intro F14 f14
  have k_14 : cK F14 [(t, .inr (5, [.int 0, .int 0, .int 0, .int 0, .ref q4, .ref q5, .int 0, .ref q7, .int 0, .ref q9, .ref q10, .ref q11, .ref q12, .ref q13, .ref q14, .null, .null, .int 0, .null, .null, .null, .null, .null, .int 0])), (q14, .inl (0, 240, .inl (fun _ => 0))), (q13, .inl (0, 30, .inl (fun _ => 0))), (q12, .inl (0, 30, .inl (fun _ => 0))), (q11, .inl (0, 30, .inl (fun _ => 0))), (q10, .inl (0, 30, .inl (fun _ => 0))), (q9, .inl (0, 30, .inl (fun _ => 0))), (q7, .inl (0, 20, .inl (fun _ => 0))), (q5, .inl (1, 6, .inr (.inl (fun _ => 0)))), (q4, .inl (2, 6, .inl (fun _ => 0)))] := cK.set a14 f14
  intro q15 h15 G15 e15
  have a15 : cK G15 [(t, .inr (5, [.int 0, .int 0, .int 0, .int 0, .ref q4, .ref q5, .int 0, .ref q7, .int 0, .ref q9, .ref q10, .ref q11, .ref q12, .ref q13, .ref q14, .null, .null, .int 0, .null, .null, .null, .null, .null, .int 0])), (q15, .inl (1, 240, .inr (.inl (fun _ => 0)))), (q14, .inl (0, 240, .inl (fun _ => 0))), (q13, .inl (0, 30, .inl (fun _ => 0))), (q12, .inl (0, 30, .inl (fun _ => 0))), (q11, .inl (0, 30, .inl (fun _ => 0))), (q10, .inl (0, 30, .inl (fun _ => 0))), (q9, .inl (0, 30, .inl (fun _ => 0))), (q7, .inl (0, 20, .inl (fun _ => 0))), (q5, .inl (1, 6, .inr (.inl (fun _ => 0)))), (q4, .inl (2, 6, .inl (fun _ => 0)))] := cK.new k_14 h15 e15
  refine ⟨_, a15.hd, oLt rfl, ?_⟩
  intro F15 f15
  have k_15 : cK F15 [(t, .inr (5, [.int 0, .int 0, .int 0, .int 0, .ref q4, .ref q5, .int 0, .ref q7, .int 0, .ref q9, .ref q10, .ref q11, .ref q12, .ref q13, .ref q14, .ref q15, .null, .int 0, .null, .null, .null, .null, .null, .int 0])), (q15, .inl (1, 240, .inr (.inl (fun _ => 0)))), (q14, .inl (0, 240, .inl (fun _ => 0))), (q13, .inl (0, 30, .inl (fun _ => 0))), (q12, .inl (0, 30, .inl (fun _ => 0))), (q11, .inl (0, 30, .inl (fun _ => 0))), (q10, .inl (0, 30, .inl (fun _ => 0))), (q9, .inl (0, 30, .inl (fun _ => 0))), (q7, .inl (0, 20, .inl (fun _ => 0))), (q5, .inl (1, 6, .inr (.inl (fun _ => 0)))), (q4, .inl (2, 6, .inl (fun _ => 0)))] := cK.set a15 f15
  intro q16 h16 G16 e16
  have a16 : cK G16 [(t, .inr (5, [.int 0, .int 0, .int 0, .int 0, .ref q4, .ref q5, .int 0, .ref q7, .int 0, .ref q9, .ref q10, .ref q11, .ref q12, .ref q13, .ref q14, .ref q15, .null, .int 0, .null, .null, .null, .null, .null, .int 0])), (q16, .inl (2, 240, .inl (fun _ => 0))), (q15, .inl (1, 240, .inr (.inl (fun _ => 0)))), (q14, .inl (0, 240, .inl (fun _ => 0))), (q13, .inl (0, 30, .inl (fun _ => 0))), (q12, .inl (0, 30, .inl (fun _ => 0))), (q11, .inl (0, 30, .inl (fun _ => 0))), (q10, .inl (0, 30, .inl (fun _ => 0))), (q9, .inl (0, 30, .inl (fun _ => 0))), (q7, .inl (0, 20, .inl (fun _ => 0))), (q5, .inl (1, 6, .inr (.inl (fun _ => 0)))), (q4, .inl (2, 6, .inl (fun _ => 0)))] := cK.new k_15 h16 e16
  refine ⟨_, a16.hd, oLt rfl, ?_⟩
  intro F16 f16
  have k_16 : cK F16 [(t, .inr (5, [.int 0, .int 0, .int 0, .int 0, .ref q4, .ref q5, .int 0, .ref q7, .int 0, .ref q9, .ref q10, .ref q11, .ref q12, .ref q13, .ref q14, .ref q15, .ref q16, .int 0, .null, .null, .null, .null, .null, .int 0])), (q16, .inl (2, 240, .inl (fun _ => 0))), (q15, .inl (1, 240, .inr (.inl (fun _ => 0)))), (q14, .inl (0, 240, .inl (fun _ => 0))), (q13, .inl (0, 30, .inl (fun _ => 0))), (q12, .inl (0, 30, .inl (fun _ => 0))), (q11, .inl (0, 30, .inl (fun _ => 0))), (q10, .inl (0, 30, .inl (fun _ => 0))), (q9, .inl (0, 30, .inl (fun _ => 0))), (q7, .inl (0, 20, .inl (fun _ => 0))), (q5, .inl (1, 6, .inr (.inl (fun _ => 0)))), (q4, .inl (2, 6, .inl (fun _ => 0)))] := cK.set a16 f16
  refine ⟨_, k_16.hd, oLt rfl, ?_⟩
  intro F17 f17
  have k_17 : cK F17 [(t, .inr (5, [.int 0, .int 0, .int 0, .int 0, .ref q4, .ref q5, .int 0, .ref q7, .int 0, .ref q9, .ref q10, .ref q11, .ref q12, .ref q13, .ref q14, .ref q15, .ref q16, .int 0, .null, .null, .null, .null, .null, .int 0])), (q16, .inl (2, 240, .inl (fun _ => 0))), (q15, .inl (1, 240, .inr (.inl (fun _ => 0)))), (q14, .inl (0, 240, .inl (fun _ => 0))), (q13, .inl (0, 30, .inl (fun _ => 0))), (q12, .inl (0, 30, .inl (fun _ => 0))), (q11, .inl (0, 30, .inl (fun _ => 0))), (q10, .inl (0, 30, .inl (fun _ => 0))), (q9, .inl (0, 30, .inl (fun _ => 0))), (q7, .inl (0, 20, .inl (fun _ => 0))), (q5, .inl (1, 6, .inr (.inl (fun _ => 0)))), (q4, .inl (2, 6, .inl (fun _ => 0)))] := cK.set k_16 f17
  intro q18 h18 G18 e18
  have a18 : cK G18 [(t, .inr (5, [.int 0, .int 0, .int 0, .int 0, .ref q4, .ref q5, .int 0, .ref q7, .int 0, .ref q9, .ref q10, .ref q11, .ref q12, .ref q13, .ref q14, .ref q15, .ref q16, .int 0, .null, .null, .null, .null, .null, .int 0])), (q18, .inl (0, 20, .inl (fun _ => 0))), (q16, .inl (2, 240, .inl (fun _ => 0))), (q15, .inl (1, 240, .inr (.inl (fun _ => 0)))), (q14, .inl (0, 240, .inl (fun _ => 0))), (q13, .inl (0, 30, .inl (fun _ => 0))), (q12, .inl (0, 30, .inl (fun _ => 0))), (q11, .inl (0, 30, .inl (fun _ => 0))), (q10, .inl (0, 30, .inl (fun _ => 0))), (q9, .inl (0, 30, .inl (fun _ => 0))), (q7, .inl (0, 20, .inl (fun _ => 0))), (q5, .inl (1, 6, .inr (.inl (fun _ => 0)))), (q4, .inl (2, 6, .inl (fun _ => 0)))] := cK.new k_17 h18 e18
  refine ⟨_, a18.hd, oLt rfl, ?_⟩
  intro F18 f18
  have k_18 : cK F18 [(t, .inr (5, [.int 0, .int 0, .int 0, .int 0, .ref q4, .ref q5, .int 0, .ref q7, .int 0, .ref q9, .ref q10, .ref q11, .ref q12, .ref q13, .ref q14, .ref q15, .ref q16, .int 0, .ref q18, .null, .null, .null, .null, .int 0])), (q18, .inl (0, 20, .inl (fun _ => 0))), (q16, .inl (2, 240, .inl (fun _ => 0))), (q15, .inl (1, 240, .inr (.inl (fun _ => 0)))), (q14, .inl (0, 240, .inl (fun _ => 0))), (q13, .inl (0, 30, .inl (fun _ => 0))), (q12, .inl (0, 30, .inl (fun _ => 0))), (q11, .inl (0, 30, .inl (fun _ => 0))), (q10, .inl (0, 30, .inl (fun _ => 0))), (q9, .inl (0, 30, .inl (fun _ => 0))), (q7, .inl (0, 20, .inl (fun _ => 0))), (q5, .inl (1, 6, .inr (.inl (fun _ => 0)))), (q4, .inl (2, 6, .inl (fun _ => 0)))] := cK.set a18 f18
  intro q19 h19 G19 e19
  have a19 : cK G19 [(t, .inr (5, [.int 0, .int 0, .int 0, .int 0, .ref q4, .ref q5, .int 0, .ref q7, .int 0, .ref q9, .ref q10, .ref q11, .ref q12, .ref q13, .ref q14, .ref q15, .ref q16, .int 0, .ref q18, .null, .null, .null, .null, .int 0])), (q19, .inl (1, 20, .inr (.inl (fun _ => 0)))), (q18, .inl (0, 20, .inl (fun _ => 0))), (q16, .inl (2, 240, .inl (fun _ => 0))), (q15, .inl (1, 240, .inr (.inl (fun _ => 0)))), (q14, .inl (0, 240, .inl (fun _ => 0))), (q13, .inl (0, 30, .inl (fun _ => 0))), (q12, .inl (0, 30, .inl (fun _ => 0))), (q11, .inl (0, 30, .inl (fun _ => 0))), (q10, .inl (0, 30, .inl (fun _ => 0))), (q9, .inl (0, 30, .inl (fun _ => 0))), (q7, .inl (0, 20, .inl (fun _ => 0))), (q5, .inl (1, 6, .inr (.inl (fun _ => 0)))), (q4, .inl (2, 6, .inl (fun _ => 0)))] := cK.new k_18 h19 e19
  refine ⟨_, a19.hd, oLt rfl, ?_⟩
  intro F19 f19
  have k_19 : cK F19 [(t, .inr (5, [.int 0, .int 0, .int 0, .int 0, .ref q4, .ref q5, .int 0, .ref q7, .int 0, .ref q9, .ref q10, .ref q11, .ref q12, .ref q13, .ref q14, .ref q15, .ref q16, .int 0, .ref q18, .ref q19, .null, .null, .null, .int 0])), (q19, .inl (1, 20, .inr (.inl (fun _ => 0)))), (q18, .inl (0, 20, .inl (fun _ => 0))), (q16, .inl (2, 240, .inl (fun _ => 0))), (q15, .inl (1, 240, .inr (.inl (fun _ => 0)))), (q14, .inl (0, 240, .inl (fun _ => 0))), (q13, .inl (0, 30, .inl (fun _ => 0))), (q12, .inl (0, 30, .inl (fun _ => 0))), (q11, .inl (0, 30, .inl (fun _ => 0))), (q10, .inl (0, 30, .inl (fun _ => 0))), (q9, .inl (0, 30, .inl (fun _ => 0))), (q7, .inl (0, 20, .inl (fun _ => 0))), (q5, .inl (1, 6, .inr (.inl (fun _ => 0)))), (q4, .inl (2, 6, .inl (fun _ => 0)))] := cK.set a19 f19
  intro q20 h20 G20 e20
  have a20 : cK G20 [(t, .inr (5, [.int 0, .int 0, .int 0, .int 0, .ref q4, .ref q5, .int 0, .ref q7, .int 0, .ref q9, .ref q10, .ref q11, .ref q12, .ref q13, .ref q14, .ref q15, .ref q16, .int 0, .ref q18, .ref q19, .null, .null, .null, .int 0])), (q20, .inl (0, 20, .inl (fun _ => 0))), (q19, .inl (1, 20, .inr (.inl (fun _ => 0)))), (q18, .inl (0, 20, .inl (fun _ => 0))), (q16, .inl (2, 240, .inl (fun _ => 0))), (q15, .inl (1, 240, .inr (.inl (fun _ => 0)))), (q14, .inl (0, 240, .inl (fun _ => 0))), (q13, .inl (0, 30, .inl (fun _ => 0))), (q12, .inl (0, 30, .inl (fun _ => 0))), (q11, .inl (0, 30, .inl (fun _ => 0))), (q10, .inl (0, 30, .inl (fun _ => 0))), (q9, .inl (0, 30, .inl (fun _ => 0))), (q7, .inl (0, 20, .inl (fun _ => 0))), (q5, .inl (1, 6, .inr (.inl (fun _ => 0)))), (q4, .inl (2, 6, .inl (fun _ => 0)))] := cK.new k_19 h20 e20
  refine ⟨_, a20.hd, oLt rfl, ?_⟩
  intro F20 f20
  have k_20 : cK F20 [(t, .inr (5, [.int 0, .int 0, .int 0, .int 0, .ref q4, .ref q5, .int 0, .ref q7, .int 0, .ref q9, .ref q10, .ref q11, .ref q12, .ref q13, .ref q14, .ref q15, .ref q16, .int 0, .ref q18, .ref q19, .ref q20, .null, .null, .int 0])), (q20, .inl (0, 20, .inl (fun _ => 0))), (q19, .inl (1, 20, .inr (.inl (fun _ => 0)))), (q18, .inl (0, 20, .inl (fun _ => 0))), (q16, .inl (2, 240, .inl (fun _ => 0))), (q15, .inl (1, 240, .inr (.inl (fun _ => 0)))), (q14, .inl (0, 240, .inl (fun _ => 0))), (q13, .inl (0, 30, .inl (fun _ => 0))), (q12, .inl (0, 30, .inl (fun _ => 0))), (q11, .inl (0, 30, .inl (fun _ => 0))), (q10, .inl (0, 30, .inl (fun _ => 0))), (q9, .inl (0, 30, .inl (fun _ => 0))), (q7, .inl (0, 20, .inl (fun _ => 0))), (q5, .inl (1, 6, .inr (.inl (fun _ => 0)))), (q4, .inl (2, 6, .inl (fun _ => 0)))] := cK.set a20 f20
  intro q21 h21 G21 e21
  have a21 : cK G21 [(t, .inr (5, [.int 0, .int 0, .int 0, .int 0, .ref q4, .ref q5, .int 0, .ref q7, .int 0, .ref q9, .ref q10, .ref q11, .ref q12, .ref q13, .ref q14, .ref q15, .ref q16, .int 0, .ref q18, .ref q19, .ref q20, .null, .null, .int 0])), (q21, .inl (0, 20, .inl (fun _ => 0))), (q20, .inl (0, 20, .inl (fun _ => 0))), (q19, .inl (1, 20, .inr (.inl (fun _ => 0)))), (q18, .inl (0, 20, .inl (fun _ => 0))), (q16, .inl (2, 240, .inl (fun _ => 0))), (q15, .inl (1, 240, .inr (.inl (fun _ => 0)))), (q14, .inl (0, 240, .inl (fun _ => 0))), (q13, .inl (0, 30, .inl (fun _ => 0))), (q12, .inl (0, 30, .inl (fun _ => 0))), (q11, .inl (0, 30, .inl (fun _ => 0))), (q10, .inl (0, 30, .inl (fun _ => 0))), (q9, .inl (0, 30, .inl (fun _ => 0))), (q7, .inl (0, 20, .inl (fun _ => 0))), (q5, .inl (1, 6, .inr (.inl (fun _ => 0)))), (q4, .inl (2, 6, .inl (fun _ => 0)))] := cK.new k_20 h21 e21
  refine ⟨_, a21.hd, oLt rfl, ?_⟩
  intro F21 f21
  have k_21 : cK F21 [(t, .inr (5, [.int 0, .int 0, .int 0, .int 0, .ref q4, .ref q5, .int 0, .ref q7, .int 0, .ref q9, .ref q10, .ref q11, .ref q12, .ref q13, .ref q14, .ref q15, .ref q16, .int 0, .ref q18, .ref q19, .ref q20, .ref q21, .null, .int 0])), (q21, .inl (0, 20, .inl (fun _ => 0))), (q20, .inl (0, 20, .inl (fun _ => 0))), (q19, .inl (1, 20, .inr (.inl (fun _ => 0)))), (q18, .inl (0, 20, .inl (fun _ => 0))), (q16, .inl (2, 240, .inl (fun _ => 0))), (q15, .inl (1, 240, .inr (.inl (fun _ => 0)))), (q14, .inl (0, 240, .inl (fun _ => 0))), (q13, .inl (0, 30, .inl (fun _ => 0))), (q12, .inl (0, 30, .inl (fun _ => 0))), (q11, .inl (0, 30, .inl (fun _ => 0))), (q10, .inl (0, 30, .inl (fun _ => 0))), (q9, .inl (0, 30, .inl (fun _ => 0))), (q7, .inl (0, 20, .inl (fun _ => 0))), (q5, .inl (1, 6, .inr (.inl (fun _ => 0)))), (q4, .inl (2, 6, .inl (fun _ => 0)))] := cK.set a21 f21
  intro q22 h22 G22 e22
  have a22 : cK G22 [(t, .inr (5, [.int 0, .int 0, .int 0, .int 0, .ref q4, .ref q5, .int 0, .ref q7, .int 0, .ref q9, .ref q10, .ref q11, .ref q12, .ref q13, .ref q14, .ref q15, .ref q16, .int 0, .ref q18, .ref q19, .ref q20, .ref q21, .null, .int 0])), (q22, .inl (2, 20, .inl (fun _ => 0))), (q21, .inl (0, 20, .inl (fun _ => 0))), (q20, .inl (0, 20, .inl (fun _ => 0))), (q19, .inl (1, 20, .inr (.inl (fun _ => 0)))), (q18, .inl (0, 20, .inl (fun _ => 0))), (q16, .inl (2, 240, .inl (fun _ => 0))), (q15, .inl (1, 240, .inr (.inl (fun _ => 0)))), (q14, .inl (0, 240, .inl (fun _ => 0))), (q13, .inl (0, 30, .inl (fun _ => 0))), (q12, .inl (0, 30, .inl (fun _ => 0))), (q11, .inl (0, 30, .inl (fun _ => 0))), (q10, .inl (0, 30, .inl (fun _ => 0))), (q9, .inl (0, 30, .inl (fun _ => 0))), (q7, .inl (0, 20, .inl (fun _ => 0))), (q5, .inl (1, 6, .inr (.inl (fun _ => 0)))), (q4, .inl (2, 6, .inl (fun _ => 0)))] := cK.new k_21 h22 e22
  refine ⟨_, a22.hd, oLt rfl, ?_⟩
  intro F22 f22
  have k_22 : cK F22 [(t, .inr (5, [.int 0, .int 0, .int 0, .int 0, .ref q4, .ref q5, .int 0, .ref q7, .int 0, .ref q9, .ref q10, .ref q11, .ref q12, .ref q13, .ref q14, .ref q15, .ref q16, .int 0, .ref q18, .ref q19, .ref q20, .ref q21, .ref q22, .int 0])), (q22, .inl (2, 20, .inl (fun _ => 0))), (q21, .inl (0, 20, .inl (fun _ => 0))), (q20, .inl (0, 20, .inl (fun _ => 0))), (q19, .inl (1, 20, .inr (.inl (fun _ => 0)))), (q18, .inl (0, 20, .inl (fun _ => 0))), (q16, .inl (2, 240, .inl (fun _ => 0))), (q15, .inl (1, 240, .inr (.inl (fun _ => 0)))), (q14, .inl (0, 240, .inl (fun _ => 0))), (q13, .inl (0, 30, .inl (fun _ => 0))), (q12, .inl (0, 30, .inl (fun _ => 0))), (q11, .inl (0, 30, .inl (fun _ => 0))), (q10, .inl (0, 30, .inl (fun _ => 0))), (q9, .inl (0, 30, .inl (fun _ => 0))), (q7, .inl (0, 20, .inl (fun _ => 0))), (q5, .inl (1, 6, .inr (.inl (fun _ => 0)))), (q4, .inl (2, 6, .inl (fun _ => 0)))] := cK.set a22 f22
  refine ⟨_, k_22.hd, oLt rfl, ?_⟩
  intro F23 f23
  have k_23 : cK F23 [(t, .inr (5, [.int 0, .int 0, .int 0, .int 0, .ref q4, .ref q5, .int 0, .ref q7, .int 0, .ref q9, .ref q10, .ref q11, .ref q12, .ref q13, .ref q14, .ref q15, .ref q16, .int 0, .ref q18, .ref q19, .ref q20, .ref q21, .ref q22, .int 0])), (q22, .inl (2, 20, .inl (fun _ => 0))), (q21, .inl (0, 20, .inl (fun _ => 0))), (q20, .inl (0, 20, .inl (fun _ => 0))), (q19, .inl (1, 20, .inr (.inl (fun _ => 0)))), (q18, .inl (0, 20, .inl (fun _ => 0))), (q16, .inl (2, 240, .inl (fun _ => 0))), (q15, .inl (1, 240, .inr (.inl (fun _ => 0)))), (q14, .inl (0, 240, .inl (fun _ => 0))), (q13, .inl (0, 30, .inl (fun _ => 0))), (q12, .inl (0, 30, .inl (fun _ => 0))), (q11, .inl (0, 30, .inl (fun _ => 0))), (q10, .inl (0, 30, .inl (fun _ => 0))), (q9, .inl (0, 30, .inl (fun _ => 0))), (q7, .inl (0, 20, .inl (fun _ => 0))), (q5, .inl (1, 6, .inr (.inl (fun _ => 0)))), (q4, .inl (2, 6, .inl (fun _ => 0)))] := cK.set k_22 f23
  exact hp q4 q5 q7 q9 q10 q11 q12 q13 q14 q15 q16 q18 q19 q20 q21 q22 _ k_23
abbrev oS0 : oS := (fun _ _ _ => 0, fun _ _ _ => 0, fun _ _ _ => 0)
def ad0 (t q1 q2 q3 q4 q : Nat) (k _ _ : Nat) : Nat := match k with | 0 => t | 1 => q1 | 2 => q2 | 3 => q3 | 4 => q4 | _ => q
theorem oR_0 {q1 q2 q3 q4 q : Nat} {G1 : gh_H} (h : cK G [(t, .inr (4, [.ref q1, .ref q2, .ref q3, .ref q4, .int 0, .int 0, .int 0, .int 0, .int 0, .int 0, .int 0])), (q4, .inl (5, 20, .inr (.inr (.inr (.inr (fun _ => none)))))), (q3, .inl (4, 30, .inr (.inr (.inr (.inr (fun _ => none)))))), (q2, .inl (0, 20, .inl (fun _ => 0))), (q1, .inl (3, 6, .inr (.inr (.inr (.inr (fun _ => none))))))]) (hq : G q = none) (hG : G1 = gh_up G q (.inl (1, 1, .inr (.inl (fun _ => 0))))) : oR oS0 (ad0 t q1 q2 q3 q4 q) G1 := by
  have k := cK.new h hq hG
  have hk : ∀ f i j, oV oS0 f i j → (f = 0 ∨ f = 1 ∨ f = 2 ∨ f = 3 ∨ f = 4 ∨ f = 10) ∧ i = 0 ∧ j = 0 := by
    intro f i j hv
    match f, hv with
    | 0, hv => exact ⟨by omega, hv.2⟩
    | 1, hv => exact ⟨by omega, hv.2⟩
    | 2, hv => exact ⟨by omega, hv.2⟩
    | 3, hv => exact ⟨by omega, hv.2⟩
    | 4, hv => exact ⟨by omega, hv.2⟩
    | 5, hv => exact absurd hv.1 (Nat.not_lt_zero _)
    | 6, hv => exact absurd hv.1 (Nat.not_lt_zero _)
    | 7, hv => exact absurd hv.1 (Nat.not_lt_zero _)
    | 8, hv => exact absurd hv.1 (Nat.not_lt_zero _)
    | 9, hv => exact absurd hv.1 (Nat.not_lt_zero _)
    | n + 10, hv => exact ⟨by have := hv.1; omega, hv.2⟩
  refine ⟨⟨Nat.zero_le _, Nat.zero_le _, Nat.zero_le _, Nat.zero_le _, fun _ => Nat.zero_le _⟩, fun f i j hv => ?_, fun f i j f' i' j' hv hv' e => ?_⟩
  · obtain ⟨hf, rfl, rfl⟩ := hk f i j hv
    rcases hf with rfl | rfl | rfl | rfl | rfl | rfl
    · exact k.hd
    · refine (k.2 (q1, .inl (3, 6, .inr (.inr (.inr (.inr (fun _ => none)))))) (by simp)).trans ?_
      simp [oCell]
    · refine (k.2 (q2, .inl (0, 20, .inl (fun _ => 0))) (by simp)).trans ?_
      simp [oCell]
    · refine (k.2 (q3, .inl (4, 30, .inr (.inr (.inr (.inr (fun _ => none)))))) (by simp)).trans ?_
      simp [oCell]
    · refine (k.2 (q4, .inl (5, 20, .inr (.inr (.inr (.inr (fun _ => none)))))) (by simp)).trans ?_
      simp [oCell]
    · refine (k.2 (q, .inl (1, 1, .inr (.inl (fun _ => 0)))) (by simp)).trans ?_
      simp [oCell]
  · obtain ⟨hf, rfl, rfl⟩ := hk f i j hv
    obtain ⟨hf', rfl, rfl⟩ := hk f' i' j' hv'
    refine ⟨?_, rfl, rfl⟩
    have P : ∀ f, (f = 0 ∨ f = 1 ∨ f = 2 ∨ f = 3 ∨ f = 4 ∨ f = 10) → ([t, q, q4, q3, q2, q1] : List Nat)[if f = 0 then 0 else if f = 10 then 1 else 6 - f]? = some (ad0 t q1 q2 q3 q4 q f 0 0) := by
      intro f hf
      rcases hf with rfl | rfl | rfl | rfl | rfl | rfl <;> rfl
    have := k.inj (P f hf) (by rw [e]; exact P f' hf')
    rcases hf with rfl | rfl | rfl | rfl | rfl | rfl <;> rcases hf' with rfl | rfl | rfl | rfl | rfl | rfl <;> first | rfl | exact absurd this (by decide)
def am0 (t q4 q5 q7 q9 q10 q11 q12 q13 q14 q15 q16 q18 q19 q20 q21 q22 : Nat) (f : Nat) : Nat := match f with | 0 => t | 4 => q4 | 5 => q5 | 7 => q7 | 9 => q9 | 10 => q10 | 11 => q11 | 12 => q12 | 13 => q13 | 14 => q14 | 15 => q15 | 16 => q16 | 18 => q18 | 19 => q19 | 20 => q20 | 21 => q21 | _ => q22
def mPos (f : Nat) : Nat := match f with | 0 => 0 | 4 => 16 | 5 => 15 | 7 => 14 | 9 => 13 | 10 => 12 | 11 => 11 | 12 => 10 | 13 => 9 | 14 => 8 | 15 => 7 | 16 => 6 | 18 => 5 | 19 => 4 | 20 => 3 | 21 => 2 | _ => 1
theorem oM_0 {q4 q5 q7 q9 q10 q11 q12 q13 q14 q15 q16 q18 q19 q20 q21 q22 : Nat} (k : cK G [(t, .inr (5, [.int 0, .int 0, .int 0, .int 0, .ref q4, .ref q5, .int 0, .ref q7, .int 0, .ref q9, .ref q10, .ref q11, .ref q12, .ref q13, .ref q14, .ref q15, .ref q16, .int 0, .ref q18, .ref q19, .ref q20, .ref q21, .ref q22, .int 0])), (q22, .inl (2, 20, .inl (fun _ => 0))), (q21, .inl (0, 20, .inl (fun _ => 0))), (q20, .inl (0, 20, .inl (fun _ => 0))), (q19, .inl (1, 20, .inr (.inl (fun _ => 0)))), (q18, .inl (0, 20, .inl (fun _ => 0))), (q16, .inl (2, 240, .inl (fun _ => 0))), (q15, .inl (1, 240, .inr (.inl (fun _ => 0)))), (q14, .inl (0, 240, .inl (fun _ => 0))), (q13, .inl (0, 30, .inl (fun _ => 0))), (q12, .inl (0, 30, .inl (fun _ => 0))), (q11, .inl (0, 30, .inl (fun _ => 0))), (q10, .inl (0, 30, .inl (fun _ => 0))), (q9, .inl (0, 30, .inl (fun _ => 0))), (q7, .inl (0, 20, .inl (fun _ => 0))), (q5, .inl (1, 6, .inr (.inl (fun _ => 0)))), (q4, .inl (2, 6, .inl (fun _ => 0)))]) : oM oS0 0 (am0 t q4 q5 q7 q9 q10 q11 q12 q13 q14 q15 q16 q18 q19 q20 q21 q22) G := by
  refine ⟨fun f hf => ?_, fun f f' hf hf' e => ?_⟩
  · rcases hf with rfl | rfl | rfl | rfl | rfl | rfl | rfl | rfl | rfl | rfl | rfl | rfl | rfl | rfl | rfl | rfl | rfl
    · exact k.hd
    · exact k.2 (q4, .inl (2, 6, .inl (fun _ => 0))) (by simp)
    · exact k.2 (q5, .inl (1, 6, .inr (.inl (fun _ => 0)))) (by simp)
    · exact k.2 (q7, .inl (0, 20, .inl (fun _ => 0))) (by simp)
    · exact k.2 (q9, .inl (0, 30, .inl (fun _ => 0))) (by simp)
    · exact k.2 (q10, .inl (0, 30, .inl (fun _ => 0))) (by simp)
    · exact k.2 (q11, .inl (0, 30, .inl (fun _ => 0))) (by simp)
    · exact k.2 (q12, .inl (0, 30, .inl (fun _ => 0))) (by simp)
    · exact k.2 (q13, .inl (0, 30, .inl (fun _ => 0))) (by simp)
    · exact k.2 (q14, .inl (0, 240, .inl (fun _ => 0))) (by simp)
    · exact k.2 (q15, .inl (1, 240, .inr (.inl (fun _ => 0)))) (by simp)
    · exact k.2 (q16, .inl (2, 240, .inl (fun _ => 0))) (by simp)
    · exact k.2 (q18, .inl (0, 20, .inl (fun _ => 0))) (by simp)
    · exact k.2 (q19, .inl (1, 20, .inr (.inl (fun _ => 0)))) (by simp)
    · exact k.2 (q20, .inl (0, 20, .inl (fun _ => 0))) (by simp)
    · exact k.2 (q21, .inl (0, 20, .inl (fun _ => 0))) (by simp)
    · exact k.2 (q22, .inl (2, 20, .inl (fun _ => 0))) (by simp)
  · have P : ∀ f, mRole f → ([t, q22, q21, q20, q19, q18, q16, q15, q14, q13, q12, q11, q10, q9, q7, q5, q4] : List Nat)[mPos f]? = some (am0 t q4 q5 q7 q9 q10 q11 q12 q13 q14 q15 q16 q18 q19 q20 q21 q22 f) := by
      intro f hf
      rcases hf with rfl | rfl | rfl | rfl | rfl | rfl | rfl | rfl | rfl | rfl | rfl | rfl | rfl | rfl | rfl | rfl | rfl <;> rfl
    have := k.inj (P f hf) (by rw [e]; exact P f' hf')
    have Q : ∀ f f', mRole f → mRole f' → mPos f = mPos f' → f = f' := by
      intro f f' hf hf' e
      rcases hf with rfl | rfl | rfl | rfl | rfl | rfl | rfl | rfl | rfl | rfl | rfl | rfl | rfl | rfl | rfl | rfl | rfl <;> rcases hf' with rfl | rfl | rfl | rfl | rfl | rfl | rfl | rfl | rfl | rfl | rfl | rfl | rfl | rfl | rfl | rfl | rfl <;> first | rfl | exact absurd e (by decide)
    exact Q f f' hf hf' this
end C39
theorem oInv_0 : oInv 0 oS0 := by
  refine ⟨fun _ _ => ⟨rfl, rfl⟩, fun _ _ => ⟨rfl, rfl⟩, fun _ h => absurd h (Nat.not_lt_zero _), fun _ h => absurd h (Nat.not_lt_zero _), fun _ h => absurd h (Nat.not_lt_zero _), fun _ => (by decide : (0 : Int32) ≤ 0 ∧ (0 : Int32) ≤ 3), fun _ => (by decide : (0 : Int32) ≤ 0 ∧ (0 : Int32) ≤ 0), fun _ => ⟨Or.inl rfl, Or.inl rfl⟩, fun _ _ => Or.inl rfl, by decide, fun _ => (by decide : 0 ≤ (0 : Int64).toInt ∧ (0 : Int64).toInt ≤ ((0 : Nat) : Int) * 1000000000)⟩
theorem law_loop {post : Int32 → gh_H → Prop} {px : String → gh_H → Prop} {L v1 v2 v3 : Nat} {xs : Nat → Int32} (hL : L ≤ 2560) : ∀ (n t : Nat) (G : gh_H) (kc ks : Nat), t + n = 513 → t ≤ 512 → lJ G v1 v2 v3 t → kc ≤ 23 + 12 * t → ks ≤ 1114 + 58 * t → wL_law_23 post px L xs n G v1 v2 v3 (nI (5 * t)) kc ks := by
  intro n
  induction n with
  | zero => intro t G kc ks h1 h2; omega
  | succ n ih =>
    intro t G kc ks h1 h2 h hk hs
    have cmp : (nI L - 5 < nI (5 * t)) ↔ (L : Int) - 5 < (5 * t : Nat) := by
      rw [show (5 : Int32) = nI 5 from rfl, Int32.lt_iff_toInt_lt, pk_sub_toInt (by omega) (by omega), nI_toInt (by omega)]
      rfl
    refine ⟨fun _ => ⟨by omega, by omega, rfl⟩, fun c => ?_⟩
    have hlt : 5 * t + 5 ≤ L := by
      have := mt cmp.mpr c
      omega
    have e5 : nI (5 * t) + 5 = nI (5 * (t + 1)) := by rw [show (5 : Int32) = nI 5 from rfl, nI_add, show 5 * t + 5 = 5 * (t + 1) by omega]
    have ii : ∀ d : Nat, d < 5 → vp_in (nI (5 * t) + nI d) L := fun d hd => by rw [nI_add]; exact vp_in_nI (by omega) (by omega)
    have i1 : vp_in (nI (5 * t) + 1) L := ii 1 (by omega)
    have i2 : vp_in (nI (5 * t) + 2) L := ii 2 (by omega)
    have i3 : vp_in (nI (5 * t) + 3) L := ii 3 (by omega)
    have i4 : vp_in (nI (5 * t) + 4) L := ii 4 (by omega)
    have hJ : ∀ G' kc' ks', lJ G' v1 v2 v3 (t + 1) → kc' ≤ kc + 12 → ks' ≤ ks + 58 → wL_law_23 post px L xs n G' v1 v2 v3 (nI (5 * t) + 5) kc' ks' := by
      intro G' kc' ks' h' a b
      rw [e5]
      exact ih (t + 1) G' kc' ks' (by omega) (by omega) h' (by omega) (by omega)
    refine ⟨vp_in_nI (by omega) (by omega), ?_⟩
    refine ⟨fun _ => g_0 hJ h (by omega) (by omega) (by omega) i1 i2 i3 i4, fun _ => g_1 hJ h (by omega) (by omega) (by omega) i1 i2 i3 i4, fun _ => g_2 hJ h (by omega) (by omega) (by omega) i1 i2 i3 i4, fun _ => g_3 hJ h (by omega) (by omega) (by omega) i1 i2 i3 i4, fun _ => g_4 hJ h (by omega) (by omega) (by omega) i1 i2 i3 i4, fun _ => g_5 hJ h (by omega) (by omega) (by omega) i1 i2 i3 i4, fun _ => g_6 hJ h (by omega) (by omega) (by omega) i1 i2 i3 i4, fun _ => g_7 hJ h (by omega) (by omega) (by omega) i1 i2 i3 i4, fun _ => g_8 hJ h (by omega) (by omega) (by omega) i1 i2 i3 i4, fun _ => g_9 hJ h (by omega) (by omega) (by omega) i1 i2 i3 i4, fun _ => g_10 hJ h (by omega) (by omega) (by omega) i1 i2 i3 i4, fun _ => g_11 hJ h (by omega) (by omega) (by omega) i1 i2 i3 i4, fun _ => g_12 hJ h (by omega) (by omega) (by omega) i1 i2 i3 i4, fun _ => g_13 hJ h (by omega) (by omega) (by omega) i1 i2 i3 i4, fun _ => g_14 hJ h (by omega) (by omega) (by omega) i1 i2 i3 i4, fun _ => g_15 hJ h (by omega) (by omega) (by omega) i1 i2 i3 i4, fun _ => g_16 hJ h (by omega) (by omega) (by omega) i1 i2 i3 i4, fun _ => g_17 hJ h (by omega) (by omega) (by omega) i1 i2 i3 i4, fun _ => g_18 hJ h (by omega) (by omega) (by omega) i1 i2 i3 i4, fun _ => g_19 hJ h (by omega) (by omega) (by omega) i1 i2 i3 i4, fun _ => g_20 hJ h (by omega) (by omega) (by omega) i1 i2 i3 i4, fun _ => g_21 hJ h (by omega) (by omega) (by omega) i1 i2 i3 i4, fun _ => g_22 hJ h (by omega) (by omega) (by omega) i1 i2 i3 i4, fun _ _ _ _ _ _ _ _ _ _ _ _ _ _ _ _ _ _ _ _ _ _ _ => ?_⟩
    obtain ⟨Gc, Gm, σ, ad, am, k, x2, xR, xM, xI, x1⟩ := h
    exact hJ G kc ks ⟨Gc, Gm, σ, ad, am, k, x2, xR, xM, xI.up, x1⟩ (by omega) (by omega)
theorem law_all {px : String → gh_H → Prop} {post : Int32 → gh_H → Prop} {L : Nat} {xs : Nat → Int32} (hL : L ≤ 2560) : wL_law post px L xs (fun _ => none) := by
  refine ⟨by omega, by omega, fun q hq G4 e4 => ⟨by omega, by omega, G4, fun _ => none, ⟨fun a => ?_, fun _ _ => rfl⟩, c_init (gx_at e4) (fun q1 q2 q3 q4 G10 k10 hd10 G14 e14 => ⟨by omega, by omega, fun q18 hq18 G19 e19 => ⟨by omega, by omega, gh_up (fun _ => none) q18 (.inr (5, [.int 0, .int 0, .int 0, .int 0, .null, .null, .int 0, .null, .int 0, .null, .null, .null, .null, .null, .null, .null, .null, .int 0, .null, .null, .null, .null, .null, .int 0])), G10, ?_, m_init (gh_up_s ..) (fun q4 q5 q7 q9 q10 q11 q12 q13 q14 q15 q16 q18 q19 q20 q21 q22 G25 k25 hd25 G29 e29 => ⟨by omega, by omega, fun q33 hq33 G34 e34 => ?_⟩)⟩⟩)⟩⟩
  · unfold gh_j
    cases G4 a <;> rfl
  · have h18 : G10 q18 = none := by
      rw [e14] at hq18
      unfold gh_j at hq18
      cases z : G10 q18 with
      | none => rfl
      | some y => rw [z] at hq18; cases hq18
    refine ⟨fun a => ?_, fun a ha => ?_⟩
    · rw [e19]
      by_cases e : a = q18
      · subst e
        rw [gh_up_s]
        unfold gh_j
        rw [gh_up_s]
      · rw [gh_up_n e, e14]
        unfold gh_j
        rw [gh_up_n e]
        cases G10 a <;> rfl
    · by_cases e : a = q18
      · rw [e]; exact h18
      · rw [gh_up_n e] at ha
        exact absurd rfl ha
  · have n25 : G25 q33 = none := by
      rw [e29] at hq33
      unfold gh_j at hq33
      cases z : G25 q33 with
      | none => rfl
      | some y => rw [z] at hq33; cases hq33
    have n10 : G10 q33 = none := by
      rw [e29] at hq33
      unfold gh_j at hq33
      rw [n25] at hq33
      exact hq33
    have hR := oR_0 k10 n10 rfl
    have hM := oM_0 k25
    refine law_loop hL 513 0 G34 _ _ (by omega) (by omega) ⟨gh_up G10 q33 (.inl (1, 1, .inr (.inl (fun _ => 0)))), G25, oS0, _, _, 0, ⟨fun a => ?_, fun a ha => ?_⟩, hR, hM, oInv_0, rfl, rfl, rfl⟩ (by omega) (by omega)
    · rw [e34]
      by_cases e : a = q33
      · subst e
        rw [gh_up_s]
        unfold gh_j
        rw [gh_up_s]
      · rw [gh_up_n e, e29]
        unfold gh_j
        rw [gh_up_n e]
        cases z : G25 a with
        | none => cases G10 a <;> rfl
        | some y => rw [hd25 a (by rw [z]; exact fun w => (by cases w))]
    · by_cases e : a = q33
      · rw [e]; exact n25
      · rw [gh_up_n e] at ha
        cases z : G25 a with
        | none => rfl
        | some y => exact absurd (hd25 a (by rw [z]; exact fun w => (by cases w))) ha
