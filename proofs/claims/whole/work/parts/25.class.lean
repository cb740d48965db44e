/-! The class's calls: each answers as the document's. -/
section S25
variable {σ : oS} {ad : Nat → Nat → Nat → Nat} {G : gh_H} {px : String → gh_H → Prop}
theorem c_month {post : gh_H → Prop} {m : Int32} (h : oR σ ad G) (hk : oK (opMonth σ m) e_A ad (fun _ G' => post G') px) : wX4_month post px G (ad 0 0 0) m := by
  unfold wX4_month
  refine ⟨_, _, h.led, rfl, s_range32 (l := σ.1 0 0 0) (u := 120) rfl (by decide) (fun c => ?_) (fun c => ⟨_, h.led, oLt rfl, fun G1 hG => ?_⟩)⟩
  · exact hk.no (by unfold opMonth; rw [if_pos c]) h (by decide) rfl
  · exact hk.yes (by unfold opMonth; rw [if_neg c]) (p_I0 h hG)
theorem c_close {post : Int32 → gh_H → Prop} {m : Int32} (h : oR σ ad G) (hk : oK (opClose σ m) e_AS ad post px) : wX4_close post px G (ad 0 0 0) m := by
  unfold wX4_close
  refine ⟨_, _, h.led, rfl, s_range32 (l := 0) (u := σ.1 0 0 0) (by decide) rfl (fun c => ?_) (fun c => ⟨_, _, h.led, rfl, fun c2 => ⟨_, _, h.led, rfl, _, h.led, oLt rfl, fun G1 hG => ?_⟩, fun c2 => ?_⟩)⟩
  · exact hk.no (by unfold opClose; rw [if_pos c]) h (by decide) rfl
  · exact hk.yes (by unfold opClose; rw [if_neg c, if_neg (Int32.not_lt.mpr c2)]) (p_I1 h hG)
  · exact hk.no (by unfold opClose; rw [if_neg c, if_pos (Int32.not_le.mp c2)]) h (by decide) rfl
theorem c_rate {post : gh_H → Prop} {m : Int32} (h : oR σ ad G) (hk : oK (opRate σ m) e_A ad (fun _ G' => post G') px) : wX4_rate post px G (ad 0 0 0) m := by
  unfold wX4_rate
  refine s_range32 (l := 0) (u := 100) (by decide) (by decide) (fun c => ?_) (fun c => ⟨_, h.led, oLt rfl, fun G1 hG => ?_⟩)
  · exact hk.no (by unfold opRate; rw [if_pos c]) h (by decide) rfl
  · exact hk.yes (by unfold opRate; rw [if_neg c]) (p_I2 h hG)
theorem c_credit {post : Int64 → gh_H → Prop} {p : Int32} (h : oR σ ad G) (hk : oK (opCredit σ p) e_N ad post px) : wX4_credit post px G (ad 0 0 0) p := by
  unfold wX4_credit
  have hB := h.1.1
  refine ⟨_, h.led, s_findOwner h (fun c => ?_) (fun i hi e => ⟨_, rfl, _, _, h.own hi, rfl, ?_⟩)⟩
  · exact hk.no (by unfold opCredit; rw [if_pos c]) h (by decide) rfl
  · obtain ⟨n1, n2⟩ := oNo_f hi (by omega) e
    exact hk.yes (by unfold opCredit; rw [if_neg n1, n2]) h
theorem c_told {post : Int32 → gh_H → Prop} {b w : Int32} (h : oR σ ad G) (hk : oK (opTold σ b w) e_NA ad post px) : wX4_told post px G (ad 0 0 0) b w := by
  unfold wX4_told
  have hB := h.1.2.2.1
  refine ⟨_, h.led, s_findBatch h (fun c => ?_) (fun i hi e => s_range32 (l := 0) (u := 4) (by decide) (by decide) (fun c => ?_) (fun c => ?_))⟩
  · exact hk.no (by unfold opTold; rw [if_pos c]) h (by decide) rfl
  · exact hk.no (by unfold opTold; rw [if_neg (oNo1_f hi (by omega) e).1, if_pos c]) h (by decide) rfl
  · have hy := hk.yes (by unfold opTold; rw [if_neg (oNo1_f hi (by omega) e).1, if_neg c, (oNo1_f hi (by omega) e).2]) h
    refine ⟨fun w0 => ⟨_, rfl, _, _, h.bat hi, rfl, ?_⟩, fun w1 => ⟨_, rfl, _, _, h.bat hi, rfl, ?_⟩, fun w2 => ⟨_, rfl, _, _, h.bat hi, rfl, ?_⟩, fun w3 => ⟨_, rfl, _, _, h.bat hi, rfl, ?_⟩, fun w0 w1 w2 w3 => ⟨_, rfl, _, _, h.bat hi, rfl, ?_⟩⟩
    · subst w0; simpa [oTold] using hy
    · subst w1; simpa [oTold] using hy
    · subst w2; simpa [oTold] using hy
    · subst w3; simpa [oTold] using hy
    · simpa [oTold, w0, w1, w2, w3] using hy
theorem c_known {post : Int64 → gh_H → Prop} {b w : Int32} (h : oR σ ad G) (hk : oK (opKnown σ b w) e_NA ad post px) : wX4_known post px G (ad 0 0 0) b w := by
  unfold wX4_known
  have hB := h.1.2.2.2.1
  refine ⟨_, h.led, s_findInvoice h (fun c => ?_) (fun i hi e => s_range32 (l := 0) (u := 5) (by decide) (by decide) (fun c => ?_) (fun c => ?_))⟩
  · exact hk.no (by unfold opKnown; rw [if_pos c]) h (by decide) rfl
  · exact hk.no (by unfold opKnown; rw [if_neg (oNo1_f hi (by omega) e).1, if_pos c]) h (by decide) rfl
  · have hy := hk.yes (by unfold opKnown; rw [if_neg (oNo1_f hi (by omega) e).1, if_neg c, (oNo1_f hi (by omega) e).2]) h
    refine ⟨fun w0 => ⟨_, rfl, _, _, h.inv hi, rfl, ?_⟩, fun w1 => ⟨_, rfl, _, _, h.inv hi, rfl, ?_⟩, fun w2 => ⟨_, rfl, _, _, h.inv hi, rfl, fun d => ?_, fun d => ?_⟩, fun w3 => ⟨_, _, h.led, rfl, _, rfl, _, h.inv hi, s_isOverdue h hi (fun c9 => ⟨fun z => absurd z (by decide), fun _ => ?_⟩) (fun c9 => ⟨fun _ => ?_, fun z => absurd rfl z⟩)⟩, fun w4 => ⟨_, rfl, _, _, h.inv hi, rfl, ?_⟩, fun w0 w1 w2 w3 w4 => ⟨_, rfl, _, _, h.inv hi, rfl, ?_⟩⟩
    · subst w0; simpa [oKnown] using hy
    · subst w1; simpa [oKnown] using hy
    · subst w2; simpa [oKnown, d] using hy
    · subst w2; simpa [oKnown, d] using hy
    · subst w3
      unfold oKnown at hy
      rw [if_neg (by decide), if_neg (by decide), if_neg (by decide), if_pos rfl, if_pos c9] at hy
      exact hy
    · subst w3
      unfold oKnown at hy
      rw [if_neg (by decide), if_neg (by decide), if_neg (by decide), if_pos rfl, if_neg c9] at hy
      exact hy
    · subst w4; simpa [oKnown] using hy
    · simpa [oKnown, w0, w1, w2, w3, w4] using hy
theorem c_count {post : Int32 → gh_H → Prop} {w : Int32} (h : oR σ ad G) (hp : post (opCount σ w) G) : wX4_count post px G (ad 0 0 0) w := by
  unfold wX4_count
  refine ⟨fun e => ⟨_, _, h.led, rfl, ?_⟩, fun e => ⟨_, _, h.led, rfl, ?_⟩, fun e => ⟨_, _, h.led, rfl, ?_⟩, fun e => ⟨_, h.led, s_postedBatches h ?_⟩, fun e => ⟨_, _, h.led, rfl, ?_⟩, fun e => ⟨_, h.led, s_unpaidInvoices h ?_⟩, fun e => ⟨_, _, h.led, rfl, ?_⟩, fun e => ⟨_, _, h.led, rfl, ?_⟩, fun e => ⟨_, h.led, s_heldOwners h ?_⟩, fun e0 e1 e2 e3 e4 e5 e6 e7 e8 => ?_⟩
  all_goals first | (subst e; simpa [opCount] using hp) | (simpa [opCount, e0, e1, e2, e3, e4, e5, e6, e7, e8] using hp)
theorem c_dispute {post : Int64 → gh_H → Prop} {i on : Int32} (h : oR σ ad G) (hb : on = 0 ∨ on = 1) (hk : oK (opDispute σ i on) e_NS ad post px) : wX4_dispute post px G (ad 0 0 0) i on := by
  unfold wX4_dispute
  have hB := h.1.2.2.2.1
  refine ⟨_, h.led, s_findInvoice h (fun c => ?_) (fun k hi e => ⟨_, rfl, _, _, h.inv hi, rfl, fun c => ⟨_, h.inv hi, oLt rfl, (by rcases hb with rfl | rfl <;> decide), (by rcases hb with rfl | rfl <;> decide), fun G1 hG => ⟨_, _, (p_I15 h hi hG).inv hi, rfl, ?_⟩⟩, fun c => ?_⟩)⟩
  · exact hk.no (by unfold opDispute; rw [if_pos c]) h (by decide) rfl
  · obtain ⟨n1, n2⟩ := oNo1_f hi (by omega) e
    exact hk.yes (by unfold opDispute; rw [if_neg n1, n2, if_neg c]; rfl) (p_I15 h hi hG)
  · obtain ⟨n1, n2⟩ := oNo1_f hi (by omega) e
    exact hk.no (by unfold opDispute; rw [if_neg n1, n2, if_pos c]) h (by decide) rfl
theorem oOvs_3 {o : Int32} {i : Nat} {v : Int32} : oOvs (oI σ 3 i 0 v) o = oOvs σ o := by
  simp [oOvs, oI, oOv]
theorem c_hold {post : Int32 → gh_H → Prop} {o on : Int32} (h : oR σ ad G) (hb : on = 0 ∨ on = 1) (hk : oK (opHold σ o on) e_NS ad post px) : wX4_hold post px G (ad 0 0 0) o on := by
  unfold wX4_hold
  have hB := h.1.1
  refine ⟨_, h.led, s_findOwner h (fun c => ?_) (fun k hi e => ⟨_, rfl, _, _, h.own hi, rfl, fun c => ⟨_, h.own hi, oLt rfl, (by rcases hb with rfl | rfl <;> decide), (by rcases hb with rfl | rfl <;> decide), fun G1 hG => ⟨_, (p_I3 h hi hG).led, s_overdueInvoicesOf (p_I3 h hi hG) ?_⟩⟩, fun c => ?_⟩)⟩
  · exact hk.no (by unfold opHold; rw [if_pos c]) h (by decide) rfl
  · obtain ⟨n1, n2⟩ := oNo_f hi (by omega) e
    rw [oOvs_3]
    exact hk.yes (by unfold opHold; rw [if_neg n1, n2, if_neg c]) (p_I3 h hi hG)
  · obtain ⟨n1, n2⟩ := oNo_f hi (by omega) e
    exact hk.no (by unfold opHold; rw [if_neg n1, n2, if_pos c]) h (by decide) rfl
theorem c_breaks {post : gh_H → Prop} {b r on : Int32} (h : oR σ ad G) (hb : on = 0 ∨ on = 1) (hk : oK (opBreaks σ b r on) e_NS ad (fun _ G' => post G') px) : wX4_breaks post px G (ad 0 0 0) b r on := by
  unfold wX4_breaks
  have hB := h.1.2.2.1
  refine ⟨_, h.led, s_findBatch h (fun c => ?_) (fun i hi e => ⟨_, rfl, s_findRow h hi (fun c => ?_) (fun j hj e2 => s_requireOpen h hi (fun c => ?_) (fun c => ⟨_, rfl, _, h.row hi hj, oLt rfl, (by rcases hb with rfl | rfl <;> decide), (by rcases hb with rfl | rfl <;> decide), fun G1 hG => ?_⟩))⟩)⟩
  · exact hk.no (by unfold opBreaks; rw [if_pos c]) h (by decide) rfl
  · obtain ⟨n1, n2⟩ := oNo1_f hi (by omega) e
    exact hk.no (by unfold opBreaks; rw [if_neg n1, n2, if_pos c]) h (by decide) rfl
  · obtain ⟨n1, n2⟩ := oNo1_f hi (by omega) e
    have hB8 := h.1.2.2.2.2 i
    obtain ⟨n3, n4⟩ := oNo_f hj (by omega) e2
    exact hk.no (by unfold opBreaks; rw [if_neg n1, n2, if_neg n3, if_pos c]) h (by decide) rfl
  · obtain ⟨n1, n2⟩ := oNo1_f hi (by omega) e
    have hB8 := h.1.2.2.2.2 i
    obtain ⟨n3, n4⟩ := oNo_f hj (by omega) e2
    exact hk.yes (by unfold opBreaks; rw [if_neg n1, n2, if_neg n3, if_neg (fun z => z c), n4]) (p_I11 h hi hj hG)
theorem c_balance {post : Int64 → gh_H → Prop} {a m : Int32} (h : oR σ ad G) (hk : oK (opBalance σ a m) e_NA ad post px) : wX4_balance post px G (ad 0 0 0) a m := by
  unfold wX4_balance
  have hB := h.1.2.1
  refine ⟨_, h.led, s_currencyOf h (fun c => ?_) (fun i hi e => s_range32 (l := 0) (u := 120) (by decide) (by decide) (fun c => ?_) (fun c => ⟨_, _, h.led, rfl, _, _, h.arB, by decide, s_balance_l h 300 0 0 (by omega) (by omega) ?_⟩))⟩
  · exact hk.no (by unfold opBalance; rw [if_pos c]) h (by decide) rfl
  · exact hk.no (by unfold opBalance; rw [if_neg (oNo_f hi (by omega) e).1, if_pos c]) h (by decide) rfl
  · exact hk.yes (by unfold opBalance; rw [if_neg (oNo_f hi (by omega) e).1, if_neg c]; rfl) h
theorem c_all {post : Int64 → gh_H → Prop} {c : Int32} (h : oR σ ad G) (hk : oK (opAll σ c) e_A ad post px) : wX4_all post px G (ad 0 0 0) c := by
  unfold wX4_all
  refine s_range32 (l := 0) (u := 2) (by decide) (by decide) (fun c1 => ?_) (fun c1 => ⟨_, _, h.led, rfl, _, _, h.arB, by decide, s_all_l h 300 0 0 (by omega) (by omega) ?_⟩)
  · exact hk.no (by unfold opAll; rw [if_pos c1]) h (by decide) rfl
  · exact hk.yes (by unfold opAll; rw [if_neg c1]; rfl) h
end S25
