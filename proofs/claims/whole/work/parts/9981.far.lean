/-! changes leave the blocks of the snapshots alone -/
section V3
variable {q : Int → Int}
theorem y_fc_near {r w : Int} : ∀ j, 0 ≤ j → j < 4964 → k_forecast q r w j = q j := by
  intro j h0 h1
  unfold k_forecast
  split
  · unfold k_copy; rw [if_neg (by omega)]
  · rfl
theorem y_fc_far {r w : Int} : y_far q (k_forecast q r w) := by
  intro j h0 h1
  unfold k_forecast
  split
  · unfold k_copy; rw [if_neg (by omega)]
  · rfl
theorem y_far_add {q1 : Int → Int} {i r s : Int} (h : y_far q q1) (h5 : 0 ≤ q1 5 ∧ q1 5 < 150) (hi : 0 ≤ i ∧ i < 50) : y_far q (k_add q1 i r s) := by
  unfold k_add
  exact ((((((((h.up (by omega)).up (by omega)).up (by omega)).up (by omega)).up (by omega)).up (by omega)).up (by omega)).up (by omega))
theorem y_far_rm {q1 : Int → Int} {r x : Int} (h : y_far q q1) (hr : 0 ≤ r ∧ r < 8) (hc : q1 (10 + 14 * r + 13) ≤ 50) : y_far q (k_rm q1 r x) := by
  intro j a b
  unfold k_rm
  rw [if_neg (by omega), if_neg (by omega)]
  exact h j a b
theorem y_far_leave {q1 : Int → Int} {i r : Int} (h : y_far q q1) (hr : 0 ≤ r ∧ r < 8) (hc : q1 (10 + 14 * r + 13) ≤ 50) : y_far q (k_leave q1 i r) := by
  unfold k_leave
  split
  · exact h
  · exact y_far_rm h hr hc
theorem y_far_breakDown (hb : y_base q) {r : Int} : y_far q (k_breakDown q r) := by
  obtain ⟨h0, h1, h2, h3, h4, h5⟩ := hb.1
  unfold k_breakDown
  split
  · exact y_far.rf.up (by omega)
  · exact y_far.rf
theorem y_far_setExtensionLimit (hb : y_base q) {x : Int} : y_far q (k_setExtensionLimit q x) := by
  unfold k_setExtensionLimit
  split
  · exact y_far.rf.up (by omega)
  · exact y_far.rf
theorem y_far_addParty (hb : y_base q) {ti w : Int} : y_far q (k_addParty q ti w) := by
  obtain ⟨h0, h1, h2, h3, h4, h5⟩ := hb.1
  unfold k_addParty
  split
  · unfold k_party
    exact (((y_far.rf.up (by omega)).up (by omega)).up (by omega)).up (by omega)
  · exact y_far.rf
theorem y_far_joinStandby (hb : y_base q) {r w : Int} : y_far q (k_joinStandby q r w) := by
  obtain ⟨h0, h1, h2, h3, h4, h5⟩ := hb.1
  unfold k_joinStandby
  split
  · rename_i c
    have cb := (y_cb_b hb).2.2.2.2 r c.1.1 c.1.2
    unfold k_standby
    exact ((y_far.rf.up (by omega)).up (by omega)).up (by omega)
  · exact y_far.rf
theorem y_far_joinWaitlist (hb : y_base q) {i r : Int} : y_far q (k_joinWaitlist q i r) := by
  sorry
theorem y_far_leaveWaitlist (hb : y_base q) {i r : Int} : y_far q (k_leaveWaitlist q i r) := by
  obtain ⟨h0, h1, h2, h3, h4, h5⟩ := hb.1
  unfold k_leaveWaitlist
  split
  · rename_i c
    have cb := (y_cb_b hb).2.2.2.2 r c.2.1 c.2.2
    exact y_far_leave y_far.rf (by omega) (by omega)
  · exact y_far.rf
theorem y_far_redeem (hb : y_base q) {t : Int} : y_far q (k_redeem q t) := by
  sorry
theorem y_far_redeemOpen (hb : y_base q) {t r : Int} : y_far q (k_redeemOpen q t r) := by
  sorry
theorem y_far_serve (hb : y_base q) {r : Int} (hr : 0 ≤ r ∧ r < q 1) : y_far q (k_serve q r) := by
  sorry
theorem y_far_issue (hb : y_base q) {i r e : Int} : y_far q (k_issue q i r e) := by
  sorry
theorem y_far_cancel (hb : y_base q) {t : Int} : y_far q (k_cancel q t) := by
  sorry
theorem y_far_repair (hb : y_base q) {r : Int} : y_far q (k_repair q r) := by
  sorry
theorem y_far_setShare (hb : y_base q) {r sh : Int} : y_far q (k_setShare q r sh) := by
  sorry
theorem y_far_moveTicket (hb : y_base q) {t e : Int} : y_far q (k_moveTicket q t e) := by
  sorry
theorem y_far_exchange (hb : y_base q) {t r e : Int} : y_far q (k_exchange q t r e) := by
  sorry
theorem y_far_issueJoint (hb : y_base q) {i j r e : Int} : y_far q (k_issueJoint q i j r e) := by
  sorry
theorem y_far_adv : ∀ (n : Nat) (q : Int → Int), y_base q → q 0 + n ≤ 144 → y_far q (k_adv n q) := by
  sorry
theorem y_far_advance (hb : y_base q) {n : Int} : y_far q (k_advance q n) := by
  unfold k_advance
  split
  · rename_i c
    exact y_far_adv _ q hb (by omega)
  · exact y_far.rf
end V3
