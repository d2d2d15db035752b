/-! changes leave the blocks of the snapshots alone -/
section V3
variable {q : Int → Int}
theorem y_fc_near {r w : Int} : ∀ j, 0 ≤ j → j < 4964 → k_forecast q r w j = q j := by
  intro j h0 h1
  unfold k_forecast
  split
  · unfold k_copy; rw [if_neg (by omega)]
  · rfl
theorem y_fc_far {r w : Int} : y_far q (k_forecast q r w) := by
  intro j h0 h1
  unfold k_forecast
  split
  · unfold k_copy; rw [if_neg (by omega)]
  · rfl
theorem y_far_add {q1 : Int → Int} {i r s : Int} (h : y_far q q1) (h5 : 0 ≤ q1 5 ∧ q1 5 < 150) (hi : 0 ≤ i ∧ i < 50) : y_far q (k_add q1 i r s) := by
  unfold k_add
  exact ((((((((h.up (by omega)).up (by omega)).up (by omega)).up (by omega)).up (by omega)).up (by omega)).up (by omega)).up (by omega))
theorem y_far_rm {q1 : Int → Int} {r x : Int} (h : y_far q q1) (hr : 0 ≤ r ∧ r < 8) (hc : q1 (10 + 14 * r + 13) ≤ 50) : y_far q (k_rm q1 r x) := by
  intro j a b
  unfold k_rm
  rw [if_neg (by omega), if_neg (by omega)]
  exact h j a b
theorem y_far_leave {q1 : Int → Int} {i r : Int} (h : y_far q q1) (hr : 0 ≤ r ∧ r < 8) (hc : q1 (10 + 14 * r + 13) ≤ 50) : y_far q (k_leave q1 i r) := by
  unfold k_leave
  split
  · exact h
  · exact y_far_rm h hr hc
theorem y_far_breakDown (hb : y_base q) {r : Int} : y_far q (k_breakDown q r) := by
  obtain ⟨h0, h1, h2, h3, h4, h5⟩ := hb.1
  unfold k_breakDown
  split
  · exact y_far.rf.up (by omega)
  · exact y_far.rf
theorem y_far_setExtensionLimit (hb : y_base q) {x : Int} : y_far q (k_setExtensionLimit q x) := by
  unfold k_setExtensionLimit
  split
  · exact y_far.rf.up (by omega)
  · exact y_far.rf
theorem y_far_addParty (hb : y_base q) {ti w : Int} : y_far q (k_addParty q ti w) := by
  obtain ⟨h0, h1, h2, h3, h4, h5⟩ := hb.1
  unfold k_addParty
  split
  · unfold k_party
    exact (((y_far.rf.up (by omega)).up (by omega)).up (by omega)).up (by omega)
  · exact y_far.rf
theorem y_far_joinStandby (hb : y_base q) {r w : Int} : y_far q (k_joinStandby q r w) := by
  obtain ⟨h0, h1, h2, h3, h4, h5⟩ := hb.1
  unfold k_joinStandby
  split
  · rename_i c
    have cb := (y_cb_b hb).2.2.2.2 r c.1.1 c.1.2
    unfold k_standby
    exact ((y_far.rf.up (by omega)).up (by omega)).up (by omega)
  · exact y_far.rf
theorem y_far_leaveB {q1 : Int → Int} {i r : Int} (h : y_far q q1) (hb : y_base q1) (hr : 0 ≤ r ∧ r < q1 1) : y_far q (k_leave q1 i r) := by
  have h1 := (y_cb_b hb).1
  have c := (y_cb_b hb).2.2.2.2 r hr.1 hr.2
  exact y_far_leave h (by omega) (by omega)
theorem y_far_addB {q1 : Int → Int} {i r s : Int} (h : y_far q q1) (hb : y_base q1) (hi : 0 ≤ i ∧ i < q1 3) (h5 : q1 5 < 150) : y_far q (k_add q1 i r s) := by
  obtain ⟨a0, a1, a2, a3, a4, a5⟩ := hb.1
  exact y_far_add h (by omega) (by omega)
theorem y_far_joinWaitlist (hb : y_base q) {i r : Int} : y_far q (k_joinWaitlist q i r) := by
  unfold k_joinWaitlist
  by_cases h1 : (0 ≤ i ∧ i < q 3) ∧ (0 ≤ r ∧ r < q 1)
  · split
    · rename_i h
      rw [o_joinWaitlist, y_need_2 h1] at h
      by_cases hp : y_place q i r ≠ -1 ∨ y_has q i r = true
      · rw [if_pos hp] at h; exact absurd h.2 (by decide)
      · have hp' : y_place q i r = -1 := Classical.byContradiction (fun z => hp (Or.inl z))
        have room := y_wait_room hb h1.1 h1.2 hp'
        have c13 := (hb.ride h1.2.1 h1.2.2).2.2.2.2.2.2.2.2.2.2.2
        have h3 := hb.1.2.2.2.1
        have h11 := hb.1.2.1
        intro j a b
        exact k_ins_old (by omega) (by omega) (by omega)
    · exact y_far.rf
  · rw [if_neg (by rw [o_joinWaitlist, y_need_n h1]; intro z; exact absurd z.1 (by decide))]; exact y_far.rf
theorem y_far_leaveWaitlist (hb : y_base q) {i r : Int} : y_far q (k_leaveWaitlist q i r) := by
  obtain ⟨h0, h1, h2, h3, h4, h5⟩ := hb.1
  unfold k_leaveWaitlist
  split
  · rename_i c
    have cb := (y_cb_b hb).2.2.2.2 r c.2.1 c.2.2
    exact y_far_leave y_far.rf (by omega) (by omega)
  · exact y_far.rf
theorem y_far_use (hb : y_base q) {t r : Int} (ht : 0 ≤ t ∧ t < q 5) (hr : 0 ≤ r ∧ r < q 1) : y_far q (k_use q t r) := by
  obtain ⟨a0, a1, a2, a3, a4, a5⟩ := hb.1
  have c := (y_cb_b hb).2.2.2.2 r hr.1 hr.2
  unfold k_use
  exact (((y_far.rf.up (by omega)).up (by omega)).up (by omega)).up (by omega)
theorem y_far_redeem (hb : y_base q) {t : Int} : y_far q (k_redeem q t) := by
  unfold k_redeem
  by_cases ht : 0 ≤ t ∧ t < q 5
  · split
    · exact y_far_use hb ht (hb.2.2.2.2 t ht.1 ht.2).2.1
    · exact y_far.rf
  · rw [o_redeem, y_need_n ht, if_neg (by show ¬ (0 : Int) = 1; decide)]; exact y_far.rf
theorem y_far_redeemOpen (hb : y_base q) {t r : Int} : y_far q (k_redeemOpen q t r) := by
  unfold k_redeemOpen
  by_cases h1 : (0 ≤ t ∧ t < q 5) ∧ (0 ≤ r ∧ r < q 1)
  · split
    · exact y_far_use hb h1.1 h1.2
    · exact y_far.rf
  · rw [o_redeemOpen, y_need_n h1, if_neg (by show ¬ (0 : Int) = 1; decide)]; exact y_far.rf
theorem y_far_serves {r : Int} : ∀ (m : Nat) (q : Int → Int) (k n : Int), y_base q → 0 ≤ r ∧ r < q 1 → 0 ≤ k → k + m = q (10 + 14 * r + 13) → y_far q (y_serve r m q k n).1
  | 0, q, k, n, hb, hr, hk, hm => y_far.rf
  | m + 1, q, k, n, hb, hr, hk, hm => by
    have h0 := hb.1.1
    have w := (hb.2.1 r hr.1 hr.2).2.2.1.1 k hk (by omega)
    rw [y_serve]
    split
    · exact y_far_serves m q (k + 1) n hb hr (by omega) (by omega)
    · rename_i h
      obtain ⟨w1, w2, w3, w4⟩ := y_wf_pos hb w hr h0.1 (by omega)
      have b1 := y_base_add hb w hr w1 w3 w4
      have e := k_add_13 hb (s := y_wf q (q (4564 + 50 * r + k)) r (q 0)) w hr
      have b2 := y_base_rm b1 (r := r) (x := k) ⟨hr.1, by rw [e.2.1]; exact hr.2⟩ ⟨hk, by rw [e.1]; omega⟩
      have e2 := k_rm_13 (q := k_add q (q (4564 + 50 * r + k)) r (y_wf q (q (4564 + 50 * r + k)) r (q 0))) (r := r) (x := k)
      have e3 := k_rm_hd (q := k_add q (q (4564 + 50 * r + k)) r (y_wf q (q (4564 + 50 * r + k)) r (q 0))) (r := r) (x := k) hr.1 hk
      have h1 := (y_cb_b hb).1
      have c := (y_cb_b b1).2.2.2.2 r hr.1 (by rw [e.2.1]; exact hr.2)
      exact (y_far_rm (y_far_addB y_far.rf hb w w3) (by omega) c.2.2).tr (y_far_serves m _ k (n + 1) b2 ⟨hr.1, by rw [e3.1, e.2.1]; exact hr.2⟩ hk (by rw [e2, e.1]; omega))
theorem y_far_serve (hb : y_base q) {r : Int} (hr : 0 ≤ r ∧ r < q 1) : y_far q (k_serve q r) := by
  have c13 := (hb.ride hr.1 hr.2).2.2.2.2.2.2.2.2.2.2.2
  exact y_far_serves _ q 0 0 hb hr (by omega) (by omega)
theorem y_far_issue (hb : y_base q) {i r e : Int} : y_far q (k_issue q i r e) := by
  unfold k_issue
  by_cases h1 : (0 ≤ i ∧ i < q 3) ∧ (0 ≤ r ∧ r < q 1)
  · by_cases h2 : 0 ≤ e ∧ e ≤ 143
    · split
      · have bt := y_base_try hb h1.1 h1.2 h2.1
        have e1 : k_try q i r e 1 = q 1 ∧ y_far q (k_try q i r e) := by
          unfold k_try
          split
          · exact ⟨rfl, y_far.rf⟩
          · have := k_add_13 hb (s := y_wf q i r e) h1.1 h1.2
            exact ⟨this.2.1, y_far_addB y_far.rf hb h1.1 (y_wf_pos hb h1.1 h1.2 h2.1 (by omega)).2.2.1⟩
        exact y_far_leaveB e1.2 bt ⟨h1.2.1, by rw [e1.1]; exact h1.2.2⟩
      · exact y_far.rf
    · rw [if_neg (by rw [o_issue, y_need_2 h1, y_need_n h2]; intro z; exact absurd z.1 (by decide))]; exact y_far.rf
  · rw [if_neg (by rw [o_issue, y_need_n h1]; intro z; exact absurd z.1 (by decide))]; exact y_far.rf
theorem y_far_cancel (hb : y_base q) {t : Int} : y_far q (k_cancel q t) := by
  obtain ⟨a0, a1, a2, a3, a4, a5⟩ := hb.1
  unfold k_cancel
  split
  · rename_i h
    have k2 := (hb.2.2.2.2 t h.1.1 h.1.2).2.1
    have b1 := y_base_state (v := 3) hb h.1 (by omega) (by omega) (by omega)
    exact (y_far.rf.up (by omega)).tr (y_far_serve b1 (r := q (288 + 6 * t + 1)) ⟨k2.1, by rw [z_up_ne (by omega)]; exact k2.2⟩)
  · exact y_far.rf
theorem y_far_repair (hb : y_base q) {r : Int} : y_far q (k_repair q r) := by
  obtain ⟨a0, a1, a2, a3, a4, a5⟩ := hb.1
  unfold k_repair
  split
  · rename_i h
    have b1 := y_base_down (v := 0) hb h.1 (Or.inl rfl)
    exact (y_far.rf.up (by omega)).tr (y_far_serve b1 (r := r) ⟨h.1.1, by rw [z_up_ne (by omega)]; exact h.1.2⟩)
  · exact y_far.rf
theorem y_far_setShare (hb : y_base q) {r sh : Int} : y_far q (k_setShare q r sh) := by
  obtain ⟨a0, a1, a2, a3, a4, a5⟩ := hb.1
  unfold k_setShare
  split
  · rename_i h
    have b1 := y_base_share hb h.1 h.2.1
    exact (y_far.rf.up (by omega)).tr (y_far_serve b1 (r := r) ⟨h.1.1, by rw [z_up_ne (by omega)]; exact h.1.2⟩)
  · exact y_far.rf
theorem y_far_moveTicket (hb : y_base q) {t e : Int} : y_far q (k_moveTicket q t e) := by
  obtain ⟨a0, a1, a2, a3, a4, a5⟩ := hb.1
  unfold k_moveTicket
  by_cases ht : 0 ≤ t ∧ t < q 5
  · by_cases he : 0 ≤ e ∧ e ≤ 143
    · rw [o_moveTicket, y_need_2 ht, y_need_2 he]
      by_cases c4 : q (288 + 6 * t + 5) ≠ 0
      · rw [if_pos c4, if_neg (fun z => absurd z.2 (by show ¬ (0 : Int) ≤ -1; decide))]; exact y_far.rf
      · rw [if_neg c4]
        by_cases c5 : q (10 + 14 * q (288 + 6 * t + 1) + 5) = 1
        · rw [if_pos c5, if_neg (fun z => absurd z.2 (by show ¬ (0 : Int) ≤ -5; decide))]; exact y_far.rf
        · rw [if_neg c5]
          have k1 := (hb.2.2.2.2 t ht.1 ht.2).1
          have k2 := (hb.2.2.2.2 t ht.1 ht.2).2.1
          have bq := y_base_state (v := 3) hb ht (by omega) (by omega) (by omega)
          have n1 : z_up q (288 + 6 * t + 5) 3 1 = q 1 := z_up_ne (by omega)
          have n3 : z_up q (288 + 6 * t + 5) 3 3 = q 3 := z_up_ne (by omega)
          have hi' : 0 ≤ q (288 + 6 * t + 0) ∧ q (288 + 6 * t + 0) < z_up q (288 + 6 * t + 5) 3 3 := by rw [n3]; exact k1
          have hr' : 0 ≤ q (288 + 6 * t + 1) ∧ q (288 + 6 * t + 1) < z_up q (288 + 6 * t + 5) 3 1 := by rw [n1]; exact k2
          split
          · rename_i h
            have hp : 0 ≤ y_mv q t e := h.2
            have h1 := hb.1.2.1
            have sp := y_slot_pos bq hi' hr' he.1 (fun z => by have z : y_mv q t e = -4 := z; omega)
            have w3 : z_up q (288 + 6 * t + 5) 3 (10 + 14 * q (288 + 6 * t + 1) + 3) = q (10 + 14 * q (288 + 6 * t + 1) + 3) := z_up_ne (by omega)
            have w4 : z_up q (288 + 6 * t + 5) 3 (10 + 14 * q (288 + 6 * t + 1) + 4) = q (10 + 14 * q (288 + 6 * t + 1) + 4) := z_up_ne (by omega)
            rw [w3, w4] at sp
            have bw := k_win_b hb ht (s := y_mv q t e) sp.1
            have nw : k_win q t (y_mv q t e) 1 = q 1 := by unfold k_win; rw [z_up_ne (by omega), z_up_ne (by omega), z_up_ne (by omega)]
            have fw : y_far q (k_win q t (y_mv q t e)) := by
              unfold k_win
              exact ((y_far.rf.up (by omega)).up (by omega)).up (by omega)
            exact fw.tr (y_far_serve bw (r := q (288 + 6 * t + 1)) (by rw [nw]; exact k2))
          · exact y_far.rf
    · rw [if_neg (by rw [o_moveTicket, y_need_2 ht, y_need_n he]; intro z; exact absurd z.1 (by decide))]; exact y_far.rf
  · rw [if_neg (by rw [o_moveTicket, y_need_n ht]; intro z; exact absurd z.1 (by decide))]; exact y_far.rf
theorem y_far_exchange (hb : y_base q) {t r e : Int} : y_far q (k_exchange q t r e) := by
  obtain ⟨h0, h1, h2, h3, h4, h5⟩ := hb.1
  unfold k_exchange
  by_cases htr : (0 ≤ t ∧ t < q 5) ∧ (0 ≤ r ∧ r < q 1)
  · by_cases he : 0 ≤ e ∧ e ≤ 143
    · obtain ⟨ht, hr⟩ := htr
      rw [o_exchange, y_need_2 ⟨ht, hr⟩, y_need_2 he]
      by_cases c6 : q (288 + 6 * t + 5) ≠ 0
      · rw [if_pos c6, if_neg (fun z => absurd z.2 (by show ¬ (0 : Int) ≤ -1; decide))]; exact y_far.rf
      · rw [if_neg c6]
        by_cases c7 : q (10 + 14 * r + 5) = 1
        · rw [if_pos c7, if_neg (fun z => absurd z.2 (by show ¬ (0 : Int) ≤ -5; decide))]; exact y_far.rf
        · rw [if_neg c7]
          by_cases c8 : y_has q (q (288 + 6 * t + 0)) r = true
          · rw [if_pos c8, if_neg (fun z => absurd z.2 (by show ¬ (0 : Int) ≤ -3; decide))]; exact y_far.rf
          · rw [if_neg c8]
            by_cases c9 : q 5 = 150
            · rw [if_pos c9, if_neg (fun z => absurd z.2 (by show ¬ (0 : Int) ≤ -6; decide))]; exact y_far.rf
            · rw [if_neg c9]
              by_cases c10 : y_slot (z_up q (288 + 6 * t + 5) 3) (q (288 + 6 * t + 0)) r e = -4
              · rw [if_pos c10, if_neg (fun z => absurd z.2 (by show ¬ (0 : Int) ≤ -4; decide))]; exact y_far.rf
              · rw [if_neg c10, if_pos ⟨rfl, h5.1⟩]
                have k1 := (hb.2.2.2.2 t ht.1 ht.2).1
                have k2 := (hb.2.2.2.2 t ht.1 ht.2).2.1
                have bq := y_base_state (v := 3) hb ht (by omega) (by omega) (by omega)
                have n1 : z_up q (288 + 6 * t + 5) 3 1 = q 1 := z_up_ne (by omega)
                have n3 : z_up q (288 + 6 * t + 5) 3 3 = q 3 := z_up_ne (by omega)
                have n5 : z_up q (288 + 6 * t + 5) 3 5 = q 5 := z_up_ne (by omega)
                have hi' : 0 ≤ q (288 + 6 * t + 0) ∧ q (288 + 6 * t + 0) < z_up q (288 + 6 * t + 5) 3 3 := by rw [n3]; exact k1
                have hr' : 0 ≤ r ∧ r < z_up q (288 + 6 * t + 5) 3 1 := by rw [n1]; exact hr
                have sp := y_slot_pos bq hi' hr' he.1 c10
                have ac := y_act_less ht (by omega) (v := 3) (by omega)
                have a5 := (hb.2.2.2.1 _ k1.1 k1.2).2
                have ba := y_base_add bq hi' hr' sp.1 (by rw [n5]; omega) (by rw [n5]; omega)
                have ea := k_add_13 bq (s := y_slot (z_up q (288 + 6 * t + 5) 3) (q (288 + 6 * t + 0)) r e) hi' hr'
                have bl := y_base_leave (i := q (288 + 6 * t + 0)) ba (r := r) ⟨hr.1, by rw [ea.2.1, n1]; exact hr.2⟩
                have fa : y_far q (k_add (z_up q (288 + 6 * t + 5) 3) (q (288 + 6 * t + 0)) r (y_slot (z_up q (288 + 6 * t + 5) 3) (q (288 + 6 * t + 0)) r e)) := y_far_addB (y_far.rf.up (by omega)) bq hi' (by rw [n5]; omega)
                have fl := y_far_leaveB (i := q (288 + 6 * t + 0)) fa ba (r := r) ⟨hr.1, by rw [ea.2.1, n1]; exact hr.2⟩
                refine fl.tr (y_far_serve bl (r := q (288 + 6 * t + 1)) ⟨k2.1, ?_⟩)
                rw [k_leave_old hr.1 (by omega) (by omega), ea.2.1, n1]; exact k2.2
    · rw [if_neg (by rw [o_exchange, y_need_2 htr, y_need_n he]; intro z; exact absurd z.1 (by decide))]; exact y_far.rf
  · rw [if_neg (by rw [o_exchange, y_need_n htr]; intro z; exact absurd z.1 (by decide))]; exact y_far.rf
theorem y_far_issueJoint (hb : y_base q) {i j r e : Int} : y_far q (k_issueJoint q i j r e) := by
  obtain ⟨h0, h1, h2, h3, h4, h5⟩ := hb.1
  unfold k_issueJoint
  by_cases hp : ((0 ≤ i ∧ i < q 3) ∧ (0 ≤ j ∧ j < q 3)) ∧ (0 ≤ r ∧ r < q 1)
  · by_cases hn : i ≠ j ∧ (0 ≤ e ∧ e ≤ 143)
    · have k1 := y_check_le (q := q) (i := i) (r := r)
      have k2 := y_check_le (q := q) (i := j) (r := r)
      rw [o_issueJoint, y_need_2 hp, y_need_2 hn]
      by_cases c9 : y_check q i r ≠ 0
      · rw [if_pos c9, if_neg (fun z => by have : 0 ≤ y_check q i r := z.2; omega)]; exact y_far.rf
      · rw [if_neg c9]
        by_cases c10 : y_check q j r ≠ 0
        · rw [if_pos c10, if_neg (fun z => by have : 0 ≤ y_check q j r := z.2; omega)]; exact y_far.rf
        · rw [if_neg c10]
          by_cases c11 : 148 < q 5
          · rw [if_pos c11, if_neg (fun z => absurd z.2 (by show ¬ (0 : Int) ≤ -6; decide))]; exact y_far.rf
          · rw [if_neg c11]
            by_cases c12 : y_jw q i j r e = -1
            · rw [if_pos c12, if_neg (fun z => absurd z.2 (by show ¬ (0 : Int) ≤ -4; decide))]; exact y_far.rf
            · rw [if_neg c12, if_pos ⟨rfl, h5.1⟩]
              obtain ⟨⟨hi, hj⟩, hr⟩ := hp
              have sp := y_jw_pos hb hi hj hr hn.2.1 c12
              have ba := y_base_add hb hi hr sp.1 (by omega) (y_check_0 (r := r) hb hi (by omega))
              have ea := k_add_13 hb (s := y_jw q i j r e) hi hr
              have hi2 : 0 ≤ i ∧ i < 50 := by omega
              have O := fun x => k_add_old (q := q) (i := i) (r := r) (s := y_jw q i j r e) hi2 h5.1 (j := x)
              have e5 := k_add_5 (q := q) (i := i) (r := r) (s := y_jw q i j r e) hi2 h5.1
              have o3 := O (10 + 14 * r + 3) (by omega) (by omega) (by omega)
              have o4 := O (10 + 14 * r + 4) (by omega) (by omega) (by omega)
              have hj1 : 0 ≤ j ∧ j < k_add q i r (y_jw q i j r e) 3 := by rw [ea.2.2.1]; exact hj
              have hr1 : 0 ≤ r ∧ r < k_add q i r (y_jw q i j r e) 1 := by rw [ea.2.1]; exact hr
              have bb := y_base_add (s := y_jw q i j r e) ba hj1 hr1 (by rw [o3, o4]; exact sp.1) (by rw [e5]; omega) (by rw [y_act_add hb hi (fun z => hn.1 z.symm)]; exact y_check_0 (r := r) hb hj (by omega))
              have eb := k_add_13 ba (s := y_jw q i j r e) hj1 hr1
              have b3 := y_base_leave (i := i) bb (r := r) ⟨hr.1, by rw [eb.2.1, ea.2.1]; exact hr.2⟩
              have f1 := y_far_addB (r := r) (s := y_jw q i j r e) y_far.rf hb hi (by omega)
              have f2 := y_far_addB (r := r) (s := y_jw q i j r e) f1 ba hj1 (by rw [e5]; omega)
              have f3 := y_far_leaveB (i := i) f2 bb (r := r) ⟨hr.1, by rw [eb.2.1, ea.2.1]; exact hr.2⟩
              exact y_far_leaveB (i := j) f3 b3 (r := r) ⟨hr.1, by rw [k_leave_old hr.1 (by omega) (by omega), eb.2.1, ea.2.1]; exact hr.2⟩
    · rw [if_neg (by rw [o_issueJoint, y_need_2 hp, y_need_n hn]; intro z; exact absurd z.1 (by decide))]; exact y_far.rf
  · rw [if_neg (by rw [o_issueJoint, y_need_n hp]; intro z; exact absurd z.1 (by decide))]; exact y_far.rf
/-- far, and no line is longer than it may be -/
def y_Z (N : Int) (q q' : Int → Int) : Prop := y_far q q' ∧ ∀ r, 0 ≤ r → r < N → q' (10 + 14 * r + 6) ≤ 150 ∧ q' (10 + 14 * r + 7) ≤ 61
theorem y_Z.up {N k x : Int} {q1 : Int → Int} (h : y_Z N q q1) (hk : k < 4964) (hn : ∀ r, 0 ≤ r → r < N → k ≠ 10 + 14 * r + 6 ∧ k ≠ 10 + 14 * r + 7) : y_Z N q (z_up q1 k x) := by
  refine ⟨h.1.up hk, fun r h0 h1 => ?_⟩
  have := hn r h0 h1
  rw [z_up_ne (by omega), z_up_ne (by omega)]
  exact h.2 r h0 h1
theorem y_Z.nt {N r w : Int} {q1 : Int → Int} (h : y_Z N q q1) (hr : 0 ≤ r ∧ r < 8) : y_Z N q (k_nt q1 r w) := by
  unfold k_nt
  exact ((h.up (by omega) (fun r' _ _ => by omega)).up (by omega) (fun r' _ _ => by omega)).up (by omega) (fun r' _ _ => by omega)
theorem y_Z.bs0 {N r : Int} {q1 : Int → Int} (h : y_Z N q q1) (hN : N ≤ 8) (hr : 0 ≤ r ∧ r < N) : y_Z N q (k_bs0 q1 r) := by
  have hn : y_Z N q (k_nt q1 r (q1 0 - q1 (1188 + 300 * r + 1))) := h.nt (by omega)
  unfold k_bs0
  generalize k_nt q1 r (q1 0 - q1 (1188 + 300 * r + 1)) = q2 at hn ⊢
  have c := hn.2 r hr.1 hr.2
  refine ⟨fun j a b => ?_, fun r' h0 h1 => ?_⟩
  · unfold k_sh0
    rw [if_neg (by omega), if_neg (by omega)]
    exact hn.1 j a b
  · have c' := hn.2 r' h0 h1
    unfold k_sh0
    rw [if_neg (show ¬ (10 + 14 * r' + 7 = 10 + 14 * r + 6) by omega), if_neg (show ¬ (1188 + 300 * r ≤ 10 + 14 * r' + 7 ∧ _) by omega)]
    refine ⟨?_, c'.2⟩
    split
    · omega
    · rw [if_neg (by omega)]; exact c'.1
theorem y_Z.bs1 {N r : Int} {q1 : Int → Int} (h : y_Z N q q1) (hN : N ≤ 8) (hr : 0 ≤ r ∧ r < N) : y_Z N q (k_bs1 q1 r) := by
  have hn : y_Z N q (k_nt q1 r (q1 0 - q1 (3588 + 122 * r + 1))) := h.nt (by omega)
  unfold k_bs1
  generalize k_nt q1 r (q1 0 - q1 (3588 + 122 * r + 1)) = q2 at hn ⊢
  have c := hn.2 r hr.1 hr.2
  refine ⟨fun j a b => ?_, fun r' h0 h1 => ?_⟩
  · unfold k_sh1
    rw [if_neg (by omega), if_neg (by omega)]
    exact hn.1 j a b
  · have c' := hn.2 r' h0 h1
    unfold k_sh1
    rw [if_neg (show ¬ (10 + 14 * r' + 6 = 10 + 14 * r + 7) by omega), if_neg (show ¬ (3588 + 122 * r ≤ 10 + 14 * r' + 6 ∧ _) by omega)]
    refine ⟨c'.1, ?_⟩
    split
    · omega
    · rw [if_neg (by omega)]; exact c'.2
theorem y_Z.bn0 {N r : Int} (hN : N ≤ 8) (hr : 0 ≤ r ∧ r < N) : ∀ (n : Nat) (q1 : Int → Int) (rm : Int), y_Z N q q1 → y_Z N q (k_bn0 r n q1 rm)
  | 0, q1, rm, h => h
  | n + 1, q1, rm, h => by
    rw [k_bn0]
    split
    · exact y_Z.bn0 hN hr n _ _ (h.bs0 hN hr)
    · exact h
theorem y_Z.bn1 {N r : Int} (hN : N ≤ 8) (hr : 0 ≤ r ∧ r < N) : ∀ (n : Nat) (q1 : Int → Int) (rm : Int), y_Z N q q1 → y_Z N q (k_bn1 r n q1 rm)
  | 0, q1, rm, h => h
  | n + 1, q1, rm, h => by
    rw [k_bn1]
    split
    · exact y_Z.bn1 hN hr n _ _ (h.bs1 hN hr)
    · exact h
theorem y_Z.bd0 {N r rm : Int} {q1 : Int → Int} (h : y_Z N q q1) (hN : N ≤ 8) (hr : 0 ≤ r ∧ r < N) : y_Z N q (k_bd0 q1 r rm) := by
  unfold k_bd0 k_bq0
  exact (y_Z.bn0 hN hr _ _ _ h).up (by omega) (fun r' _ _ => by omega)
theorem y_Z.bd1 {N r rm : Int} {q1 : Int → Int} (h : y_Z N q q1) (hN : N ≤ 8) (hr : 0 ≤ r ∧ r < N) : y_Z N q (k_bd1 q1 r rm) := by
  unfold k_bd1 k_bq1
  exact (y_Z.bn1 hN hr _ _ _ h).up (by omega) (fun r' _ _ => by omega)
theorem y_Z.rides {N : Int} {q1 : Int → Int} (hN : N ≤ 8) (h : y_Z N q q1) : ∀ n : Nat, n ≤ N → y_Z N q (k_rides n q1)
  | 0, _ => h
  | n + 1, hn => by
    have ih := y_Z.rides hN h n (by omega)
    rw [k_rides]
    split
    · unfold k_ride k_r2 k_r1
      exact ((ih.bd0 hN (by omega)).bd1 hN (by omega)).bd0 hN (by omega)
    · exact ih
theorem y_Z.xs {N : Int} {q1 : Int → Int} (hN : N ≤ 8) (h : y_Z N q q1) : ∀ n : Nat, n ≤ 150 → y_Z N q (k_xs n q1)
  | 0, _ => h
  | n + 1, hn => by
    have ih := y_Z.xs hN h n (by omega)
    rw [k_xs]
    unfold k_x1
    split
    · unfold k_x0
      split
      · exact (ih.up (by omega) (fun r' _ _ => by omega)).up (by omega) (fun r' _ _ => by omega)
      · exact ih.up (by omega) (fun r' _ _ => by omega)
    · exact ih
theorem y_Z.es {N : Int} {q1 : Int → Int} (hN : N ≤ 8) (h : y_Z N q q1) : ∀ n : Nat, n ≤ 150 → y_Z N q (k_es n q1)
  | 0, _ => h
  | n + 1, hn => by
    have ih := y_Z.es hN h n (by omega)
    rw [k_es]
    unfold k_e1
    split
    · exact ih.up (by omega) (fun r' _ _ => by omega)
    · exact ih
theorem y_far_pass (hb : y_base q) : y_far q (k_pass q) := by
  obtain ⟨⟨c0, c1⟩, c2, c3, c5, cr⟩ := y_cb_b hb
  have z0 : y_Z (q 1) q q := ⟨y_far.rf, fun r h0 h1 => ⟨(cr r h0 h1).1, (cr r h0 h1).2.1⟩⟩
  unfold k_pass
  exact ((y_Z.es c1 (y_Z.xs c1 (y_Z.rides c1 z0 (q 1).toNat (by omega)) (q 5).toNat (by omega)) (q 5).toNat (by omega)).1).up (by omega)
theorem y_far_adv : ∀ (n : Nat) (q : Int → Int), y_base q → q 0 + n ≤ 144 → y_far q (k_adv n q)
  | 0, q, hb, _ => y_far.rf
  | n + 1, q, hb, h => by
    obtain ⟨i1, i2, i3⟩ := y_base_pass hb (by omega)
    rw [k_adv]
    exact (y_far_pass hb).tr (y_far_adv n _ i1 (by rw [i2]; omega))
theorem y_far_advance (hb : y_base q) {n : Int} : y_far q (k_advance q n) := by
  unfold k_advance
  split
  · rename_i c
    exact y_far_adv _ q hb (by omega)
  · exact y_far.rf
theorem y_far_do {B : Int → Int} {e : Int} (hb : y_base q) : y_far q (y_do q B e).2 := by
  unfold y_do
  repeat' split
  · exact y_far_issue hb
  · exact y_far_redeem hb
  · exact y_far_cancel hb
  · exact y_far_joinWaitlist hb
  · exact y_far_joinStandby hb
  · exact y_far_breakDown hb
  · exact y_far_repair hb
theorem y_far_due {B : Int → Int} {c : Int} : ∀ (m : Nat) (q : Int → Int) (e s : Int), y_base q → y_far q (y_due B c m q e s).1
  | 0, q, e, s, hb => y_far.rf
  | m + 1, q, e, s, hb => by
    rw [y_due]
    split
    · exact y_far.rf
    · split
      · exact y_far.rf
      · split
        · exact y_far_due m q (e + 1) s hb
        · exact (y_far_do hb).tr (y_far_due m _ (e + 1) _ (y_do_kp (B := B) (e := e) hb).1.1)
theorem y_far_dues {B : Int → Int} {c : Int} : ∀ (m : Nat) (q : Int → Int) (e s : Int), y_base q → q 0 + m ≤ 144 → y_far q (y_dues B c m q e s).1
  | 0, q, e, s, hb, _ => y_far.rf
  | m + 1, q, e, s, hb, hm => by
    have sk := y_due_kp (B := B) (c := c) (c - e).toNat q e 0 hb
    obtain ⟨i1, i2, i3⟩ := y_base_pass sk.1.1 (by rw [sk.1.2]; omega)
    rw [y_dues]
    exact ((y_far_due _ q e 0 hb).tr (y_far_pass sk.1.1)).tr (y_far_dues m _ _ _ i1 (by rw [i2, sk.1.2]; omega))
theorem y_far_runScript {B : Int → Int} {c e n : Int} (hb : y_base q) : y_far q (k_runScript q B c e n).1 := by
  unfold k_runScript
  split
  · rename_i h
    exact y_far_dues n.toNat q e 0 hb (by omega)
  · exact y_far.rf
end V3
