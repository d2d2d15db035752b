/-! what changes keep: the rest -/
section K10
variable {q : Int → Int}
theorem y_kb_addParty (hb : y_base q) {ti w : Int} : y_base (k_addParty q ti w) := by
  unfold k_addParty
  split
  · rename_i h
    have h3 := hb.1.2.2.2.1
    exact y_base_party hb h.1 h.2.1 (by omega)
  · exact hb
theorem y_kb_setExtensionLimit (hb : y_base q) {x : Int} : y_base (k_setExtensionLimit q x) := by
  unfold k_setExtensionLimit
  split
  · rename_i h
    exact y_base_ext hb h
  · exact hb
theorem y_kb_setShare (hb : y_base q) {r sh : Int} : y_base (k_setShare q r sh) := by
  unfold k_setShare
  split
  · rename_i h
    have b1 := y_base_share hb h.1 h.2.1
    exact (y_kp_serve b1 (r := r) ⟨h.1.1, by rw [z_up_ne (by omega)]; exact h.1.2⟩).1
  · exact hb
theorem y_kb_leaveWaitlist (hb : y_base q) {i r : Int} : y_base (k_leaveWaitlist q i r) := by
  unfold k_leaveWaitlist
  split
  · rename_i h
    exact y_base_leave hb h.2
  · exact hb
theorem y_kb_redeemOpen (hb : y_base q) {t r : Int} : y_base (k_redeemOpen q t r) := by
  unfold k_redeemOpen
  by_cases h1 : (0 ≤ t ∧ t < q 5) ∧ (0 ≤ r ∧ r < q 1)
  · by_cases hs : q (288 + 6 * t + 5) = 4 ∧ (q (10 + 14 * r + 3) ≤ q 0 ∧ q 0 ≤ q (10 + 14 * r + 4)) ∧ q (10 + 14 * r + 5) = 0
    · rw [o_redeemOpen, y_need_2 h1, if_pos hs, if_pos rfl]
      exact y_base_use hb h1.1 h1.2 (by omega)
    · rw [o_redeemOpen, y_need_2 h1, if_neg hs, if_neg (by show ¬ (0 : Int) = 1; decide)]; exact hb
  · rw [o_redeemOpen, y_need_n h1, if_neg (by show ¬ (0 : Int) = 1; decide)]; exact hb
theorem y_kb_advance (hb : y_base q) {n : Int} : y_base (k_advance q n) := by
  unfold k_advance
  split
  · rename_i h
    exact (y_base_adv n.toNat q hb (by omega)).1
  · exact hb
theorem y_kb_moveTicket (hb : y_base q) {t e : Int} : y_base (k_moveTicket q t e) := by
  unfold k_moveTicket
  by_cases ht : 0 ≤ t ∧ t < q 5
  · by_cases he : 0 ≤ e ∧ e ≤ 143
    · rw [o_moveTicket, y_need_2 ht, y_need_2 he]
      by_cases c4 : q (288 + 6 * t + 5) ≠ 0
      · rw [if_pos c4, if_neg (fun z => absurd z.2 (by show ¬ (0 : Int) ≤ -1; decide))]; exact hb
      · rw [if_neg c4]
        by_cases c5 : q (10 + 14 * q (288 + 6 * t + 1) + 5) = 1
        · rw [if_pos c5, if_neg (fun z => absurd z.2 (by show ¬ (0 : Int) ≤ -5; decide))]; exact hb
        · rw [if_neg c5]
          have k1 := (hb.2.2.2.2 t ht.1 ht.2).1
          have k2 := (hb.2.2.2.2 t ht.1 ht.2).2.1
          have bq := y_base_state (v := 3) hb ht (by omega) (by omega) (by omega)
          have n1 : z_up q (288 + 6 * t + 5) 3 1 = q 1 := z_up_ne (by omega)
          have n3 : z_up q (288 + 6 * t + 5) 3 3 = q 3 := z_up_ne (by omega)
          have hi' : 0 ≤ q (288 + 6 * t + 0) ∧ q (288 + 6 * t + 0) < z_up q (288 + 6 * t + 5) 3 3 := by rw [n3]; exact k1
          have hr' : 0 ≤ q (288 + 6 * t + 1) ∧ q (288 + 6 * t + 1) < z_up q (288 + 6 * t + 5) 3 1 := by rw [n1]; exact k2
          split
          · rename_i h
            have hp : 0 ≤ y_mv q t e := h.2
            have h1 := hb.1.2.1
            have sp := y_slot_pos bq hi' hr' he.1 (fun z => by have z : y_mv q t e = -4 := z; omega)
            have w3 : z_up q (288 + 6 * t + 5) 3 (10 + 14 * q (288 + 6 * t + 1) + 3) = q (10 + 14 * q (288 + 6 * t + 1) + 3) := z_up_ne (by omega)
            have w4 : z_up q (288 + 6 * t + 5) 3 (10 + 14 * q (288 + 6 * t + 1) + 4) = q (10 + 14 * q (288 + 6 * t + 1) + 4) := z_up_ne (by omega)
            rw [w3, w4] at sp
            have bw := k_win_b hb ht (s := y_mv q t e) sp.1
            have nw : k_win q t (y_mv q t e) 1 = q 1 := by unfold k_win; rw [z_up_ne (by omega), z_up_ne (by omega), z_up_ne (by omega)]
            exact (y_kp_serve bw (r := q (288 + 6 * t + 1)) (by rw [nw]; exact k2)).1
          · exact hb
    · rw [if_neg (by rw [o_moveTicket, y_need_2 ht, y_need_n he]; intro z; exact absurd z.1 (by decide))]; exact hb
  · rw [if_neg (by rw [o_moveTicket, y_need_n ht]; intro z; exact absurd z.1 (by decide))]; exact hb
theorem y_kb_exchange (hb : y_base q) {t r e : Int} : y_base (k_exchange q t r e) := by
  obtain ⟨h0, h1, h2, h3, h4, h5⟩ := hb.1
  unfold k_exchange
  by_cases htr : (0 ≤ t ∧ t < q 5) ∧ (0 ≤ r ∧ r < q 1)
  · by_cases he : 0 ≤ e ∧ e ≤ 143
    · obtain ⟨ht, hr⟩ := htr
      rw [o_exchange, y_need_2 ⟨ht, hr⟩, y_need_2 he]
      by_cases c6 : q (288 + 6 * t + 5) ≠ 0
      · rw [if_pos c6, if_neg (fun z => absurd z.2 (by show ¬ (0 : Int) ≤ -1; decide))]; exact hb
      · rw [if_neg c6]
        by_cases c7 : q (10 + 14 * r + 5) = 1
        · rw [if_pos c7, if_neg (fun z => absurd z.2 (by show ¬ (0 : Int) ≤ -5; decide))]; exact hb
        · rw [if_neg c7]
          by_cases c8 : y_has q (q (288 + 6 * t + 0)) r = true
          · rw [if_pos c8, if_neg (fun z => absurd z.2 (by show ¬ (0 : Int) ≤ -3; decide))]; exact hb
          · rw [if_neg c8]
            by_cases c9 : q 5 = 150
            · rw [if_pos c9, if_neg (fun z => absurd z.2 (by show ¬ (0 : Int) ≤ -6; decide))]; exact hb
            · rw [if_neg c9]
              by_cases c10 : y_slot (z_up q (288 + 6 * t + 5) 3) (q (288 + 6 * t + 0)) r e = -4
              · rw [if_pos c10, if_neg (fun z => absurd z.2 (by show ¬ (0 : Int) ≤ -4; decide))]; exact hb
              · rw [if_neg c10, if_pos ⟨rfl, h5.1⟩]
                have k1 := (hb.2.2.2.2 t ht.1 ht.2).1
                have k2 := (hb.2.2.2.2 t ht.1 ht.2).2.1
                have bq := y_base_state (v := 3) hb ht (by omega) (by omega) (by omega)
                have n1 : z_up q (288 + 6 * t + 5) 3 1 = q 1 := z_up_ne (by omega)
                have n3 : z_up q (288 + 6 * t + 5) 3 3 = q 3 := z_up_ne (by omega)
                have n5 : z_up q (288 + 6 * t + 5) 3 5 = q 5 := z_up_ne (by omega)
                have hi' : 0 ≤ q (288 + 6 * t + 0) ∧ q (288 + 6 * t + 0) < z_up q (288 + 6 * t + 5) 3 3 := by rw [n3]; exact k1
                have hr' : 0 ≤ r ∧ r < z_up q (288 + 6 * t + 5) 3 1 := by rw [n1]; exact hr
                have sp := y_slot_pos bq hi' hr' he.1 c10
                have ac := y_act_less ht (by omega) (v := 3) (by omega)
                have a5 := (hb.2.2.2.1 _ k1.1 k1.2).2
                have ba := y_base_add bq hi' hr' sp.1 (by rw [n5]; omega) (by rw [n5]; omega)
                have ea := k_add_13 bq (s := y_slot (z_up q (288 + 6 * t + 5) 3) (q (288 + 6 * t + 0)) r e) hi' hr'
                have bl := y_base_leave (i := q (288 + 6 * t + 0)) ba (r := r) ⟨hr.1, by rw [ea.2.1, n1]; exact hr.2⟩
                refine (y_kp_serve bl (r := q (288 + 6 * t + 1)) ⟨k2.1, ?_⟩).1
                rw [k_leave_old hr.1 (by omega) (by omega), ea.2.1, n1]; exact k2.2
    · rw [if_neg (by rw [o_exchange, y_need_2 htr, y_need_n he]; intro z; exact absurd z.1 (by decide))]; exact hb
  · rw [if_neg (by rw [o_exchange, y_need_n htr]; intro z; exact absurd z.1 (by decide))]; exact hb
theorem y_kb_issueJoint (hb : y_base q) {i j r e : Int} : y_base (k_issueJoint q i j r e) := by
  obtain ⟨h0, h1, h2, h3, h4, h5⟩ := hb.1
  unfold k_issueJoint
  by_cases hp : ((0 ≤ i ∧ i < q 3) ∧ (0 ≤ j ∧ j < q 3)) ∧ (0 ≤ r ∧ r < q 1)
  · by_cases hn : i ≠ j ∧ (0 ≤ e ∧ e ≤ 143)
    · have k1 := y_check_le (q := q) (i := i) (r := r)
      have k2 := y_check_le (q := q) (i := j) (r := r)
      rw [o_issueJoint, y_need_2 hp, y_need_2 hn]
      by_cases c9 : y_check q i r ≠ 0
      · rw [if_pos c9, if_neg (fun z => by have : 0 ≤ y_check q i r := z.2; omega)]; exact hb
      · rw [if_neg c9]
        by_cases c10 : y_check q j r ≠ 0
        · rw [if_pos c10, if_neg (fun z => by have : 0 ≤ y_check q j r := z.2; omega)]; exact hb
        · rw [if_neg c10]
          by_cases c11 : 148 < q 5
          · rw [if_pos c11, if_neg (fun z => absurd z.2 (by show ¬ (0 : Int) ≤ -6; decide))]; exact hb
          · rw [if_neg c11]
            by_cases c12 : y_jw q i j r e = -1
            · rw [if_pos c12, if_neg (fun z => absurd z.2 (by show ¬ (0 : Int) ≤ -4; decide))]; exact hb
            · rw [if_neg c12, if_pos ⟨rfl, h5.1⟩]
              obtain ⟨⟨hi, hj⟩, hr⟩ := hp
              have sp := y_jw_pos hb hi hj hr hn.2.1 c12
              have ba := y_base_add hb hi hr sp.1 (by omega) (y_check_0 (r := r) hb hi (by omega))
              have ea := k_add_13 hb (s := y_jw q i j r e) hi hr
              have hi2 : 0 ≤ i ∧ i < 50 := by omega
              have O := fun x => k_add_old (q := q) (i := i) (r := r) (s := y_jw q i j r e) hi2 h5.1 (j := x)
              have e5 := k_add_5 (q := q) (i := i) (r := r) (s := y_jw q i j r e) hi2 h5.1
              have o3 := O (10 + 14 * r + 3) (by omega) (by omega) (by omega)
              have o4 := O (10 + 14 * r + 4) (by omega) (by omega) (by omega)
              have hj1 : 0 ≤ j ∧ j < k_add q i r (y_jw q i j r e) 3 := by rw [ea.2.2.1]; exact hj
              have hr1 : 0 ≤ r ∧ r < k_add q i r (y_jw q i j r e) 1 := by rw [ea.2.1]; exact hr
              have bb := y_base_add (s := y_jw q i j r e) ba hj1 hr1 (by rw [o3, o4]; exact sp.1) (by rw [e5]; omega) (by rw [y_act_add hb hi (fun z => hn.1 z.symm)]; exact y_check_0 (r := r) hb hj (by omega))
              have eb := k_add_13 ba (s := y_jw q i j r e) hj1 hr1
              have b3 := y_base_leave (i := i) bb (r := r) ⟨hr.1, by rw [eb.2.1, ea.2.1]; exact hr.2⟩
              exact y_base_leave (i := j) b3 (r := r) ⟨hr.1, by rw [k_leave_old hr.1 (by omega) (by omega), eb.2.1, ea.2.1]; exact hr.2⟩
    · rw [if_neg (by rw [o_issueJoint, y_need_2 hp, y_need_n hn]; intro z; exact absurd z.1 (by decide))]; exact hb
  · rw [if_neg (by rw [o_issueJoint, y_need_n hp]; intro z; exact absurd z.1 (by decide))]; exact hb
theorem y_kb_dues {B : Int → Int} {c : Int} : ∀ (m : Nat) (q : Int → Int) (e s : Int), y_base q → q 0 + m ≤ 144 → 0 ≤ e → e ≤ c → y_base (y_dues B c m q e s).1 ∧ 0 ≤ (y_dues B c m q e s).2.1 ∧ (y_dues B c m q e s).2.1 ≤ c
  | 0, q, e, s, hb, _, h1, h2 => ⟨hb, h1, h2⟩
  | m + 1, q, e, s, hb, hm, h1, h2 => by
    have sk := y_due_kp (B := B) (c := c) (c - e).toNat q e 0 hb
    obtain ⟨i1, i2, i3⟩ := y_base_pass sk.1.1 (by rw [sk.1.2]; omega)
    rw [y_dues]
    exact y_kb_dues m _ _ _ i1 (by rw [i2, sk.1.2]; omega) (by omega) (by omega)
theorem y_kb_runScript {B : Int → Int} {c e n : Int} (hb : y_base q) (hec : 0 ≤ e ∧ e ≤ c) : y_base (k_runScript q B c e n).1 ∧ (0 ≤ (k_runScript q B c e n).2 ∧ (k_runScript q B c e n).2 ≤ c) := by
  unfold k_runScript
  split
  · rename_i h
    have := y_kb_dues (B := B) (c := c) n.toNat q e 0 hb (by omega) hec.1 hec.2
    exact ⟨this.1, this.2⟩
  · exact ⟨hb, hec⟩
end K10
