/-! the class boards (written by wip/whole/gen95.py): what x_day needs of bounds, and changes of a ride's, a line's, a ticket's cells -/
def y_cb (q : Int → Int) : Prop := (0 ≤ q 1 ∧ q 1 ≤ 8) ∧ q 2 ≤ 4 ∧ q 3 ≤ 50 ∧ q 5 ≤ 150 ∧ ∀ r, 0 ≤ r → r < q 1 → q (10 + 14 * r + 6) ≤ 150 ∧ q (10 + 14 * r + 7) ≤ 61 ∧ q (10 + 14 * r + 13) ≤ 50
theorem y_cb_of {q : Int → Int} {v : Int} (hb : y_base (z_up q 0 v)) : y_cb q := by
  obtain ⟨⟨b0, b1, b2, b3, b4, b5⟩, hr, -⟩ := hb
  simp (disch := omega) only [z_up_ne] at b1 b2 b3 b5
  refine ⟨b1, b2.2, b3.2, b5.2, fun r h0 h1 => ?_⟩
  have c := (hr r h0 (by rw [z_up_ne (by omega)]; exact h1)).1
  have c6 := c.2.2.2.2.2.1
  have c7 := c.2.2.2.2.2.2.1
  have c13 := c.2.2.2.2.2.2.2.2.2.2.2
  simp (disch := omega) only [z_up_ne] at c6 c7 c13
  omega
theorem y_cb_b {q : Int → Int} (hb : y_base q) : y_cb q := by
  obtain ⟨⟨b0, b1, b2, b3, b4, b5⟩, hr, -⟩ := hb
  refine ⟨b1, b2.2, b3.2, b5.2, fun r h0 h1 => ?_⟩
  have c := (hr r h0 h1).1
  have c6 := c.2.2.2.2.2.1
  have c7 := c.2.2.2.2.2.2.1
  have c13 := c.2.2.2.2.2.2.2.2.2.2.2
  omega
section X9
variable {q q' : Int → Int} {J J' : z_J} {r t : Int}
theorem x_rdu (hc : y_cb q) (h : x_day 36 q J) (hr : 0 ≤ r ∧ r < q 1) (O : ∀ j, (j < 10 + 14 * r + 8 ∨ 10 + 14 * r + 12 < j) → q' j = q j) (hJ : ∀ b, (b < 44 ∨ 48 < b) → J' b = J b) (hJ2 : ∀ b k, 44 ≤ b → b ≤ 48 → k ≠ r → J' b k = J b k) (hx : J' 44 r = q' (10 + 14 * r + 8) ∧ J' 45 r = q' (10 + 14 * r + 9) ∧ J' 46 r = q' (10 + 14 * r + 11) ∧ J' 47 r = q' (10 + 14 * r + 10) ∧ J' 48 r = q' (10 + 14 * r + 12)) : x_day 36 q' J' := by
  obtain ⟨k0, k1, k2, k3, k4, k5⟩ := h
  obtain ⟨n1, n2, n3, n5, nr⟩ := hc
  have e1 := O 1 (by omega)
  have e2 := O 2 (by omega)
  have e3 := O 3 (by omega)
  have e5 := O 5 (by omega)
  refine ⟨x_heads_c (fun b hb9 => hJ b (by omega)) (fun j a1 a2 => O _ (by omega)) k0, fun r' a1 a2 => ?_, fun t' a1 a2 => ?_, fun i' a1 a2 => ?_, fun t' a1 a2 => ?_, fun r5 a1 a2 => by have w5 := k5 r5 (by omega) a2; rw [hJ _ (by omega), hJ _ (by omega), hJ _ (by omega)]; exact w5⟩
  · rw [e1] at a2
    obtain ⟨c1, c2, c3⟩ := k1 r' a1 a2
    have m := nr r' a1 a2
    refine ⟨?_, x_line_c m.1 m.2.1 (fun b b1 b2 => hJ b (by omega)) (O _ (by omega)) (O _ (by omega)) (fun j b1 b2 => O _ (by omega)) (fun j b1 b2 => O _ (by omega)) c2, x_wait_c m.2.2 (fun b b1 => hJ b (by omega)) (O _ (by omega)) (fun j b1 b2 => O _ (by omega)) c3⟩
    unfold x_ride at *
    by_cases hrr : r' = r
    · subst hrr
      rw [hJ (36 + 2) (by omega), hJ (36 + 3) (by omega), hJ (36 + 4) (by omega), hJ (36 + 5) (by omega), hJ (36 + 6) (by omega), hJ (36 + 7) (by omega), O (10 + 14 * r' + 0) (by omega), O (10 + 14 * r' + 1) (by omega), O (10 + 14 * r' + 2) (by omega), O (10 + 14 * r' + 3) (by omega), O (10 + 14 * r' + 4) (by omega), O (10 + 14 * r' + 5) (by omega)]
      exact ⟨c1.1, c1.2.1, c1.2.2.1, c1.2.2.2.1, c1.2.2.2.2.1, c1.2.2.2.2.2.1, hx.1, hx.2.1, hx.2.2.1, hx.2.2.2.1, hx.2.2.2.2⟩
    · rw [hJ (36 + 2) (by omega), hJ (36 + 3) (by omega), hJ (36 + 4) (by omega), hJ (36 + 5) (by omega), hJ (36 + 6) (by omega), hJ (36 + 7) (by omega), hJ2 (36 + 8) r' (by omega) (by omega) hrr, hJ2 (36 + 9) r' (by omega) (by omega) hrr, hJ2 (36 + 10) r' (by omega) (by omega) hrr, hJ2 (36 + 11) r' (by omega) (by omega) hrr, hJ2 (36 + 12) r' (by omega) (by omega) hrr, O (10 + 14 * r' + 0) (by omega), O (10 + 14 * r' + 1) (by omega), O (10 + 14 * r' + 2) (by omega), O (10 + 14 * r' + 3) (by omega), O (10 + 14 * r' + 4) (by omega), O (10 + 14 * r' + 5) (by omega), O (10 + 14 * r' + 8) (by omega), O (10 + 14 * r' + 9) (by omega), O (10 + 14 * r' + 11) (by omega), O (10 + 14 * r' + 10) (by omega), O (10 + 14 * r' + 12) (by omega)]
      exact c1
  · rw [e2] at a2
    exact x_tier_c (fun b b1 b2 => hJ b (by omega)) (fun w b1 b2 => O _ (by omega)) (k2 t' a1 a2)
  · rw [e3] at a2
    exact x_party_c (fun b b1 b2 => hJ b (by omega)) (fun w b1 b2 => O _ (by omega)) (k3 i' a1 a2)
  · rw [e5] at a2
    exact x_tk_c (fun b b1 b2 => hJ b (by omega)) (fun w b1 b2 => O _ (by omega)) (k4 t' a1 a2)
theorem x_tku (hc : y_cb q) (h : x_day 36 q J) (ht : 0 ≤ t ∧ t < q 5) (O : ∀ j, (j < 288 + 6 * t ∨ 288 + 6 * t + 5 < j) → q' j = q j) (hJ : ∀ b, (b < 58 ∨ 63 < b) → J' b = J b) (hJ2 : ∀ b k, 58 ≤ b → b ≤ 63 → k ≠ t → J' b k = J b k) (hx : x_tk 36 q' J' t) : x_day 36 q' J' := by
  obtain ⟨k0, k1, k2, k3, k4, k5⟩ := h
  obtain ⟨n1, n2, n3, n5, nr⟩ := hc
  have e1 := O 1 (by omega)
  have e2 := O 2 (by omega)
  have e3 := O 3 (by omega)
  have e5 := O 5 (by omega)
  refine ⟨x_heads_c (fun b hb9 => hJ b (by omega)) (fun j a1 a2 => O _ (by omega)) k0, fun r' a1 a2 => ?_, fun t' a1 a2 => ?_, fun i' a1 a2 => ?_, fun t' a1 a2 => ?_, fun r5 a1 a2 => by have w5 := k5 r5 (by omega) a2; rw [hJ _ (by omega), hJ _ (by omega), hJ _ (by omega)]; exact w5⟩
  · rw [e1] at a2
    obtain ⟨c1, c2, c3⟩ := k1 r' a1 a2
    have m := nr r' a1 a2
    exact ⟨x_ride_c (fun b b1 b2 => hJ b (by omega)) (fun w b1 b2 b3 b4 => O _ (by omega)) c1, x_line_c m.1 m.2.1 (fun b b1 b2 => hJ b (by omega)) (O _ (by omega)) (O _ (by omega)) (fun j b1 b2 => O _ (by omega)) (fun j b1 b2 => O _ (by omega)) c2, x_wait_c m.2.2 (fun b b1 => hJ b (by omega)) (O _ (by omega)) (fun j b1 b2 => O _ (by omega)) c3⟩
  · rw [e2] at a2
    exact x_tier_c (fun b b1 b2 => hJ b (by omega)) (fun w b1 b2 => O _ (by omega)) (k2 t' a1 a2)
  · rw [e3] at a2
    exact x_party_c (fun b b1 b2 => hJ b (by omega)) (fun w b1 b2 => O _ (by omega)) (k3 i' a1 a2)
  · rw [e5] at a2
    by_cases htt : t' = t
    · subst htt; exact hx
    · have c := k4 t' a1 a2
      unfold x_tk at *
      rw [hJ2 (36 + 22) t' (by omega) (by omega) htt, hJ2 (36 + 23) t' (by omega) (by omega) htt, hJ2 (36 + 24) t' (by omega) (by omega) htt, hJ2 (36 + 25) t' (by omega) (by omega) htt, hJ2 (36 + 26) t' (by omega) (by omega) htt, hJ2 (36 + 27) t' (by omega) (by omega) htt, O (288 + 6 * t' + 0) (by omega), O (288 + 6 * t' + 1) (by omega), O (288 + 6 * t' + 2) (by omega), O (288 + 6 * t' + 3) (by omega), O (288 + 6 * t' + 4) (by omega), O (288 + 6 * t' + 5) (by omega)]
      exact c
theorem x_lnu0 (hc : y_cb q) (h : x_day 36 q J) (hr : 0 ≤ r ∧ r < q 1) (O : ∀ j, j ≠ 10 + 14 * r + 6 → (j < 1188 + 300 * r ∨ 1188 + 300 * r + 300 ≤ j) → q' j = q j) (hJ : ∀ b, (b < 77 + 6 * r.toNat ∨ 79 + 6 * r.toNat < b) → J' b = J b) (h1 : J' (77 + 6 * r.toNat) 2 = q' (10 + 14 * r + 6)) (h2 : ∀ k, 0 ≤ k → k < q' (10 + 14 * r + 6) → J' (78 + 6 * r.toNat) k = q' (1188 + 300 * r + 2 * k) ∧ J' (79 + 6 * r.toNat) k = q' (1188 + 300 * r + 2 * k + 1)) : x_day 36 q' J' := by
  obtain ⟨k0, k1, k2, k3, k4, k5⟩ := h
  obtain ⟨n1, n2, n3, n5, nr⟩ := hc
  have e1 := O 1 (by omega) (by omega)
  have e2 := O 2 (by omega) (by omega)
  have e3 := O 3 (by omega) (by omega)
  have e5 := O 5 (by omega) (by omega)
  refine ⟨x_heads_c (fun b hb9 => hJ b (by omega)) (fun j a1 a2 => O _ (by omega) (by omega)) k0, fun r' a1 a2 => ?_, fun t' a1 a2 => ?_, fun i' a1 a2 => ?_, fun t' a1 a2 => ?_, fun r5 a1 a2 => by have w5 := k5 r5 (by omega) a2; rw [hJ _ (by omega), hJ _ (by omega), hJ _ (by omega)]; exact w5⟩
  · rw [e1] at a2
    obtain ⟨c1, c2, c3⟩ := k1 r' a1 a2
    have m := nr r' a1 a2
    refine ⟨x_ride_c (fun b b1 b2 => hJ b (by omega)) (fun w b1 b2 b3 b4 => O _ (by omega) (by omega)) c1, ?_, x_wait_c m.2.2 (fun b b1 => hJ b (by omega)) (O _ (by omega) (by omega)) (fun j b1 b2 => O _ (by omega) (by omega)) c3⟩
    by_cases hrr : r' = r
    · subst hrr
      obtain ⟨y0, y1, y2, y3⟩ := c2
      exact ⟨h1, (by rw [hJ _ (by omega), O _ (by omega) (by omega)]; exact y1), h2, (fun k b1 b2 => by rw [O _ (by omega) (by omega)] at b2; rw [hJ _ (by omega), hJ _ (by omega), O _ (by omega) (by omega), O _ (by omega) (by omega)]; exact y3 k b1 b2)⟩
    · exact x_line_c m.1 m.2.1 (fun b b1 b2 => hJ b (by omega)) (O _ (by omega) (by omega)) (O _ (by omega) (by omega)) (fun j b1 b2 => O _ (by omega) (by omega)) (fun j b1 b2 => O _ (by omega) (by omega)) c2
  · rw [e2] at a2
    exact x_tier_c (fun b b1 b2 => hJ b (by omega)) (fun w b1 b2 => O _ (by omega) (by omega)) (k2 t' a1 a2)
  · rw [e3] at a2
    exact x_party_c (fun b b1 b2 => hJ b (by omega)) (fun w b1 b2 => O _ (by omega) (by omega)) (k3 i' a1 a2)
  · rw [e5] at a2
    exact x_tk_c (fun b b1 b2 => hJ b (by omega)) (fun w b1 b2 => O _ (by omega) (by omega)) (k4 t' a1 a2)
theorem y_cb_bs0 (hc : y_cb q) (hr : 0 ≤ r ∧ r < q 1) (h0 : 0 < q (10 + 14 * r + 6)) : y_cb (k_bs0 q r) ∧ k_bs0 q r 1 = q 1 := by
  obtain ⟨n1, n2, n3, n5, nr⟩ := hc
  have m := nr r hr.1 hr.2
  have O := fun j => k_bs0_o (q := q) (r := r) (j := j) (by omega)
  have vC := (k_bs0_v (q := q) (r := r) (by omega)).2.2.2
  have e1 := O 1 (by omega) (by omega) (by omega) (by omega) (by omega)
  refine ⟨⟨by rw [e1]; exact n1, by rw [O 2 (by omega) (by omega) (by omega) (by omega) (by omega)]; exact n2, by rw [O 3 (by omega) (by omega) (by omega) (by omega) (by omega)]; exact n3, by rw [O 5 (by omega) (by omega) (by omega) (by omega) (by omega)]; exact n5, fun r' a1 a2 => ?_⟩, e1⟩
  rw [e1] at a2
  have m' := nr r' a1 a2
  by_cases hrr : r' = r
  · subst hrr
    rw [vC, O (10 + 14 * r' + 7) (by omega) (by omega) (by omega) (by omega) (by omega), O (10 + 14 * r' + 13) (by omega) (by omega) (by omega) (by omega) (by omega)]
    omega
  · rw [O (10 + 14 * r' + 6) (by omega) (by omega) (by omega) (by omega) (by omega), O (10 + 14 * r' + 7) (by omega) (by omega) (by omega) (by omega) (by omega), O (10 + 14 * r' + 13) (by omega) (by omega) (by omega) (by omega) (by omega)]
    exact m'
theorem y_cb_bn0 : ∀ (n : Nat) (q : Int → Int) (rm : Int), y_cb q → 0 ≤ r ∧ r < q 1 → q (10 + 14 * r + 6) = n → y_cb (k_bn0 r n q rm) ∧ k_bn0 r n q rm 1 = q 1
  | 0, q, rm, hc, hr, hn => ⟨hc, rfl⟩
  | n + 1, q, rm, hc, hr, hn => by
    rw [k_bn0]
    split
    · obtain ⟨i1, i2⟩ := y_cb_bs0 hc hr (by omega)
      have vC := (k_bs0_v (q := q) (r := r) (by have := hc.1; omega)).2.2.2
      obtain ⟨j1, j2⟩ := y_cb_bn0 n (k_bs0 q r) (rm - q (1188 + 300 * r)) i1 (by omega) (by omega)
      exact ⟨j1, j2.trans i2⟩
    · exact ⟨hc, rfl⟩
theorem k_bs0_u8 (hr : 0 ≤ r ∧ r < 8) (hc : q (10 + 14 * r + 6) ≤ 150) {v : Int} : k_bs0 (z_up q (10 + 14 * r + 8) v) r = z_up (k_bs0 q r) (10 + 14 * r + 8) v := by
  have e : ∀ j, j ≠ 10 + 14 * r + 8 → z_up q (10 + 14 * r + 8) v j = q j := fun j hj => z_up_ne hj
  have eC := e (10 + 14 * r + 6) (by omega)
  obtain ⟨a10, a11, a12, aC⟩ := k_bs0_v (q := z_up q (10 + 14 * r + 8) v) hr
  obtain ⟨b10, b11, b12, bC⟩ := k_bs0_v (q := q) hr
  rw [e _ (by omega), e _ (by omega), e _ (by omega)] at a10 a12
  rw [e _ (by omega)] at a11 aC
  funext j
  by_cases hj : j = 10 + 14 * r + 8
  · rw [z_up_eq hj, k_bs0_o hr (by omega) (by omega) (by omega) (by omega) (by omega), z_up_eq hj]
  · rw [z_up_ne hj]
    by_cases h10 : j = 10 + 14 * r + 10
    · rw [h10, a10, b10]
    · by_cases h11 : j = 10 + 14 * r + 11
      · rw [h11, a11, b11]
      · by_cases h12 : j = 10 + 14 * r + 12
        · rw [h12, a12, b12]
        · by_cases hC : j = 10 + 14 * r + 6
          · rw [hC, aC, bC]
          · by_cases hS : 1188 + 300 * r ≤ j ∧ j < 1188 + 300 * r + 2 * (q (10 + 14 * r + 6) - 1)
            · rw [k_bs0_s hr hc hS.1 hS.2, k_bs0_s hr (by rw [eC]; exact hc) hS.1 (by rw [eC]; exact hS.2), e _ (by omega)]
            · rw [k_bs0_o hr h10 h11 h12 hC (by omega), k_bs0_o hr h10 h11 h12 hC (by omega), e _ hj]
theorem k_bn0_u8 (hr : 0 ≤ r ∧ r < 8) {v : Int} : ∀ (n : Nat) (q : Int → Int) (rm : Int), q (10 + 14 * r + 6) = n → n ≤ 150 → k_bn0 r n (z_up q (10 + 14 * r + 8) v) rm = z_up (k_bn0 r n q rm) (10 + 14 * r + 8) v ∧ y_bn0 r n (z_up q (10 + 14 * r + 8) v) rm = y_bn0 r n q rm
  | 0, q, rm, _, _ => ⟨rfl, rfl⟩
  | n + 1, q, rm, hn, h150 => by
    have vC := (k_bs0_v (q := q) (r := r) hr).2.2.2
    rw [k_bn0, k_bn0, y_bn0, y_bn0, z_up_ne (show 1188 + 300 * r ≠ 10 + 14 * r + 8 by omega), k_bs0_u8 hr (by omega)]
    obtain ⟨i1, i2⟩ := k_bn0_u8 hr (v := v) n (k_bs0 q r) (rm - q (1188 + 300 * r)) (by omega) (by omega)
    rw [i1, i2]
    split <;> exact ⟨rfl, rfl⟩
theorem k_bq0_u8 (hr : 0 ≤ r ∧ r < 8) {v rm : Int} (hc : 0 ≤ q (10 + 14 * r + 6) ∧ q (10 + 14 * r + 6) ≤ 150) : k_bq0 (z_up q (10 + 14 * r + 8) v) r rm = z_up (k_bq0 q r rm) (10 + 14 * r + 8) v ∧ y_bp0 (z_up q (10 + 14 * r + 8) v) r rm = y_bp0 q r rm := by
  unfold k_bq0 y_bp0
  rw [z_up_ne (show 10 + 14 * r + 6 ≠ 10 + 14 * r + 8 by omega)]
  exact k_bn0_u8 hr _ q rm (by omega) (by omega)
theorem k_bs0_u9 (hr : 0 ≤ r ∧ r < 8) (hc : q (10 + 14 * r + 6) ≤ 150) {v : Int} : k_bs0 (z_up q (10 + 14 * r + 9) v) r = z_up (k_bs0 q r) (10 + 14 * r + 9) v := by
  have e : ∀ j, j ≠ 10 + 14 * r + 9 → z_up q (10 + 14 * r + 9) v j = q j := fun j hj => z_up_ne hj
  have eC := e (10 + 14 * r + 6) (by omega)
  obtain ⟨a10, a11, a12, aC⟩ := k_bs0_v (q := z_up q (10 + 14 * r + 9) v) hr
  obtain ⟨b10, b11, b12, bC⟩ := k_bs0_v (q := q) hr
  rw [e _ (by omega), e _ (by omega), e _ (by omega)] at a10 a12
  rw [e _ (by omega)] at a11 aC
  funext j
  by_cases hj : j = 10 + 14 * r + 9
  · rw [z_up_eq hj, k_bs0_o hr (by omega) (by omega) (by omega) (by omega) (by omega), z_up_eq hj]
  · rw [z_up_ne hj]
    by_cases h10 : j = 10 + 14 * r + 10
    · rw [h10, a10, b10]
    · by_cases h11 : j = 10 + 14 * r + 11
      · rw [h11, a11, b11]
      · by_cases h12 : j = 10 + 14 * r + 12
        · rw [h12, a12, b12]
        · by_cases hC : j = 10 + 14 * r + 6
          · rw [hC, aC, bC]
          · by_cases hS : 1188 + 300 * r ≤ j ∧ j < 1188 + 300 * r + 2 * (q (10 + 14 * r + 6) - 1)
            · rw [k_bs0_s hr hc hS.1 hS.2, k_bs0_s hr (by rw [eC]; exact hc) hS.1 (by rw [eC]; exact hS.2), e _ (by omega)]
            · rw [k_bs0_o hr h10 h11 h12 hC (by omega), k_bs0_o hr h10 h11 h12 hC (by omega), e _ hj]
theorem k_bn0_u9 (hr : 0 ≤ r ∧ r < 8) {v : Int} : ∀ (n : Nat) (q : Int → Int) (rm : Int), q (10 + 14 * r + 6) = n → n ≤ 150 → k_bn0 r n (z_up q (10 + 14 * r + 9) v) rm = z_up (k_bn0 r n q rm) (10 + 14 * r + 9) v ∧ y_bn0 r n (z_up q (10 + 14 * r + 9) v) rm = y_bn0 r n q rm
  | 0, q, rm, _, _ => ⟨rfl, rfl⟩
  | n + 1, q, rm, hn, h150 => by
    have vC := (k_bs0_v (q := q) (r := r) hr).2.2.2
    rw [k_bn0, k_bn0, y_bn0, y_bn0, z_up_ne (show 1188 + 300 * r ≠ 10 + 14 * r + 9 by omega), k_bs0_u9 hr (by omega)]
    obtain ⟨i1, i2⟩ := k_bn0_u9 hr (v := v) n (k_bs0 q r) (rm - q (1188 + 300 * r)) (by omega) (by omega)
    rw [i1, i2]
    split <;> exact ⟨rfl, rfl⟩
theorem k_bq0_u9 (hr : 0 ≤ r ∧ r < 8) {v rm : Int} (hc : 0 ≤ q (10 + 14 * r + 6) ∧ q (10 + 14 * r + 6) ≤ 150) : k_bq0 (z_up q (10 + 14 * r + 9) v) r rm = z_up (k_bq0 q r rm) (10 + 14 * r + 9) v ∧ y_bp0 (z_up q (10 + 14 * r + 9) v) r rm = y_bp0 q r rm := by
  unfold k_bq0 y_bp0
  rw [z_up_ne (show 10 + 14 * r + 6 ≠ 10 + 14 * r + 9 by omega)]
  exact k_bn0_u9 hr _ q rm (by omega) (by omega)
theorem x_lnu1 (hc : y_cb q) (h : x_day 36 q J) (hr : 0 ≤ r ∧ r < q 1) (O : ∀ j, j ≠ 10 + 14 * r + 7 → (j < 3588 + 122 * r ∨ 3588 + 122 * r + 122 ≤ j) → q' j = q j) (hJ : ∀ b, (b < 80 + 6 * r.toNat ∨ 82 + 6 * r.toNat < b) → J' b = J b) (h1 : J' (80 + 6 * r.toNat) 2 = q' (10 + 14 * r + 7)) (h2 : ∀ k, 0 ≤ k → k < q' (10 + 14 * r + 7) → J' (81 + 6 * r.toNat) k = q' (3588 + 122 * r + 2 * k) ∧ J' (82 + 6 * r.toNat) k = q' (3588 + 122 * r + 2 * k + 1)) : x_day 36 q' J' := by
  obtain ⟨k0, k1, k2, k3, k4, k5⟩ := h
  obtain ⟨n1, n2, n3, n5, nr⟩ := hc
  have e1 := O 1 (by omega) (by omega)
  have e2 := O 2 (by omega) (by omega)
  have e3 := O 3 (by omega) (by omega)
  have e5 := O 5 (by omega) (by omega)
  refine ⟨x_heads_c (fun b hb9 => hJ b (by omega)) (fun j a1 a2 => O _ (by omega) (by omega)) k0, fun r' a1 a2 => ?_, fun t' a1 a2 => ?_, fun i' a1 a2 => ?_, fun t' a1 a2 => ?_, fun r5 a1 a2 => by have w5 := k5 r5 (by omega) a2; rw [hJ _ (by omega), hJ _ (by omega), hJ _ (by omega)]; exact w5⟩
  · rw [e1] at a2
    obtain ⟨c1, c2, c3⟩ := k1 r' a1 a2
    have m := nr r' a1 a2
    refine ⟨x_ride_c (fun b b1 b2 => hJ b (by omega)) (fun w b1 b2 b3 b4 => O _ (by omega) (by omega)) c1, ?_, x_wait_c m.2.2 (fun b b1 => hJ b (by omega)) (O _ (by omega) (by omega)) (fun j b1 b2 => O _ (by omega) (by omega)) c3⟩
    by_cases hrr : r' = r
    · subst hrr
      obtain ⟨y0, y1, y2, y3⟩ := c2
      exact ⟨(by rw [hJ _ (by omega), O _ (by omega) (by omega)]; exact y0), h1, (fun k b1 b2 => by rw [O _ (by omega) (by omega)] at b2; rw [hJ _ (by omega), hJ _ (by omega), O _ (by omega) (by omega), O _ (by omega) (by omega)]; exact y2 k b1 b2), h2⟩
    · exact x_line_c m.1 m.2.1 (fun b b1 b2 => hJ b (by omega)) (O _ (by omega) (by omega)) (O _ (by omega) (by omega)) (fun j b1 b2 => O _ (by omega) (by omega)) (fun j b1 b2 => O _ (by omega) (by omega)) c2
  · rw [e2] at a2
    exact x_tier_c (fun b b1 b2 => hJ b (by omega)) (fun w b1 b2 => O _ (by omega) (by omega)) (k2 t' a1 a2)
  · rw [e3] at a2
    exact x_party_c (fun b b1 b2 => hJ b (by omega)) (fun w b1 b2 => O _ (by omega) (by omega)) (k3 i' a1 a2)
  · rw [e5] at a2
    exact x_tk_c (fun b b1 b2 => hJ b (by omega)) (fun w b1 b2 => O _ (by omega) (by omega)) (k4 t' a1 a2)
theorem y_cb_bs1 (hc : y_cb q) (hr : 0 ≤ r ∧ r < q 1) (h0 : 0 < q (10 + 14 * r + 7)) : y_cb (k_bs1 q r) ∧ k_bs1 q r 1 = q 1 := by
  obtain ⟨n1, n2, n3, n5, nr⟩ := hc
  have m := nr r hr.1 hr.2
  have O := fun j => k_bs1_o (q := q) (r := r) (j := j) (by omega)
  have vC := (k_bs1_v (q := q) (r := r) (by omega)).2.2.2
  have e1 := O 1 (by omega) (by omega) (by omega) (by omega) (by omega)
  refine ⟨⟨by rw [e1]; exact n1, by rw [O 2 (by omega) (by omega) (by omega) (by omega) (by omega)]; exact n2, by rw [O 3 (by omega) (by omega) (by omega) (by omega) (by omega)]; exact n3, by rw [O 5 (by omega) (by omega) (by omega) (by omega) (by omega)]; exact n5, fun r' a1 a2 => ?_⟩, e1⟩
  rw [e1] at a2
  have m' := nr r' a1 a2
  by_cases hrr : r' = r
  · subst hrr
    rw [vC, O (10 + 14 * r' + 6) (by omega) (by omega) (by omega) (by omega) (by omega), O (10 + 14 * r' + 13) (by omega) (by omega) (by omega) (by omega) (by omega)]
    omega
  · rw [O (10 + 14 * r' + 6) (by omega) (by omega) (by omega) (by omega) (by omega), O (10 + 14 * r' + 7) (by omega) (by omega) (by omega) (by omega) (by omega), O (10 + 14 * r' + 13) (by omega) (by omega) (by omega) (by omega) (by omega)]
    exact m'
theorem y_cb_bn1 : ∀ (n : Nat) (q : Int → Int) (rm : Int), y_cb q → 0 ≤ r ∧ r < q 1 → q (10 + 14 * r + 7) = n → y_cb (k_bn1 r n q rm) ∧ k_bn1 r n q rm 1 = q 1
  | 0, q, rm, hc, hr, hn => ⟨hc, rfl⟩
  | n + 1, q, rm, hc, hr, hn => by
    rw [k_bn1]
    split
    · obtain ⟨i1, i2⟩ := y_cb_bs1 hc hr (by omega)
      have vC := (k_bs1_v (q := q) (r := r) (by have := hc.1; omega)).2.2.2
      obtain ⟨j1, j2⟩ := y_cb_bn1 n (k_bs1 q r) (rm - q (3588 + 122 * r)) i1 (by omega) (by omega)
      exact ⟨j1, j2.trans i2⟩
    · exact ⟨hc, rfl⟩
theorem k_bs1_u8 (hr : 0 ≤ r ∧ r < 8) (hc : q (10 + 14 * r + 7) ≤ 150) {v : Int} : k_bs1 (z_up q (10 + 14 * r + 8) v) r = z_up (k_bs1 q r) (10 + 14 * r + 8) v := by
  have e : ∀ j, j ≠ 10 + 14 * r + 8 → z_up q (10 + 14 * r + 8) v j = q j := fun j hj => z_up_ne hj
  have eC := e (10 + 14 * r + 7) (by omega)
  obtain ⟨a10, a11, a12, aC⟩ := k_bs1_v (q := z_up q (10 + 14 * r + 8) v) hr
  obtain ⟨b10, b11, b12, bC⟩ := k_bs1_v (q := q) hr
  rw [e _ (by omega), e _ (by omega), e _ (by omega)] at a10 a12
  rw [e _ (by omega)] at a11 aC
  funext j
  by_cases hj : j = 10 + 14 * r + 8
  · rw [z_up_eq hj, k_bs1_o hr (by omega) (by omega) (by omega) (by omega) (by omega), z_up_eq hj]
  · rw [z_up_ne hj]
    by_cases h10 : j = 10 + 14 * r + 10
    · rw [h10, a10, b10]
    · by_cases h11 : j = 10 + 14 * r + 11
      · rw [h11, a11, b11]
      · by_cases h12 : j = 10 + 14 * r + 12
        · rw [h12, a12, b12]
        · by_cases hC : j = 10 + 14 * r + 7
          · rw [hC, aC, bC]
          · by_cases hS : 3588 + 122 * r ≤ j ∧ j < 3588 + 122 * r + 2 * (q (10 + 14 * r + 7) - 1)
            · rw [k_bs1_s hr hc hS.1 hS.2, k_bs1_s hr (by rw [eC]; exact hc) hS.1 (by rw [eC]; exact hS.2), e _ (by omega)]
            · rw [k_bs1_o hr h10 h11 h12 hC (by omega), k_bs1_o hr h10 h11 h12 hC (by omega), e _ hj]
theorem k_bn1_u8 (hr : 0 ≤ r ∧ r < 8) {v : Int} : ∀ (n : Nat) (q : Int → Int) (rm : Int), q (10 + 14 * r + 7) = n → n ≤ 150 → k_bn1 r n (z_up q (10 + 14 * r + 8) v) rm = z_up (k_bn1 r n q rm) (10 + 14 * r + 8) v ∧ y_bn1 r n (z_up q (10 + 14 * r + 8) v) rm = y_bn1 r n q rm
  | 0, q, rm, _, _ => ⟨rfl, rfl⟩
  | n + 1, q, rm, hn, h150 => by
    have vC := (k_bs1_v (q := q) (r := r) hr).2.2.2
    rw [k_bn1, k_bn1, y_bn1, y_bn1, z_up_ne (show 3588 + 122 * r ≠ 10 + 14 * r + 8 by omega), k_bs1_u8 hr (by omega)]
    obtain ⟨i1, i2⟩ := k_bn1_u8 hr (v := v) n (k_bs1 q r) (rm - q (3588 + 122 * r)) (by omega) (by omega)
    rw [i1, i2]
    split <;> exact ⟨rfl, rfl⟩
theorem k_bq1_u8 (hr : 0 ≤ r ∧ r < 8) {v rm : Int} (hc : 0 ≤ q (10 + 14 * r + 7) ∧ q (10 + 14 * r + 7) ≤ 150) : k_bq1 (z_up q (10 + 14 * r + 8) v) r rm = z_up (k_bq1 q r rm) (10 + 14 * r + 8) v ∧ y_bp1 (z_up q (10 + 14 * r + 8) v) r rm = y_bp1 q r rm := by
  unfold k_bq1 y_bp1
  rw [z_up_ne (show 10 + 14 * r + 7 ≠ 10 + 14 * r + 8 by omega)]
  exact k_bn1_u8 hr _ q rm (by omega) (by omega)
theorem k_bs1_u9 (hr : 0 ≤ r ∧ r < 8) (hc : q (10 + 14 * r + 7) ≤ 150) {v : Int} : k_bs1 (z_up q (10 + 14 * r + 9) v) r = z_up (k_bs1 q r) (10 + 14 * r + 9) v := by
  have e : ∀ j, j ≠ 10 + 14 * r + 9 → z_up q (10 + 14 * r + 9) v j = q j := fun j hj => z_up_ne hj
  have eC := e (10 + 14 * r + 7) (by omega)
  obtain ⟨a10, a11, a12, aC⟩ := k_bs1_v (q := z_up q (10 + 14 * r + 9) v) hr
  obtain ⟨b10, b11, b12, bC⟩ := k_bs1_v (q := q) hr
  rw [e _ (by omega), e _ (by omega), e _ (by omega)] at a10 a12
  rw [e _ (by omega)] at a11 aC
  funext j
  by_cases hj : j = 10 + 14 * r + 9
  · rw [z_up_eq hj, k_bs1_o hr (by omega) (by omega) (by omega) (by omega) (by omega), z_up_eq hj]
  · rw [z_up_ne hj]
    by_cases h10 : j = 10 + 14 * r + 10
    · rw [h10, a10, b10]
    · by_cases h11 : j = 10 + 14 * r + 11
      · rw [h11, a11, b11]
      · by_cases h12 : j = 10 + 14 * r + 12
        · rw [h12, a12, b12]
        · by_cases hC : j = 10 + 14 * r + 7
          · rw [hC, aC, bC]
          · by_cases hS : 3588 + 122 * r ≤ j ∧ j < 3588 + 122 * r + 2 * (q (10 + 14 * r + 7) - 1)
            · rw [k_bs1_s hr hc hS.1 hS.2, k_bs1_s hr (by rw [eC]; exact hc) hS.1 (by rw [eC]; exact hS.2), e _ (by omega)]
            · rw [k_bs1_o hr h10 h11 h12 hC (by omega), k_bs1_o hr h10 h11 h12 hC (by omega), e _ hj]
theorem k_bn1_u9 (hr : 0 ≤ r ∧ r < 8) {v : Int} : ∀ (n : Nat) (q : Int → Int) (rm : Int), q (10 + 14 * r + 7) = n → n ≤ 150 → k_bn1 r n (z_up q (10 + 14 * r + 9) v) rm = z_up (k_bn1 r n q rm) (10 + 14 * r + 9) v ∧ y_bn1 r n (z_up q (10 + 14 * r + 9) v) rm = y_bn1 r n q rm
  | 0, q, rm, _, _ => ⟨rfl, rfl⟩
  | n + 1, q, rm, hn, h150 => by
    have vC := (k_bs1_v (q := q) (r := r) hr).2.2.2
    rw [k_bn1, k_bn1, y_bn1, y_bn1, z_up_ne (show 3588 + 122 * r ≠ 10 + 14 * r + 9 by omega), k_bs1_u9 hr (by omega)]
    obtain ⟨i1, i2⟩ := k_bn1_u9 hr (v := v) n (k_bs1 q r) (rm - q (3588 + 122 * r)) (by omega) (by omega)
    rw [i1, i2]
    split <;> exact ⟨rfl, rfl⟩
theorem k_bq1_u9 (hr : 0 ≤ r ∧ r < 8) {v rm : Int} (hc : 0 ≤ q (10 + 14 * r + 7) ∧ q (10 + 14 * r + 7) ≤ 150) : k_bq1 (z_up q (10 + 14 * r + 9) v) r rm = z_up (k_bq1 q r rm) (10 + 14 * r + 9) v ∧ y_bp1 (z_up q (10 + 14 * r + 9) v) r rm = y_bp1 q r rm := by
  unfold k_bq1 y_bp1
  rw [z_up_ne (show 10 + 14 * r + 7 ≠ 10 + 14 * r + 9 by omega)]
  exact k_bn1_u9 hr _ q rm (by omega) (by omega)
end X9
section Q17
variable {l : Launch} {d : Nat} {g : List (Option Nat)} {T : m_E} {J : z_J} {X : z_X} {q : Int → Int}
theorem e_plannedInL (hc : y_cb q) (h : x_day 36 q J) {r s : Int} (hr : 0 ≤ r ∧ r < q 1) (hl : y_loc q r) : z_Sem l (d + 1) M_Rides_plannedIn [.inr (.inr (.ref 37)), .inl r, .inl s] (m_Ex g T, J, X) 0 0 (z_ret (.inl (y_planned q r s)) (m_Ex g T, J, X)) := by
  have b1 := hc.1
  have f := h.ride hr.1 hr.2
  have hm := y_mul_b hl.2.1.1 hl.2.1.2.1
  refine z_sem_of z_m81 m_ok_81 (Nat.le_of_ble_eq_true rfl) (fun Wp hs hv hS => ?_)
  refine w_81_0 hs ?_
  rw [f.1, f.2.1, f.2.2.2.1, f.2.2.2.2.1]
  refine ⟨by omega, fun c => ⟨z_wi ?_, rfl⟩, fun c => ⟨by omega, fun c1 => ⟨z_wi ?_, rfl⟩, fun c1 => ⟨by omega, z_wi ?_, rfl⟩⟩⟩
  all_goals
    unfold y_planned y_pw
    split <;> (first | rfl | omega)
theorem e_boardFrom0 {r ob mo : Int} (hc : y_cb q) (h : x_day 36 q J) (hr : 0 ≤ r ∧ r < q 1) (hl : y_loc q r) (hn : q (10 + 14 * r + 6) ≤ 150) (hp : 0 ≤ ob ∧ ob ≤ mo) (hm : mo ≤ 200) : z_Sem l (d + 2) M_Day_boardFrom [.inr (.inr (.ref 36)), .inr (.inr (.ref (77 + 6 * r.toNat))), .inl r, .inl ob, .inl mo] (m_Ex g T, J, X) 0 0 (z_rq (m_Ex g T) (fun v J' X' => X' = X ∧ x_day 36 (k_bq0 q r (mo - ob)) J' ∧ x_fr J J' ∧ v = y_bp0 q r (mo - ob))) := by
  have h8 := hc.1
  have hr8 : 0 ≤ r ∧ r < 8 := by omega
  refine z_sem_of z_m14 m_ok_14 (Nat.le_of_ble_eq_true rfl) (fun Wp hs hv hS => ?_)
  have a68 : ∀ (n : Nat) (p k ng : Int) (J2 : z_J) (Q2 : Int → Int), x_day 36 Q2 J2 → y_cb Q2 → r < Q2 1 → Q2 (10 + 14 * r + 6) = n + 1 → n + 1 ≤ 150 → (∀ J3, x_day 36 (k_sh0 Q2 r) J3 → x_fr J2 J3 → Wp 72 [some (.inr (.inr (.ref 36))), some (.inr (.inr (.ref (77 + 6 * r.toNat)))), some (.inl r), some (.inl ob), some (.inl mo), some (.inl p), some (.inl ng), some (.inl k)] [] (m_Ex g T, J3, X) 0 0) → Wp 68 [some (.inr (.inr (.ref 36))), some (.inr (.inr (.ref (77 + 6 * r.toNat)))), some (.inl r), some (.inl ob), some (.inl mo), some (.inl p), some (.inl ng), some (.inl k)] [] (m_Ex g T, J2, X) 0 0 := by
    intro n p k ng J2 Q2 x2 cb2 hr2 hC hN K
    have ln := x2.line hr.1 hr2
    have l2 : J2 (77 + 6 * r.toNat) 2 = n + 1 := by rw [ln.1, hC]
    have u2 : (z_u J2 (77 + 6 * r.toNat) 2 (n + 1 - 1)) (77 + 6 * r.toNat) 2 = n := by rw [z_u_at rfl]; omega
    have u3 : ∀ f9 : Int → Int, (z_row (z_u J2 (77 + 6 * r.toNat) 2 (n + 1 - 1)) (78 + 6 * r.toNat) f9) (77 + 6 * r.toNat) 2 = n := fun f9 => by rw [z_row_ne (by omega)]; exact u2
    refine w_14_68 (z_ka75 hr8) (z_ka75_1 hr8) (z_ka75_2 hr8) hs ?_
    rw [l2]
    simp only [u2, u3]
    refine ⟨fun c => by omega, fun c => ⟨by omega, K _ (x_lnu0 cb2 x2 ⟨hr.1, hr2⟩ (fun j a1 a2 => ?_) (fun b hb9 => ?_) ?_ (fun i b1 b2 => ?_)) (fun b hb9 => ?_)⟩⟩
    · unfold k_sh0
      rw [if_neg a1, if_neg (by omega)]
    · rw [z_row_ne (by omega), z_row_ne (by omega), z_u_ne (by omega)]
    · rw [z_row_ne (by omega)]
      have : k_sh0 Q2 r (10 + 14 * r + 6) = n := by unfold k_sh0; rw [if_pos rfl, hC]; omega
      rw [this]; exact u3 _
    · have vC : k_sh0 Q2 r (10 + 14 * r + 6) = n := by unfold k_sh0; rw [if_pos rfl, hC]; omega
      rw [vC] at b2
      have s1 : k_sh0 Q2 r (1188 + 300 * r + 2 * i) = Q2 (1188 + 300 * r + 2 * (i + 1)) := by
        unfold k_sh0
        rw [if_neg (by omega), if_pos (by omega), show 1188 + 300 * r + 2 * i + 2 = 1188 + 300 * r + 2 * (i + 1) by omega]
      have s2 : k_sh0 Q2 r (1188 + 300 * r + 2 * i + 1) = Q2 (1188 + 300 * r + 2 * (i + 1) + 1) := by
        unfold k_sh0
        rw [if_neg (by omega), if_pos (by omega), show 1188 + 300 * r + 2 * i + 1 + 2 = 1188 + 300 * r + 2 * (i + 1) + 1 by omega]
      have l3 := ln.2.2.1 (i + 1) (by omega) (by omega)
      rw [s1, s2, ← l3.1, ← l3.2]
      refine ⟨?_, ?_⟩
      · rw [z_row_ne (by omega), z_row_eq, z_u_ne (by omega)]
        unfold z_cpy
        rw [if_pos (by omega), show 1 + (i - 0) = i + 1 by omega]
      · rw [z_row_eq, z_row_ne (by omega), z_u_ne (by omega)]
        unfold z_cpy
        rw [if_pos (by omega), show 1 + (i - 0) = i + 1 by omega]
    · rw [z_row_ne (by omega), z_row_ne (by omega), z_u_ne (by omega)]
  have loop : ∀ (n : Nat) (Q9 : Int → Int) (p k ng : Int) (J1 : z_J), x_day 36 Q9 J1 → y_cb Q9 → r < Q9 1 → y_loc Q9 r → x_fr J J1 → Q9 (10 + 14 * r + 6) = n → n ≤ 150 → k + n = ng → (0 ≤ k ∧ ng ≤ 150) → (0 ≤ p ∧ ob + p ≤ mo) → p + y_bn0 r n Q9 (mo - ob - p) = y_bp0 q r (mo - ob) → k_bn0 r n Q9 (mo - ob - p) = k_bq0 q r (mo - ob) → Wp 12 [some (.inr (.inr (.ref 36))), some (.inr (.inr (.ref (77 + 6 * r.toNat)))), some (.inl r), some (.inl ob), some (.inl mo), some (.inl p), some (.inl ng), some (.inl k)] [] (m_Ex g T, J1, X) 0 0 := by
    intro n
    induction n with
    | zero =>
      intro Q9 p k ng J1 x1 cb1 hr1 lc1 f1 hC hN hk hk0 hp9 e1 e2
      refine w_14_12 (z_ka75 hr8) (z_ka75_1 hr8) (z_ka75_2 hr8) hs ?_
      refine ⟨fun c => ⟨_, _, _, rfl, rfl, rfl, ?_, f1, ?_⟩, fun c => by omega⟩
      · rw [← e2]; exact x1
      · rw [← e1]; show p = p + 0; omega
    | succ n ih =>
      intro Q9 p k ng J1 x1 cb1 hr1 lc1 f1 hC hN hk hk0 hp9 e1 e2
      have hln := lc1.2.2.2.2.2.2.2.2.2.1 0 (by omega) (by omega)
      have g1 : Q9 (1188 + 300 * r + 2 * 0 + 1) = Q9 (1188 + 300 * r + 1) := by rw [show 1188 + 300 * r + 2 * 0 + 1 = 1188 + 300 * r + 1 by omega]
      have g0 : Q9 (1188 + 300 * r + 2 * 0) = Q9 (1188 + 300 * r) := by rw [show 1188 + 300 * r + 2 * 0 = 1188 + 300 * r by omega]
      have hb0 := lc1.1
      have h6 := lc1.2.2.1
      have h7 := lc1.2.2.2.1
      have h10 := lc1.2.2.2.2.2.2.1
      have h11 := lc1.2.2.2.2.2.2.2.1
      have ln := x1.line hr.1 hr1
      have rd := x1.ride hr.1 hr1
      have d0 := x1.hd.1
      have lz := (ln.2.2.1 0 (by omega) (by omega))
      rw [g0, g1] at lz
      rw [k_bn0] at e2
      rw [y_bn0] at e1
      refine w_14_12 (z_ka75 hr8) (z_ka75_1 hr8) (z_ka75_2 hr8) hs ?_
      rw [lz.1, lz.2, d0, rd.2.2.2.2.2.2.2.2.1, rd.2.2.2.2.2.2.2.2.2.1, rd.2.2.2.2.2.2.2.2.2.2]
      refine ⟨fun c => by omega, fun c => ⟨by omega, fun c1 => ⟨by omega, ?_⟩, fun c1 => ?_⟩⟩
      · rw [if_pos (by omega)] at e1 e2
        have xn : x_day 36 (k_nt Q9 r (Q9 0 - Q9 (1188 + 300 * r + 1))) (z_u (z_u (z_u J1 46 r (Q9 (10 + 14 * r + 11) + 1)) 47 r (Q9 (10 + 14 * r + 10) + (Q9 0 - Q9 (1188 + 300 * r + 1)))) 48 r (max (Q9 (10 + 14 * r + 12)) (Q9 0 - Q9 (1188 + 300 * r + 1)))) := by
          refine x_rdu cb1 x1 ⟨hr.1, hr1⟩ (fun j a1 => ?_) (fun b b1 => ?_) (fun b i b1 b2 b3 => ?_) ?_
          · unfold k_nt; simp (disch := omega) only [z_up_ne]
          · rw [z_u_ne (by omega), z_u_ne (by omega), z_u_ne (by omega)]
          · by_cases h48 : b = 48
            · rw [h48, z_u_off b3, z_u_ne (by omega), z_u_ne (by omega)]
            · rw [z_u_ne h48]
              by_cases h47 : b = 47
              · rw [h47, z_u_off b3, z_u_ne (by omega)]
              · rw [z_u_ne h47]
                by_cases h46 : b = 46
                · rw [h46, z_u_off b3]
                · rw [z_u_ne h46]
          · unfold k_nt
            refine ⟨?_, ?_, ?_, ?_, ?_⟩
            · rw [z_u_ne (by omega), z_u_ne (by omega), z_u_ne (by omega), z_up_ne (by omega), z_up_ne (by omega), z_up_ne (by omega)]; exact rd.2.2.2.2.2.2.1
            · rw [z_u_ne (by omega), z_u_ne (by omega), z_u_ne (by omega), z_up_ne (by omega), z_up_ne (by omega), z_up_ne (by omega)]; exact rd.2.2.2.2.2.2.2.1
            · rw [z_u_ne (by omega), z_u_ne (by omega), z_u_at rfl, z_up_ne (by omega), z_up_eq rfl]
            · rw [z_u_ne (by omega), z_u_at rfl, z_up_ne (by omega), z_up_ne (by omega), z_up_eq rfl]
            · rw [z_u_at rfl, z_up_eq rfl]
        have cbn : y_cb (k_nt Q9 r (Q9 0 - Q9 (1188 + 300 * r + 1))) := by
          have O : ∀ j, (j < 10 + 14 * r + 10 ∨ 10 + 14 * r + 12 < j) → k_nt Q9 r (Q9 0 - Q9 (1188 + 300 * r + 1)) j = Q9 j := fun j a1 => by unfold k_nt; simp (disch := omega) only [z_up_ne]
          obtain ⟨n1, n2, n3, n5, nr⟩ := cb1
          refine ⟨by rw [O 1 (by omega)]; exact n1, by rw [O 2 (by omega)]; exact n2, by rw [O 3 (by omega)]; exact n3, by rw [O 5 (by omega)]; exact n5, fun r' a1 a2 => ?_⟩
          rw [O 1 (by omega)] at a2
          rw [O _ (by omega), O _ (by omega), O _ (by omega)]
          exact nr r' a1 a2
        have en1 : k_nt Q9 r (Q9 0 - Q9 (1188 + 300 * r + 1)) 1 = Q9 1 := by unfold k_nt; simp (disch := omega) only [z_up_ne]
        have enC : k_nt Q9 r (Q9 0 - Q9 (1188 + 300 * r + 1)) (10 + 14 * r + 6) = Q9 (10 + 14 * r + 6) := by unfold k_nt; simp (disch := omega) only [z_up_ne]
        refine a68 n _ k ng _ _ xn cbn (by rw [en1]; exact hr1) (by rw [enC, hC]; rfl) hN (fun J3 x3 f3 => ?_)
        refine w_14_72 (z_ka75 hr8) (z_ka75_1 hr8) (z_ka75_2 hr8) hs ⟨by omega, ?_⟩
        have vv := (k_bs0_v (q := Q9) hr8).2.2.2
        obtain ⟨cb3, cb4⟩ := y_cb_bs0 cb1 ⟨hr.1, hr1⟩ (by omega)
        refine ih (k_bs0 Q9 r) (p + Q9 (1188 + 300 * r)) (k + 1) ng J3 x3 cb3 (by omega) (y_loc_bs0 hr8 lc1 (by omega)) (fun b hb9 => ?_) (by omega) (by omega) (by omega) (by omega) (by omega) ?_ ?_
        · rw [f3 b hb9, z_u_ne (by omega), z_u_ne (by omega), z_u_ne (by omega)]; exact f1 b hb9
        · rw [show mo - ob - (p + Q9 (1188 + 300 * r)) = mo - ob - p - Q9 (1188 + 300 * r) by omega]; omega
        · rw [show mo - ob - (p + Q9 (1188 + 300 * r)) = mo - ob - p - Q9 (1188 + 300 * r) by omega]; exact e2
      · rw [if_neg (by omega)] at e1 e2
        refine ⟨_, _, _, rfl, rfl, rfl, ?_, f1, ?_⟩
        · rw [← e2]; exact x1
        · rw [← e1]; omega
  have h6 := hl.2.2.1
  have h7 := hl.2.2.2.1
  have ln := h.line hr.1 hr.2
  refine w_14_0 (z_ka75 hr8) (z_ka75_1 hr8) (z_ka75_2 hr8) hs ?_
  rw [ln.1]
  exact loop (q (10 + 14 * r + 6)).toNat q 0 0 _ J h hc hr.2 hl x_fr.rf (by omega) (by omega) (by omega) (by omega) (by omega) (by rw [Int.sub_zero, Int.zero_add]; rfl) (by rw [Int.sub_zero]; rfl)
theorem e_boardFrom1 {r ob mo : Int} (hc : y_cb q) (h : x_day 36 q J) (hr : 0 ≤ r ∧ r < q 1) (hl : y_loc q r) (hn : q (10 + 14 * r + 7) ≤ 60) (hp : 0 ≤ ob ∧ ob ≤ mo) (hm : mo ≤ 200) : z_Sem l (d + 2) M_Day_boardFrom [.inr (.inr (.ref 36)), .inr (.inr (.ref (80 + 6 * r.toNat))), .inl r, .inl ob, .inl mo] (m_Ex g T, J, X) 0 0 (z_rq (m_Ex g T) (fun v J' X' => X' = X ∧ x_day 36 (k_bq1 q r (mo - ob)) J' ∧ x_fr J J' ∧ v = y_bp1 q r (mo - ob))) := by
  have h8 := hc.1
  have hr8 : 0 ≤ r ∧ r < 8 := by omega
  refine z_sem_of z_m14 m_ok_14 (Nat.le_of_ble_eq_true rfl) (fun Wp hs hv hS => ?_)
  have a68 : ∀ (n : Nat) (p k ng : Int) (J2 : z_J) (Q2 : Int → Int), x_day 36 Q2 J2 → y_cb Q2 → r < Q2 1 → Q2 (10 + 14 * r + 7) = n + 1 → n + 1 ≤ 60 → (∀ J3, x_day 36 (k_sh1 Q2 r) J3 → x_fr J2 J3 → Wp 72 [some (.inr (.inr (.ref 36))), some (.inr (.inr (.ref (80 + 6 * r.toNat)))), some (.inl r), some (.inl ob), some (.inl mo), some (.inl p), some (.inl ng), some (.inl k)] [] (m_Ex g T, J3, X) 0 0) → Wp 68 [some (.inr (.inr (.ref 36))), some (.inr (.inr (.ref (80 + 6 * r.toNat)))), some (.inl r), some (.inl ob), some (.inl mo), some (.inl p), some (.inl ng), some (.inl k)] [] (m_Ex g T, J2, X) 0 0 := by
    intro n p k ng J2 Q2 x2 cb2 hr2 hC hN K
    have ln := x2.line hr.1 hr2
    have l2 : J2 (80 + 6 * r.toNat) 2 = n + 1 := by rw [ln.2.1, hC]
    have u2 : (z_u J2 (80 + 6 * r.toNat) 2 (n + 1 - 1)) (80 + 6 * r.toNat) 2 = n := by rw [z_u_at rfl]; omega
    have u3 : ∀ f9 : Int → Int, (z_row (z_u J2 (80 + 6 * r.toNat) 2 (n + 1 - 1)) (81 + 6 * r.toNat) f9) (80 + 6 * r.toNat) 2 = n := fun f9 => by rw [z_row_ne (by omega)]; exact u2
    refine w_14_68 (z_ka76 hr8) (z_ka76_1 hr8) (z_ka76_2 hr8) hs ?_
    rw [l2]
    simp only [u2, u3]
    refine ⟨fun c => by omega, fun c => ⟨by omega, K _ (x_lnu1 cb2 x2 ⟨hr.1, hr2⟩ (fun j a1 a2 => ?_) (fun b hb9 => ?_) ?_ (fun i b1 b2 => ?_)) (fun b hb9 => ?_)⟩⟩
    · unfold k_sh1
      rw [if_neg a1, if_neg (by omega)]
    · rw [z_row_ne (by omega), z_row_ne (by omega), z_u_ne (by omega)]
    · rw [z_row_ne (by omega)]
      have : k_sh1 Q2 r (10 + 14 * r + 7) = n := by unfold k_sh1; rw [if_pos rfl, hC]; omega
      rw [this]; exact u3 _
    · have vC : k_sh1 Q2 r (10 + 14 * r + 7) = n := by unfold k_sh1; rw [if_pos rfl, hC]; omega
      rw [vC] at b2
      have s1 : k_sh1 Q2 r (3588 + 122 * r + 2 * i) = Q2 (3588 + 122 * r + 2 * (i + 1)) := by
        unfold k_sh1
        rw [if_neg (by omega), if_pos (by omega), show 3588 + 122 * r + 2 * i + 2 = 3588 + 122 * r + 2 * (i + 1) by omega]
      have s2 : k_sh1 Q2 r (3588 + 122 * r + 2 * i + 1) = Q2 (3588 + 122 * r + 2 * (i + 1) + 1) := by
        unfold k_sh1
        rw [if_neg (by omega), if_pos (by omega), show 3588 + 122 * r + 2 * i + 1 + 2 = 3588 + 122 * r + 2 * (i + 1) + 1 by omega]
      have l3 := ln.2.2.2 (i + 1) (by omega) (by omega)
      rw [s1, s2, ← l3.1, ← l3.2]
      refine ⟨?_, ?_⟩
      · rw [z_row_ne (by omega), z_row_eq, z_u_ne (by omega)]
        unfold z_cpy
        rw [if_pos (by omega), show 1 + (i - 0) = i + 1 by omega]
      · rw [z_row_eq, z_row_ne (by omega), z_u_ne (by omega)]
        unfold z_cpy
        rw [if_pos (by omega), show 1 + (i - 0) = i + 1 by omega]
    · rw [z_row_ne (by omega), z_row_ne (by omega), z_u_ne (by omega)]
  have loop : ∀ (n : Nat) (Q9 : Int → Int) (p k ng : Int) (J1 : z_J), x_day 36 Q9 J1 → y_cb Q9 → r < Q9 1 → y_loc Q9 r → x_fr J J1 → Q9 (10 + 14 * r + 7) = n → n ≤ 60 → k + n = ng → (0 ≤ k ∧ ng ≤ 150) → (0 ≤ p ∧ ob + p ≤ mo) → p + y_bn1 r n Q9 (mo - ob - p) = y_bp1 q r (mo - ob) → k_bn1 r n Q9 (mo - ob - p) = k_bq1 q r (mo - ob) → Wp 12 [some (.inr (.inr (.ref 36))), some (.inr (.inr (.ref (80 + 6 * r.toNat)))), some (.inl r), some (.inl ob), some (.inl mo), some (.inl p), some (.inl ng), some (.inl k)] [] (m_Ex g T, J1, X) 0 0 := by
    intro n
    induction n with
    | zero =>
      intro Q9 p k ng J1 x1 cb1 hr1 lc1 f1 hC hN hk hk0 hp9 e1 e2
      refine w_14_12 (z_ka76 hr8) (z_ka76_1 hr8) (z_ka76_2 hr8) hs ?_
      refine ⟨fun c => ⟨_, _, _, rfl, rfl, rfl, ?_, f1, ?_⟩, fun c => by omega⟩
      · rw [← e2]; exact x1
      · rw [← e1]; show p = p + 0; omega
    | succ n ih =>
      intro Q9 p k ng J1 x1 cb1 hr1 lc1 f1 hC hN hk hk0 hp9 e1 e2
      have hln := lc1.2.2.2.2.2.2.2.2.2.2 0 (by omega) (by omega)
      have g1 : Q9 (3588 + 122 * r + 2 * 0 + 1) = Q9 (3588 + 122 * r + 1) := by rw [show 3588 + 122 * r + 2 * 0 + 1 = 3588 + 122 * r + 1 by omega]
      have g0 : Q9 (3588 + 122 * r + 2 * 0) = Q9 (3588 + 122 * r) := by rw [show 3588 + 122 * r + 2 * 0 = 3588 + 122 * r by omega]
      have hb0 := lc1.1
      have h6 := lc1.2.2.1
      have h7 := lc1.2.2.2.1
      have h10 := lc1.2.2.2.2.2.2.1
      have h11 := lc1.2.2.2.2.2.2.2.1
      have ln := x1.line hr.1 hr1
      have rd := x1.ride hr.1 hr1
      have d0 := x1.hd.1
      have lz := (ln.2.2.2 0 (by omega) (by omega))
      rw [g0, g1] at lz
      rw [k_bn1] at e2
      rw [y_bn1] at e1
      refine w_14_12 (z_ka76 hr8) (z_ka76_1 hr8) (z_ka76_2 hr8) hs ?_
      rw [lz.1, lz.2, d0, rd.2.2.2.2.2.2.2.2.1, rd.2.2.2.2.2.2.2.2.2.1, rd.2.2.2.2.2.2.2.2.2.2]
      refine ⟨fun c => by omega, fun c => ⟨by omega, fun c1 => ⟨by omega, ?_⟩, fun c1 => ?_⟩⟩
      · rw [if_pos (by omega)] at e1 e2
        have xn : x_day 36 (k_nt Q9 r (Q9 0 - Q9 (3588 + 122 * r + 1))) (z_u (z_u (z_u J1 46 r (Q9 (10 + 14 * r + 11) + 1)) 47 r (Q9 (10 + 14 * r + 10) + (Q9 0 - Q9 (3588 + 122 * r + 1)))) 48 r (max (Q9 (10 + 14 * r + 12)) (Q9 0 - Q9 (3588 + 122 * r + 1)))) := by
          refine x_rdu cb1 x1 ⟨hr.1, hr1⟩ (fun j a1 => ?_) (fun b b1 => ?_) (fun b i b1 b2 b3 => ?_) ?_
          · unfold k_nt; simp (disch := omega) only [z_up_ne]
          · rw [z_u_ne (by omega), z_u_ne (by omega), z_u_ne (by omega)]
          · by_cases h48 : b = 48
            · rw [h48, z_u_off b3, z_u_ne (by omega), z_u_ne (by omega)]
            · rw [z_u_ne h48]
              by_cases h47 : b = 47
              · rw [h47, z_u_off b3, z_u_ne (by omega)]
              · rw [z_u_ne h47]
                by_cases h46 : b = 46
                · rw [h46, z_u_off b3]
                · rw [z_u_ne h46]
          · unfold k_nt
            refine ⟨?_, ?_, ?_, ?_, ?_⟩
            · rw [z_u_ne (by omega), z_u_ne (by omega), z_u_ne (by omega), z_up_ne (by omega), z_up_ne (by omega), z_up_ne (by omega)]; exact rd.2.2.2.2.2.2.1
            · rw [z_u_ne (by omega), z_u_ne (by omega), z_u_ne (by omega), z_up_ne (by omega), z_up_ne (by omega), z_up_ne (by omega)]; exact rd.2.2.2.2.2.2.2.1
            · rw [z_u_ne (by omega), z_u_ne (by omega), z_u_at rfl, z_up_ne (by omega), z_up_eq rfl]
            · rw [z_u_ne (by omega), z_u_at rfl, z_up_ne (by omega), z_up_ne (by omega), z_up_eq rfl]
            · rw [z_u_at rfl, z_up_eq rfl]
        have cbn : y_cb (k_nt Q9 r (Q9 0 - Q9 (3588 + 122 * r + 1))) := by
          have O : ∀ j, (j < 10 + 14 * r + 10 ∨ 10 + 14 * r + 12 < j) → k_nt Q9 r (Q9 0 - Q9 (3588 + 122 * r + 1)) j = Q9 j := fun j a1 => by unfold k_nt; simp (disch := omega) only [z_up_ne]
          obtain ⟨n1, n2, n3, n5, nr⟩ := cb1
          refine ⟨by rw [O 1 (by omega)]; exact n1, by rw [O 2 (by omega)]; exact n2, by rw [O 3 (by omega)]; exact n3, by rw [O 5 (by omega)]; exact n5, fun r' a1 a2 => ?_⟩
          rw [O 1 (by omega)] at a2
          rw [O _ (by omega), O _ (by omega), O _ (by omega)]
          exact nr r' a1 a2
        have en1 : k_nt Q9 r (Q9 0 - Q9 (3588 + 122 * r + 1)) 1 = Q9 1 := by unfold k_nt; simp (disch := omega) only [z_up_ne]
        have enC : k_nt Q9 r (Q9 0 - Q9 (3588 + 122 * r + 1)) (10 + 14 * r + 7) = Q9 (10 + 14 * r + 7) := by unfold k_nt; simp (disch := omega) only [z_up_ne]
        refine a68 n _ k ng _ _ xn cbn (by rw [en1]; exact hr1) (by rw [enC, hC]; rfl) hN (fun J3 x3 f3 => ?_)
        refine w_14_72 (z_ka76 hr8) (z_ka76_1 hr8) (z_ka76_2 hr8) hs ⟨by omega, ?_⟩
        have vv := (k_bs1_v (q := Q9) hr8).2.2.2
        obtain ⟨cb3, cb4⟩ := y_cb_bs1 cb1 ⟨hr.1, hr1⟩ (by omega)
        refine ih (k_bs1 Q9 r) (p + Q9 (3588 + 122 * r)) (k + 1) ng J3 x3 cb3 (by omega) (y_loc_bs1 hr8 lc1 (by omega)) (fun b hb9 => ?_) (by omega) (by omega) (by omega) (by omega) (by omega) ?_ ?_
        · rw [f3 b hb9, z_u_ne (by omega), z_u_ne (by omega), z_u_ne (by omega)]; exact f1 b hb9
        · rw [show mo - ob - (p + Q9 (3588 + 122 * r)) = mo - ob - p - Q9 (3588 + 122 * r) by omega]; omega
        · rw [show mo - ob - (p + Q9 (3588 + 122 * r)) = mo - ob - p - Q9 (3588 + 122 * r) by omega]; exact e2
      · rw [if_neg (by omega)] at e1 e2
        refine ⟨_, _, _, rfl, rfl, rfl, ?_, f1, ?_⟩
        · rw [← e2]; exact x1
        · rw [← e1]; omega
  have h6 := hl.2.2.1
  have h7 := hl.2.2.2.1
  have ln := h.line hr.1 hr.2
  refine w_14_0 (z_ka76 hr8) (z_ka76_1 hr8) (z_ka76_2 hr8) hs ?_
  rw [ln.2.1]
  exact loop (q (10 + 14 * r + 7)).toNat q 0 0 _ J h hc hr.2 hl x_fr.rf (by omega) (by omega) (by omega) (by omega) (by omega) (by rw [Int.sub_zero, Int.zero_add]; rfl) (by rw [Int.sub_zero]; rfl)
theorem e_board {r : Int} (hc : y_cb q) (h : x_day 36 q J) (hr : 0 ≤ r ∧ r < q 1) (hl : y_loc q r) (h60 : q (10 + 14 * r + 7) ≤ 60) : z_Sem l (d + 3) M_Day_board [.inr (.inr (.ref 36)), .inl r] (m_Ex g T, J, X) 0 0 (z_vq (m_Ex g T) (fun J' X' => X' = X ∧ x_day 36 (k_ride q r) J' ∧ x_fr J J')) := by
  have h8 := hc.1
  have hr8 : 0 ≤ r ∧ r < 8 := by omega
  have rd := h.ride hr.1 hr.2
  have d0 := h.hd.1
  have pl := y_planned_L (s := q 0) hl
  have cap := hl.2.1.1
  have h6 := hl.2.2.1
  have h7 := hl.2.2.2.1
  have b8 := hl.2.2.2.2.1
  have b9 := hl.2.2.2.2.2.1
  generalize epl : y_planned q r (q 0) = P at *
  -- first the merge line
  obtain ⟨a1, a2, a3, a4, a5, a6⟩ := y_bn0_f hr8 (q (10 + 14 * r + 6)).toNat q P hl (by omega) pl.1
  obtain ⟨ac, ac1⟩ := y_cb_bn0 (r := r) (q (10 + 14 * r + 6)).toNat q P hc hr (by omega)
  have e1 : y_e q r = y_bp0 q r P := by rw [y_e, epl]
  have e1' : y_bp0 q r P = y_bn0 r (q (10 + 14 * r + 6)).toNat q P := rfl
  generalize eQ1 : k_bq0 q r P = Q1
  have eQ1' : k_bn0 r (q (10 + 14 * r + 6)).toNat q P = Q1 := eQ1
  rw [eQ1'] at a1 a3 a4 a5 a6 ac ac1
  have z7 := a6 (10 + 14 * r + 7) (by omega) (by omega) (by omega) (by omega) (by omega)
  have z8 := a6 (10 + 14 * r + 8) (by omega) (by omega) (by omega) (by omega) (by omega)
  have z9 := a6 (10 + 14 * r + 9) (by omega) (by omega) (by omega) (by omega) (by omega)
  have q1c6 := a1.2.2.1
  have q1c7 := a1.2.2.2.1
  -- then the standby line
  generalize eR1 : q (10 + 14 * r + 0) - y_bp0 q r P = R1
  obtain ⟨s1, s2, s3, s4, s5, s6⟩ := y_bn1_f hr8 (Q1 (10 + 14 * r + 7)).toNat Q1 R1 a1 (by omega) (by omega)
  obtain ⟨sc, sc1⟩ := y_cb_bn1 (r := r) (Q1 (10 + 14 * r + 7)).toNat Q1 R1 ac ⟨hr.1, by omega⟩ (by omega)
  have e2' : y_bp1 Q1 r R1 = y_bn1 r (Q1 (10 + 14 * r + 7)).toNat Q1 R1 := rfl
  generalize eQ2 : k_bq1 Q1 r R1 = Q2
  have eQ2' : k_bn1 r (Q1 (10 + 14 * r + 7)).toNat Q1 R1 = Q2 := eQ2
  rw [eQ2'] at s1 s3 s4 s5 s6 sc sc1
  have y6 := s6 (10 + 14 * r + 6) (by omega) (by omega) (by omega) (by omega) (by omega)
  have y8 := s6 (10 + 14 * r + 8) (by omega) (by omega) (by omega) (by omega) (by omega)
  have y9 := s6 (10 + 14 * r + 9) (by omega) (by omega) (by omega) (by omega) (by omega)
  have q2c6 := s1.2.2.1
  have q2c7 := s1.2.2.2.1
  -- then what is left
  generalize eR2 : q (10 + 14 * r + 0) - (y_bp0 q r P + y_bp1 Q1 r R1) = R2
  obtain ⟨t1, t2, t3, t4, t5, t6⟩ := y_bn0_f hr8 (Q2 (10 + 14 * r + 6)).toNat Q2 R2 s1 (by omega) (by omega)
  obtain ⟨tc, tc1⟩ := y_cb_bn0 (r := r) (Q2 (10 + 14 * r + 6)).toNat Q2 R2 sc ⟨hr.1, by omega⟩ (by omega)
  have e3' : y_bp0 Q2 r R2 = y_bn0 r (Q2 (10 + 14 * r + 6)).toNat Q2 R2 := rfl
  generalize eQ3 : k_bq0 Q2 r R2 = Q3
  have eQ3' : k_bn0 r (Q2 (10 + 14 * r + 6)).toNat Q2 R2 = Q3 := eQ3
  rw [eQ3'] at t1 t3 t4 t5 t6 tc tc1
  have x8 := t6 (10 + 14 * r + 8) (by omega) (by omega) (by omega) (by omega) (by omega)
  have x9 := t6 (10 + 14 * r + 9) (by omega) (by omega) (by omega) (by omega) (by omega)
  have ek : k_ride q r = z_up (z_up Q3 (10 + 14 * r + 8) (q (10 + 14 * r + 8) + (y_bp0 q r P + y_bp0 Q2 r R2))) (10 + 14 * r + 9) (q (10 + 14 * r + 9) + y_bp1 Q1 r R1) := by
    have k1 : k_r1 q r = z_up Q1 (10 + 14 * r + 8) (q (10 + 14 * r + 8) + y_bp0 q r P) := by rw [k_r1, epl, k_bd0, eQ1]
    have w1 := k_bq1_u8 (q := Q1) hr8 (v := q (10 + 14 * r + 8) + y_bp0 q r P) (rm := R1) (by omega)
    have wk : y_wk q r = y_bp1 Q1 r R1 := by rw [y_wk, k1, e1, eR1, w1.2]
    have k2 : k_r2 q r = z_up (z_up Q2 (10 + 14 * r + 8) (q (10 + 14 * r + 8) + y_bp0 q r P)) (10 + 14 * r + 9) (q (10 + 14 * r + 9) + y_bp1 Q1 r R1) := by
      rw [k_r2, k_bd1, k1, e1, eR1, w1.1, w1.2, eQ2, z_up_ne (show 10 + 14 * r + 9 ≠ 10 + 14 * r + 8 by omega), z9]
    have w2 := k_bq0_u8 (q := Q2) hr8 (v := q (10 + 14 * r + 8) + y_bp0 q r P) (rm := R2) (by omega)
    have w3 := k_bq0_u9 (q := z_up Q2 (10 + 14 * r + 8) (q (10 + 14 * r + 8) + y_bp0 q r P)) hr8 (v := q (10 + 14 * r + 9) + y_bp1 Q1 r R1) (rm := R2) (by rw [z_up_ne (by omega)]; omega)
    rw [k_ride, k_bd0, k2, wk, e1, eR2, w3.1, w3.2, w2.1, w2.2, eQ3, z_up_ne (show 10 + 14 * r + 8 ≠ 10 + 14 * r + 9 by omega), z_up_eq rfl]
    funext j
    by_cases j8 : j = 10 + 14 * r + 8
    · rw [z_up_eq j8, z_up_ne (by omega), z_up_eq j8]; omega
    · rw [z_up_ne j8]
      by_cases j9 : j = 10 + 14 * r + 9
      · rw [z_up_eq j9, z_up_eq j9]
      · rw [z_up_ne j9, z_up_ne j9, z_up_ne j8, z_up_ne j8]
  refine z_sem_of z_m13 m_ok_13 (Nat.le_of_ble_eq_true rfl) (fun Wp hs hv hS => ?_)
  refine w_13_0 hs ?_
  rw [d0, rd.1]
  refine ⟨by omega, by omega, z_cI (e_plannedInL hc h hr hl) ?_⟩
  rw [epl]
  refine z_cIq (e_boardFrom0 hc h hr hl (by omega) ⟨Int.le_refl _, pl.1⟩ (by omega)) ?_
  rintro v1 J1 X1 ⟨rfl, i1, i2, rfl⟩
  rw [Int.sub_zero, eQ1] at i1
  rw [Int.sub_zero]
  refine ⟨by omega, z_cIq (e_boardFrom1 ac i1 ⟨hr.1, by omega⟩ a1 (by omega) (by omega) (by omega)) ?_⟩
  rintro v2 J2 X2 ⟨rfl, i3, i4, rfl⟩
  rw [eR1, eQ2] at i3
  rw [eR1]
  refine ⟨by omega, by omega, z_cIq (e_boardFrom0 sc i3 ⟨hr.1, by omega⟩ s1 (by omega) (by omega) (by omega)) ?_⟩
  rintro v3 J3 X3 ⟨rfl, i5, i6, rfl⟩
  rw [eR2, eQ3] at i5
  rw [eR2]
  have rd3 := i5.ride hr.1 (show r < Q3 1 by omega)
  rw [rd3.2.2.2.2.2.2.1, rd3.2.2.2.2.2.2.2.1, x8, y8, z8, x9, y9, z9]
  refine ⟨by omega, _, _, rfl, rfl, rfl, ?_, fun b hb9 => ?_⟩
  · rw [ek]
    refine x_rdu tc i5 ⟨hr.1, by omega⟩ (fun j a1 => by rw [z_up_ne (by omega), z_up_ne (by omega)]) (fun b b1 => by rw [z_u_ne (by omega), z_u_ne (by omega)]) (fun b i b1 b2 b3 => ?_) ⟨?_, ?_, ?_, ?_, ?_⟩
    · by_cases h45 : b = 45
      · rw [h45, z_u_off b3, z_u_ne (by omega)]
      · rw [z_u_ne h45]
        by_cases h44 : b = 44
        · rw [h44, z_u_off b3]
        · rw [z_u_ne h44]
    · rw [z_u_ne (by omega), z_u_at rfl, z_up_ne (by omega), z_up_eq rfl]
    · rw [z_u_at rfl, z_up_eq rfl]
    · rw [z_u_ne (by omega), z_u_ne (by omega), z_up_ne (by omega), z_up_ne (by omega)]; exact rd3.2.2.2.2.2.2.2.2.1
    · rw [z_u_ne (by omega), z_u_ne (by omega), z_up_ne (by omega), z_up_ne (by omega)]; exact rd3.2.2.2.2.2.2.2.2.2.1
    · rw [z_u_ne (by omega), z_u_ne (by omega), z_up_ne (by omega), z_up_ne (by omega)]; exact rd3.2.2.2.2.2.2.2.2.2.2
  · rw [z_u_ne (by omega), z_u_ne (by omega), i6 b hb9, i4 b hb9]; exact i2 b hb9
end Q17
