/-! a slot passes: rides board, windows are extended, tickets expire -/
def y_e (q : Int → Int) (r : Int) : Int := y_bp0 q r (y_planned q r (q 0))
def k_r1 (q : Int → Int) (r : Int) : Int → Int := k_bd0 q r (y_planned q r (q 0))
def y_wk (q : Int → Int) (r : Int) : Int := y_bp1 (k_r1 q r) r (q (10 + 14 * r + 0) - y_e q r)
def k_r2 (q : Int → Int) (r : Int) : Int → Int := k_bd1 (k_r1 q r) r (q (10 + 14 * r + 0) - y_e q r)
def k_ride (q : Int → Int) (r : Int) : Int → Int := k_bd0 (k_r2 q r) r (q (10 + 14 * r + 0) - (y_e q r + y_wk q r))
def k_rides : Nat → (Int → Int) → (Int → Int)
  | 0, q => q
  | n + 1, q => if ((k_rides n q) (10 + 14 * (n : Int) + 3) ≤ (k_rides n q) 0 ∧ (k_rides n q) 0 ≤ (k_rides n q) (10 + 14 * (n : Int) + 4)) ∧ (k_rides n q) (10 + 14 * (n : Int) + 5) = 0 then k_ride (k_rides n q) n else k_rides n q
def k_x0 (q : Int → Int) (t : Int) : Int → Int := if q (288 + 6 * t + 4) < q 4 then z_up (z_up q (288 + 6 * t + 3) (q (288 + 6 * t + 3) + 1)) (288 + 6 * t + 4) (q (288 + 6 * t + 4) + 1) else z_up q (288 + 6 * t + 5) 4
def k_x1 (q : Int → Int) (t : Int) : Int → Int := if q (288 + 6 * t + 5) = 0 ∧ q (10 + 14 * q (288 + 6 * t + 1) + 5) = 1 ∧ q (288 + 6 * t + 2) ≤ q 0 ∧ q 0 ≤ q (288 + 6 * t + 3) then k_x0 q t else q
def k_xs : Nat → (Int → Int) → (Int → Int)
  | 0, q => q
  | n + 1, q => k_x1 (k_xs n q) n
def k_e1 (q : Int → Int) (t : Int) : Int → Int := if q (288 + 6 * t + 5) = 0 ∧ q (288 + 6 * t + 3) = q 0 then z_up q (288 + 6 * t + 5) 2 else q
def k_es : Nat → (Int → Int) → (Int → Int)
  | 0, q => q
  | n + 1, q => k_e1 (k_es n q) n
def k_pass (q : Int → Int) : Int → Int := z_up (k_es (q 5).toNat (k_xs (q 5).toNat (k_rides (q 1).toNat q))) 0 (q 0 + 1)
def k_adv : Nat → (Int → Int) → (Int → Int)
  | 0, q => q
  | n + 1, q => k_adv n (k_pass q)
section P1
variable {q : Int → Int} {r : Int}
theorem y_planned_L {s : Int} (hl : y_loc q r) : 0 ≤ y_planned q r s ∧ y_planned q r s ≤ q (10 + 14 * r + 0) := by
  have hm := y_mul_b hl.2.1.1 hl.2.1.2.1
  have h1 := hl.2.1.1
  have h2 := hl.2.1.2.1
  have h3 := Int.mul_le_mul_of_nonneg_left h2.2 (show 0 ≤ q (10 + 14 * r + 0) by omega)
  unfold y_planned y_pw
  split <;> omega
theorem y_ride_f (hr : 0 ≤ r ∧ r < 8) (hl : y_loc q r) : y_loc (k_ride q r) r ∧ (k_ride q r (10 + 14 * r + 8) + k_ride q r (10 + 14 * r + 9) ≤ q (10 + 14 * r + 8) + q (10 + 14 * r + 9) + 200) ∧ (q (10 + 14 * r + 11) ≤ k_ride q r (10 + 14 * r + 11) ∧ k_ride q r (10 + 14 * r + 11) ≤ q (10 + 14 * r + 11) + 200) ∧ (k_ride q r (10 + 14 * r + 10) ≤ q (10 + 14 * r + 10) + 144 * (k_ride q r (10 + 14 * r + 11) - q (10 + 14 * r + 11))) ∧ (k_ride q r (10 + 14 * r + 6) ≤ q (10 + 14 * r + 6) ∧ k_ride q r (10 + 14 * r + 7) ≤ q (10 + 14 * r + 7)) ∧ (∀ j, (j < 10 + 14 * r + 6 ∨ 10 + 14 * r + 12 < j) → (j < 1188 + 300 * r ∨ 1188 + 300 * r + 300 ≤ j) → (j < 3588 + 122 * r ∨ 3588 + 122 * r + 122 ≤ j) → k_ride q r j = q j) := by
  have pl := y_planned_L (s := q 0) hl
  have cap := hl.2.1.1
  obtain ⟨a1, a2, a3, a4, a5, a6, a7⟩ := y_bd0_f hr hl pl.1
  have e1 : y_e q r = y_bp0 q r (y_planned q r (q 0)) := rfl
  obtain ⟨b1, b2, b3, b4, b5, b6, b7⟩ := y_bd1_f hr (q := k_r1 q r) (rm := q (10 + 14 * r + 0) - y_e q r) a1 (by omega)
  have e2 : y_wk q r = y_bp1 (k_r1 q r) r (q (10 + 14 * r + 0) - y_e q r) := rfl
  obtain ⟨c1, c2, c3, c4, c5, c6, c7⟩ := y_bd0_f hr (q := k_r2 q r) (rm := q (10 + 14 * r + 0) - (y_e q r + y_wk q r)) b1 (by omega)
  have d1 : k_r1 q r (10 + 14 * r + 9) = q (10 + 14 * r + 9) := a7 _ (by omega) (by omega) (by omega) (by omega) (by omega) (by omega)
  have d2 : k_r2 q r (10 + 14 * r + 8) = k_r1 q r (10 + 14 * r + 8) := b7 _ (by omega) (by omega) (by omega) (by omega) (by omega) (by omega)
  have d3 : k_ride q r (10 + 14 * r + 9) = k_r2 q r (10 + 14 * r + 9) := c7 _ (by omega) (by omega) (by omega) (by omega) (by omega) (by omega)
  have d4 : k_r1 q r (10 + 14 * r + 7) = q (10 + 14 * r + 7) := a7 _ (by omega) (by omega) (by omega) (by omega) (by omega) (by omega)
  have d5 : k_r2 q r (10 + 14 * r + 6) = k_r1 q r (10 + 14 * r + 6) := b7 _ (by omega) (by omega) (by omega) (by omega) (by omega) (by omega)
  have d6 : k_ride q r (10 + 14 * r + 7) = k_r2 q r (10 + 14 * r + 7) := c7 _ (by omega) (by omega) (by omega) (by omega) (by omega) (by omega)
  refine ⟨c1, ?_, ?_, ?_, ?_, fun j h1 h2 h3 => ?_⟩
  · rw [d3]
    unfold k_ride k_r2 k_r1 at *
    omega
  · unfold k_ride k_r2 k_r1 at *
    omega
  · unfold k_ride k_r2 k_r1 at *
    omega
  · unfold k_ride k_r2 k_r1 at *
    omega
  · have z1 : k_r1 q r j = q j := a7 j (by omega) (by omega) (by omega) (by omega) (by omega) (by omega)
    have z2 : k_r2 q r j = k_r1 q r j := b7 j (by omega) (by omega) (by omega) (by omega) (by omega) (by omega)
    have z3 : k_ride q r j = k_r2 q r j := c7 j (by omega) (by omega) (by omega) (by omega) (by omega) (by omega)
    rw [z3, z2, z1]
theorem y_base_board {q' : Int → Int} (hb : y_base q) (hr : 0 ≤ r ∧ r < q 1) (O : ∀ j, (j < 10 + 14 * r + 6 ∨ 10 + 14 * r + 12 < j) → (j < 1188 + 300 * r ∨ 1188 + 300 * r + 300 ≤ j) → (j < 3588 + 122 * r ∨ 3588 + 122 * r + 122 ≤ j) → q' j = q j) (hride : y_ride q' r) (hlines : y_lines q' r) (h6 : q' (10 + 14 * r + 6) ≤ q (10 + 14 * r + 6)) : y_base q' := by
  obtain ⟨hh, H1, H2, H3, H4⟩ := hb
  obtain ⟨h0, h1, h2, h3, h4, h5⟩ := hh
  have e0 := O 0 (by omega) (by omega) (by omega)
  have e1 := O 1 (by omega) (by omega) (by omega)
  have e2 := O 2 (by omega) (by omega) (by omega)
  have e3 := O 3 (by omega) (by omega) (by omega)
  have e4 := O 4 (by omega) (by omega) (by omega)
  have e5 := O 5 (by omega) (by omega) (by omega)
  have U : y_used q' (q 5).toNat = y_used q (q 5).toNat := by
    unfold y_used
    refine y_sum_congr (fun k hk => ?_)
    rw [O _ (by omega) (by omega) (by omega)]
  have A : ∀ i', y_act q' i' (q 5).toNat = y_act q i' (q 5).toNat := by
    intro i'
    unfold y_act
    refine y_sum_congr (fun k hk => ?_)
    rw [O _ (by omega) (by omega) (by omega), O _ (by omega) (by omega) (by omega)]
  refine ⟨?_, fun r' a1 a2 => ?_, fun t' a1 a2 => ?_, fun i' a1 a2 => ?_, fun t' a1 a2 => ?_⟩
  · unfold y_heads
    rw [e0, e1, e2, e3, e4, e5]
    omega
  · rw [e1] at a2
    obtain ⟨c1, c2, c3, c4⟩ := H1 r' a1 a2
    have w3 : y_wait q' r' := y_wait_c (by omega) (O _ (by omega) (by omega) (by omega)) c1 (fun j b1 b2 => O _ (by omega) (by omega) (by omega)) c3
    rw [e5, U]
    by_cases hrr : r' = r
    · subst hrr
      exact ⟨hride, hlines, w3, by omega⟩
    · refine ⟨y_ride_c e0 (fun w b1 b2 => O _ (by omega) (by omega) (by omega)) c1, y_lines_c e0 (O _ (by omega) (by omega) (by omega)) (O _ (by omega) (by omega) (by omega)) c1 (fun j b1 b2 => O _ (by omega) (by omega) (by omega)) (fun j b1 b2 => O _ (by omega) (by omega) (by omega)) c2, w3, ?_⟩
      rw [O _ (by omega) (by omega) (by omega)]
      exact c4
  · rw [e2] at a2
    exact y_tier_c (fun w b1 b2 => O _ (by omega) (by omega) (by omega)) (H2 t' a1 a2)
  · rw [e3] at a2
    obtain ⟨c1, c2⟩ := H3 i' a1 a2
    refine ⟨y_party_c e2 (fun w b1 b2 => O _ (by omega) (by omega) (by omega)) c1, ?_⟩
    rw [e5]
    have := A i'
    omega
  · rw [e5] at a2
    exact y_tk_c (by omega) e1 ⟨h0, h1, h2, h3, h4, h5⟩ (fun w b1 b2 => O _ (by omega) (by omega) (by omega)) (fun r' b1 b2 => ⟨O _ (by omega) (by omega) (by omega), O _ (by omega) (by omega) (by omega)⟩) (H4 t' a1 a2)
/-- a ticket's window is longer by one -/
theorem y_base_longer {t : Int} (hb : y_base q) (ht : 0 ≤ t ∧ t < q 5) (h48 : q (288 + 6 * t + 4) < 48) : y_base (z_up (z_up q (288 + 6 * t + 3) (q (288 + 6 * t + 3) + 1)) (288 + 6 * t + 4) (q (288 + 6 * t + 4) + 1)) := by
  obtain ⟨hh, H1, H2, H3, H4⟩ := hb
  obtain ⟨h0, h1, h2, h3, h4, h5⟩ := hh
  generalize eq' : z_up (z_up q (288 + 6 * t + 3) (q (288 + 6 * t + 3) + 1)) (288 + 6 * t + 4) (q (288 + 6 * t + 4) + 1) = q'
  have O : ∀ j, j ≠ 288 + 6 * t + 3 → j ≠ 288 + 6 * t + 4 → q' j = q j := fun j hj hk => by rw [← eq', z_up_ne hk, z_up_ne hj]
  have v3 : q' (288 + 6 * t + 3) = q (288 + 6 * t + 3) + 1 := by rw [← eq', z_up_ne (by omega), z_up_eq rfl]
  have v4 : q' (288 + 6 * t + 4) = q (288 + 6 * t + 4) + 1 := by rw [← eq', z_up_eq rfl]
  have e0 := O 0 (by omega) (by omega)
  have e1 := O 1 (by omega) (by omega)
  have e2 := O 2 (by omega) (by omega)
  have e3 := O 3 (by omega) (by omega)
  have e4 := O 4 (by omega) (by omega)
  have e5 := O 5 (by omega) (by omega)
  have U : y_used q' (q 5).toNat = y_used q (q 5).toNat := by
    unfold y_used
    refine y_sum_congr (fun k hk => ?_)
    rw [O _ (by omega) (by omega)]
  have A : ∀ i', y_act q' i' (q 5).toNat = y_act q i' (q 5).toNat := by
    intro i'
    unfold y_act
    refine y_sum_congr (fun k hk => ?_)
    rw [O _ (by omega) (by omega), O _ (by omega) (by omega)]
  refine ⟨?_, fun r' a1 a2 => ?_, fun t' a1 a2 => ?_, fun i' a1 a2 => ?_, fun t' a1 a2 => ?_⟩
  · unfold y_heads
    rw [e0, e1, e2, e3, e4, e5]
    omega
  · rw [e1] at a2
    obtain ⟨c1, c2, c3, c4⟩ := H1 r' a1 a2
    refine ⟨y_ride_c e0 (fun w b1 b2 => O _ (by omega) (by omega)) c1, y_lines_c e0 (O _ (by omega) (by omega)) (O _ (by omega) (by omega)) c1 (fun j b1 b2 => O _ (by omega) (by omega)) (fun j b1 b2 => O _ (by omega) (by omega)) c2, y_wait_c (by omega) (O _ (by omega) (by omega)) c1 (fun j b1 b2 => O _ (by omega) (by omega)) c3, ?_⟩
    rw [e5, O _ (by omega) (by omega), U]
    exact c4
  · rw [e2] at a2
    exact y_tier_c (fun w b1 b2 => O _ (by omega) (by omega)) (H2 t' a1 a2)
  · rw [e3] at a2
    obtain ⟨c1, c2⟩ := H3 i' a1 a2
    refine ⟨y_party_c e2 (fun w b1 b2 => O _ (by omega) (by omega)) c1, ?_⟩
    rw [e5]
    have := A i'
    omega
  · rw [e5] at a2
    by_cases htt : t' = t
    · subst htt
      have hk := H4 t' a1 a2
      unfold y_tk at *
      rw [v3, v4, O (288 + 6 * t' + 0) (by omega) (by omega), O (288 + 6 * t' + 1) (by omega) (by omega), O (288 + 6 * t' + 2) (by omega) (by omega), O (288 + 6 * t' + 5) (by omega) (by omega), e1, e3, O (10 + 14 * q (288 + 6 * t' + 1) + 3) (by omega) (by omega), O (10 + 14 * q (288 + 6 * t' + 1) + 4) (by omega) (by omega)]
      omega
    · exact y_tk_c (by omega) e1 ⟨h0, h1, h2, h3, h4, h5⟩ (fun w b1 b2 => O _ (by omega) (by omega)) (fun r' b1 b2 => ⟨O _ (by omega) (by omega), O _ (by omega) (by omega)⟩) (H4 t' a1 a2)
/-- the clock's place alone is later -/
theorem y_base_later (hb : y_base q) (h : q 0 < 144) : y_base (z_up q 0 (q 0 + 1)) := by
  obtain ⟨hh, H1, H2, H3, H4⟩ := hb
  obtain ⟨h0, h1, h2, h3, h4, h5⟩ := hh
  generalize eq' : z_up q 0 (q 0 + 1) = q'
  have O : ∀ j, j ≠ 0 → q' j = q j := fun j hj => by rw [← eq', z_up_ne hj]
  have e0 : q' 0 = q 0 + 1 := by rw [← eq', z_up_eq rfl]
  have e1 := O 1 (by omega)
  have e2 := O 2 (by omega)
  have e3 := O 3 (by omega)
  have e4 := O 4 (by omega)
  have e5 := O 5 (by omega)
  have U : y_used q' (q 5).toNat = y_used q (q 5).toNat := by
    unfold y_used
    refine y_sum_congr (fun k hk => ?_)
    rw [O _ (by omega)]
  have A : ∀ i', y_act q' i' (q 5).toNat = y_act q i' (q 5).toNat := by
    intro i'
    unfold y_act
    refine y_sum_congr (fun k hk => ?_)
    rw [O _ (by omega), O _ (by omega)]
  refine ⟨?_, fun r' a1 a2 => ?_, fun t' a1 a2 => ?_, fun i' a1 a2 => ?_, fun t' a1 a2 => ?_⟩
  · unfold y_heads
    rw [e0, e1, e2, e3, e4, e5]
    omega
  · rw [e1] at a2
    obtain ⟨c1, c2, c3, c4⟩ := H1 r' a1 a2
    refine ⟨?_, ⟨fun k b1 b2 => ?_, fun k b1 b2 => ?_⟩, y_wait_c (by omega) (O _ (by omega)) c1 (fun j b1 b2 => O _ (by omega)) c3, ?_⟩
    · unfold y_ride at *
      rw [e0, O (10 + 14 * r' + 0) (by omega), O (10 + 14 * r' + 1) (by omega), O (10 + 14 * r' + 2) (by omega), O (10 + 14 * r' + 3) (by omega), O (10 + 14 * r' + 4) (by omega), O (10 + 14 * r' + 5) (by omega), O (10 + 14 * r' + 6) (by omega), O (10 + 14 * r' + 7) (by omega), O (10 + 14 * r' + 8) (by omega), O (10 + 14 * r' + 9) (by omega), O (10 + 14 * r' + 10) (by omega), O (10 + 14 * r' + 11) (by omega), O (10 + 14 * r' + 12) (by omega), O (10 + 14 * r' + 13) (by omega)]
      omega
    · rw [O _ (by omega)] at b2
      rw [O _ (by omega), O _ (by omega), e0]
      have := c2.1 k b1 b2
      omega
    · rw [O _ (by omega)] at b2
      rw [O _ (by omega), O _ (by omega), e0]
      have := c2.2 k b1 b2
      omega
    · rw [e5, O _ (by omega), U]
      exact c4
  · rw [e2] at a2
    exact y_tier_c (fun w b1 b2 => O _ (by omega)) (H2 t' a1 a2)
  · rw [e3] at a2
    obtain ⟨c1, c2⟩ := H3 i' a1 a2
    refine ⟨y_party_c e2 (fun w b1 b2 => O _ (by omega)) c1, ?_⟩
    rw [e5]
    have := A i'
    omega
  · rw [e5] at a2
    exact y_tk_c (by omega) e1 ⟨h0, h1, h2, h3, h4, h5⟩ (fun w b1 b2 => O _ (by omega)) (fun r' b1 b2 => ⟨O _ (by omega), O _ (by omega)⟩) (H4 t' a1 a2)
theorem y_loc_of (h0 : 0 ≤ q 0 ∧ q 0 ≤ 144) (h1 : y_ride q r) (h2 : y_lines q r) : y_loc q r := by
  obtain ⟨r0, r1, r2, r3, r5, r6, r7, r8, r10, r11, r12, r13⟩ := h1
  exact ⟨h0, ⟨r0, r1, by omega⟩, r6, by omega, by omega, by omega, by omega, by omega, r12, h2⟩
/-- what holds while the rides board, those before k have -/
def y_mid (q : Int → Int) (k : Int) : Prop := (0 ≤ q 0 ∧ q 0 ≤ 143) ∧ y_base (z_up q 0 (q 0 + 1)) ∧ (∀ r, 0 ≤ r → r < q 1 → y_lines q r) ∧ (∀ r, k ≤ r → r < q 1 → y_ride q r)
theorem y_mid_0 (hb : y_base q) (h : q 0 < 144) : y_mid q 0 := ⟨by have := hb.1.1; omega, y_base_later hb h, fun r a b => (hb.2.1 r a b).2.1, fun r a b => (hb.2.1 r a b).1⟩
theorem y_mid_s {k : Int} (h : y_mid q k) : y_mid q (k + 1) := ⟨h.1, h.2.1, h.2.2.1, fun r a b => h.2.2.2 r (by omega) b⟩
theorem y_mid.hd {k : Int} (h : y_mid q k) : (0 ≤ q 1 ∧ q 1 ≤ 8) ∧ (0 ≤ q 4 ∧ q 4 ≤ 48) ∧ (0 ≤ q 5 ∧ q 5 ≤ 150) := by
  obtain ⟨b0, b1, b2, b3, b4, b5⟩ := h.2.1.1
  rw [z_up_ne (by omega)] at b1 b4 b5
  exact ⟨b1, b4, b5⟩
theorem y_mid_r {k : Int} (h : y_mid q k) (hk : 0 ≤ k ∧ k < q 1) : y_loc q k ∧ y_mid (k_ride q k) (k + 1) ∧ (∀ j, 0 ≤ j → j ≤ 5 → k_ride q k j = q j) := by
  have hd := h.hd
  obtain ⟨h0, hb, hl, hr⟩ := h
  have rk := hr k (by omega) hk.2
  have lc : y_loc q k := y_loc_of (by omega) rk (hl k hk.1 hk.2)
  obtain ⟨f1, f2, f3, f4, f5, O⟩ := y_ride_f (by omega) lc
  have e0 := O 0 (by omega) (by omega) (by omega)
  have e1 := O 1 (by omega) (by omega) (by omega)
  have up1 : z_up q 0 (q 0 + 1) 1 = q 1 := z_up_ne (by omega)
  refine ⟨lc, ⟨by rw [e0]; exact h0, ?_, fun r a b => ?_, fun r a b => ?_⟩, fun j a b => O j (by omega) (by omega) (by omega)⟩
  · rw [e0]
    have N : ∀ (f : Int → Int) (w : Int), 0 ≤ w → z_up f 0 (q 0 + 1) (10 + 14 * k + w) = f (10 + 14 * k + w) := fun f w hw => z_up_ne (by omega)
    refine y_base_board (r := k) hb (by rw [up1]; exact hk) (fun j a1 a2 a3 => ?_) ?_ ?_ ?_
    · by_cases hj : j = 0
      · rw [z_up_eq hj, z_up_eq hj]
      · rw [z_up_ne hj, z_up_ne hj, O j a1 a2 a3]
    · have rk2 := f1
      unfold y_loc at rk2
      unfold y_ride at *
      simp only [N _ 0 (by omega), N _ 1 (by omega), N _ 2 (by omega), N _ 3 (by omega), N _ 4 (by omega), N _ 5 (by omega), N _ 6 (by omega), N _ 7 (by omega), N _ 8 (by omega), N _ 9 (by omega), N _ 10 (by omega), N _ 11 (by omega), N _ 12 (by omega), N _ 13 (by omega), z_up_eq (rfl : (0 : Int) = 0)]
      rw [O (10 + 14 * k + 0) (by omega) (by omega) (by omega), O (10 + 14 * k + 1) (by omega) (by omega) (by omega), O (10 + 14 * k + 2) (by omega) (by omega) (by omega), O (10 + 14 * k + 3) (by omega) (by omega) (by omega), O (10 + 14 * k + 4) (by omega) (by omega) (by omega), O (10 + 14 * k + 5) (by omega) (by omega) (by omega), O (10 + 14 * k + 13) (by omega) (by omega) (by omega)] at *
      omega
    · have ln := f1.2.2.2.2.2.2.2.2.2
      refine ⟨fun i a1 a2 => ?_, fun i a1 a2 => ?_⟩
      · rw [N _ 6 (by omega)] at a2
        rw [z_up_ne (by omega), z_up_ne (by omega), z_up_eq rfl]
        have := ln.1 i a1 a2
        omega
      · rw [N _ 7 (by omega)] at a2
        rw [z_up_ne (by omega), z_up_ne (by omega), z_up_eq rfl]
        have := ln.2 i a1 a2
        omega
    · rw [N _ 6 (by omega), N _ 6 (by omega)]; omega
  · rw [e1] at b
    by_cases hrk : r = k
    · subst hrk; exact f1.2.2.2.2.2.2.2.2.2
    · have g := (hb.2.1 r a (by rw [up1]; exact b)).1
      have c1 : y_ride (fun j => if j = 0 then q 0 + 1 else q j) r := g
      have g6 := g.2.2.2.2.2.1
      have g7 := g.2.2.2.2.2.2.1
      rw [z_up_ne (by omega)] at g6 g7
      refine ⟨fun i a1 a2 => ?_, fun i a1 a2 => ?_⟩
      · rw [O _ (by omega) (by omega) (by omega)] at a2
        rw [O _ (by omega) (by omega) (by omega), O _ (by omega) (by omega) (by omega), e0]
        exact (hl r a b).1 i a1 a2
      · rw [O _ (by omega) (by omega) (by omega)] at a2
        rw [O _ (by omega) (by omega) (by omega), O _ (by omega) (by omega) (by omega), e0]
        exact (hl r a b).2 i a1 a2
  · rw [e1] at b
    exact y_ride_c e0 (fun w b1 b2 => O _ (by omega) (by omega) (by omega)) (hr r (by omega) b)
theorem y_rides_f (hb : y_base q) (h : q 0 < 144) : ∀ n : Nat, (n : Int) ≤ q 1 → y_mid (k_rides n q) n ∧ (∀ j, 0 ≤ j → j ≤ 5 → k_rides n q j = q j)
  | 0, _ => ⟨y_mid_0 hb h, fun _ _ _ => rfl⟩
  | n + 1, hn => by
    obtain ⟨i1, i2⟩ := y_rides_f hb h n (by omega)
    have e1 := i2 1 (by omega) (by omega)
    rw [k_rides]
    split
    · obtain ⟨-, j1, j2⟩ := y_mid_r i1 (k := n) (by omega)
      exact ⟨j1, fun j a b => (j2 j a b).trans (i2 j a b)⟩
    · exact ⟨y_mid_s i1, i2⟩
theorem z_up_up0 {k x v : Int} (h : k ≠ 0) : z_up (z_up q k x) 0 v = z_up (z_up q 0 v) k x := by
  funext j
  by_cases h0 : j = 0
  · subst h0; rw [z_up_eq rfl, z_up_ne (by omega), z_up_eq rfl]
  · by_cases hk : j = k
    · subst hk; rw [z_up_ne h0, z_up_eq rfl, z_up_eq rfl]
    · rw [z_up_ne h0, z_up_ne hk, z_up_ne hk, z_up_ne h0]
theorem y_x1_f {t : Int} (hb : y_base (z_up q 0 (q 0 + 1))) (ht : 0 ≤ t ∧ t < q 5) : y_base (z_up (k_x1 q t) 0 (q 0 + 1)) ∧ (∀ j, 0 ≤ j → j ≤ 5 → k_x1 q t j = q j) := by
  have e5 : z_up q 0 (q 0 + 1) 5 = q 5 := z_up_ne (by omega)
  have e4 : z_up q 0 (q 0 + 1) 4 = q 4 := z_up_ne (by omega)
  have b4 := hb.1.2.2.2.2.1
  have s5 : z_up q 0 (q 0 + 1) (288 + 6 * t + 5) = q (288 + 6 * t + 5) := z_up_ne (by omega)
  have s4 : z_up q 0 (q 0 + 1) (288 + 6 * t + 4) = q (288 + 6 * t + 4) := z_up_ne (by omega)
  have s3 : z_up q 0 (q 0 + 1) (288 + 6 * t + 3) = q (288 + 6 * t + 3) := z_up_ne (by omega)
  unfold k_x1 k_x0
  split
  · rename_i hc
    split
    · rename_i h4
      refine ⟨?_, fun j a b => by rw [z_up_ne (by omega), z_up_ne (by omega)]⟩
      have := y_base_longer hb (t := t) (by omega) (by omega)
      rw [s3, s4] at this
      rw [z_up_up0 (by omega), z_up_up0 (by omega)]
      exact this
    · refine ⟨?_, fun j a b => by rw [z_up_ne (by omega)]⟩
      rw [z_up_up0 (by omega)]
      exact y_base_state hb (by omega) (by omega) (by omega) (by omega)
  · exact ⟨hb, fun _ _ _ => rfl⟩
theorem y_e1_f {t : Int} (hb : y_base (z_up q 0 (q 0 + 1))) (ht : 0 ≤ t ∧ t < q 5) : y_base (z_up (k_e1 q t) 0 (q 0 + 1)) ∧ (∀ j, 0 ≤ j → j ≤ 5 → k_e1 q t j = q j) := by
  have e5 : z_up q 0 (q 0 + 1) 5 = q 5 := z_up_ne (by omega)
  have s5 : z_up q 0 (q 0 + 1) (288 + 6 * t + 5) = q (288 + 6 * t + 5) := z_up_ne (by omega)
  unfold k_e1
  split
  · refine ⟨?_, fun j a b => by rw [z_up_ne (by omega)]⟩
    rw [z_up_up0 (by omega)]
    exact y_base_state hb (by omega) (by omega) (by omega) (by omega)
  · exact ⟨hb, fun _ _ _ => rfl⟩
theorem y_xs_f (hb : y_base (z_up q 0 (q 0 + 1))) : ∀ n : Nat, (n : Int) ≤ q 5 → y_base (z_up (k_xs n q) 0 (q 0 + 1)) ∧ (∀ j, 0 ≤ j → j ≤ 5 → k_xs n q j = q j)
  | 0, _ => ⟨hb, fun _ _ _ => rfl⟩
  | n + 1, hn => by
    obtain ⟨i1, i2⟩ := y_xs_f hb n (by omega)
    have e0 := i2 0 (by omega) (by omega)
    have e5 := i2 5 (by omega) (by omega)
    obtain ⟨j1, j2⟩ := y_x1_f (q := k_xs n q) (t := n) (by rw [e0]; exact i1) (by omega)
    rw [e0] at j1
    exact ⟨j1, fun j a b => (j2 j a b).trans (i2 j a b)⟩
theorem y_es_f (hb : y_base (z_up q 0 (q 0 + 1))) : ∀ n : Nat, (n : Int) ≤ q 5 → y_base (z_up (k_es n q) 0 (q 0 + 1)) ∧ (∀ j, 0 ≤ j → j ≤ 5 → k_es n q j = q j)
  | 0, _ => ⟨hb, fun _ _ _ => rfl⟩
  | n + 1, hn => by
    obtain ⟨i1, i2⟩ := y_es_f hb n (by omega)
    have e0 := i2 0 (by omega) (by omega)
    have e5 := i2 5 (by omega) (by omega)
    obtain ⟨j1, j2⟩ := y_e1_f (q := k_es n q) (t := n) (by rw [e0]; exact i1) (by omega)
    rw [e0] at j1
    exact ⟨j1, fun j a b => (j2 j a b).trans (i2 j a b)⟩
theorem y_base_pass (hb : y_base q) (h : q 0 < 144) : y_base (k_pass q) ∧ k_pass q 0 = q 0 + 1 ∧ (∀ j, 1 ≤ j → j ≤ 5 → k_pass q j = q j) := by
  have b1 := hb.1.2.1
  have b5 := hb.1.2.2.2.2.2
  obtain ⟨i1, i2⟩ := y_rides_f hb h (q 1).toNat (by omega)
  have e0 := i2 0 (by omega) (by omega)
  have e5 := i2 5 (by omega) (by omega)
  obtain ⟨j1, j2⟩ := y_xs_f i1.2.1 (q 5).toNat (by omega)
  have f0 := j2 0 (by omega) (by omega)
  have f5 := j2 5 (by omega) (by omega)
  obtain ⟨l1, l2⟩ := y_es_f (q := k_xs (q 5).toNat (k_rides (q 1).toNat q)) (by rw [f0]; exact j1) (q 5).toNat (by omega)
  rw [f0, e0] at l1
  refine ⟨l1, z_up_eq rfl, fun j a b => ?_⟩
  unfold k_pass
  rw [z_up_ne (by omega), l2 j (by omega) b, j2 j (by omega) b, i2 j (by omega) b]
theorem y_base_adv : ∀ (n : Nat) (q : Int → Int), y_base q → q 0 + n ≤ 144 → y_base (k_adv n q) ∧ k_adv n q 0 = q 0 + n ∧ (∀ j, 1 ≤ j → j ≤ 5 → k_adv n q j = q j)
  | 0, q, hb, h => ⟨hb, by show q 0 = q 0 + 0; omega, fun _ _ _ => rfl⟩
  | n + 1, q, hb, h => by
    obtain ⟨i1, i2, i3⟩ := y_base_pass hb (by omega)
    obtain ⟨j1, j2, j3⟩ := y_base_adv n (k_pass q) i1 (by omega)
    exact ⟨j1, by rw [k_adv, j2, i2]; omega, fun j a b => (j3 j a b).trans (i3 j a b)⟩
end P1
def o_advance (q : Int → Int) (n : Int) : Int × Int := y_need ((1 ≤ n ∧ n ≤ 144) ∧ q 0 + n ≤ 144) 1 (0, q 0 + n)
def k_advance (q : Int → Int) (n : Int) : Int → Int := if (1 ≤ n ∧ n ≤ 144) ∧ q 0 + n ≤ 144 then k_adv n.toNat q else q
section R17
variable {l : Launch} {d : Nat} {g : List (Option Nat)} {T : m_E} {J : z_J} {X : z_X}
theorem c_plannedInL {r s : Int} (hr : 0 ≤ r ∧ r < 8) (hl : y_loc (J 149) r) : z_Sem l (d + 3) M_R_plannedIn [.inr (.inr (.ref 148)), .inl r, .inl s] (m_Ex g T, J, X) 0 0 (z_ret (.inl (y_planned (J 149) r s)) (m_Ex g T, J, X)) := by
  have hm := y_mul_b hl.2.1.1 hl.2.1.2.1
  obtain ⟨r0, r1, r3⟩ := hl.2.1
  refine z_sem_of z_m210 m_ok_210 (Nat.le_of_ble_eq_true rfl) (fun Wp hs hv hS => ?_)
  refine w_210_0 hs ?_
  refine ⟨by omega, fun c => ⟨?_, rfl⟩, fun c => ⟨fun c2 => ⟨?_, rfl⟩, fun c2 => ⟨by omega, ?_, rfl⟩⟩⟩
  all_goals
    unfold y_planned y_pw
    split <;> (first | rfl | omega)
theorem c_boardRide {f : Int → Int} {r : Int} (hr : 0 ≤ r ∧ r < 8) (hl : y_loc f r) : z_Sem l (d + 4) M_R_boardRide [.inr (.inr (.ref 148)), .inl r] (m_Ex g T, z_row J 149 f, X) 0 0 (z_vd (m_Ex g T, z_row J 149 (k_ride f r), X)) := by
  have pl := y_planned_L (s := f 0) hl
  have cap := hl.2.1.1
  have a := y_bd0_f hr hl pl.1
  have e1 : y_e f r = y_bp0 f r (y_planned f r (f 0)) := rfl
  have b := y_bd1_f hr (q := k_r1 f r) (rm := f (10 + 14 * r + 0) - y_e f r) a.1 (by omega)
  have e2 : y_wk f r = y_bp1 (k_r1 f r) r (f (10 + 14 * r + 0) - y_e f r) := rfl
  have c1 := c_board0 (l := l) (d := d + 1) (g := g) (T := T) (J := z_row J 149 f) (X := X) (p0 := 0) (mo := y_planned f r (f 0)) hr hl (by omega) (by omega)
  rw [Int.zero_add, Int.sub_zero, z_row_row] at c1
  have c2 := c_board1 (l := l) (d := d + 1) (g := g) (T := T) (J := z_row J 149 (k_r1 f r)) (X := X) (p0 := y_e f r) (mo := f (10 + 14 * r + 0)) hr a.1 (by omega) (by omega)
  rw [z_row_row] at c2
  have c3 := c_board0 (l := l) (d := d + 1) (g := g) (T := T) (J := z_row J 149 (k_r2 f r)) (X := X) (p0 := y_e f r + y_wk f r) (mo := f (10 + 14 * r + 0)) hr b.1 (by omega) (by omega)
  rw [z_row_row] at c3
  have d1 : k_r1 f r (10 + 14 * r + 0) = f (10 + 14 * r + 0) := a.2.2.2.2.2.2 _ (by omega) (by omega) (by omega) (by omega) (by omega) (by omega)
  have d2 : k_r2 f r (10 + 14 * r + 0) = k_r1 f r (10 + 14 * r + 0) := b.2.2.2.2.2.2 _ (by omega) (by omega) (by omega) (by omega) (by omega) (by omega)
  refine z_sem_of z_m288 m_ok_288 (Nat.le_of_ble_eq_true rfl) (fun Wp hs hv hS => ?_)
  refine w_288_0 hs ?_
  refine z_cI (c_plannedInL (J := z_row J 149 f) hr hl) (z_cI c1 ⟨by omega, ?_⟩)
  show z_CallI l (d + 3) M_R_board [.inr (.inr (.ref 148)), .inl r, .inl 1, .inl (y_e f r), .inl (k_r1 f r (10 + 14 * r + 0))] _ _ _ _ _ _ _
  rw [d1]
  refine z_cI c2 ⟨by omega, ?_⟩
  show z_CallI l (d + 3) M_R_board [.inr (.inr (.ref 148)), .inl r, .inl 0, .inl (y_e f r + y_wk f r), .inl (k_r2 f r (10 + 14 * r + 0))] _ _ _ _ _ _ _
  rw [d2, d1]
  exact z_cI c3 ⟨rfl, rfl⟩
theorem c_extend {f : Int → Int} {t : Int} (ht : 0 ≤ t ∧ t < 150) (h3 : -10 ≤ f (288 + 6 * t + 3) ∧ f (288 + 6 * t + 3) ≤ 1000) (h4 : 0 ≤ f (288 + 6 * t + 4) ∧ f (288 + 6 * t + 4) ≤ 48) : z_Sem l (d + 2) M_R_extend [.inr (.inr (.ref 148)), .inl t] (m_Ex g T, z_row J 149 f, X) 0 0 (z_vd (m_Ex g T, z_row J 149 (k_x0 f t), X)) := by
  refine z_sem_of z_m292 m_ok_292 (Nat.le_of_ble_eq_true rfl) (fun Wp hs hv hS => ?_)
  refine w_292_0 hs ?_
  simp only [z_row_eq, z_u_zrow]
  simp (disch := omega) only [z_up_ne]
  refine ⟨by omega, fun c => ⟨by omega, ?_⟩, fun c => ⟨by omega, ?_⟩⟩
  · rw [k_x0, if_neg (by omega)]; exact ⟨rfl, rfl⟩
  · rw [k_x0, if_pos c]; exact ⟨rfl, rfl⟩
theorem c_passSlot {q : Int → Int} (hb : y_base q) (h : q 0 < 144) : z_Sem l (d + 5) M_R_passSlot [.inr (.inr (.ref 148))] (m_Ex g T, z_row J 149 q, X) 0 0 (z_vd (m_Ex g T, z_row J 149 (k_pass q), X)) := by
  obtain ⟨b0, b1, b2, b3, b4, b5⟩ := hb.1
  obtain ⟨m1, m2⟩ := y_rides_f hb h (q 1).toNat (by omega)
  have m0 := m2 0 (by omega) (by omega)
  have m5 := m2 5 (by omega) (by omega)
  have X2 := y_xs_f m1.2.1
  rw [m0, m5] at X2
  have F := X2 (q 5).toNat (by omega)
  have f0 := F.2 0 (by omega) (by omega)
  have f5 := F.2 5 (by omega) (by omega)
  have Y2 := y_es_f (q := k_xs (q 5).toNat (k_rides (q 1).toNat q)) (by rw [f0, m0]; exact F.1)
  rw [f0, m0, f5, m5] at Y2
  refine z_sem_of z_m291 m_ok_291 (Nat.le_of_ble_eq_true rfl) (fun Wp hs hv hS => ?_)
  have loop3 : ∀ (n k : Nat), (k : Int) + n = q 5 → Wp 88 [some (.inr (.inr (.ref 148))), some (.inl k)] [] (m_Ex g T, z_row J 149 (k_es k (k_xs (q 5).toNat (k_rides (q 1).toNat q))), X) 0 0 := by
    intro n
    induction n with
    | zero =>
      intro k hk
      obtain ⟨i1, i2⟩ := Y2 k (by omega)
      have e0 : k_es k (k_xs (q 5).toNat (k_rides (q 1).toNat q)) 0 = q 0 := by rw [i2 0 (by omega) (by omega), f0, m0]
      have e5 : k_es k (k_xs (q 5).toNat (k_rides (q 1).toNat q)) 5 = q 5 := by rw [i2 5 (by omega) (by omega), f5, m5]
      refine w_291_88 hs ?_
      simp only [z_row_eq, z_u_zrow, e0, e5]
      refine ⟨fun c => ⟨by omega, rfl, ?_⟩, fun c => by omega⟩
      rw [k_pass, show (q 5).toNat = k by omega]
    | succ n ih =>
      intro k hk
      obtain ⟨i1, i2⟩ := Y2 k (by omega)
      have nx := ih (k + 1) (by omega)
      rw [k_es, k_e1] at nx
      have e0 : k_es k (k_xs (q 5).toNat (k_rides (q 1).toNat q)) 0 = q 0 := by rw [i2 0 (by omega) (by omega), f0, m0]
      have e5 : k_es k (k_xs (q 5).toNat (k_rides (q 1).toNat q)) 5 = q 5 := by rw [i2 5 (by omega) (by omega), f5, m5]
      generalize k_es k (k_xs (q 5).toNat (k_rides (q 1).toNat q)) = f at *
      refine w_291_88 hs ?_
      simp only [z_row_eq, z_u_zrow, e5]
      refine ⟨fun c => by omega, fun c => ⟨by omega, fun c1 => ⟨by omega, ?_⟩, fun c1 => ⟨by omega, fun c2 => ⟨by omega, ?_⟩, fun c2 => ⟨by omega, ?_⟩⟩⟩⟩
      · rw [if_neg (fun z => c1 z.1)] at nx; exact nx
      · rw [if_neg (fun z => c2 z.2)] at nx; exact nx
      · rw [if_pos ⟨c1, c2⟩] at nx; exact nx
  have loop2 : ∀ (n k : Nat), (k : Int) + n = q 5 → Wp 33 [some (.inr (.inr (.ref 148))), some (.inl k)] [] (m_Ex g T, z_row J 149 (k_xs k (k_rides (q 1).toNat q)), X) 0 0 := by
    intro n
    induction n with
    | zero =>
      intro k hk
      obtain ⟨i1, i2⟩ := X2 k (by omega)
      have e5 := (i2 5 (by omega) (by omega)).trans m5
      refine w_291_33 hs ?_
      simp only [z_row_eq, e5]
      refine ⟨fun c => ?_, fun c => by omega⟩
      have := loop3 (q 5).toNat 0 (by omega)
      rw [k_es] at this
      rw [show k = (q 5).toNat by omega]
      exact this
    | succ n ih =>
      intro k hk
      obtain ⟨i1, i2⟩ := X2 k (by omega)
      have nx := ih (k + 1) (by omega)
      rw [k_xs, k_x1] at nx
      have e0 := (i2 0 (by omega) (by omega)).trans m0
      have e1 := i2 1 (by omega) (by omega)
      have e5 := (i2 5 (by omega) (by omega)).trans m5
      generalize k_xs k (k_rides (q 1).toNat q) = f at *
      have tb := i1.tk (t := k) (by omega) (by rw [z_up_ne (by omega)]; omega)
      simp (disch := omega) only [z_up_ne] at tb
      refine w_291_33 hs ?_
      simp only [z_row_eq, e5]
      refine ⟨fun c => by omega, fun c => ⟨by omega, fun c1 => ⟨by omega, ?_⟩, fun c1 => ⟨by omega, fun c2 => ⟨by omega, ?_⟩, fun c2 => ⟨by omega, fun c3 => ⟨by omega, ?_⟩, fun c3 => ⟨fun c4 => ⟨by omega, ?_⟩, fun c4 => z_cV (c_extend (by omega) (by omega) (by omega)) ⟨by omega, ?_⟩⟩⟩⟩⟩⟩
      · rw [if_neg (fun z => c1 z.1)] at nx; exact nx
      · rw [if_neg (fun z => c2 z.2.1)] at nx; exact nx
      · rw [if_neg (fun z => by omega)] at nx; exact nx
      · rw [if_neg (fun z => by omega)] at nx; exact nx
      · rw [if_pos ⟨c1, c2, c3, c4⟩] at nx; exact nx
  have loop1 : ∀ (n k : Nat), (k : Int) + n = q 1 → Wp 2 [some (.inr (.inr (.ref 148))), some (.inl k)] [] (m_Ex g T, z_row J 149 (k_rides k q), X) 0 0 := by
    intro n
    induction n with
    | zero =>
      intro k hk
      obtain ⟨i1, i2⟩ := y_rides_f hb h k (by omega)
      have e1 := i2 1 (by omega) (by omega)
      refine w_291_2 hs ?_
      simp only [z_row_eq, e1]
      refine ⟨fun c => ?_, fun c => by omega⟩
      have := loop2 (q 5).toNat 0 (by omega)
      rw [k_xs] at this
      rw [show k = (q 1).toNat by omega]
      exact this
    | succ n ih =>
      intro k hk
      obtain ⟨i1, i2⟩ := y_rides_f hb h k (by omega)
      have nx := ih (k + 1) (by omega)
      rw [k_rides] at nx
      have e1 := i2 1 (by omega) (by omega)
      have e0 := i2 0 (by omega) (by omega)
      generalize k_rides k q = f at *
      have lc := (y_mid_r i1 (k := k) (by omega)).1
      refine w_291_2 hs ?_
      simp only [z_row_eq, e1]
      refine ⟨fun c => by omega, fun c => ⟨by omega, fun c1 => ⟨by omega, ?_⟩, fun c1 => ⟨fun c2 => ⟨by omega, ?_⟩, fun c2 => ⟨by omega, fun c3 => ⟨by omega, ?_⟩, fun c3 => z_cV (c_boardRide (by omega) lc) ⟨by omega, ?_⟩⟩⟩⟩⟩
      · rw [if_neg (fun z => by omega)] at nx; exact nx
      · rw [if_neg (fun z => by omega)] at nx; exact nx
      · rw [if_neg (fun z => by omega)] at nx; exact nx
      · rw [if_pos ⟨⟨c1, c2⟩, c3⟩] at nx; exact nx
  refine w_291_0 hs ?_
  exact loop1 (q 1).toNat 0 (by omega)
theorem p_advance (hb : y_base (J 149)) {n : Int} : z_Sem l (d + 6) M_R_advance [.inr (.inr (.ref 148)), .inl n] (m_Ex g T, J, X) 0 0 (z_rq (m_Ex g T) (fun v J' X' => X' = X ∧ y_tp J (k_advance (J 149) n) (o_advance (J 149) n).1 J' ∧ v = (o_advance (J 149) n).2)) := by
  obtain ⟨h0, h1, h2, h3, h4, h5⟩ := hb.1
  have bad : ¬ ((1 ≤ n ∧ n ≤ 144) ∧ J 149 0 + n ≤ 144) → z_rq (m_Ex g T) (fun v J' X' => X' = X ∧ y_tp J (k_advance (J 149) n) (o_advance (J 149) n).1 J' ∧ v = (o_advance (J 149) n).2) (.inl (some (.inl 0))) (m_Ex g T, z_u (z_u J 148 2 0) 148 2 1, X) := by
    intro hn
    rw [k_advance, o_advance, if_neg hn, y_need_n hn]
    exact ⟨_, _, _, rfl, rfl, rfl, y_tp.th, rfl⟩
  refine z_sem_of z_m290 m_ok_290 (Nat.le_of_ble_eq_true rfl) (fun Wp hs hv hS => ?_)
  have loop : ((1 ≤ n ∧ n ≤ 144) ∧ J 149 0 + n ≤ 144) → ∀ (m k : Nat) (f : Int → Int), (k : Int) + m = n → y_base f → f 0 = J 149 0 + k → k_adv m f = k_adv n.toNat (J 149) → Wp 47 [some (.inr (.inr (.ref 148))), some (.inl n), some (.inl k)] [] (m_Ex g T, z_row (z_u J 148 2 0) 149 f, X) 0 0 := by
    intro hn m
    induction m with
    | zero =>
      intro k f hk hb2 h0 he
      refine w_290_47 hs ?_
      simp only [z_row_eq]
      refine ⟨fun c => ?_, fun c => by omega⟩
      rw [k_advance, o_advance, if_pos hn, y_need_2 hn]
      refine ⟨_, _, _, rfl, rfl, rfl, ?_, by show f 0 = J 149 0 + n; omega⟩
      rw [← he]
      exact (y_to.put (J := z_u J 148 2 0)).tp
    | succ m ih =>
      intro k f hk hb2 h0 he
      obtain ⟨i1, i2, i3⟩ := y_base_pass hb2 (by omega)
      refine w_290_47 hs ?_
      refine ⟨fun c => by omega, fun c => z_cV (c_passSlot hb2 (by omega)) ⟨by omega, ih (k + 1) (k_pass f) (by omega) i1 (by omega) he⟩⟩
  refine w_290_0 hs ?_
  refine ⟨fun c => bad (by omega), fun c => ⟨fun c1 => bad (by omega), fun c1 => ⟨by omega, fun c2 => ?_, fun c2 => bad (by omega)⟩⟩⟩
  have := loop (by omega) n.toNat 0 (J 149) (by omega) hb (by omega) rfl
  have e : z_row (z_u J 148 2 0) 149 (J 149) = z_u J 148 2 0 := by
    have : J 149 = (z_u J 148 2 0) 149 := rfl
    rw [this, z_row_self]
  rw [e] at this
  exact this
end R17
