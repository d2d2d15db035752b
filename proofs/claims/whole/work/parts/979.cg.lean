/-! rows that agree in the present block; days that lie elsewhere -/
theorem y_base_cg {q q' : Int → Int} (e : ∀ j, 0 ≤ j → j < 4964 → q' j = q j) (hb : y_base q) : y_base q' := by
  obtain ⟨hh, H1, H2, H3, H4⟩ := hb
  obtain ⟨h0, h1, h2, h3, h4, h5⟩ := hh
  have e0 := e 0 (by omega) (by omega)
  have e1 := e 1 (by omega) (by omega)
  have e2 := e 2 (by omega) (by omega)
  have e3 := e 3 (by omega) (by omega)
  have e4 := e 4 (by omega) (by omega)
  have e5 := e 5 (by omega) (by omega)
  have U : y_used q' (q 5).toNat = y_used q (q 5).toNat := by
    unfold y_used
    refine y_sum_congr (fun k hk => ?_)
    rw [e _ (by omega) (by omega)]
  have A : ∀ i', y_act q' i' (q 5).toNat = y_act q i' (q 5).toNat := by
    intro i'
    unfold y_act
    refine y_sum_congr (fun k hk => ?_)
    rw [e _ (by omega) (by omega), e _ (by omega) (by omega)]
  refine ⟨?_, fun r' a1 a2 => ?_, fun t' a1 a2 => ?_, fun i' a1 a2 => ?_, fun t' a1 a2 => ?_⟩
  · unfold y_heads
    rw [e0, e1, e2, e3, e4, e5]
    omega
  · rw [e1] at a2
    obtain ⟨c1, c2, c3, c4⟩ := H1 r' a1 a2
    refine ⟨y_ride_c e0 (fun w b1 b2 => e _ (by omega) (by omega)) c1, y_lines_c e0 (e _ (by omega) (by omega)) (e _ (by omega) (by omega)) c1 (fun j b1 b2 => e _ (by omega) (by omega)) (fun j b1 b2 => e _ (by omega) (by omega)) c2, y_wait_c (by omega) (e _ (by omega) (by omega)) c1 (fun j b1 b2 => e _ (by omega) (by omega)) c3, ?_⟩
    rw [e5, e _ (by omega) (by omega), U]
    exact c4
  · rw [e2] at a2
    exact y_tier_c (fun w b1 b2 => e _ (by omega) (by omega)) (H2 t' a1 a2)
  · rw [e3] at a2
    obtain ⟨c1, c2⟩ := H3 i' a1 a2
    refine ⟨y_party_c e2 (fun w b1 b2 => e _ (by omega) (by omega)) c1, ?_⟩
    rw [e5]
    have := A i'
    omega
  · rw [e5] at a2
    exact y_tk_c (by omega) e1 ⟨h0, h1, h2, h3, h4, h5⟩ (fun w b1 b2 => e _ (by omega) (by omega)) (fun r' b1 b2 => ⟨e _ (by omega) (by omega), e _ (by omega) (by omega)⟩) (H4 t' a1 a2)
/-- a day at b against a day at c, row against row -/
theorem x_day_mv {b c : Nat} {q q' : Int → Int} {J J' : z_J} (hc : y_cb q) (e : ∀ j, 0 ≤ j → j < 4964 → q' j = q j) (eJ : ∀ k : Nat, k < 89 → J' (c + k) = J (b + k)) (h : x_day b q J) : x_day c q' J' := by
  obtain ⟨k0, k1, k2, k3, k4, k5⟩ := h
  obtain ⟨n1, n2, n3, n5, nr⟩ := hc
  have e1 := e 1 (by omega) (by omega)
  have e2 := e 2 (by omega) (by omega)
  have e3 := e 3 (by omega) (by omega)
  have e5 := e 5 (by omega) (by omega)
  have eJ0 : J' c = J b := eJ 0 (by omega)
  refine ⟨?_, fun r a1 a2 => ?_, fun t a1 a2 => ?_, fun i a1 a2 => ?_, fun t a1 a2 => ?_, fun r5 a1 a2 => by have w5 := k5 r5 (by omega) a2; rw [eJ 7 (by omega), show c + 41 + 6 * r5.toNat = c + (41 + 6 * r5.toNat) by omega, show c + 44 + 6 * r5.toNat = c + (44 + 6 * r5.toNat) by omega, eJ (41 + 6 * r5.toNat) (by omega), eJ (44 + 6 * r5.toNat) (by omega), show b + (41 + 6 * r5.toNat) = b + 41 + 6 * r5.toNat by omega, show b + (44 + 6 * r5.toNat) = b + 44 + 6 * r5.toNat by omega]; exact w5⟩
  · unfold x_heads at *
    rw [eJ0, eJ 1 (by omega), eJ 13 (by omega), eJ 21 (by omega), e 0 (by omega) (by omega), e1, e2, e3, e 4 (by omega) (by omega), e5]
    exact k0
  · rw [e1] at a2
    obtain ⟨c1, c2, c3⟩ := k1 r a1 a2
    have m := nr r a1 a2
    refine ⟨?_, ?_, ?_⟩
    · unfold x_ride at *
      rw [eJ 2 (by omega), eJ 3 (by omega), eJ 4 (by omega), eJ 5 (by omega), eJ 6 (by omega), eJ 7 (by omega), eJ 8 (by omega), eJ 9 (by omega), eJ 10 (by omega), eJ 11 (by omega), eJ 12 (by omega), e (10 + 14 * r + 0) (by omega) (by omega), e (10 + 14 * r + 1) (by omega) (by omega), e (10 + 14 * r + 2) (by omega) (by omega), e (10 + 14 * r + 3) (by omega) (by omega), e (10 + 14 * r + 4) (by omega) (by omega), e (10 + 14 * r + 5) (by omega) (by omega), e (10 + 14 * r + 8) (by omega) (by omega), e (10 + 14 * r + 9) (by omega) (by omega), e (10 + 14 * r + 11) (by omega) (by omega), e (10 + 14 * r + 10) (by omega) (by omega), e (10 + 14 * r + 12) (by omega) (by omega)]
      exact c1
    · obtain ⟨y0, y1, y2, y3⟩ := c2
      have L : ∀ i : Nat, 41 ≤ i → i ≤ 46 → J' (c + i + 6 * r.toNat) = J (b + i + 6 * r.toNat) := fun i i1 i2 => by
        rw [show c + i + 6 * r.toNat = c + (i + 6 * r.toNat) by omega, show b + i + 6 * r.toNat = b + (i + 6 * r.toNat) by omega]
        exact eJ _ (by omega)
      refine ⟨?_, ?_, fun k b1 b2 => ?_, fun k b1 b2 => ?_⟩
      · rw [L 41 (by omega) (by omega), e _ (by omega) (by omega)]; exact y0
      · rw [L 44 (by omega) (by omega), e _ (by omega) (by omega)]; exact y1
      · rw [e _ (by omega) (by omega)] at b2
        rw [L 42 (by omega) (by omega), L 43 (by omega) (by omega), e _ (by omega) (by omega), e _ (by omega) (by omega)]
        exact y2 k b1 b2
      · rw [e _ (by omega) (by omega)] at b2
        rw [L 45 (by omega) (by omega), L 46 (by omega) (by omega), e _ (by omega) (by omega), e _ (by omega) (by omega)]
        exact y3 k b1 b2
    · refine ⟨?_, fun k b1 b2 => ?_⟩
      · rw [eJ 38 (by omega), e _ (by omega) (by omega)]; exact c3.1
      · rw [e _ (by omega) (by omega)] at b2
        rw [show c + 30 + r.toNat = c + (30 + r.toNat) by omega, eJ _ (by omega), e _ (by omega) (by omega), show b + (30 + r.toNat) = b + 30 + r.toNat by omega]
        exact c3.2 k b1 b2
  · rw [e2] at a2
    have z := k2 t a1 a2
    unfold x_tier at *
    rw [eJ 14 (by omega), eJ 15 (by omega), eJ 16 (by omega), eJ 17 (by omega), e _ (by omega) (by omega), e _ (by omega) (by omega), e _ (by omega) (by omega), e _ (by omega) (by omega)]
    exact z
  · rw [e3] at a2
    have z := k3 i a1 a2
    unfold x_party at *
    rw [eJ 18 (by omega), eJ 19 (by omega), eJ 20 (by omega), e _ (by omega) (by omega), e _ (by omega) (by omega), e _ (by omega) (by omega)]
    exact z
  · rw [e5] at a2
    have z := k4 t a1 a2
    unfold x_tk at *
    rw [eJ 22 (by omega), eJ 23 (by omega), eJ 24 (by omega), eJ 25 (by omega), eJ 26 (by omega), eJ 27 (by omega), e _ (by omega) (by omega), e _ (by omega) (by omega), e _ (by omega) (by omega), e _ (by omega) (by omega), e _ (by omega) (by omega), e _ (by omega) (by omega)]
    exact z
