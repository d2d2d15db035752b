/-! one place of the class's day and of the block change together (written by wip/whole/gen74.py) -/
theorem z_u_at {J : z_J} {a : Nat} {k x j : Int} (h : j = k) : z_u J a k x a j = x := by rw [z_u_row, z_up_eq h]
theorem z_u_off {J : z_J} {a : Nat} {k x j : Int} (h : j ≠ k) : z_u J a k x a j = J a j := by rw [z_u_row, z_up_ne h]
theorem z_u_nb {J : z_J} {a b : Nat} {k x j : Int} (h : b ≠ a ∨ j ≠ k) : z_u J a k x b j = J b j := by
  by_cases e : b = a
  · subst e; exact z_u_off (by omega)
  · rw [z_u_ne e]
section X1
variable {q : Int → Int} {J : z_J}
theorem x_lastIssue {i v : Int} (hb : y_base q) (h : x_day 36 q J) (hi : 0 ≤ i ∧ i < q 3) : x_day 36 (z_up q (138 + 3 * i + 2) v) (z_u J 56 (i) v) := by
  have hR := fun r a b => hb.ride (r := r) a b
  obtain ⟨h0, h1, h2, h3, h4, h5⟩ := hb.1
  obtain ⟨k0, k1, k2, k3, k4, k5⟩ := h
  have e1 : z_up q (138 + 3 * i + 2) v 1 = q 1 := z_up_ne (by omega)
  have e2 : z_up q (138 + 3 * i + 2) v 2 = q 2 := z_up_ne (by omega)
  have e3 : z_up q (138 + 3 * i + 2) v 3 = q 3 := z_up_ne (by omega)
  have e5 : z_up q (138 + 3 * i + 2) v 5 = q 5 := z_up_ne (by omega)
  refine ⟨⟨(by rw [z_u_ne (by omega), z_up_ne (by omega)]; exact k0.1), (by rw [z_u_ne (by omega), z_up_ne (by omega)]; exact k0.2.1), (by rw [z_u_ne (by omega), z_up_ne (by omega)]; exact k0.2.2.1), (by rw [z_u_ne (by omega), z_up_ne (by omega)]; exact k0.2.2.2.1), (by rw [z_u_ne (by omega), z_up_ne (by omega)]; exact k0.2.2.2.2.1), (by rw [z_u_ne (by omega), z_up_ne (by omega)]; exact k0.2.2.2.2.2)⟩, fun r' a1 a2 => ?_, fun t' a1 a2 => ?_, fun i' a1 a2 => ?_, fun t' a1 a2 => ?_, fun r5 a1 a2 => by have w5 := k5 r5 (by omega) a2; rw [z_u_nb (by omega), z_u_nb (by omega), z_u_nb (by omega)]; exact w5⟩
  · rw [e1] at a2
    obtain ⟨c1, c2, c3⟩ := k1 r' a1 a2
    have w6 := (hR r' a1 a2).2.2.2.2.2.1
    have w7 := (hR r' a1 a2).2.2.2.2.2.2.1
    have w13 := (hR r' a1 a2).2.2.2.2.2.2.2.2.2.2.2
    have g6 : z_up q (138 + 3 * i + 2) v (10 + 14 * r' + 6) = q (10 + 14 * r' + 6) := z_up_ne (by omega)
    have g7 : z_up q (138 + 3 * i + 2) v (10 + 14 * r' + 7) = q (10 + 14 * r' + 7) := z_up_ne (by omega)
    have g13 : z_up q (138 + 3 * i + 2) v (10 + 14 * r' + 13) = q (10 + 14 * r' + 13) := z_up_ne (by omega)
    refine ⟨⟨(by rw [z_u_ne (by omega), z_up_ne (by omega)]; exact c1.1), (by rw [z_u_ne (by omega), z_up_ne (by omega)]; exact c1.2.1), (by rw [z_u_ne (by omega), z_up_ne (by omega)]; exact c1.2.2.1), (by rw [z_u_ne (by omega), z_up_ne (by omega)]; exact c1.2.2.2.1), (by rw [z_u_ne (by omega), z_up_ne (by omega)]; exact c1.2.2.2.2.1), (by rw [z_u_ne (by omega), z_up_ne (by omega)]; exact c1.2.2.2.2.2.1), (by rw [z_u_ne (by omega), z_up_ne (by omega)]; exact c1.2.2.2.2.2.2.1), (by rw [z_u_ne (by omega), z_up_ne (by omega)]; exact c1.2.2.2.2.2.2.2.1), (by rw [z_u_ne (by omega), z_up_ne (by omega)]; exact c1.2.2.2.2.2.2.2.2.1), (by rw [z_u_ne (by omega), z_up_ne (by omega)]; exact c1.2.2.2.2.2.2.2.2.2.1), (by rw [z_u_ne (by omega), z_up_ne (by omega)]; exact c1.2.2.2.2.2.2.2.2.2.2)⟩, ⟨?_, ?_, fun k b1 b2 => ?_, fun k b1 b2 => ?_⟩, ?_, fun k b1 b2 => ?_⟩
    · rw [z_u_ne (by omega), g6]; exact c2.1
    · rw [z_u_ne (by omega), g7]; exact c2.2.1
    · rw [g6] at b2
      have := c2.2.2.1 k b1 b2
      rw [z_u_ne (by omega), z_u_ne (by omega), z_up_ne (by omega), z_up_ne (by omega)]
      exact this
    · rw [g7] at b2
      have := c2.2.2.2 k b1 b2
      rw [z_u_ne (by omega), z_u_ne (by omega), z_up_ne (by omega), z_up_ne (by omega)]
      exact this
    · rw [z_u_ne (by omega), g13]; exact c3.1
    · rw [g13] at b2
      rw [z_u_ne (by omega), z_up_ne (by omega)]; exact c3.2 k b1 b2
  · rw [e2] at a2
    have c1 := k2 t' a1 a2
    exact ⟨(by rw [z_u_ne (by omega), z_up_ne (by omega)]; exact c1.1), (by rw [z_u_ne (by omega), z_up_ne (by omega)]; exact c1.2.1), (by rw [z_u_ne (by omega), z_up_ne (by omega)]; exact c1.2.2.1), (by rw [z_u_ne (by omega), z_up_ne (by omega)]; exact c1.2.2.2)⟩
  · rw [e3] at a2
    have c1 := k3 i' a1 a2
    exact ⟨(by rw [z_u_ne (by omega), z_up_ne (by omega)]; exact c1.1), (by rw [z_u_ne (by omega), z_up_ne (by omega)]; exact c1.2.1), (by
        by_cases hv : i' = i
        · rw [hv, z_u_at rfl, z_up_eq rfl]
        · rw [z_u_off hv, z_up_ne (by omega)]; exact c1.2.2)⟩
  · rw [e5] at a2
    have c1 := k4 t' a1 a2
    exact ⟨(by rw [z_u_ne (by omega), z_up_ne (by omega)]; exact c1.1), (by rw [z_u_ne (by omega), z_up_ne (by omega)]; exact c1.2.1), (by rw [z_u_ne (by omega), z_up_ne (by omega)]; exact c1.2.2.1), (by rw [z_u_ne (by omega), z_up_ne (by omega)]; exact c1.2.2.2.1), (by rw [z_u_ne (by omega), z_up_ne (by omega)]; exact c1.2.2.2.2.1), (by rw [z_u_ne (by omega), z_up_ne (by omega)]; exact c1.2.2.2.2.2)⟩
theorem x_state {t v : Int} (hb : y_base q) (h : x_day 36 q J) (ht : 0 ≤ t ∧ t < q 5) : x_day 36 (z_up q (288 + 6 * t + 5) v) (z_u J 62 (t) v) := by
  have hR := fun r a b => hb.ride (r := r) a b
  obtain ⟨h0, h1, h2, h3, h4, h5⟩ := hb.1
  obtain ⟨k0, k1, k2, k3, k4, k5⟩ := h
  have e1 : z_up q (288 + 6 * t + 5) v 1 = q 1 := z_up_ne (by omega)
  have e2 : z_up q (288 + 6 * t + 5) v 2 = q 2 := z_up_ne (by omega)
  have e3 : z_up q (288 + 6 * t + 5) v 3 = q 3 := z_up_ne (by omega)
  have e5 : z_up q (288 + 6 * t + 5) v 5 = q 5 := z_up_ne (by omega)
  refine ⟨⟨(by rw [z_u_ne (by omega), z_up_ne (by omega)]; exact k0.1), (by rw [z_u_ne (by omega), z_up_ne (by omega)]; exact k0.2.1), (by rw [z_u_ne (by omega), z_up_ne (by omega)]; exact k0.2.2.1), (by rw [z_u_ne (by omega), z_up_ne (by omega)]; exact k0.2.2.2.1), (by rw [z_u_ne (by omega), z_up_ne (by omega)]; exact k0.2.2.2.2.1), (by rw [z_u_ne (by omega), z_up_ne (by omega)]; exact k0.2.2.2.2.2)⟩, fun r' a1 a2 => ?_, fun t' a1 a2 => ?_, fun i' a1 a2 => ?_, fun t' a1 a2 => ?_, fun r5 a1 a2 => by have w5 := k5 r5 (by omega) a2; rw [z_u_nb (by omega), z_u_nb (by omega), z_u_nb (by omega)]; exact w5⟩
  · rw [e1] at a2
    obtain ⟨c1, c2, c3⟩ := k1 r' a1 a2
    have w6 := (hR r' a1 a2).2.2.2.2.2.1
    have w7 := (hR r' a1 a2).2.2.2.2.2.2.1
    have w13 := (hR r' a1 a2).2.2.2.2.2.2.2.2.2.2.2
    have g6 : z_up q (288 + 6 * t + 5) v (10 + 14 * r' + 6) = q (10 + 14 * r' + 6) := z_up_ne (by omega)
    have g7 : z_up q (288 + 6 * t + 5) v (10 + 14 * r' + 7) = q (10 + 14 * r' + 7) := z_up_ne (by omega)
    have g13 : z_up q (288 + 6 * t + 5) v (10 + 14 * r' + 13) = q (10 + 14 * r' + 13) := z_up_ne (by omega)
    refine ⟨⟨(by rw [z_u_ne (by omega), z_up_ne (by omega)]; exact c1.1), (by rw [z_u_ne (by omega), z_up_ne (by omega)]; exact c1.2.1), (by rw [z_u_ne (by omega), z_up_ne (by omega)]; exact c1.2.2.1), (by rw [z_u_ne (by omega), z_up_ne (by omega)]; exact c1.2.2.2.1), (by rw [z_u_ne (by omega), z_up_ne (by omega)]; exact c1.2.2.2.2.1), (by rw [z_u_ne (by omega), z_up_ne (by omega)]; exact c1.2.2.2.2.2.1), (by rw [z_u_ne (by omega), z_up_ne (by omega)]; exact c1.2.2.2.2.2.2.1), (by rw [z_u_ne (by omega), z_up_ne (by omega)]; exact c1.2.2.2.2.2.2.2.1), (by rw [z_u_ne (by omega), z_up_ne (by omega)]; exact c1.2.2.2.2.2.2.2.2.1), (by rw [z_u_ne (by omega), z_up_ne (by omega)]; exact c1.2.2.2.2.2.2.2.2.2.1), (by rw [z_u_ne (by omega), z_up_ne (by omega)]; exact c1.2.2.2.2.2.2.2.2.2.2)⟩, ⟨?_, ?_, fun k b1 b2 => ?_, fun k b1 b2 => ?_⟩, ?_, fun k b1 b2 => ?_⟩
    · rw [z_u_ne (by omega), g6]; exact c2.1
    · rw [z_u_ne (by omega), g7]; exact c2.2.1
    · rw [g6] at b2
      have := c2.2.2.1 k b1 b2
      rw [z_u_ne (by omega), z_u_ne (by omega), z_up_ne (by omega), z_up_ne (by omega)]
      exact this
    · rw [g7] at b2
      have := c2.2.2.2 k b1 b2
      rw [z_u_ne (by omega), z_u_ne (by omega), z_up_ne (by omega), z_up_ne (by omega)]
      exact this
    · rw [z_u_ne (by omega), g13]; exact c3.1
    · rw [g13] at b2
      rw [z_u_ne (by omega), z_up_ne (by omega)]; exact c3.2 k b1 b2
  · rw [e2] at a2
    have c1 := k2 t' a1 a2
    exact ⟨(by rw [z_u_ne (by omega), z_up_ne (by omega)]; exact c1.1), (by rw [z_u_ne (by omega), z_up_ne (by omega)]; exact c1.2.1), (by rw [z_u_ne (by omega), z_up_ne (by omega)]; exact c1.2.2.1), (by rw [z_u_ne (by omega), z_up_ne (by omega)]; exact c1.2.2.2)⟩
  · rw [e3] at a2
    have c1 := k3 i' a1 a2
    exact ⟨(by rw [z_u_ne (by omega), z_up_ne (by omega)]; exact c1.1), (by rw [z_u_ne (by omega), z_up_ne (by omega)]; exact c1.2.1), (by rw [z_u_ne (by omega), z_up_ne (by omega)]; exact c1.2.2)⟩
  · rw [e5] at a2
    have c1 := k4 t' a1 a2
    exact ⟨(by rw [z_u_ne (by omega), z_up_ne (by omega)]; exact c1.1), (by rw [z_u_ne (by omega), z_up_ne (by omega)]; exact c1.2.1), (by rw [z_u_ne (by omega), z_up_ne (by omega)]; exact c1.2.2.1), (by rw [z_u_ne (by omega), z_up_ne (by omega)]; exact c1.2.2.2.1), (by
        by_cases hv : t' = t
        · rw [hv, z_u_at rfl, z_up_eq rfl]
        · rw [z_u_off hv, z_up_ne (by omega)]; exact c1.2.2.2.2.1), (by rw [z_u_ne (by omega), z_up_ne (by omega)]; exact c1.2.2.2.2.2)⟩
theorem x_start {t v : Int} (hb : y_base q) (h : x_day 36 q J) (ht : 0 ≤ t ∧ t < q 5) : x_day 36 (z_up q (288 + 6 * t + 2) v) (z_u J 60 (t) v) := by
  have hR := fun r a b => hb.ride (r := r) a b
  obtain ⟨h0, h1, h2, h3, h4, h5⟩ := hb.1
  obtain ⟨k0, k1, k2, k3, k4, k5⟩ := h
  have e1 : z_up q (288 + 6 * t + 2) v 1 = q 1 := z_up_ne (by omega)
  have e2 : z_up q (288 + 6 * t + 2) v 2 = q 2 := z_up_ne (by omega)
  have e3 : z_up q (288 + 6 * t + 2) v 3 = q 3 := z_up_ne (by omega)
  have e5 : z_up q (288 + 6 * t + 2) v 5 = q 5 := z_up_ne (by omega)
  refine ⟨⟨(by rw [z_u_ne (by omega), z_up_ne (by omega)]; exact k0.1), (by rw [z_u_ne (by omega), z_up_ne (by omega)]; exact k0.2.1), (by rw [z_u_ne (by omega), z_up_ne (by omega)]; exact k0.2.2.1), (by rw [z_u_ne (by omega), z_up_ne (by omega)]; exact k0.2.2.2.1), (by rw [z_u_ne (by omega), z_up_ne (by omega)]; exact k0.2.2.2.2.1), (by rw [z_u_ne (by omega), z_up_ne (by omega)]; exact k0.2.2.2.2.2)⟩, fun r' a1 a2 => ?_, fun t' a1 a2 => ?_, fun i' a1 a2 => ?_, fun t' a1 a2 => ?_, fun r5 a1 a2 => by have w5 := k5 r5 (by omega) a2; rw [z_u_nb (by omega), z_u_nb (by omega), z_u_nb (by omega)]; exact w5⟩
  · rw [e1] at a2
    obtain ⟨c1, c2, c3⟩ := k1 r' a1 a2
    have w6 := (hR r' a1 a2).2.2.2.2.2.1
    have w7 := (hR r' a1 a2).2.2.2.2.2.2.1
    have w13 := (hR r' a1 a2).2.2.2.2.2.2.2.2.2.2.2
    have g6 : z_up q (288 + 6 * t + 2) v (10 + 14 * r' + 6) = q (10 + 14 * r' + 6) := z_up_ne (by omega)
    have g7 : z_up q (288 + 6 * t + 2) v (10 + 14 * r' + 7) = q (10 + 14 * r' + 7) := z_up_ne (by omega)
    have g13 : z_up q (288 + 6 * t + 2) v (10 + 14 * r' + 13) = q (10 + 14 * r' + 13) := z_up_ne (by omega)
    refine ⟨⟨(by rw [z_u_ne (by omega), z_up_ne (by omega)]; exact c1.1), (by rw [z_u_ne (by omega), z_up_ne (by omega)]; exact c1.2.1), (by rw [z_u_ne (by omega), z_up_ne (by omega)]; exact c1.2.2.1), (by rw [z_u_ne (by omega), z_up_ne (by omega)]; exact c1.2.2.2.1), (by rw [z_u_ne (by omega), z_up_ne (by omega)]; exact c1.2.2.2.2.1), (by rw [z_u_ne (by omega), z_up_ne (by omega)]; exact c1.2.2.2.2.2.1), (by rw [z_u_ne (by omega), z_up_ne (by omega)]; exact c1.2.2.2.2.2.2.1), (by rw [z_u_ne (by omega), z_up_ne (by omega)]; exact c1.2.2.2.2.2.2.2.1), (by rw [z_u_ne (by omega), z_up_ne (by omega)]; exact c1.2.2.2.2.2.2.2.2.1), (by rw [z_u_ne (by omega), z_up_ne (by omega)]; exact c1.2.2.2.2.2.2.2.2.2.1), (by rw [z_u_ne (by omega), z_up_ne (by omega)]; exact c1.2.2.2.2.2.2.2.2.2.2)⟩, ⟨?_, ?_, fun k b1 b2 => ?_, fun k b1 b2 => ?_⟩, ?_, fun k b1 b2 => ?_⟩
    · rw [z_u_ne (by omega), g6]; exact c2.1
    · rw [z_u_ne (by omega), g7]; exact c2.2.1
    · rw [g6] at b2
      have := c2.2.2.1 k b1 b2
      rw [z_u_ne (by omega), z_u_ne (by omega), z_up_ne (by omega), z_up_ne (by omega)]
      exact this
    · rw [g7] at b2
      have := c2.2.2.2 k b1 b2
      rw [z_u_ne (by omega), z_u_ne (by omega), z_up_ne (by omega), z_up_ne (by omega)]
      exact this
    · rw [z_u_ne (by omega), g13]; exact c3.1
    · rw [g13] at b2
      rw [z_u_ne (by omega), z_up_ne (by omega)]; exact c3.2 k b1 b2
  · rw [e2] at a2
    have c1 := k2 t' a1 a2
    exact ⟨(by rw [z_u_ne (by omega), z_up_ne (by omega)]; exact c1.1), (by rw [z_u_ne (by omega), z_up_ne (by omega)]; exact c1.2.1), (by rw [z_u_ne (by omega), z_up_ne (by omega)]; exact c1.2.2.1), (by rw [z_u_ne (by omega), z_up_ne (by omega)]; exact c1.2.2.2)⟩
  · rw [e3] at a2
    have c1 := k3 i' a1 a2
    exact ⟨(by rw [z_u_ne (by omega), z_up_ne (by omega)]; exact c1.1), (by rw [z_u_ne (by omega), z_up_ne (by omega)]; exact c1.2.1), (by rw [z_u_ne (by omega), z_up_ne (by omega)]; exact c1.2.2)⟩
  · rw [e5] at a2
    have c1 := k4 t' a1 a2
    exact ⟨(by rw [z_u_ne (by omega), z_up_ne (by omega)]; exact c1.1), (by rw [z_u_ne (by omega), z_up_ne (by omega)]; exact c1.2.1), (by
        by_cases hv : t' = t
        · rw [hv, z_u_at rfl, z_up_eq rfl]
        · rw [z_u_off hv, z_up_ne (by omega)]; exact c1.2.2.1), (by rw [z_u_ne (by omega), z_up_ne (by omega)]; exact c1.2.2.2.1), (by rw [z_u_ne (by omega), z_up_ne (by omega)]; exact c1.2.2.2.2.1), (by rw [z_u_ne (by omega), z_up_ne (by omega)]; exact c1.2.2.2.2.2)⟩
theorem x_end {t v : Int} (hb : y_base q) (h : x_day 36 q J) (ht : 0 ≤ t ∧ t < q 5) : x_day 36 (z_up q (288 + 6 * t + 3) v) (z_u J 61 (t) v) := by
  have hR := fun r a b => hb.ride (r := r) a b
  obtain ⟨h0, h1, h2, h3, h4, h5⟩ := hb.1
  obtain ⟨k0, k1, k2, k3, k4, k5⟩ := h
  have e1 : z_up q (288 + 6 * t + 3) v 1 = q 1 := z_up_ne (by omega)
  have e2 : z_up q (288 + 6 * t + 3) v 2 = q 2 := z_up_ne (by omega)
  have e3 : z_up q (288 + 6 * t + 3) v 3 = q 3 := z_up_ne (by omega)
  have e5 : z_up q (288 + 6 * t + 3) v 5 = q 5 := z_up_ne (by omega)
  refine ⟨⟨(by rw [z_u_ne (by omega), z_up_ne (by omega)]; exact k0.1), (by rw [z_u_ne (by omega), z_up_ne (by omega)]; exact k0.2.1), (by rw [z_u_ne (by omega), z_up_ne (by omega)]; exact k0.2.2.1), (by rw [z_u_ne (by omega), z_up_ne (by omega)]; exact k0.2.2.2.1), (by rw [z_u_ne (by omega), z_up_ne (by omega)]; exact k0.2.2.2.2.1), (by rw [z_u_ne (by omega), z_up_ne (by omega)]; exact k0.2.2.2.2.2)⟩, fun r' a1 a2 => ?_, fun t' a1 a2 => ?_, fun i' a1 a2 => ?_, fun t' a1 a2 => ?_, fun r5 a1 a2 => by have w5 := k5 r5 (by omega) a2; rw [z_u_nb (by omega), z_u_nb (by omega), z_u_nb (by omega)]; exact w5⟩
  · rw [e1] at a2
    obtain ⟨c1, c2, c3⟩ := k1 r' a1 a2
    have w6 := (hR r' a1 a2).2.2.2.2.2.1
    have w7 := (hR r' a1 a2).2.2.2.2.2.2.1
    have w13 := (hR r' a1 a2).2.2.2.2.2.2.2.2.2.2.2
    have g6 : z_up q (288 + 6 * t + 3) v (10 + 14 * r' + 6) = q (10 + 14 * r' + 6) := z_up_ne (by omega)
    have g7 : z_up q (288 + 6 * t + 3) v (10 + 14 * r' + 7) = q (10 + 14 * r' + 7) := z_up_ne (by omega)
    have g13 : z_up q (288 + 6 * t + 3) v (10 + 14 * r' + 13) = q (10 + 14 * r' + 13) := z_up_ne (by omega)
    refine ⟨⟨(by rw [z_u_ne (by omega), z_up_ne (by omega)]; exact c1.1), (by rw [z_u_ne (by omega), z_up_ne (by omega)]; exact c1.2.1), (by rw [z_u_ne (by omega), z_up_ne (by omega)]; exact c1.2.2.1), (by rw [z_u_ne (by omega), z_up_ne (by omega)]; exact c1.2.2.2.1), (by rw [z_u_ne (by omega), z_up_ne (by omega)]; exact c1.2.2.2.2.1), (by rw [z_u_ne (by omega), z_up_ne (by omega)]; exact c1.2.2.2.2.2.1), (by rw [z_u_ne (by omega), z_up_ne (by omega)]; exact c1.2.2.2.2.2.2.1), (by rw [z_u_ne (by omega), z_up_ne (by omega)]; exact c1.2.2.2.2.2.2.2.1), (by rw [z_u_ne (by omega), z_up_ne (by omega)]; exact c1.2.2.2.2.2.2.2.2.1), (by rw [z_u_ne (by omega), z_up_ne (by omega)]; exact c1.2.2.2.2.2.2.2.2.2.1), (by rw [z_u_ne (by omega), z_up_ne (by omega)]; exact c1.2.2.2.2.2.2.2.2.2.2)⟩, ⟨?_, ?_, fun k b1 b2 => ?_, fun k b1 b2 => ?_⟩, ?_, fun k b1 b2 => ?_⟩
    · rw [z_u_ne (by omega), g6]; exact c2.1
    · rw [z_u_ne (by omega), g7]; exact c2.2.1
    · rw [g6] at b2
      have := c2.2.2.1 k b1 b2
      rw [z_u_ne (by omega), z_u_ne (by omega), z_up_ne (by omega), z_up_ne (by omega)]
      exact this
    · rw [g7] at b2
      have := c2.2.2.2 k b1 b2
      rw [z_u_ne (by omega), z_u_ne (by omega), z_up_ne (by omega), z_up_ne (by omega)]
      exact this
    · rw [z_u_ne (by omega), g13]; exact c3.1
    · rw [g13] at b2
      rw [z_u_ne (by omega), z_up_ne (by omega)]; exact c3.2 k b1 b2
  · rw [e2] at a2
    have c1 := k2 t' a1 a2
    exact ⟨(by rw [z_u_ne (by omega), z_up_ne (by omega)]; exact c1.1), (by rw [z_u_ne (by omega), z_up_ne (by omega)]; exact c1.2.1), (by rw [z_u_ne (by omega), z_up_ne (by omega)]; exact c1.2.2.1), (by rw [z_u_ne (by omega), z_up_ne (by omega)]; exact c1.2.2.2)⟩
  · rw [e3] at a2
    have c1 := k3 i' a1 a2
    exact ⟨(by rw [z_u_ne (by omega), z_up_ne (by omega)]; exact c1.1), (by rw [z_u_ne (by omega), z_up_ne (by omega)]; exact c1.2.1), (by rw [z_u_ne (by omega), z_up_ne (by omega)]; exact c1.2.2)⟩
  · rw [e5] at a2
    have c1 := k4 t' a1 a2
    exact ⟨(by rw [z_u_ne (by omega), z_up_ne (by omega)]; exact c1.1), (by rw [z_u_ne (by omega), z_up_ne (by omega)]; exact c1.2.1), (by rw [z_u_ne (by omega), z_up_ne (by omega)]; exact c1.2.2.1), (by
        by_cases hv : t' = t
        · rw [hv, z_u_at rfl, z_up_eq rfl]
        · rw [z_u_off hv, z_up_ne (by omega)]; exact c1.2.2.2.1), (by rw [z_u_ne (by omega), z_up_ne (by omega)]; exact c1.2.2.2.2.1), (by rw [z_u_ne (by omega), z_up_ne (by omega)]; exact c1.2.2.2.2.2)⟩
theorem x_extn {t v : Int} (hb : y_base q) (h : x_day 36 q J) (ht : 0 ≤ t ∧ t < q 5) : x_day 36 (z_up q (288 + 6 * t + 4) v) (z_u J 63 (t) v) := by
  have hR := fun r a b => hb.ride (r := r) a b
  obtain ⟨h0, h1, h2, h3, h4, h5⟩ := hb.1
  obtain ⟨k0, k1, k2, k3, k4, k5⟩ := h
  have e1 : z_up q (288 + 6 * t + 4) v 1 = q 1 := z_up_ne (by omega)
  have e2 : z_up q (288 + 6 * t + 4) v 2 = q 2 := z_up_ne (by omega)
  have e3 : z_up q (288 + 6 * t + 4) v 3 = q 3 := z_up_ne (by omega)
  have e5 : z_up q (288 + 6 * t + 4) v 5 = q 5 := z_up_ne (by omega)
  refine ⟨⟨(by rw [z_u_ne (by omega), z_up_ne (by omega)]; exact k0.1), (by rw [z_u_ne (by omega), z_up_ne (by omega)]; exact k0.2.1), (by rw [z_u_ne (by omega), z_up_ne (by omega)]; exact k0.2.2.1), (by rw [z_u_ne (by omega), z_up_ne (by omega)]; exact k0.2.2.2.1), (by rw [z_u_ne (by omega), z_up_ne (by omega)]; exact k0.2.2.2.2.1), (by rw [z_u_ne (by omega), z_up_ne (by omega)]; exact k0.2.2.2.2.2)⟩, fun r' a1 a2 => ?_, fun t' a1 a2 => ?_, fun i' a1 a2 => ?_, fun t' a1 a2 => ?_, fun r5 a1 a2 => by have w5 := k5 r5 (by omega) a2; rw [z_u_nb (by omega), z_u_nb (by omega), z_u_nb (by omega)]; exact w5⟩
  · rw [e1] at a2
    obtain ⟨c1, c2, c3⟩ := k1 r' a1 a2
    have w6 := (hR r' a1 a2).2.2.2.2.2.1
    have w7 := (hR r' a1 a2).2.2.2.2.2.2.1
    have w13 := (hR r' a1 a2).2.2.2.2.2.2.2.2.2.2.2
    have g6 : z_up q (288 + 6 * t + 4) v (10 + 14 * r' + 6) = q (10 + 14 * r' + 6) := z_up_ne (by omega)
    have g7 : z_up q (288 + 6 * t + 4) v (10 + 14 * r' + 7) = q (10 + 14 * r' + 7) := z_up_ne (by omega)
    have g13 : z_up q (288 + 6 * t + 4) v (10 + 14 * r' + 13) = q (10 + 14 * r' + 13) := z_up_ne (by omega)
    refine ⟨⟨(by rw [z_u_ne (by omega), z_up_ne (by omega)]; exact c1.1), (by rw [z_u_ne (by omega), z_up_ne (by omega)]; exact c1.2.1), (by rw [z_u_ne (by omega), z_up_ne (by omega)]; exact c1.2.2.1), (by rw [z_u_ne (by omega), z_up_ne (by omega)]; exact c1.2.2.2.1), (by rw [z_u_ne (by omega), z_up_ne (by omega)]; exact c1.2.2.2.2.1), (by rw [z_u_ne (by omega), z_up_ne (by omega)]; exact c1.2.2.2.2.2.1), (by rw [z_u_ne (by omega), z_up_ne (by omega)]; exact c1.2.2.2.2.2.2.1), (by rw [z_u_ne (by omega), z_up_ne (by omega)]; exact c1.2.2.2.2.2.2.2.1), (by rw [z_u_ne (by omega), z_up_ne (by omega)]; exact c1.2.2.2.2.2.2.2.2.1), (by rw [z_u_ne (by omega), z_up_ne (by omega)]; exact c1.2.2.2.2.2.2.2.2.2.1), (by rw [z_u_ne (by omega), z_up_ne (by omega)]; exact c1.2.2.2.2.2.2.2.2.2.2)⟩, ⟨?_, ?_, fun k b1 b2 => ?_, fun k b1 b2 => ?_⟩, ?_, fun k b1 b2 => ?_⟩
    · rw [z_u_ne (by omega), g6]; exact c2.1
    · rw [z_u_ne (by omega), g7]; exact c2.2.1
    · rw [g6] at b2
      have := c2.2.2.1 k b1 b2
      rw [z_u_ne (by omega), z_u_ne (by omega), z_up_ne (by omega), z_up_ne (by omega)]
      exact this
    · rw [g7] at b2
      have := c2.2.2.2 k b1 b2
      rw [z_u_ne (by omega), z_u_ne (by omega), z_up_ne (by omega), z_up_ne (by omega)]
      exact this
    · rw [z_u_ne (by omega), g13]; exact c3.1
    · rw [g13] at b2
      rw [z_u_ne (by omega), z_up_ne (by omega)]; exact c3.2 k b1 b2
  · rw [e2] at a2
    have c1 := k2 t' a1 a2
    exact ⟨(by rw [z_u_ne (by omega), z_up_ne (by omega)]; exact c1.1), (by rw [z_u_ne (by omega), z_up_ne (by omega)]; exact c1.2.1), (by rw [z_u_ne (by omega), z_up_ne (by omega)]; exact c1.2.2.1), (by rw [z_u_ne (by omega), z_up_ne (by omega)]; exact c1.2.2.2)⟩
  · rw [e3] at a2
    have c1 := k3 i' a1 a2
    exact ⟨(by rw [z_u_ne (by omega), z_up_ne (by omega)]; exact c1.1), (by rw [z_u_ne (by omega), z_up_ne (by omega)]; exact c1.2.1), (by rw [z_u_ne (by omega), z_up_ne (by omega)]; exact c1.2.2)⟩
  · rw [e5] at a2
    have c1 := k4 t' a1 a2
    exact ⟨(by rw [z_u_ne (by omega), z_up_ne (by omega)]; exact c1.1), (by rw [z_u_ne (by omega), z_up_ne (by omega)]; exact c1.2.1), (by rw [z_u_ne (by omega), z_up_ne (by omega)]; exact c1.2.2.1), (by rw [z_u_ne (by omega), z_up_ne (by omega)]; exact c1.2.2.2.1), (by rw [z_u_ne (by omega), z_up_ne (by omega)]; exact c1.2.2.2.2.1), (by
        by_cases hv : t' = t
        · rw [hv, z_u_at rfl, z_up_eq rfl]
        · rw [z_u_off hv, z_up_ne (by omega)]; exact c1.2.2.2.2.2)⟩
theorem x_down {r v : Int} (hb : y_base q) (h : x_day 36 q J) (hr : 0 ≤ r ∧ r < q 1) : x_day 36 (z_up q (10 + 14 * r + 5) v) (z_u J 43 (r) v) := by
  have hR := fun r a b => hb.ride (r := r) a b
  obtain ⟨h0, h1, h2, h3, h4, h5⟩ := hb.1
  obtain ⟨k0, k1, k2, k3, k4, k5⟩ := h
  have e1 : z_up q (10 + 14 * r + 5) v 1 = q 1 := z_up_ne (by omega)
  have e2 : z_up q (10 + 14 * r + 5) v 2 = q 2 := z_up_ne (by omega)
  have e3 : z_up q (10 + 14 * r + 5) v 3 = q 3 := z_up_ne (by omega)
  have e5 : z_up q (10 + 14 * r + 5) v 5 = q 5 := z_up_ne (by omega)
  refine ⟨⟨(by rw [z_u_ne (by omega), z_up_ne (by omega)]; exact k0.1), (by rw [z_u_ne (by omega), z_up_ne (by omega)]; exact k0.2.1), (by rw [z_u_ne (by omega), z_up_ne (by omega)]; exact k0.2.2.1), (by rw [z_u_ne (by omega), z_up_ne (by omega)]; exact k0.2.2.2.1), (by rw [z_u_ne (by omega), z_up_ne (by omega)]; exact k0.2.2.2.2.1), (by rw [z_u_ne (by omega), z_up_ne (by omega)]; exact k0.2.2.2.2.2)⟩, fun r' a1 a2 => ?_, fun t' a1 a2 => ?_, fun i' a1 a2 => ?_, fun t' a1 a2 => ?_, fun r5 a1 a2 => by have w5 := k5 r5 (by omega) a2; rw [z_u_nb (by omega), z_u_nb (by omega), z_u_nb (by omega)]; exact w5⟩
  · rw [e1] at a2
    obtain ⟨c1, c2, c3⟩ := k1 r' a1 a2
    have w6 := (hR r' a1 a2).2.2.2.2.2.1
    have w7 := (hR r' a1 a2).2.2.2.2.2.2.1
    have w13 := (hR r' a1 a2).2.2.2.2.2.2.2.2.2.2.2
    have g6 : z_up q (10 + 14 * r + 5) v (10 + 14 * r' + 6) = q (10 + 14 * r' + 6) := z_up_ne (by omega)
    have g7 : z_up q (10 + 14 * r + 5) v (10 + 14 * r' + 7) = q (10 + 14 * r' + 7) := z_up_ne (by omega)
    have g13 : z_up q (10 + 14 * r + 5) v (10 + 14 * r' + 13) = q (10 + 14 * r' + 13) := z_up_ne (by omega)
    refine ⟨⟨(by rw [z_u_ne (by omega), z_up_ne (by omega)]; exact c1.1), (by rw [z_u_ne (by omega), z_up_ne (by omega)]; exact c1.2.1), (by rw [z_u_ne (by omega), z_up_ne (by omega)]; exact c1.2.2.1), (by rw [z_u_ne (by omega), z_up_ne (by omega)]; exact c1.2.2.2.1), (by rw [z_u_ne (by omega), z_up_ne (by omega)]; exact c1.2.2.2.2.1), (by
        by_cases hv : r' = r
        · rw [hv, z_u_at rfl, z_up_eq rfl]
        · rw [z_u_off hv, z_up_ne (by omega)]; exact c1.2.2.2.2.2.1), (by rw [z_u_ne (by omega), z_up_ne (by omega)]; exact c1.2.2.2.2.2.2.1), (by rw [z_u_ne (by omega), z_up_ne (by omega)]; exact c1.2.2.2.2.2.2.2.1), (by rw [z_u_ne (by omega), z_up_ne (by omega)]; exact c1.2.2.2.2.2.2.2.2.1), (by rw [z_u_ne (by omega), z_up_ne (by omega)]; exact c1.2.2.2.2.2.2.2.2.2.1), (by rw [z_u_ne (by omega), z_up_ne (by omega)]; exact c1.2.2.2.2.2.2.2.2.2.2)⟩, ⟨?_, ?_, fun k b1 b2 => ?_, fun k b1 b2 => ?_⟩, ?_, fun k b1 b2 => ?_⟩
    · rw [z_u_ne (by omega), g6]; exact c2.1
    · rw [z_u_ne (by omega), g7]; exact c2.2.1
    · rw [g6] at b2
      have := c2.2.2.1 k b1 b2
      rw [z_u_ne (by omega), z_u_ne (by omega), z_up_ne (by omega), z_up_ne (by omega)]
      exact this
    · rw [g7] at b2
      have := c2.2.2.2 k b1 b2
      rw [z_u_ne (by omega), z_u_ne (by omega), z_up_ne (by omega), z_up_ne (by omega)]
      exact this
    · rw [z_u_ne (by omega), g13]; exact c3.1
    · rw [g13] at b2
      rw [z_u_ne (by omega), z_up_ne (by omega)]; exact c3.2 k b1 b2
  · rw [e2] at a2
    have c1 := k2 t' a1 a2
    exact ⟨(by rw [z_u_ne (by omega), z_up_ne (by omega)]; exact c1.1), (by rw [z_u_ne (by omega), z_up_ne (by omega)]; exact c1.2.1), (by rw [z_u_ne (by omega), z_up_ne (by omega)]; exact c1.2.2.1), (by rw [z_u_ne (by omega), z_up_ne (by omega)]; exact c1.2.2.2)⟩
  · rw [e3] at a2
    have c1 := k3 i' a1 a2
    exact ⟨(by rw [z_u_ne (by omega), z_up_ne (by omega)]; exact c1.1), (by rw [z_u_ne (by omega), z_up_ne (by omega)]; exact c1.2.1), (by rw [z_u_ne (by omega), z_up_ne (by omega)]; exact c1.2.2)⟩
  · rw [e5] at a2
    have c1 := k4 t' a1 a2
    exact ⟨(by rw [z_u_ne (by omega), z_up_ne (by omega)]; exact c1.1), (by rw [z_u_ne (by omega), z_up_ne (by omega)]; exact c1.2.1), (by rw [z_u_ne (by omega), z_up_ne (by omega)]; exact c1.2.2.1), (by rw [z_u_ne (by omega), z_up_ne (by omega)]; exact c1.2.2.2.1), (by rw [z_u_ne (by omega), z_up_ne (by omega)]; exact c1.2.2.2.2.1), (by rw [z_u_ne (by omega), z_up_ne (by omega)]; exact c1.2.2.2.2.2)⟩
theorem x_share {r v : Int} (hb : y_base q) (h : x_day 36 q J) (hr : 0 ≤ r ∧ r < q 1) : x_day 36 (z_up q (10 + 14 * r + 1) v) (z_u J 39 (r) v) := by
  have hR := fun r a b => hb.ride (r := r) a b
  obtain ⟨h0, h1, h2, h3, h4, h5⟩ := hb.1
  obtain ⟨k0, k1, k2, k3, k4, k5⟩ := h
  have e1 : z_up q (10 + 14 * r + 1) v 1 = q 1 := z_up_ne (by omega)
  have e2 : z_up q (10 + 14 * r + 1) v 2 = q 2 := z_up_ne (by omega)
  have e3 : z_up q (10 + 14 * r + 1) v 3 = q 3 := z_up_ne (by omega)
  have e5 : z_up q (10 + 14 * r + 1) v 5 = q 5 := z_up_ne (by omega)
  refine ⟨⟨(by rw [z_u_ne (by omega), z_up_ne (by omega)]; exact k0.1), (by rw [z_u_ne (by omega), z_up_ne (by omega)]; exact k0.2.1), (by rw [z_u_ne (by omega), z_up_ne (by omega)]; exact k0.2.2.1), (by rw [z_u_ne (by omega), z_up_ne (by omega)]; exact k0.2.2.2.1), (by rw [z_u_ne (by omega), z_up_ne (by omega)]; exact k0.2.2.2.2.1), (by rw [z_u_ne (by omega), z_up_ne (by omega)]; exact k0.2.2.2.2.2)⟩, fun r' a1 a2 => ?_, fun t' a1 a2 => ?_, fun i' a1 a2 => ?_, fun t' a1 a2 => ?_, fun r5 a1 a2 => by have w5 := k5 r5 (by omega) a2; rw [z_u_nb (by omega), z_u_nb (by omega), z_u_nb (by omega)]; exact w5⟩
  · rw [e1] at a2
    obtain ⟨c1, c2, c3⟩ := k1 r' a1 a2
    have w6 := (hR r' a1 a2).2.2.2.2.2.1
    have w7 := (hR r' a1 a2).2.2.2.2.2.2.1
    have w13 := (hR r' a1 a2).2.2.2.2.2.2.2.2.2.2.2
    have g6 : z_up q (10 + 14 * r + 1) v (10 + 14 * r' + 6) = q (10 + 14 * r' + 6) := z_up_ne (by omega)
    have g7 : z_up q (10 + 14 * r + 1) v (10 + 14 * r' + 7) = q (10 + 14 * r' + 7) := z_up_ne (by omega)
    have g13 : z_up q (10 + 14 * r + 1) v (10 + 14 * r' + 13) = q (10 + 14 * r' + 13) := z_up_ne (by omega)
    refine ⟨⟨(by rw [z_u_ne (by omega), z_up_ne (by omega)]; exact c1.1), (by
        by_cases hv : r' = r
        · rw [hv, z_u_at rfl, z_up_eq rfl]
        · rw [z_u_off hv, z_up_ne (by omega)]; exact c1.2.1), (by rw [z_u_ne (by omega), z_up_ne (by omega)]; exact c1.2.2.1), (by rw [z_u_ne (by omega), z_up_ne (by omega)]; exact c1.2.2.2.1), (by rw [z_u_ne (by omega), z_up_ne (by omega)]; exact c1.2.2.2.2.1), (by rw [z_u_ne (by omega), z_up_ne (by omega)]; exact c1.2.2.2.2.2.1), (by rw [z_u_ne (by omega), z_up_ne (by omega)]; exact c1.2.2.2.2.2.2.1), (by rw [z_u_ne (by omega), z_up_ne (by omega)]; exact c1.2.2.2.2.2.2.2.1), (by rw [z_u_ne (by omega), z_up_ne (by omega)]; exact c1.2.2.2.2.2.2.2.2.1), (by rw [z_u_ne (by omega), z_up_ne (by omega)]; exact c1.2.2.2.2.2.2.2.2.2.1), (by rw [z_u_ne (by omega), z_up_ne (by omega)]; exact c1.2.2.2.2.2.2.2.2.2.2)⟩, ⟨?_, ?_, fun k b1 b2 => ?_, fun k b1 b2 => ?_⟩, ?_, fun k b1 b2 => ?_⟩
    · rw [z_u_ne (by omega), g6]; exact c2.1
    · rw [z_u_ne (by omega), g7]; exact c2.2.1
    · rw [g6] at b2
      have := c2.2.2.1 k b1 b2
      rw [z_u_ne (by omega), z_u_ne (by omega), z_up_ne (by omega), z_up_ne (by omega)]
      exact this
    · rw [g7] at b2
      have := c2.2.2.2 k b1 b2
      rw [z_u_ne (by omega), z_u_ne (by omega), z_up_ne (by omega), z_up_ne (by omega)]
      exact this
    · rw [z_u_ne (by omega), g13]; exact c3.1
    · rw [g13] at b2
      rw [z_u_ne (by omega), z_up_ne (by omega)]; exact c3.2 k b1 b2
  · rw [e2] at a2
    have c1 := k2 t' a1 a2
    exact ⟨(by rw [z_u_ne (by omega), z_up_ne (by omega)]; exact c1.1), (by rw [z_u_ne (by omega), z_up_ne (by omega)]; exact c1.2.1), (by rw [z_u_ne (by omega), z_up_ne (by omega)]; exact c1.2.2.1), (by rw [z_u_ne (by omega), z_up_ne (by omega)]; exact c1.2.2.2)⟩
  · rw [e3] at a2
    have c1 := k3 i' a1 a2
    exact ⟨(by rw [z_u_ne (by omega), z_up_ne (by omega)]; exact c1.1), (by rw [z_u_ne (by omega), z_up_ne (by omega)]; exact c1.2.1), (by rw [z_u_ne (by omega), z_up_ne (by omega)]; exact c1.2.2)⟩
  · rw [e5] at a2
    have c1 := k4 t' a1 a2
    exact ⟨(by rw [z_u_ne (by omega), z_up_ne (by omega)]; exact c1.1), (by rw [z_u_ne (by omega), z_up_ne (by omega)]; exact c1.2.1), (by rw [z_u_ne (by omega), z_up_ne (by omega)]; exact c1.2.2.1), (by rw [z_u_ne (by omega), z_up_ne (by omega)]; exact c1.2.2.2.1), (by rw [z_u_ne (by omega), z_up_ne (by omega)]; exact c1.2.2.2.2.1), (by rw [z_u_ne (by omega), z_up_ne (by omega)]; exact c1.2.2.2.2.2)⟩
theorem x_mBoard {r v : Int} (hb : y_base q) (h : x_day 36 q J) (hr : 0 ≤ r ∧ r < q 1) : x_day 36 (z_up q (10 + 14 * r + 8) v) (z_u J 44 (r) v) := by
  have hR := fun r a b => hb.ride (r := r) a b
  obtain ⟨h0, h1, h2, h3, h4, h5⟩ := hb.1
  obtain ⟨k0, k1, k2, k3, k4, k5⟩ := h
  have e1 : z_up q (10 + 14 * r + 8) v 1 = q 1 := z_up_ne (by omega)
  have e2 : z_up q (10 + 14 * r + 8) v 2 = q 2 := z_up_ne (by omega)
  have e3 : z_up q (10 + 14 * r + 8) v 3 = q 3 := z_up_ne (by omega)
  have e5 : z_up q (10 + 14 * r + 8) v 5 = q 5 := z_up_ne (by omega)
  refine ⟨⟨(by rw [z_u_ne (by omega), z_up_ne (by omega)]; exact k0.1), (by rw [z_u_ne (by omega), z_up_ne (by omega)]; exact k0.2.1), (by rw [z_u_ne (by omega), z_up_ne (by omega)]; exact k0.2.2.1), (by rw [z_u_ne (by omega), z_up_ne (by omega)]; exact k0.2.2.2.1), (by rw [z_u_ne (by omega), z_up_ne (by omega)]; exact k0.2.2.2.2.1), (by rw [z_u_ne (by omega), z_up_ne (by omega)]; exact k0.2.2.2.2.2)⟩, fun r' a1 a2 => ?_, fun t' a1 a2 => ?_, fun i' a1 a2 => ?_, fun t' a1 a2 => ?_, fun r5 a1 a2 => by have w5 := k5 r5 (by omega) a2; rw [z_u_nb (by omega), z_u_nb (by omega), z_u_nb (by omega)]; exact w5⟩
  · rw [e1] at a2
    obtain ⟨c1, c2, c3⟩ := k1 r' a1 a2
    have w6 := (hR r' a1 a2).2.2.2.2.2.1
    have w7 := (hR r' a1 a2).2.2.2.2.2.2.1
    have w13 := (hR r' a1 a2).2.2.2.2.2.2.2.2.2.2.2
    have g6 : z_up q (10 + 14 * r + 8) v (10 + 14 * r' + 6) = q (10 + 14 * r' + 6) := z_up_ne (by omega)
    have g7 : z_up q (10 + 14 * r + 8) v (10 + 14 * r' + 7) = q (10 + 14 * r' + 7) := z_up_ne (by omega)
    have g13 : z_up q (10 + 14 * r + 8) v (10 + 14 * r' + 13) = q (10 + 14 * r' + 13) := z_up_ne (by omega)
    refine ⟨⟨(by rw [z_u_ne (by omega), z_up_ne (by omega)]; exact c1.1), (by rw [z_u_ne (by omega), z_up_ne (by omega)]; exact c1.2.1), (by rw [z_u_ne (by omega), z_up_ne (by omega)]; exact c1.2.2.1), (by rw [z_u_ne (by omega), z_up_ne (by omega)]; exact c1.2.2.2.1), (by rw [z_u_ne (by omega), z_up_ne (by omega)]; exact c1.2.2.2.2.1), (by rw [z_u_ne (by omega), z_up_ne (by omega)]; exact c1.2.2.2.2.2.1), (by
        by_cases hv : r' = r
        · rw [hv, z_u_at rfl, z_up_eq rfl]
        · rw [z_u_off hv, z_up_ne (by omega)]; exact c1.2.2.2.2.2.2.1), (by rw [z_u_ne (by omega), z_up_ne (by omega)]; exact c1.2.2.2.2.2.2.2.1), (by rw [z_u_ne (by omega), z_up_ne (by omega)]; exact c1.2.2.2.2.2.2.2.2.1), (by rw [z_u_ne (by omega), z_up_ne (by omega)]; exact c1.2.2.2.2.2.2.2.2.2.1), (by rw [z_u_ne (by omega), z_up_ne (by omega)]; exact c1.2.2.2.2.2.2.2.2.2.2)⟩, ⟨?_, ?_, fun k b1 b2 => ?_, fun k b1 b2 => ?_⟩, ?_, fun k b1 b2 => ?_⟩
    · rw [z_u_ne (by omega), g6]; exact c2.1
    · rw [z_u_ne (by omega), g7]; exact c2.2.1
    · rw [g6] at b2
      have := c2.2.2.1 k b1 b2
      rw [z_u_ne (by omega), z_u_ne (by omega), z_up_ne (by omega), z_up_ne (by omega)]
      exact this
    · rw [g7] at b2
      have := c2.2.2.2 k b1 b2
      rw [z_u_ne (by omega), z_u_ne (by omega), z_up_ne (by omega), z_up_ne (by omega)]
      exact this
    · rw [z_u_ne (by omega), g13]; exact c3.1
    · rw [g13] at b2
      rw [z_u_ne (by omega), z_up_ne (by omega)]; exact c3.2 k b1 b2
  · rw [e2] at a2
    have c1 := k2 t' a1 a2
    exact ⟨(by rw [z_u_ne (by omega), z_up_ne (by omega)]; exact c1.1), (by rw [z_u_ne (by omega), z_up_ne (by omega)]; exact c1.2.1), (by rw [z_u_ne (by omega), z_up_ne (by omega)]; exact c1.2.2.1), (by rw [z_u_ne (by omega), z_up_ne (by omega)]; exact c1.2.2.2)⟩
  · rw [e3] at a2
    have c1 := k3 i' a1 a2
    exact ⟨(by rw [z_u_ne (by omega), z_up_ne (by omega)]; exact c1.1), (by rw [z_u_ne (by omega), z_up_ne (by omega)]; exact c1.2.1), (by rw [z_u_ne (by omega), z_up_ne (by omega)]; exact c1.2.2)⟩
  · rw [e5] at a2
    have c1 := k4 t' a1 a2
    exact ⟨(by rw [z_u_ne (by omega), z_up_ne (by omega)]; exact c1.1), (by rw [z_u_ne (by omega), z_up_ne (by omega)]; exact c1.2.1), (by rw [z_u_ne (by omega), z_up_ne (by omega)]; exact c1.2.2.1), (by rw [z_u_ne (by omega), z_up_ne (by omega)]; exact c1.2.2.2.1), (by rw [z_u_ne (by omega), z_up_ne (by omega)]; exact c1.2.2.2.2.1), (by rw [z_u_ne (by omega), z_up_ne (by omega)]; exact c1.2.2.2.2.2)⟩
theorem x_sBoard {r v : Int} (hb : y_base q) (h : x_day 36 q J) (hr : 0 ≤ r ∧ r < q 1) : x_day 36 (z_up q (10 + 14 * r + 9) v) (z_u J 45 (r) v) := by
  have hR := fun r a b => hb.ride (r := r) a b
  obtain ⟨h0, h1, h2, h3, h4, h5⟩ := hb.1
  obtain ⟨k0, k1, k2, k3, k4, k5⟩ := h
  have e1 : z_up q (10 + 14 * r + 9) v 1 = q 1 := z_up_ne (by omega)
  have e2 : z_up q (10 + 14 * r + 9) v 2 = q 2 := z_up_ne (by omega)
  have e3 : z_up q (10 + 14 * r + 9) v 3 = q 3 := z_up_ne (by omega)
  have e5 : z_up q (10 + 14 * r + 9) v 5 = q 5 := z_up_ne (by omega)
  refine ⟨⟨(by rw [z_u_ne (by omega), z_up_ne (by omega)]; exact k0.1), (by rw [z_u_ne (by omega), z_up_ne (by omega)]; exact k0.2.1), (by rw [z_u_ne (by omega), z_up_ne (by omega)]; exact k0.2.2.1), (by rw [z_u_ne (by omega), z_up_ne (by omega)]; exact k0.2.2.2.1), (by rw [z_u_ne (by omega), z_up_ne (by omega)]; exact k0.2.2.2.2.1), (by rw [z_u_ne (by omega), z_up_ne (by omega)]; exact k0.2.2.2.2.2)⟩, fun r' a1 a2 => ?_, fun t' a1 a2 => ?_, fun i' a1 a2 => ?_, fun t' a1 a2 => ?_, fun r5 a1 a2 => by have w5 := k5 r5 (by omega) a2; rw [z_u_nb (by omega), z_u_nb (by omega), z_u_nb (by omega)]; exact w5⟩
  · rw [e1] at a2
    obtain ⟨c1, c2, c3⟩ := k1 r' a1 a2
    have w6 := (hR r' a1 a2).2.2.2.2.2.1
    have w7 := (hR r' a1 a2).2.2.2.2.2.2.1
    have w13 := (hR r' a1 a2).2.2.2.2.2.2.2.2.2.2.2
    have g6 : z_up q (10 + 14 * r + 9) v (10 + 14 * r' + 6) = q (10 + 14 * r' + 6) := z_up_ne (by omega)
    have g7 : z_up q (10 + 14 * r + 9) v (10 + 14 * r' + 7) = q (10 + 14 * r' + 7) := z_up_ne (by omega)
    have g13 : z_up q (10 + 14 * r + 9) v (10 + 14 * r' + 13) = q (10 + 14 * r' + 13) := z_up_ne (by omega)
    refine ⟨⟨(by rw [z_u_ne (by omega), z_up_ne (by omega)]; exact c1.1), (by rw [z_u_ne (by omega), z_up_ne (by omega)]; exact c1.2.1), (by rw [z_u_ne (by omega), z_up_ne (by omega)]; exact c1.2.2.1), (by rw [z_u_ne (by omega), z_up_ne (by omega)]; exact c1.2.2.2.1), (by rw [z_u_ne (by omega), z_up_ne (by omega)]; exact c1.2.2.2.2.1), (by rw [z_u_ne (by omega), z_up_ne (by omega)]; exact c1.2.2.2.2.2.1), (by rw [z_u_ne (by omega), z_up_ne (by omega)]; exact c1.2.2.2.2.2.2.1), (by
        by_cases hv : r' = r
        · rw [hv, z_u_at rfl, z_up_eq rfl]
        · rw [z_u_off hv, z_up_ne (by omega)]; exact c1.2.2.2.2.2.2.2.1), (by rw [z_u_ne (by omega), z_up_ne (by omega)]; exact c1.2.2.2.2.2.2.2.2.1), (by rw [z_u_ne (by omega), z_up_ne (by omega)]; exact c1.2.2.2.2.2.2.2.2.2.1), (by rw [z_u_ne (by omega), z_up_ne (by omega)]; exact c1.2.2.2.2.2.2.2.2.2.2)⟩, ⟨?_, ?_, fun k b1 b2 => ?_, fun k b1 b2 => ?_⟩, ?_, fun k b1 b2 => ?_⟩
    · rw [z_u_ne (by omega), g6]; exact c2.1
    · rw [z_u_ne (by omega), g7]; exact c2.2.1
    · rw [g6] at b2
      have := c2.2.2.1 k b1 b2
      rw [z_u_ne (by omega), z_u_ne (by omega), z_up_ne (by omega), z_up_ne (by omega)]
      exact this
    · rw [g7] at b2
      have := c2.2.2.2 k b1 b2
      rw [z_u_ne (by omega), z_u_ne (by omega), z_up_ne (by omega), z_up_ne (by omega)]
      exact this
    · rw [z_u_ne (by omega), g13]; exact c3.1
    · rw [g13] at b2
      rw [z_u_ne (by omega), z_up_ne (by omega)]; exact c3.2 k b1 b2
  · rw [e2] at a2
    have c1 := k2 t' a1 a2
    exact ⟨(by rw [z_u_ne (by omega), z_up_ne (by omega)]; exact c1.1), (by rw [z_u_ne (by omega), z_up_ne (by omega)]; exact c1.2.1), (by rw [z_u_ne (by omega), z_up_ne (by omega)]; exact c1.2.2.1), (by rw [z_u_ne (by omega), z_up_ne (by omega)]; exact c1.2.2.2)⟩
  · rw [e3] at a2
    have c1 := k3 i' a1 a2
    exact ⟨(by rw [z_u_ne (by omega), z_up_ne (by omega)]; exact c1.1), (by rw [z_u_ne (by omega), z_up_ne (by omega)]; exact c1.2.1), (by rw [z_u_ne (by omega), z_up_ne (by omega)]; exact c1.2.2)⟩
  · rw [e5] at a2
    have c1 := k4 t' a1 a2
    exact ⟨(by rw [z_u_ne (by omega), z_up_ne (by omega)]; exact c1.1), (by rw [z_u_ne (by omega), z_up_ne (by omega)]; exact c1.2.1), (by rw [z_u_ne (by omega), z_up_ne (by omega)]; exact c1.2.2.1), (by rw [z_u_ne (by omega), z_up_ne (by omega)]; exact c1.2.2.2.1), (by rw [z_u_ne (by omega), z_up_ne (by omega)]; exact c1.2.2.2.2.1), (by rw [z_u_ne (by omega), z_up_ne (by omega)]; exact c1.2.2.2.2.2)⟩
theorem x_groups {r v : Int} (hb : y_base q) (h : x_day 36 q J) (hr : 0 ≤ r ∧ r < q 1) : x_day 36 (z_up q (10 + 14 * r + 11) v) (z_u J 46 (r) v) := by
  have hR := fun r a b => hb.ride (r := r) a b
  obtain ⟨h0, h1, h2, h3, h4, h5⟩ := hb.1
  obtain ⟨k0, k1, k2, k3, k4, k5⟩ := h
  have e1 : z_up q (10 + 14 * r + 11) v 1 = q 1 := z_up_ne (by omega)
  have e2 : z_up q (10 + 14 * r + 11) v 2 = q 2 := z_up_ne (by omega)
  have e3 : z_up q (10 + 14 * r + 11) v 3 = q 3 := z_up_ne (by omega)
  have e5 : z_up q (10 + 14 * r + 11) v 5 = q 5 := z_up_ne (by omega)
  refine ⟨⟨(by rw [z_u_ne (by omega), z_up_ne (by omega)]; exact k0.1), (by rw [z_u_ne (by omega), z_up_ne (by omega)]; exact k0.2.1), (by rw [z_u_ne (by omega), z_up_ne (by omega)]; exact k0.2.2.1), (by rw [z_u_ne (by omega), z_up_ne (by omega)]; exact k0.2.2.2.1), (by rw [z_u_ne (by omega), z_up_ne (by omega)]; exact k0.2.2.2.2.1), (by rw [z_u_ne (by omega), z_up_ne (by omega)]; exact k0.2.2.2.2.2)⟩, fun r' a1 a2 => ?_, fun t' a1 a2 => ?_, fun i' a1 a2 => ?_, fun t' a1 a2 => ?_, fun r5 a1 a2 => by have w5 := k5 r5 (by omega) a2; rw [z_u_nb (by omega), z_u_nb (by omega), z_u_nb (by omega)]; exact w5⟩
  · rw [e1] at a2
    obtain ⟨c1, c2, c3⟩ := k1 r' a1 a2
    have w6 := (hR r' a1 a2).2.2.2.2.2.1
    have w7 := (hR r' a1 a2).2.2.2.2.2.2.1
    have w13 := (hR r' a1 a2).2.2.2.2.2.2.2.2.2.2.2
    have g6 : z_up q (10 + 14 * r + 11) v (10 + 14 * r' + 6) = q (10 + 14 * r' + 6) := z_up_ne (by omega)
    have g7 : z_up q (10 + 14 * r + 11) v (10 + 14 * r' + 7) = q (10 + 14 * r' + 7) := z_up_ne (by omega)
    have g13 : z_up q (10 + 14 * r + 11) v (10 + 14 * r' + 13) = q (10 + 14 * r' + 13) := z_up_ne (by omega)
    refine ⟨⟨(by rw [z_u_ne (by omega), z_up_ne (by omega)]; exact c1.1), (by rw [z_u_ne (by omega), z_up_ne (by omega)]; exact c1.2.1), (by rw [z_u_ne (by omega), z_up_ne (by omega)]; exact c1.2.2.1), (by rw [z_u_ne (by omega), z_up_ne (by omega)]; exact c1.2.2.2.1), (by rw [z_u_ne (by omega), z_up_ne (by omega)]; exact c1.2.2.2.2.1), (by rw [z_u_ne (by omega), z_up_ne (by omega)]; exact c1.2.2.2.2.2.1), (by rw [z_u_ne (by omega), z_up_ne (by omega)]; exact c1.2.2.2.2.2.2.1), (by rw [z_u_ne (by omega), z_up_ne (by omega)]; exact c1.2.2.2.2.2.2.2.1), (by
        by_cases hv : r' = r
        · rw [hv, z_u_at rfl, z_up_eq rfl]
        · rw [z_u_off hv, z_up_ne (by omega)]; exact c1.2.2.2.2.2.2.2.2.1), (by rw [z_u_ne (by omega), z_up_ne (by omega)]; exact c1.2.2.2.2.2.2.2.2.2.1), (by rw [z_u_ne (by omega), z_up_ne (by omega)]; exact c1.2.2.2.2.2.2.2.2.2.2)⟩, ⟨?_, ?_, fun k b1 b2 => ?_, fun k b1 b2 => ?_⟩, ?_, fun k b1 b2 => ?_⟩
    · rw [z_u_ne (by omega), g6]; exact c2.1
    · rw [z_u_ne (by omega), g7]; exact c2.2.1
    · rw [g6] at b2
      have := c2.2.2.1 k b1 b2
      rw [z_u_ne (by omega), z_u_ne (by omega), z_up_ne (by omega), z_up_ne (by omega)]
      exact this
    · rw [g7] at b2
      have := c2.2.2.2 k b1 b2
      rw [z_u_ne (by omega), z_u_ne (by omega), z_up_ne (by omega), z_up_ne (by omega)]
      exact this
    · rw [z_u_ne (by omega), g13]; exact c3.1
    · rw [g13] at b2
      rw [z_u_ne (by omega), z_up_ne (by omega)]; exact c3.2 k b1 b2
  · rw [e2] at a2
    have c1 := k2 t' a1 a2
    exact ⟨(by rw [z_u_ne (by omega), z_up_ne (by omega)]; exact c1.1), (by rw [z_u_ne (by omega), z_up_ne (by omega)]; exact c1.2.1), (by rw [z_u_ne (by omega), z_up_ne (by omega)]; exact c1.2.2.1), (by rw [z_u_ne (by omega), z_up_ne (by omega)]; exact c1.2.2.2)⟩
  · rw [e3] at a2
    have c1 := k3 i' a1 a2
    exact ⟨(by rw [z_u_ne (by omega), z_up_ne (by omega)]; exact c1.1), (by rw [z_u_ne (by omega), z_up_ne (by omega)]; exact c1.2.1), (by rw [z_u_ne (by omega), z_up_ne (by omega)]; exact c1.2.2)⟩
  · rw [e5] at a2
    have c1 := k4 t' a1 a2
    exact ⟨(by rw [z_u_ne (by omega), z_up_ne (by omega)]; exact c1.1), (by rw [z_u_ne (by omega), z_up_ne (by omega)]; exact c1.2.1), (by rw [z_u_ne (by omega), z_up_ne (by omega)]; exact c1.2.2.1), (by rw [z_u_ne (by omega), z_up_ne (by omega)]; exact c1.2.2.2.1), (by rw [z_u_ne (by omega), z_up_ne (by omega)]; exact c1.2.2.2.2.1), (by rw [z_u_ne (by omega), z_up_ne (by omega)]; exact c1.2.2.2.2.2)⟩
theorem x_waits {r v : Int} (hb : y_base q) (h : x_day 36 q J) (hr : 0 ≤ r ∧ r < q 1) : x_day 36 (z_up q (10 + 14 * r + 10) v) (z_u J 47 (r) v) := by
  have hR := fun r a b => hb.ride (r := r) a b
  obtain ⟨h0, h1, h2, h3, h4, h5⟩ := hb.1
  obtain ⟨k0, k1, k2, k3, k4, k5⟩ := h
  have e1 : z_up q (10 + 14 * r + 10) v 1 = q 1 := z_up_ne (by omega)
  have e2 : z_up q (10 + 14 * r + 10) v 2 = q 2 := z_up_ne (by omega)
  have e3 : z_up q (10 + 14 * r + 10) v 3 = q 3 := z_up_ne (by omega)
  have e5 : z_up q (10 + 14 * r + 10) v 5 = q 5 := z_up_ne (by omega)
  refine ⟨⟨(by rw [z_u_ne (by omega), z_up_ne (by omega)]; exact k0.1), (by rw [z_u_ne (by omega), z_up_ne (by omega)]; exact k0.2.1), (by rw [z_u_ne (by omega), z_up_ne (by omega)]; exact k0.2.2.1), (by rw [z_u_ne (by omega), z_up_ne (by omega)]; exact k0.2.2.2.1), (by rw [z_u_ne (by omega), z_up_ne (by omega)]; exact k0.2.2.2.2.1), (by rw [z_u_ne (by omega), z_up_ne (by omega)]; exact k0.2.2.2.2.2)⟩, fun r' a1 a2 => ?_, fun t' a1 a2 => ?_, fun i' a1 a2 => ?_, fun t' a1 a2 => ?_, fun r5 a1 a2 => by have w5 := k5 r5 (by omega) a2; rw [z_u_nb (by omega), z_u_nb (by omega), z_u_nb (by omega)]; exact w5⟩
  · rw [e1] at a2
    obtain ⟨c1, c2, c3⟩ := k1 r' a1 a2
    have w6 := (hR r' a1 a2).2.2.2.2.2.1
    have w7 := (hR r' a1 a2).2.2.2.2.2.2.1
    have w13 := (hR r' a1 a2).2.2.2.2.2.2.2.2.2.2.2
    have g6 : z_up q (10 + 14 * r + 10) v (10 + 14 * r' + 6) = q (10 + 14 * r' + 6) := z_up_ne (by omega)
    have g7 : z_up q (10 + 14 * r + 10) v (10 + 14 * r' + 7) = q (10 + 14 * r' + 7) := z_up_ne (by omega)
    have g13 : z_up q (10 + 14 * r + 10) v (10 + 14 * r' + 13) = q (10 + 14 * r' + 13) := z_up_ne (by omega)
    refine ⟨⟨(by rw [z_u_ne (by omega), z_up_ne (by omega)]; exact c1.1), (by rw [z_u_ne (by omega), z_up_ne (by omega)]; exact c1.2.1), (by rw [z_u_ne (by omega), z_up_ne (by omega)]; exact c1.2.2.1), (by rw [z_u_ne (by omega), z_up_ne (by omega)]; exact c1.2.2.2.1), (by rw [z_u_ne (by omega), z_up_ne (by omega)]; exact c1.2.2.2.2.1), (by rw [z_u_ne (by omega), z_up_ne (by omega)]; exact c1.2.2.2.2.2.1), (by rw [z_u_ne (by omega), z_up_ne (by omega)]; exact c1.2.2.2.2.2.2.1), (by rw [z_u_ne (by omega), z_up_ne (by omega)]; exact c1.2.2.2.2.2.2.2.1), (by rw [z_u_ne (by omega), z_up_ne (by omega)]; exact c1.2.2.2.2.2.2.2.2.1), (by
        by_cases hv : r' = r
        · rw [hv, z_u_at rfl, z_up_eq rfl]
        · rw [z_u_off hv, z_up_ne (by omega)]; exact c1.2.2.2.2.2.2.2.2.2.1), (by rw [z_u_ne (by omega), z_up_ne (by omega)]; exact c1.2.2.2.2.2.2.2.2.2.2)⟩, ⟨?_, ?_, fun k b1 b2 => ?_, fun k b1 b2 => ?_⟩, ?_, fun k b1 b2 => ?_⟩
    · rw [z_u_ne (by omega), g6]; exact c2.1
    · rw [z_u_ne (by omega), g7]; exact c2.2.1
    · rw [g6] at b2
      have := c2.2.2.1 k b1 b2
      rw [z_u_ne (by omega), z_u_ne (by omega), z_up_ne (by omega), z_up_ne (by omega)]
      exact this
    · rw [g7] at b2
      have := c2.2.2.2 k b1 b2
      rw [z_u_ne (by omega), z_u_ne (by omega), z_up_ne (by omega), z_up_ne (by omega)]
      exact this
    · rw [z_u_ne (by omega), g13]; exact c3.1
    · rw [g13] at b2
      rw [z_u_ne (by omega), z_up_ne (by omega)]; exact c3.2 k b1 b2
  · rw [e2] at a2
    have c1 := k2 t' a1 a2
    exact ⟨(by rw [z_u_ne (by omega), z_up_ne (by omega)]; exact c1.1), (by rw [z_u_ne (by omega), z_up_ne (by omega)]; exact c1.2.1), (by rw [z_u_ne (by omega), z_up_ne (by omega)]; exact c1.2.2.1), (by rw [z_u_ne (by omega), z_up_ne (by omega)]; exact c1.2.2.2)⟩
  · rw [e3] at a2
    have c1 := k3 i' a1 a2
    exact ⟨(by rw [z_u_ne (by omega), z_up_ne (by omega)]; exact c1.1), (by rw [z_u_ne (by omega), z_up_ne (by omega)]; exact c1.2.1), (by rw [z_u_ne (by omega), z_up_ne (by omega)]; exact c1.2.2)⟩
  · rw [e5] at a2
    have c1 := k4 t' a1 a2
    exact ⟨(by rw [z_u_ne (by omega), z_up_ne (by omega)]; exact c1.1), (by rw [z_u_ne (by omega), z_up_ne (by omega)]; exact c1.2.1), (by rw [z_u_ne (by omega), z_up_ne (by omega)]; exact c1.2.2.1), (by rw [z_u_ne (by omega), z_up_ne (by omega)]; exact c1.2.2.2.1), (by rw [z_u_ne (by omega), z_up_ne (by omega)]; exact c1.2.2.2.2.1), (by rw [z_u_ne (by omega), z_up_ne (by omega)]; exact c1.2.2.2.2.2)⟩
theorem x_longest {r v : Int} (hb : y_base q) (h : x_day 36 q J) (hr : 0 ≤ r ∧ r < q 1) : x_day 36 (z_up q (10 + 14 * r + 12) v) (z_u J 48 (r) v) := by
  have hR := fun r a b => hb.ride (r := r) a b
  obtain ⟨h0, h1, h2, h3, h4, h5⟩ := hb.1
  obtain ⟨k0, k1, k2, k3, k4, k5⟩ := h
  have e1 : z_up q (10 + 14 * r + 12) v 1 = q 1 := z_up_ne (by omega)
  have e2 : z_up q (10 + 14 * r + 12) v 2 = q 2 := z_up_ne (by omega)
  have e3 : z_up q (10 + 14 * r + 12) v 3 = q 3 := z_up_ne (by omega)
  have e5 : z_up q (10 + 14 * r + 12) v 5 = q 5 := z_up_ne (by omega)
  refine ⟨⟨(by rw [z_u_ne (by omega), z_up_ne (by omega)]; exact k0.1), (by rw [z_u_ne (by omega), z_up_ne (by omega)]; exact k0.2.1), (by rw [z_u_ne (by omega), z_up_ne (by omega)]; exact k0.2.2.1), (by rw [z_u_ne (by omega), z_up_ne (by omega)]; exact k0.2.2.2.1), (by rw [z_u_ne (by omega), z_up_ne (by omega)]; exact k0.2.2.2.2.1), (by rw [z_u_ne (by omega), z_up_ne (by omega)]; exact k0.2.2.2.2.2)⟩, fun r' a1 a2 => ?_, fun t' a1 a2 => ?_, fun i' a1 a2 => ?_, fun t' a1 a2 => ?_, fun r5 a1 a2 => by have w5 := k5 r5 (by omega) a2; rw [z_u_nb (by omega), z_u_nb (by omega), z_u_nb (by omega)]; exact w5⟩
  · rw [e1] at a2
    obtain ⟨c1, c2, c3⟩ := k1 r' a1 a2
    have w6 := (hR r' a1 a2).2.2.2.2.2.1
    have w7 := (hR r' a1 a2).2.2.2.2.2.2.1
    have w13 := (hR r' a1 a2).2.2.2.2.2.2.2.2.2.2.2
    have g6 : z_up q (10 + 14 * r + 12) v (10 + 14 * r' + 6) = q (10 + 14 * r' + 6) := z_up_ne (by omega)
    have g7 : z_up q (10 + 14 * r + 12) v (10 + 14 * r' + 7) = q (10 + 14 * r' + 7) := z_up_ne (by omega)
    have g13 : z_up q (10 + 14 * r + 12) v (10 + 14 * r' + 13) = q (10 + 14 * r' + 13) := z_up_ne (by omega)
    refine ⟨⟨(by rw [z_u_ne (by omega), z_up_ne (by omega)]; exact c1.1), (by rw [z_u_ne (by omega), z_up_ne (by omega)]; exact c1.2.1), (by rw [z_u_ne (by omega), z_up_ne (by omega)]; exact c1.2.2.1), (by rw [z_u_ne (by omega), z_up_ne (by omega)]; exact c1.2.2.2.1), (by rw [z_u_ne (by omega), z_up_ne (by omega)]; exact c1.2.2.2.2.1), (by rw [z_u_ne (by omega), z_up_ne (by omega)]; exact c1.2.2.2.2.2.1), (by rw [z_u_ne (by omega), z_up_ne (by omega)]; exact c1.2.2.2.2.2.2.1), (by rw [z_u_ne (by omega), z_up_ne (by omega)]; exact c1.2.2.2.2.2.2.2.1), (by rw [z_u_ne (by omega), z_up_ne (by omega)]; exact c1.2.2.2.2.2.2.2.2.1), (by rw [z_u_ne (by omega), z_up_ne (by omega)]; exact c1.2.2.2.2.2.2.2.2.2.1), (by
        by_cases hv : r' = r
        · rw [hv, z_u_at rfl, z_up_eq rfl]
        · rw [z_u_off hv, z_up_ne (by omega)]; exact c1.2.2.2.2.2.2.2.2.2.2)⟩, ⟨?_, ?_, fun k b1 b2 => ?_, fun k b1 b2 => ?_⟩, ?_, fun k b1 b2 => ?_⟩
    · rw [z_u_ne (by omega), g6]; exact c2.1
    · rw [z_u_ne (by omega), g7]; exact c2.2.1
    · rw [g6] at b2
      have := c2.2.2.1 k b1 b2
      rw [z_u_ne (by omega), z_u_ne (by omega), z_up_ne (by omega), z_up_ne (by omega)]
      exact this
    · rw [g7] at b2
      have := c2.2.2.2 k b1 b2
      rw [z_u_ne (by omega), z_u_ne (by omega), z_up_ne (by omega), z_up_ne (by omega)]
      exact this
    · rw [z_u_ne (by omega), g13]; exact c3.1
    · rw [g13] at b2
      rw [z_u_ne (by omega), z_up_ne (by omega)]; exact c3.2 k b1 b2
  · rw [e2] at a2
    have c1 := k2 t' a1 a2
    exact ⟨(by rw [z_u_ne (by omega), z_up_ne (by omega)]; exact c1.1), (by rw [z_u_ne (by omega), z_up_ne (by omega)]; exact c1.2.1), (by rw [z_u_ne (by omega), z_up_ne (by omega)]; exact c1.2.2.1), (by rw [z_u_ne (by omega), z_up_ne (by omega)]; exact c1.2.2.2)⟩
  · rw [e3] at a2
    have c1 := k3 i' a1 a2
    exact ⟨(by rw [z_u_ne (by omega), z_up_ne (by omega)]; exact c1.1), (by rw [z_u_ne (by omega), z_up_ne (by omega)]; exact c1.2.1), (by rw [z_u_ne (by omega), z_up_ne (by omega)]; exact c1.2.2)⟩
  · rw [e5] at a2
    have c1 := k4 t' a1 a2
    exact ⟨(by rw [z_u_ne (by omega), z_up_ne (by omega)]; exact c1.1), (by rw [z_u_ne (by omega), z_up_ne (by omega)]; exact c1.2.1), (by rw [z_u_ne (by omega), z_up_ne (by omega)]; exact c1.2.2.1), (by rw [z_u_ne (by omega), z_up_ne (by omega)]; exact c1.2.2.2.1), (by rw [z_u_ne (by omega), z_up_ne (by omega)]; exact c1.2.2.2.2.1), (by rw [z_u_ne (by omega), z_up_ne (by omega)]; exact c1.2.2.2.2.2)⟩
theorem x_limit {v : Int} (hb : y_base q) (h : x_day 36 q J) : x_day 36 (z_up q (4) v) (z_u J 36 (1) v) := by
  have hR := fun r a b => hb.ride (r := r) a b
  obtain ⟨h0, h1, h2, h3, h4, h5⟩ := hb.1
  obtain ⟨k0, k1, k2, k3, k4, k5⟩ := h
  have e1 : z_up q (4) v 1 = q 1 := z_up_ne (by omega)
  have e2 : z_up q (4) v 2 = q 2 := z_up_ne (by omega)
  have e3 : z_up q (4) v 3 = q 3 := z_up_ne (by omega)
  have e5 : z_up q (4) v 5 = q 5 := z_up_ne (by omega)
  refine ⟨⟨(by rw [z_u_off (by omega), z_up_ne (by omega)]; exact k0.1), (by rw [z_u_at rfl, z_up_eq rfl]), (by rw [z_u_ne (by omega), z_up_ne (by omega)]; exact k0.2.2.1), (by rw [z_u_ne (by omega), z_up_ne (by omega)]; exact k0.2.2.2.1), (by rw [z_u_ne (by omega), z_up_ne (by omega)]; exact k0.2.2.2.2.1), (by rw [z_u_ne (by omega), z_up_ne (by omega)]; exact k0.2.2.2.2.2)⟩, fun r' a1 a2 => ?_, fun t' a1 a2 => ?_, fun i' a1 a2 => ?_, fun t' a1 a2 => ?_, fun r5 a1 a2 => by have w5 := k5 r5 (by omega) a2; rw [z_u_nb (by omega), z_u_nb (by omega), z_u_nb (by omega)]; exact w5⟩
  · rw [e1] at a2
    obtain ⟨c1, c2, c3⟩ := k1 r' a1 a2
    have w6 := (hR r' a1 a2).2.2.2.2.2.1
    have w7 := (hR r' a1 a2).2.2.2.2.2.2.1
    have w13 := (hR r' a1 a2).2.2.2.2.2.2.2.2.2.2.2
    have g6 : z_up q (4) v (10 + 14 * r' + 6) = q (10 + 14 * r' + 6) := z_up_ne (by omega)
    have g7 : z_up q (4) v (10 + 14 * r' + 7) = q (10 + 14 * r' + 7) := z_up_ne (by omega)
    have g13 : z_up q (4) v (10 + 14 * r' + 13) = q (10 + 14 * r' + 13) := z_up_ne (by omega)
    refine ⟨⟨(by rw [z_u_ne (by omega), z_up_ne (by omega)]; exact c1.1), (by rw [z_u_ne (by omega), z_up_ne (by omega)]; exact c1.2.1), (by rw [z_u_ne (by omega), z_up_ne (by omega)]; exact c1.2.2.1), (by rw [z_u_ne (by omega), z_up_ne (by omega)]; exact c1.2.2.2.1), (by rw [z_u_ne (by omega), z_up_ne (by omega)]; exact c1.2.2.2.2.1), (by rw [z_u_ne (by omega), z_up_ne (by omega)]; exact c1.2.2.2.2.2.1), (by rw [z_u_ne (by omega), z_up_ne (by omega)]; exact c1.2.2.2.2.2.2.1), (by rw [z_u_ne (by omega), z_up_ne (by omega)]; exact c1.2.2.2.2.2.2.2.1), (by rw [z_u_ne (by omega), z_up_ne (by omega)]; exact c1.2.2.2.2.2.2.2.2.1), (by rw [z_u_ne (by omega), z_up_ne (by omega)]; exact c1.2.2.2.2.2.2.2.2.2.1), (by rw [z_u_ne (by omega), z_up_ne (by omega)]; exact c1.2.2.2.2.2.2.2.2.2.2)⟩, ⟨?_, ?_, fun k b1 b2 => ?_, fun k b1 b2 => ?_⟩, ?_, fun k b1 b2 => ?_⟩
    · rw [z_u_ne (by omega), g6]; exact c2.1
    · rw [z_u_ne (by omega), g7]; exact c2.2.1
    · rw [g6] at b2
      have := c2.2.2.1 k b1 b2
      rw [z_u_ne (by omega), z_u_ne (by omega), z_up_ne (by omega), z_up_ne (by omega)]
      exact this
    · rw [g7] at b2
      have := c2.2.2.2 k b1 b2
      rw [z_u_ne (by omega), z_u_ne (by omega), z_up_ne (by omega), z_up_ne (by omega)]
      exact this
    · rw [z_u_ne (by omega), g13]; exact c3.1
    · rw [g13] at b2
      rw [z_u_ne (by omega), z_up_ne (by omega)]; exact c3.2 k b1 b2
  · rw [e2] at a2
    have c1 := k2 t' a1 a2
    exact ⟨(by rw [z_u_ne (by omega), z_up_ne (by omega)]; exact c1.1), (by rw [z_u_ne (by omega), z_up_ne (by omega)]; exact c1.2.1), (by rw [z_u_ne (by omega), z_up_ne (by omega)]; exact c1.2.2.1), (by rw [z_u_ne (by omega), z_up_ne (by omega)]; exact c1.2.2.2)⟩
  · rw [e3] at a2
    have c1 := k3 i' a1 a2
    exact ⟨(by rw [z_u_ne (by omega), z_up_ne (by omega)]; exact c1.1), (by rw [z_u_ne (by omega), z_up_ne (by omega)]; exact c1.2.1), (by rw [z_u_ne (by omega), z_up_ne (by omega)]; exact c1.2.2)⟩
  · rw [e5] at a2
    have c1 := k4 t' a1 a2
    exact ⟨(by rw [z_u_ne (by omega), z_up_ne (by omega)]; exact c1.1), (by rw [z_u_ne (by omega), z_up_ne (by omega)]; exact c1.2.1), (by rw [z_u_ne (by omega), z_up_ne (by omega)]; exact c1.2.2.1), (by rw [z_u_ne (by omega), z_up_ne (by omega)]; exact c1.2.2.2.1), (by rw [z_u_ne (by omega), z_up_ne (by omega)]; exact c1.2.2.2.2.1), (by rw [z_u_ne (by omega), z_up_ne (by omega)]; exact c1.2.2.2.2.2)⟩
theorem x_now {v : Int} (hb : y_base q) (h : x_day 36 q J) : x_day 36 (z_up q (0) v) (z_u J 36 (0) v) := by
  have hR := fun r a b => hb.ride (r := r) a b
  obtain ⟨h0, h1, h2, h3, h4, h5⟩ := hb.1
  obtain ⟨k0, k1, k2, k3, k4, k5⟩ := h
  have e1 : z_up q (0) v 1 = q 1 := z_up_ne (by omega)
  have e2 : z_up q (0) v 2 = q 2 := z_up_ne (by omega)
  have e3 : z_up q (0) v 3 = q 3 := z_up_ne (by omega)
  have e5 : z_up q (0) v 5 = q 5 := z_up_ne (by omega)
  refine ⟨⟨(by rw [z_u_at rfl, z_up_eq rfl]), (by rw [z_u_off (by omega), z_up_ne (by omega)]; exact k0.2.1), (by rw [z_u_ne (by omega), z_up_ne (by omega)]; exact k0.2.2.1), (by rw [z_u_ne (by omega), z_up_ne (by omega)]; exact k0.2.2.2.1), (by rw [z_u_ne (by omega), z_up_ne (by omega)]; exact k0.2.2.2.2.1), (by rw [z_u_ne (by omega), z_up_ne (by omega)]; exact k0.2.2.2.2.2)⟩, fun r' a1 a2 => ?_, fun t' a1 a2 => ?_, fun i' a1 a2 => ?_, fun t' a1 a2 => ?_, fun r5 a1 a2 => by have w5 := k5 r5 (by omega) a2; rw [z_u_nb (by omega), z_u_nb (by omega), z_u_nb (by omega)]; exact w5⟩
  · rw [e1] at a2
    obtain ⟨c1, c2, c3⟩ := k1 r' a1 a2
    have w6 := (hR r' a1 a2).2.2.2.2.2.1
    have w7 := (hR r' a1 a2).2.2.2.2.2.2.1
    have w13 := (hR r' a1 a2).2.2.2.2.2.2.2.2.2.2.2
    have g6 : z_up q (0) v (10 + 14 * r' + 6) = q (10 + 14 * r' + 6) := z_up_ne (by omega)
    have g7 : z_up q (0) v (10 + 14 * r' + 7) = q (10 + 14 * r' + 7) := z_up_ne (by omega)
    have g13 : z_up q (0) v (10 + 14 * r' + 13) = q (10 + 14 * r' + 13) := z_up_ne (by omega)
    refine ⟨⟨(by rw [z_u_ne (by omega), z_up_ne (by omega)]; exact c1.1), (by rw [z_u_ne (by omega), z_up_ne (by omega)]; exact c1.2.1), (by rw [z_u_ne (by omega), z_up_ne (by omega)]; exact c1.2.2.1), (by rw [z_u_ne (by omega), z_up_ne (by omega)]; exact c1.2.2.2.1), (by rw [z_u_ne (by omega), z_up_ne (by omega)]; exact c1.2.2.2.2.1), (by rw [z_u_ne (by omega), z_up_ne (by omega)]; exact c1.2.2.2.2.2.1), (by rw [z_u_ne (by omega), z_up_ne (by omega)]; exact c1.2.2.2.2.2.2.1), (by rw [z_u_ne (by omega), z_up_ne (by omega)]; exact c1.2.2.2.2.2.2.2.1), (by rw [z_u_ne (by omega), z_up_ne (by omega)]; exact c1.2.2.2.2.2.2.2.2.1), (by rw [z_u_ne (by omega), z_up_ne (by omega)]; exact c1.2.2.2.2.2.2.2.2.2.1), (by rw [z_u_ne (by omega), z_up_ne (by omega)]; exact c1.2.2.2.2.2.2.2.2.2.2)⟩, ⟨?_, ?_, fun k b1 b2 => ?_, fun k b1 b2 => ?_⟩, ?_, fun k b1 b2 => ?_⟩
    · rw [z_u_ne (by omega), g6]; exact c2.1
    · rw [z_u_ne (by omega), g7]; exact c2.2.1
    · rw [g6] at b2
      have := c2.2.2.1 k b1 b2
      rw [z_u_ne (by omega), z_u_ne (by omega), z_up_ne (by omega), z_up_ne (by omega)]
      exact this
    · rw [g7] at b2
      have := c2.2.2.2 k b1 b2
      rw [z_u_ne (by omega), z_u_ne (by omega), z_up_ne (by omega), z_up_ne (by omega)]
      exact this
    · rw [z_u_ne (by omega), g13]; exact c3.1
    · rw [g13] at b2
      rw [z_u_ne (by omega), z_up_ne (by omega)]; exact c3.2 k b1 b2
  · rw [e2] at a2
    have c1 := k2 t' a1 a2
    exact ⟨(by rw [z_u_ne (by omega), z_up_ne (by omega)]; exact c1.1), (by rw [z_u_ne (by omega), z_up_ne (by omega)]; exact c1.2.1), (by rw [z_u_ne (by omega), z_up_ne (by omega)]; exact c1.2.2.1), (by rw [z_u_ne (by omega), z_up_ne (by omega)]; exact c1.2.2.2)⟩
  · rw [e3] at a2
    have c1 := k3 i' a1 a2
    exact ⟨(by rw [z_u_ne (by omega), z_up_ne (by omega)]; exact c1.1), (by rw [z_u_ne (by omega), z_up_ne (by omega)]; exact c1.2.1), (by rw [z_u_ne (by omega), z_up_ne (by omega)]; exact c1.2.2)⟩
  · rw [e5] at a2
    have c1 := k4 t' a1 a2
    exact ⟨(by rw [z_u_ne (by omega), z_up_ne (by omega)]; exact c1.1), (by rw [z_u_ne (by omega), z_up_ne (by omega)]; exact c1.2.1), (by rw [z_u_ne (by omega), z_up_ne (by omega)]; exact c1.2.2.1), (by rw [z_u_ne (by omega), z_up_ne (by omega)]; exact c1.2.2.2.1), (by rw [z_u_ne (by omega), z_up_ne (by omega)]; exact c1.2.2.2.2.1), (by rw [z_u_ne (by omega), z_up_ne (by omega)]; exact c1.2.2.2.2.2)⟩
end X1
