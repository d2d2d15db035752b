/-! the invariant at the start -/
theorem x_I_0 {J : z_J} (h : ∀ a, a < 148 → J a = x_fQue a) (h2 : ∀ k, k < 13 → J (148 + k) = x_fRef k) : x_I [none, none] [] J := by
  have z : ∀ a, a < 148 → a ≠ 1 → a ≠ 36 → J a = fun _ => 0 := fun a h0 h1 h3 => by rw [h a h0]; exact x_fQz h1 h3
  have e1 : J 1 = z_up (fun _ => 0) 7 (-1) := h 1 (by omega)
  have e36 : J 36 = z_up (fun _ => 0) 1 6 := h 36 (by omega)
  have e48 : J 148 = z_up (fun _ => 0) 16 (-1) := h2 0 (by omega)
  have e49 : J 149 = y_D0 := h2 1 (by omega)
  have zr : ∀ k, 2 ≤ k → k < 13 → J (148 + k) = fun _ => 0 := fun k h0 h1 => by
    rw [h2 k h1]
    unfold x_fRef
    rw [if_neg (by omega)]
    show (if k = 0 then _ else _) = _
    rw [if_neg (by omega)]
  have hb : y_base y_D0 := y_Db0.base
  have O : ∀ j, j ≠ 4 → y_D0 j = 0 := fun j h => by unfold y_D0; rw [z_up_ne h]
  have q1 := O 1 (by omega)
  have q2 := O 2 (by omega)
  have q3 := O 3 (by omega)
  have q5 := O 5 (by omega)
  have e50 : J 150 = fun _ => 0 := zr 2 (by omega) (by omega)
  have e57 : J 157 = fun _ => 0 := zr 9 (by omega) (by omega)
  have e58 : J 158 = fun _ => 0 := zr 10 (by omega) (by omega)
  refine ⟨⟨by rw [e49]; exact hb, ?_⟩, ⟨?_, ?_, ?_⟩, ⟨?_, ?_⟩, ⟨⟨?_, fun k h0 h1 => ?_⟩, ?_⟩, ⟨fun _ => 0, 0, fun e f a1 a2 => by omega, fun e a1 a2 => by omega, y_Sb0, ?_, ?_, ?_, ?_⟩, fun r _ _ => ?_, rfl, rfl, fun s s' hs => ?_, fun x hx => ?_⟩
  · rw [e49]
    refine ⟨⟨?_, ?_, ?_, ?_, ?_, ?_⟩, fun r a1 a2 => by omega, fun t a1 a2 => by omega, fun t a1 a2 => by omega, fun t a1 a2 => by omega, fun r a1 a2 => ?_⟩
    · show J 36 0 = _; rw [e36, z_up_ne (by omega), O 0 (by omega)]
    · show J 36 1 = _; rw [e36, z_up_eq rfl]; unfold y_D0; rw [z_up_eq rfl]
    · show J 37 11 = _; rw [z 37 (by omega) (by omega) (by omega), q1]
    · show J 49 4 = _; rw [z 49 (by omega) (by omega) (by omega), q2]
    · show J 49 8 = _; rw [z 49 (by omega) (by omega) (by omega), q3]
    · show J 57 6 = _; rw [z 57 (by omega) (by omega) (by omega), q5]
    · rw [q1] at a1
      rw [z (36 + 7) (by omega) (by omega) (by omega), z (36 + 41 + 6 * r.toNat) (by omega) (by omega) (by omega), z (36 + 44 + 6 * r.toNat) (by omega) (by omega) (by omega)]
      exact ⟨rfl, rfl, rfl⟩
  · rw [z 2 (by omega) (by omega) (by omega), e58]
  · rw [e1, e48, z_up_ne (by omega), z_up_ne (by omega)]
  · rw [e48, z_up_ne (by omega)]; exact ⟨by omega, fun k a1 a2 => by omega⟩
  · rw [e1, e48, z_up_ne (by omega), z_up_ne (by omega)]
  · rw [e1, e48, z_up_eq rfl, z_up_eq rfl]
  · show J 0 10 = J 148 11
    rw [z 0 (by omega) (by omega) (by omega), e48, z_up_ne (by omega)]
  · have h1 : k < J 0 10 := h1
    rw [z 0 (by omega) (by omega) (by omega)] at h1
    have h1 : k < 0 := h1
    omega
  · rw [e48, z_up_ne (by omega)]; omega
  · rw [e48, z_up_ne (by omega)]
  · rw [z 30 (by omega) (by omega) (by omega)]
  · rw [z 30 (by omega) (by omega) (by omega), e48, z_up_ne (by omega)]
  · rw [e48, z_up_ne (by omega)]; omega
  · rw [z 10 (by omega) (by omega) (by omega), z 11 (by omega) (by omega) (by omega), z 12 (by omega) (by omega) (by omega), z 13 (by omega) (by omega) (by omega), z 14 (by omega) (by omega) (by omega), z 15 (by omega) (by omega) (by omega)]
    exact ⟨rfl, rfl, rfl, rfl, rfl, rfl⟩
  · exact absurd hs (by simp)
  · have z0 : J 150 x = 0 := by rw [e50]
    refine ⟨by rw [z0, z 146 (by omega) (by omega) (by omega)], fun h0 => absurd z0 h0, fun s9 hs => ?_⟩
    rcases hx with rfl | rfl
    · exact absurd (show (none : Option Nat) = some s9 from hs) (by simp)
    · exact absurd (show (none : Option Nat) = some s9 from hs) (by simp)
