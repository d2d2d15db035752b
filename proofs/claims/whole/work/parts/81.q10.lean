/-! the class: parties and lines grow (written by wip/whole/gen81.py) -/
section X5
variable {q : Int → Int} {J J' : z_J}
theorem x_par {ti w : Int} (hb : y_base q) (h : x_day 36 q J) (h50 : q 3 < 50) : x_day 36 (k_party q ti w) (z_u (z_u (z_u (z_u J 54 (q 3) ti) 55 (q 3) w) 56 (q 3) (-1)) 49 8 (q 3 + 1)) := by
  have hR := fun r a b => hb.ride (r := r) a b
  obtain ⟨h0, h1, h2, h3, h4, h5⟩ := hb.1
  obtain ⟨k0, k1, k2, k3, k4, k5⟩ := h
  have O : ∀ j, j ≠ 3 ∧ (j < 138 + 3 * q 3 ∨ 138 + 3 * q 3 + 2 < j) → k_party q ti w j = q j := by
    intro j hj; unfold k_party; simp (disch := omega) only [z_up_ne]
  have v0 : k_party q ti w (138 + 3 * q 3 + 0) = ti := by unfold k_party; rw [z_up_ne (by omega), z_up_ne (by omega), z_up_ne (by omega), z_up_eq rfl]
  have v1 : k_party q ti w (138 + 3 * q 3 + 1) = w := by unfold k_party; rw [z_up_ne (by omega), z_up_ne (by omega), z_up_eq rfl]
  have v2 : k_party q ti w (138 + 3 * q 3 + 2) = -1 := by unfold k_party; rw [z_up_ne (by omega), z_up_eq rfl]
  have e3 : k_party q ti w 3 = q 3 + 1 := by unfold k_party; rw [z_up_eq rfl]
  have hf : ∀ b, b ≠ 49 ∧ b ≠ 54 ∧ b ≠ 55 ∧ b ≠ 56 → (z_u (z_u (z_u (z_u J 54 (q 3) ti) 55 (q 3) w) 56 (q 3) (-1)) 49 8 (q 3 + 1)) b = J b := fun b hb9 => by
    rw [z_u_ne (by omega), z_u_ne (by omega), z_u_ne (by omega), z_u_ne (by omega)]
  have r49 : (z_u (z_u (z_u (z_u J 54 (q 3) ti) 55 (q 3) w) 56 (q 3) (-1)) 49 8 (q 3 + 1)) 49 = z_up (J 49) 8 (q 3 + 1) := rfl
  have r54 : (z_u (z_u (z_u (z_u J 54 (q 3) ti) 55 (q 3) w) 56 (q 3) (-1)) 49 8 (q 3 + 1)) 54 = z_up (J 54) (q 3) ti := rfl
  have r55 : (z_u (z_u (z_u (z_u J 54 (q 3) ti) 55 (q 3) w) 56 (q 3) (-1)) 49 8 (q 3 + 1)) 55 = z_up (J 55) (q 3) w := rfl
  have r56 : (z_u (z_u (z_u (z_u J 54 (q 3) ti) 55 (q 3) w) 56 (q 3) (-1)) 49 8 (q 3 + 1)) 56 = z_up (J 56) (q 3) (-1) := rfl
  generalize z_u (z_u (z_u (z_u J 54 (q 3) ti) 55 (q 3) w) 56 (q 3) (-1)) 49 8 (q 3 + 1) = J' at *
  have e1 := O 1 (by omega)
  have e2 := O 2 (by omega)
  have e5 := O 5 (by omega)
  refine ⟨?_, fun r' a1 a2 => ?_, fun t' a1 a2 => ?_, fun i' a1 a2 => ?_, fun t' a1 a2 => ?_, fun r5 a1 a2 => by have w5 := k5 r5 (by omega) a2; rw [hf _ (by omega), hf _ (by omega), hf _ (by omega)]; exact w5⟩
  · obtain ⟨y0, y1, y2, y3, y4, y5⟩ := k0
    refine ⟨?_, ?_, ?_, ?_, ?_, ?_⟩
    · rw [hf 36 (by omega), O 0 (by omega)]; exact y0
    · rw [hf 36 (by omega), O 4 (by omega)]; exact y1
    · rw [hf (36 + 1) (by omega), e1]; exact y2
    · show J' 49 4 = _
      rw [r49, z_up_ne (by omega), e2]; exact y3
    · show J' 49 8 = _
      rw [r49, z_up_eq rfl, e3]
    · rw [hf (36 + 21) (by omega), e5]; exact y5
  · rw [e1] at a2
    obtain ⟨c1, c2, c3⟩ := k1 r' a1 a2
    have w6 := (hR r' a1 a2).2.2.2.2.2.1
    have w7 := (hR r' a1 a2).2.2.2.2.2.2.1
    have w13 := (hR r' a1 a2).2.2.2.2.2.2.2.2.2.2.2
    exact ⟨x_ride_c (fun b b1 b2 => hf b (by omega)) (fun w b1 b2 b3 b4 => O _ (by omega)) c1, x_line_c (by omega) (by omega) (fun b b1 b2 => hf b (by omega)) (O _ (by omega)) (O _ (by omega)) (fun j b1 b2 => O _ (by omega)) (fun j b1 b2 => O _ (by omega)) c2, x_wait_c (by omega) (fun b b1 => hf b (by omega)) (O _ (by omega)) (fun j b1 b2 => O _ (by omega)) c3⟩
  · rw [e2] at a2
    exact x_tier_c (fun b b1 b2 => hf b (by omega)) (fun w b1 b2 => O _ (by omega)) (k2 t' a1 a2)
  · rw [e3] at a2
    by_cases hii : i' = q 3
    · subst hii
      refine ⟨?_, ?_, ?_⟩
      · show J' 54 (q 3) = _
        rw [r54, z_up_eq rfl, v0]
      · show J' 55 (q 3) = _
        rw [r55, z_up_eq rfl, v1]
      · show J' 56 (q 3) = _
        rw [r56, z_up_eq rfl, v2]
    · obtain ⟨y0, y1, y2⟩ := k3 i' a1 (by omega)
      refine ⟨?_, ?_, ?_⟩
      · show J' 54 i' = _
        rw [r54, z_up_ne hii, O _ (by omega)]; exact y0
      · show J' 55 i' = _
        rw [r55, z_up_ne hii, O _ (by omega)]; exact y1
      · show J' 56 i' = _
        rw [r56, z_up_ne hii, O _ (by omega)]; exact y2
  · rw [e5] at a2
    exact x_tk_c (fun b b1 b2 => hf b (by omega)) (fun w b1 b2 => O _ (by omega)) (k4 t' a1 a2)
theorem x_use {t r : Int} (hb : y_base q) (h : x_day 36 q J) (ht : 0 ≤ t ∧ t < q 5) (hr : 0 ≤ r ∧ r < q 1) (h6 : q (10 + 14 * r + 6) < 150) (j62 : J' 62 = z_up (J 62) t 1) (j77 : J' (77 + 6 * r.toNat) 2 = q (10 + 14 * r + 6) + 1) (j78 : J' (78 + 6 * r.toNat) = z_up (J (78 + 6 * r.toNat)) (q (10 + 14 * r + 6)) (q (138 + 3 * q (288 + 6 * t + 0) + 1))) (j79 : J' (79 + 6 * r.toNat) = z_up (J (79 + 6 * r.toNat)) (q (10 + 14 * r + 6)) (q 0)) (hf : ∀ b, b ≠ 62 ∧ (b < 77 + 6 * r.toNat ∨ 79 + 6 * r.toNat < b) → J' b = J b) : x_day 36 (k_use q t r) J' := by
  have hR := fun r a b => hb.ride (r := r) a b
  have d6 := (hR r hr.1 hr.2).2.2.2.2.2.1
  obtain ⟨h0, h1, h2, h3, h4, h5⟩ := hb.1
  obtain ⟨k0, k1, k2, k3, k4, k5⟩ := h
  have O : ∀ j, j ≠ 288 + 6 * t + 5 ∧ j ≠ 10 + 14 * r + 6 ∧ j ≠ 1188 + 300 * r + 2 * q (10 + 14 * r + 6) ∧ j ≠ 1188 + 300 * r + 2 * q (10 + 14 * r + 6) + 1 → k_use q t r j = q j := by
    intro j hj; unfold k_use; simp (disch := omega) only [z_up_ne]
  have v5 : k_use q t r (288 + 6 * t + 5) = 1 := by unfold k_use; rw [z_up_ne (by omega), z_up_ne (by omega), z_up_ne (by omega), z_up_eq rfl]
  have va : k_use q t r (1188 + 300 * r + 2 * q (10 + 14 * r + 6)) = q (138 + 3 * q (288 + 6 * t + 0) + 1) := by unfold k_use; rw [z_up_ne (by omega), z_up_ne (by omega), z_up_eq rfl]
  have vb : k_use q t r (1188 + 300 * r + 2 * q (10 + 14 * r + 6) + 1) = q 0 := by unfold k_use; rw [z_up_ne (by omega), z_up_eq rfl]
  have v6 : k_use q t r (10 + 14 * r + 6) = q (10 + 14 * r + 6) + 1 := by unfold k_use; rw [z_up_eq rfl]
  have e1 := O 1 (by omega)
  have e2 := O 2 (by omega)
  have e3 := O 3 (by omega)
  have e5 := O 5 (by omega)
  refine ⟨x_heads_c (fun b hb9 => hf b (by omega)) (fun j a1 a2 => O _ (by omega)) k0, fun r' a1 a2 => ?_, fun t' a1 a2 => ?_, fun i' a1 a2 => ?_, fun t' a1 a2 => ?_, fun r5 a1 a2 => by have w5 := k5 r5 (by omega) a2; rw [hf _ (by omega), hf _ (by omega), hf _ (by omega)]; exact w5⟩
  · rw [e1] at a2
    obtain ⟨c1, c2, c3⟩ := k1 r' a1 a2
    have w6 := (hR r' a1 a2).2.2.2.2.2.1
    have w7 := (hR r' a1 a2).2.2.2.2.2.2.1
    have w13 := (hR r' a1 a2).2.2.2.2.2.2.2.2.2.2.2
    refine ⟨x_ride_c (fun b b1 b2 => hf b (by omega)) (fun w b1 b2 b3 b4 => O _ (by omega)) c1, ?_, x_wait_c (by omega) (fun b b1 => hf b (by omega)) (O _ (by omega)) (fun j b1 b2 => O _ (by omega)) c3⟩
    by_cases hrr : r' = r
    · subst hrr
      obtain ⟨y0, y1, y2, y3⟩ := c2
      refine ⟨?_, ?_, fun k b1 b2 => ?_, fun k b1 b2 => ?_⟩
      · rw [v6]; exact j77
      · rw [hf _ (by omega), O _ (by omega)]; exact y1
      · rw [v6] at b2
        show J' (78 + 6 * r'.toNat) k = _ ∧ J' (79 + 6 * r'.toNat) k = _
        rw [j78, j79]
        by_cases hk : k = q (10 + 14 * r' + 6)
        · rw [z_up_eq hk, z_up_eq hk, hk, va, vb]
          exact ⟨rfl, rfl⟩
        · rw [z_up_ne hk, z_up_ne hk, O _ (by omega), O _ (by omega)]
          exact y2 k b1 (by omega)
      · rw [O _ (by omega)] at b2
        rw [hf _ (by omega), hf _ (by omega), O _ (by omega), O _ (by omega)]
        exact y3 k b1 b2
    · exact x_line_c (by omega) (by omega) (fun b b1 b2 => hf b (by omega)) (O _ (by omega)) (O _ (by omega)) (fun j b1 b2 => O _ (by omega)) (fun j b1 b2 => O _ (by omega)) c2
  · rw [e2] at a2
    exact x_tier_c (fun b b1 b2 => hf b (by omega)) (fun w b1 b2 => O _ (by omega)) (k2 t' a1 a2)
  · rw [e3] at a2
    exact x_party_c (fun b b1 b2 => hf b (by omega)) (fun w b1 b2 => O _ (by omega)) (k3 i' a1 a2)
  · rw [e5] at a2
    obtain ⟨y0, y1, y2, y3, y4, y5⟩ := k4 t' a1 a2
    refine ⟨?_, ?_, ?_, ?_, ?_, ?_⟩
    · rw [hf _ (by omega), O _ (by omega)]; exact y0
    · rw [hf _ (by omega), O _ (by omega)]; exact y1
    · rw [hf _ (by omega), O _ (by omega)]; exact y2
    · rw [hf _ (by omega), O _ (by omega)]; exact y3
    · show J' 62 t' = _
      rw [j62]
      by_cases htt : t' = t
      · rw [z_up_eq htt, htt, v5]
      · rw [z_up_ne htt, O _ (by omega)]; exact y4
    · rw [hf _ (by omega), O _ (by omega)]; exact y5
theorem x_stb {r w : Int} (hb : y_base q) (h : x_day 36 q J) (hr : 0 ≤ r ∧ r < q 1) (h7 : q (10 + 14 * r + 7) < 60) (j80 : J' (80 + 6 * r.toNat) 2 = q (10 + 14 * r + 7) + 1) (j81 : J' (81 + 6 * r.toNat) = z_up (J (81 + 6 * r.toNat)) (q (10 + 14 * r + 7)) w) (j82 : J' (82 + 6 * r.toNat) = z_up (J (82 + 6 * r.toNat)) (q (10 + 14 * r + 7)) (q 0)) (hf : ∀ b, (b < 80 + 6 * r.toNat ∨ 82 + 6 * r.toNat < b) → J' b = J b) : x_day 36 (k_standby q r w) J' := by
  have hR := fun r a b => hb.ride (r := r) a b
  have d7 := (hR r hr.1 hr.2).2.2.2.2.2.2.1
  obtain ⟨h0, h1, h2, h3, h4, h5⟩ := hb.1
  obtain ⟨k0, k1, k2, k3, k4, k5⟩ := h
  have O : ∀ j, j ≠ 10 + 14 * r + 7 ∧ j ≠ 3588 + 122 * r + 2 * q (10 + 14 * r + 7) ∧ j ≠ 3588 + 122 * r + 2 * q (10 + 14 * r + 7) + 1 → k_standby q r w j = q j := by
    intro j hj; unfold k_standby; simp (disch := omega) only [z_up_ne]
  have va : k_standby q r w (3588 + 122 * r + 2 * q (10 + 14 * r + 7)) = w := by unfold k_standby; rw [z_up_ne (by omega), z_up_ne (by omega), z_up_eq rfl]
  have vb : k_standby q r w (3588 + 122 * r + 2 * q (10 + 14 * r + 7) + 1) = q 0 := by unfold k_standby; rw [z_up_ne (by omega), z_up_eq rfl]
  have v7 : k_standby q r w (10 + 14 * r + 7) = q (10 + 14 * r + 7) + 1 := by unfold k_standby; rw [z_up_eq rfl]
  have e1 := O 1 (by omega)
  have e2 := O 2 (by omega)
  have e3 := O 3 (by omega)
  have e5 := O 5 (by omega)
  refine ⟨x_heads_c (fun b hb9 => hf b (by omega)) (fun j a1 a2 => O _ (by omega)) k0, fun r' a1 a2 => ?_, fun t' a1 a2 => ?_, fun i' a1 a2 => ?_, fun t' a1 a2 => ?_, fun r5 a1 a2 => by have w5 := k5 r5 (by omega) a2; rw [hf _ (by omega), hf _ (by omega), hf _ (by omega)]; exact w5⟩
  · rw [e1] at a2
    obtain ⟨c1, c2, c3⟩ := k1 r' a1 a2
    have w6 := (hR r' a1 a2).2.2.2.2.2.1
    have w7 := (hR r' a1 a2).2.2.2.2.2.2.1
    have w13 := (hR r' a1 a2).2.2.2.2.2.2.2.2.2.2.2
    refine ⟨x_ride_c (fun b b1 b2 => hf b (by omega)) (fun w b1 b2 b3 b4 => O _ (by omega)) c1, ?_, x_wait_c (by omega) (fun b b1 => hf b (by omega)) (O _ (by omega)) (fun j b1 b2 => O _ (by omega)) c3⟩
    by_cases hrr : r' = r
    · subst hrr
      obtain ⟨y0, y1, y2, y3⟩ := c2
      refine ⟨?_, ?_, fun k b1 b2 => ?_, fun k b1 b2 => ?_⟩
      · rw [hf _ (by omega), O _ (by omega)]; exact y0
      · rw [v7]; exact j80
      · rw [O _ (by omega)] at b2
        rw [hf _ (by omega), hf _ (by omega), O _ (by omega), O _ (by omega)]
        exact y2 k b1 b2
      · rw [v7] at b2
        show J' (81 + 6 * r'.toNat) k = _ ∧ J' (82 + 6 * r'.toNat) k = _
        rw [j81, j82]
        by_cases hk : k = q (10 + 14 * r' + 7)
        · rw [z_up_eq hk, z_up_eq hk, hk, va, vb]
          exact ⟨rfl, rfl⟩
        · rw [z_up_ne hk, z_up_ne hk, O _ (by omega), O _ (by omega)]
          exact y3 k b1 (by omega)
    · exact x_line_c (by omega) (by omega) (fun b b1 b2 => hf b (by omega)) (O _ (by omega)) (O _ (by omega)) (fun j b1 b2 => O _ (by omega)) (fun j b1 b2 => O _ (by omega)) c2
  · rw [e2] at a2
    exact x_tier_c (fun b b1 b2 => hf b (by omega)) (fun w b1 b2 => O _ (by omega)) (k2 t' a1 a2)
  · rw [e3] at a2
    exact x_party_c (fun b b1 b2 => hf b (by omega)) (fun w b1 b2 => O _ (by omega)) (k3 i' a1 a2)
  · rw [e5] at a2
    exact x_tk_c (fun b b1 b2 => hf b (by omega)) (fun w b1 b2 => O _ (by omega)) (k4 t' a1 a2)
theorem y_use_room {t r : Int} (hb : y_base q) (ht : 0 ≤ t ∧ t < q 5) (hr : 0 ≤ r ∧ r < q 1) (hs : q (288 + 6 * t + 5) ≠ 1) : q (10 + 14 * r + 6) < 150 := by
  have h1 := hb.1.2.1
  have d6 := (hb.ride hr.1 hr.2).2.2.2.2.2.1
  have b2 := y_base_use hb ht hr hs
  have e1 : k_use q t r 1 = q 1 := by unfold k_use; simp (disch := omega) only [z_up_ne]
  have v6 : k_use q t r (10 + 14 * r + 6) = q (10 + 14 * r + 6) + 1 := by unfold k_use; rw [z_up_eq rfl]
  have := (b2.ride hr.1 (by rw [e1]; exact hr.2)).2.2.2.2.2.1
  omega
end X5
section Q10
variable {l : Launch} {d : Nat} {g : List (Option Nat)} {T : m_E} {J : z_J} {X : z_X} {q : Int → Int}
theorem q_addParty (hb : y_base q) (h : x_day 36 q J) {ti w : Int} : z_Sem l (d + 2) M_Q_addParty [.inr (.inr (.ref 0)), .inl ti, .inl w] (m_Ex g T, J, X) 4 24 (x_out x_e1 x_e2 (o_addParty q ti w) (m_Ex g T) (fun J' X' => X' = X ∧ x_day 36 (k_addParty q ti w) J' ∧ x_fr J J')) := by
  obtain ⟨b0, b1, b2, b3, b4, b5⟩ := hb.1
  obtain ⟨d0, d4, d1, d2, d3, d5⟩ := h.hd
  have t1 : ¬ (0 ≤ ti ∧ ti < q 2) → x_out x_e1 x_e2 (o_addParty q ti w) (m_Ex g T) (fun J' X' => X' = X ∧ x_day 36 (k_addParty q ti w) J' ∧ x_fr J J') (.inr x_e1) (m_Ex g T, J, X) := fun hn => x_t1 (by rw [o_addParty, y_need_n hn]) ⟨rfl, by rw [k_addParty, if_neg (fun z => hn z.1)]; exact h, x_fr.rf⟩
  have t2 : (0 ≤ ti ∧ ti < q 2) → ¬ (1 ≤ w ∧ w ≤ 12) → x_out x_e1 x_e2 (o_addParty q ti w) (m_Ex g T) (fun J' X' => X' = X ∧ x_day 36 (k_addParty q ti w) J' ∧ x_fr J J') (.inr x_e2) (m_Ex g T, J, X) := fun hp hn => x_t2 (by rw [o_addParty, y_need_2 hp, y_need_n hn]) ⟨rfl, by rw [k_addParty, if_neg (fun z => hn z.2.1)]; exact h, x_fr.rf⟩
  have t6 : (0 ≤ ti ∧ ti < q 2) → (1 ≤ w ∧ w ≤ 12) → 50 ≤ q 3 → x_out x_e1 x_e2 (o_addParty q ti w) (m_Ex g T) (fun J' X' => X' = X ∧ x_day 36 (k_addParty q ti w) J' ∧ x_fr J J') (.inl (some (.inl (-6)))) (m_Ex g T, J, X) := fun hp hw hn => x_ok (by rw [o_addParty, y_need_2 hp, y_need_2 hw, if_pos (by omega)]) ⟨rfl, by rw [k_addParty, if_neg (by omega)]; exact h, x_fr.rf⟩
  refine z_sem_of z_m129 m_ok_129 (Nat.le_of_ble_eq_true rfl) (fun Wp hs hv hS => ?_)
  refine w_129_0 hs ?_
  rw [d2, d3]
  refine ⟨fun c => ⟨by omega, t1 (by omega)⟩, fun c => ⟨fun c1 => ⟨by omega, fun c2 => t2 (by omega) (by omega), fun c2 => ⟨fun c3 => ⟨fun c4 => ⟨fun c5 => ⟨by omega, ?_⟩, fun c5 => by omega⟩, fun c4 => t6 (by omega) (by omega) c4⟩, fun c3 => t2 (by omega) (by omega)⟩⟩, fun c1 => ⟨by omega, t1 (by omega)⟩⟩⟩
  refine x_ok (by rw [o_addParty, y_need_2 (by omega), y_need_2 (by omega), if_neg (by omega), show q 3 + 1 - 1 = q 3 by omega]) ⟨rfl, ?_, fun b hb9 => ?_⟩
  · rw [k_addParty, if_pos (by omega)]; exact x_par hb h c4
  · rw [z_u_ne (by omega), z_u_ne (by omega), z_u_ne (by omega), z_u_ne (by omega)]
theorem e_joinMerge (hb : y_base q) (h : x_day 36 q J) {t r : Int} (ht : 0 ≤ t ∧ t < q 5) (hr : 0 ≤ r ∧ r < q 1) (hs : q (288 + 6 * t + 5) ≠ 1) : z_Sem l (d + 2) M_Day_joinMerge [.inr (.inr (.ref 36)), .inl t, .inl r] (m_Ex g T, J, X) 0 0 (z_vq (m_Ex g T) (fun J' X' => X' = X ∧ x_day 36 (k_use q t r) J' ∧ x_fr J J')) := by
  obtain ⟨h0, h1, h2, h3, h4, h5⟩ := hb.1
  have room := y_use_room hb ht hr hs
  have d6 := (hb.ride hr.1 hr.2).2.2.2.2.2.1
  have kp := (hb.2.2.2.2 t ht.1 ht.2).1
  have f := h.tk ht.1 ht.2
  have p := h.party kp.1 kp.2
  have ln := h.line hr.1 hr.2
  have d0 := h.hd.1
  refine z_sem_of z_m8 m_ok_8 (Nat.le_of_ble_eq_true rfl) (fun Wp hs hv hS => ?_)
  refine w_8_0 hs ?_
  have a1 : (z_u J 62 t 1) (77 + 6 * r.toNat) 2 = q (10 + 14 * r + 6) := by rw [z_u_ne (by omega)]; exact ln.1
  have aw : J 55 (J 58 t) = q (138 + 3 * q (288 + 6 * t + 0) + 1) := by rw [f.1, p.2.1]
  rw [aw, f.1, a1, d0]
  have a2 : (z_u (z_u J 62 t 1) (78 + 6 * r.toNat) (q (10 + 14 * r + 6)) (q (138 + 3 * q (288 + 6 * t + 0) + 1))) (77 + 6 * r.toNat) 2 = q (10 + 14 * r + 6) := by rw [z_u_ne (by omega)]; exact a1
  rw [a2]
  have a3 : (z_u (z_u (z_u J 62 t 1) (78 + 6 * r.toNat) (q (10 + 14 * r + 6)) (q (138 + 3 * q (288 + 6 * t + 0) + 1))) (79 + 6 * r.toNat) (q (10 + 14 * r + 6)) (q 0)) (77 + 6 * r.toNat) 2 = q (10 + 14 * r + 6) := by rw [z_u_ne (by omega)]; exact a2
  rw [a3]
  refine ⟨by omega, by omega, by omega, fun c => by omega, fun c => ⟨by omega, _, _, rfl, rfl, rfl, x_use hb h ht hr room ?_ ?_ ?_ ?_ (fun b hb9 => ?_), fun b hb9 => ?_⟩⟩
  · rw [z_u_ne (by omega), z_u_ne (by omega), z_u_ne (by omega), z_u_row]
  · rw [z_u_at rfl]
  · rw [z_u_ne (by omega), z_u_ne (by omega), z_u_row, z_u_ne (by omega)]
  · rw [z_u_ne (by omega), z_u_row, z_u_ne (by omega), z_u_ne (by omega)]
  · rw [z_u_ne (by omega), z_u_ne (by omega), z_u_ne (by omega), z_u_ne (by omega)]
  · rw [z_u_ne (by omega), z_u_ne (by omega), z_u_ne (by omega), z_u_ne (by omega)]
theorem q_redeem (hb : y_base q) (h : x_day 36 q J) {t : Int} : z_Sem l (d + 4) M_Q_redeem [.inr (.inr (.ref 0)), .inl t] (m_Ex g T, J, X) 4 24 (x_out x_e1 x_e2 (o_redeem q t) (m_Ex g T) (fun J' X' => X' = X ∧ x_day 36 (k_redeem q t) J' ∧ x_fr J J')) := by
  obtain ⟨b0, b1, b2, b3, b4, b5⟩ := hb.1
  obtain ⟨d0, d4, d1, d2, d3, d5⟩ := h.hd
  have t1 : ¬ (0 ≤ t ∧ t < q 5) → x_out x_e1 x_e2 (o_redeem q t) (m_Ex g T) (fun J' X' => X' = X ∧ x_day 36 (k_redeem q t) J' ∧ x_fr J J') (.inr x_e1) (m_Ex g T, J, X) := fun hn => by
    have ho : o_redeem q t = (1, 0) := by rw [o_redeem, y_need_n hn]
    exact x_t1 ho ⟨rfl, by rw [k_redeem, ho, if_neg (by show ¬ (0 : Int) = 1; omega)]; exact h, x_fr.rf⟩
  have ad : (0 ≤ t ∧ t < q 5) → ∀ d, z_Sem l (d + 3) M_Day_admit [.inr (.inr (.ref 36)), .inl t] (m_Ex g T, J, X) 0 0 (z_rq (m_Ex g T) (fun v J' X' => X' = X ∧ x_day 36 (k_redeem q t) J' ∧ x_fr J J' ∧ v = (o_redeem q t).2)) := by
    intro ht d
    have f := h.tk ht.1 ht.2
    have k2 := (hb.2.2.2.2 t ht.1 ht.2).2.1
    have rd := h.ride k2.1 k2.2
    have dn := (hb.ride k2.1 k2.2).2.2.2.2.1
    have no : ¬ (q (288 + 6 * t + 5) = 0 ∧ (q (288 + 6 * t + 2) ≤ q 0 ∧ q 0 ≤ q (288 + 6 * t + 3)) ∧ q (10 + 14 * q (288 + 6 * t + 1) + 5) ≠ 1) → z_rq (m_Ex g T) (fun v J' X' => X' = X ∧ x_day 36 (k_redeem q t) J' ∧ x_fr J J' ∧ v = (o_redeem q t).2) (.inl (some (.inl 0))) (m_Ex g T, J, X) := fun hn => by
      have ho : o_redeem q t = (0, 0) := by rw [o_redeem, y_need_2 ht, if_neg hn]
      exact ⟨_, _, _, rfl, rfl, rfl, by rw [k_redeem, ho, if_neg (by show ¬ (0 : Int) = 1; omega)]; exact h, x_fr.rf, by rw [ho]⟩
    refine z_sem_of z_m7 m_ok_7 (Nat.le_of_ble_eq_true rfl) (fun Wp hs hv hS => ?_)
    refine w_7_0 hs ?_
    rw [f.2.1, f.2.2.1, f.2.2.2.1, f.2.2.2.2.1, d0, rd.2.2.2.2.2.1]
    refine ⟨by omega, fun c => no (by omega), fun c => ⟨by omega, fun c1 => no (by omega), fun c1 => ⟨by omega, fun c2 => no (by omega), fun c2 => ⟨by omega, fun c3 => ?_, fun c3 => no (by omega)⟩⟩⟩⟩
    refine z_cVq (e_joinMerge hb h ht k2 (by omega)) ?_
    rintro J2 X2 ⟨rfl, x2, f2⟩
    have ho : o_redeem q t = (0, 1) := by rw [o_redeem, y_need_2 ht, if_pos (by omega)]
    exact ⟨_, _, _, rfl, rfl, rfl, by rw [k_redeem, ho, if_pos rfl]; exact x2, f2, by rw [ho]⟩
  have ob : (o_redeem q t).2 = 0 ∨ (o_redeem q t).2 = 1 := by
    unfold o_redeem y_need
    (repeat' split) <;> simp
  refine z_sem_of z_m146 m_ok_146 (Nat.le_of_ble_eq_true rfl) (fun Wp hs hv hS => ?_)
  refine w_146_0 hs ?_
  refine ⟨by omega, fun c => t1 (by omega), fun c => ⟨fun c1 => ?_, fun c1 => t1 (by omega)⟩⟩
  refine z_cIq (ad ⟨c, by omega⟩ _) ?_
  rintro v J2 X2 ⟨rfl, x2, f2, rfl⟩
  exact ⟨ob, x_ok (by rw [o_redeem, y_need_2 (by omega)]) ⟨rfl, x2, f2⟩⟩
theorem q_redeemOpen (hb : y_base q) (h : x_day 36 q J) {t r : Int} : z_Sem l (d + 4) M_Q_redeemOpen [.inr (.inr (.ref 0)), .inl t, .inl r] (m_Ex g T, J, X) 4 24 (x_out x_e1 x_e2 (o_redeemOpen q t r) (m_Ex g T) (fun J' X' => X' = X ∧ x_day 36 (k_redeemOpen q t r) J' ∧ x_fr J J')) := by
  obtain ⟨b0, b1, b2, b3, b4, b5⟩ := hb.1
  obtain ⟨d0, d4, d1, d2, d3, d5⟩ := h.hd
  have t1 : ¬ ((0 ≤ t ∧ t < q 5) ∧ (0 ≤ r ∧ r < q 1)) → x_out x_e1 x_e2 (o_redeemOpen q t r) (m_Ex g T) (fun J' X' => X' = X ∧ x_day 36 (k_redeemOpen q t r) J' ∧ x_fr J J') (.inr x_e1) (m_Ex g T, J, X) := fun hn => by
    have ho : o_redeemOpen q t r = (1, 0) := by rw [o_redeemOpen, y_need_n hn]
    exact x_t1 ho ⟨rfl, by rw [k_redeemOpen, ho, if_neg (by show ¬ (0 : Int) = 1; omega)]; exact h, x_fr.rf⟩
  have ad : (0 ≤ t ∧ t < q 5) → (0 ≤ r ∧ r < q 1) → ∀ d, z_Sem l (d + 3) M_Day_admitOpen [.inr (.inr (.ref 36)), .inl t, .inl r] (m_Ex g T, J, X) 0 0 (z_rq (m_Ex g T) (fun v J' X' => X' = X ∧ x_day 36 (k_redeemOpen q t r) J' ∧ x_fr J J' ∧ v = (o_redeemOpen q t r).2)) := by
    intro ht hr d
    have f := h.tk ht.1 ht.2
    have rd := h.ride hr.1 hr.2
    have dn := (hb.ride hr.1 hr.2).2.2.2.2.1
    have no : ¬ (q (288 + 6 * t + 5) = 4 ∧ (q (10 + 14 * r + 3) ≤ q 0 ∧ q 0 ≤ q (10 + 14 * r + 4)) ∧ q (10 + 14 * r + 5) = 0) → z_rq (m_Ex g T) (fun v J' X' => X' = X ∧ x_day 36 (k_redeemOpen q t r) J' ∧ x_fr J J' ∧ v = (o_redeemOpen q t r).2) (.inl (some (.inl 0))) (m_Ex g T, J, X) := fun hn => by
      have ho : o_redeemOpen q t r = (0, 0) := by rw [o_redeemOpen, y_need_2 ⟨ht, hr⟩, if_neg hn]
      exact ⟨_, _, _, rfl, rfl, rfl, by rw [k_redeemOpen, ho, if_neg (by show ¬ (0 : Int) = 1; omega)]; exact h, x_fr.rf, by rw [ho]⟩
    refine z_sem_of z_m9 m_ok_9 (Nat.le_of_ble_eq_true rfl) (fun Wp hs hv hS => ?_)
    refine w_9_0 hs ?_
    rw [f.2.2.2.2.1, d0, rd.2.2.2.2.2.1, rd.2.2.2.1, rd.2.2.2.2.1]
    refine ⟨by omega, fun c => no (by omega), fun c => ⟨by omega, fun c1 => no (by omega), fun c1 => ⟨by omega, fun c2 => no (by omega), fun c2 => ⟨by omega, fun c3 => no (by omega), fun c3 => ?_⟩⟩⟩⟩
    refine z_cVq (e_joinMerge hb h ht hr (by omega)) ?_
    rintro J2 X2 ⟨rfl, x2, f2⟩
    have ho : o_redeemOpen q t r = (0, 1) := by rw [o_redeemOpen, y_need_2 ⟨ht, hr⟩, if_pos (by omega)]
    exact ⟨_, _, _, rfl, rfl, rfl, by rw [k_redeemOpen, ho, if_pos rfl]; exact x2, f2, by rw [ho]⟩
  have ob : (o_redeemOpen q t r).2 = 0 ∨ (o_redeemOpen q t r).2 = 1 := by
    unfold o_redeemOpen y_need
    (repeat' split) <;> simp
  refine z_sem_of z_m147 m_ok_147 (Nat.le_of_ble_eq_true rfl) (fun Wp hs hv hS => ?_)
  refine w_147_0 hs ?_
  refine ⟨by omega, fun c => t1 (by omega), fun c => ⟨fun c1 => ⟨by omega, fun c2 => t1 (by omega), fun c2 => ⟨fun c3 => ?_, fun c3 => t1 (by omega)⟩⟩, fun c1 => t1 (by omega)⟩⟩
  refine z_cIq (ad ⟨c, by omega⟩ ⟨c2, by omega⟩ _) ?_
  rintro v J2 X2 ⟨rfl, x2, f2, rfl⟩
  exact ⟨ob, x_ok (by rw [o_redeemOpen, y_need_2 (by omega)]) ⟨rfl, x2, f2⟩⟩
theorem e_putOnStandby (hb : y_base q) (h : x_day 36 q J) {r w : Int} (hr : 0 ≤ r ∧ r < q 1) (hw : 1 ≤ w ∧ w ≤ 12) : z_Sem l (d + 2) M_Day_putOnStandby [.inr (.inr (.ref 36)), .inl r, .inl w] (m_Ex g T, J, X) 0 0 (z_rq (m_Ex g T) (fun v J' X' => X' = X ∧ x_day 36 (k_joinStandby q r w) J' ∧ x_fr J J' ∧ v = (o_joinStandby q r w).2)) := by
  obtain ⟨h0, h1, h2, h3, h4, h5⟩ := hb.1
  have d7 := (hb.ride hr.1 hr.2).2.2.2.2.2.2.1
  have ln := h.line hr.1 hr.2
  have d0 := h.hd.1
  refine z_sem_of z_m11 m_ok_11 (Nat.le_of_ble_eq_true rfl) (fun Wp hs hv hS => ?_)
  refine w_11_0 hs ?_
  have a1 : J (80 + 6 * r.toNat) 2 = q (10 + 14 * r + 7) := ln.2.1
  rw [a1, d0]
  have a2 : (z_u J (81 + 6 * r.toNat) (q (10 + 14 * r + 7)) w) (80 + 6 * r.toNat) 2 = q (10 + 14 * r + 7) := by rw [z_u_ne (by omega)]; exact a1
  rw [a2]
  have a3 : (z_u (z_u J (81 + 6 * r.toNat) (q (10 + 14 * r + 7)) w) (82 + 6 * r.toNat) (q (10 + 14 * r + 7)) (q 0)) (80 + 6 * r.toNat) 2 = q (10 + 14 * r + 7) := by rw [z_u_ne (by omega)]; exact a2
  rw [a3]
  refine ⟨by omega, fun c => ⟨by omega, fun c1 => by omega, fun c1 => ⟨by omega, by omega, _, _, _, rfl, rfl, rfl, ?_, fun b hb9 => ?_, ?_⟩⟩, fun c => ⟨_, _, _, rfl, rfl, rfl, ?_, x_fr.rf, ?_⟩⟩
  · rw [k_joinStandby, if_pos ⟨hr, hw, by omega⟩]
    refine x_stb hb h hr c ?_ ?_ ?_ (fun b hb9 => ?_)
    · rw [z_u_at rfl]
    · rw [z_u_ne (by omega), z_u_ne (by omega), z_u_row]
    · rw [z_u_ne (by omega), z_u_row, z_u_ne (by omega)]
    · rw [z_u_ne (by omega), z_u_ne (by omega), z_u_ne (by omega)]
  · rw [z_u_ne (by omega), z_u_ne (by omega), z_u_ne (by omega)]
  · rw [z_u_at rfl, o_joinStandby, y_need_2 hr, y_need_2 hw, if_neg (by omega)]
  · rw [k_joinStandby, if_neg (by omega)]; exact h
  · rw [o_joinStandby, y_need_2 hr, y_need_2 hw, if_pos (by omega)]
theorem q_joinStandby (hb : y_base q) (h : x_day 36 q J) {r w : Int} : z_Sem l (d + 3) M_Q_joinStandby [.inr (.inr (.ref 0)), .inl r, .inl w] (m_Ex g T, J, X) 4 24 (x_out x_e1 x_e2 (o_joinStandby q r w) (m_Ex g T) (fun J' X' => X' = X ∧ x_day 36 (k_joinStandby q r w) J' ∧ x_fr J J')) := by
  obtain ⟨b0, b1, b2, b3, b4, b5⟩ := hb.1
  obtain ⟨d0, d4, d1, d2, d3, d5⟩ := h.hd
  have t1 : ¬ (0 ≤ r ∧ r < q 1) → x_out x_e1 x_e2 (o_joinStandby q r w) (m_Ex g T) (fun J' X' => X' = X ∧ x_day 36 (k_joinStandby q r w) J' ∧ x_fr J J') (.inr x_e1) (m_Ex g T, J, X) := fun hn => x_t1 (by rw [o_joinStandby, y_need_n hn]) ⟨rfl, by rw [k_joinStandby, if_neg (fun z => hn z.1)]; exact h, x_fr.rf⟩
  have t2 : (0 ≤ r ∧ r < q 1) → ¬ (1 ≤ w ∧ w ≤ 12) → x_out x_e1 x_e2 (o_joinStandby q r w) (m_Ex g T) (fun J' X' => X' = X ∧ x_day 36 (k_joinStandby q r w) J' ∧ x_fr J J') (.inr x_e2) (m_Ex g T, J, X) := fun hp hn => x_t2 (by rw [o_joinStandby, y_need_2 hp, y_need_n hn]) ⟨rfl, by rw [k_joinStandby, if_neg (fun z => hn z.2.1)]; exact h, x_fr.rf⟩
  refine z_sem_of z_m159 m_ok_159 (Nat.le_of_ble_eq_true rfl) (fun Wp hs hv hS => ?_)
  refine w_159_0 hs ?_
  refine ⟨by omega, fun c => t1 (by omega), fun c => ⟨fun c1 => ⟨by omega, fun c2 => t2 (by omega) (by omega), fun c2 => ⟨fun c3 => ?_, fun c3 => t2 (by omega) (by omega)⟩⟩, fun c1 => t1 (by omega)⟩⟩
  refine z_cIq (e_putOnStandby hb h ⟨c, by omega⟩ ⟨c2, c3⟩) ?_
  rintro v J2 X2 ⟨rfl, x2, f2, rfl⟩
  exact x_ok (by rw [o_joinStandby, y_need_2 (by omega), y_need_2 (by omega)]) ⟨rfl, x2, f2⟩
end Q10
