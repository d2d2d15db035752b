/-! the class: tickets are handed out, waitlists served (written by wip/whole/gen77.py) -/
theorem y_base_issued {q : Int → Int} {i v : Int} (hb : y_base q) (hi : 0 ≤ i ∧ i < q 3) (hv : -1 ≤ v ∧ v ≤ 144) : y_base (z_up q (138 + 3 * i + 2) v) := by
  obtain ⟨hh, H1, H2, H3, H4⟩ := hb
  obtain ⟨h0, h1, h2, h3, h4, h5⟩ := hh
  have O : ∀ j, j ≠ 138 + 3 * i + 2 → (z_up q (138 + 3 * i + 2) v) j = q j := fun j hj => by simp (disch := omega) only [z_up_ne]
  have e0 := O 0 (by omega)
  have e1 := O 1 (by omega)
  have e2 := O 2 (by omega)
  have e3 := O 3 (by omega)
  have e4 := O 4 (by omega)
  have e5 := O 5 (by omega)
  have U : y_used (z_up q (138 + 3 * i + 2) v) (q 5).toNat = y_used q (q 5).toNat := by
    unfold y_used
    refine y_sum_congr (fun k hk => ?_)
    rw [O _ (by omega)]
  have A : ∀ i', y_act (z_up q (138 + 3 * i + 2) v) i' (q 5).toNat = y_act q i' (q 5).toNat := by
    intro i'
    unfold y_act
    refine y_sum_congr (fun k hk => ?_)
    rw [O _ (by omega), O _ (by omega)]
  refine ⟨?_, fun r' a1 a2 => ?_, fun t' a1 a2 => ?_, fun i' a1 a2 => ?_, fun t' a1 a2 => ?_⟩
  · unfold y_heads
    rw [e0, e1, e2, e3, e4, e5]
    omega
  · rw [e1] at a2
    obtain ⟨c1, c2, c3, c4⟩ := H1 r' a1 a2
    refine ⟨y_ride_c e0 (fun w b1 b2 => O _ (by omega)) c1, y_lines_c e0 (O _ (by omega)) (O _ (by omega)) c1 (fun j b1 b2 => O _ (by omega)) (fun j b1 b2 => O _ (by omega)) c2, y_wait_c (by omega) (O _ (by omega)) c1 (fun j b1 b2 => O _ (by omega)) c3, ?_⟩
    rw [e5, O _ (by omega)]
    have := U
    omega
  · rw [e2] at a2
    exact y_tier_c (fun w b1 b2 => O _ (by omega)) (H2 t' a1 a2)
  · rw [e3] at a2
    obtain ⟨c1, c2⟩ := H3 i' a1 a2
    refine ⟨?_, ?_⟩
    · by_cases hii : i' = i
      · subst hii
        unfold y_party at *
        rw [z_up_eq rfl, e2, O (138 + 3 * i' + 0) (by omega), O (138 + 3 * i' + 1) (by omega)]
        omega
      · exact y_party_c e2 (fun w b1 b2 => O _ (by omega)) c1
    · rw [e5]
      have := A i'
      omega
  · rw [e5] at a2
    exact y_tk_c (by omega) e1 ⟨h0, h1, h2, h3, h4, h5⟩ (fun w b1 b2 => O _ (by omega)) (fun r' b1 b2 => ⟨O _ (by omega), O _ (by omega)⟩) (H4 t' a1 a2)
section X3
variable {q : Int → Int} {J : z_J} {i r s : Int}
theorem k_tk_old (h5 : 0 ≤ q 5) {j : Int} (h1 : j ≠ 5) (h2 : j < 288 + 6 * q 5 ∨ 288 + 6 * q 5 + 6 ≤ j) : k_tk q i r s j = q j := by
  unfold k_tk
  rw [z_up_ne (by omega), z_up_ne (by omega), z_up_ne (by omega), z_up_ne (by omega), z_up_ne (by omega), z_up_ne (by omega), z_up_ne h1]
theorem k_tk_new (h5 : 0 ≤ q 5) : k_tk q i r s 5 = q 5 + 1 ∧ k_tk q i r s (288 + 6 * q 5 + 0) = i ∧ k_tk q i r s (288 + 6 * q 5 + 1) = r ∧ k_tk q i r s (288 + 6 * q 5 + 2) = s ∧ k_tk q i r s (288 + 6 * q 5 + 3) = s + q (10 + 14 * r + 2) - 1 ∧ k_tk q i r s (288 + 6 * q 5 + 4) = 0 ∧ k_tk q i r s (288 + 6 * q 5 + 5) = 0 := by
  unfold k_tk
  refine ⟨?_, ?_, ?_, ?_, ?_, ?_, ?_⟩
  · rw [z_up_ne (by omega), z_up_ne (by omega), z_up_ne (by omega), z_up_ne (by omega), z_up_ne (by omega), z_up_ne (by omega), z_up_eq rfl]
  · rw [z_up_ne (by omega), z_up_ne (by omega), z_up_ne (by omega), z_up_ne (by omega), z_up_ne (by omega), z_up_eq rfl]
  · rw [z_up_ne (by omega), z_up_ne (by omega), z_up_ne (by omega), z_up_ne (by omega), z_up_eq rfl]
  · rw [z_up_ne (by omega), z_up_ne (by omega), z_up_ne (by omega), z_up_eq rfl]
  · rw [z_up_ne (by omega), z_up_ne (by omega), z_up_eq rfl]
  · rw [z_up_ne (by omega), z_up_eq rfl]
  · rw [z_up_eq rfl]
theorem x_add (hb : y_base q) (h : x_day 36 q J) (h150 : q 5 < 150) : x_day 36 (k_tk q i r s) (z_u (z_u (z_u (z_u (z_u (z_u (z_u J 58 (q 5) i) 59 (q 5) r) 60 (q 5) s) 61 (q 5) (s + q (10 + 14 * r + 2) - 1)) 62 (q 5) 0) 63 (q 5) 0) 57 6 (q 5 + 1)) := by
  have hR := fun r a b => hb.ride (r := r) a b
  obtain ⟨h0, h1, h2, h3, h4, h5⟩ := hb.1
  obtain ⟨k0, k1, k2, k3, k4, k5⟩ := h
  have O := fun (j : Int) => k_tk_old (q := q) (i := i) (r := r) (s := s) h5.1 (j := j)
  have N := k_tk_new (q := q) (i := i) (r := r) (s := s) h5.1
  have hf : ∀ b, b < 57 ∨ 63 < b → (z_u (z_u (z_u (z_u (z_u (z_u (z_u J 58 (q 5) i) 59 (q 5) r) 60 (q 5) s) 61 (q 5) (s + q (10 + 14 * r + 2) - 1)) 62 (q 5) 0) 63 (q 5) 0) 57 6 (q 5 + 1)) b = J b := fun b hb9 => by
    rw [z_u_ne (by omega), z_u_ne (by omega), z_u_ne (by omega), z_u_ne (by omega), z_u_ne (by omega), z_u_ne (by omega), z_u_ne (by omega)]
  have r57 : (z_u (z_u (z_u (z_u (z_u (z_u (z_u J 58 (q 5) i) 59 (q 5) r) 60 (q 5) s) 61 (q 5) (s + q (10 + 14 * r + 2) - 1)) 62 (q 5) 0) 63 (q 5) 0) 57 6 (q 5 + 1)) 57 = z_up (J 57) 6 (q 5 + 1) := rfl
  have r58 : (z_u (z_u (z_u (z_u (z_u (z_u (z_u J 58 (q 5) i) 59 (q 5) r) 60 (q 5) s) 61 (q 5) (s + q (10 + 14 * r + 2) - 1)) 62 (q 5) 0) 63 (q 5) 0) 57 6 (q 5 + 1)) 58 = z_up (J 58) (q 5) i := rfl
  have r59 : (z_u (z_u (z_u (z_u (z_u (z_u (z_u J 58 (q 5) i) 59 (q 5) r) 60 (q 5) s) 61 (q 5) (s + q (10 + 14 * r + 2) - 1)) 62 (q 5) 0) 63 (q 5) 0) 57 6 (q 5 + 1)) 59 = z_up (J 59) (q 5) r := rfl
  have r60 : (z_u (z_u (z_u (z_u (z_u (z_u (z_u J 58 (q 5) i) 59 (q 5) r) 60 (q 5) s) 61 (q 5) (s + q (10 + 14 * r + 2) - 1)) 62 (q 5) 0) 63 (q 5) 0) 57 6 (q 5 + 1)) 60 = z_up (J 60) (q 5) s := rfl
  have r61 : (z_u (z_u (z_u (z_u (z_u (z_u (z_u J 58 (q 5) i) 59 (q 5) r) 60 (q 5) s) 61 (q 5) (s + q (10 + 14 * r + 2) - 1)) 62 (q 5) 0) 63 (q 5) 0) 57 6 (q 5 + 1)) 61 = z_up (J 61) (q 5) (s + q (10 + 14 * r + 2) - 1) := rfl
  have r62 : (z_u (z_u (z_u (z_u (z_u (z_u (z_u J 58 (q 5) i) 59 (q 5) r) 60 (q 5) s) 61 (q 5) (s + q (10 + 14 * r + 2) - 1)) 62 (q 5) 0) 63 (q 5) 0) 57 6 (q 5 + 1)) 62 = z_up (J 62) (q 5) 0 := rfl
  have r63 : (z_u (z_u (z_u (z_u (z_u (z_u (z_u J 58 (q 5) i) 59 (q 5) r) 60 (q 5) s) 61 (q 5) (s + q (10 + 14 * r + 2) - 1)) 62 (q 5) 0) 63 (q 5) 0) 57 6 (q 5 + 1)) 63 = z_up (J 63) (q 5) 0 := rfl
  generalize z_u (z_u (z_u (z_u (z_u (z_u (z_u J 58 (q 5) i) 59 (q 5) r) 60 (q 5) s) 61 (q 5) (s + q (10 + 14 * r + 2) - 1)) 62 (q 5) 0) 63 (q 5) 0) 57 6 (q 5 + 1) = J' at *
  have e1 := O 1 (by omega) (by omega)
  have e2 := O 2 (by omega) (by omega)
  have e3 := O 3 (by omega) (by omega)
  refine ⟨?_, fun r' a1 a2 => ?_, fun t' a1 a2 => ?_, fun i' a1 a2 => ?_, fun t' a1 a2 => ?_, fun r5 a1 a2 => by have w5 := k5 r5 (by omega) a2; rw [hf _ (by omega), hf _ (by omega), hf _ (by omega)]; exact w5⟩
  · obtain ⟨y0, y1, y2, y3, y4, y5⟩ := k0
    refine ⟨?_, ?_, ?_, ?_, ?_, ?_⟩
    · rw [hf 36 (by omega), O 0 (by omega) (by omega)]; exact y0
    · rw [hf 36 (by omega), O 4 (by omega) (by omega)]; exact y1
    · rw [hf (36 + 1) (by omega), e1]; exact y2
    · rw [hf (36 + 13) (by omega), e2]; exact y3
    · rw [hf (36 + 13) (by omega), e3]; exact y4
    · show J' 57 6 = _
      rw [r57, z_up_eq rfl, N.1]
  · rw [e1] at a2
    obtain ⟨c1, c2, c3⟩ := k1 r' a1 a2
    have w6 := (hR r' a1 a2).2.2.2.2.2.1
    have w7 := (hR r' a1 a2).2.2.2.2.2.2.1
    have w13 := (hR r' a1 a2).2.2.2.2.2.2.2.2.2.2.2
    have g6 := O (10 + 14 * r' + 6) (by omega) (by omega)
    have g7 := O (10 + 14 * r' + 7) (by omega) (by omega)
    have g13 := O (10 + 14 * r' + 13) (by omega) (by omega)
    refine ⟨?_, ⟨?_, ?_, fun k b1 b2 => ?_, fun k b1 b2 => ?_⟩, ?_, fun k b1 b2 => ?_⟩
    · unfold x_ride at *
      rw [hf (36 + 2) (by omega), hf (36 + 3) (by omega), hf (36 + 4) (by omega), hf (36 + 5) (by omega), hf (36 + 6) (by omega), hf (36 + 7) (by omega), hf (36 + 8) (by omega), hf (36 + 9) (by omega), hf (36 + 10) (by omega), hf (36 + 11) (by omega), hf (36 + 12) (by omega), O (10 + 14 * r' + 0) (by omega) (by omega), O (10 + 14 * r' + 1) (by omega) (by omega), O (10 + 14 * r' + 2) (by omega) (by omega), O (10 + 14 * r' + 3) (by omega) (by omega), O (10 + 14 * r' + 4) (by omega) (by omega), O (10 + 14 * r' + 5) (by omega) (by omega), O (10 + 14 * r' + 8) (by omega) (by omega), O (10 + 14 * r' + 9) (by omega) (by omega), O (10 + 14 * r' + 11) (by omega) (by omega), O (10 + 14 * r' + 10) (by omega) (by omega), O (10 + 14 * r' + 12) (by omega) (by omega)]
      exact c1
    · rw [hf _ (by omega), g6]; exact c2.1
    · rw [hf _ (by omega), g7]; exact c2.2.1
    · rw [g6] at b2
      rw [hf _ (by omega), hf _ (by omega), O _ (by omega) (by omega), O _ (by omega) (by omega)]
      exact c2.2.2.1 k b1 b2
    · rw [g7] at b2
      rw [hf _ (by omega), hf _ (by omega), O _ (by omega) (by omega), O _ (by omega) (by omega)]
      exact c2.2.2.2 k b1 b2
    · rw [hf _ (by omega), g13]; exact c3.1
    · rw [g13] at b2
      rw [hf _ (by omega), O _ (by omega) (by omega)]
      exact c3.2 k b1 b2
  · rw [e2] at a2
    have c := k2 t' a1 a2
    unfold x_tier at *
    rw [hf (36 + 14) (by omega), hf (36 + 15) (by omega), hf (36 + 16) (by omega), hf (36 + 17) (by omega), O (122 + 4 * t' + 0) (by omega) (by omega), O (122 + 4 * t' + 1) (by omega) (by omega), O (122 + 4 * t' + 2) (by omega) (by omega), O (122 + 4 * t' + 3) (by omega) (by omega)]
    exact c
  · rw [e3] at a2
    have c := k3 i' a1 a2
    unfold x_party at *
    rw [hf (36 + 18) (by omega), hf (36 + 19) (by omega), hf (36 + 20) (by omega), O (138 + 3 * i' + 0) (by omega) (by omega), O (138 + 3 * i' + 1) (by omega) (by omega), O (138 + 3 * i' + 2) (by omega) (by omega)]
    exact c
  · rw [N.1] at a2
    show J' 58 t' = _ ∧ J' 59 t' = _ ∧ J' 60 t' = _ ∧ J' 61 t' = _ ∧ J' 62 t' = _ ∧ J' 63 t' = _
    rw [r58, r59, r60, r61, r62, r63]
    by_cases ht : t' = q 5
    · subst ht
      rw [z_up_eq rfl, z_up_eq rfl, z_up_eq rfl, z_up_eq rfl, z_up_eq rfl, z_up_eq rfl, N.2.1, N.2.2.1, N.2.2.2.1, N.2.2.2.2.1, N.2.2.2.2.2.1, N.2.2.2.2.2.2]
      exact ⟨rfl, rfl, rfl, rfl, rfl, rfl⟩
    · rw [z_up_ne ht, z_up_ne ht, z_up_ne ht, z_up_ne ht, z_up_ne ht, z_up_ne ht, O (288 + 6 * t' + 0) (by omega) (by omega), O (288 + 6 * t' + 1) (by omega) (by omega), O (288 + 6 * t' + 2) (by omega) (by omega), O (288 + 6 * t' + 3) (by omega) (by omega), O (288 + 6 * t' + 4) (by omega) (by omega), O (288 + 6 * t' + 5) (by omega) (by omega)]
      exact k4 t' a1 (by omega)
end X3
/-- the class's day changes, with its scratch rows; all else stays -/
def x_fr (J J' : z_J) : Prop := ∀ b, (b < 36 ∨ 144 < b) → J' b = J b
theorem x_fr.rf {J : z_J} : x_fr J J := fun _ _ => rfl
theorem x_fr.tr {J J1 J2 : z_J} (h1 : x_fr J J1) (h2 : x_fr J1 J2) : x_fr J J2 := fun b hb => (h2 b hb).trans (h1 b hb)
theorem x_sc.fr {J J' : z_J} (h : x_sc J J') : x_fr J J' := fun b hb => h b (by omega)
theorem x_sc.day {J J' : z_J} {q : Int → Int} (h : x_sc J J') (hq : q 1 ≤ 8) (hd : x_day 36 q J) : x_day 36 q J' := x_day_congr (fun b hb => h b (by omega)) hq hd
section Q6
variable {l : Launch} {d : Nat} {g : List (Option Nat)} {T : m_E} {J : z_J} {X : z_X} {q : Int → Int}
theorem e_hand (hb : y_base q) (h : x_day 36 q J) {i r s : Int} (hi : 0 ≤ i ∧ i < q 3) (hr : 0 ≤ r ∧ r < q 1) (hs0 : 0 ≤ s ∧ s ≤ 143) (h150 : q 5 < 150) : z_Sem l (d + 3) M_Desk_hand [.inr (.inr (.ref 125)), .inr (.inr (.ref 36)), .inl i, .inl r, .inl s] (m_Ex g T, J, X) 0 0 (z_rq (m_Ex g T) (fun v J' X' => X' = X ∧ x_day 36 (k_leave (k_add q i r s) i r) J' ∧ x_fr J J' ∧ v = q 5)) := by
  obtain ⟨h0, h1, h2, h3, h4, h5⟩ := hb.1
  obtain ⟨-, -, r2, -⟩ := hb.ride hr.1 hr.2
  have rd := h.ride hr.1 hr.2
  have d0 := h.hd.1
  refine z_sem_of z_m25 m_ok_25 (Nat.le_of_ble_eq_true rfl) (fun Wp hs hv hS => ?_)
  refine w_25_0 hs ?_
  rw [rd.2.2.1, d0]
  have bq := y_base_issued (v := q 0) hb hi (by omega)
  have xq := x_lastIssue (v := q 0) hb h hi
  have n1 : z_up q (138 + 3 * i + 2) (q 0) 1 = q 1 := z_up_ne (by omega)
  have n5 : z_up q (138 + 3 * i + 2) (q 0) 5 = q 5 := z_up_ne (by omega)
  have hr' : 0 ≤ r ∧ r < z_up q (138 + 3 * i + 2) (q 0) 1 := by rw [n1]; exact hr
  refine ⟨by omega, z_cIq (e_remove (i := i) bq xq hr') ?_⟩
  rintro v J2 X2 ⟨rfl, x2, f2, rfl⟩
  have b2 := y_base_leave (i := i) bq hr'
  have m5 : k_leave (z_up q (138 + 3 * i + 2) (q 0)) i r 5 = q 5 := by rw [k_leave_old hr.1 (by omega) (by omega), n5]
  have m2 : k_leave (z_up q (138 + 3 * i + 2) (q 0)) i r (10 + 14 * r + 2) = q (10 + 14 * r + 2) := by rw [k_leave_old hr.1 (by omega) (by omega), z_up_ne (by omega)]
  have d5 : J2 57 6 = q 5 := by rw [x2.hd.2.2.2.2.2, m5]
  rw [d5]
  refine ⟨fun c => ⟨by omega, _, _, _, rfl, rfl, rfl, ?_, fun b hb9 => ?_, by omega⟩, fun c => by omega⟩
  · have := x_add (i := i) (r := r) (s := s) b2 x2 (by rw [m5]; exact h150)
    rw [m5, m2, k_hand hb hi hr h150] at this
    exact this
  · rw [z_u_ne (by omega), z_u_ne (by omega), z_u_ne (by omega), z_u_ne (by omega), z_u_ne (by omega), z_u_ne (by omega), z_u_ne (by omega), f2 b (by omega), z_u_ne (by omega)]
theorem e_issueTo (hb : y_base q) (h : x_day 36 q J) {i r e : Int} (hi : 0 ≤ i ∧ i < q 3) (hr : 0 ≤ r ∧ r < q 1) (he : 0 ≤ e) : z_Sem l (d + 4) M_Desk_issueTo [.inr (.inr (.ref 125)), .inr (.inr (.ref 36)), .inl i, .inl r, .inl e] (m_Ex g T, J, X) 0 0 (z_rq (m_Ex g T) (fun v J' X' => X' = X ∧ x_day 36 (if y_try q i r e < 0 then q else k_leave (k_try q i r e) i r) J' ∧ x_fr J J' ∧ v = y_try q i r e)) := by
  have h1 := hb.1.2.1
  have h5 := hb.1.2.2.2.2.2
  refine z_sem_of z_m21 m_ok_21 (Nat.le_of_ble_eq_true rfl) (fun Wp hs hv hS => ?_)
  refine w_21_0 hs ?_
  refine z_cIq (e_startFor hb h hi hr he) ?_
  rintro v J2 X2 ⟨rfl, s2, rfl⟩
  refine ⟨fun c => ?_, fun c => ⟨_, _, _, rfl, rfl, rfl, ?_, s2.fr, ?_⟩⟩
  · obtain ⟨w1, w2, w3, w4⟩ := y_wf_pos hb hi hr he c
    refine z_cIq (e_hand hb (s2.day h1.2 h) hi hr w2 w3) ?_
    rintro v J3 X3 ⟨rfl, x3, f3, rfl⟩
    refine ⟨_, _, _, rfl, rfl, rfl, ?_, s2.fr.tr f3, ?_⟩
    · have ey : y_try q i r e = q 5 := by rw [y_try, if_neg (by omega)]
      rw [ey, if_neg (by omega), k_try, if_neg (by omega)]; exact x3
    · rw [y_try, if_neg (by omega)]
  · rw [y_try, if_pos c, if_pos c]; exact s2.day h1.2 h
  · rw [y_try, if_pos c]
theorem y_place_at {q : Int → Int} (hb : y_base q) {r k : Int} (hr : 0 ≤ r ∧ r < q 1) (hk : 0 ≤ k ∧ k < q (10 + 14 * r + 13)) : y_place q (q (4564 + 50 * r + k)) r = k := by
  have w := (hb.2.1 r hr.1 hr.2).2.2.1.2
  unfold y_place
  have := y_first_at (f := y_pl q (q (4564 + 50 * r + k)) r) (n := (q (10 + 14 * r + 13)).toNat) (k := k.toNat) (by omega) (y_any_false.mpr (fun j hj => ?_)) ?_
  · rw [this]; omega
  · rw [y_pl, decide_eq_false_iff_not]
    exact w j k (by omega) (by omega) hk.2
  · rw [y_pl, decide_eq_true_eq, show (k.toNat : Int) = k by omega]
theorem e_serve (hb : y_base q) (h : x_day 36 q J) {r : Int} (hr : 0 ≤ r ∧ r < q 1) : z_Sem l (d + 4) M_Desk_serve [.inr (.inr (.ref 125)), .inr (.inr (.ref 36)), .inl r] (m_Ex g T, J, X) 0 0 (z_rq (m_Ex g T) (fun v J' X' => X' = X ∧ x_day 36 (k_serve q r) J' ∧ x_fr J J' ∧ v = y_served q r)) := by
  have c13 := (hb.ride hr.1 hr.2).2.2.2.2.2.2.2.2.2.2.2
  have w0 := h.wait hr.1 hr.2
  have h18 := hb.1.2.1
  refine z_sem_of z_m28 m_ok_28 (Nat.le_of_ble_eq_true rfl) (fun Wp hs hv hS => ?_)
  have loop : ∀ (m : Nat) (q1 : Int → Int) (J1 : z_J) (k n : Int), x_fr J J1 → x_day 36 q1 J1 → y_base q1 → r < q1 1 → 0 ≤ k → k + m = q1 (10 + 14 * r + 13) → 0 ≤ n → n + m ≤ 50 → y_serve r m q1 k n = y_serve r (q (10 + 14 * r + 13)).toNat q 0 0 → Wp 19 [some (.inr (.inr (.ref 125))), some (.inr (.inr (.ref 36))), some (.inl r), some (.inl (q (10 + 14 * r + 13))), some (.inl k), some (.inl n), some (.inl (q (10 + 14 * r + 13) - m)), none, none] [] (m_Ex g T, J1, X) 0 0 := by
    intro m
    induction m with
    | zero =>
      intro q1 J1 k n ht hx hq hr1 hk hm hn hnm hE
      refine w_28_19 hs ?_
      refine ⟨fun c => ⟨_, _, _, rfl, rfl, rfl, ?_, ht, ?_⟩, fun c => by omega⟩
      · rw [k_serve, ← hE]; exact hx
      · rw [y_served, ← hE]; rfl
    | succ m ih =>
      intro q1 J1 k n ht hx hq hr1 hk hm hn hnm hE
      have h1 := hq.1.2.1
      have h0 := hq.1.1
      have c14 := (hq.ride hr.1 hr1).2.2.2.2.2.2.2.2.2.2.2
      have w := (hq.2.1 r hr.1 hr1).2.2.1.1 k hk (by omega)
      have wx := (hx.wait hr.1 hr1).2 k hk (by omega)
      have d0 := hx.hd.1
      rw [y_serve] at hE
      refine w_28_19 hs ?_
      rw [wx, d0]
      refine ⟨fun c => by omega, fun c => ⟨by omega, by omega, z_cIq (e_startFor hq hx w ⟨hr.1, hr1⟩ h0.1) ?_⟩⟩
      rintro v J2 X2 ⟨rfl, s2, rfl⟩
      refine ⟨fun c1 => ⟨by omega, ?_⟩, fun c1 => ?_⟩
      · rw [if_pos c1] at hE
        have := ih q1 J2 (k + 1) n (ht.tr s2.fr) (s2.day h1.2 hx) hq hr1 (by omega) (by omega) hn (by omega) hE
        rw [show q (10 + 14 * r + 13) - ((m + 1 : Nat) : Int) + 1 = q (10 + 14 * r + 13) - m by omega]
        exact this
      · rw [if_neg (by omega)] at hE
        obtain ⟨w1, w2, w3, w4⟩ := y_wf_pos hq w ⟨hr.1, hr1⟩ h0.1 c1
        refine z_cIq (e_hand hq (s2.day h1.2 hx) w ⟨hr.1, hr1⟩ w2 w3) ?_
        rintro v9 J3 X3 ⟨rfl, x3, f3, rfl⟩
        have b1 := y_base_add hq w ⟨hr.1, hr1⟩ w1 w3 w4
        have e := k_add_13 hq (s := y_wf q1 (q1 (4564 + 50 * r + k)) r (q1 0)) w ⟨hr.1, hr1⟩
        have hr2 : 0 ≤ r ∧ r < k_add q1 (q1 (4564 + 50 * r + k)) r (y_wf q1 (q1 (4564 + 50 * r + k)) r (q1 0)) 1 := ⟨hr.1, by rw [e.2.1]; exact hr1⟩
        have hx2 : 0 ≤ k ∧ k < k_add q1 (q1 (4564 + 50 * r + k)) r (y_wf q1 (q1 (4564 + 50 * r + k)) r (q1 0)) (10 + 14 * r + 13) := ⟨hk, by rw [e.1]; omega⟩
        have ew : k_add q1 (q1 (4564 + 50 * r + k)) r (y_wf q1 (q1 (4564 + 50 * r + k)) r (q1 0)) (4564 + 50 * r + k) = q1 (4564 + 50 * r + k) := k_add_old (by have := hq.1.2.2.2.1; omega) (by have := hq.1.2.2.2.2.2; omega) (by omega) (by omega) (by have := hq.1.2.2.2.1; omega)
        have pl := y_place_at b1 hr2 hx2
        rw [ew] at pl
        rw [k_leave, pl, if_neg (by omega)] at x3
        have e3 := (k_rm_hd (q := k_add q1 (q1 (4564 + 50 * r + k)) r (y_wf q1 (q1 (4564 + 50 * r + k)) r (q1 0))) (r := r) (x := k) hr.1 hk).1
        have := ih _ J3 k (n + 1) ((ht.tr s2.fr).tr f3) x3 (y_base_rm b1 hr2 hx2) (by rw [e3]; exact hr2.2) hk (by rw [k_rm_13, e.1]; omega) (by omega) (by omega) hE
        rw [show q (10 + 14 * r + 13) - ((m + 1 : Nat) : Int) + 1 = q (10 + 14 * r + 13) - m by omega]
        exact ⟨by omega, this⟩
  refine w_28_0 hs ?_
  rw [w0.1]
  have := loop (q (10 + 14 * r + 13)).toNat q J 0 0 x_fr.rf h hb hr.2 (by omega) (by omega) (by omega) (by omega) rfl
  rw [show q (10 + 14 * r + 13) - ((q (10 + 14 * r + 13)).toNat : Int) = 0 by omega] at this
  exact ⟨by omega, this⟩
end Q6
