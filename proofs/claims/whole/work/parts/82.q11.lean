/-! the class: tickets are moved and exchanged (written by wip/whole/gen82.py) -/
section X6
variable {q : Int → Int} {J J' : z_J}
theorem x_win {t s e : Int} (hb : y_base q) (h : x_day 36 q J) (ht : 0 ≤ t ∧ t < q 5) : x_day 36 (z_up (z_up (z_up q (288 + 6 * t + 2) s) (288 + 6 * t + 3) e) (288 + 6 * t + 4) 0) (z_u (z_u (z_u J 60 t s) 61 t e) 63 t 0) := by
  have hR := fun r a b => hb.ride (r := r) a b
  obtain ⟨h0, h1, h2, h3, h4, h5⟩ := hb.1
  obtain ⟨k0, k1, k2, k3, k4, k5⟩ := h
  have O : ∀ j, j ≠ 288 + 6 * t + 2 ∧ j ≠ 288 + 6 * t + 3 ∧ j ≠ 288 + 6 * t + 4 → (z_up (z_up (z_up q (288 + 6 * t + 2) s) (288 + 6 * t + 3) e) (288 + 6 * t + 4) 0) j = q j := by
    intro j hj; rw [z_up_ne (by omega), z_up_ne (by omega), z_up_ne (by omega)]
  have v2 : (z_up (z_up (z_up q (288 + 6 * t + 2) s) (288 + 6 * t + 3) e) (288 + 6 * t + 4) 0) (288 + 6 * t + 2) = s := by rw [z_up_ne (by omega), z_up_ne (by omega), z_up_eq rfl]
  have v3 : (z_up (z_up (z_up q (288 + 6 * t + 2) s) (288 + 6 * t + 3) e) (288 + 6 * t + 4) 0) (288 + 6 * t + 3) = e := by rw [z_up_ne (by omega), z_up_eq rfl]
  have v4 : (z_up (z_up (z_up q (288 + 6 * t + 2) s) (288 + 6 * t + 3) e) (288 + 6 * t + 4) 0) (288 + 6 * t + 4) = 0 := by rw [z_up_eq rfl]
  have hf : ∀ b, b ≠ 60 ∧ b ≠ 61 ∧ b ≠ 63 → (z_u (z_u (z_u J 60 t s) 61 t e) 63 t 0) b = J b := fun b hb9 => by
    rw [z_u_ne (by omega), z_u_ne (by omega), z_u_ne (by omega)]
  have r60 : (z_u (z_u (z_u J 60 t s) 61 t e) 63 t 0) 60 = z_up (J 60) t s := rfl
  have r61 : (z_u (z_u (z_u J 60 t s) 61 t e) 63 t 0) 61 = z_up (J 61) t e := rfl
  have r63 : (z_u (z_u (z_u J 60 t s) 61 t e) 63 t 0) 63 = z_up (J 63) t 0 := rfl
  generalize z_u (z_u (z_u J 60 t s) 61 t e) 63 t 0 = J' at *
  generalize z_up (z_up (z_up q (288 + 6 * t + 2) s) (288 + 6 * t + 3) e) (288 + 6 * t + 4) 0 = q' at *
  have e1 := O 1 (by omega)
  have e2 := O 2 (by omega)
  have e3 := O 3 (by omega)
  have e5 := O 5 (by omega)
  refine ⟨x_heads_c (fun b hb9 => hf b (by omega)) (fun j a1 a2 => O _ (by omega)) k0, fun r' a1 a2 => ?_, fun t' a1 a2 => ?_, fun i' a1 a2 => ?_, fun t' a1 a2 => ?_, fun r5 a1 a2 => by have w5 := k5 r5 (by omega) a2; rw [hf _ (by omega), hf _ (by omega), hf _ (by omega)]; exact w5⟩
  · rw [e1] at a2
    obtain ⟨c1, c2, c3⟩ := k1 r' a1 a2
    have w6 := (hR r' a1 a2).2.2.2.2.2.1
    have w7 := (hR r' a1 a2).2.2.2.2.2.2.1
    have w13 := (hR r' a1 a2).2.2.2.2.2.2.2.2.2.2.2
    exact ⟨x_ride_c (fun b b1 b2 => hf b (by omega)) (fun w b1 b2 b3 b4 => O _ (by omega)) c1, x_line_c (by omega) (by omega) (fun b b1 b2 => hf b (by omega)) (O _ (by omega)) (O _ (by omega)) (fun j b1 b2 => O _ (by omega)) (fun j b1 b2 => O _ (by omega)) c2, x_wait_c (by omega) (fun b b1 => hf b (by omega)) (O _ (by omega)) (fun j b1 b2 => O _ (by omega)) c3⟩
  · rw [e2] at a2
    exact x_tier_c (fun b b1 b2 => hf b (by omega)) (fun w b1 b2 => O _ (by omega)) (k2 t' a1 a2)
  · rw [e3] at a2
    exact x_party_c (fun b b1 b2 => hf b (by omega)) (fun w b1 b2 => O _ (by omega)) (k3 i' a1 a2)
  · rw [e5] at a2
    obtain ⟨y0, y1, y2, y3, y4, y5⟩ := k4 t' a1 a2
    refine ⟨?_, ?_, ?_, ?_, ?_, ?_⟩
    · rw [hf _ (by omega), O _ (by omega)]; exact y0
    · rw [hf _ (by omega), O _ (by omega)]; exact y1
    · show J' 60 t' = _
      rw [r60]
      by_cases htt : t' = t
      · rw [z_up_eq htt, htt, v2]
      · rw [z_up_ne htt, O _ (by omega)]; exact y2
    · show J' 61 t' = _
      rw [r61]
      by_cases htt : t' = t
      · rw [z_up_eq htt, htt, v3]
      · rw [z_up_ne htt, O _ (by omega)]; exact y3
    · rw [hf _ (by omega), O _ (by omega)]; exact y4
    · show J' 63 t' = _
      rw [r63]
      by_cases htt : t' = t
      · rw [z_up_eq htt, htt, v4]
      · rw [z_up_ne htt, O _ (by omega)]; exact y5
theorem y_slotX {t i r e : Int} {f1 f2 : Int → Int} (hb : y_base q) (ht : 0 ≤ t ∧ t < q 5) (hi : 0 ≤ i ∧ i < q 3) (hr : 0 ≤ r ∧ r < q 1) (he : 0 ≤ e) (hf1 : ∀ s, 0 ≤ s → s < 144 → f1 s = y_freeX q r t s) (hf2 : ∀ s, 0 ≤ s → s < 168 → f2 s = y_takenX q i (-1) t s) : y_4 (y_win f1 f2 (q (138 + 3 * i + 1)) (q (10 + 14 * r + 2)) (max e (q 0)) (min (q 0 + q (122 + 4 * q (138 + 3 * i + 0) + 1)) (q (10 + 14 * r + 4)))) = y_slot (z_up q (288 + 6 * t + 5) 3) i r e := by
  have h1 := hb.1.2.1
  have h3 := hb.1.2.2.2.1
  have p := hb.party hi.1 hi.2
  obtain ⟨-, -, r2, r3, -⟩ := hb.ride hr.1 hr.2
  have n0 : z_up q (288 + 6 * t + 5) 3 0 = q 0 := z_up_ne (by omega)
  have n2 : z_up q (288 + 6 * t + 5) 3 (10 + 14 * r + 2) = q (10 + 14 * r + 2) := z_up_ne (by omega)
  have n4 : z_up q (288 + 6 * t + 5) 3 (10 + 14 * r + 4) = q (10 + 14 * r + 4) := z_up_ne (by omega)
  have ns : y_size (z_up q (288 + 6 * t + 5) 3) i = q (138 + 3 * i + 1) := z_up_ne (by omega)
  have nl : y_late (z_up q (288 + 6 * t + 5) 3) i = q 0 + q (122 + 4 * q (138 + 3 * i + 0) + 1) := by
    unfold y_late
    rw [n0, z_up_ne (show 138 + 3 * i + 0 ≠ 288 + 6 * t + 5 by omega), z_up_ne (by omega)]
  rw [y_slot, n0, n2, n4, ns, nl]
  congr 1
  refine y_win_congr (fun s a1 a2 => ?_) (fun s a1 a2 => ?_)
  · rw [hf1 s (by omega) (by omega), y_freeX_one ht hb hr]
  · rw [hf2 s (by omega) (by omega), y_takenX_one hb ht]
end X6
section Q11
variable {l : Launch} {d : Nat} {g : List (Option Nat)} {T : m_E} {J : z_J} {X : z_X} {q : Int → Int}
theorem e_move (hb : y_base q) (h : x_day 36 q J) {t e : Int} (ht : 0 ≤ t ∧ t < q 5) (he : 0 ≤ e ∧ e ≤ 143) : z_Sem l (d + 5) M_Desk_move [.inr (.inr (.ref 125)), .inr (.inr (.ref 36)), .inl t, .inl e] (m_Ex g T, J, X) 0 0 (z_rq (m_Ex g T) (fun v J' X' => X' = X ∧ x_day 36 (k_moveTicket q t e) J' ∧ x_fr J J' ∧ v = (o_moveTicket q t e).2)) := by
  obtain ⟨h0, h1, h2, h3, h4, h5⟩ := hb.1
  have k1 := (hb.2.2.2.2 t ht.1 ht.2).1
  have k2 := (hb.2.2.2.2 t ht.1 ht.2).2.1
  have f := h.tk ht.1 ht.2
  have rd := h.ride k2.1 k2.2
  have rb := hb.ride k2.1 k2.2
  have p := hb.party k1.1 k1.2
  have fp := h.party k1.1 k1.2
  have ft := h.tier p.1.1 p.1.2.2
  have th := p.2.2.2.2.2.1
  have dn := rb.2.2.2.2.1
  have bad : ∀ (x : Int) (J1 : z_J), o_moveTicket q t e = (0, x) → x < 0 → x_day 36 q J1 → x_fr J J1 → z_rq (m_Ex g T) (fun v J' X' => X' = X ∧ x_day 36 (k_moveTicket q t e) J' ∧ x_fr J J' ∧ v = (o_moveTicket q t e).2) (.inl (some (.inl x))) (m_Ex g T, J1, X) := by
    intro x J1 ho hn hx hf
    rw [k_moveTicket, ho, if_neg (by show ¬ ((0 : Int) = 0 ∧ 0 ≤ x); omega)]
    exact ⟨_, _, _, rfl, rfl, rfl, hx, hf, rfl⟩
  refine z_sem_of z_m27 m_ok_27 (Nat.le_of_ble_eq_true rfl) (fun Wp hs hv hS => ?_)
  refine w_27_0 hs ?_
  rw [f.1, f.2.1, f.2.2.2.2.1, rd.2.2.2.2.2.1]
  refine ⟨by omega, fun c => ⟨by omega, fun c1 => ?_, fun c1 => bad (-5) J (by rw [o_moveTicket, y_need_2 ht, y_need_2 he, if_neg (fun z => z c), if_pos (by omega)]) (by omega) h x_fr.rf⟩, fun c => bad (-1) J (by rw [o_moveTicket, y_need_2 ht, y_need_2 he, if_pos c]) (by omega) h x_fr.rf⟩
  have ho : o_moveTicket q t e = (0, y_mv q t e) := by rw [o_moveTicket, y_need_2 ht, y_need_2 he, if_neg (fun z => z c), if_neg (by omega)]
  refine z_cVq (e_fillFreea hb h k2) ?_
  rintro J2 X2 ⟨rfl, f1, rfl, hf1⟩
  have x2 := h.row (a := 126) (by omega) h1.2 (f := f1)
  refine z_cVq (e_fillTakena (J := z_row J 126 f1) hb x2) ?_
  rintro J3 X3 ⟨rfl, f2, rfl, hf2⟩
  have x3 := x2.row (a := 127) (by omega) h1.2 (f := f2)
  simp only [show (z_row (z_row J 126 f1) 127 f2) 54 = J 54 from rfl, show (z_row (z_row J 126 f1) 127 f2) 55 = J 55 from rfl, show (z_row (z_row J 126 f1) 127 f2) 51 = J 51 from rfl, fp.1, fp.2.1, ft.2.1]
  refine ⟨by omega, z_cI (e_firstStart (J := z_row (z_row J 126 f1) 127 f2) hb x3 k2 he.1 (by omega)) ?_⟩
  have ev : y_4 (y_win ((z_row (z_row J 126 f1) 127 f2) 126) ((z_row (z_row J 126 f1) 127 f2) 127) (q (138 + 3 * q (288 + 6 * t + 0) + 1)) (q (10 + 14 * q (288 + 6 * t + 1) + 2)) (max e (q 0)) (min (q 0 + q (122 + 4 * q (138 + 3 * q (288 + 6 * t + 0) + 0) + 1)) (q (10 + 14 * q (288 + 6 * t + 1) + 4)))) = y_mv q t e := y_slotX hb ht k1 k2 he.1 hf1 hf2
  rw [ev]
  have s3 : x_fr J (z_row (z_row J 126 f1) 127 f2) := fun b hb9 => by rw [z_row_ne (by omega), z_row_ne (by omega)]
  refine ⟨fun c2 => ?_, fun c2 => bad _ _ ho c2 x3 s3⟩
  have bq := y_base_state (v := 3) hb ht (by omega) (by omega) (by omega)
  have n1 : z_up q (288 + 6 * t + 5) 3 1 = q 1 := z_up_ne (by omega)
  have n3 : z_up q (288 + 6 * t + 5) 3 3 = q 3 := z_up_ne (by omega)
  have hi' : 0 ≤ q (288 + 6 * t + 0) ∧ q (288 + 6 * t + 0) < z_up q (288 + 6 * t + 5) 3 3 := by rw [n3]; exact k1
  have hr' : 0 ≤ q (288 + 6 * t + 1) ∧ q (288 + 6 * t + 1) < z_up q (288 + 6 * t + 5) 3 1 := by rw [n1]; exact k2
  have sp := y_slot_pos bq hi' hr' he.1 (show y_mv q t e ≠ -4 by omega)
  rw [z_up_ne (show 10 + 14 * q (288 + 6 * t + 1) + 3 ≠ 288 + 6 * t + 5 by omega), z_up_ne (show 10 + 14 * q (288 + 6 * t + 1) + 4 ≠ 288 + 6 * t + 5 by omega)] at sp
  have sp : (q (10 + 14 * q (288 + 6 * t + 1) + 3) ≤ y_mv q t e ∧ y_mv q t e ≤ q (10 + 14 * q (288 + 6 * t + 1) + 4)) ∧ (0 ≤ y_mv q t e ∧ y_mv q t e ≤ 143) := sp
  have bw := k_win_b hb ht sp.1
  have nw : k_win q t (y_mv q t e) 1 = q 1 := by unfold k_win; rw [z_up_ne (by omega), z_up_ne (by omega), z_up_ne (by omega)]
  rw [show (z_row (z_row J 126 f1) 127 f2) 40 = J 40 from rfl, rd.2.2.1]
  have r2 := rb.2.2.1
  have xw : x_day 36 (k_win q t (y_mv q t e)) (z_u (z_u (z_u (z_row (z_row J 126 f1) 127 f2) 60 t (y_mv q t e)) 61 t (y_mv q t e + q (10 + 14 * q (288 + 6 * t + 1) + 2) - 1)) 63 t 0) := x_win hb x3 ht
  refine ⟨by omega, z_cIq (e_serve bw xw ⟨k2.1, by rw [nw]; exact k2.2⟩) ?_⟩
  rintro v J4 X4 ⟨rfl, x4, f4, rfl⟩
  refine ⟨_, _, _, rfl, rfl, rfl, ?_, fun b hb9 => ?_, by rw [ho]⟩
  · rw [k_moveTicket, ho, if_pos ⟨rfl, sp.2.1⟩]; exact x4
  · rw [f4 b hb9, z_u_ne (by omega), z_u_ne (by omega), z_u_ne (by omega)]; exact s3 b hb9
theorem q_moveTicket (hb : y_base q) (h : x_day 36 q J) {t e : Int} : z_Sem l (d + 6) M_Q_moveTicket [.inr (.inr (.ref 0)), .inl t, .inl e] (m_Ex g T, J, X) 4 24 (x_out x_e1 x_e2 (o_moveTicket q t e) (m_Ex g T) (fun J' X' => X' = X ∧ x_day 36 (k_moveTicket q t e) J' ∧ x_fr J J')) := by
  obtain ⟨b0, b1, b2, b3, b4, b5⟩ := hb.1
  obtain ⟨d0, d4, d1, d2, d3, d5⟩ := h.hd
  have t1 : ¬ (0 ≤ t ∧ t < q 5) → x_out x_e1 x_e2 (o_moveTicket q t e) (m_Ex g T) (fun J' X' => X' = X ∧ x_day 36 (k_moveTicket q t e) J' ∧ x_fr J J') (.inr x_e1) (m_Ex g T, J, X) := fun hn => by
    have ho : o_moveTicket q t e = (1, 0) := by rw [o_moveTicket, y_need_n hn]
    exact x_t1 ho ⟨rfl, by rw [k_moveTicket, ho, if_neg (by show ¬ ((1 : Int) = 0 ∧ (0 : Int) ≤ 0); omega)]; exact h, x_fr.rf⟩
  have t2 : (0 ≤ t ∧ t < q 5) → ¬ (0 ≤ e ∧ e ≤ 143) → x_out x_e1 x_e2 (o_moveTicket q t e) (m_Ex g T) (fun J' X' => X' = X ∧ x_day 36 (k_moveTicket q t e) J' ∧ x_fr J J') (.inr x_e2) (m_Ex g T, J, X) := fun hp hn => by
    have ho : o_moveTicket q t e = (2, 0) := by rw [o_moveTicket, y_need_2 hp, y_need_n hn]
    exact x_t2 ho ⟨rfl, by rw [k_moveTicket, ho, if_neg (by show ¬ ((2 : Int) = 0 ∧ (0 : Int) ≤ 0); omega)]; exact h, x_fr.rf⟩
  refine z_sem_of z_m142 m_ok_142 (Nat.le_of_ble_eq_true rfl) (fun Wp hs hv hS => ?_)
  refine w_142_0 hs ?_
  refine ⟨by omega, fun c => t1 (by omega), fun c => ⟨fun c1 => ⟨by omega, fun c2 => t2 (by omega) (by omega), fun c2 => ⟨fun c3 => ?_, fun c3 => t2 (by omega) (by omega)⟩⟩, fun c1 => t1 (by omega)⟩⟩
  refine z_cIq (e_move hb h ⟨c, by omega⟩ ⟨c2, c3⟩) ?_
  rintro v J2 X2 ⟨rfl, x2, f2, rfl⟩
  exact x_ok (by rw [o_moveTicket, y_need_2 (by omega), y_need_2 (by omega)]) ⟨rfl, x2, f2⟩
end Q11
