/-! the class: tickets are exchanged -/
section Q12
variable {l : Launch} {d : Nat} {g : List (Option Nat)} {T : m_E} {J : z_J} {X : z_X} {q : Int → Int}
theorem e_swap (hb : y_base q) (h : x_day 36 q J) {t r e : Int} (ht : 0 ≤ t ∧ t < q 5) (hr : 0 ≤ r ∧ r < q 1) (he : 0 ≤ e ∧ e ≤ 143) : z_Sem l (d + 5) M_Desk_swap [.inr (.inr (.ref 125)), .inr (.inr (.ref 36)), .inl t, .inl r, .inl e] (m_Ex g T, J, X) 0 0 (z_rq (m_Ex g T) (fun v J' X' => X' = X ∧ x_day 36 (k_exchange q t r e) J' ∧ x_fr J J' ∧ v = (o_exchange q t r e).2)) := by
  obtain ⟨h0, h1, h2, h3, h4, h5⟩ := hb.1
  have d5 := h.hd.2.2.2.2.2
  have k1 := (hb.2.2.2.2 t ht.1 ht.2).1
  have k2 := (hb.2.2.2.2 t ht.1 ht.2).2.1
  have f := h.tk ht.1 ht.2
  have rd := h.ride hr.1 hr.2
  have rb := hb.ride hr.1 hr.2
  have p := hb.party k1.1 k1.2
  have fp := h.party k1.1 k1.2
  have ft := h.tier p.1.1 p.1.2.2
  have th := p.2.2.2.2.2.1
  have dn := rb.2.2.2.2.1
  have bad : ∀ (x : Int) (J1 : z_J), o_exchange q t r e = (0, x) → x < 0 → x_day 36 q J1 → x_fr J J1 → z_rq (m_Ex g T) (fun v J' X' => X' = X ∧ x_day 36 (k_exchange q t r e) J' ∧ x_fr J J' ∧ v = (o_exchange q t r e).2) (.inl (some (.inl x))) (m_Ex g T, J1, X) := by
    intro x J1 ho hn hx hf
    rw [k_exchange, ho, if_neg (by show ¬ ((0 : Int) = 0 ∧ 0 ≤ x); omega)]
    exact ⟨_, _, _, rfl, rfl, rfl, hx, hf, rfl⟩
  have P : ∀ x, o_exchange q t r e = (0, x) ↔ (if q (288 + 6 * t + 5) ≠ 0 then -1 else if q (10 + 14 * r + 5) = 1 then -5 else if y_has q (q (288 + 6 * t + 0)) r = true then -3 else if q 5 = 150 then -6 else if y_slot (z_up q (288 + 6 * t + 5) 3) (q (288 + 6 * t + 0)) r e = -4 then -4 else q 5) = x := by
    intro x
    rw [o_exchange, y_need_2 ⟨ht, hr⟩, y_need_2 he]
    exact ⟨fun z => (Prod.mk.inj z).2, fun z => by rw [z]⟩
  refine z_sem_of z_m29 m_ok_29 (Nat.le_of_ble_eq_true rfl) (fun Wp hs hv hS => ?_)
  refine w_29_0 hs ?_
  rw [f.1, f.2.2.2.2.1, rd.2.2.2.2.2.1]
  refine ⟨by omega, fun c6 => ⟨by omega, fun c7 => ⟨by omega, ?_⟩, fun c7 => bad (-5) J ((P _).mpr (by rw [if_neg (fun z => z c6), if_pos (by omega)])) (by omega) h x_fr.rf⟩, fun c6 => bad (-1) J ((P _).mpr (by rw [if_pos c6])) (by omega) h x_fr.rf⟩
  have c7' : ¬ q (10 + 14 * r + 5) = 1 := by omega
  refine z_cI (e_hasActive hb h) ⟨fun c8 => ?_, fun c8 => bad (-3) J ((P _).mpr (by rw [if_neg (fun z => z c6), if_neg c7', if_pos (y_b_1.mp c8)])) (by omega) h x_fr.rf⟩
  have c8 : y_has q (q (288 + 6 * t + 0)) r = false := y_b_0.mp c8
  rw [d5]
  refine ⟨fun c9 => ?_, fun c9 => bad (-6) J ((P _).mpr (by rw [if_neg (fun z => z c6), if_neg c7', if_neg (by rw [c8]; decide), if_pos (by omega)])) (by omega) h x_fr.rf⟩
  refine z_cVq (e_fillFreea hb h hr) ?_
  rintro J2 X2 ⟨rfl, f1, rfl, hf1⟩
  have x2 := h.row (a := 126) (by omega) h1.2 (f := f1)
  refine z_cVq (e_fillTakena (J := z_row J 126 f1) hb x2) ?_
  rintro J3 X3 ⟨rfl, f2, rfl, hf2⟩
  have x3 := x2.row (a := 127) (by omega) h1.2 (f := f2)
  simp only [show (z_row (z_row J 126 f1) 127 f2) 54 = J 54 from rfl, show (z_row (z_row J 126 f1) 127 f2) 55 = J 55 from rfl, show (z_row (z_row J 126 f1) 127 f2) 51 = J 51 from rfl, fp.1, fp.2.1, ft.2.1]
  refine ⟨by omega, z_cI (e_firstStart (J := z_row (z_row J 126 f1) 127 f2) hb x3 hr he.1 (by omega)) ?_⟩
  have ev : y_4 (y_win ((z_row (z_row J 126 f1) 127 f2) 126) ((z_row (z_row J 126 f1) 127 f2) 127) (q (138 + 3 * q (288 + 6 * t + 0) + 1)) (q (10 + 14 * r + 2)) (max e (q 0)) (min (q 0 + q (122 + 4 * q (138 + 3 * q (288 + 6 * t + 0) + 0) + 1)) (q (10 + 14 * r + 4)))) = y_slot (z_up q (288 + 6 * t + 5) 3) (q (288 + 6 * t + 0)) r e := y_slotX hb ht k1 hr he.1 hf1 hf2
  rw [ev]
  have s3 : x_fr J (z_row (z_row J 126 f1) 127 f2) := fun b hb9 => by rw [z_row_ne (by omega), z_row_ne (by omega)]
  have sn := y_slot_neg (q := z_up q (288 + 6 * t + 5) 3) (i := q (288 + 6 * t + 0)) (r := r) he.1
  refine ⟨fun c10 => ⟨by omega, ?_⟩, fun c10 => bad _ _ ((P _).mpr (by rw [if_neg (fun z => z c6), if_neg c7', if_neg (by rw [c8]; decide), if_neg (by omega), if_pos (by omega)]; omega)) c10 x3 s3⟩
  have c10' : y_slot (z_up q (288 + 6 * t + 5) 3) (q (288 + 6 * t + 0)) r e ≠ -4 := by omega
  have ho := (P _).mpr (by rw [if_neg (fun z => z c6), if_neg c7', if_neg (by rw [c8]; decide), if_neg (by omega), if_neg c10'])
  have bq := y_base_state (v := 3) hb ht (by omega) (by omega) (by omega)
  have xq := x_state (v := 3) hb x3 ht
  have n1 : z_up q (288 + 6 * t + 5) 3 1 = q 1 := z_up_ne (by omega)
  have n3 : z_up q (288 + 6 * t + 5) 3 3 = q 3 := z_up_ne (by omega)
  have n5 : z_up q (288 + 6 * t + 5) 3 5 = q 5 := z_up_ne (by omega)
  have hi' : 0 ≤ q (288 + 6 * t + 0) ∧ q (288 + 6 * t + 0) < z_up q (288 + 6 * t + 5) 3 3 := by rw [n3]; exact k1
  have hr' : 0 ≤ r ∧ r < z_up q (288 + 6 * t + 5) 3 1 := by rw [n1]; exact hr
  have sp := y_slot_pos bq hi' hr' he.1 c10'
  have ac := y_act_less ht c6 (v := 3) (by omega)
  have a5 := (hb.2.2.2.1 _ k1.1 k1.2).2
  have ba := y_base_add bq hi' hr' sp.1 (by rw [n5]; omega) (by rw [n5]; omega)
  have ea := k_add_13 bq (s := y_slot (z_up q (288 + 6 * t + 5) 3) (q (288 + 6 * t + 0)) r e) hi' hr'
  have hr2 : 0 ≤ r ∧ r < k_add (z_up q (288 + 6 * t + 5) 3) (q (288 + 6 * t + 0)) r (y_slot (z_up q (288 + 6 * t + 5) 3) (q (288 + 6 * t + 0)) r e) 1 := by rw [ea.2.1, n1]; exact hr
  have bl := y_base_leave (i := q (288 + 6 * t + 0)) ba hr2
  have l1 : k_leave (k_add (z_up q (288 + 6 * t + 5) 3) (q (288 + 6 * t + 0)) r (y_slot (z_up q (288 + 6 * t + 5) 3) (q (288 + 6 * t + 0)) r e)) (q (288 + 6 * t + 0)) r 1 = q 1 := by rw [k_leave_old hr.1 (by omega) (by omega), ea.2.1, n1]
  have l5 : k_leave (k_add (z_up q (288 + 6 * t + 5) 3) (q (288 + 6 * t + 0)) r (y_slot (z_up q (288 + 6 * t + 5) 3) (q (288 + 6 * t + 0)) r e)) (q (288 + 6 * t + 0)) r 5 = q 5 + 1 := by
    rw [k_leave_old hr.1 (by omega) (by omega)]
    unfold k_add
    (repeat rw [z_up_ne (by omega)])
    first | rw [z_up_eq rfl, n5] | rw [z_up_eq rfl, z_up_ne (by omega), n5]
  have lt : k_leave (k_add (z_up q (288 + 6 * t + 5) 3) (q (288 + 6 * t + 0)) r (y_slot (z_up q (288 + 6 * t + 5) 3) (q (288 + 6 * t + 0)) r e)) (q (288 + 6 * t + 0)) r (288 + 6 * t + 1) = q (288 + 6 * t + 1) := by
    rw [k_leave_old hr.1 (by omega) (by omega), k_add_old (by omega) (by rw [n5]; omega) (by omega) (by rw [n5]; omega) (by omega), z_up_ne (by omega)]
  refine z_cIq (e_hand bq xq hi' hr' sp.2 (by rw [n5]; exact c9)) ?_
  rintro v J4 X4 ⟨rfl, x4, f4, rfl⟩
  have e59 := (x4.tk ht.1 (by rw [l5]; omega)).2.1
  rw [lt] at e59
  rw [e59]
  refine ⟨by omega, z_cIq (e_serve bl x4 ⟨k2.1, by rw [l1]; exact k2.2⟩) ?_⟩
  rintro v9 J9 X9 ⟨rfl, x9, f9, rfl⟩
  refine ⟨_, _, _, rfl, rfl, rfl, ?_, fun b hb9 => ?_, by rw [ho]; exact n5⟩
  · rw [k_exchange, ho, if_pos ⟨rfl, h5.1⟩]; exact x9
  · rw [f9 b hb9, f4 b hb9, z_u_ne (by omega)]; exact s3 b hb9
theorem q_exchange (hb : y_base q) (h : x_day 36 q J) {t r e : Int} : z_Sem l (d + 6) M_Q_exchange [.inr (.inr (.ref 0)), .inl t, .inl r, .inl e] (m_Ex g T, J, X) 4 24 (x_out x_e1 x_e2 (o_exchange q t r e) (m_Ex g T) (fun J' X' => X' = X ∧ x_day 36 (k_exchange q t r e) J' ∧ x_fr J J')) := by
  obtain ⟨b0, b1, b2, b3, b4, b5⟩ := hb.1
  obtain ⟨d0, d4, d1, d2, d3, d5⟩ := h.hd
  have t1 : ¬ ((0 ≤ t ∧ t < q 5) ∧ (0 ≤ r ∧ r < q 1)) → x_out x_e1 x_e2 (o_exchange q t r e) (m_Ex g T) (fun J' X' => X' = X ∧ x_day 36 (k_exchange q t r e) J' ∧ x_fr J J') (.inr x_e1) (m_Ex g T, J, X) := fun hn => by
    have ho : o_exchange q t r e = (1, 0) := by rw [o_exchange, y_need_n hn]
    exact x_t1 ho ⟨rfl, by rw [k_exchange, ho, if_neg (by show ¬ ((1 : Int) = 0 ∧ (0 : Int) ≤ 0); omega)]; exact h, x_fr.rf⟩
  have t2 : ((0 ≤ t ∧ t < q 5) ∧ (0 ≤ r ∧ r < q 1)) → ¬ (0 ≤ e ∧ e ≤ 143) → x_out x_e1 x_e2 (o_exchange q t r e) (m_Ex g T) (fun J' X' => X' = X ∧ x_day 36 (k_exchange q t r e) J' ∧ x_fr J J') (.inr x_e2) (m_Ex g T, J, X) := fun hp hn => by
    have ho : o_exchange q t r e = (2, 0) := by rw [o_exchange, y_need_2 hp, y_need_n hn]
    exact x_t2 ho ⟨rfl, by rw [k_exchange, ho, if_neg (by show ¬ ((2 : Int) = 0 ∧ (0 : Int) ≤ 0); omega)]; exact h, x_fr.rf⟩
  refine z_sem_of z_m144 m_ok_144 (Nat.le_of_ble_eq_true rfl) (fun Wp hs hv hS => ?_)
  refine w_144_0 hs ?_
  refine ⟨by omega, fun c => t1 (by omega), fun c => ⟨fun c1 => ⟨by omega, fun c2 => t1 (by omega), fun c2 => ⟨fun c3 => ⟨by omega, fun c4 => t2 (by omega) (by omega), fun c4 => ⟨fun c5 => ?_, fun c5 => t2 (by omega) (by omega)⟩⟩, fun c3 => t1 (by omega)⟩⟩, fun c1 => t1 (by omega)⟩⟩
  refine z_cIq (e_swap hb h ⟨c, by omega⟩ ⟨c2, by omega⟩ ⟨c4, c5⟩) ?_
  rintro v J2 X2 ⟨rfl, x2, f2, rfl⟩
  exact x_ok (by rw [o_exchange, y_need_2 (by omega), y_need_2 (by omega)]) ⟨rfl, x2, f2⟩
end Q12
