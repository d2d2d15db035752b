/-! the reference: moving, exchanging, joint tickets -/
theorem z_up_back {q : Int → Int} {k x y : Int} (h : q k = y) : z_up (z_up q k x) k y = q := by
  funext j
  unfold z_up
  by_cases hj : j = k
  · rw [if_pos hj, hj, h]
  · rw [if_neg hj, if_neg hj]
theorem k_add_act {q : Int → Int} {i r s i' : Int} (hi : 0 ≤ i ∧ i < 50) (h5 : 0 ≤ q 5) : y_act (k_add q i r s) i' (k_add q i r s 5).toNat = y_act q i' (q 5).toNat + (if i = i' then 1 else 0) := by
  have O := fun j => k_add_old (q := q) (r := r) (s := s) hi h5 (j := j)
  have N := k_add_new (q := q) (r := r) (s := s) hi h5
  have N5 := k_add_5 (q := q) (r := r) (s := s) hi h5
  have C : ((q 5).toNat : Int) = q 5 := by omega
  unfold y_act
  rw [N5, show (q 5 + 1).toNat = (q 5).toNat + 1 by omega, y_sum, C, N.2.2.2.2.2.1, N.1]
  congr 1
  · refine y_sum_congr (fun k hk => ?_)
    rw [O _ (by omega) (by omega) (by omega), O _ (by omega) (by omega) (by omega)]
  · by_cases h9 : i = i'
    · rw [if_pos h9, if_pos ⟨h9, rfl⟩]
    · rw [if_neg h9, if_neg (fun z => h9 z.1)]
/-- a cancelled ticket's party has one active ticket less -/
theorem y_act_less {q : Int → Int} {t : Int} (ht : 0 ≤ t ∧ t < q 5) (h0 : q (288 + 6 * t + 5) = 0) {v : Int} (hv : v ≠ 0) : y_act (z_up q (288 + 6 * t + 5) v) (q (288 + 6 * t + 0)) (q 5).toNat + 1 = y_act q (q (288 + 6 * t + 0)) (q 5).toNat := by
  unfold y_act
  refine (y_sum_one (t := t.toNat) (by omega) (fun k hk hne => ?_) ?_).symm
  · show (if z_up q (288 + 6 * t + 5) v (288 + 6 * (k : Int) + 0) = _ ∧ z_up q (288 + 6 * t + 5) v (288 + 6 * (k : Int) + 5) = 0 then (1 : Int) else 0) = if _ then 1 else 0
    rw [z_up_ne (by omega), z_up_ne (by omega)]
  · show (if q (288 + 6 * (t.toNat : Int) + 0) = _ ∧ q (288 + 6 * (t.toNat : Int) + 5) = 0 then (1 : Int) else 0) = (if z_up q (288 + 6 * t + 5) v (288 + 6 * (t.toNat : Int) + 0) = _ ∧ z_up q (288 + 6 * t + 5) v (288 + 6 * (t.toNat : Int) + 5) = 0 then 1 else 0) + 1
    rw [show (t.toNat : Int) = t by omega, if_pos ⟨rfl, h0⟩, z_up_eq rfl, if_neg (fun z => hv z.2)]
    rfl
def y_mv (q : Int → Int) (t e : Int) : Int := y_slot (z_up q (288 + 6 * t + 5) 3) (q (288 + 6 * t + 0)) (q (288 + 6 * t + 1)) e
def k_win (q : Int → Int) (t s : Int) : Int → Int := z_up (z_up (z_up q (288 + 6 * t + 2) s) (288 + 6 * t + 3) (s + q (10 + 14 * q (288 + 6 * t + 1) + 2) - 1)) (288 + 6 * t + 4) 0
def o_moveTicket (q : Int → Int) (t e : Int) : Int × Int := y_need (0 ≤ t ∧ t < q 5) 1 (y_need (0 ≤ e ∧ e ≤ 143) 2 (0, if q (288 + 6 * t + 5) ≠ 0 then -1 else if q (10 + 14 * q (288 + 6 * t + 1) + 5) = 1 then -5 else y_mv q t e))
def k_moveTicket (q : Int → Int) (t e : Int) : Int → Int := if (o_moveTicket q t e).1 = 0 ∧ 0 ≤ (o_moveTicket q t e).2 then k_serve (k_win q t (y_mv q t e)) (q (288 + 6 * t + 1)) else q
def o_exchange (q : Int → Int) (t r e : Int) : Int × Int := y_need ((0 ≤ t ∧ t < q 5) ∧ (0 ≤ r ∧ r < q 1)) 1 (y_need (0 ≤ e ∧ e ≤ 143) 2 (0, if q (288 + 6 * t + 5) ≠ 0 then -1 else if q (10 + 14 * r + 5) = 1 then -5 else if y_has q (q (288 + 6 * t + 0)) r = true then -3 else if q 5 = 150 then -6 else if y_slot (z_up q (288 + 6 * t + 5) 3) (q (288 + 6 * t + 0)) r e = -4 then -4 else q 5))
def k_exchange (q : Int → Int) (t r e : Int) : Int → Int := if (o_exchange q t r e).1 = 0 ∧ 0 ≤ (o_exchange q t r e).2 then k_serve (k_leave (k_add (z_up q (288 + 6 * t + 5) 3) (q (288 + 6 * t + 0)) r (y_slot (z_up q (288 + 6 * t + 5) 3) (q (288 + 6 * t + 0)) r e)) (q (288 + 6 * t + 0)) r) (q (288 + 6 * t + 1)) else q
theorem k_leave_old {q : Int → Int} {i r j : Int} (hr : 0 ≤ r) (h1 : j ≠ 10 + 14 * r + 13) (h2 : j < 4564) : k_leave q i r j = q j := by
  have := y_place_b (q := q) (i := i) (r := r)
  unfold k_leave
  split
  · rfl
  · exact k_rm_old h1 (by omega)
theorem k_win_b {q : Int → Int} (hb : y_base q) {t s : Int} (ht : 0 ≤ t ∧ t < q 5) (hs : q (10 + 14 * q (288 + 6 * t + 1) + 3) ≤ s ∧ s ≤ q (10 + 14 * q (288 + 6 * t + 1) + 4)) : y_base (k_win q t s) := by
  have k2 := (hb.2.2.2.2 t ht.1 ht.2).2.1
  have r2 := (hb.ride k2.1 k2.2).2.2.1
  exact y_base_window hb ht hs (by omega)
theorem z_cI' {l : Launch} {d a : Nat} {ws : z_V} {E : m_E} {J J' : z_J} {X X' : z_X} {bc bs : Nat} {K : Int → z_J → z_X → Nat → Nat → Prop} {R : String → z_J → z_X → Nat → Nat → Prop} {v : Int} (h : z_Sem l d a ws (E, J, X) 0 0 (z_ret (.inl v) (E, J', X'))) (hK : ∀ J2, J2 = J' → K v J2 X' bc bs) : z_CallI l d a ws E J X bc bs K R := z_cI h (hK J' rfl)
theorem z_cV' {l : Launch} {d a : Nat} {ws : z_V} {E : m_E} {J J' : z_J} {X X' : z_X} {bc bs : Nat} {K : z_J → z_X → Nat → Nat → Prop} {R : String → z_J → z_X → Nat → Nat → Prop} (h : z_Sem l d a ws (E, J, X) 0 0 (z_vd (E, J', X'))) (hK : ∀ J2, J2 = J' → K J2 X' bc bs) : z_CallV l d a ws E J X bc bs K R := z_cV h (hK J' rfl)
section R9
variable {l : Launch} {d : Nat} {g : List (Option Nat)} {T : m_E} {J : z_J} {X : z_X}
theorem p_moveTicket (hb : y_base (J 149)) {t e : Int} : z_Sem l (d + 9) M_R_moveTicket [.inr (.inr (.ref 148)), .inl t, .inl e] (m_Ex g T, J, X) 0 0 (z_rq (m_Ex g T) (fun v J' X' => X' = X ∧ y_tp J (k_moveTicket (J 149) t e) (o_moveTicket (J 149) t e).1 J' ∧ v = (o_moveTicket (J 149) t e).2)) := by
  obtain ⟨h0, h1, h2, h3, h4, h5⟩ := hb.1
  have bad : ∀ (w x : Int), o_moveTicket (J 149) t e = (w, x) → (w ≠ 0 ∨ x < 0) → ∀ J1, y_tp J (J 149) w J1 → z_rq (m_Ex g T) (fun v J' X' => X' = X ∧ y_tp J (k_moveTicket (J 149) t e) (o_moveTicket (J 149) t e).1 J' ∧ v = (o_moveTicket (J 149) t e).2) (.inl (some (.inl x))) (m_Ex g T, J1, X) := by
    intro w x ho hn J1 hJ
    rw [k_moveTicket, ho, if_neg (by show ¬ (w = 0 ∧ 0 ≤ x); omega)]
    exact ⟨_, _, _, rfl, rfl, rfl, hJ, rfl⟩
  refine z_sem_of z_m246 m_ok_246 (Nat.le_of_ble_eq_true rfl) (fun Wp hs hv hS => ?_)
  refine w_246_0 hs ?_
  refine ⟨by omega, fun c => bad 1 0 (by rw [o_moveTicket, y_need_n (by omega)]) (by omega) _ y_tp.th, fun c => ⟨fun c1 => bad 1 0 (by rw [o_moveTicket, y_need_n (by omega)]) (by omega) _ y_tp.th, fun c1 => ⟨fun c2 => bad 2 0 (by rw [o_moveTicket, y_need_2 (by omega), y_need_n (by omega)]) (by omega) _ y_tp.th, fun c2 => ⟨fun c3 => bad 2 0 (by rw [o_moveTicket, y_need_2 (by omega), y_need_n (by omega)]) (by omega) _ y_tp.th, fun c3 => ?_⟩⟩⟩⟩
  have ht : 0 ≤ t ∧ t < J 149 5 := ⟨c, by omega⟩
  have he : 0 ≤ e ∧ e ≤ 143 := ⟨c2, c3⟩
  have k1 := (hb.2.2.2.2 t ht.1 ht.2).1
  have k2 := (hb.2.2.2.2 t ht.1 ht.2).2.1
  have r2 := (hb.ride k2.1 k2.2).2.2.1
  refine ⟨by omega, fun c4 => ⟨by omega, fun c5 => ⟨by omega, ?_⟩, fun c5 => bad 0 (-5) (by rw [o_moveTicket, y_need_2 ht, y_need_2 he, if_neg (fun z => z c4), if_pos c5]) (by omega) _ y_tp.th0⟩, fun c4 => bad 0 (-1) (by rw [o_moveTicket, y_need_2 ht, y_need_2 he, if_pos c4]) (by omega) _ y_tp.th0⟩
  have bq := y_base_state (v := 3) hb ht (by omega) (by omega) (by omega)
  have n1 : z_up (J 149) (288 + 6 * t + 5) 3 1 = J 149 1 := z_up_ne (by omega)
  have n3 : z_up (J 149) (288 + 6 * t + 5) 3 3 = J 149 3 := z_up_ne (by omega)
  rw [z_up_ne (show 288 + 6 * t + 0 ≠ 288 + 6 * t + 5 by omega)]
  have hi' : 0 ≤ J 149 (288 + 6 * t + 0) ∧ J 149 (288 + 6 * t + 0) < z_up (J 149) (288 + 6 * t + 5) 3 3 := by rw [n3]; exact k1
  have hr' : 0 ≤ J 149 (288 + 6 * t + 1) ∧ J 149 (288 + 6 * t + 1) < z_up (J 149) (288 + 6 * t + 5) 3 1 := by rw [n1]; exact k2
  refine z_cIq (c_slotFor (J := z_u (z_u J 148 2 0) 149 (288 + 6 * t + 5) 3) bq hi' hr' he.1) ?_
  rintro v J' X' ⟨rfl, ⟨f, f', rfl⟩, hv⟩
  have hv : v = y_mv (J 149) t e := hv
  subst hv
  have ho : o_moveTicket (J 149) t e = (0, y_mv (J 149) t e) := by rw [o_moveTicket, y_need_2 ht, y_need_2 he, if_neg (fun z => z c4), if_neg c5]
  have tt : y_to (z_u J 148 2 0) (J 149) (z_u (z_row (z_row (z_u (z_u J 148 2 0) 149 (288 + 6 * t + 5) 3) 151 f) 152 f') 149 (288 + 6 * t + 5) 0) := by
    have := ((y_to.u (J := z_u J 148 2 0) (k := 288 + 6 * t + 5) (x := 3)).tr (y_to.sc (f := f) (f' := f'))).tr (y_to.u (k := 288 + 6 * t + 5) (x := 0))
    rw [show z_up ((z_row (z_row (z_u (z_u J 148 2 0) 149 (288 + 6 * t + 5) 3) 151 f) 152 f') 149) (288 + 6 * t + 5) 0 = J 149 from z_up_back c4] at this
    exact this
  refine ⟨by omega, fun c6 => ?_, fun c6 => ?_⟩
  · have sp := y_slot_pos bq hi' hr' he.1 c6
    have w3 : z_up (J 149) (288 + 6 * t + 5) 3 (10 + 14 * J 149 (288 + 6 * t + 1) + 3) = J 149 (10 + 14 * J 149 (288 + 6 * t + 1) + 3) := z_up_ne (by omega)
    have w4 : z_up (J 149) (288 + 6 * t + 5) 3 (10 + 14 * J 149 (288 + 6 * t + 1) + 4) = J 149 (10 + 14 * J 149 (288 + 6 * t + 1) + 4) := z_up_ne (by omega)
    rw [w3, w4] at sp
    have sp : (J 149 (10 + 14 * J 149 (288 + 6 * t + 1) + 3) ≤ y_mv (J 149) t e ∧ y_mv (J 149) t e ≤ J 149 (10 + 14 * J 149 (288 + 6 * t + 1) + 4)) ∧ (0 ≤ y_mv (J 149) t e ∧ y_mv (J 149) t e ≤ 143) := sp
    have q1 : z_up ((z_row (z_row (z_u (z_u J 148 2 0) 149 (288 + 6 * t + 5) 3) 151 f) 152 f') 149) (288 + 6 * t + 5) 0 = J 149 := z_up_back c4
    rw [q1]
    have w2 : z_up (J 149) (288 + 6 * t + 2) (y_mv (J 149) t e) (10 + 14 * J 149 (288 + 6 * t + 1) + 2) = J 149 (10 + 14 * J 149 (288 + 6 * t + 1) + 2) := z_up_ne (by omega)
    rw [w2]
    have bw := k_win_b hb ht sp.1
    have nw : k_win (J 149) t (y_mv (J 149) t e) 1 = J 149 1 := by unfold k_win; rw [z_up_ne (by omega), z_up_ne (by omega), z_up_ne (by omega)]
    have row : (z_u (z_u (z_u (z_u (z_row (z_row (z_u (z_u J 148 2 0) 149 (288 + 6 * t + 5) 3) 151 f) 152 f') 149 (288 + 6 * t + 5) 0) 149 (288 + 6 * t + 2) (y_mv (J 149) t e)) 149 (288 + 6 * t + 3) (y_mv (J 149) t e + J 149 (10 + 14 * J 149 (288 + 6 * t + 1) + 2) - 1)) 149 (288 + 6 * t + 4) 0) 149 = k_win (J 149) t (y_mv (J 149) t e) := by
      rw [k_win, ← q1]; rfl
    refine ⟨by omega, z_cIq (c_serve (J := z_u (z_u (z_u (z_u (z_row (z_row (z_u (z_u J 148 2 0) 149 (288 + 6 * t + 5) 3) 151 f) 152 f') 149 (288 + 6 * t + 5) 0) 149 (288 + 6 * t + 2) (y_mv (J 149) t e)) 149 (288 + 6 * t + 3) (y_mv (J 149) t e + J 149 (10 + 14 * J 149 (288 + 6 * t + 1) + 2) - 1)) 149 (288 + 6 * t + 4) 0) (by rw [row]; exact bw) (by rw [row, nw]; exact k2)) ?_⟩
    rw [row]
    rintro v J' X' ⟨rfl, t1, rfl⟩
    rw [k_moveTicket, ho, if_pos ⟨rfl, sp.2.1⟩]
    exact ⟨_, _, _, rfl, rfl, rfl, ((((tt.tr y_to.u).tr y_to.u).tr y_to.u).tr t1).tp, rfl⟩
  · have c6 : y_mv (J 149) t e = -4 := c6
    exact bad 0 (-4) (by rw [ho, c6]) (by omega) _ tt.tp
theorem p_exchange (hb : y_base (J 149)) {t r e : Int} : z_Sem l (d + 9) M_R_exchange [.inr (.inr (.ref 148)), .inl t, .inl r, .inl e] (m_Ex g T, J, X) 0 0 (z_rq (m_Ex g T) (fun v J' X' => X' = X ∧ y_tp J (k_exchange (J 149) t r e) (o_exchange (J 149) t r e).1 J' ∧ v = (o_exchange (J 149) t r e).2)) := by
  obtain ⟨h0, h1, h2, h3, h4, h5⟩ := hb.1
  have bad : ∀ (w x : Int), o_exchange (J 149) t r e = (w, x) → (w ≠ 0 ∨ x < 0) → ∀ J1, y_tp J (J 149) w J1 → z_rq (m_Ex g T) (fun v J' X' => X' = X ∧ y_tp J (k_exchange (J 149) t r e) (o_exchange (J 149) t r e).1 J' ∧ v = (o_exchange (J 149) t r e).2) (.inl (some (.inl x))) (m_Ex g T, J1, X) := by
    intro w x ho hn J1 hJ
    rw [k_exchange, ho, if_neg (by show ¬ (w = 0 ∧ 0 ≤ x); omega)]
    exact ⟨_, _, _, rfl, rfl, rfl, hJ, rfl⟩
  refine z_sem_of z_m249 m_ok_249 (Nat.le_of_ble_eq_true rfl) (fun Wp hs hv hS => ?_)
  refine w_249_0 hs ?_
  refine ⟨by omega, fun c => bad 1 0 (by rw [o_exchange, y_need_n (by omega)]) (by omega) _ y_tp.th, fun c => ⟨fun c1 => bad 1 0 (by rw [o_exchange, y_need_n (by omega)]) (by omega) _ y_tp.th, fun c1 => ⟨by omega, fun c2 => bad 1 0 (by rw [o_exchange, y_need_n (by omega)]) (by omega) _ y_tp.th, fun c2 => ⟨fun c3 => bad 1 0 (by rw [o_exchange, y_need_n (by omega)]) (by omega) _ y_tp.th, fun c3 => ⟨fun c4 => bad 2 0 (by rw [o_exchange, y_need_2 (by omega), y_need_n (by omega)]) (by omega) _ y_tp.th, fun c4 => ⟨fun c5 => bad 2 0 (by rw [o_exchange, y_need_2 (by omega), y_need_n (by omega)]) (by omega) _ y_tp.th, fun c5 => ?_⟩⟩⟩⟩⟩⟩
  have ht : 0 ≤ t ∧ t < J 149 5 := ⟨c, by omega⟩
  have hr : 0 ≤ r ∧ r < J 149 1 := ⟨c2, by omega⟩
  have he : 0 ≤ e ∧ e ≤ 143 := ⟨c4, c5⟩
  have k1 := (hb.2.2.2.2 t ht.1 ht.2).1
  have k2 := (hb.2.2.2.2 t ht.1 ht.2).2.1
  have P : ∀ x, o_exchange (J 149) t r e = (0, x) ↔ (if J 149 (288 + 6 * t + 5) ≠ 0 then -1 else if J 149 (10 + 14 * r + 5) = 1 then -5 else if y_has (J 149) (J 149 (288 + 6 * t + 0)) r = true then -3 else if J 149 5 = 150 then -6 else if y_slot (z_up (J 149) (288 + 6 * t + 5) 3) (J 149 (288 + 6 * t + 0)) r e = -4 then -4 else J 149 5) = x := by
    intro x
    rw [o_exchange, y_need_2 ⟨ht, hr⟩, y_need_2 he]
    exact ⟨fun z => (Prod.mk.inj z).2, fun z => by rw [z]⟩
  refine ⟨by omega, fun c6 => ⟨by omega, fun c7 => ?_, fun c7 => bad 0 (-5) ((P _).mpr (by rw [if_neg (fun z => z c6), if_pos c7])) (by omega) _ y_tp.th0⟩, fun c6 => bad 0 (-1) ((P _).mpr (by rw [if_pos c6])) (by omega) _ y_tp.th0⟩
  refine z_cI (c_hasActive (J := z_u J 148 2 0) hb) ⟨fun c8 => ?_, fun c8 => ?_⟩
  · have c8 : y_has (J 149) (J 149 (288 + 6 * t + 0)) r = false := y_b_0.mp c8
    refine ⟨fun c9 => ⟨by omega, ?_⟩, fun c9 => bad 0 (-6) ((P _).mpr (by rw [if_neg (fun z => z c6), if_neg c7, if_neg (by rw [c8]; decide)]; exact if_pos c9)) (by omega) _ y_tp.th0⟩
    have c9 : J 149 5 ≠ 150 := c9
    have bq := y_base_state (v := 3) hb ht (by omega) (by omega) (by omega)
    have n1 : z_up (J 149) (288 + 6 * t + 5) 3 1 = J 149 1 := z_up_ne (by omega)
    have n3 : z_up (J 149) (288 + 6 * t + 5) 3 3 = J 149 3 := z_up_ne (by omega)
    have n5 : z_up (J 149) (288 + 6 * t + 5) 3 5 = J 149 5 := z_up_ne (by omega)
    have hi' : 0 ≤ J 149 (288 + 6 * t + 0) ∧ J 149 (288 + 6 * t + 0) < z_up (J 149) (288 + 6 * t + 5) 3 3 := by rw [n3]; exact k1
    have hr' : 0 ≤ r ∧ r < z_up (J 149) (288 + 6 * t + 5) 3 1 := by rw [n1]; exact hr
    refine z_cIq (c_slotFor (J := z_u (z_u J 148 2 0) 149 (288 + 6 * t + 5) 3) bq hi' hr' he.1) ?_
    rintro v J' X' ⟨rfl, ⟨f, f', rfl⟩, hv⟩
    have hv : v = y_slot (z_up (J 149) (288 + 6 * t + 5) 3) (J 149 (288 + 6 * t + 0)) r e := hv
    have t0 : y_to (z_u J 148 2 0) (z_up (J 149) (288 + 6 * t + 5) 3) (z_row (z_row (z_u (z_u J 148 2 0) 149 (288 + 6 * t + 5) 3) 151 f) 152 f') := (y_to.u (J := z_u J 148 2 0) (k := 288 + 6 * t + 5) (x := 3)).tr (y_to.sc (f := f) (f' := f'))
    refine ⟨fun c10 => ?_, fun c10 => ⟨by omega, ?_⟩⟩
    · rw [hv] at c10
      have sp := y_slot_pos bq hi' hr' he.1 c10
      have ho := (P _).mpr (by rw [if_neg (fun z => z c6), if_neg c7, if_neg (by rw [c8]; decide), if_neg c9, if_neg c10])
      have ac := y_act_less ht c6 (v := 3) (by omega)
      have a5 := (hb.2.2.2.1 _ k1.1 k1.2).2
      have ba := y_base_add bq hi' hr' sp.1 (by rw [n5]; omega) (by rw [n5]; omega)
      have ea := k_add_13 bq (s := y_slot (z_up (J 149) (288 + 6 * t + 5) 3) (J 149 (288 + 6 * t + 0)) r e) hi' hr'
      rw [hv]
      refine z_cI' (c_addTicket (J := z_row (z_row (z_u (z_u J 148 2 0) 149 (288 + 6 * t + 5) 3) 151 f) 152 f') bq hi' hr' sp.2 (show z_up (J 149) (288 + 6 * t + 5) 3 5 < 150 by rw [n5]; omega)) ?_
      intro J2 hJ2
      have t2 : y_to (z_u J 148 2 0) (k_add (z_up (J 149) (288 + 6 * t + 5) 3) (J 149 (288 + 6 * t + 0)) r (y_slot (z_up (J 149) (288 + 6 * t + 5) 3) (J 149 (288 + 6 * t + 0)) r e)) J2 := by rw [hJ2]; exact t0.tr y_to.put
      have hr2 : 0 ≤ r ∧ r < k_add (z_up (J 149) (288 + 6 * t + 5) 3) (J 149 (288 + 6 * t + 0)) r (y_slot (z_up (J 149) (288 + 6 * t + 5) 3) (J 149 (288 + 6 * t + 0)) r e) 1 := by rw [ea.2.1, n1]; exact hr
      refine z_cV' (c_leave (J := J2) (by rw [t2.1]; exact ba) (by rw [t2.1]; exact hr2)) ?_
      intro J3 hJ3
      have t3 : y_to (z_u J 148 2 0) (k_leave (k_add (z_up (J 149) (288 + 6 * t + 5) 3) (J 149 (288 + 6 * t + 0)) r (y_slot (z_up (J 149) (288 + 6 * t + 5) 3) (J 149 (288 + 6 * t + 0)) r e)) (J 149 (288 + 6 * t + 0)) r) J3 := by rw [hJ3, t2.1]; exact t2.tr y_to.put
      have bl := y_base_leave (i := J 149 (288 + 6 * t + 0)) ba hr2
      have l1 : k_leave (k_add (z_up (J 149) (288 + 6 * t + 5) 3) (J 149 (288 + 6 * t + 0)) r (y_slot (z_up (J 149) (288 + 6 * t + 5) 3) (J 149 (288 + 6 * t + 0)) r e)) (J 149 (288 + 6 * t + 0)) r 1 = J 149 1 := by rw [k_leave_old hr.1 (by omega) (by omega), ea.2.1, n1]
      have lt : k_leave (k_add (z_up (J 149) (288 + 6 * t + 5) 3) (J 149 (288 + 6 * t + 0)) r (y_slot (z_up (J 149) (288 + 6 * t + 5) 3) (J 149 (288 + 6 * t + 0)) r e)) (J 149 (288 + 6 * t + 0)) r (288 + 6 * t + 1) = J 149 (288 + 6 * t + 1) := by
        rw [k_leave_old hr.1 (by omega) (by omega), k_add_old (by omega) (by rw [n5]; omega) (by omega) (by rw [n5]; omega) (by omega), z_up_ne (by omega)]
      refine ⟨by omega, ?_⟩
      rw [t3.1, lt]
      refine z_cIq (c_serve (J := J3) (by rw [t3.1]; exact bl) (by rw [t3.1, l1]; exact k2)) ?_
      rw [t3.1]
      rintro v9 J9 X9 ⟨rfl, t1, rfl⟩
      rw [k_exchange, ho, if_pos ⟨rfl, h5.1⟩]
      exact ⟨_, _, _, rfl, rfl, rfl, (t3.tr t1).tp, n5⟩
    · rw [hv] at c10
      have ho := (P (-4)).mpr (by rw [if_neg (fun z => z c6), if_neg c7, if_neg (by rw [c8]; decide), if_neg c9, if_pos c10])
      have tt := t0.tr (y_to.u (k := 288 + 6 * t + 5) (x := 0))
      rw [show z_up ((z_row (z_row (z_u (z_u J 148 2 0) 149 (288 + 6 * t + 5) 3) 151 f) 152 f') 149) (288 + 6 * t + 5) 0 = J 149 from z_up_back c6] at tt
      exact bad 0 (-4) ho (by omega) _ tt.tp
  · have c8 : y_has (J 149) (J 149 (288 + 6 * t + 0)) r = true := y_b_1.mp c8
    exact bad 0 (-3) ((P _).mpr (by rw [if_neg (fun z => z c6), if_neg c7, if_pos c8])) (by omega) _ y_tp.th0
end R9
