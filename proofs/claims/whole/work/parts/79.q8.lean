/-! the class: more questions (written by wip/whole/gen79.py) -/
section Q8
variable {l : Launch} {d : Nat} {g : List (Option Nat)} {T : m_E} {J : z_J} {X : z_X} {q : Int → Int}
theorem e_freeIn (hb : y_base q) (h : x_day 36 q J) {r s : Int} (hr : 0 ≤ r ∧ r < q 1) (hs : 0 ≤ s ∧ s ≤ 143) : z_Sem l (d + 3) M_Desk_freeIn [.inr (.inr (.ref 125)), .inr (.inr (.ref 36)), .inl r, .inl s] (m_Ex g T, J, X) 0 0 (z_rq (m_Ex g T) (fun v J' X' => X' = X ∧ x_sc J J' ∧ v = y_free q r s)) := by
  refine z_sem_of z_m20 m_ok_20 (Nat.le_of_ble_eq_true rfl) (fun Wp hs hv hS => ?_)
  refine w_20_0 hs ?_
  refine z_cVq (e_fillFreea hb h hr) ?_
  rintro J2 X2 ⟨rfl, f, rfl, hf⟩
  refine ⟨fun c => by omega, fun c => ⟨fun c1 => by omega, fun c1 => ⟨by omega, _, _, _, rfl, rfl, rfl, fun b hb9 => z_row_ne (by omega), ?_⟩⟩⟩
  rw [z_row_eq, hf s (by omega) (by omega), y_freeX_none]
theorem q_remaining (hb : y_base q) (h : x_day 36 q J) {r s : Int} : z_Sem l (d + 4) M_Q_remaining [.inr (.inr (.ref 0)), .inl r, .inl s] (m_Ex g T, J, X) 4 24 (x_out x_e1 x_e2 (o_remaining q r s) (m_Ex g T) (fun J' X' => X' = X ∧ x_sc J J')) := by
  obtain ⟨b0, b1, b2, b3, b4, b5⟩ := hb.1
  obtain ⟨d0, d4, d1, d2, d3, d5⟩ := h.hd
  refine z_sem_of z_m137 m_ok_137 (Nat.le_of_ble_eq_true rfl) (fun Wp hs hv hS => ?_)
  refine w_137_0 hs ?_
  refine ⟨by omega, fun c => x_t1 (by rw [o_remaining, y_need_n (by omega)]) ⟨rfl, x_sc.rf⟩, fun c => ⟨fun c1 => ⟨by omega, fun c2 => x_t2 (by rw [o_remaining, y_need_2 (by omega), y_need_n (by omega)]) ⟨rfl, x_sc.rf⟩, fun c2 => ⟨fun c3 => ?_, fun c3 => x_t2 (by rw [o_remaining, y_need_2 (by omega), y_need_n (by omega)]) ⟨rfl, x_sc.rf⟩⟩⟩, fun c1 => x_t1 (by rw [o_remaining, y_need_n (by omega)]) ⟨rfl, x_sc.rf⟩⟩⟩
  refine z_cIq (e_freeIn hb h ⟨c, by omega⟩ ⟨c2, c3⟩) ?_
  rintro v J2 X2 ⟨rfl, s2, rfl⟩
  exact x_ok (by rw [o_remaining, y_need_2 (by omega), y_need_2 (by omega)]) ⟨rfl, s2⟩
theorem q_planned (hb : y_base q) (h : x_day 36 q J) {r s : Int} : z_Sem l (d + 2) M_Q_planned [.inr (.inr (.ref 0)), .inl r, .inl s] (m_Ex g T, J, X) 4 24 (x_out x_e1 x_e2 (o_planned q r s) (m_Ex g T) (fun J' X' => X' = X ∧ J' = J)) := by
  obtain ⟨b0, b1, b2, b3, b4, b5⟩ := hb.1
  obtain ⟨d0, d4, d1, d2, d3, d5⟩ := h.hd
  refine z_sem_of z_m134 m_ok_134 (Nat.le_of_ble_eq_true rfl) (fun Wp hs hv hS => ?_)
  refine w_134_0 hs ?_
  refine ⟨by omega, fun c => x_t1 (by rw [o_planned, y_need_n (by omega)]) ⟨rfl, rfl⟩, fun c => ⟨fun c1 => ⟨by omega, fun c2 => x_t2 (by rw [o_planned, y_need_2 (by omega), y_need_n (by omega)]) ⟨rfl, rfl⟩, fun c2 => ⟨fun c3 => ?_, fun c3 => x_t2 (by rw [o_planned, y_need_2 (by omega), y_need_n (by omega)]) ⟨rfl, rfl⟩⟩⟩, fun c1 => x_t1 (by rw [o_planned, y_need_n (by omega)]) ⟨rfl, rfl⟩⟩⟩
  exact z_cI (e_plannedIn hb h ⟨c, by omega⟩) (x_ok (by rw [o_planned, y_need_2 (by omega), y_need_2 (by omega)]) ⟨rfl, rfl⟩)
theorem e_returnsIn (hb : y_base q) (h : x_day 36 q J) {r s : Int} : z_Sem l (d + 2) M_Day_returnsIn [.inr (.inr (.ref 36)), .inl r, .inl s] (m_Ex g T, J, X) 0 0 (z_ret (.inl (y_sum (y_er q r s) (q 5).toNat)) (m_Ex g T, J, X)) := by
  have h5 := hb.1.2.2.2.2.2
  have h3 := hb.1.2.2.2.1
  have d5 := h.hd.2.2.2.2.2
  refine z_sem_of z_m17 m_ok_17 (Nat.le_of_ble_eq_true rfl) (fun Wp hs hv hS => ?_)
  have loop : ∀ (n k : Nat) (a : Int), (k : Int) + n = q 5 → a = y_sum (y_er q r s) k → Wp 5 [some (.inr (.inr (.ref 36))), some (.inl r), some (.inl s), some (.inl a), some (.inl k), none] [] (m_Ex g T, J, X) 0 0 := by
    intro n
    induction n with
    | zero =>
      intro k a hk ha
      refine w_17_5 hs ?_
      refine ⟨fun c => ⟨z_wi ?_, rfl⟩, fun c => by omega⟩
      rw [ha, show (q 5).toNat = k by omega]
    | succ n ih =>
      intro k a hk ha
      have b := hb.tk (t := k) (by omega) (by omega)
      have b2 := y_ers_b hb (r := r) (s := s) (n := k) (by omega)
      have f := h.tk (t := k) (by omega) (by omega)
      have kp := (hb.2.2.2.2 k (by omega) (by omega)).1
      have p := h.party kp.1 kp.2
      have pb := hb.party kp.1 kp.2
      refine w_17_5 hs ?_
      rw [f.1, f.2.1, f.2.2.1, f.2.2.2.1, f.2.2.2.2.1, p.2.1]
      refine ⟨fun c => by omega, fun c => ⟨by omega, fun c1 => ⟨by omega, ih (k + 1) _ (by omega) ?_⟩, fun c1 => ⟨by omega, fun c2 => ⟨by omega, ih (k + 1) _ (by omega) ?_⟩, fun c2 => ⟨by omega, fun c3 => ⟨by omega, ih (k + 1) _ (by omega) ?_⟩, fun c3 => ⟨by omega, fun c4 => ⟨by omega, ih (k + 1) _ (by omega) ?_⟩, fun c4 => ⟨by omega, ih (k + 1) _ (by omega) ?_⟩⟩⟩⟩⟩⟩
      all_goals
        rw [ha]
        simp only [y_er, y_sum]
        split <;> omega
  refine w_17_0 hs ?_
  exact loop (q 5).toNat 0 0 (by omega) rfl
theorem q_expectedReturns (hb : y_base q) (h : x_day 36 q J) {r s : Int} : z_Sem l (d + 3) M_Q_expectedReturns [.inr (.inr (.ref 0)), .inl r, .inl s] (m_Ex g T, J, X) 4 24 (x_out x_e1 x_e2 (o_expectedReturns q r s) (m_Ex g T) (fun J' X' => X' = X ∧ J' = J)) := by
  obtain ⟨b0, b1, b2, b3, b4, b5⟩ := hb.1
  obtain ⟨d0, d4, d1, d2, d3, d5⟩ := h.hd
  refine z_sem_of z_m172 m_ok_172 (Nat.le_of_ble_eq_true rfl) (fun Wp hs hv hS => ?_)
  refine w_172_0 hs ?_
  refine ⟨by omega, fun c => x_t1 (by rw [o_expectedReturns, y_need_n (by omega)]) ⟨rfl, rfl⟩, fun c => ⟨fun c1 => ⟨by omega, fun c2 => x_t2 (by rw [o_expectedReturns, y_need_2 (by omega), y_need_n (by omega)]) ⟨rfl, rfl⟩, fun c2 => ⟨fun c3 => ?_, fun c3 => x_t2 (by rw [o_expectedReturns, y_need_2 (by omega), y_need_n (by omega)]) ⟨rfl, rfl⟩⟩⟩, fun c1 => x_t1 (by rw [o_expectedReturns, y_need_n (by omega)]) ⟨rfl, rfl⟩⟩⟩
  exact z_cI (e_returnsIn hb h) (x_ok (by rw [o_expectedReturns, y_need_2 (by omega), y_need_2 (by omega)]) ⟨rfl, rfl⟩)
theorem y_needD_n {p : Prop} [Decidable p] {e : Int} {x : Int × UInt64} (h : ¬ p) : y_needD p e x = (e, FP.dconst0) := if_neg h
theorem y_needD_2 {p : Prop} [Decidable p] {e : Int} {x : Int × UInt64} (h : p) : y_needD p e x = x := if_pos h
theorem q_boarded (hb : y_base q) (h : x_day 36 q J) {r b : Int} : z_Sem l (d + 2) M_Q_boarded [.inr (.inr (.ref 0)), .inl r, .inl b] (m_Ex g T, J, X) 4 24 (x_out x_e1 x_e2 (o_boarded q r b) (m_Ex g T) (fun J' X' => X' = X ∧ J' = J)) := by
  obtain ⟨b0, b1, b2, b3, b4, b5⟩ := hb.1
  obtain ⟨d0, d4, d1, d2, d3, d5⟩ := h.hd
  refine z_sem_of z_m168 m_ok_168 (Nat.le_of_ble_eq_true rfl) (fun Wp hs hv hS => ?_)
  refine w_168_0 hs ?_
  refine ⟨by omega, fun c => x_t1 (by rw [o_boarded, y_need_n (by omega)]) ⟨rfl, rfl⟩, fun c => ⟨fun c1 => ?_, fun c1 => x_t1 (by rw [o_boarded, y_need_n (by omega)]) ⟨rfl, rfl⟩⟩⟩
  have f := h.ride c (show r < q 1 by omega)
  refine ⟨fun c2 => ⟨by omega, x_ok (by rw [o_boarded, y_need_2 (by omega), if_pos c2, f.2.2.2.2.2.2.2.1]) ⟨rfl, rfl⟩⟩, fun c2 => ⟨by omega, x_ok (by rw [o_boarded, y_need_2 (by omega), if_neg c2, f.2.2.2.2.2.2.1]) ⟨rfl, rfl⟩⟩⟩
theorem q_waitlistAt (hb : y_base q) (h : x_day 36 q J) {r x : Int} : z_Sem l (d + 2) M_Q_waitlistAt [.inr (.inr (.ref 0)), .inl r, .inl x] (m_Ex g T, J, X) 4 24 (x_out x_e1 x_e2 (o_waitlistAt q r x) (m_Ex g T) (fun J' X' => X' = X ∧ J' = J)) := by
  obtain ⟨b0, b1, b2, b3, b4, b5⟩ := hb.1
  obtain ⟨d0, d4, d1, d2, d3, d5⟩ := h.hd
  refine z_sem_of z_m158 m_ok_158 (Nat.le_of_ble_eq_true rfl) (fun Wp hs hv hS => ?_)
  refine w_158_0 hs ?_
  refine ⟨by omega, fun c => x_t1 (by rw [o_waitlistAt, y_need_n (by omega)]) ⟨rfl, rfl⟩, fun c => ⟨fun c1 => ?_, fun c1 => x_t1 (by rw [o_waitlistAt, y_need_n (by omega)]) ⟨rfl, rfl⟩⟩⟩
  have w := h.wait c (show r < q 1 by omega)
  have c13 := (hb.ride c (show r < q 1 by omega)).2.2.2.2.2.2.2.2.2.2.2
  rw [w.1]
  refine ⟨fun c2 => x_ok (by rw [o_waitlistAt, y_need_2 (by omega), if_neg (by omega)]) ⟨rfl, rfl⟩, fun c2 => ⟨by omega, fun c3 => ⟨by omega, by omega, x_ok (by rw [o_waitlistAt, y_need_2 (by omega), if_pos (by omega), w.2 x c2 c3]) ⟨rfl, rfl⟩⟩, fun c3 => x_ok (by rw [o_waitlistAt, y_need_2 (by omega), if_neg (by omega)]) ⟨rfl, rfl⟩⟩⟩
theorem q_averageWait (hb : y_base q) (h : x_day 36 q J) {r : Int} : z_Sem l (d + 2) M_Q_averageWait [.inr (.inr (.ref 0)), .inl r] (m_Ex g T, J, X) 4 24 (x_outD x_e1 x_e3 (o_averageWait q r) (m_Ex g T) (fun J' X' => X' = X ∧ J' = J)) := by
  obtain ⟨b0, b1, b2, b3, b4, b5⟩ := hb.1
  obtain ⟨d0, d4, d1, d2, d3, d5⟩ := h.hd
  refine z_sem_of z_m169 m_ok_169 (Nat.le_of_ble_eq_true rfl) (fun Wp hs hv hS => ?_)
  refine w_169_0 hs ?_
  refine ⟨by omega, fun c => x_t1D (by rw [o_averageWait, y_needD_n (by omega)]) ⟨rfl, rfl⟩, fun c => ⟨fun c1 => ?_, fun c1 => x_t1D (by rw [o_averageWait, y_needD_n (by omega)]) ⟨rfl, rfl⟩⟩⟩
  have f := h.ride c (show r < q 1 by omega)
  have b := (hb.ride c (show r < q 1 by omega)).2.2.2.2.2.2.2.2.2.1
  rw [f.2.2.2.2.2.2.2.2.1, f.2.2.2.2.2.2.2.2.2.1]
  refine ⟨by omega, fun c2 => ⟨⟨by omega, v_divI (by omega) c2⟩, x_okD (by rw [o_averageWait, y_needD_2 (by omega), y_needD_2 c2]) ⟨rfl, rfl⟩⟩, fun c2 => ⟨by omega, x_t2D (by rw [o_averageWait, y_needD_2 (by omega), y_needD_n (by omega)]) ⟨rfl, rfl⟩⟩⟩
theorem q_expiredPart (hb : y_base q) (h : x_day 36 q J) {r : Int} : z_Sem l (d + 2) M_Q_expiredPart [.inr (.inr (.ref 0)), .inl r] (m_Ex g T, J, X) 4 24 (x_outD x_e1 x_e3 (o_expiredPart q r) (m_Ex g T) (fun J' X' => X' = X ∧ J' = J)) := by
  obtain ⟨b0, b1, b2, b3, b4, b5⟩ := hb.1
  obtain ⟨d0, d4, d1, d2, d3, d5⟩ := h.hd
  refine z_sem_of z_m173 m_ok_173 (Nat.le_of_ble_eq_true rfl) (fun Wp hs hv hS => ?_)
  refine w_173_0 hs ?_
  refine ⟨by omega, fun c => x_t1D (by rw [o_expiredPart, y_needD_n (by omega)]) ⟨rfl, rfl⟩, fun c => ⟨fun c1 => ?_, fun c1 => x_t1D (by rw [o_expiredPart, y_needD_n (by omega)]) ⟨rfl, rfl⟩⟩⟩
  have s1 := y_cnt_b (f := y_cr q r 2) (fun k => y_cr_b) (n := (q 5).toNat)
  have s2 := y_cnt_b (f := y_cr q r 1) (fun k => y_cr_b) (n := (q 5).toNat)
  refine z_cI (e_countFor hb h) (z_cI (e_countFor hb h) ⟨by omega, fun c2 => ⟨v_divI (by omega) c2, x_okD (by rw [o_expiredPart, y_needD_2 (by omega), y_needD_2 c2]) ⟨rfl, rfl⟩⟩, fun c2 => ⟨by omega, x_t2D (by rw [o_expiredPart, y_needD_2 (by omega), y_needD_n (by omega)]) ⟨rfl, rfl⟩⟩⟩)
theorem e_freeFromNow (hb : y_base q) (h : x_day 36 q J) {r : Int} (hr : 0 ≤ r ∧ r < q 1) : z_Sem l (d + 3) M_Desk_freeFromNow [.inr (.inr (.ref 125)), .inr (.inr (.ref 36)), .inl r] (m_Ex g T, J, X) 0 0 (z_rq (m_Ex g T) (fun v J' X' => X' = X ∧ x_sc J J' ∧ v = y_sum (y_fs q r) (144 - q 0).toNat)) := by
  have h0 := hb.1.1
  have fb : ∀ s, -1800 ≤ y_free q r s ∧ y_free q r s ≤ 200 := fun s => by
    have b1 := y_planned_b (s := s) (hb.ride hr.1 hr.2)
    have b2 := y_charged_b hb (r := r) (s := s)
    unfold y_free
    omega
  have sb : ∀ n : Nat, -1800 * (n : Int) ≤ y_sum (y_fs q r) n ∧ y_sum (y_fs q r) n ≤ 200 * n := by
    intro n
    induction n with
    | zero => simp [y_sum]
    | succ n ih =>
      have := fb (q 0 + n)
      rw [y_sum, y_fs]
      omega
  refine z_sem_of z_m34 m_ok_34 (Nat.le_of_ble_eq_true rfl) (fun Wp hs hv hS => ?_)
  have loop : ∀ (f : Int → Int), (∀ s, 0 ≤ s → s < 144 → f s = y_free q r s) → ∀ (n k : Nat) (a : Int), q 0 + (k : Int) + n = 144 → a = y_sum (y_fs q r) k → Wp 18 [some (.inr (.inr (.ref 125))), some (.inr (.inr (.ref 36))), some (.inl r), some (.inl a), some (.inl (q 0 + k))] [] (m_Ex g T, z_row J 126 f, X) 0 0 := by
    intro f hf n
    induction n with
    | zero =>
      intro k a hk ha
      refine w_34_18 hs ?_
      refine ⟨fun c => ⟨_, _, _, rfl, rfl, rfl, fun b hb9 => z_row_ne (by omega), ?_⟩, fun c => by omega⟩
      rw [ha, show (144 - q 0).toNat = k by omega]
    | succ n ih =>
      intro k a hk ha
      have b1 := sb k
      have b2 := fb (q 0 + k)
      refine w_34_18 hs ?_
      rw [z_row_eq, hf (q 0 + k) (by omega) (by omega)]
      refine ⟨fun c => by omega, fun c => ⟨by omega, ?_⟩⟩
      have := ih (k + 1) (a + y_free q r (q 0 + k)) (by omega) (by rw [ha, y_sum]; rfl)
      rw [show q 0 + ((k + 1 : Nat) : Int) = q 0 + k + 1 by omega] at this
      exact this
  refine w_34_0 hs ?_
  refine z_cVq (e_fillFreea hb h hr) ?_
  rintro J2 X2 ⟨rfl, f, rfl, hf⟩
  have := loop f (fun s a1 a2 => by rw [hf s a1 a2, y_freeX_none]) (144 - q 0).toNat 0 0 (by omega) rfl
  rw [show q 0 + ((0 : Nat) : Int) = (z_row J 126 f) 36 0 by rw [show (z_row J 126 f) 36 0 = q 0 from h.hd.1]; omega] at this
  exact this
theorem q_capacityLeft (hb : y_base q) (h : x_day 36 q J) {r : Int} : z_Sem l (d + 4) M_Q_capacityLeft [.inr (.inr (.ref 0)), .inl r] (m_Ex g T, J, X) 4 24 (x_out x_e1 x_e2 (o_capacityLeft q r) (m_Ex g T) (fun J' X' => X' = X ∧ x_sc J J')) := by
  obtain ⟨b0, b1, b2, b3, b4, b5⟩ := hb.1
  obtain ⟨d0, d4, d1, d2, d3, d5⟩ := h.hd
  refine z_sem_of z_m174 m_ok_174 (Nat.le_of_ble_eq_true rfl) (fun Wp hs hv hS => ?_)
  refine w_174_0 hs ?_
  refine ⟨by omega, fun c => x_t1 (by rw [o_capacityLeft, y_need_n (by omega)]) ⟨rfl, x_sc.rf⟩, fun c => ⟨fun c1 => ?_, fun c1 => x_t1 (by rw [o_capacityLeft, y_need_n (by omega)]) ⟨rfl, x_sc.rf⟩⟩⟩
  refine z_cIq (e_freeFromNow hb h ⟨c, by omega⟩) ?_
  rintro v J2 X2 ⟨rfl, s2, rfl⟩
  exact x_ok (by rw [o_capacityLeft, y_need_2 (by omega)]) ⟨rfl, s2⟩
theorem e_slotOfMostCharged (hb : y_base q) (h : x_day 36 q J) {r : Int} (hr : 0 ≤ r ∧ r < q 1) : z_Sem l (d + 3) M_Desk_slotOfMostCharged [.inr (.inr (.ref 125)), .inr (.inr (.ref 36)), .inl r] (m_Ex g T, J, X) 0 0 (z_rq (m_Ex g T) (fun v J' X' => X' = X ∧ x_sc J J' ∧ v = (if y_charged q r (y_peak q r 143) = 0 then -1 else y_peak q r 143))) := by
  have h1 := hb.1.2.1
  refine z_sem_of z_m35 m_ok_35 (Nat.le_of_ble_eq_true rfl) (fun Wp hs hv hS => ?_)
  have loop : ∀ (f : Int → Int), (∀ s, 0 ≤ s → s < 144 → f s = y_free q r s) → ∀ (n k : Nat) (a b : Int), k + n = 144 → (k = 0 → a = -1 ∧ b = 0) → (∀ j, k = j + 1 → b = y_charged q r (y_peak q r j) ∧ a = if b = 0 then -1 else y_peak q r j) → Wp 18 [some (.inr (.inr (.ref 125))), some (.inr (.inr (.ref 36))), some (.inl r), some (.inl a), some (.inl b), some (.inl k), none] [] (m_Ex g T, z_row J 126 f, X) 0 0 := by
    intro f hf n
    have x1 := h.row (a := 126) (by omega) h1.2 (f := f)
    induction n with
    | zero =>
      intro k a b hk h0 hj
      obtain ⟨e1, e2⟩ := hj 143 (by omega)
      refine w_35_18 hs ?_
      refine ⟨fun c => ⟨_, _, _, rfl, rfl, rfl, fun b hb9 => z_row_ne (by omega), ?_⟩, fun c => by omega⟩
      rw [e2, e1]
    | succ n ih =>
      intro k a b hk h0 hj
      have ef := hf k (by omega) (by omega)
      have b1 := y_planned_b (s := k) (hb.ride hr.1 hr.2)
      have b2 := y_charged_b hb (r := r) (s := k)
      have ec : y_planned q r k - f k = y_charged q r k := by rw [ef, y_free]; omega
      have bb : 0 ≤ b := by
        by_cases k0 : k = 0
        · have := (h0 k0).2; omega
        · have := (hj (k - 1) (by omega)).1; have := (y_charged_b hb (r := r) (s := y_peak q r (k - 1))).1; omega
      refine w_35_18 hs ?_
      refine ⟨fun c => by omega, fun c => z_cI (e_plannedIn hb x1 hr) ?_⟩
      rw [z_row_eq, ec]
      refine ⟨by omega, fun c1 => ⟨by omega, ih (k + 1) a b (by omega) (fun z => by omega) (fun j hj2 => ?_)⟩, fun c1 => ⟨by omega, ih (k + 1) k _ (by omega) (fun z => by omega) (fun j hj2 => ?_)⟩⟩
      · have ej : j = k := by omega
        subst ej
        cases j with
        | zero =>
          obtain ⟨z1, z2⟩ := h0 rfl
          have c2 : y_charged q r 0 ≤ b := c1
          have b3 : 0 ≤ y_charged q r 0 := b2.1
          rw [y_peak]
          exact ⟨by omega, by rw [if_pos z2]; exact z1⟩
        | succ m =>
          obtain ⟨z1, z2⟩ := hj m rfl
          have c2 : y_charged q r (m + 1) ≤ b := c1
          rw [y_peak, if_neg (by omega)]
          exact ⟨z1, z2⟩
      · have ej : j = k := by omega
        subst ej
        cases j with
        | zero =>
          rw [y_peak, if_neg (by omega)]
          exact ⟨rfl, rfl⟩
        | succ m =>
          obtain ⟨z1, z2⟩ := hj m rfl
          have c2 : b < y_charged q r (m + 1) := c1
          rw [y_peak, if_pos (by omega), if_neg (by omega)]
          exact ⟨rfl, rfl⟩
  refine w_35_0 hs ?_
  refine z_cVq (e_fillFreea hb h hr) ?_
  rintro J2 X2 ⟨rfl, f, rfl, hf⟩
  exact loop f (fun s a1 a2 => by rw [hf s a1 a2, y_freeX_none]) 144 0 (-1) 0 (by omega) (fun _ => ⟨rfl, rfl⟩) (fun j hj => by omega)
theorem q_peakSlot (hb : y_base q) (h : x_day 36 q J) {r : Int} : z_Sem l (d + 4) M_Q_peakSlot [.inr (.inr (.ref 0)), .inl r] (m_Ex g T, J, X) 4 24 (x_out x_e1 x_e2 (o_peakSlot q r) (m_Ex g T) (fun J' X' => X' = X ∧ x_sc J J')) := by
  obtain ⟨b0, b1, b2, b3, b4, b5⟩ := hb.1
  obtain ⟨d0, d4, d1, d2, d3, d5⟩ := h.hd
  refine z_sem_of z_m175 m_ok_175 (Nat.le_of_ble_eq_true rfl) (fun Wp hs hv hS => ?_)
  refine w_175_0 hs ?_
  refine ⟨by omega, fun c => x_t1 (by rw [o_peakSlot, y_need_n (by omega)]) ⟨rfl, x_sc.rf⟩, fun c => ⟨fun c1 => ?_, fun c1 => x_t1 (by rw [o_peakSlot, y_need_n (by omega)]) ⟨rfl, x_sc.rf⟩⟩⟩
  refine z_cIq (e_slotOfMostCharged hb h ⟨c, by omega⟩) ?_
  rintro v J2 X2 ⟨rfl, s2, rfl⟩
  exact x_ok (by rw [o_peakSlot, y_need_2 (by omega)]) ⟨rfl, s2⟩
theorem q_countTickets (hb : y_base q) (h : x_day 36 q J) {i s : Int} : z_Sem l (d + 2) M_Q_countTickets [.inr (.inr (.ref 0)), .inl i, .inl s] (m_Ex g T, J, X) 4 24 (x_out x_e1 x_e2 (o_countTickets q i s) (m_Ex g T) (fun J' X' => X' = X ∧ J' = J)) := by
  obtain ⟨b0, b1, b2, b3, b4, b5⟩ := hb.1
  obtain ⟨d0, d4, d1, d2, d3, d5⟩ := h.hd
  refine z_sem_of z_m154 m_ok_154 (Nat.le_of_ble_eq_true rfl) (fun Wp hs hv hS => ?_)
  refine w_154_0 hs ?_
  refine ⟨by omega, fun c => x_t1 (by rw [o_countTickets, y_need_n (by omega)]) ⟨rfl, rfl⟩, fun c => ⟨fun c1 => ⟨fun c2 => ⟨by omega, x_t2 (by rw [o_countTickets, y_need_2 (by omega), y_need_n (by omega)]) ⟨rfl, rfl⟩⟩, fun c2 => ⟨fun c3 => ?_, fun c3 => ⟨by omega, x_t2 (by rw [o_countTickets, y_need_2 (by omega), y_need_n (by omega)]) ⟨rfl, rfl⟩⟩⟩⟩, fun c1 => x_t1 (by rw [o_countTickets, y_need_n (by omega)]) ⟨rfl, rfl⟩⟩⟩
  exact z_cI (e_countOf hb h) (x_ok (by rw [o_countTickets, y_need_2 (by omega), y_need_2 (by omega)]) ⟨rfl, rfl⟩)
theorem q_leaveWaitlist (hb : y_base q) (h : x_day 36 q J) {i r : Int} : z_Sem l (d + 3) M_Q_leaveWaitlist [.inr (.inr (.ref 0)), .inl i, .inl r] (m_Ex g T, J, X) 4 24 (x_out x_e1 x_e2 (o_leaveWaitlist q i r) (m_Ex g T) (fun J' X' => X' = X ∧ x_day 36 (k_leaveWaitlist q i r) J' ∧ x_fr J J')) := by
  obtain ⟨b0, b1, b2, b3, b4, b5⟩ := hb.1
  obtain ⟨d0, d4, d1, d2, d3, d5⟩ := h.hd
  have t1 : ¬ ((0 ≤ i ∧ i < q 3) ∧ (0 ≤ r ∧ r < q 1)) → x_out x_e1 x_e2 (o_leaveWaitlist q i r) (m_Ex g T) (fun J' X' => X' = X ∧ x_day 36 (k_leaveWaitlist q i r) J' ∧ x_fr J J') (.inr x_e1) (m_Ex g T, J, X) := fun hn => x_t1 (by rw [o_leaveWaitlist, y_need_n hn]) ⟨rfl, by rw [k_leaveWaitlist, if_neg hn]; exact h, x_fr.rf⟩
  refine z_sem_of z_m157 m_ok_157 (Nat.le_of_ble_eq_true rfl) (fun Wp hs hv hS => ?_)
  refine w_157_0 hs ?_
  refine ⟨by omega, fun c => t1 (by omega), fun c => ⟨fun c1 => ⟨by omega, fun c2 => t1 (by omega), fun c2 => ⟨fun c3 => ?_, fun c3 => t1 (by omega)⟩⟩, fun c1 => t1 (by omega)⟩⟩
  refine z_cIq (e_remove hb h ⟨c2, by omega⟩) ?_
  rintro v J2 X2 ⟨rfl, x2, f2, rfl⟩
  refine ⟨by split <;> omega, x_ok (by rw [o_leaveWaitlist, y_need_2 (by omega)]) ⟨rfl, ?_, fun b hb9 => f2 b (by omega)⟩⟩
  rw [k_leaveWaitlist, if_pos (by omega)]; exact x2
theorem e_activeBefore (hb : y_base q) (h : x_day 36 q J) {t i : Int} (ht : 0 ≤ t ∧ t < q 5) : z_Sem l (d + 2) M_Tickets_activeBefore [.inr (.inr (.ref 57)), .inl t, .inl i] (m_Ex g T, J, X) 0 0 (z_ret (.inl (y_bfs q i t)) (m_Ex g T, J, X)) := by
  have h5 := hb.1.2.2.2.2.2
  have d5 := h.hd.2.2.2.2.2
  have ft := h.tk ht.1 ht.2
  refine z_sem_of z_m104 m_ok_104 (Nat.le_of_ble_eq_true rfl) (fun Wp hs hv hS => ?_)
  have loop : ∀ (n k : Nat) (a : Int), (k : Int) + n = q 5 → a = y_sum (y_bf q i t) k → Wp 5 [some (.inr (.inr (.ref 57))), some (.inl t), some (.inl i), some (.inl a), some (.inl k), none] [] (m_Ex g T, J, X) 0 0 := by
    intro n
    induction n with
    | zero =>
      intro k a hk ha
      refine w_104_5 hs ?_
      refine ⟨fun c => ⟨z_wi ?_, rfl⟩, fun c => by omega⟩
      rw [ha, y_bfs, show (q 5).toNat = k by omega]
    | succ n ih =>
      intro k a hk ha
      have b2 := y_cnt_b (f := y_bf q i t) (fun k => y_bf_b) (n := k)
      have f := h.tk (t := k) (by omega) (by omega)
      refine w_104_5 hs ?_
      rw [f.1, f.2.2.1, f.2.2.2.2.1, ft.2.2.1]
      refine ⟨fun c => by omega, fun c => ⟨by omega, fun c1 => ⟨by omega, fun c2 => ⟨by omega, ih (k + 1) _ (by omega) ?_⟩, fun c2 => ⟨by omega, fun c3 => ⟨by omega, ih (k + 1) _ (by omega) ?_⟩, fun c3 => ⟨by omega, ih (k + 1) _ (by omega) ?_⟩⟩⟩, fun c1 => ⟨by omega, fun c2 => ⟨by omega, ih (k + 1) _ (by omega) ?_⟩, fun c2 => ⟨fun c3 => ⟨by omega, ih (k + 1) _ (by omega) ?_⟩, fun c3 => ⟨by omega, fun c4 => ⟨by omega, ih (k + 1) _ (by omega) ?_⟩, fun c4 => ⟨by omega, fun c5 => ⟨by omega, ih (k + 1) _ (by omega) ?_⟩, fun c5 => ⟨by omega, ih (k + 1) _ (by omega) ?_⟩⟩⟩⟩⟩⟩⟩
      all_goals
        rw [ha]
        simp only [y_bf, y_sum]
        split <;> omega
  refine w_104_0 hs ?_
  exact loop (q 5).toNat 0 0 (by omega) rfl
theorem e_activeAt (hb : y_base q) (h : x_day 36 q J) {i x : Int} : z_Sem l (d + 3) M_Tickets_activeAt [.inr (.inr (.ref 57)), .inl i, .inl x] (m_Ex g T, J, X) 0 0 (z_ret (.inl (y_at q i x)) (m_Ex g T, J, X)) := by
  have h5 := hb.1.2.2.2.2.2
  have d5 := h.hd.2.2.2.2.2
  refine z_sem_of z_m103 m_ok_103 (Nat.le_of_ble_eq_true rfl) (fun Wp hs hv hS => ?_)
  have loop : ∀ (n k : Nat), (k : Int) + n = q 5 → y_any (y_aa q i x) k = false → Wp 2 [some (.inr (.inr (.ref 57))), some (.inl i), some (.inl x), some (.inl k)] [] (m_Ex g T, J, X) 0 0 := by
    intro n
    induction n with
    | zero =>
      intro k hk ha
      refine w_103_2 hs ?_
      refine ⟨fun c => ⟨z_wi ?_, rfl⟩, fun c => by omega⟩
      rw [y_at, show (q 5).toNat = k by omega, y_first_none ha]
    | succ n ih =>
      intro k hk ha
      have f := h.tk (t := k) (by omega) (by omega)
      have nxt : ¬ (q (288 + 6 * k + 0) = i ∧ q (288 + 6 * k + 5) = 0 ∧ y_bfs q i k = x) → Wp 2 [some (.inr (.inr (.ref 57))), some (.inl i), some (.inl x), some (.inl (k + 1))] [] (m_Ex g T, J, X) 0 0 := by
        intro hc
        exact ih (k + 1) (by omega) (by rw [y_any, ha, y_aa, decide_eq_false hc]; rfl)
      refine w_103_2 hs ?_
      rw [f.1, f.2.2.2.2.1]
      refine ⟨fun c => by omega, fun c => ⟨by omega, fun c1 => ⟨by omega, nxt (by omega)⟩, fun c1 => ⟨by omega, fun c2 => ⟨by omega, nxt (by omega)⟩, fun c2 => z_cI (e_activeBefore hb h ⟨by omega, by omega⟩) ⟨fun c3 => ⟨by omega, nxt (by omega)⟩, fun c3 => ⟨z_wi ?_, rfl⟩⟩⟩⟩⟩
      rw [y_at, y_first_at (k := k) (by omega) ha (by rw [y_aa, decide_eq_true_eq]; exact ⟨c2, c1, c3⟩)]
  refine w_103_0 hs ?_
  exact loop (q 5).toNat 0 (by omega) rfl
theorem q_itinerary (hb : y_base q) (h : x_day 36 q J) {i x : Int} : z_Sem l (d + 4) M_Q_itinerary [.inr (.inr (.ref 0)), .inl i, .inl x] (m_Ex g T, J, X) 4 24 (x_out x_e1 x_e2 (o_itinerary q i x) (m_Ex g T) (fun J' X' => X' = X ∧ J' = J)) := by
  obtain ⟨b0, b1, b2, b3, b4, b5⟩ := hb.1
  obtain ⟨d0, d4, d1, d2, d3, d5⟩ := h.hd
  refine z_sem_of z_m155 m_ok_155 (Nat.le_of_ble_eq_true rfl) (fun Wp hs hv hS => ?_)
  refine w_155_0 hs ?_
  refine ⟨by omega, fun c => x_t1 (by rw [o_itinerary, y_need_n (by omega)]) ⟨rfl, rfl⟩, fun c => ⟨fun c1 => ?_, fun c1 => x_t1 (by rw [o_itinerary, y_need_n (by omega)]) ⟨rfl, rfl⟩⟩⟩
  exact z_cI (e_activeAt hb h) (x_ok (by rw [o_itinerary, y_need_2 (by omega)]) ⟨rfl, rfl⟩)
end Q8
