/-! the class: plain questions (written by wip/whole/gen70.py) -/
section Q1
variable {l : Launch} {d : Nat} {g : List (Option Nat)} {T : m_E} {J : z_J} {X : z_X} {q : Int → Int}
theorem q_rideCount (h : x_day 36 q J) : z_Sem l (d + 1) M_Q_rideCount [.inr (.inr (.ref 0))] (m_Ex g T, J, X) 4 24 (x_out x_e1 x_e2 (o_rideCount q) (m_Ex g T) (fun J' X' => X' = X ∧ J' = J)) := by
  have hd := h.hd
  refine z_sem_of z_m119 m_ok_119 (Nat.le_of_ble_eq_true rfl) (fun Wp hs hv hS => ?_)
  refine w_119_0 hs ?_
  exact x_ok (by rw [o_rideCount]; exact congrArg (Prod.mk 0) (hd.2.2.1).symm) ⟨rfl, rfl⟩
theorem q_tierCount (h : x_day 36 q J) : z_Sem l (d + 1) M_Q_tierCount [.inr (.inr (.ref 0))] (m_Ex g T, J, X) 4 24 (x_out x_e1 x_e2 (o_tierCount q) (m_Ex g T) (fun J' X' => X' = X ∧ J' = J)) := by
  have hd := h.hd
  refine z_sem_of z_m120 m_ok_120 (Nat.le_of_ble_eq_true rfl) (fun Wp hs hv hS => ?_)
  refine w_120_0 hs ?_
  exact x_ok (by rw [o_tierCount]; exact congrArg (Prod.mk 0) (hd.2.2.2.1).symm) ⟨rfl, rfl⟩
theorem q_partyCount (h : x_day 36 q J) : z_Sem l (d + 1) M_Q_partyCount [.inr (.inr (.ref 0))] (m_Ex g T, J, X) 4 24 (x_out x_e1 x_e2 (o_partyCount q) (m_Ex g T) (fun J' X' => X' = X ∧ J' = J)) := by
  have hd := h.hd
  refine z_sem_of z_m121 m_ok_121 (Nat.le_of_ble_eq_true rfl) (fun Wp hs hv hS => ?_)
  refine w_121_0 hs ?_
  exact x_ok (by rw [o_partyCount]; exact congrArg (Prod.mk 0) (hd.2.2.2.2.1).symm) ⟨rfl, rfl⟩
theorem q_now (h : x_day 36 q J) : z_Sem l (d + 1) M_Q_now [.inr (.inr (.ref 0))] (m_Ex g T, J, X) 4 24 (x_out x_e1 x_e2 (o_now q) (m_Ex g T) (fun J' X' => X' = X ∧ J' = J)) := by
  have hd := h.hd
  refine z_sem_of z_m122 m_ok_122 (Nat.le_of_ble_eq_true rfl) (fun Wp hs hv hS => ?_)
  refine w_122_0 hs ?_
  exact x_ok (by rw [o_now]; exact congrArg (Prod.mk 0) (hd.1).symm) ⟨rfl, rfl⟩
theorem q_ticketCount (h : x_day 36 q J) : z_Sem l (d + 1) M_Q_ticketCount [.inr (.inr (.ref 0))] (m_Ex g T, J, X) 4 24 (x_out x_e1 x_e2 (o_ticketCount q) (m_Ex g T) (fun J' X' => X' = X ∧ J' = J)) := by
  have hd := h.hd
  refine z_sem_of z_m123 m_ok_123 (Nat.le_of_ble_eq_true rfl) (fun Wp hs hv hS => ?_)
  refine w_123_0 hs ?_
  exact x_ok (by rw [o_ticketCount]; exact congrArg (Prod.mk 0) (hd.2.2.2.2.2).symm) ⟨rfl, rfl⟩
theorem q_partySize (hb : y_base q) (h : x_day 36 q J) {a : Int} : z_Sem l (d + 2) M_Q_partySize [.inr (.inr (.ref 0)), .inl a] (m_Ex g T, J, X) 4 24 (x_out x_e1 x_e2 (o_partySize q a) (m_Ex g T) (fun J' X' => X' = X ∧ J' = J)) := by
  obtain ⟨b0, b1, b2, b3, b4, b5⟩ := hb.1
  obtain ⟨d0, d4, d1, d2, d3, d5⟩ := h.hd
  refine z_sem_of z_m131 m_ok_131 (Nat.le_of_ble_eq_true rfl) (fun Wp hs hv hS => ?_)
  refine w_131_0 hs ?_
  refine ⟨by omega, fun c => x_t1 (by rw [o_partySize, y_need_n (by omega)]) ⟨rfl, rfl⟩, fun c => ⟨fun c1 => ⟨by omega, ?_⟩, fun c1 => x_t1 (by rw [o_partySize, y_need_n (by omega)]) ⟨rfl, rfl⟩⟩⟩
  have f := h.party c (show a < q 3 by omega)
  exact x_ok (by rw [o_partySize, y_need_2 (by omega), f.2.1]) ⟨rfl, rfl⟩
theorem q_partyTier (hb : y_base q) (h : x_day 36 q J) {a : Int} : z_Sem l (d + 2) M_Q_partyTier [.inr (.inr (.ref 0)), .inl a] (m_Ex g T, J, X) 4 24 (x_out x_e1 x_e2 (o_partyTier q a) (m_Ex g T) (fun J' X' => X' = X ∧ J' = J)) := by
  obtain ⟨b0, b1, b2, b3, b4, b5⟩ := hb.1
  obtain ⟨d0, d4, d1, d2, d3, d5⟩ := h.hd
  refine z_sem_of z_m133 m_ok_133 (Nat.le_of_ble_eq_true rfl) (fun Wp hs hv hS => ?_)
  refine w_133_0 hs ?_
  refine ⟨by omega, fun c => x_t1 (by rw [o_partyTier, y_need_n (by omega)]) ⟨rfl, rfl⟩, fun c => ⟨fun c1 => ⟨by omega, ?_⟩, fun c1 => x_t1 (by rw [o_partyTier, y_need_n (by omega)]) ⟨rfl, rfl⟩⟩⟩
  have f := h.party c (show a < q 3 by omega)
  exact x_ok (by rw [o_partyTier, y_need_2 (by omega), f.1]) ⟨rfl, rfl⟩
theorem q_ticketParty (hb : y_base q) (h : x_day 36 q J) {a : Int} : z_Sem l (d + 2) M_Q_ticketParty [.inr (.inr (.ref 0)), .inl a] (m_Ex g T, J, X) 4 24 (x_out x_e1 x_e2 (o_ticketParty q a) (m_Ex g T) (fun J' X' => X' = X ∧ J' = J)) := by
  obtain ⟨b0, b1, b2, b3, b4, b5⟩ := hb.1
  obtain ⟨d0, d4, d1, d2, d3, d5⟩ := h.hd
  refine z_sem_of z_m148 m_ok_148 (Nat.le_of_ble_eq_true rfl) (fun Wp hs hv hS => ?_)
  refine w_148_0 hs ?_
  refine ⟨by omega, fun c => x_t1 (by rw [o_ticketParty, y_need_n (by omega)]) ⟨rfl, rfl⟩, fun c => ⟨fun c1 => ⟨by omega, ?_⟩, fun c1 => x_t1 (by rw [o_ticketParty, y_need_n (by omega)]) ⟨rfl, rfl⟩⟩⟩
  have f := h.tk c (show a < q 5 by omega)
  exact x_ok (by rw [o_ticketParty, y_need_2 (by omega), f.1]) ⟨rfl, rfl⟩
theorem q_ticketRide (hb : y_base q) (h : x_day 36 q J) {a : Int} : z_Sem l (d + 2) M_Q_ticketRide [.inr (.inr (.ref 0)), .inl a] (m_Ex g T, J, X) 4 24 (x_out x_e1 x_e2 (o_ticketRide q a) (m_Ex g T) (fun J' X' => X' = X ∧ J' = J)) := by
  obtain ⟨b0, b1, b2, b3, b4, b5⟩ := hb.1
  obtain ⟨d0, d4, d1, d2, d3, d5⟩ := h.hd
  refine z_sem_of z_m149 m_ok_149 (Nat.le_of_ble_eq_true rfl) (fun Wp hs hv hS => ?_)
  refine w_149_0 hs ?_
  refine ⟨by omega, fun c => x_t1 (by rw [o_ticketRide, y_need_n (by omega)]) ⟨rfl, rfl⟩, fun c => ⟨fun c1 => ⟨by omega, ?_⟩, fun c1 => x_t1 (by rw [o_ticketRide, y_need_n (by omega)]) ⟨rfl, rfl⟩⟩⟩
  have f := h.tk c (show a < q 5 by omega)
  exact x_ok (by rw [o_ticketRide, y_need_2 (by omega), f.2.1]) ⟨rfl, rfl⟩
theorem q_ticketStart (hb : y_base q) (h : x_day 36 q J) {a : Int} : z_Sem l (d + 2) M_Q_ticketStart [.inr (.inr (.ref 0)), .inl a] (m_Ex g T, J, X) 4 24 (x_out x_e1 x_e2 (o_ticketStart q a) (m_Ex g T) (fun J' X' => X' = X ∧ J' = J)) := by
  obtain ⟨b0, b1, b2, b3, b4, b5⟩ := hb.1
  obtain ⟨d0, d4, d1, d2, d3, d5⟩ := h.hd
  refine z_sem_of z_m150 m_ok_150 (Nat.le_of_ble_eq_true rfl) (fun Wp hs hv hS => ?_)
  refine w_150_0 hs ?_
  refine ⟨by omega, fun c => x_t1 (by rw [o_ticketStart, y_need_n (by omega)]) ⟨rfl, rfl⟩, fun c => ⟨fun c1 => ⟨by omega, ?_⟩, fun c1 => x_t1 (by rw [o_ticketStart, y_need_n (by omega)]) ⟨rfl, rfl⟩⟩⟩
  have f := h.tk c (show a < q 5 by omega)
  exact x_ok (by rw [o_ticketStart, y_need_2 (by omega), f.2.2.1]) ⟨rfl, rfl⟩
theorem q_ticketEnd (hb : y_base q) (h : x_day 36 q J) {a : Int} : z_Sem l (d + 2) M_Q_ticketEnd [.inr (.inr (.ref 0)), .inl a] (m_Ex g T, J, X) 4 24 (x_out x_e1 x_e2 (o_ticketEnd q a) (m_Ex g T) (fun J' X' => X' = X ∧ J' = J)) := by
  obtain ⟨b0, b1, b2, b3, b4, b5⟩ := hb.1
  obtain ⟨d0, d4, d1, d2, d3, d5⟩ := h.hd
  refine z_sem_of z_m151 m_ok_151 (Nat.le_of_ble_eq_true rfl) (fun Wp hs hv hS => ?_)
  refine w_151_0 hs ?_
  refine ⟨by omega, fun c => x_t1 (by rw [o_ticketEnd, y_need_n (by omega)]) ⟨rfl, rfl⟩, fun c => ⟨fun c1 => ⟨by omega, ?_⟩, fun c1 => x_t1 (by rw [o_ticketEnd, y_need_n (by omega)]) ⟨rfl, rfl⟩⟩⟩
  have f := h.tk c (show a < q 5 by omega)
  exact x_ok (by rw [o_ticketEnd, y_need_2 (by omega), f.2.2.2.1]) ⟨rfl, rfl⟩
theorem q_ticketState (hb : y_base q) (h : x_day 36 q J) {a : Int} : z_Sem l (d + 2) M_Q_ticketState [.inr (.inr (.ref 0)), .inl a] (m_Ex g T, J, X) 4 24 (x_out x_e1 x_e2 (o_ticketState q a) (m_Ex g T) (fun J' X' => X' = X ∧ J' = J)) := by
  obtain ⟨b0, b1, b2, b3, b4, b5⟩ := hb.1
  obtain ⟨d0, d4, d1, d2, d3, d5⟩ := h.hd
  refine z_sem_of z_m152 m_ok_152 (Nat.le_of_ble_eq_true rfl) (fun Wp hs hv hS => ?_)
  refine w_152_0 hs ?_
  refine ⟨by omega, fun c => x_t1 (by rw [o_ticketState, y_need_n (by omega)]) ⟨rfl, rfl⟩, fun c => ⟨fun c1 => ⟨by omega, ?_⟩, fun c1 => x_t1 (by rw [o_ticketState, y_need_n (by omega)]) ⟨rfl, rfl⟩⟩⟩
  have f := h.tk c (show a < q 5 by omega)
  exact x_ok (by rw [o_ticketState, y_need_2 (by omega), f.2.2.2.2.1]) ⟨rfl, rfl⟩
theorem q_ticketExtension (hb : y_base q) (h : x_day 36 q J) {a : Int} : z_Sem l (d + 2) M_Q_ticketExtension [.inr (.inr (.ref 0)), .inl a] (m_Ex g T, J, X) 4 24 (x_out x_e1 x_e2 (o_ticketExtension q a) (m_Ex g T) (fun J' X' => X' = X ∧ J' = J)) := by
  obtain ⟨b0, b1, b2, b3, b4, b5⟩ := hb.1
  obtain ⟨d0, d4, d1, d2, d3, d5⟩ := h.hd
  refine z_sem_of z_m153 m_ok_153 (Nat.le_of_ble_eq_true rfl) (fun Wp hs hv hS => ?_)
  refine w_153_0 hs ?_
  refine ⟨by omega, fun c => x_t1 (by rw [o_ticketExtension, y_need_n (by omega)]) ⟨rfl, rfl⟩, fun c => ⟨fun c1 => ⟨by omega, ?_⟩, fun c1 => x_t1 (by rw [o_ticketExtension, y_need_n (by omega)]) ⟨rfl, rfl⟩⟩⟩
  have f := h.tk c (show a < q 5 by omega)
  exact x_ok (by rw [o_ticketExtension, y_need_2 (by omega), f.2.2.2.2.2]) ⟨rfl, rfl⟩
theorem q_longestWait (hb : y_base q) (h : x_day 36 q J) {a : Int} : z_Sem l (d + 2) M_Q_longestWait [.inr (.inr (.ref 0)), .inl a] (m_Ex g T, J, X) 4 24 (x_out x_e1 x_e2 (o_longestWait q a) (m_Ex g T) (fun J' X' => X' = X ∧ J' = J)) := by
  obtain ⟨b0, b1, b2, b3, b4, b5⟩ := hb.1
  obtain ⟨d0, d4, d1, d2, d3, d5⟩ := h.hd
  refine z_sem_of z_m170 m_ok_170 (Nat.le_of_ble_eq_true rfl) (fun Wp hs hv hS => ?_)
  refine w_170_0 hs ?_
  refine ⟨by omega, fun c => x_t1 (by rw [o_longestWait, y_need_n (by omega)]) ⟨rfl, rfl⟩, fun c => ⟨fun c1 => ⟨by omega, ?_⟩, fun c1 => x_t1 (by rw [o_longestWait, y_need_n (by omega)]) ⟨rfl, rfl⟩⟩⟩
  have f := h.ride c (show a < q 1 by omega)
  exact x_ok (by rw [o_longestWait, y_need_2 (by omega), f.2.2.2.2.2.2.2.2.2.2]) ⟨rfl, rfl⟩
theorem q_isDown (hb : y_base q) (h : x_day 36 q J) {a : Int} : z_Sem l (d + 2) M_Q_isDown [.inr (.inr (.ref 0)), .inl a] (m_Ex g T, J, X) 4 24 (x_out x_e1 x_e2 (o_isDown q a) (m_Ex g T) (fun J' X' => X' = X ∧ J' = J)) := by
  obtain ⟨b0, b1, b2, b3, b4, b5⟩ := hb.1
  obtain ⟨d0, d4, d1, d2, d3, d5⟩ := h.hd
  refine z_sem_of z_m164 m_ok_164 (Nat.le_of_ble_eq_true rfl) (fun Wp hs hv hS => ?_)
  refine w_164_0 hs ?_
  refine ⟨by omega, fun c => x_t1 (by rw [o_isDown, y_need_n (by omega)]) ⟨rfl, rfl⟩, fun c => ⟨fun c1 => ?_, fun c1 => x_t1 (by rw [o_isDown, y_need_n (by omega)]) ⟨rfl, rfl⟩⟩⟩
  have f := h.ride c (show a < q 1 by omega)
  have dn := (hb.ride c (show a < q 1 by omega)).2.2.2.2.1
  exact ⟨by omega, x_ok (by rw [o_isDown, y_need_2 (by omega), f.2.2.2.2.2.1]) ⟨rfl, rfl⟩⟩
end Q1
