/-! the reference: plain questions (written by wip/whole/gen54.py). An answer is (which exception or 0, value) -/
def y_need (p : Prop) [Decidable p] (e : Int) (x : Int × Int) : Int × Int := if p then x else (e, 0)
section R4
variable {l : Launch} {d : Nat} {g : List (Option Nat)} {T : m_E} {J : z_J} {X : z_X}
def o_now (q : Int → Int) : Int × Int := (0, q 0)
theorem p_now : z_Sem l (d + 1) M_R_now [.inr (.inr (.ref 148))] (m_Ex g T, J, X) 0 0 (z_ret (.inl (o_now (J 149)).2) (m_Ex g T, z_u J 148 2 (o_now (J 149)).1, X)) := by
  refine z_sem_of z_m199 m_ok_199 (Nat.le_of_ble_eq_true rfl) (fun Wp hs hv hS => ?_)
  refine w_199_0 hs ?_
  exact ⟨rfl, rfl⟩
def o_rideCount (q : Int → Int) : Int × Int := (0, q 1)
theorem p_rideCount : z_Sem l (d + 1) M_R_rideCount [.inr (.inr (.ref 148))] (m_Ex g T, J, X) 0 0 (z_ret (.inl (o_rideCount (J 149)).2) (m_Ex g T, z_u J 148 2 (o_rideCount (J 149)).1, X)) := by
  refine z_sem_of z_m196 m_ok_196 (Nat.le_of_ble_eq_true rfl) (fun Wp hs hv hS => ?_)
  refine w_196_0 hs ?_
  exact ⟨rfl, rfl⟩
def o_tierCount (q : Int → Int) : Int × Int := (0, q 2)
theorem p_tierCount : z_Sem l (d + 1) M_R_tierCount [.inr (.inr (.ref 148))] (m_Ex g T, J, X) 0 0 (z_ret (.inl (o_tierCount (J 149)).2) (m_Ex g T, z_u J 148 2 (o_tierCount (J 149)).1, X)) := by
  refine z_sem_of z_m197 m_ok_197 (Nat.le_of_ble_eq_true rfl) (fun Wp hs hv hS => ?_)
  refine w_197_0 hs ?_
  exact ⟨rfl, rfl⟩
def o_partyCount (q : Int → Int) : Int × Int := (0, q 3)
theorem p_partyCount : z_Sem l (d + 1) M_R_partyCount [.inr (.inr (.ref 148))] (m_Ex g T, J, X) 0 0 (z_ret (.inl (o_partyCount (J 149)).2) (m_Ex g T, z_u J 148 2 (o_partyCount (J 149)).1, X)) := by
  refine z_sem_of z_m198 m_ok_198 (Nat.le_of_ble_eq_true rfl) (fun Wp hs hv hS => ?_)
  refine w_198_0 hs ?_
  exact ⟨rfl, rfl⟩
def o_ticketCount (q : Int → Int) : Int × Int := (0, q 5)
theorem p_ticketCount : z_Sem l (d + 1) M_R_ticketCount [.inr (.inr (.ref 148))] (m_Ex g T, J, X) 0 0 (z_ret (.inl (o_ticketCount (J 149)).2) (m_Ex g T, z_u J 148 2 (o_ticketCount (J 149)).1, X)) := by
  refine z_sem_of z_m268 m_ok_268 (Nat.le_of_ble_eq_true rfl) (fun Wp hs hv hS => ?_)
  refine w_268_0 hs ?_
  exact ⟨rfl, rfl⟩
def o_partySize (q : Int → Int) (a : Int) : Int × Int := y_need (0 ≤ a ∧ a < q 3) 1 (0, q (138 + 3 * a + 1))
theorem p_partySize (hb : y_base (J 149)) {a : Int} : z_Sem l (d + 3) M_R_partySize [.inr (.inr (.ref 148)), .inl a] (m_Ex g T, J, X) 0 0 (z_ret (.inl (o_partySize (J 149) a).2) (m_Ex g T, z_u J 148 2 (o_partySize (J 149) a).1, X)) := by
  obtain ⟨h0, h1, h2, h3, h4, h5⟩ := hb.1
  refine z_sem_of z_m203 m_ok_203 (Nat.le_of_ble_eq_true rfl) (fun Wp hs hv hS => ?_)
  refine w_203_0 hs ?_
  refine ⟨by omega, fun c => ?_, fun c => ⟨fun c1 => ?_, fun c1 => ⟨by omega, ?_⟩⟩⟩
  all_goals (refine ⟨?_, ?_⟩ <;> (simp only [o_partySize, y_need, z_u_u]; (repeat' split) <;> first | rfl | omega))
def o_partyTier (q : Int → Int) (a : Int) : Int × Int := y_need (0 ≤ a ∧ a < q 3) 1 (0, q (138 + 3 * a + 0))
theorem p_partyTier (hb : y_base (J 149)) {a : Int} : z_Sem l (d + 3) M_R_partyTier [.inr (.inr (.ref 148)), .inl a] (m_Ex g T, J, X) 0 0 (z_ret (.inl (o_partyTier (J 149) a).2) (m_Ex g T, z_u J 148 2 (o_partyTier (J 149) a).1, X)) := by
  obtain ⟨h0, h1, h2, h3, h4, h5⟩ := hb.1
  refine z_sem_of z_m206 m_ok_206 (Nat.le_of_ble_eq_true rfl) (fun Wp hs hv hS => ?_)
  refine w_206_0 hs ?_
  refine ⟨by omega, fun c => ?_, fun c => ⟨fun c1 => ?_, fun c1 => ⟨by omega, ?_⟩⟩⟩
  all_goals (refine ⟨?_, ?_⟩ <;> (simp only [o_partyTier, y_need, z_u_u]; (repeat' split) <;> first | rfl | omega))
def o_ticketParty (q : Int → Int) (a : Int) : Int × Int := y_need (0 ≤ a ∧ a < q 5) 1 (0, q (288 + 6 * a + 0))
theorem p_ticketParty (hb : y_base (J 149)) {a : Int} : z_Sem l (d + 3) M_R_ticketParty [.inr (.inr (.ref 148)), .inl a] (m_Ex g T, J, X) 0 0 (z_ret (.inl (o_ticketParty (J 149) a).2) (m_Ex g T, z_u J 148 2 (o_ticketParty (J 149) a).1, X)) := by
  obtain ⟨h0, h1, h2, h3, h4, h5⟩ := hb.1
  refine z_sem_of z_m269 m_ok_269 (Nat.le_of_ble_eq_true rfl) (fun Wp hs hv hS => ?_)
  refine w_269_0 hs ?_
  refine ⟨by omega, fun c => ?_, fun c => ⟨fun c1 => ?_, fun c1 => ⟨by omega, ?_⟩⟩⟩
  all_goals (refine ⟨?_, ?_⟩ <;> (simp only [o_ticketParty, y_need, z_u_u]; (repeat' split) <;> first | rfl | omega))
def o_ticketRide (q : Int → Int) (a : Int) : Int × Int := y_need (0 ≤ a ∧ a < q 5) 1 (0, q (288 + 6 * a + 1))
theorem p_ticketRide (hb : y_base (J 149)) {a : Int} : z_Sem l (d + 3) M_R_ticketRide [.inr (.inr (.ref 148)), .inl a] (m_Ex g T, J, X) 0 0 (z_ret (.inl (o_ticketRide (J 149) a).2) (m_Ex g T, z_u J 148 2 (o_ticketRide (J 149) a).1, X)) := by
  obtain ⟨h0, h1, h2, h3, h4, h5⟩ := hb.1
  refine z_sem_of z_m270 m_ok_270 (Nat.le_of_ble_eq_true rfl) (fun Wp hs hv hS => ?_)
  refine w_270_0 hs ?_
  refine ⟨by omega, fun c => ?_, fun c => ⟨fun c1 => ?_, fun c1 => ⟨by omega, ?_⟩⟩⟩
  all_goals (refine ⟨?_, ?_⟩ <;> (simp only [o_ticketRide, y_need, z_u_u]; (repeat' split) <;> first | rfl | omega))
def o_ticketStart (q : Int → Int) (a : Int) : Int × Int := y_need (0 ≤ a ∧ a < q 5) 1 (0, q (288 + 6 * a + 2))
theorem p_ticketStart (hb : y_base (J 149)) {a : Int} : z_Sem l (d + 3) M_R_ticketStart [.inr (.inr (.ref 148)), .inl a] (m_Ex g T, J, X) 0 0 (z_ret (.inl (o_ticketStart (J 149) a).2) (m_Ex g T, z_u J 148 2 (o_ticketStart (J 149) a).1, X)) := by
  obtain ⟨h0, h1, h2, h3, h4, h5⟩ := hb.1
  refine z_sem_of z_m271 m_ok_271 (Nat.le_of_ble_eq_true rfl) (fun Wp hs hv hS => ?_)
  refine w_271_0 hs ?_
  refine ⟨by omega, fun c => ?_, fun c => ⟨fun c1 => ?_, fun c1 => ⟨by omega, ?_⟩⟩⟩
  all_goals (refine ⟨?_, ?_⟩ <;> (simp only [o_ticketStart, y_need, z_u_u]; (repeat' split) <;> first | rfl | omega))
def o_ticketEnd (q : Int → Int) (a : Int) : Int × Int := y_need (0 ≤ a ∧ a < q 5) 1 (0, q (288 + 6 * a + 3))
theorem p_ticketEnd (hb : y_base (J 149)) {a : Int} : z_Sem l (d + 3) M_R_ticketEnd [.inr (.inr (.ref 148)), .inl a] (m_Ex g T, J, X) 0 0 (z_ret (.inl (o_ticketEnd (J 149) a).2) (m_Ex g T, z_u J 148 2 (o_ticketEnd (J 149) a).1, X)) := by
  obtain ⟨h0, h1, h2, h3, h4, h5⟩ := hb.1
  refine z_sem_of z_m272 m_ok_272 (Nat.le_of_ble_eq_true rfl) (fun Wp hs hv hS => ?_)
  refine w_272_0 hs ?_
  refine ⟨by omega, fun c => ?_, fun c => ⟨fun c1 => ?_, fun c1 => ⟨by omega, ?_⟩⟩⟩
  all_goals (refine ⟨?_, ?_⟩ <;> (simp only [o_ticketEnd, y_need, z_u_u]; (repeat' split) <;> first | rfl | omega))
def o_ticketExtension (q : Int → Int) (a : Int) : Int × Int := y_need (0 ≤ a ∧ a < q 5) 1 (0, q (288 + 6 * a + 4))
theorem p_ticketExtension (hb : y_base (J 149)) {a : Int} : z_Sem l (d + 3) M_R_ticketExtension [.inr (.inr (.ref 148)), .inl a] (m_Ex g T, J, X) 0 0 (z_ret (.inl (o_ticketExtension (J 149) a).2) (m_Ex g T, z_u J 148 2 (o_ticketExtension (J 149) a).1, X)) := by
  obtain ⟨h0, h1, h2, h3, h4, h5⟩ := hb.1
  refine z_sem_of z_m274 m_ok_274 (Nat.le_of_ble_eq_true rfl) (fun Wp hs hv hS => ?_)
  refine w_274_0 hs ?_
  refine ⟨by omega, fun c => ?_, fun c => ⟨fun c1 => ?_, fun c1 => ⟨by omega, ?_⟩⟩⟩
  all_goals (refine ⟨?_, ?_⟩ <;> (simp only [o_ticketExtension, y_need, z_u_u]; (repeat' split) <;> first | rfl | omega))
def o_ticketState (q : Int → Int) (a : Int) : Int × Int := y_need (0 ≤ a ∧ a < q 5) 1 (0, q (288 + 6 * a + 5))
theorem p_ticketState (hb : y_base (J 149)) {a : Int} : z_Sem l (d + 3) M_R_ticketState [.inr (.inr (.ref 148)), .inl a] (m_Ex g T, J, X) 0 0 (z_ret (.inl (o_ticketState (J 149) a).2) (m_Ex g T, z_u J 148 2 (o_ticketState (J 149) a).1, X)) := by
  obtain ⟨h0, h1, h2, h3, h4, h5⟩ := hb.1
  refine z_sem_of z_m273 m_ok_273 (Nat.le_of_ble_eq_true rfl) (fun Wp hs hv hS => ?_)
  refine w_273_0 hs ?_
  refine ⟨by omega, fun c => ?_, fun c => ⟨fun c1 => ?_, fun c1 => ⟨by omega, ?_⟩⟩⟩
  all_goals (refine ⟨?_, ?_⟩ <;> (simp only [o_ticketState, y_need, z_u_u]; (repeat' split) <;> first | rfl | omega))
def o_longestWait (q : Int → Int) (a : Int) : Int × Int := y_need (0 ≤ a ∧ a < q 1) 1 (0, q (10 + 14 * a + 12))
theorem p_longestWait (hb : y_base (J 149)) {a : Int} : z_Sem l (d + 3) M_R_longestWait [.inr (.inr (.ref 148)), .inl a] (m_Ex g T, J, X) 0 0 (z_ret (.inl (o_longestWait (J 149) a).2) (m_Ex g T, z_u J 148 2 (o_longestWait (J 149) a).1, X)) := by
  obtain ⟨h0, h1, h2, h3, h4, h5⟩ := hb.1
  refine z_sem_of z_m286 m_ok_286 (Nat.le_of_ble_eq_true rfl) (fun Wp hs hv hS => ?_)
  refine w_286_0 hs ?_
  refine ⟨by omega, fun c => ?_, fun c => ⟨fun c1 => ?_, fun c1 => ⟨by omega, ?_⟩⟩⟩
  all_goals (refine ⟨?_, ?_⟩ <;> (simp only [o_longestWait, y_need, z_u_u]; (repeat' split) <;> first | rfl | omega))
def o_planned (q : Int → Int) (r s : Int) : Int × Int := y_need (0 ≤ r ∧ r < q 1) 1 (y_need (0 ≤ s ∧ s ≤ 143) 2 (0, y_planned q r s))
theorem p_planned (hb : y_base (J 149)) {r s : Int} : z_Sem l (d + 4) M_R_planned [.inr (.inr (.ref 148)), .inl r, .inl s] (m_Ex g T, J, X) 0 0 (z_ret (.inl (o_planned (J 149) r s).2) (m_Ex g T, z_u J 148 2 (o_planned (J 149) r s).1, X)) := by
  obtain ⟨h0, h1, h2, h3, h4, h5⟩ := hb.1
  refine z_sem_of z_m207 m_ok_207 (Nat.le_of_ble_eq_true rfl) (fun Wp hs hv hS => ?_)
  refine w_207_0 hs ?_
  refine ⟨by omega, fun c => ?_, fun c => ⟨fun c1 => ?_, fun c1 => ⟨fun c2 => ?_, fun c2 => ⟨fun c3 => ?_, fun c3 => z_cI (c_plannedIn (J := z_u J 148 2 0) hb ⟨c, show r < J 149 1 by omega⟩) ?_⟩⟩⟩⟩
  all_goals (refine ⟨?_, ?_⟩ <;> (simp only [o_planned, y_need, z_u_u]; (repeat' split) <;> first | rfl | omega))
def o_remaining (q : Int → Int) (r s : Int) : Int × Int := y_need (0 ≤ r ∧ r < q 1) 1 (y_need (0 ≤ s ∧ s ≤ 143) 2 (0, y_free q r s))
theorem p_remaining (hb : y_base (J 149)) {r s : Int} : z_Sem l (d + 4) M_R_remaining [.inr (.inr (.ref 148)), .inl r, .inl s] (m_Ex g T, J, X) 0 0 (z_ret (.inl (o_remaining (J 149) r s).2) (m_Ex g T, z_u J 148 2 (o_remaining (J 149) r s).1, X)) := by
  obtain ⟨h0, h1, h2, h3, h4, h5⟩ := hb.1
  refine z_sem_of z_m213 m_ok_213 (Nat.le_of_ble_eq_true rfl) (fun Wp hs hv hS => ?_)
  refine w_213_0 hs ?_
  refine ⟨by omega, fun c => ?_, fun c => ⟨fun c1 => ?_, fun c1 => ⟨fun c2 => ?_, fun c2 => ⟨fun c3 => ?_, fun c3 => z_cI (c_plannedIn (J := z_u J 148 2 0) hb ⟨c, show r < J 149 1 by omega⟩) (z_cI (c_chargedIn (J := z_u J 148 2 0) hb) ⟨?_, ?_⟩)⟩⟩⟩⟩
  case refine_5 =>
    have b1 : 0 ≤ y_planned ((z_u J 148 2 0) 149) r s ∧ y_planned ((z_u J 148 2 0) 149) r s ≤ 200 := y_planned_b (hb.ride c (by omega))
    have b2 : 0 ≤ y_charged ((z_u J 148 2 0) 149) r s ∧ y_charged ((z_u J 148 2 0) 149) r s ≤ 1800 := y_charged_b hb
    omega
  all_goals (refine ⟨?_, ?_⟩ <;> (simp only [o_remaining, y_need, z_u_u]; (repeat' split) <;> first | rfl | omega))
end R4
