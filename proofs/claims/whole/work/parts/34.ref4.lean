/-! the reference's plain questions (written by wip/whole/gen_ref.py) -/
theorem m_u_u (I : m_I) (a k : Nat) (x y : Int32) : m_u (m_u I a k x) a k y = m_u I a k y := by
  funext b j
  unfold m_u m_row upd
  by_cases h : b = a
  · subst h
    by_cases h2 : j = k
    · subst h2; simp
    · simp [h2]
  · simp [h]
section R4
variable {l : Launch} {d : Nat} {g : List (Option Nat)} {T : m_E} {I : m_I} {X : m_X}
theorem s_partySize_no {n : Nat} {a : Int32} (hn : I 149 3 = nI n) (hn2 : n ≤ 50) (ha : a < 0 ∨ nI n ≤ a) : m_Sem l (d + 3) M_R_partySize [.ref 148, .int a] (m_Ex g T, I, X) 0 0 (m_both (.int 0) (m_Ex g T, m_u I 148 2 1, X)) := by
  refine m_sem_of m_okall rfl m_ok_203 (Nat.le_of_ble_eq_true rfl) (fun Wp hs => ?_)
  refine hs 60 [] 0 _ _ _ _ _ ?_
  refine ⟨0, 0, _, s_isParty (n := n) a hn, Nat.zero_le _, Nat.zero_le _, ?_⟩; rintro _ _ ⟨rfl, rfl⟩
  rw [m_ix0 (by omega) ha]
  refine ⟨fun _ => ?_, fun c => absurd rfl c⟩
  refine ⟨0, 0, _, s_throws1 1, Nat.zero_le _, Nat.zero_le _, ?_⟩; rintro _ _ ⟨rfl, rfl⟩
  exact ⟨fun c => absurd c (by decide), fun _ => ⟨rfl, by rw [m_u_u]⟩⟩
theorem s_partySize {n q : Nat} (hn : I 149 3 = nI n) (hn2 : n ≤ 50) (hq : q < n) : m_Sem l (d + 3) M_R_partySize [.ref 148, .int (nI q)] (m_Ex g T, I, X) 0 0 (m_both (.int (I 149 (138 + 3 * q + 1))) (m_Ex g T, m_u I 148 2 0, X)) := by
  refine m_sem_of m_okall rfl m_ok_203 (Nat.le_of_ble_eq_true rfl) (fun Wp hs => ?_)
  refine hs 60 [] 0 _ _ _ _ _ ?_
  refine ⟨0, 0, _, s_isParty (n := n) (nI q) hn, Nat.zero_le _, Nat.zero_le _, ?_⟩; rintro _ _ ⟨rfl, rfl⟩
  rw [m_ix1 hq (by omega)]
  refine ⟨fun c => absurd c (by decide), fun _ => ?_⟩
  refine ⟨0, 0, _, s_throws0 _ 1, Nat.zero_le _, Nat.zero_le _, ?_⟩; rintro _ _ ⟨rfl, rfl⟩
  refine ⟨fun _ => ?_, fun c => absurd rfl c⟩
  refine ⟨0, 0, _, s_size (q := q) (by omega), Nat.zero_le _, Nat.zero_le _, ?_⟩; rintro _ _ ⟨rfl, rfl⟩
  exact ⟨rfl, rfl⟩
theorem s_ticketParty_no {n : Nat} {a : Int32} (hn : I 149 5 = nI n) (hn2 : n ≤ 150) (ha : a < 0 ∨ nI n ≤ a) : m_Sem l (d + 3) M_R_ticketParty [.ref 148, .int a] (m_Ex g T, I, X) 0 0 (m_both (.int 0) (m_Ex g T, m_u I 148 2 1, X)) := by
  refine m_sem_of m_okall rfl m_ok_269 (Nat.le_of_ble_eq_true rfl) (fun Wp hs => ?_)
  refine hs 60 [] 0 _ _ _ _ _ ?_
  refine ⟨0, 0, _, s_isTicket (n := n) a hn, Nat.zero_le _, Nat.zero_le _, ?_⟩; rintro _ _ ⟨rfl, rfl⟩
  rw [m_ix0 (by omega) ha]
  refine ⟨fun _ => ?_, fun c => absurd rfl c⟩
  refine ⟨0, 0, _, s_throws1 1, Nat.zero_le _, Nat.zero_le _, ?_⟩; rintro _ _ ⟨rfl, rfl⟩
  exact ⟨fun c => absurd c (by decide), fun _ => ⟨rfl, by rw [m_u_u]⟩⟩
theorem s_ticketParty {n q : Nat} (hn : I 149 5 = nI n) (hn2 : n ≤ 150) (hq : q < n) : m_Sem l (d + 3) M_R_ticketParty [.ref 148, .int (nI q)] (m_Ex g T, I, X) 0 0 (m_both (.int (I 149 (288 + 6 * q + 0))) (m_Ex g T, m_u I 148 2 0, X)) := by
  refine m_sem_of m_okall rfl m_ok_269 (Nat.le_of_ble_eq_true rfl) (fun Wp hs => ?_)
  refine hs 60 [] 0 _ _ _ _ _ ?_
  refine ⟨0, 0, _, s_isTicket (n := n) (nI q) hn, Nat.zero_le _, Nat.zero_le _, ?_⟩; rintro _ _ ⟨rfl, rfl⟩
  rw [m_ix1 hq (by omega)]
  refine ⟨fun c => absurd c (by decide), fun _ => ?_⟩
  refine ⟨0, 0, _, s_throws0 _ 1, Nat.zero_le _, Nat.zero_le _, ?_⟩; rintro _ _ ⟨rfl, rfl⟩
  refine ⟨fun _ => ?_, fun c => absurd rfl c⟩
  refine ⟨0, 0, _, s_ofTicket (t := q) (w := 0) (by omega) (by omega), Nat.zero_le _, Nat.zero_le _, ?_⟩; rintro _ _ ⟨rfl, rfl⟩
  exact ⟨rfl, rfl⟩
theorem s_ticketRide_no {n : Nat} {a : Int32} (hn : I 149 5 = nI n) (hn2 : n ≤ 150) (ha : a < 0 ∨ nI n ≤ a) : m_Sem l (d + 3) M_R_ticketRide [.ref 148, .int a] (m_Ex g T, I, X) 0 0 (m_both (.int 0) (m_Ex g T, m_u I 148 2 1, X)) := by
  refine m_sem_of m_okall rfl m_ok_270 (Nat.le_of_ble_eq_true rfl) (fun Wp hs => ?_)
  refine hs 60 [] 0 _ _ _ _ _ ?_
  refine ⟨0, 0, _, s_isTicket (n := n) a hn, Nat.zero_le _, Nat.zero_le _, ?_⟩; rintro _ _ ⟨rfl, rfl⟩
  rw [m_ix0 (by omega) ha]
  refine ⟨fun _ => ?_, fun c => absurd rfl c⟩
  refine ⟨0, 0, _, s_throws1 1, Nat.zero_le _, Nat.zero_le _, ?_⟩; rintro _ _ ⟨rfl, rfl⟩
  exact ⟨fun c => absurd c (by decide), fun _ => ⟨rfl, by rw [m_u_u]⟩⟩
theorem s_ticketRide {n q : Nat} (hn : I 149 5 = nI n) (hn2 : n ≤ 150) (hq : q < n) : m_Sem l (d + 3) M_R_ticketRide [.ref 148, .int (nI q)] (m_Ex g T, I, X) 0 0 (m_both (.int (I 149 (288 + 6 * q + 1))) (m_Ex g T, m_u I 148 2 0, X)) := by
  refine m_sem_of m_okall rfl m_ok_270 (Nat.le_of_ble_eq_true rfl) (fun Wp hs => ?_)
  refine hs 60 [] 0 _ _ _ _ _ ?_
  refine ⟨0, 0, _, s_isTicket (n := n) (nI q) hn, Nat.zero_le _, Nat.zero_le _, ?_⟩; rintro _ _ ⟨rfl, rfl⟩
  rw [m_ix1 hq (by omega)]
  refine ⟨fun c => absurd c (by decide), fun _ => ?_⟩
  refine ⟨0, 0, _, s_throws0 _ 1, Nat.zero_le _, Nat.zero_le _, ?_⟩; rintro _ _ ⟨rfl, rfl⟩
  refine ⟨fun _ => ?_, fun c => absurd rfl c⟩
  refine ⟨0, 0, _, s_ofTicket (t := q) (w := 1) (by omega) (by omega), Nat.zero_le _, Nat.zero_le _, ?_⟩; rintro _ _ ⟨rfl, rfl⟩
  exact ⟨rfl, rfl⟩
theorem s_ticketStart_no {n : Nat} {a : Int32} (hn : I 149 5 = nI n) (hn2 : n ≤ 150) (ha : a < 0 ∨ nI n ≤ a) : m_Sem l (d + 3) M_R_ticketStart [.ref 148, .int a] (m_Ex g T, I, X) 0 0 (m_both (.int 0) (m_Ex g T, m_u I 148 2 1, X)) := by
  refine m_sem_of m_okall rfl m_ok_271 (Nat.le_of_ble_eq_true rfl) (fun Wp hs => ?_)
  refine hs 60 [] 0 _ _ _ _ _ ?_
  refine ⟨0, 0, _, s_isTicket (n := n) a hn, Nat.zero_le _, Nat.zero_le _, ?_⟩; rintro _ _ ⟨rfl, rfl⟩
  rw [m_ix0 (by omega) ha]
  refine ⟨fun _ => ?_, fun c => absurd rfl c⟩
  refine ⟨0, 0, _, s_throws1 1, Nat.zero_le _, Nat.zero_le _, ?_⟩; rintro _ _ ⟨rfl, rfl⟩
  exact ⟨fun c => absurd c (by decide), fun _ => ⟨rfl, by rw [m_u_u]⟩⟩
theorem s_ticketStart {n q : Nat} (hn : I 149 5 = nI n) (hn2 : n ≤ 150) (hq : q < n) : m_Sem l (d + 3) M_R_ticketStart [.ref 148, .int (nI q)] (m_Ex g T, I, X) 0 0 (m_both (.int (I 149 (288 + 6 * q + 2))) (m_Ex g T, m_u I 148 2 0, X)) := by
  refine m_sem_of m_okall rfl m_ok_271 (Nat.le_of_ble_eq_true rfl) (fun Wp hs => ?_)
  refine hs 60 [] 0 _ _ _ _ _ ?_
  refine ⟨0, 0, _, s_isTicket (n := n) (nI q) hn, Nat.zero_le _, Nat.zero_le _, ?_⟩; rintro _ _ ⟨rfl, rfl⟩
  rw [m_ix1 hq (by omega)]
  refine ⟨fun c => absurd c (by decide), fun _ => ?_⟩
  refine ⟨0, 0, _, s_throws0 _ 1, Nat.zero_le _, Nat.zero_le _, ?_⟩; rintro _ _ ⟨rfl, rfl⟩
  refine ⟨fun _ => ?_, fun c => absurd rfl c⟩
  refine ⟨0, 0, _, s_ofTicket (t := q) (w := 2) (by omega) (by omega), Nat.zero_le _, Nat.zero_le _, ?_⟩; rintro _ _ ⟨rfl, rfl⟩
  exact ⟨rfl, rfl⟩
theorem s_ticketEnd_no {n : Nat} {a : Int32} (hn : I 149 5 = nI n) (hn2 : n ≤ 150) (ha : a < 0 ∨ nI n ≤ a) : m_Sem l (d + 3) M_R_ticketEnd [.ref 148, .int a] (m_Ex g T, I, X) 0 0 (m_both (.int 0) (m_Ex g T, m_u I 148 2 1, X)) := by
  refine m_sem_of m_okall rfl m_ok_272 (Nat.le_of_ble_eq_true rfl) (fun Wp hs => ?_)
  refine hs 60 [] 0 _ _ _ _ _ ?_
  refine ⟨0, 0, _, s_isTicket (n := n) a hn, Nat.zero_le _, Nat.zero_le _, ?_⟩; rintro _ _ ⟨rfl, rfl⟩
  rw [m_ix0 (by omega) ha]
  refine ⟨fun _ => ?_, fun c => absurd rfl c⟩
  refine ⟨0, 0, _, s_throws1 1, Nat.zero_le _, Nat.zero_le _, ?_⟩; rintro _ _ ⟨rfl, rfl⟩
  exact ⟨fun c => absurd c (by decide), fun _ => ⟨rfl, by rw [m_u_u]⟩⟩
theorem s_ticketEnd {n q : Nat} (hn : I 149 5 = nI n) (hn2 : n ≤ 150) (hq : q < n) : m_Sem l (d + 3) M_R_ticketEnd [.ref 148, .int (nI q)] (m_Ex g T, I, X) 0 0 (m_both (.int (I 149 (288 + 6 * q + 3))) (m_Ex g T, m_u I 148 2 0, X)) := by
  refine m_sem_of m_okall rfl m_ok_272 (Nat.le_of_ble_eq_true rfl) (fun Wp hs => ?_)
  refine hs 60 [] 0 _ _ _ _ _ ?_
  refine ⟨0, 0, _, s_isTicket (n := n) (nI q) hn, Nat.zero_le _, Nat.zero_le _, ?_⟩; rintro _ _ ⟨rfl, rfl⟩
  rw [m_ix1 hq (by omega)]
  refine ⟨fun c => absurd c (by decide), fun _ => ?_⟩
  refine ⟨0, 0, _, s_throws0 _ 1, Nat.zero_le _, Nat.zero_le _, ?_⟩; rintro _ _ ⟨rfl, rfl⟩
  refine ⟨fun _ => ?_, fun c => absurd rfl c⟩
  refine ⟨0, 0, _, s_ofTicket (t := q) (w := 3) (by omega) (by omega), Nat.zero_le _, Nat.zero_le _, ?_⟩; rintro _ _ ⟨rfl, rfl⟩
  exact ⟨rfl, rfl⟩
theorem s_ticketExtension_no {n : Nat} {a : Int32} (hn : I 149 5 = nI n) (hn2 : n ≤ 150) (ha : a < 0 ∨ nI n ≤ a) : m_Sem l (d + 3) M_R_ticketExtension [.ref 148, .int a] (m_Ex g T, I, X) 0 0 (m_both (.int 0) (m_Ex g T, m_u I 148 2 1, X)) := by
  refine m_sem_of m_okall rfl m_ok_274 (Nat.le_of_ble_eq_true rfl) (fun Wp hs => ?_)
  refine hs 60 [] 0 _ _ _ _ _ ?_
  refine ⟨0, 0, _, s_isTicket (n := n) a hn, Nat.zero_le _, Nat.zero_le _, ?_⟩; rintro _ _ ⟨rfl, rfl⟩
  rw [m_ix0 (by omega) ha]
  refine ⟨fun _ => ?_, fun c => absurd rfl c⟩
  refine ⟨0, 0, _, s_throws1 1, Nat.zero_le _, Nat.zero_le _, ?_⟩; rintro _ _ ⟨rfl, rfl⟩
  exact ⟨fun c => absurd c (by decide), fun _ => ⟨rfl, by rw [m_u_u]⟩⟩
theorem s_ticketExtension {n q : Nat} (hn : I 149 5 = nI n) (hn2 : n ≤ 150) (hq : q < n) : m_Sem l (d + 3) M_R_ticketExtension [.ref 148, .int (nI q)] (m_Ex g T, I, X) 0 0 (m_both (.int (I 149 (288 + 6 * q + 4))) (m_Ex g T, m_u I 148 2 0, X)) := by
  refine m_sem_of m_okall rfl m_ok_274 (Nat.le_of_ble_eq_true rfl) (fun Wp hs => ?_)
  refine hs 60 [] 0 _ _ _ _ _ ?_
  refine ⟨0, 0, _, s_isTicket (n := n) (nI q) hn, Nat.zero_le _, Nat.zero_le _, ?_⟩; rintro _ _ ⟨rfl, rfl⟩
  rw [m_ix1 hq (by omega)]
  refine ⟨fun c => absurd c (by decide), fun _ => ?_⟩
  refine ⟨0, 0, _, s_throws0 _ 1, Nat.zero_le _, Nat.zero_le _, ?_⟩; rintro _ _ ⟨rfl, rfl⟩
  refine ⟨fun _ => ?_, fun c => absurd rfl c⟩
  refine ⟨0, 0, _, s_ofTicket (t := q) (w := 4) (by omega) (by omega), Nat.zero_le _, Nat.zero_le _, ?_⟩; rintro _ _ ⟨rfl, rfl⟩
  exact ⟨rfl, rfl⟩
theorem s_ticketState_no {n : Nat} {a : Int32} (hn : I 149 5 = nI n) (hn2 : n ≤ 150) (ha : a < 0 ∨ nI n ≤ a) : m_Sem l (d + 3) M_R_ticketState [.ref 148, .int a] (m_Ex g T, I, X) 0 0 (m_both (.int 0) (m_Ex g T, m_u I 148 2 1, X)) := by
  refine m_sem_of m_okall rfl m_ok_273 (Nat.le_of_ble_eq_true rfl) (fun Wp hs => ?_)
  refine hs 60 [] 0 _ _ _ _ _ ?_
  refine ⟨0, 0, _, s_isTicket (n := n) a hn, Nat.zero_le _, Nat.zero_le _, ?_⟩; rintro _ _ ⟨rfl, rfl⟩
  rw [m_ix0 (by omega) ha]
  refine ⟨fun _ => ?_, fun c => absurd rfl c⟩
  refine ⟨0, 0, _, s_throws1 1, Nat.zero_le _, Nat.zero_le _, ?_⟩; rintro _ _ ⟨rfl, rfl⟩
  exact ⟨fun c => absurd c (by decide), fun _ => ⟨rfl, by rw [m_u_u]⟩⟩
theorem s_ticketState {n q : Nat} (hn : I 149 5 = nI n) (hn2 : n ≤ 150) (hq : q < n) : m_Sem l (d + 3) M_R_ticketState [.ref 148, .int (nI q)] (m_Ex g T, I, X) 0 0 (m_both (.int (I 149 (288 + 6 * q + 5))) (m_Ex g T, m_u I 148 2 0, X)) := by
  refine m_sem_of m_okall rfl m_ok_273 (Nat.le_of_ble_eq_true rfl) (fun Wp hs => ?_)
  refine hs 60 [] 0 _ _ _ _ _ ?_
  refine ⟨0, 0, _, s_isTicket (n := n) (nI q) hn, Nat.zero_le _, Nat.zero_le _, ?_⟩; rintro _ _ ⟨rfl, rfl⟩
  rw [m_ix1 hq (by omega)]
  refine ⟨fun c => absurd c (by decide), fun _ => ?_⟩
  refine ⟨0, 0, _, s_throws0 _ 1, Nat.zero_le _, Nat.zero_le _, ?_⟩; rintro _ _ ⟨rfl, rfl⟩
  refine ⟨fun _ => ?_, fun c => absurd rfl c⟩
  refine ⟨0, 0, _, s_ofTicket (t := q) (w := 5) (by omega) (by omega), Nat.zero_le _, Nat.zero_le _, ?_⟩; rintro _ _ ⟨rfl, rfl⟩
  exact ⟨rfl, rfl⟩
theorem s_longestWait_no {n : Nat} {a : Int32} (hn : I 149 1 = nI n) (hn2 : n ≤ 8) (ha : a < 0 ∨ nI n ≤ a) : m_Sem l (d + 3) M_R_longestWait [.ref 148, .int a] (m_Ex g T, I, X) 0 0 (m_both (.int 0) (m_Ex g T, m_u I 148 2 1, X)) := by
  refine m_sem_of m_okall rfl m_ok_286 (Nat.le_of_ble_eq_true rfl) (fun Wp hs => ?_)
  refine hs 60 [] 0 _ _ _ _ _ ?_
  refine ⟨0, 0, _, s_isRide (n := n) a hn, Nat.zero_le _, Nat.zero_le _, ?_⟩; rintro _ _ ⟨rfl, rfl⟩
  rw [m_ix0 (by omega) ha]
  refine ⟨fun _ => ?_, fun c => absurd rfl c⟩
  refine ⟨0, 0, _, s_throws1 1, Nat.zero_le _, Nat.zero_le _, ?_⟩; rintro _ _ ⟨rfl, rfl⟩
  exact ⟨fun c => absurd c (by decide), fun _ => ⟨rfl, by rw [m_u_u]⟩⟩
theorem s_longestWait {n q : Nat} (hn : I 149 1 = nI n) (hn2 : n ≤ 8) (hq : q < n) : m_Sem l (d + 3) M_R_longestWait [.ref 148, .int (nI q)] (m_Ex g T, I, X) 0 0 (m_both (.int (I 149 (10 + 14 * q + 12))) (m_Ex g T, m_u I 148 2 0, X)) := by
  refine m_sem_of m_okall rfl m_ok_286 (Nat.le_of_ble_eq_true rfl) (fun Wp hs => ?_)
  refine hs 60 [] 0 _ _ _ _ _ ?_
  refine ⟨0, 0, _, s_isRide (n := n) (nI q) hn, Nat.zero_le _, Nat.zero_le _, ?_⟩; rintro _ _ ⟨rfl, rfl⟩
  rw [m_ix1 hq (by omega)]
  refine ⟨fun c => absurd c (by decide), fun _ => ?_⟩
  refine ⟨0, 0, _, s_throws0 _ 1, Nat.zero_le _, Nat.zero_le _, ?_⟩; rintro _ _ ⟨rfl, rfl⟩
  refine ⟨fun _ => ?_, fun c => absurd rfl c⟩
  refine ⟨0, 0, _, s_of (r := q) (w := 12) (by omega) (by omega), Nat.zero_le _, Nat.zero_le _, ?_⟩; rintro _ _ ⟨rfl, rfl⟩
  exact ⟨rfl, rfl⟩
theorem s_now : m_Sem l (d + 1) M_R_now [.ref 148] (m_Ex g T, I, X) 0 0 (m_both (.int (I 149 0)) (m_Ex g T, m_u I 148 2 0, X)) := by
  refine m_sem_of m_okall rfl m_ok_199 (Nat.le_of_ble_eq_true rfl) (fun Wp hs => ?_)
  refine hs 60 [] 0 _ _ _ _ _ ?_
  exact ⟨vp_in_nI (n := 0) (by omega) (by omega), rfl, rfl⟩
theorem s_rideCount : m_Sem l (d + 1) M_R_rideCount [.ref 148] (m_Ex g T, I, X) 0 0 (m_both (.int (I 149 1)) (m_Ex g T, m_u I 148 2 0, X)) := by
  refine m_sem_of m_okall rfl m_ok_196 (Nat.le_of_ble_eq_true rfl) (fun Wp hs => ?_)
  refine hs 60 [] 0 _ _ _ _ _ ?_
  exact ⟨vp_in_nI (n := 1) (by omega) (by omega), rfl, rfl⟩
theorem s_tierCount : m_Sem l (d + 1) M_R_tierCount [.ref 148] (m_Ex g T, I, X) 0 0 (m_both (.int (I 149 2)) (m_Ex g T, m_u I 148 2 0, X)) := by
  refine m_sem_of m_okall rfl m_ok_197 (Nat.le_of_ble_eq_true rfl) (fun Wp hs => ?_)
  refine hs 60 [] 0 _ _ _ _ _ ?_
  exact ⟨vp_in_nI (n := 2) (by omega) (by omega), rfl, rfl⟩
theorem s_partyCount : m_Sem l (d + 1) M_R_partyCount [.ref 148] (m_Ex g T, I, X) 0 0 (m_both (.int (I 149 3)) (m_Ex g T, m_u I 148 2 0, X)) := by
  refine m_sem_of m_okall rfl m_ok_198 (Nat.le_of_ble_eq_true rfl) (fun Wp hs => ?_)
  refine hs 60 [] 0 _ _ _ _ _ ?_
  exact ⟨vp_in_nI (n := 3) (by omega) (by omega), rfl, rfl⟩
theorem s_ticketCount : m_Sem l (d + 1) M_R_ticketCount [.ref 148] (m_Ex g T, I, X) 0 0 (m_both (.int (I 149 5)) (m_Ex g T, m_u I 148 2 0, X)) := by
  refine m_sem_of m_okall rfl m_ok_268 (Nat.le_of_ble_eq_true rfl) (fun Wp hs => ?_)
  refine hs 60 [] 0 _ _ _ _ _ ?_
  exact ⟨vp_in_nI (n := 5) (by omega) (by omega), rfl, rfl⟩
end R4
