/-! the reference: is there such a ride, party, ticket, slot; its throws -/
theorem m_ix1 {q n : Nat} (h : q < n) (hn : n < 2 ^ 20) : m_b ((0 : Int32) ≤ nI q ∧ nI q ≤ nI n - 1) = 1 := by
  obtain ⟨k, rfl⟩ : ∃ k, n = k + 1 := ⟨n - 1, by omega⟩
  rw [nI_pred, m_b_t]
  exact ⟨nI_pos' (by omega), nI_le (by omega) (by omega)⟩
theorem m_ix0 {a : Int32} {n : Nat} (hn : n < 2 ^ 20) (h : a < 0 ∨ nI n ≤ a) : m_b ((0 : Int32) ≤ a ∧ a ≤ nI n - 1) = 0 := by
  rw [m_b_f]
  rintro ⟨h1, h2⟩
  rw [m_le] at h1 h2
  rw [m_lt, m_le, nI_toInt (by omega)] at h
  have e0 : (0 : Int32).toInt = 0 := rfl
  rw [e0] at h h1
  cases n with
  | zero =>
    have : (nI 0 - 1).toInt = -1 := by decide +kernel
    omega
  | succ k =>
    rw [nI_pred, nI_toInt (by omega)] at h2
    omega
section R3
variable {l : Launch} {d : Nat} {g : List (Option Nat)} {T : m_E} {I : m_I} {X : m_X}
theorem s_isRide {n : Nat} (a : Int32) (hn : I 149 1 = nI n) : m_Sem l (d + 2) M_R_isRide [.ref 148, .int a] (m_Ex g T, I, X) 0 0 (m_ans (.int (m_b ((0 : Int32) ≤ a ∧ a ≤ nI n - 1))) (m_Ex g T, I, X)) := by
  refine m_sem_of m_okall rfl m_ok_208 (Nat.le_of_ble_eq_true rfl) (fun Wp hs => ?_)
  refine hs 30 [] 0 _ _ _ _ _ ?_
  refine ⟨vp_in_nI (n := 1) (by omega) (by omega), 0, 0, _, s_inRange _ _ _ _, Nat.zero_le _, Nat.zero_le _, ?_⟩; rintro _ _ ⟨rfl, rfl⟩
  refine ⟨m_b_nar _, ?_, rfl⟩
  show Sum.inl (some (Value.int (m_b ((0 : Int32) ≤ a ∧ a ≤ I 149 1 - 1)))) = _
  rw [hn]
theorem s_isParty {n : Nat} (a : Int32) (hn : I 149 3 = nI n) : m_Sem l (d + 2) M_R_isParty [.ref 148, .int a] (m_Ex g T, I, X) 0 0 (m_ans (.int (m_b ((0 : Int32) ≤ a ∧ a ≤ nI n - 1))) (m_Ex g T, I, X)) := by
  refine m_sem_of m_okall rfl m_ok_204 (Nat.le_of_ble_eq_true rfl) (fun Wp hs => ?_)
  refine hs 30 [] 0 _ _ _ _ _ ?_
  refine ⟨vp_in_nI (n := 3) (by omega) (by omega), 0, 0, _, s_inRange _ _ _ _, Nat.zero_le _, Nat.zero_le _, ?_⟩; rintro _ _ ⟨rfl, rfl⟩
  refine ⟨m_b_nar _, ?_, rfl⟩
  show Sum.inl (some (Value.int (m_b ((0 : Int32) ≤ a ∧ a ≤ I 149 3 - 1)))) = _
  rw [hn]
theorem s_isTicket {n : Nat} (a : Int32) (hn : I 149 5 = nI n) : m_Sem l (d + 2) M_R_isTicket [.ref 148, .int a] (m_Ex g T, I, X) 0 0 (m_ans (.int (m_b ((0 : Int32) ≤ a ∧ a ≤ nI n - 1))) (m_Ex g T, I, X)) := by
  refine m_sem_of m_okall rfl m_ok_247 (Nat.le_of_ble_eq_true rfl) (fun Wp hs => ?_)
  refine hs 30 [] 0 _ _ _ _ _ ?_
  refine ⟨vp_in_nI (n := 5) (by omega) (by omega), 0, 0, _, s_inRange _ _ _ _, Nat.zero_le _, Nat.zero_le _, ?_⟩; rintro _ _ ⟨rfl, rfl⟩
  refine ⟨m_b_nar _, ?_, rfl⟩
  show Sum.inl (some (Value.int (m_b ((0 : Int32) ≤ a ∧ a ≤ I 149 5 - 1)))) = _
  rw [hn]
theorem s_isSlot (S : m_S) (a : Int32) : m_Sem l (d + 2) M_R_isSlot [.int a] S 0 0 (m_ans (.int (m_b ((0 : Int32) ≤ a ∧ a ≤ nI 144 - 1))) S) := by
  refine m_sem_of m_okall rfl m_ok_209 (Nat.le_of_ble_eq_true rfl) (fun Wp hs => ?_)
  refine hs 30 [] 0 _ _ _ _ _ ?_
  refine ⟨0, 0, _, s_inRange _ _ _ _, Nat.zero_le _, Nat.zero_le _, ?_⟩; rintro _ _ ⟨rfl, rfl⟩
  exact ⟨m_b_nar _, rfl, rfl⟩
/-- it notes which exception it would be -/
theorem s_throws1 (w : Int32) : m_Sem l (d + 1) M_R_throwsIf [.ref 148, .int 1, .int w] (m_Ex g T, I, X) 0 0 (m_both (.int 1) (m_Ex g T, m_u I 148 2 w, X)) := by
  refine m_sem_of m_okall rfl m_ok_201 (Nat.le_of_ble_eq_true rfl) (fun Wp hs => ?_)
  refine hs 30 [] 0 _ _ _ _ _ ?_
  exact ⟨fun (c : (1 : Int32) = 0) => absurd c (by decide), fun _ => ⟨rfl, rfl, rfl⟩⟩
theorem s_throws0 (S : m_S) (w : Int32) : m_Sem l (d + 1) M_R_throwsIf [.ref 148, .int 0, .int w] S 0 0 (m_ans (.int 0) S) := by
  refine m_sem_of m_okall rfl m_ok_201 (Nat.le_of_ble_eq_true rfl) (fun Wp hs => ?_)
  refine hs 30 [] 0 _ _ _ _ _ ?_
  exact ⟨fun _ => ⟨rfl, rfl, rfl⟩, fun (c : ¬ (0 : Int32) = 0) => absurd rfl c⟩
end R3
