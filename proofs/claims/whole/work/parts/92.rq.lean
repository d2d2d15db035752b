/-! both sides: a byte of the format, the script's length -/
section RQ
variable {l : Launch} {d : Nat} {g : List (Option Nat)} {T : m_E} {J : z_J} {X : z_X}
theorem p_formattedByte {x : Int} (hn : 0 ≤ J 148 11 ∧ J 148 11 ≤ 64) : z_Sem l (d + 2) M_R_formattedByte [.inr (.inr (.ref 148)), .inl x] (m_Ex g T, J, X) 0 0 (z_ret (.inl (if 0 ≤ x ∧ x < J 148 11 then J 157 x else -1)) (m_Ex g T, z_u J 148 2 0, X)) := by
  refine z_sem_of z_m308 m_ok_308 (Nat.le_of_ble_eq_true rfl) (fun Wp hs hv hS => ?_)
  refine w_308_0 hs ?_
  refine ⟨by omega, fun c => ?_, fun c => ⟨fun c1 => ?_, fun c1 => ⟨by omega, ?_⟩⟩⟩
  · rw [if_neg (by omega)]; exact ⟨rfl, rfl⟩
  · rw [if_neg (by omega)]; exact ⟨rfl, rfl⟩
  · rw [if_pos (by omega)]; exact ⟨rfl, rfl⟩
theorem q_formattedByte {x : Int} (hn : 0 ≤ J 0 10 ∧ J 0 10 ≤ 64) : z_Sem l (d + 1) M_Q_formattedByte [.inr (.inr (.ref 0)), .inl x] (m_Ex g T, J, X) 4 24 (z_ret (.inl (if 0 ≤ x ∧ x < J 0 10 then J 147 x else -1)) (m_Ex g T, J, X)) := by
  refine z_sem_of z_m128 m_ok_128 (Nat.le_of_ble_eq_true rfl) (fun Wp hs hv hS => ?_)
  refine w_128_0 hs ?_
  refine ⟨fun c => ?_, fun c => ⟨fun c1 => ⟨by omega, ?_⟩, fun c1 => ?_⟩⟩
  · rw [if_neg (by omega)]; exact ⟨rfl, rfl⟩
  · rw [if_pos (by omega)]; exact ⟨rfl, rfl⟩
  · rw [if_neg (by omega)]; exact ⟨rfl, rfl⟩
theorem p_scriptLength (h1 : 0 ≤ J 148 23 ∧ J 148 23 ≤ 100000) (h2 : 0 ≤ J 148 24 ∧ J 148 24 ≤ 100000) : z_Sem l (d + 1) M_R_scriptLength [.inr (.inr (.ref 148))] (m_Ex g T, J, X) 0 0 (z_ret (.inl (J 148 23 - J 148 24)) (m_Ex g T, z_u J 148 2 0, X)) := by
  refine z_sem_of z_m340 m_ok_340 (Nat.le_of_ble_eq_true rfl) (fun Wp hs hv hS => ?_)
  refine w_340_0 hs ?_
  exact ⟨by omega, rfl, rfl⟩
theorem q_scriptLength (h1 : 0 ≤ J 30 5 ∧ J 30 5 ≤ 100000) (h2 : 0 ≤ J 30 6 ∧ J 30 6 ≤ 100000) : z_Sem l (d + 2) M_Q_scriptLength [.inr (.inr (.ref 0))] (m_Ex g T, J, X) 4 24 (z_ret (.inl (J 30 5 - J 30 6)) (m_Ex g T, J, X)) := by
  refine z_sem_of z_m125 m_ok_125 (Nat.le_of_ble_eq_true rfl) (fun Wp hs hv hS => ?_)
  refine w_125_0 hs ?_
  exact ⟨by omega, rfl, rfl⟩
end RQ
