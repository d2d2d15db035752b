/-! text comes in: both sides -/
theorem z_u_self {J : z_J} {a : Nat} {k : Int} : z_u J a k (J a k) = J := by
  funext b j
  by_cases h : b = a
  · subst h
    by_cases h2 : j = k
    · rw [z_u_at h2, h2]
    · rw [z_u_off h2]
  · rw [z_u_ne h]
theorem z_shr_0 {x : Int} (h : -2147483648 ≤ x ∧ x ≤ 2147483647) : z_shr x 0 = x := by
  have e : z_shr x 0 = x.bmod Int32.size := by simp [z_shr]
  rw [e]
  exact Int.bmod_eq_of_le (by simp only [Int32.size]; omega) (by simp only [Int32.size]; omega)
def k_text (f : Int → Int) (n a b c d e : Int) : Int → Int := k_word (k_word (k_word (k_word (k_word f n a) (n + 4) b) (n + 4 + 4) c) (n + 4 + 4 + 4) d) (n + 4 + 4 + 4 + 4) e
section R17
variable {l : Launch} {d : Nat} {g : List (Option Nat)} {T : m_E} {J : z_J} {X : z_X}
theorem p_appendInput {x1 x2 x3 x4 x5 : Int} (hn : 0 ≤ J 148 13 ∧ J 148 13 ≤ 1500) : z_Sem l (d + 2) M_R_appendInput [.inr (.inr (.ref 148)), .inl x1, .inl x2, .inl x3, .inl x4, .inl x5] (m_Ex g T, J, X) 0 0 (z_ret (.inl (if J 148 13 ≤ 1480 then J 148 13 + 20 else -1)) (m_Ex g T, if J 148 13 ≤ 1480 then z_u (z_row (z_u J 148 2 0) 158 (k_text (J 158) (J 148 13) x1 x2 x3 x4 x5)) 148 13 (J 148 13 + 20) else z_u J 148 2 0, X)) := by
  refine z_sem_of z_m309 m_ok_309 (Nat.le_of_ble_eq_true rfl) (fun Wp hs hv hS => ?_)
  refine w_309_0 hs ?_
  refine ⟨by omega, fun c => ?_, fun c => ?_⟩
  · rw [if_pos (by omega), if_pos (by omega)]
    have e0 : z_u J 148 2 0 = z_u (z_row (z_u J 148 2 0) 158 (J 158)) 148 13 (J 148 13) := by
      have e1 : z_row (z_u J 148 2 0) 158 (J 158) = z_u J 148 2 0 := z_row_self (J := z_u J 148 2 0) (a := 158)
      rw [e1]
      exact (z_u_self (J := z_u J 148 2 0) (a := 148) (k := 13)).symm
    generalize J 148 13 = n at *
    generalize J 158 = f at *
    generalize z_u J 148 2 0 = J0 at *
    rw [e0]
    refine z_cV (c_appendWord (by omega)) (z_cV (c_appendWord (by omega)) (z_cV (c_appendWord (by omega)) (z_cV (c_appendWord (by omega)) (z_cV (c_appendWord (by omega)) ?_))))
    rw [z_u_at rfl, show n + 4 + 4 + 4 + 4 + 4 = n + 20 by omega]
    refine ⟨rfl, ?_⟩
    rw [← e0]
    rfl
  · rw [if_neg (by omega), if_neg (by omega)]
    exact ⟨rfl, rfl⟩
theorem p_truncateInput {x : Int} : z_Sem l (d + 2) M_R_truncateInput [.inr (.inr (.ref 148)), .inl x] (m_Ex g T, J, X) 0 0 (z_ret (.inl (if 0 ≤ x ∧ x ≤ J 148 13 then x else -1)) (m_Ex g T, if 0 ≤ x ∧ x ≤ J 148 13 then z_u (z_u J 148 2 0) 148 13 x else z_u J 148 2 0, X)) := by
  refine z_sem_of z_m311 m_ok_311 (Nat.le_of_ble_eq_true rfl) (fun Wp hs hv hS => ?_)
  refine w_311_0 hs ?_
  refine ⟨fun c => ?_, fun c => ⟨fun c1 => ?_, fun c1 => ?_⟩⟩
  · rw [if_neg (by omega), if_neg (by omega)]; exact ⟨rfl, rfl⟩
  · rw [if_neg (by omega), if_neg (by omega)]; exact ⟨rfl, rfl⟩
  · rw [if_pos (by omega), if_pos (by omega)]; exact ⟨rfl, rfl⟩
theorem p_errorCode : z_Sem l (d + 1) M_R_errorCode [.inr (.inr (.ref 148))] (m_Ex g T, J, X) 0 0 (z_ret (.inl (J 148 15)) (m_Ex g T, z_u J 148 2 0, X)) := by
  refine z_sem_of z_m312 m_ok_312 (Nat.le_of_ble_eq_true rfl) (fun Wp hs hv hS => ?_)
  refine w_312_0 hs ?_
  exact ⟨rfl, rfl⟩
theorem p_errorPosition : z_Sem l (d + 1) M_R_errorPosition [.inr (.inr (.ref 148))] (m_Ex g T, J, X) 0 0 (z_ret (.inl (J 148 16)) (m_Ex g T, z_u J 148 2 0, X)) := by
  refine z_sem_of z_m313 m_ok_313 (Nat.le_of_ble_eq_true rfl) (fun Wp hs hv hS => ?_)
  refine w_313_0 hs ?_
  exact ⟨rfl, rfl⟩
end R17
section Q16
variable {l : Launch} {d : Nat} {g : List (Option Nat)} {T : m_E} {J : z_J} {X : z_X}
theorem q_truncateInput {x : Int} : z_Sem l (d + 1) M_Q_truncateInput [.inr (.inr (.ref 0)), .inl x] (m_Ex g T, J, X) 4 24 (z_ret (.inl (if 0 ≤ x ∧ x ≤ J 1 1 then x else -1)) (m_Ex g T, if 0 ≤ x ∧ x ≤ J 1 1 then z_u J 1 1 x else J, X)) := by
  refine z_sem_of z_m114 m_ok_114 (Nat.le_of_ble_eq_true rfl) (fun Wp hs hv hS => ?_)
  refine w_114_0 hs ?_
  refine ⟨fun c => ?_, fun c => ⟨fun c1 => ?_, fun c1 => ?_⟩⟩
  · rw [if_neg (by omega), if_neg (by omega)]; exact ⟨rfl, rfl⟩
  · rw [if_pos (by omega), if_pos (by omega)]; exact ⟨rfl, rfl⟩
  · rw [if_neg (by omega), if_neg (by omega)]; exact ⟨rfl, rfl⟩
theorem q_errorCode : z_Sem l (d + 1) M_Q_errorCode [.inr (.inr (.ref 0))] (m_Ex g T, J, X) 4 24 (z_ret (.inl (J 1 6)) (m_Ex g T, J, X)) := by
  refine z_sem_of z_m117 m_ok_117 (Nat.le_of_ble_eq_true rfl) (fun Wp hs hv hS => ?_)
  refine w_117_0 hs ?_
  exact ⟨rfl, rfl⟩
theorem q_errorPosition : z_Sem l (d + 1) M_Q_errorPosition [.inr (.inr (.ref 0))] (m_Ex g T, J, X) 4 24 (z_ret (.inl (J 1 7)) (m_Ex g T, J, X)) := by
  refine z_sem_of z_m118 m_ok_118 (Nat.le_of_ble_eq_true rfl) (fun Wp hs hv hS => ?_)
  refine w_118_0 hs ?_
  exact ⟨rfl, rfl⟩
end Q16
