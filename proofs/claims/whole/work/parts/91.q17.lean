/-! the class: text comes in -/
theorem z_wsq {J : z_J} {f : Int → Int} {n m a b c d v w x y : Int} : z_u (z_u (z_u (z_u (z_u (z_u (z_row J 2 f) 1 1 n) 2 v a) 2 w b) 2 x c) 2 y d) 1 1 m = z_u (z_row J 2 (z_up (z_up (z_up (z_up f v a) w b) x c) y d)) 1 1 m := by
  funext k j
  by_cases h1 : k = 1
  · subst h1
    by_cases h2 : j = 1
    · rw [z_u_at h2, z_u_at h2]
    · rw [z_u_off h2, z_u_off h2, z_u_ne (by omega), z_u_ne (by omega), z_u_ne (by omega), z_u_ne (by omega), z_u_off h2, z_row_ne (by omega), z_row_ne (by omega)]
  · rw [z_u_ne h1, z_u_ne h1]
    by_cases h3 : k = 2
    · subst h3
      rw [z_u_row, z_u_row, z_u_row, z_u_row, z_u_ne (by omega), z_row_eq, z_row_eq]
    · rw [z_u_ne h3, z_u_ne h3, z_u_ne h3, z_u_ne h3, z_u_ne h1, z_row_ne h3, z_row_ne h3]
section Q17
variable {l : Launch} {d : Nat} {g : List (Option Nat)} {T : m_E} {J : z_J} {X : z_X}
theorem e_put {f : Int → Int} {n x : Int} (hn : 0 ≤ n ∧ n + 4 ≤ 1500) (hx : -2147483648 ≤ x ∧ x ≤ 2147483647) : z_Sem l (d + 1) M_Input_put [.inr (.inr (.ref 1)), .inl x] (m_Ex g T, z_u (z_row J 2 f) 1 1 n, X) 0 0 (z_vd (m_Ex g T, z_u (z_row J 2 (k_word f n x)) 1 1 (n + 4), X)) := by
  refine z_sem_of z_m45 m_ok_45 (Nat.le_of_ble_eq_true rfl) (fun Wp hs hv hS => ?_)
  refine w_45_0 hs ?_
  rw [z_u_at rfl]
  refine ⟨by omega, fun c => by omega, fun c => ⟨by omega, rfl, ?_⟩⟩
  rw [z_wsq, k_word]
  unfold y_byte
  rw [z_shr_0 hx]
theorem q_appendInput {x1 x2 x3 x4 x5 : Int} (hn : 0 ≤ J 1 1 ∧ J 1 1 ≤ 1500) (r1 : -2147483648 ≤ x1 ∧ x1 ≤ 2147483647) (r2 : -2147483648 ≤ x2 ∧ x2 ≤ 2147483647) (r3 : -2147483648 ≤ x3 ∧ x3 ≤ 2147483647) (r4 : -2147483648 ≤ x4 ∧ x4 ≤ 2147483647) (r5 : -2147483648 ≤ x5 ∧ x5 ≤ 2147483647) : z_Sem l (d + 2) M_Q_appendInput [.inr (.inr (.ref 0)), .inl x1, .inl x2, .inl x3, .inl x4, .inl x5] (m_Ex g T, J, X) 4 24 (z_ret (.inl (if J 1 1 ≤ 1480 then J 1 1 + 20 else -1)) (m_Ex g T, if J 1 1 ≤ 1480 then z_u (z_row J 2 (k_text (J 2) (J 1 1) x1 x2 x3 x4 x5)) 1 1 (J 1 1 + 20) else J, X)) := by
  refine z_sem_of z_m113 m_ok_113 (Nat.le_of_ble_eq_true rfl) (fun Wp hs hv hS => ?_)
  refine w_113_0 hs ?_
  refine ⟨fun c => ?_, fun c => ?_⟩
  · rw [if_pos c, if_pos c]
    have e0 : J = z_u (z_row J 2 (J 2)) 1 1 (J 1 1) := by rw [z_row_self, z_u_self]
    generalize J 1 1 = n at *
    generalize J 2 = f at *
    generalize e9 : z_row J 2 (k_text f n x1 x2 x3 x4 x5) = J9
    rw [e0]
    refine z_cV (e_put (by omega) r1) (z_cV (e_put (by omega) r2) (z_cV (e_put (by omega) r3) (z_cV (e_put (by omega) r4) (z_cV (e_put (by omega) r5) ?_))))
    rw [z_u_at rfl, show n + 4 + 4 + 4 + 4 + 4 = n + 20 by omega, ← e9]
    exact ⟨rfl, rfl⟩
  · rw [if_neg (by omega), if_neg (by omega)]
    exact ⟨rfl, rfl⟩
end Q17
