/-! the reference: text comes in -/
def y_byte (x k : Int) : Int := (z_shr x k + 128) % 256 - 128
def k_word (f : Int → Int) (n x : Int) : Int → Int := z_up (z_up (z_up (z_up f n (y_byte x 24)) (n + 1) (y_byte x 16)) (n + 2) (y_byte x 8)) (n + 3) (y_byte x 0)
theorem z_wst {J : z_J} {f : Int → Int} {n m b v : Int} : z_u (z_u (z_u (z_row J 158 f) 148 13 n) 158 v b) 148 13 m = z_u (z_row J 158 (z_up f v b)) 148 13 m := by
  funext a j
  by_cases h1 : a = 148
  · subst h1
    by_cases h2 : j = 13
    · rw [z_u_at h2, z_u_at h2]
    · rw [z_u_off h2, z_u_off h2, z_u_ne (by omega), z_u_off h2, z_row_ne (by omega), z_row_ne (by omega)]
  · rw [z_u_ne h1, z_u_ne h1]
    by_cases h3 : a = 158
    · subst h3
      rw [z_u_row, z_u_ne (by omega), z_row_eq, z_row_eq]
    · rw [z_u_ne h3, z_u_ne h1, z_row_ne h3, z_row_ne h3]
section R16
variable {l : Launch} {d : Nat} {g : List (Option Nat)} {T : m_E} {J : z_J} {X : z_X}
theorem c_appendWord {f : Int → Int} {n x : Int} (hn : 0 ≤ n ∧ n + 4 ≤ 1500) : z_Sem l (d + 1) M_R_appendWord [.inr (.inr (.ref 148)), .inl x] (m_Ex g T, z_u (z_row J 158 f) 148 13 n, X) 0 0 (z_vd (m_Ex g T, z_u (z_row J 158 (k_word f n x)) 148 13 (n + 4), X)) := by
  refine z_sem_of z_m310 m_ok_310 (Nat.le_of_ble_eq_true rfl) (fun Wp hs hv hS => ?_)
  have step : ∀ (f : Int → Int) (n k : Int), 0 ≤ k → k ≤ 24 → 0 ≤ n → n < 1500 → Wp 3 [some (.inr (.inr (.ref 148))), some (.inl x), some (.inl (k - 8))] [] (m_Ex g T, z_u (z_row J 158 (z_up f n (y_byte x k))) 148 13 (n + 1), X) 0 0 → Wp 3 [some (.inr (.inr (.ref 148))), some (.inl x), some (.inl k)] [] (m_Ex g T, z_u (z_row J 158 f) 148 13 n, X) 0 0 := by
    intro f n k a1 a2 a3 a4 hw
    refine w_310_3 hs ?_
    rw [z_u_at rfl]
    refine ⟨fun c => by omega, fun c => ⟨by omega, ?_⟩⟩
    rw [z_wst]
    exact hw
  refine w_310_0 hs ?_
  refine step f n 24 (by omega) (by omega) (by omega) (by omega) (step _ _ 16 (by omega) (by omega) (by omega) (by omega) (step _ _ 8 (by omega) (by omega) (by omega) (by omega) (step _ _ 0 (by omega) (by omega) (by omega) (by omega) ?_)))
  rw [show n + 1 + 1 = n + 2 by omega, show n + 2 + 1 = n + 3 by omega, show n + 3 + 1 = n + 4 by omega]
  refine w_310_3 hs ?_
  exact ⟨fun c => ⟨rfl, rfl⟩, fun c => by omega⟩
end R16
