/-! the reference: the part of tickets that expired -/
section R15
variable {l : Launch} {d : Nat} {g : List (Option Nat)} {T : m_E} {J : z_J} {X : z_X}
theorem p_expiredPart (hb : y_base (J 149)) {r : Int} : z_Sem l (d + 3) M_R_expiredPart [.inr (.inr (.ref 148)), .inl r] (m_Ex g T, J, X) 0 0 (z_ret (.inr (.inr (.double (o_expiredPart (J 149) r).2))) (m_Ex g T, z_u J 148 2 (o_expiredPart (J 149) r).1, X)) := by
  obtain ⟨h0, h1, h2, h3, h4, h5⟩ := hb.1
  refine z_sem_of z_m261 m_ok_261 (Nat.le_of_ble_eq_true rfl) (fun Wp hs hv hS => ?_)
  have loop : 0 ≤ r ∧ r < J 149 1 → ∀ (n k : Nat) (a b : Int), (k : Int) + n = J 149 5 → a = y_sum (y_cr (J 149) r 2) k → b = y_sum (y_cr (J 149) r 1) k → Wp 35 [some (.inr (.inr (.ref 148))), some (.inl r), some (.inl a), some (.inl b), some (.inl k)] [] (m_Ex g T, z_u J 148 2 0, X) 0 0 := by
    intro hr n
    induction n with
    | zero =>
      intro k a b hk ha hb2
      have s1 := y_cnt_b (f := y_cr (J 149) r 2) (fun k => y_cr_b) (n := k)
      have s2 := y_cnt_b (f := y_cr (J 149) r 1) (fun k => y_cr_b) (n := k)
      refine w_261_35 hs ?_
      simp only [show (z_u J 148 2 0) 149 = J 149 from rfl]
      have ek : (J 149 5).toNat = k := by omega
      refine ⟨fun c => ⟨by omega, fun c1 => ⟨⟨by omega, v_divI (by omega) c1⟩, ?_⟩, fun c1 => ?_⟩, fun c => by omega⟩
      · rw [o_expiredPart, y_needD_2 hr, ek, ← ha, ← hb2, y_needD_2 c1]
        exact ⟨rfl, rfl⟩
      · rw [o_expiredPart, y_needD_2 hr, ek, ← ha, ← hb2, y_needD_n (fun z => z c1)]
        exact ⟨rfl, by rw [z_u_u]⟩
    | succ n ih =>
      intro k a b hk ha hb2
      have s1 := y_cnt_b (f := y_cr (J 149) r 2) (fun k => y_cr_b) (n := k)
      have s2 := y_cnt_b (f := y_cr (J 149) r 1) (fun k => y_cr_b) (n := k)
      refine w_261_35 hs ?_
      simp only [show (z_u J 148 2 0) 149 = J 149 from rfl]
      refine ⟨fun c => by omega, fun c => ⟨by omega, fun c1 => ⟨by omega, fun c2 => ⟨by omega, fun c3 => ⟨by omega, ih (k + 1) _ _ (by omega) ?_ ?_⟩, fun c3 => ⟨by omega, ih (k + 1) _ _ (by omega) ?_ ?_⟩⟩, fun c2 => ⟨by omega, fun c3 => ⟨by omega, ih (k + 1) _ _ (by omega) ?_ ?_⟩, fun c3 => ⟨by omega, ih (k + 1) _ _ (by omega) ?_ ?_⟩⟩⟩, fun c1 => ⟨by omega, ih (k + 1) _ _ (by omega) ?_ ?_⟩⟩⟩
      all_goals
        first | rw [ha] | rw [hb2]
        simp only [y_cr, y_sum]
        split <;> omega
  refine w_261_0 hs ?_
  refine ⟨by omega, fun c => ?_, fun c => ⟨fun c1 => ?_, fun c1 => loop ⟨c, by omega⟩ (J 149 5).toNat 0 0 0 (by omega) rfl rfl⟩⟩
  · rw [o_expiredPart, y_needD_n (by omega)]; exact ⟨rfl, by rw [z_u_u]⟩
  · rw [o_expiredPart, y_needD_n (by omega)]; exact ⟨rfl, by rw [z_u_u]⟩
end R15
