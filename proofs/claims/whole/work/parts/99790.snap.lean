/-! snapshots of the class, where one lies already -/
section Q32
variable {l : Launch} {d : Nat} {g : List (Option Nat)} {T : m_E} {J : z_J} {X : z_X} {q : Int → Int} {s9 : Nat}
theorem q_restoreNone {x : Int} (hx : ¬ ((0 ≤ x ∧ x < 2) ∧ J 146 x ≠ 0)) : z_Sem l (d + 3) M_Q_restoreSnapshot [.inr (.inr (.ref 0)), .inl x] (m_Ex g T, J, X) 4 24 (z_ret (.inl 0) (m_Ex g T, J, X)) := by
  refine z_sem_of z_m127 m_ok_127 (Nat.le_of_ble_eq_true rfl) (fun Wp hs hv hS => ?_)
  cases hg : g.getD x.toNat none with
  | none =>
    refine w_127n_0 hs hg ?_
    exact ⟨fun _ => ⟨rfl, rfl⟩, fun a => ⟨fun _ => ⟨rfl, rfl⟩, fun b => ⟨by omega, fun _ => ⟨rfl, rfl⟩, fun c => absurd ⟨⟨a, b⟩, c⟩ hx⟩⟩⟩
  | some s9 =>
    refine w_127s_0 hs hg ?_
    exact ⟨fun _ => ⟨rfl, rfl⟩, fun a => ⟨fun _ => ⟨rfl, rfl⟩, fun b => ⟨by omega, fun _ => ⟨rfl, rfl⟩, fun c => absurd ⟨⟨a, b⟩, c⟩ hx⟩⟩⟩
theorem q_restoreSome {x : Int} (hx : (0 ≤ x ∧ x < 2) ∧ J 146 x ≠ 0) (hg : g.getD x.toNat none = some s9) (hd : x_at (m_Ex g T) s9) (h9 : 163 ≤ s9) (hb : y_base q) (h : x_day s9 q J) : z_Sem l (d + 3) M_Q_restoreSnapshot [.inr (.inr (.ref 0)), .inl x] (m_Ex g T, J, X) 4 24 (z_rq (m_Ex g T) (fun v J' X' => X' = X ∧ v = 1 ∧ x_day 36 q J' ∧ ∀ a, (a < 36 ∨ 124 < a) → J' a = J a)) := by
  refine z_sem_of z_m127 m_ok_127 (Nat.le_of_ble_eq_true rfl) (fun Wp hs hv hS => ?_)
  refine w_127s_0 hs hg ?_
  refine ⟨fun a => by omega, fun a => ⟨fun b => by omega, fun b => ⟨by omega, fun c => absurd c hx.2, fun c => ⟨by omega, by omega, ?_⟩⟩⟩⟩
  refine z_cVq (e_copyDay hd x_at36 (by omega) hb h) ?_
  rintro J2 X2 ⟨rfl, x2, f2⟩
  exact ⟨_, _, _, rfl, rfl, rfl, rfl, x2, fun a ha => f2 a (by omega)⟩
theorem q_saveBad {x : Int} (hx : ¬ (0 ≤ x ∧ x < 2)) (hg : g.getD x.toNat none = some s9) (hd : x_at (m_Ex g T) s9) : z_Sem l (d + 3) M_Q_saveSnapshot [.inr (.inr (.ref 0)), .inl x] (m_Ex g T, J, X) 300 30000 (z_ret (.inl 0) (m_Ex g T, J, X)) := by
  refine z_sem_of z_m126 m_ok_126 (Nat.le_of_ble_eq_true rfl) (fun Wp hs hv hS => ?_)
  refine w_126s_0 hs hg hd ?_
  exact ⟨fun _ => ⟨rfl, rfl⟩, fun a => ⟨fun b => absurd ⟨a, b⟩ hx, fun _ => ⟨rfl, rfl⟩⟩⟩
theorem q_saveSome {x : Int} (hx : 0 ≤ x ∧ x < 2) (hg : g.getD x.toNat none = some s9) (hd : x_at (m_Ex g T) s9) (h9 : 163 ≤ s9) (hb : y_base q) (h : x_day 36 q J) : z_Sem l (d + 3) M_Q_saveSnapshot [.inr (.inr (.ref 0)), .inl x] (m_Ex g T, J, X) 300 30000 (z_rq (m_Ex g T) (fun v J' X' => X' = X ∧ v = 1 ∧ x_day s9 q J' ∧ J' 146 x = 1 ∧ (∀ j, j ≠ x → J' 146 j = J 146 j) ∧ ∀ a, a ≠ 146 → (a < s9 ∨ s9 + 88 < a) → J' a = J a)) := by
  refine z_sem_of z_m126 m_ok_126 (Nat.le_of_ble_eq_true rfl) (fun Wp hs hv hS => ?_)
  refine w_126s_0 hs hg hd ?_
  refine ⟨fun a => by omega, fun a => ⟨fun b => ⟨by omega, ?_⟩, fun b => by omega⟩⟩
  refine w_126s_33 hs hg hd ?_
  refine ⟨by omega, z_cVq (e_copyDay x_at36 hd (by omega) hb h) ?_⟩
  rintro J2 X2 ⟨rfl, x2, f2⟩
  refine ⟨by omega, _, _, _, rfl, rfl, rfl, rfl, x_day_mv (y_cb_b hb) (fun _ _ _ => rfl) (fun k hk => by rw [z_u_ne (by omega)]) x2, z_u_at rfl, fun j hj => ?_, fun a h1 h2 => ?_⟩
  · rw [z_u_off hj, f2 146 (by omega)]
  · rw [z_u_ne h1, f2 a h2]
end Q32
