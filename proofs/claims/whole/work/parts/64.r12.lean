/-! the reference: redeeming; joint tickets -/
theorem z_need_or {w x : Int} (h : w ≠ 0 ∨ x < 0) : ¬ (w = 0 ∧ 0 ≤ x) := by omega
section R12
variable {l : Launch} {d : Nat} {g : List (Option Nat)} {T : m_E} {J : z_J} {X : z_X}
def o_redeem (q : Int → Int) (t : Int) : Int × Int := y_need (0 ≤ t ∧ t < q 5) 1 (0, if q (288 + 6 * t + 5) = 0 ∧ (q (288 + 6 * t + 2) ≤ q 0 ∧ q 0 ≤ q (288 + 6 * t + 3)) ∧ q (10 + 14 * q (288 + 6 * t + 1) + 5) ≠ 1 then 1 else 0)
def k_redeem (q : Int → Int) (t : Int) : Int → Int := if (o_redeem q t).2 = 1 then k_use q t (q (288 + 6 * t + 1)) else q
def o_redeemOpen (q : Int → Int) (t r : Int) : Int × Int := y_need ((0 ≤ t ∧ t < q 5) ∧ (0 ≤ r ∧ r < q 1)) 1 (0, if q (288 + 6 * t + 5) = 4 ∧ (q (10 + 14 * r + 3) ≤ q 0 ∧ q 0 ≤ q (10 + 14 * r + 4)) ∧ q (10 + 14 * r + 5) = 0 then 1 else 0)
def k_redeemOpen (q : Int → Int) (t r : Int) : Int → Int := if (o_redeemOpen q t r).2 = 1 then k_use q t r else q
theorem p_redeem (hb : y_base (J 149)) {t : Int} : z_Sem l (d + 3) M_R_redeem [.inr (.inr (.ref 148)), .inl t] (m_Ex g T, J, X) 0 0 (z_rq (m_Ex g T) (fun v J' X' => X' = X ∧ y_tp J (k_redeem (J 149) t) (o_redeem (J 149) t).1 J' ∧ v = (o_redeem (J 149) t).2)) := by
  obtain ⟨h0, h1, h2, h3, h4, h5⟩ := hb.1
  have bad : ∀ (w x : Int), o_redeem (J 149) t = (w, x) → x ≠ 1 → ∀ J1, y_tp J (J 149) w J1 → z_rq (m_Ex g T) (fun v J' X' => X' = X ∧ y_tp J (k_redeem (J 149) t) (o_redeem (J 149) t).1 J' ∧ v = (o_redeem (J 149) t).2) (.inl (some (.inl x))) (m_Ex g T, J1, X) := by
    intro w x ho hn J1 hJ
    rw [k_redeem, ho, if_neg hn]
    exact ⟨_, _, _, rfl, rfl, rfl, hJ, rfl⟩
  refine z_sem_of z_m263 m_ok_263 (Nat.le_of_ble_eq_true rfl) (fun Wp hs hv hS => ?_)
  refine w_263_0 hs ?_
  refine ⟨by omega, fun c => bad 1 0 (by rw [o_redeem, y_need_n (by omega)]) (by omega) _ y_tp.th, fun c => ⟨fun c1 => bad 1 0 (by rw [o_redeem, y_need_n (by omega)]) (by omega) _ y_tp.th, fun c1 => ?_⟩⟩
  have ht : 0 ≤ t ∧ t < J 149 5 := ⟨c, by omega⟩
  have k2 := (hb.2.2.2.2 t ht.1 ht.2).2.1
  have no : ¬ (J 149 (288 + 6 * t + 5) = 0 ∧ (J 149 (288 + 6 * t + 2) ≤ J 149 0 ∧ J 149 0 ≤ J 149 (288 + 6 * t + 3)) ∧ J 149 (10 + 14 * J 149 (288 + 6 * t + 1) + 5) ≠ 1) → o_redeem (J 149) t = (0, 0) := fun hn => by rw [o_redeem, y_need_2 ht, if_neg hn]
  refine ⟨by omega, fun c2 => bad 0 0 (no (by omega)) (by omega) _ y_tp.th0, fun c2 => ⟨by omega, fun c3 => bad 0 0 (no (by omega)) (by omega) _ y_tp.th0, fun c3 => ⟨fun c4 => bad 0 0 (no (by omega)) (by omega) _ y_tp.th0, fun c4 => ⟨by omega, fun c5 => ?_, fun c5 => bad 0 0 (no (by omega)) (by omega) _ y_tp.th0⟩⟩⟩⟩
  have ho : o_redeem (J 149) t = (0, 1) := by rw [o_redeem, y_need_2 ht, if_pos ⟨c2, ⟨c3, c4⟩, c5⟩]
  refine z_cV (c_useTicket (J := z_u J 148 2 0) hb ht k2) ?_
  rw [k_redeem, ho, if_pos rfl]
  exact ⟨_, _, _, rfl, rfl, rfl, (y_to.put (J := z_u J 148 2 0)).tp, rfl⟩
theorem p_redeemOpen (hb : y_base (J 149)) {t r : Int} : z_Sem l (d + 3) M_R_redeemOpen [.inr (.inr (.ref 148)), .inl t, .inl r] (m_Ex g T, J, X) 0 0 (z_rq (m_Ex g T) (fun v J' X' => X' = X ∧ y_tp J (k_redeemOpen (J 149) t r) (o_redeemOpen (J 149) t r).1 J' ∧ v = (o_redeemOpen (J 149) t r).2)) := by
  obtain ⟨h0, h1, h2, h3, h4, h5⟩ := hb.1
  have bad : ∀ (w x : Int), o_redeemOpen (J 149) t r = (w, x) → x ≠ 1 → ∀ J1, y_tp J (J 149) w J1 → z_rq (m_Ex g T) (fun v J' X' => X' = X ∧ y_tp J (k_redeemOpen (J 149) t r) (o_redeemOpen (J 149) t r).1 J' ∧ v = (o_redeemOpen (J 149) t r).2) (.inl (some (.inl x))) (m_Ex g T, J1, X) := by
    intro w x ho hn J1 hJ
    rw [k_redeemOpen, ho, if_neg hn]
    exact ⟨_, _, _, rfl, rfl, rfl, hJ, rfl⟩
  refine z_sem_of z_m266 m_ok_266 (Nat.le_of_ble_eq_true rfl) (fun Wp hs hv hS => ?_)
  refine w_266_0 hs ?_
  refine ⟨by omega, fun c => bad 1 0 (by rw [o_redeemOpen, y_need_n (by omega)]) (by omega) _ y_tp.th, fun c => ⟨fun c1 => bad 1 0 (by rw [o_redeemOpen, y_need_n (by omega)]) (by omega) _ y_tp.th, fun c1 => ⟨by omega, fun c2 => bad 1 0 (by rw [o_redeemOpen, y_need_n (by omega)]) (by omega) _ y_tp.th, fun c2 => ⟨fun c3 => bad 1 0 (by rw [o_redeemOpen, y_need_n (by omega)]) (by omega) _ y_tp.th, fun c3 => ?_⟩⟩⟩⟩
  have ht : 0 ≤ t ∧ t < J 149 5 := ⟨c, by omega⟩
  have hr : 0 ≤ r ∧ r < J 149 1 := ⟨c2, by omega⟩
  have dn := (hb.ride hr.1 hr.2).2.2.2.2.1
  have no : ¬ (J 149 (288 + 6 * t + 5) = 4 ∧ (J 149 (10 + 14 * r + 3) ≤ J 149 0 ∧ J 149 0 ≤ J 149 (10 + 14 * r + 4)) ∧ J 149 (10 + 14 * r + 5) = 0) → o_redeemOpen (J 149) t r = (0, 0) := fun hn => by rw [o_redeemOpen, y_need_2 ⟨ht, hr⟩, if_neg hn]
  refine ⟨by omega, fun c4 => bad 0 0 (no (by omega)) (by omega) _ y_tp.th0, fun c4 => ⟨by omega, fun c5 => bad 0 0 (no (by omega)) (by omega) _ y_tp.th0, fun c5 => ⟨fun c6 => bad 0 0 (no (by omega)) (by omega) _ y_tp.th0, fun c6 => ⟨by omega, fun c7 => bad 0 0 (no (by omega)) (by omega) _ y_tp.th0, fun c7 => ?_⟩⟩⟩⟩
  have ho : o_redeemOpen (J 149) t r = (0, 1) := by rw [o_redeemOpen, y_need_2 ⟨ht, hr⟩, if_pos ⟨c4, ⟨c5, c6⟩, c7⟩]
  refine z_cV (c_useTicket (J := z_u J 148 2 0) hb ht hr) ?_
  rw [k_redeemOpen, ho, if_pos rfl]
  exact ⟨_, _, _, rfl, rfl, rfl, (y_to.put (J := z_u J 148 2 0)).tp, rfl⟩
end R12
