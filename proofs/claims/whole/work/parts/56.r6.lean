/-! the reference: tickets are made, waitlists change -/
/-- a ticket more -/
def k_add (q : Int → Int) (i r s : Int) : Int → Int := z_up (z_up (z_up (z_up (z_up (z_up (z_up (z_up q 5 (q 5 + 1)) (288 + 6 * q 5 + 0) i) (288 + 6 * q 5 + 1) r) (288 + 6 * q 5 + 2) s) (288 + 6 * q 5 + 3) (s + q (10 + 14 * r + 2) - 1)) (288 + 6 * q 5 + 4) 0) (288 + 6 * q 5 + 5) 0) (138 + 3 * i + 2) (q 0)
/-- one less on a waitlist -/
def k_rm (q : Int → Int) (r x : Int) : Int → Int := fun j => if j = 10 + 14 * r + 13 then q j - 1 else if 4564 + 50 * r + x ≤ j ∧ j < 4564 + 50 * r + (q (10 + 14 * r + 13) - 1) then q (j + 1) else q j
def y_pl (q : Int → Int) (i r : Int) : Int → Bool := fun k => decide (q (4564 + 50 * r + k) = i)
def y_place (q : Int → Int) (i r : Int) : Int := y_first (y_pl q i r) (q (10 + 14 * r + 13)).toNat
def k_leave (q : Int → Int) (i r : Int) : Int → Int := if y_place q i r = -1 then q else k_rm q r (y_place q i r)
section R6
variable {l : Launch} {d : Nat} {g : List (Option Nat)} {T : m_E} {J : z_J} {X : z_X}
theorem c_addTicket (hb : y_base (J 149)) {i r s : Int} (hi : 0 ≤ i ∧ i < J 149 3) (hr : 0 ≤ r ∧ r < J 149 1) (hs0 : 0 ≤ s ∧ s ≤ 143) (h150 : J 149 5 < 150) : z_Sem l (d + 3) M_R_addTicket [.inr (.inr (.ref 148)), .inl i, .inl r, .inl s] (m_Ex g T, J, X) 0 0 (z_ret (.inl (J 149 5)) (m_Ex g T, z_row J 149 (k_add (J 149) i r s), X)) := by
  obtain ⟨h0, h1, h2, h3, h4, h5⟩ := hb.1
  obtain ⟨-, -, r2, -⟩ := hb.ride hr.1 hr.2
  have e1 : z_up (z_up (z_up (z_up (J 149) 5 (J 149 5 + 1)) (288 + 6 * J 149 5 + 0) i) (288 + 6 * J 149 5 + 1) r) (288 + 6 * J 149 5 + 2) s (10 + 14 * r + 2) = J 149 (10 + 14 * r + 2) := by
    rw [z_up_ne (by omega), z_up_ne (by omega), z_up_ne (by omega), z_up_ne (by omega)]
  have e2 : ∀ x, z_up (z_up (z_up (z_up (z_up (z_up (z_up (J 149) 5 (J 149 5 + 1)) (288 + 6 * J 149 5 + 0) i) (288 + 6 * J 149 5 + 1) r) (288 + 6 * J 149 5 + 2) s) (288 + 6 * J 149 5 + 3) x) (288 + 6 * J 149 5 + 4) 0) (288 + 6 * J 149 5 + 5) 0 0 = J 149 0 := by
    intro x
    rw [z_up_ne (by omega), z_up_ne (by omega), z_up_ne (by omega), z_up_ne (by omega), z_up_ne (by omega), z_up_ne (by omega), z_up_ne (by omega)]
  refine z_sem_of z_m237 m_ok_237 (Nat.le_of_ble_eq_true rfl) (fun Wp hs hv hS => ?_)
  refine w_237_0 hs ?_
  rw [e1, e2]
  refine ⟨by omega, rfl, ?_⟩
  simp only [z_u_row1 (J := J), z_u_zrow]
  rfl
theorem c_placeOf (hb : y_base (J 149)) {i r : Int} (hr : 0 ≤ r ∧ r < J 149 1) : z_Sem l (d + 2) M_R_placeOf [.inr (.inr (.ref 148)), .inl i, .inl r] (m_Ex g T, J, X) 0 0 (z_ret (.inl (y_place (J 149) i r)) (m_Ex g T, J, X)) := by
  have h1 := hb.1.2.1
  have b := (hb.ride hr.1 hr.2).2.2.2.2.2.2.2.2.2.2.2
  refine z_sem_of z_m241 m_ok_241 (Nat.le_of_ble_eq_true rfl) (fun Wp hs hv hS => ?_)
  have loop : ∀ (n k : Nat), (k : Int) + n = J 149 (10 + 14 * r + 13) → y_any (y_pl (J 149) i r) k = false → Wp 2 [some (.inr (.inr (.ref 148))), some (.inl i), some (.inl r), some (.inl k)] [] (m_Ex g T, J, X) 0 0 := by
    intro n
    induction n with
    | zero =>
      intro k hk ha
      refine w_241_2 hs ?_
      refine ⟨by omega, fun c => ⟨z_wi ?_, rfl⟩, fun c => by omega⟩
      rw [y_place, show (J 149 (10 + 14 * r + 13)).toNat = k by omega, y_first_none ha]
    | succ n ih =>
      intro k hk ha
      refine w_241_2 hs ?_
      refine ⟨by omega, fun c => by omega, fun c => ⟨by omega, fun c1 => ⟨by omega, ih (k + 1) (by omega) ?_⟩, fun c1 => ⟨z_wi ?_, rfl⟩⟩⟩
      · rw [y_any, ha, y_pl, decide_eq_false c1]; rfl
      · rw [y_place, y_first_at (k := k) (by omega) ha (by rw [y_pl, decide_eq_true_eq]; exact c1)]
  refine w_241_0 hs ?_
  exact loop (J 149 (10 + 14 * r + 13)).toNat 0 (by omega) rfl
theorem c_removeWaiting (hb : y_base (J 149)) {r x : Int} (hr : 0 ≤ r ∧ r < J 149 1) (hx : 0 ≤ x ∧ x < J 149 (10 + 14 * r + 13)) : z_Sem l (d + 2) M_R_removeWaiting [.inr (.inr (.ref 148)), .inl r, .inl x] (m_Ex g T, J, X) 0 0 (z_vd (m_Ex g T, z_row J 149 (k_rm (J 149) r x), X)) := by
  have h1 := hb.1.2.1
  have b := (hb.ride hr.1 hr.2).2.2.2.2.2.2.2.2.2.2.2
  refine z_sem_of z_m243 m_ok_243 (Nat.le_of_ble_eq_true rfl) (fun Wp hs hv hS => ?_)
  have loop : ∀ (n : Nat) (k : Int) (f : Int → Int), k + n = J 149 (10 + 14 * r + 13) - 1 → x ≤ k → (∀ j, f j = if j = 10 + 14 * r + 13 then J 149 j - 1 else if 4564 + 50 * r + x ≤ j ∧ j < 4564 + 50 * r + k then J 149 (j + 1) else J 149 j) → Wp 18 [some (.inr (.inr (.ref 148))), some (.inl r), some (.inl x), some (.inl k)] [] (m_Ex g T, z_row J 149 f, X) 0 0 := by
    intro n
    induction n with
    | zero =>
      intro k f hk hxk hf
      have e := hf (10 + 14 * r + 13)
      rw [if_pos rfl] at e
      refine w_243_18 hs ?_
      simp only [z_row_eq, e]
      refine ⟨by omega, fun c => ⟨rfl, ?_⟩, fun c => by omega⟩
      rw [show f = k_rm (J 149) r x from by funext j; rw [hf j, k_rm, show k = J 149 (10 + 14 * r + 13) - 1 by omega]]
    | succ n ih =>
      intro k f hk hxk hf
      have e := hf (10 + 14 * r + 13)
      rw [if_pos rfl] at e
      have e2 := hf (4564 + 50 * r + (k + 1))
      rw [if_neg (by omega), if_neg (by omega)] at e2
      refine w_243_18 hs ?_
      simp only [z_row_eq, e, e2, z_u_zrow]
      refine ⟨by omega, fun c => by omega, fun c => ⟨by omega, ih (k + 1) _ (by omega) (by omega) (fun j => ?_)⟩⟩
      by_cases hj : j = 4564 + 50 * r + k
      · subst hj
        rw [z_up_eq rfl, if_neg (by omega), if_pos (by omega), show 4564 + 50 * r + (k + 1) = 4564 + 50 * r + k + 1 by omega]
      · rw [z_up_ne hj, hf j]
        by_cases hj2 : j = 10 + 14 * r + 13
        · rw [if_pos hj2, if_pos hj2]
        · rw [if_neg hj2, if_neg hj2]
          by_cases hj3 : 4564 + 50 * r + x ≤ j ∧ j < 4564 + 50 * r + k
          · rw [if_pos hj3, if_pos (by omega)]
          · rw [if_neg hj3, if_neg (by omega)]
  refine w_243_0 hs ?_
  rw [z_u_row1]
  refine ⟨by omega, loop (J 149 (10 + 14 * r + 13) - 1 - x).toNat x _ (by omega) (by omega) (fun j => ?_)⟩
  by_cases hj : j = 10 + 14 * r + 13
  · rw [z_up_eq hj, if_pos hj, hj]
  · rw [z_up_ne hj, if_neg hj, if_neg (by omega)]
theorem c_leave (hb : y_base (J 149)) {i r : Int} (hr : 0 ≤ r ∧ r < J 149 1) : z_Sem l (d + 3) M_R_leave [.inr (.inr (.ref 148)), .inl i, .inl r] (m_Ex g T, J, X) 0 0 (z_vd (m_Ex g T, z_row J 149 (k_leave (J 149) i r), X)) := by
  refine z_sem_of z_m240 m_ok_240 (Nat.le_of_ble_eq_true rfl) (fun Wp hs hv hS => ?_)
  refine w_240_0 hs ?_
  refine z_cI (c_placeOf hb hr) ⟨fun c => ⟨rfl, ?_⟩, fun c => ?_⟩
  · rw [k_leave, if_pos c, z_row_self]
  · have := y_first_lt (f := y_pl (J 149) i r) (n := (J 149 (10 + 14 * r + 13)).toNat)
    refine z_cI (c_placeOf hb hr) (z_cV (c_removeWaiting hb hr ?_) ⟨rfl, ?_⟩)
    · unfold y_place at *; omega
    · rw [k_leave, if_neg c]
end R6
