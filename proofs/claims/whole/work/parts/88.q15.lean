/-! the class: usage -/
theorem y_sum_zero {f : Int → Int} : ∀ {n : Nat}, (∀ k : Nat, k < n → f k = 0) → y_sum f n = 0
  | 0, _ => rfl
  | n + 1, h => by rw [y_sum, y_sum_zero (fun k hk => h k (by omega)), h n (by omega)]; rfl
theorem y_sum_add {f h : Int → Int} : ∀ {n : Nat}, y_sum (fun k => f k + h k) n = y_sum f n + y_sum h n
  | 0 => rfl
  | n + 1 => by
    rw [y_sum, y_sum, y_sum, y_sum_add (n := n)]
    omega
theorem y_sum_swap {F : Int → Int → Int} {m : Nat} : ∀ {n : Nat}, y_sum (fun s => y_sum (F s) n) m = y_sum (fun t => y_sum (fun s => F s t) m) n
  | 0 => y_sum_zero (fun _ _ => rfl)
  | n + 1 => by
    rw [y_sum, ← y_sum_swap (n := n), ← y_sum_add]
    exact y_sum_congr (fun k _ => rfl)
theorem y_sum_at {f : Int → Int} {a : Nat} : ∀ {n : Nat}, (∀ k : Nat, k ≠ a → f k = 0) → y_sum f n = if a < n then f a else 0
  | 0, _ => by rw [if_neg (by omega)]; rfl
  | n + 1, h => by
    rw [y_sum, y_sum_at h]
    by_cases e : a = n
    · subst e
      rw [if_neg (by omega), if_pos (by omega)]; omega
    · rw [h n (fun z => e z.symm)]
      by_cases e2 : a < n
      · rw [if_pos e2, if_pos (by omega)]; omega
      · rw [if_neg e2, if_neg (by omega)]; rfl
def y_ca (q : Int → Int) (r : Int) : Int → Int := fun t => if q (288 + 6 * t + 1) = r ∧ q (288 + 6 * t + 5) ≠ 3 then q (138 + 3 * q (288 + 6 * t + 0) + 1) else 0
theorem y_charged_all {q : Int → Int} (hb : y_base q) {r : Int} (hr : 0 ≤ r ∧ r < q 1) : y_sum (y_charged q r) 144 = y_sum (y_ca q r) (q 5).toNat := by
  have h5 := hb.1.2.2.2.2.2
  have r3 := (hb.ride hr.1 hr.2).2.2.2.1
  have : y_sum (y_charged q r) 144 = y_sum (fun s => y_sum (y_ch q r s) (q 5).toNat) 144 := y_sum_congr (fun k _ => rfl)
  rw [this, y_sum_swap]
  refine y_sum_congr (fun t ht => ?_)
  have k3 := (hb.2.2.2.2 t (by omega) (by omega)).2.2.1
  by_cases e : q (288 + 6 * (t : Int) + 1) = r
  · rw [e] at k3
    have ea : ((q (288 + 6 * (t : Int) + 2)).toNat : Int) = q (288 + 6 * (t : Int) + 2) := by omega
    rw [y_sum_at (a := (q (288 + 6 * (t : Int) + 2)).toNat) (fun k hk => by rw [y_ch, if_neg (fun z => hk (by omega))]), if_pos (by omega), y_ch, y_ca, ea]
    by_cases e3 : q (288 + 6 * (t : Int) + 5) = 3
    · rw [if_neg (fun z => z.2.2 e3), if_neg (fun z => z.2 e3)]
    · rw [if_pos ⟨e, rfl, e3⟩, if_pos ⟨e, e3⟩]
  · rw [y_ca, if_neg (fun z => e z.1)]
    exact y_sum_zero (fun k _ => by rw [y_ch, if_neg (fun z => e z.1)])
section Q15
variable {l : Launch} {d : Nat} {g : List (Option Nat)} {T : m_E} {J : z_J} {X : z_X} {q : Int → Int}
theorem e_plannedInAll (hb : y_base q) (h : x_day 36 q J) {r : Int} (hr : 0 ≤ r ∧ r < q 1) : z_Sem l (d + 2) M_Rides_plannedInAll [.inr (.inr (.ref 37)), .inl r] (m_Ex g T, J, X) 0 0 (z_ret (.inl (y_sum (y_planned q r) 144)) (m_Ex g T, J, X)) := by
  have s2 : ∀ n : Nat, 0 ≤ y_sum (y_planned q r) n ∧ y_sum (y_planned q r) n ≤ 200 * n := fun n => ⟨y_sum_nn (fun k _ => (y_planned_b (hb.ride hr.1 hr.2)).1), y_sum_le (fun k _ => (y_planned_b (hb.ride hr.1 hr.2)).2)⟩
  refine z_sem_of z_m85 m_ok_85 (Nat.le_of_ble_eq_true rfl) (fun Wp hs hv hS => ?_)
  have loop : ∀ (n k : Nat) (a : Int), k + n = 144 → a = y_sum (y_planned q r) k → Wp 4 [some (.inr (.inr (.ref 37))), some (.inl r), some (.inl a), some (.inl k)] [] (m_Ex g T, J, X) 0 0 := by
    intro n
    induction n with
    | zero =>
      intro k a hk ha
      refine w_85_4 hs ?_
      refine ⟨fun c => ⟨z_wi ?_, rfl⟩, fun c => by omega⟩
      rw [ha, show k = 144 by omega]
    | succ n ih =>
      intro k a hk ha
      have b1 := s2 k
      have b2 := y_planned_b (s := k) (hb.ride hr.1 hr.2)
      refine w_85_4 hs ?_
      refine ⟨fun c => by omega, fun c => z_cI (e_plannedIn hb h hr) ⟨by omega, ih (k + 1) _ (by omega) (by rw [ha, y_sum])⟩⟩
  refine w_85_0 hs ?_
  exact loop 144 0 0 (by omega) rfl
theorem e_chargedInAll (hb : y_base q) (h : x_day 36 q J) {r : Int} : z_Sem l (d + 2) M_Day_chargedInAll [.inr (.inr (.ref 36)), .inl r] (m_Ex g T, J, X) 0 0 (z_ret (.inl (y_sum (y_ca q r) (q 5).toNat)) (m_Ex g T, J, X)) := by
  have h5 := hb.1.2.2.2.2.2
  have h3 := hb.1.2.2.2.1
  have d5 := h.hd.2.2.2.2.2
  have cb : ∀ k : Nat, (k : Int) < q 5 → 0 ≤ y_ca q r k ∧ y_ca q r k ≤ 12 := by
    intro k hk
    have kp := (hb.2.2.2.2 k (by omega) (by omega)).1
    have pb := hb.party kp.1 kp.2
    unfold y_ca
    split <;> omega
  have s2 : ∀ n : Nat, (n : Int) ≤ q 5 → 0 ≤ y_sum (y_ca q r) n ∧ y_sum (y_ca q r) n ≤ 12 * n := fun n hn => ⟨y_sum_nn (fun k hk => (cb k (by omega)).1), y_sum_le (fun k hk => (cb k (by omega)).2)⟩
  refine z_sem_of z_m18 m_ok_18 (Nat.le_of_ble_eq_true rfl) (fun Wp hs hv hS => ?_)
  have loop : ∀ (n k : Nat) (a : Int), (k : Int) + n = q 5 → a = y_sum (y_ca q r) k → Wp 4 [some (.inr (.inr (.ref 36))), some (.inl r), some (.inl a), some (.inl k)] [] (m_Ex g T, J, X) 0 0 := by
    intro n
    induction n with
    | zero =>
      intro k a hk ha
      refine w_18_4 hs ?_
      refine ⟨fun c => ⟨z_wi ?_, rfl⟩, fun c => by omega⟩
      rw [ha, show (q 5).toNat = k by omega]
    | succ n ih =>
      intro k a hk ha
      have b2 := s2 k (by omega)
      have f := h.tk (t := k) (by omega) (by omega)
      have kp := (hb.2.2.2.2 k (by omega) (by omega)).1
      have p := h.party kp.1 kp.2
      have pb := hb.party kp.1 kp.2
      refine w_18_4 hs ?_
      rw [f.1, f.2.1, f.2.2.2.2.1, p.2.1]
      refine ⟨fun c => by omega, fun c => ⟨by omega, fun c1 => ⟨by omega, ih (k + 1) _ (by omega) ?_⟩, fun c1 => ⟨by omega, fun c2 => ⟨by omega, ih (k + 1) _ (by omega) ?_⟩, fun c2 => ⟨by omega, ih (k + 1) _ (by omega) ?_⟩⟩⟩⟩
      all_goals
        rw [ha]
        simp only [y_ca, y_sum]
        split <;> omega
  refine w_18_0 hs ?_
  exact loop (q 5).toNat 0 0 (by omega) rfl
theorem q_usage (hb : y_base q) (h : x_day 36 q J) {r : Int} : z_Sem l (d + 3) M_Q_usage [.inr (.inr (.ref 0)), .inl r] (m_Ex g T, J, X) 4 24 (x_outD x_e1 x_e3 (o_usage q r) (m_Ex g T) (fun J' X' => X' = X ∧ J' = J)) := by
  obtain ⟨b0, b1, b2, b3, b4, b5⟩ := hb.1
  obtain ⟨d0, d4, d1, d2, d3, d5⟩ := h.hd
  refine z_sem_of z_m176 m_ok_176 (Nat.le_of_ble_eq_true rfl) (fun Wp hs hv hS => ?_)
  refine w_176_0 hs ?_
  refine ⟨by omega, fun c => x_t1D (by rw [o_usage, y_needD_n (by omega)]) ⟨rfl, rfl⟩, fun c => ⟨fun c1 => ?_, fun c1 => x_t1D (by rw [o_usage, y_needD_n (by omega)]) ⟨rfl, rfl⟩⟩⟩
  have hr : 0 ≤ r ∧ r < q 1 := ⟨c, by omega⟩
  have s2 : 0 ≤ y_sum (y_planned q r) 144 ∧ y_sum (y_planned q r) 144 ≤ 200 * (144 : Nat) := ⟨y_sum_nn (fun k _ => (y_planned_b (hb.ride hr.1 hr.2)).1), y_sum_le (fun k _ => (y_planned_b (hb.ride hr.1 hr.2)).2)⟩
  refine z_cI (e_plannedInAll hb h hr) ⟨fun c2 => z_cI (e_chargedInAll hb h) ⟨v_divI (by omega) c2, x_okD (by rw [o_usage, y_needD_2 hr, y_needD_2 c2, y_charged_all hb hr]) ⟨rfl, rfl⟩⟩, fun c2 => ⟨by omega, x_t2D (by rw [o_usage, y_needD_2 hr, y_needD_n (fun z => z c2)]) ⟨rfl, rfl⟩⟩⟩
end Q15
