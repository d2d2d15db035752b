/-! the class: loops over tickets -/
section Q2
variable {l : Launch} {d : Nat} {g : List (Option Nat)} {T : m_E} {J : z_J} {X : z_X} {q : Int → Int}
theorem e_plannedIn (hb : y_base q) (h : x_day 36 q J) {r s : Int} (hr : 0 ≤ r ∧ r < q 1) : z_Sem l (d + 1) M_Rides_plannedIn [.inr (.inr (.ref 37)), .inl r, .inl s] (m_Ex g T, J, X) 0 0 (z_ret (.inl (y_planned q r s)) (m_Ex g T, J, X)) := by
  have b1 := hb.1.2.1
  have f := h.ride hr.1 hr.2
  have hr2 := hb.ride hr.1 hr.2
  have hm := y_mul_b hr2.1 hr2.2.1
  refine z_sem_of z_m81 m_ok_81 (Nat.le_of_ble_eq_true rfl) (fun Wp hs hv hS => ?_)
  refine w_81_0 hs ?_
  rw [f.1, f.2.1, f.2.2.2.1, f.2.2.2.2.1]
  refine ⟨by omega, fun c => ⟨z_wi ?_, rfl⟩, fun c => ⟨by omega, fun c1 => ⟨z_wi ?_, rfl⟩, fun c1 => ⟨by omega, z_wi ?_, rfl⟩⟩⟩
  all_goals
    unfold y_planned y_pw
    split <;> (first | rfl | omega)
theorem e_hasActive (hb : y_base q) (h : x_day 36 q J) {i r : Int} : z_Sem l (d + 1) M_Tickets_hasActive [.inr (.inr (.ref 57)), .inl i, .inl r] (m_Ex g T, J, X) 0 0 (z_ret (.inl (y_b (y_has q i r))) (m_Ex g T, J, X)) := by
  have h5 := hb.1.2.2.2.2.2
  have d5 := h.hd.2.2.2.2.2
  refine z_sem_of z_m98 m_ok_98 (Nat.le_of_ble_eq_true rfl) (fun Wp hs hv hS => ?_)
  have loop : ∀ (n k : Nat), (k : Int) + n = q 5 → y_any (y_hs q i r) k = false → Wp 2 [some (.inr (.inr (.ref 57))), some (.inl i), some (.inl r), some (.inl k)] [] (m_Ex g T, J, X) 0 0 := by
    intro n
    induction n with
    | zero =>
      intro k hk ha
      refine w_98_2 hs ?_
      refine ⟨fun c => ⟨z_wi ?_, rfl⟩, fun c => by omega⟩
      rw [y_has, show (q 5).toNat = k by omega, ha]; rfl
    | succ n ih =>
      intro k hk ha
      have f := h.tk (t := k) (by omega) (by omega)
      refine w_98_2 hs ?_
      rw [f.1, f.2.1, f.2.2.2.2.1]
      refine ⟨fun c => by omega, fun c => ⟨by omega, fun c1 => ⟨by omega, ih (k + 1) (by omega) ?_⟩, fun c1 => ⟨by omega, fun c2 => ⟨by omega, ih (k + 1) (by omega) ?_⟩, fun c2 => ⟨by omega, fun c3 => ⟨by omega, ih (k + 1) (by omega) ?_⟩, fun c3 => ⟨z_wi ?_, rfl⟩⟩⟩⟩⟩
      · simp only [y_any, ha, y_hs, Bool.false_or, decide_eq_false_iff_not]; omega
      · simp only [y_any, ha, y_hs, Bool.false_or, decide_eq_false_iff_not]; omega
      · simp only [y_any, ha, y_hs, Bool.false_or, decide_eq_false_iff_not]; omega
      · have : y_has q i r = true := y_any_iff.mpr ⟨k, by omega, by simp only [y_hs, decide_eq_true_eq]; omega⟩
        rw [this]; rfl
  refine w_98_0 hs ?_
  exact loop (q 5).toNat 0 (by omega) rfl
theorem e_countOf (hb : y_base q) (h : x_day 36 q J) {i s : Int} : z_Sem l (d + 1) M_Tickets_countOf [.inr (.inr (.ref 57)), .inl i, .inl s] (m_Ex g T, J, X) 0 0 (z_ret (.inl (y_sum (y_ct q i s) (q 5).toNat)) (m_Ex g T, J, X)) := by
  have h5 := hb.1.2.2.2.2.2
  have d5 := h.hd.2.2.2.2.2
  refine z_sem_of z_m99 m_ok_99 (Nat.le_of_ble_eq_true rfl) (fun Wp hs hv hS => ?_)
  have loop : ∀ (n k : Nat) (a : Int), (k : Int) + n = q 5 → a = y_sum (y_ct q i s) k → Wp 5 [some (.inr (.inr (.ref 57))), some (.inl i), some (.inl s), some (.inl a), some (.inl k)] [] (m_Ex g T, J, X) 0 0 := by
    intro n
    induction n with
    | zero =>
      intro k a hk ha
      refine w_99_5 hs ?_
      refine ⟨fun c => ⟨z_wi ?_, rfl⟩, fun c => by omega⟩
      rw [ha, show (q 5).toNat = k by omega]
    | succ n ih =>
      intro k a hk ha
      have f := h.tk (t := k) (by omega) (by omega)
      have b2 := y_cnt_b (f := y_ct q i s) (fun k => y_ct_b) (n := k)
      refine w_99_5 hs ?_
      rw [f.1, f.2.2.2.2.1]
      refine ⟨fun c => by omega, fun c => ⟨by omega, fun c1 => ⟨by omega, ih (k + 1) _ (by omega) ?_⟩, fun c1 => ⟨by omega, fun c2 => ⟨by omega, ih (k + 1) _ (by omega) ?_⟩, fun c2 => ⟨by omega, ih (k + 1) _ (by omega) ?_⟩⟩⟩⟩
      all_goals
        rw [ha]
        simp only [y_ct, y_sum]
        split <;> omega
  refine w_99_0 hs ?_
  exact loop (q 5).toNat 0 0 (by omega) rfl
theorem e_countFor (hb : y_base q) (h : x_day 36 q J) {r s : Int} : z_Sem l (d + 1) M_Tickets_countFor [.inr (.inr (.ref 57)), .inl r, .inl s] (m_Ex g T, J, X) 0 0 (z_ret (.inl (y_sum (y_cr q r s) (q 5).toNat)) (m_Ex g T, J, X)) := by
  have h5 := hb.1.2.2.2.2.2
  have d5 := h.hd.2.2.2.2.2
  refine z_sem_of z_m105 m_ok_105 (Nat.le_of_ble_eq_true rfl) (fun Wp hs hv hS => ?_)
  have loop : ∀ (n k : Nat) (a : Int), (k : Int) + n = q 5 → a = y_sum (y_cr q r s) k → Wp 5 [some (.inr (.inr (.ref 57))), some (.inl r), some (.inl s), some (.inl a), some (.inl k)] [] (m_Ex g T, J, X) 0 0 := by
    intro n
    induction n with
    | zero =>
      intro k a hk ha
      refine w_105_5 hs ?_
      refine ⟨fun c => ⟨z_wi ?_, rfl⟩, fun c => by omega⟩
      rw [ha, show (q 5).toNat = k by omega]
    | succ n ih =>
      intro k a hk ha
      have f := h.tk (t := k) (by omega) (by omega)
      have b2 := y_cnt_b (f := y_cr q r s) (fun k => y_cr_b) (n := k)
      refine w_105_5 hs ?_
      rw [f.2.1, f.2.2.2.2.1]
      refine ⟨fun c => by omega, fun c => ⟨by omega, fun c1 => ⟨by omega, ih (k + 1) _ (by omega) ?_⟩, fun c1 => ⟨by omega, fun c2 => ⟨by omega, ih (k + 1) _ (by omega) ?_⟩, fun c2 => ⟨by omega, ih (k + 1) _ (by omega) ?_⟩⟩⟩⟩
      all_goals
        rw [ha]
        simp only [y_cr, y_sum]
        split <;> omega
  refine w_105_0 hs ?_
  exact loop (q 5).toNat 0 0 (by omega) rfl
theorem e_positionOf (hb : y_base q) (h : x_day 36 q J) {i r : Int} (hr : 0 ≤ r ∧ r < q 1) : z_Sem l (d + 1) M_Waitlists_positionOf [.inr (.inr (.ref 64)), .inl r, .inl i] (m_Ex g T, J, X) 0 0 (z_ret (.inl (y_place q i r)) (m_Ex g T, J, X)) := by
  have h1 := hb.1.2.1
  have b := (hb.ride hr.1 hr.2).2.2.2.2.2.2.2.2.2.2.2
  have w := h.wait hr.1 hr.2
  refine z_sem_of z_m110 m_ok_110 (Nat.le_of_ble_eq_true rfl) (fun Wp hs hv hS => ?_)
  have loop : ∀ (n k : Nat), (k : Int) + n = q (10 + 14 * r + 13) → y_any (y_pl q i r) k = false → Wp 2 [some (.inr (.inr (.ref 64))), some (.inl r), some (.inl i), some (.inl k)] [] (m_Ex g T, J, X) 0 0 := by
    intro n
    induction n with
    | zero =>
      intro k hk ha
      refine w_110_2 hs ?_
      rw [w.1]
      refine ⟨by omega, fun c => ⟨z_wi ?_, rfl⟩, fun c => by omega⟩
      rw [y_place, show (q (10 + 14 * r + 13)).toNat = k by omega, y_first_none ha]
    | succ n ih =>
      intro k hk ha
      have wk := w.2 k (by omega) (by omega)
      refine w_110_2 hs ?_
      rw [w.1, wk]
      refine ⟨by omega, fun c => by omega, fun c => ⟨by omega, by omega, fun c1 => ⟨by omega, ih (k + 1) (by omega) ?_⟩, fun c1 => ⟨z_wi ?_, rfl⟩⟩⟩
      · rw [y_any, ha, y_pl, decide_eq_false c1]; rfl
      · rw [y_place, y_first_at (k := k) (by omega) ha (by rw [y_pl, decide_eq_true_eq]; exact c1)]
  refine w_110_0 hs ?_
  exact loop (q (10 + 14 * r + 13)).toNat 0 (by omega) rfl
end Q2
