/-! the class: a slot passes -/
section Q18
variable {l : Launch} {d : Nat} {g : List (Option Nat)} {T : m_E} {J : z_J} {X : z_X} {q : Int → Int}
theorem e_extend {t : Int} (hc : y_cb q) (h : x_day 36 q J) (ht : 0 ≤ t ∧ t < q 5) (h3 : -10 ≤ q (288 + 6 * t + 3) ∧ q (288 + 6 * t + 3) ≤ 1000) (h4 : 0 ≤ q (288 + 6 * t + 4) ∧ q (288 + 6 * t + 4) ≤ 48) : z_Sem l (d + 1) M_Day_extend [.inr (.inr (.ref 36)), .inl t] (m_Ex g T, J, X) 0 0 (z_vq (m_Ex g T) (fun J' X' => X' = X ∧ x_day 36 (k_x0 q t) J' ∧ x_fr J J')) := by
  have h5 := hc.2.2.2.1
  have f := h.tk ht.1 ht.2
  have d4 := h.hd.2.1
  refine z_sem_of z_m15 m_ok_15 (Nat.le_of_ble_eq_true rfl) (fun Wp hs hv hS => ?_)
  refine w_15_0 hs ?_
  rw [f.2.2.2.1, f.2.2.2.2.2, d4]
  refine ⟨by omega, fun c => ⟨by omega, _, _, rfl, rfl, rfl, ?_, fun b hb9 => by rw [z_u_ne (by omega)]⟩, fun c => ⟨by omega, _, _, rfl, rfl, rfl, ?_, fun b hb9 => by rw [z_u_ne (by omega), z_u_ne (by omega)]⟩⟩
  · rw [k_x0, if_neg (by omega)]
    refine x_tku hc h ht (fun j a1 => by rw [z_up_ne (by omega)]) (fun b b1 => by rw [z_u_ne (by omega)]) (fun b i b1 b2 b3 => ?_) ?_
    · by_cases h9 : b = 62
      · rw [h9, z_u_off b3]
      · rw [z_u_ne h9]
    · unfold x_tk
      simp (disch := omega) only [z_up_ne, z_up_eq]
      exact ⟨f.1, f.2.1, f.2.2.1, f.2.2.2.1, z_u_at rfl, f.2.2.2.2.2⟩
  · rw [k_x0, if_pos c]
    refine x_tku hc h ht (fun j a1 => by rw [z_up_ne (by omega), z_up_ne (by omega)]) (fun b b1 => by rw [z_u_ne (by omega), z_u_ne (by omega)]) (fun b i b1 b2 b3 => ?_) ?_
    · by_cases h9 : b = 63
      · rw [h9, z_u_off b3, z_u_ne (by omega)]
      · rw [z_u_ne h9]
        by_cases h8 : b = 61
        · rw [h8, z_u_off b3]
        · rw [z_u_ne h8]
    · unfold x_tk
      simp (disch := omega) only [z_up_ne, z_up_eq]
      refine ⟨?_, ?_, ?_, ?_, ?_, ?_⟩
      · rw [z_u_ne (by omega), z_u_ne (by omega)]; exact f.1
      · rw [z_u_ne (by omega), z_u_ne (by omega)]; exact f.2.1
      · rw [z_u_ne (by omega), z_u_ne (by omega)]; exact f.2.2.1
      · rw [z_u_ne (by omega), z_u_at rfl]
      · rw [z_u_ne (by omega), z_u_ne (by omega)]; exact f.2.2.2.2.1
      · rw [z_u_at rfl]
theorem x_expire {t : Int} (hc : y_cb q) (h : x_day 36 q J) (ht : 0 ≤ t ∧ t < q 5) : x_day 36 (z_up q (288 + 6 * t + 5) 2) (z_u J 62 t 2) := by
  have h5 := hc.2.2.2.1
  have f := h.tk ht.1 ht.2
  refine x_tku hc h ht (fun j a1 => by rw [z_up_ne (by omega)]) (fun b b1 => by rw [z_u_ne (by omega)]) (fun b i b1 b2 b3 => ?_) ?_
  · by_cases h9 : b = 62
    · rw [h9, z_u_off b3]
    · rw [z_u_ne h9]
  · unfold x_tk
    simp (disch := omega) only [z_up_ne, z_up_eq]
    exact ⟨f.1, f.2.1, f.2.2.1, f.2.2.2.1, z_u_at rfl, f.2.2.2.2.2⟩
theorem x_clock {v : Int} (hc : y_cb q) (h : x_day 36 q J) : x_day 36 (z_up q 0 v) (z_u J 36 0 v) := by
  obtain ⟨k0, k1, k2, k3, k4, k5⟩ := h
  obtain ⟨n1, n2, n3, n5, nr⟩ := hc
  have O : ∀ j, j ≠ 0 → z_up q 0 v j = q j := fun j hj => z_up_ne hj
  have hJ : ∀ b, b ≠ 36 → z_u J 36 0 v b = J b := fun b hb => z_u_ne hb
  have e1 := O 1 (by omega)
  have e2 := O 2 (by omega)
  have e3 := O 3 (by omega)
  have e5 := O 5 (by omega)
  refine ⟨?_, fun r' a1 a2 => ?_, fun t' a1 a2 => ?_, fun i' a1 a2 => ?_, fun t' a1 a2 => ?_, fun r5 a1 a2 => by have w5 := k5 r5 (by omega) a2; rw [hJ _ (by omega), hJ _ (by omega), hJ _ (by omega)]; exact w5⟩
  · unfold x_heads at *
    rw [z_u_at rfl, z_u_off (by omega), hJ (36 + 1) (by omega), hJ (36 + 13) (by omega), hJ (36 + 21) (by omega), z_up_eq rfl, e1, e2, e3, e5, O 4 (by omega)]
    exact ⟨rfl, k0.2⟩
  · rw [e1] at a2
    obtain ⟨c1, c2, c3⟩ := k1 r' a1 a2
    have m := nr r' a1 a2
    exact ⟨x_ride_c (fun b b1 b2 => hJ b (by omega)) (fun w b1 b2 b3 b4 => O _ (by omega)) c1, x_line_c m.1 m.2.1 (fun b b1 b2 => hJ b (by omega)) (O _ (by omega)) (O _ (by omega)) (fun j b1 b2 => O _ (by omega)) (fun j b1 b2 => O _ (by omega)) c2, x_wait_c m.2.2 (fun b b1 => hJ b (by omega)) (O _ (by omega)) (fun j b1 b2 => O _ (by omega)) c3⟩
  · rw [e2] at a2
    exact x_tier_c (fun b b1 b2 => hJ b (by omega)) (fun w b1 b2 => O _ (by omega)) (k2 t' a1 a2)
  · rw [e3] at a2
    exact x_party_c (fun b b1 b2 => hJ b (by omega)) (fun w b1 b2 => O _ (by omega)) (k3 i' a1 a2)
  · rw [e5] at a2
    exact x_tk_c (fun b b1 b2 => hJ b (by omega)) (fun w b1 b2 => O _ (by omega)) (k4 t' a1 a2)
theorem e_pass (hb : y_base q) (h : q 0 < 144) (hx : x_day 36 q J) : z_Sem l (d + 4) M_Day_pass [.inr (.inr (.ref 36))] (m_Ex g T, J, X) 0 0 (z_vq (m_Ex g T) (fun J' X' => X' = X ∧ x_day 36 (k_pass q) J' ∧ x_fr J J')) := by
  obtain ⟨b0, b1, b2, b3, b4, b5⟩ := hb.1
  obtain ⟨m1, m2⟩ := y_rides_f hb h (q 1).toNat (by omega)
  have m0 := m2 0 (by omega) (by omega)
  have m5 := m2 5 (by omega) (by omega)
  have X2 := y_xs_f m1.2.1
  rw [m0, m5] at X2
  have F := X2 (q 5).toNat (by omega)
  have f0 := F.2 0 (by omega) (by omega)
  have f5 := F.2 5 (by omega) (by omega)
  have Y2 := y_es_f (q := k_xs (q 5).toNat (k_rides (q 1).toNat q)) (by rw [f0, m0]; exact F.1)
  rw [f0, m0, f5, m5] at Y2
  refine z_sem_of z_m12 m_ok_12 (Nat.le_of_ble_eq_true rfl) (fun Wp hs hv hS => ?_)
  have loop3 : ∀ (n k : Nat) (J1 : z_J), (k : Int) + n = q 5 → x_day 36 (k_es k (k_xs (q 5).toNat (k_rides (q 1).toNat q))) J1 → x_fr J J1 → Wp 122 [some (.inr (.inr (.ref 36))), some (.inl k), none] [] (m_Ex g T, J1, X) 0 0 := by
    intro n
    induction n with
    | zero =>
      intro k J1 hk x1 f1
      obtain ⟨i1, i2⟩ := Y2 k (by omega)
      have e0 : k_es k (k_xs (q 5).toNat (k_rides (q 1).toNat q)) 0 = q 0 := by rw [i2 0 (by omega) (by omega), f0, m0]
      have e5 : k_es k (k_xs (q 5).toNat (k_rides (q 1).toNat q)) 5 = q 5 := by rw [i2 5 (by omega) (by omega), f5, m5]
      have hd := x1.hd
      have cb := y_cb_of i1
      refine w_12_122 hs ?_
      rw [hd.1, hd.2.2.2.2.2, e0, e5]
      refine ⟨fun c => ⟨by omega, _, _, rfl, rfl, rfl, ?_, fun b hb9 => by rw [z_u_ne (by omega)]; exact f1 b hb9⟩, fun c => by omega⟩
      rw [k_pass, show (q 5).toNat = k by omega]
      rw [show (q 5).toNat = k by omega] at x1 cb
      exact x_clock cb x1
    | succ n ih =>
      intro k J1 hk x1 f1
      obtain ⟨i1, i2⟩ := Y2 k (by omega)
      have nx := ih (k + 1)
      rw [k_es, k_e1] at nx
      have e0 : k_es k (k_xs (q 5).toNat (k_rides (q 1).toNat q)) 0 = q 0 := by rw [i2 0 (by omega) (by omega), f0, m0]
      have e5 : k_es k (k_xs (q 5).toNat (k_rides (q 1).toNat q)) 5 = q 5 := by rw [i2 5 (by omega) (by omega), f5, m5]
      have cb := y_cb_of i1
      generalize k_es k (k_xs (q 5).toNat (k_rides (q 1).toNat q)) = f at *
      have hd := x1.hd
      have tk := x1.tk (t := k) (by omega) (by omega)
      refine w_12_122 hs ?_
      rw [hd.1, hd.2.2.2.2.2, e5, tk.2.2.2.1, tk.2.2.2.2.1]
      refine ⟨fun c => by omega, fun c => ⟨by omega, fun c1 => ⟨by omega, ?_⟩, fun c1 => ⟨by omega, fun c2 => ⟨by omega, ?_⟩, fun c2 => ⟨by omega, ?_⟩⟩⟩⟩
      · rw [if_neg (fun z => c1 z.1)] at nx; exact nx J1 (by omega) x1 f1
      · rw [if_neg (fun z => c2 z.2)] at nx; exact nx J1 (by omega) x1 f1
      · rw [if_pos ⟨c1, c2⟩] at nx
        exact nx _ (by omega) (x_expire cb x1 (by omega)) (fun b hb9 => by rw [z_u_ne (by omega)]; exact f1 b hb9)
  have loop2 : ∀ (n k : Nat) (J1 : z_J), (k : Int) + n = q 5 → x_day 36 (k_xs k (k_rides (q 1).toNat q)) J1 → x_fr J J1 → Wp 41 [some (.inr (.inr (.ref 36))), some (.inl k), none] [] (m_Ex g T, J1, X) 0 0 := by
    intro n
    induction n with
    | zero =>
      intro k J1 hk x1 f1
      obtain ⟨i1, i2⟩ := X2 k (by omega)
      have e5 := (i2 5 (by omega) (by omega)).trans m5
      have hd := x1.hd
      refine w_12_41 hs ?_
      rw [hd.2.2.2.2.2, e5]
      refine ⟨fun c => ?_, fun c => by omega⟩
      rw [show k = (q 5).toNat by omega] at x1
      exact loop3 (q 5).toNat 0 J1 (by omega) x1 f1
    | succ n ih =>
      intro k J1 hk x1 f1
      obtain ⟨i1, i2⟩ := X2 k (by omega)
      have nx := ih (k + 1)
      rw [k_xs, k_x1] at nx
      have e0 := (i2 0 (by omega) (by omega)).trans m0
      have e1 := i2 1 (by omega) (by omega)
      have e5 := (i2 5 (by omega) (by omega)).trans m5
      have cb := y_cb_of i1
      generalize k_xs k (k_rides (q 1).toNat q) = f at *
      have tb := i1.tk (t := k) (by omega) (by rw [z_up_ne (by omega)]; omega)
      have tr := (i1.2.2.2.2 k (by omega) (by rw [z_up_ne (by omega)]; omega)).2.1
      simp (disch := omega) only [z_up_ne] at tb tr
      have hd := x1.hd
      have tk := x1.tk (t := k) (by omega) (by omega)
      have rd := x1.ride tr.1 tr.2
      have dn : f (10 + 14 * f (288 + 6 * (k : Int) + 1) + 5) = 0 ∨ f (10 + 14 * f (288 + 6 * (k : Int) + 1) + 5) = 1 := by
        have := (i1.2.1 _ tr.1 (by rw [z_up_ne (by omega)]; exact tr.2)).1.2.2.2.2.1
        simp (disch := omega) only [z_up_ne] at this
        exact this
      refine w_12_41 hs ?_
      rw [hd.1, hd.2.2.2.2.2, e5, tk.2.1, tk.2.2.1, tk.2.2.2.1, tk.2.2.2.2.1, rd.2.2.2.2.2.1]
      refine ⟨fun c => by omega, fun c => ⟨by omega, fun c1 => ⟨by omega, ?_⟩, fun c1 => ⟨by omega, fun c2 => ⟨by omega, ?_⟩, fun c2 => ⟨by omega, fun c3 => ⟨by omega, ?_⟩, fun c3 => ⟨by omega, fun c4 => ⟨by omega, ?_⟩, fun c4 => ?_⟩⟩⟩⟩⟩
      · rw [if_neg (fun z => c1 z.1)] at nx; exact nx J1 (by omega) x1 f1
      · rw [if_neg (fun z => by omega)] at nx; exact nx J1 (by omega) x1 f1
      · rw [if_neg (fun z => by omega)] at nx; exact nx J1 (by omega) x1 f1
      · rw [if_neg (fun z => by omega)] at nx; exact nx J1 (by omega) x1 f1
      · rw [if_pos ⟨c1, by omega, c3, c4⟩] at nx
        refine z_cVq (e_extend cb x1 (by omega) (by omega) (by omega)) ?_
        rintro J2 X3 ⟨rfl, x2, f2⟩
        exact ⟨by omega, nx J2 (by omega) x2 (x_fr.tr f1 f2)⟩
  have loop1 : ∀ (n k : Nat) (J1 : z_J), (k : Int) + n = q 1 → x_day 36 (k_rides k q) J1 → x_fr J J1 → Wp 2 [some (.inr (.inr (.ref 36))), some (.inl k), none] [] (m_Ex g T, J1, X) 0 0 := by
    intro n
    induction n with
    | zero =>
      intro k J1 hk x1 f1
      obtain ⟨i1, i2⟩ := y_rides_f hb h k (by omega)
      have e1 := i2 1 (by omega) (by omega)
      have hd := x1.hd
      refine w_12_2 hs ?_
      rw [hd.2.2.1, e1]
      refine ⟨fun c => ?_, fun c => by omega⟩
      rw [show k = (q 1).toNat by omega] at x1
      exact loop2 (q 5).toNat 0 J1 (by omega) x1 f1
    | succ n ih =>
      intro k J1 hk x1 f1
      obtain ⟨i1, i2⟩ := y_rides_f hb h k (by omega)
      have nx := ih (k + 1)
      rw [k_rides] at nx
      have e1 := i2 1 (by omega) (by omega)
      have cb := y_cb_of i1.2.1
      generalize k_rides k q = f at *
      have lc := (y_mid_r i1 (k := k) (by omega)).1
      have r7 := (i1.2.2.2 k (by omega) (by omega)).2.2.2.2.2.2.1
      have hd := x1.hd
      have rd := x1.ride (r := k) (by omega) (by omega)
      refine w_12_2 hs ?_
      rw [hd.1, hd.2.2.1, e1, rd.2.2.2.1, rd.2.2.2.2.1, rd.2.2.2.2.2.1]
      refine ⟨fun c => by omega, fun c => ⟨by omega, fun c3 => ⟨by omega, ?_⟩, fun c3 => ⟨by omega, fun c1 => ⟨by omega, ?_⟩, fun c1 => ⟨by omega, fun c2 => ⟨by omega, ?_⟩, fun c2 => ?_⟩⟩⟩⟩
      · rw [if_neg (fun z => by omega)] at nx; exact nx J1 (by omega) x1 f1
      · rw [if_neg (fun z => by omega)] at nx; exact nx J1 (by omega) x1 f1
      · rw [if_neg (fun z => by omega)] at nx; exact nx J1 (by omega) x1 f1
      · rw [if_pos ⟨⟨c1, c2⟩, c3⟩] at nx
        refine z_cVq (e_board cb x1 (by omega) lc (by omega)) ?_
        rintro J2 X3 ⟨rfl, x2, f2⟩
        exact ⟨by omega, nx J2 (by omega) x2 (x_fr.tr f1 f2)⟩
  refine w_12_0 hs ?_
  exact loop1 (q 1).toNat 0 J (by omega) hx x_fr.rf
theorem q_advance (hb : y_base q) (h : x_day 36 q J) {n : Int} : z_Sem l (d + 5) M_Q_advance [.inr (.inr (.ref 0)), .inl n] (m_Ex g T, J, X) 4 24 (x_out x_e2 x_e2 (o_advance q n) (m_Ex g T) (fun J' X' => X' = X ∧ x_day 36 (k_advance q n) J' ∧ x_fr J J')) := by
  obtain ⟨b0, b1, b2, b3, b4, b5⟩ := hb.1
  obtain ⟨d0, d4, d1, d2, d3, d5⟩ := h.hd
  have t1 : ¬ ((1 ≤ n ∧ n ≤ 144) ∧ q 0 + n ≤ 144) → x_out x_e2 x_e2 (o_advance q n) (m_Ex g T) (fun J' X' => X' = X ∧ x_day 36 (k_advance q n) J' ∧ x_fr J J') (.inr x_e2) (m_Ex g T, J, X) := fun hn => x_t1 (by rw [o_advance, y_need_n hn]) ⟨rfl, by rw [k_advance, if_neg hn]; exact h, x_fr.rf⟩
  refine z_sem_of z_m162 m_ok_162 (Nat.le_of_ble_eq_true rfl) (fun Wp hs hv hS => ?_)
  have loop : ((1 ≤ n ∧ n ≤ 144) ∧ q 0 + n ≤ 144) → ∀ (m k : Nat) (f : Int → Int) (J1 : z_J), (k : Int) + m = n → y_base f → f 0 = q 0 + k → k_adv m f = k_adv n.toNat q → x_day 36 f J1 → x_fr J J1 → Wp 7 [some (.inr (.inr (.ref 0))), some (.inl n), some (.inl k)] [] (m_Ex g T, J1, X) 3 18 := by
    intro hn m
    induction m with
    | zero =>
      intro k f J1 hk hb2 h0 he x1 f1
      refine w_162_7 hs ?_
      rw [x1.hd.1]
      refine ⟨fun c => x_ok (by rw [o_advance, y_need_2 hn, show q 0 + n = f 0 by omega]) ⟨rfl, ?_, f1⟩, fun c => by omega⟩
      rw [k_advance, if_pos hn, ← he]
      exact x1
    | succ m ih =>
      intro k f J1 hk hb2 h0 he x1 f1
      obtain ⟨i1, i2, i3⟩ := y_base_pass hb2 (by omega)
      refine w_162_7 hs ?_
      refine ⟨fun c => by omega, fun c => z_cVq (e_pass hb2 (by omega) x1) ?_⟩
      rintro J2 X3 ⟨rfl, x2, f2⟩
      exact ⟨by omega, ih (k + 1) (k_pass f) J2 (by omega) i1 (by omega) he x2 (x_fr.tr f1 f2)⟩
  refine w_162_0 hs ?_
  rw [d0]
  refine ⟨by omega, fun c => t1 (by omega), fun c => ⟨fun c1 => t1 (by omega), fun c1 => ⟨by omega, fun c2 => ?_, fun c2 => t1 (by omega)⟩⟩⟩
  exact loop (by omega) n.toNat 0 q J (by omega) hb (by omega) rfl h x_fr.rf
end Q18
