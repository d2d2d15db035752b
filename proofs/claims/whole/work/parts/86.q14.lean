/-! the class: two parties at once -/
theorem y_takenX_two {q : Int → Int} (hb : y_base q) {i j s : Int} : y_takenX q i j (-1) s = y_tk2 q i j s := by
  have h5 := hb.1.2.2.2.2.2
  unfold y_takenX y_tk2 y_taken
  by_cases h1 : y_blk q j s = true
  · rw [if_pos h1]
    obtain ⟨k, hk, e⟩ := y_any_iff.mp h1
    rw [y_bk, decide_eq_true_eq] at e
    have : y_any (y_tx q i j (-1) s) (q 5).toNat = true := y_any_iff.mpr ⟨k, hk, by rw [y_tx, decide_eq_true_eq]; omega⟩
    rw [this]; rfl
  · rw [if_neg h1]
    congr 1
    refine y_any_congr (fun k hk => ?_)
    have h2 : y_bk q j s k ≠ true := fun z => h1 (y_any_iff.mpr ⟨k, hk, z⟩)
    unfold y_tx
    unfold y_bk at h2 ⊢
    rw [ne_eq, decide_eq_true_eq] at h2
    exact decide_eq_decide.mpr (by omega)
theorem k_leave_add {q : Int → Int} (hb : y_base q) {i j r s : Int} (hj : 0 ≤ j ∧ j < q 3) (hr : 0 ≤ r ∧ r < q 1) (h150 : q 5 < 150) : k_leave (k_add q j r s) i r = k_add (k_leave q i r) j r s := by
  obtain ⟨h0, h1, h2, h3, h4, h5⟩ := hb.1
  have L := fun (f : Int → Int) (k v : Int) (hk : k < 4564) (h13 : k ≠ 10 + 14 * r + 13) => k_leave_up (q := f) (i := i) (r := r) (v := v) hr.1 hk h13
  have e5 : k_leave q i r 5 = q 5 := k_leave_old hr.1 (by omega) (by omega)
  have e0 : k_leave q i r 0 = q 0 := k_leave_old hr.1 (by omega) (by omega)
  have e2 : k_leave q i r (10 + 14 * r + 2) = q (10 + 14 * r + 2) := k_leave_old hr.1 (by omega) (by omega)
  rw [k_add, L _ _ _ (by omega) (by omega), L _ _ _ (by omega) (by omega), L _ _ _ (by omega) (by omega), L _ _ _ (by omega) (by omega), L _ _ _ (by omega) (by omega), L _ _ _ (by omega) (by omega), L _ _ _ (by omega) (by omega), L _ _ _ (by omega) (by omega)]
  rw [k_add, e5, e0, e2]
section Q14
variable {l : Launch} {d : Nat} {g : List (Option Nat)} {T : m_E} {J : z_J} {X : z_X} {q : Int → Int}
theorem e_issueToBoth (hb : y_base q) (h : x_day 36 q J) {i j r e : Int} (hi : 0 ≤ i ∧ i < q 3) (hj : 0 ≤ j ∧ j < q 3) (hr : 0 ≤ r ∧ r < q 1) (c6 : i ≠ j) (he : 0 ≤ e ∧ e ≤ 143) : z_Sem l (d + 4) M_Desk_issueToBoth [.inr (.inr (.ref 125)), .inr (.inr (.ref 36)), .inl i, .inl j, .inl r, .inl e] (m_Ex g T, J, X) 0 0 (z_rq (m_Ex g T) (fun v J' X' => X' = X ∧ x_day 36 (k_issueJoint q i j r e) J' ∧ x_fr J J' ∧ v = (o_issueJoint q i j r e).2)) := by
  obtain ⟨h0, h1, h2, h3, h4, h5⟩ := hb.1
  have d5 := h.hd.2.2.2.2.2
  have pi := hb.party hi.1 hi.2
  have pj := hb.party hj.1 hj.2
  have fi := h.party hi.1 hi.2
  have fj := h.party hj.1 hj.2
  have ti := h.tier pi.1.1 pi.1.2.2
  have tj := h.tier pj.1.1 pj.1.2.2
  have thi := pi.2.2.2.2.2.1
  have thj := pj.2.2.2.2.2.1
  obtain ⟨-, -, r2, r3, -⟩ := hb.ride hr.1 hr.2
  have bad : ∀ (x : Int) (J1 : z_J), o_issueJoint q i j r e = (0, x) → x < 0 → x_day 36 q J1 → x_fr J J1 → z_rq (m_Ex g T) (fun v J' X' => X' = X ∧ x_day 36 (k_issueJoint q i j r e) J' ∧ x_fr J J' ∧ v = (o_issueJoint q i j r e).2) (.inl (some (.inl x))) (m_Ex g T, J1, X) := by
    intro x J1 ho hn hx hf
    rw [k_issueJoint, ho, if_neg (by show ¬ ((0 : Int) = 0 ∧ 0 ≤ x); omega)]
    exact ⟨_, _, _, rfl, rfl, rfl, hx, hf, rfl⟩
  have P : ∀ x, o_issueJoint q i j r e = (0, x) ↔ (if y_check q i r ≠ 0 then y_check q i r else if y_check q j r ≠ 0 then y_check q j r else if 148 < q 5 then -6 else if y_jw q i j r e = -1 then -4 else q 5) = x := by
    intro x
    rw [o_issueJoint, y_need_2 ⟨⟨hi, hj⟩, hr⟩, y_need_2 ⟨c6, he⟩]
    exact ⟨fun z => (Prod.mk.inj z).2, fun z => by rw [z]⟩
  have k1 := y_check_le (q := q) (i := i) (r := r)
  have k2 := y_check_le (q := q) (i := j) (r := r)
  refine z_sem_of z_m26 m_ok_26 (Nat.le_of_ble_eq_true rfl) (fun Wp hs hv hS => ?_)
  refine w_26_0 hs ?_
  refine z_cI (e_refusal hb h hi hr) ⟨fun c9 => ⟨fun c10 => absurd c10 c9, fun c10 => bad _ J ((P _).mpr (by rw [if_pos c9])) (by omega) h x_fr.rf⟩, fun c9 => ?_⟩
  refine z_cI (e_refusal hb h hj hr) ⟨fun c10 => ?_, fun c10 => bad _ J ((P _).mpr (by rw [if_neg (fun z => z c9), if_pos c10])) (by omega) h x_fr.rf⟩
  rw [d5]
  refine ⟨fun c11 => ?_, fun c11 => bad (-6) J ((P _).mpr (by rw [if_neg (fun z => z c9), if_neg (fun z => z c10), if_pos c11])) (by omega) h x_fr.rf⟩
  refine z_cVq (e_fillFreea hb h hr) ?_
  rintro J2 X2 ⟨rfl, f1, rfl, hf1⟩
  have x2 := h.row (a := 126) (by omega) h1.2 (f := f1)
  refine z_cVq (e_fillTakena (J := z_row J 126 f1) hb x2) ?_
  rintro J3 X3 ⟨rfl, f2, rfl, hf2⟩
  have x3 := x2.row (a := 127) (by omega) h1.2 (f := f2)
  simp only [show (z_row (z_row J 126 f1) 127 f2) 54 = J 54 from rfl, show (z_row (z_row J 126 f1) 127 f2) 55 = J 55 from rfl, show (z_row (z_row J 126 f1) 127 f2) 51 = J 51 from rfl, fi.1, fi.2.1, ti.2.1, fj.1, fj.2.1, tj.2.1]
  refine ⟨by omega, z_cI (e_firstStart (J := z_row (z_row J 126 f1) 127 f2) hb x3 hr he.1 (by omega)) ?_⟩
  have ev : y_win ((z_row (z_row J 126 f1) 127 f2) 126) ((z_row (z_row J 126 f1) 127 f2) 127) (q (138 + 3 * i + 1) + q (138 + 3 * j + 1)) (q (10 + 14 * r + 2)) (max e (q 0)) (min (q 0 + min (q (122 + 4 * q (138 + 3 * i + 0) + 1)) (q (122 + 4 * q (138 + 3 * j + 0) + 1))) (q (10 + 14 * r + 4))) = y_jw q i j r e := by
    unfold y_jw y_late y_size
    rw [show min (q 0 + q (122 + 4 * q (138 + 3 * i + 0) + 1)) (q 0 + q (122 + 4 * q (138 + 3 * j + 0) + 1)) = q 0 + min (q (122 + 4 * q (138 + 3 * i + 0) + 1)) (q (122 + 4 * q (138 + 3 * j + 0) + 1)) by omega]
    refine y_win_congr (fun s a1 a2 => ?_) (fun s a1 a2 => ?_)
    · show (z_row (z_row J 126 f1) 127 f2) 126 s = _
      rw [z_row_ne (by omega), z_row_eq, hf1 s (by omega) (by omega), y_freeX_none]
    · rw [z_row_eq, hf2 s (by omega) (by omega), y_takenX_two hb]
  rw [ev]
  have s3 : x_fr J (z_row (z_row J 126 f1) 127 f2) := fun b hb9 => by rw [z_row_ne (by omega), z_row_ne (by omega)]
  by_cases c12 : y_jw q i j r e = -1
  · have e4 : y_4 (y_jw q i j r e) = -4 := by rw [y_4, if_pos c12]
    rw [e4]
    exact ⟨fun z => by omega, fun _ => bad (-4) _ ((P _).mpr (by rw [if_neg (fun z => z c9), if_neg (fun z => z c10), if_neg (by omega), if_pos c12])) (by omega) x3 s3⟩
  have e4 : y_4 (y_jw q i j r e) = y_jw q i j r e := by rw [y_4, if_neg c12]
  have sp := y_jw_pos hb hi hj hr he.1 c12
  rw [e4]
  refine ⟨fun _ => ?_, fun z => by omega⟩
  have ho := (P _).mpr (by rw [if_neg (fun z => z c9), if_neg (fun z => z c10), if_neg (by omega), if_neg c12])
  have ba := y_base_add hb hi hr sp.1 (by omega) (y_check_0 hb hi c9)
  have ea := k_add_13 hb (s := y_jw q i j r e) hi hr
  have e5 : k_add q i r (y_jw q i j r e) 5 = q 5 + 1 := k_add_5 (by omega) h5.1
  have hj1 : 0 ≤ j ∧ j < k_add q i r (y_jw q i j r e) 3 := by rw [ea.2.2.1]; exact hj
  have hr1 : 0 ≤ r ∧ r < k_add q i r (y_jw q i j r e) 1 := by rw [ea.2.1]; exact hr
  have bl := y_base_leave (i := i) ba hr1
  have l1 : k_leave (k_add q i r (y_jw q i j r e)) i r 1 = q 1 := by rw [k_leave_old hr.1 (by omega) (by omega), ea.2.1]
  have l3 : k_leave (k_add q i r (y_jw q i j r e)) i r 3 = q 3 := by rw [k_leave_old hr.1 (by omega) (by omega), ea.2.2.1]
  have l5 : k_leave (k_add q i r (y_jw q i j r e)) i r 5 = q 5 + 1 := by rw [k_leave_old hr.1 (by omega) (by omega), e5]
  refine z_cIq (e_hand hb x3 hi hr sp.2 (by omega)) ?_
  rintro v J4 X4 ⟨rfl, x4, f4, rfl⟩
  refine z_cIq (e_hand bl x4 (by rw [l3]; exact hj) (by rw [l1]; exact hr) sp.2 (by rw [l5]; omega)) ?_
  rintro v J5 X5 ⟨rfl, x5, f5, rfl⟩
  refine ⟨_, _, _, rfl, rfl, rfl, ?_, fun b hb9 => ?_, by rw [ho]⟩
  · rw [k_issueJoint, ho, if_pos ⟨rfl, h5.1⟩, k_both, k_leave_add ba hj1 hr1 (by rw [e5]; omega)]; exact x5
  · rw [f5 b hb9, f4 b hb9]; exact s3 b hb9
theorem q_issueJoint (hb : y_base q) (h : x_day 36 q J) {i j r e : Int} : z_Sem l (d + 5) M_Q_issueJoint [.inr (.inr (.ref 0)), .inl i, .inl j, .inl r, .inl e] (m_Ex g T, J, X) 4 24 (x_out x_e1 x_e2 (o_issueJoint q i j r e) (m_Ex g T) (fun J' X' => X' = X ∧ x_day 36 (k_issueJoint q i j r e) J' ∧ x_fr J J')) := by
  obtain ⟨b0, b1, b2, b3, b4, b5⟩ := hb.1
  obtain ⟨d0, d4, d1, d2, d3, d5⟩ := h.hd
  have t1 : ¬ (((0 ≤ i ∧ i < q 3) ∧ (0 ≤ j ∧ j < q 3)) ∧ (0 ≤ r ∧ r < q 1)) → x_out x_e1 x_e2 (o_issueJoint q i j r e) (m_Ex g T) (fun J' X' => X' = X ∧ x_day 36 (k_issueJoint q i j r e) J' ∧ x_fr J J') (.inr x_e1) (m_Ex g T, J, X) := fun hn => by
    have ho : o_issueJoint q i j r e = (1, 0) := by rw [o_issueJoint, y_need_n hn]
    exact x_t1 ho ⟨rfl, by rw [k_issueJoint, ho, if_neg (by show ¬ ((1 : Int) = 0 ∧ (0 : Int) ≤ 0); omega)]; exact h, x_fr.rf⟩
  have t2 : (((0 ≤ i ∧ i < q 3) ∧ (0 ≤ j ∧ j < q 3)) ∧ (0 ≤ r ∧ r < q 1)) → ¬ (i ≠ j ∧ (0 ≤ e ∧ e ≤ 143)) → x_out x_e1 x_e2 (o_issueJoint q i j r e) (m_Ex g T) (fun J' X' => X' = X ∧ x_day 36 (k_issueJoint q i j r e) J' ∧ x_fr J J') (.inr x_e2) (m_Ex g T, J, X) := fun hp hn => by
    have ho : o_issueJoint q i j r e = (2, 0) := by rw [o_issueJoint, y_need_2 hp, y_need_n hn]
    exact x_t2 ho ⟨rfl, by rw [k_issueJoint, ho, if_neg (by show ¬ ((2 : Int) = 0 ∧ (0 : Int) ≤ 0); omega)]; exact h, x_fr.rf⟩
  refine z_sem_of z_m141 m_ok_141 (Nat.le_of_ble_eq_true rfl) (fun Wp hs hv hS => ?_)
  refine w_141_0 hs ?_
  refine ⟨by omega, fun c => t1 (by omega), fun c => ⟨fun c1 => ⟨by omega, fun c2 => t1 (by omega), fun c2 => ⟨fun c3 => ⟨by omega, fun c4 => t1 (by omega), fun c4 => ⟨fun c5 => ⟨fun c6 => ⟨by omega, fun c7 => t2 (by omega) (by omega), fun c7 => ⟨fun c8 => ?_, fun c8 => t2 (by omega) (by omega)⟩⟩, fun c6 => ⟨by omega, t2 (by omega) (by omega)⟩⟩, fun c5 => t1 (by omega)⟩⟩, fun c3 => t1 (by omega)⟩⟩, fun c1 => t1 (by omega)⟩⟩
  refine z_cIq (e_issueToBoth hb h ⟨c, by omega⟩ ⟨c2, by omega⟩ ⟨c4, by omega⟩ c6 ⟨c7, c8⟩) ?_
  rintro v J2 X2 ⟨rfl, x2, f2, rfl⟩
  exact x_ok (by rw [o_issueJoint, y_need_2 (by omega), y_need_2 (by omega)]) ⟨rfl, x2, f2⟩
end Q14
