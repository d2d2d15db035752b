/-! the class: issue, cancel, repair, shares, limits -/
section Q7
variable {l : Launch} {d : Nat} {g : List (Option Nat)} {T : m_E} {J : z_J} {X : z_X} {q : Int → Int}
theorem q_issue (hb : y_base q) (h : x_day 36 q J) {i r e : Int} : z_Sem l (d + 5) M_Q_issue [.inr (.inr (.ref 0)), .inl i, .inl r, .inl e] (m_Ex g T, J, X) 4 24 (x_out x_e1 x_e2 (o_issue q i r e) (m_Ex g T) (fun J' X' => X' = X ∧ x_day 36 (k_issue q i r e) J' ∧ x_fr J J')) := by
  obtain ⟨b0, b1, b2, b3, b4, b5⟩ := hb.1
  obtain ⟨d0, d4, d1, d2, d3, d5⟩ := h.hd
  have same : ∀ w v, o_issue q i r e = (w, v) → w ≠ 0 → (X = X ∧ x_day 36 (k_issue q i r e) J ∧ x_fr J J) := fun w v ho hw => ⟨rfl, by rw [k_issue, ho, if_neg (fun z => hw z.1)]; exact h, x_fr.rf⟩
  have n1 : ¬ ((0 ≤ i ∧ i < q 3) ∧ (0 ≤ r ∧ r < q 1)) → o_issue q i r e = (1, 0) := fun hn => by rw [o_issue, y_need_n hn]
  have n2 : ((0 ≤ i ∧ i < q 3) ∧ (0 ≤ r ∧ r < q 1)) → ¬ (0 ≤ e ∧ e ≤ 143) → o_issue q i r e = (2, 0) := fun hp hn => by rw [o_issue, y_need_2 hp, y_need_n hn]
  have t1 : ¬ ((0 ≤ i ∧ i < q 3) ∧ (0 ≤ r ∧ r < q 1)) → x_out x_e1 x_e2 (o_issue q i r e) (m_Ex g T) (fun J' X' => X' = X ∧ x_day 36 (k_issue q i r e) J' ∧ x_fr J J') (.inr x_e1) (m_Ex g T, J, X) := fun hn => x_t1 (n1 hn) (same _ _ (n1 hn) (by omega))
  have t2 : ((0 ≤ i ∧ i < q 3) ∧ (0 ≤ r ∧ r < q 1)) → ¬ (0 ≤ e ∧ e ≤ 143) → x_out x_e1 x_e2 (o_issue q i r e) (m_Ex g T) (fun J' X' => X' = X ∧ x_day 36 (k_issue q i r e) J' ∧ x_fr J J') (.inr x_e2) (m_Ex g T, J, X) := fun hp hn => x_t2 (n2 hp hn) (same _ _ (n2 hp hn) (by omega))
  refine z_sem_of z_m138 m_ok_138 (Nat.le_of_ble_eq_true rfl) (fun Wp hs hv hS => ?_)
  refine w_138_0 hs ?_
  refine ⟨by omega, fun c => t1 (by omega), fun c => ⟨fun c1 => ⟨by omega, fun c2 => t1 (by omega), fun c2 => ⟨fun c3 => ⟨by omega, fun c4 => t2 (by omega) (by omega), fun c4 => ⟨fun c5 => ?_, fun c5 => t2 (by omega) (by omega)⟩⟩, fun c3 => t1 (by omega)⟩⟩, fun c1 => t1 (by omega)⟩⟩
  have ho : o_issue q i r e = (0, y_try q i r e) := by rw [o_issue, y_need_2 (by omega), y_need_2 (by omega)]
  refine z_cIq (e_issueTo hb h ⟨c, by omega⟩ ⟨c2, by omega⟩ c4) ?_
  rintro v J2 X2 ⟨rfl, x2, f2, rfl⟩
  refine x_ok ho ⟨rfl, ?_, f2⟩
  rw [k_issue, ho]
  by_cases hn : y_try q i r e < 0
  · rw [if_pos hn] at x2
    rw [if_neg (fun z => absurd z.2 (Int.not_le.mpr hn))]; exact x2
  · rw [if_neg hn] at x2
    rw [if_pos ⟨rfl, Int.not_lt.mp hn⟩]; exact x2
theorem q_nextWindow (hb : y_base q) (h : x_day 36 q J) {i r e : Int} : z_Sem l (d + 4) M_Q_nextWindow [.inr (.inr (.ref 0)), .inl i, .inl r, .inl e] (m_Ex g T, J, X) 4 24 (x_out x_e1 x_e2 (y_need ((0 ≤ i ∧ i < q 3) ∧ (0 ≤ r ∧ r < q 1)) 1 (y_need (0 ≤ e ∧ e ≤ 143) 2 (0, y_wf q i r e))) (m_Ex g T) (fun J' X' => X' = X ∧ x_sc J J')) := by
  obtain ⟨b0, b1, b2, b3, b4, b5⟩ := hb.1
  obtain ⟨d0, d4, d1, d2, d3, d5⟩ := h.hd
  refine z_sem_of z_m140 m_ok_140 (Nat.le_of_ble_eq_true rfl) (fun Wp hs hv hS => ?_)
  refine w_140_0 hs ?_
  refine ⟨by omega, fun c => x_t1 (y_need_n (by omega)) ⟨rfl, x_sc.rf⟩, fun c => ⟨fun c1 => ⟨by omega, fun c2 => x_t1 (y_need_n (by omega)) ⟨rfl, x_sc.rf⟩, fun c2 => ⟨fun c3 => ⟨by omega, fun c4 => x_t2 (by rw [y_need_2 (by omega), y_need_n (by omega)]) ⟨rfl, x_sc.rf⟩, fun c4 => ⟨fun c5 => ?_, fun c5 => x_t2 (by rw [y_need_2 (by omega), y_need_n (by omega)]) ⟨rfl, x_sc.rf⟩⟩⟩, fun c3 => x_t1 (y_need_n (by omega)) ⟨rfl, x_sc.rf⟩⟩⟩, fun c1 => x_t1 (y_need_n (by omega)) ⟨rfl, x_sc.rf⟩⟩⟩
  refine z_cIq (e_startFor hb h ⟨c, by omega⟩ ⟨c2, by omega⟩ c4) ?_
  rintro v J2 X2 ⟨rfl, s2, rfl⟩
  exact x_ok (by rw [y_need_2 (by omega), y_need_2 (by omega)]) ⟨rfl, s2⟩
theorem e_giveBack (hb : y_base q) (h : x_day 36 q J) {t : Int} (ht : 0 ≤ t ∧ t < q 5) : z_Sem l (d + 5) M_Desk_giveBack [.inr (.inr (.ref 125)), .inr (.inr (.ref 36)), .inl t] (m_Ex g T, J, X) 0 0 (z_rq (m_Ex g T) (fun v J' X' => X' = X ∧ x_day 36 (k_cancel q t) J' ∧ x_fr J J' ∧ v = (o_cancel q t).2)) := by
  have h5 := hb.1.2.2.2.2.2
  have f := h.tk ht.1 ht.2
  have k2 := (hb.2.2.2.2 t ht.1 ht.2).2.1
  have tk := hb.tk ht.1 ht.2
  refine z_sem_of z_m30 m_ok_30 (Nat.le_of_ble_eq_true rfl) (fun Wp hs hv hS => ?_)
  refine w_30_0 hs ?_
  rw [f.2.2.2.2.1, f.2.1]
  refine ⟨by omega, fun c => ⟨by omega, ?_⟩, fun c => ⟨_, _, _, rfl, rfl, rfl, ?_, x_fr.rf, ?_⟩⟩
  · have bq := y_base_state (v := 3) hb ht (by omega) (by omega) (by omega)
    have xq := x_state (v := 3) hb h ht
    have e1 : z_up q (288 + 6 * t + 5) 3 1 = q 1 := z_up_ne (by omega)
    refine z_cIq (e_serve bq xq ⟨k2.1, by rw [e1]; exact k2.2⟩) ?_
    rintro v J2 X2 ⟨rfl, x2, f2, rfl⟩
    refine ⟨_, _, _, rfl, rfl, rfl, ?_, fun b hb9 => by rw [f2 b hb9, z_u_ne (by omega)], ?_⟩
    · rw [k_cancel, if_pos ⟨ht, c⟩]; exact x2
    · rw [o_cancel, y_need_2 ht, if_pos c]
  · rw [k_cancel, if_neg (fun z => c z.2)]; exact h
  · rw [o_cancel, y_need_2 ht, if_neg c]
theorem q_cancel (hb : y_base q) (h : x_day 36 q J) {t : Int} : z_Sem l (d + 6) M_Q_cancel [.inr (.inr (.ref 0)), .inl t] (m_Ex g T, J, X) 4 24 (x_out x_e1 x_e2 (o_cancel q t) (m_Ex g T) (fun J' X' => X' = X ∧ x_day 36 (k_cancel q t) J' ∧ x_fr J J')) := by
  obtain ⟨b0, b1, b2, b3, b4, b5⟩ := hb.1
  obtain ⟨d0, d4, d1, d2, d3, d5⟩ := h.hd
  have t1 : ¬ (0 ≤ t ∧ t < q 5) → x_out x_e1 x_e2 (o_cancel q t) (m_Ex g T) (fun J' X' => X' = X ∧ x_day 36 (k_cancel q t) J' ∧ x_fr J J') (.inr x_e1) (m_Ex g T, J, X) := fun hn => x_t1 (by rw [o_cancel, y_need_n hn]) ⟨rfl, by rw [k_cancel, if_neg (fun z => hn z.1)]; exact h, x_fr.rf⟩
  refine z_sem_of z_m145 m_ok_145 (Nat.le_of_ble_eq_true rfl) (fun Wp hs hv hS => ?_)
  refine w_145_0 hs ?_
  refine ⟨by omega, fun c => t1 (by omega), fun c => ⟨fun c1 => ?_, fun c1 => t1 (by omega)⟩⟩
  refine z_cIq (e_giveBack hb h ⟨c, by omega⟩) ?_
  rintro v J2 X2 ⟨rfl, x2, f2, rfl⟩
  exact x_ok (by rw [o_cancel, y_need_2 (by omega)]) ⟨rfl, x2, f2⟩
theorem e_putBack (hb : y_base q) (h : x_day 36 q J) {r : Int} (hr : 0 ≤ r ∧ r < q 1) : z_Sem l (d + 5) M_Desk_putBack [.inr (.inr (.ref 125)), .inr (.inr (.ref 36)), .inl r] (m_Ex g T, J, X) 0 0 (z_rq (m_Ex g T) (fun v J' X' => X' = X ∧ x_day 36 (k_repair q r) J' ∧ x_fr J J' ∧ v = (o_repair q r).2)) := by
  have h1 := hb.1.2.1
  have rd := h.ride hr.1 hr.2
  refine z_sem_of z_m31 m_ok_31 (Nat.le_of_ble_eq_true rfl) (fun Wp hs hv hS => ?_)
  refine w_31_0 hs ?_
  rw [rd.2.2.2.2.2.1]
  refine ⟨by omega, fun c => ⟨by omega, ?_⟩, fun c => ⟨_, _, _, rfl, rfl, rfl, ?_, x_fr.rf, ?_⟩⟩
  · have bq := y_base_down (v := 0) hb hr (Or.inl rfl)
    have xq := x_down (v := 0) hb h hr
    have e1 : z_up q (10 + 14 * r + 5) 0 1 = q 1 := z_up_ne (by omega)
    refine z_cIq (e_serve bq xq ⟨hr.1, by rw [e1]; exact hr.2⟩) ?_
    rintro v J2 X2 ⟨rfl, x2, f2, rfl⟩
    refine ⟨_, _, _, rfl, rfl, rfl, ?_, fun b hb9 => by rw [f2 b hb9, z_u_ne (by omega)], ?_⟩
    · rw [k_repair, if_pos ⟨hr, c⟩]; exact x2
    · rw [o_repair, y_need_2 hr, if_neg c]
  · rw [k_repair, if_neg (fun z => z.2 c)]; exact h
  · rw [o_repair, y_need_2 hr, if_pos c]
theorem q_repair (hb : y_base q) (h : x_day 36 q J) {r : Int} : z_Sem l (d + 6) M_Q_repair [.inr (.inr (.ref 0)), .inl r] (m_Ex g T, J, X) 4 24 (x_out x_e1 x_e2 (o_repair q r) (m_Ex g T) (fun J' X' => X' = X ∧ x_day 36 (k_repair q r) J' ∧ x_fr J J')) := by
  obtain ⟨b0, b1, b2, b3, b4, b5⟩ := hb.1
  obtain ⟨d0, d4, d1, d2, d3, d5⟩ := h.hd
  have t1 : ¬ (0 ≤ r ∧ r < q 1) → x_out x_e1 x_e2 (o_repair q r) (m_Ex g T) (fun J' X' => X' = X ∧ x_day 36 (k_repair q r) J' ∧ x_fr J J') (.inr x_e1) (m_Ex g T, J, X) := fun hn => x_t1 (by rw [o_repair, y_need_n hn]) ⟨rfl, by rw [k_repair, if_neg (fun z => hn z.1)]; exact h, x_fr.rf⟩
  refine z_sem_of z_m166 m_ok_166 (Nat.le_of_ble_eq_true rfl) (fun Wp hs hv hS => ?_)
  refine w_166_0 hs ?_
  refine ⟨by omega, fun c => t1 (by omega), fun c => ⟨fun c1 => ?_, fun c1 => t1 (by omega)⟩⟩
  refine z_cIq (e_putBack hb h ⟨c, by omega⟩) ?_
  rintro v J2 X2 ⟨rfl, x2, f2, rfl⟩
  exact x_ok (by rw [o_repair, y_need_2 (by omega)]) ⟨rfl, x2, f2⟩
theorem e_takeDown (hb : y_base q) (h : x_day 36 q J) {r : Int} (hr : 0 ≤ r ∧ r < q 1) : z_Sem l (d + 1) M_Rides_takeDown [.inr (.inr (.ref 37)), .inl r] (m_Ex g T, J, X) 0 0 (z_rq (m_Ex g T) (fun v J' X' => X' = X ∧ x_day 36 (k_breakDown q r) J' ∧ x_fr J J' ∧ v = (o_breakDown q r).2)) := by
  have h1 := hb.1.2.1
  have rd := h.ride hr.1 hr.2
  have dn := (hb.ride hr.1 hr.2).2.2.2.2.1
  refine z_sem_of z_m84 m_ok_84 (Nat.le_of_ble_eq_true rfl) (fun Wp hs hv hS => ?_)
  refine w_84_0 hs ?_
  rw [rd.2.2.2.2.2.1]
  refine ⟨by omega, fun c => ⟨by omega, _, _, _, rfl, rfl, rfl, ?_, fun b hb9 => z_u_ne (by omega), ?_⟩, fun c => ⟨_, _, _, rfl, rfl, rfl, ?_, x_fr.rf, ?_⟩⟩
  · rw [k_breakDown, if_pos ⟨hr, by omega⟩]; exact x_down hb h hr
  · rw [o_breakDown, y_need_2 hr, if_neg (by omega)]
  · rw [k_breakDown, if_neg (by omega)]; exact h
  · rw [o_breakDown, y_need_2 hr, if_pos (by omega)]
theorem q_breakDown (hb : y_base q) (h : x_day 36 q J) {r : Int} : z_Sem l (d + 2) M_Q_breakDown [.inr (.inr (.ref 0)), .inl r] (m_Ex g T, J, X) 4 24 (x_out x_e1 x_e2 (o_breakDown q r) (m_Ex g T) (fun J' X' => X' = X ∧ x_day 36 (k_breakDown q r) J' ∧ x_fr J J')) := by
  obtain ⟨b0, b1, b2, b3, b4, b5⟩ := hb.1
  obtain ⟨d0, d4, d1, d2, d3, d5⟩ := h.hd
  have t1 : ¬ (0 ≤ r ∧ r < q 1) → x_out x_e1 x_e2 (o_breakDown q r) (m_Ex g T) (fun J' X' => X' = X ∧ x_day 36 (k_breakDown q r) J' ∧ x_fr J J') (.inr x_e1) (m_Ex g T, J, X) := fun hn => x_t1 (by rw [o_breakDown, y_need_n hn]) ⟨rfl, by rw [k_breakDown, if_neg (fun z => hn z.1)]; exact h, x_fr.rf⟩
  refine z_sem_of z_m165 m_ok_165 (Nat.le_of_ble_eq_true rfl) (fun Wp hs hv hS => ?_)
  refine w_165_0 hs ?_
  refine ⟨by omega, fun c => t1 (by omega), fun c => ⟨fun c1 => ?_, fun c1 => t1 (by omega)⟩⟩
  refine z_cIq (e_takeDown hb h ⟨c, by omega⟩) ?_
  rintro v J2 X2 ⟨rfl, x2, f2, rfl⟩
  refine ⟨?_, x_ok (by rw [o_breakDown, y_need_2 (by omega)]) ⟨rfl, x2, f2⟩⟩
  rw [o_breakDown, y_need_2 (by omega)]
  show (if _ then (0 : Int) else 1) = 0 ∨ (if _ then (0 : Int) else 1) = 1
  split <;> omega
theorem q_setExtensionLimit (hb : y_base q) (h : x_day 36 q J) {x : Int} : z_Sem l (d + 1) M_Q_setExtensionLimit [.inr (.inr (.ref 0)), .inl x] (m_Ex g T, J, X) 4 24 (x_out x_e1 x_e2 (o_setExtensionLimit q x) (m_Ex g T) (fun J' X' => X' = X ∧ x_day 36 (k_setExtensionLimit q x) J' ∧ x_fr J J')) := by
  refine z_sem_of z_m124 m_ok_124 (Nat.le_of_ble_eq_true rfl) (fun Wp hs hv hS => ?_)
  refine w_124_0 hs ?_
  refine ⟨fun c => x_ok (by rw [o_setExtensionLimit, if_neg (by omega)]) ⟨rfl, by rw [k_setExtensionLimit, if_neg (by omega)]; exact h, x_fr.rf⟩, fun c => ⟨fun c1 => x_ok (by rw [o_setExtensionLimit, if_pos (by omega)]) ⟨rfl, by rw [k_setExtensionLimit, if_pos (by omega)]; exact x_limit hb h, fun b hb9 => z_u_ne (by omega)⟩, fun c1 => x_ok (by rw [o_setExtensionLimit, if_neg (by omega)]) ⟨rfl, by rw [k_setExtensionLimit, if_neg (by omega)]; exact h, x_fr.rf⟩⟩⟩
/-- nothing is charged outside a ride's day -/
theorem y_charged_out (hb : y_base q) {r s : Int} (hs : s < q (10 + 14 * r + 3) ∨ q (10 + 14 * r + 4) < s) : y_charged q r s = 0 := by
  have h5 := hb.1.2.2.2.2.2
  unfold y_charged
  have : ∀ n : Nat, (n : Int) ≤ q 5 → y_sum (y_ch q r s) n = 0 := by
    intro n
    induction n with
    | zero => intro _; rfl
    | succ n ih =>
      intro hn
      have k3 := (hb.2.2.2.2 n (by omega) (by omega)).2.2.1
      rw [y_sum, ih (by omega), y_ch, if_neg (fun z => by rw [z.1] at k3; omega)]; rfl
  exact this _ (by omega)
theorem e_changeShare (hb : y_base q) (h : x_day 36 q J) {r sh : Int} (hr : 0 ≤ r ∧ r < q 1) (hsh : 0 ≤ sh ∧ sh ≤ 100) : z_Sem l (d + 5) M_Desk_changeShare [.inr (.inr (.ref 125)), .inr (.inr (.ref 36)), .inl r, .inl sh] (m_Ex g T, J, X) 0 0 (z_rq (m_Ex g T) (fun v J' X' => X' = X ∧ x_day 36 (k_setShare q r sh) J' ∧ x_fr J J' ∧ v = (o_setShare q r sh).2)) := by
  have h1 := hb.1.2.1
  have h0 := hb.1.1
  have rd := h.ride hr.1 hr.2
  have hm := y_mul_b (hb.ride hr.1 hr.2).1 hsh
  refine z_sem_of z_m32 m_ok_32 (Nat.le_of_ble_eq_true rfl) (fun Wp hs hv hS => ?_)
  have loop : ∀ (f : Int → Int), (∀ s, 0 ≤ s → s < 144 → f s = y_free q r s) → ∀ (n k : Nat), q 0 + (k : Int) + n = 144 → y_any (y_over q r sh) k = false → Wp 32 [some (.inr (.inr (.ref 125))), some (.inr (.inr (.ref 36))), some (.inl r), some (.inl sh), some (.inl (q (10 + 14 * r + 0) * sh / 100)), some (.inl (q 0 + k))] [] (m_Ex g T, z_row J 126 f, X) 0 0 := by
    intro f hf n
    have x1 := h.row (a := 126) (by omega) h1.2 (f := f)
    induction n with
    | zero =>
      intro k hk ha
      have ha2 : y_any (y_over q r sh) (144 - q 0).toNat = false := by rw [show (144 - q 0).toNat = k by omega]; exact ha
      have bq := y_base_share (v := sh) hb hr hsh
      have xq := x_share (v := sh) hb x1 hr
      have e1 : z_up q (10 + 14 * r + 1) sh 1 = q 1 := z_up_ne (by omega)
      refine w_32_32 hs ?_
      refine ⟨fun c => ⟨by omega, z_cIq (e_serve bq xq ⟨hr.1, by rw [e1]; exact hr.2⟩) ?_⟩, fun c => by omega⟩
      rintro v J2 X2 ⟨rfl, x2, f2, rfl⟩
      refine ⟨_, _, _, rfl, rfl, rfl, ?_, fun b hb9 => by rw [f2 b hb9, z_u_ne (by omega), z_row_ne (by omega)], ?_⟩
      · rw [k_setShare, if_pos ⟨hr, hsh, ha2⟩]; exact x2
      · rw [o_setShare, y_need_2 hr, y_need_2 hsh, if_neg (by rw [ha2]; decide)]
    | succ n ih =>
      intro k hk ha
      have ef := hf (q 0 + k) (by omega) (by omega)
      have b1 := y_planned_b (s := q 0 + k) (hb.ride hr.1 hr.2)
      have b2 := y_charged_b hb (r := r) (s := q 0 + k)
      have ec : y_planned q r (q 0 + k) - f (q 0 + k) = y_charged q r (q 0 + k) := by rw [ef, y_free]; omega
      have eq9 : (q (10 + 14 * r + 0) * sh / 100 < y_charged q r (q 0 + k)) ↔ (y_pw q r sh (q 0 + k) < y_charged q r (q 0 + k)) := by
        unfold y_pw
        split
        · exact Iff.rfl
        · rename_i hn
          have := y_charged_out hb (r := r) (s := q 0 + k) (by omega)
          omega
      refine w_32_32 hs ?_
      refine ⟨fun c => by omega, fun c => z_cI (e_plannedIn hb x1 hr) ?_⟩
      rw [z_row_eq, ec]
      refine ⟨by omega, fun c1 => ⟨by omega, ?_⟩, fun c1 => ⟨_, _, _, rfl, rfl, rfl, ?_, fun b hb9 => z_row_ne (by omega), ?_⟩⟩
      · have := ih (k + 1) (by omega) (by rw [y_any, ha, y_over, decide_eq_false (fun z => absurd (eq9.mpr z) (Int.not_lt.mpr c1))]; rfl)
        rw [show q 0 + ((k + 1 : Nat) : Int) = q 0 + k + 1 by omega] at this
        exact this
      · have ha2 : y_any (y_over q r sh) (144 - q 0).toNat = true := y_any_iff.mpr ⟨k, by omega, by rw [y_over, decide_eq_true_eq]; exact eq9.mp c1⟩
        rw [k_setShare, if_neg (fun z => by rw [z.2.2] at ha2; cases ha2)]; exact x1
      · have ha2 : y_any (y_over q r sh) (144 - q 0).toNat = true := y_any_iff.mpr ⟨k, by omega, by rw [y_over, decide_eq_true_eq]; exact eq9.mp c1⟩
        rw [o_setShare, y_need_2 hr, y_need_2 hsh, if_pos ha2]
  refine w_32_0 hs ?_
  rw [rd.1]
  refine ⟨by omega, z_cVq (e_fillFreea hb h hr) ?_⟩
  rintro J2 X2 ⟨rfl, f, rfl, hf⟩
  have := loop f (fun s a1 a2 => by rw [hf s a1 a2, y_freeX_none]) (144 - q 0).toNat 0 (by omega) rfl
  rw [show q 0 + ((0 : Nat) : Int) = (z_row J 126 f) 36 0 by rw [show (z_row J 126 f) 36 0 = q 0 from h.hd.1]; omega] at this
  exact this
theorem q_setShare (hb : y_base q) (h : x_day 36 q J) {r sh : Int} : z_Sem l (d + 6) M_Q_setShare [.inr (.inr (.ref 0)), .inl r, .inl sh] (m_Ex g T, J, X) 4 24 (x_out x_e1 x_e2 (o_setShare q r sh) (m_Ex g T) (fun J' X' => X' = X ∧ x_day 36 (k_setShare q r sh) J' ∧ x_fr J J')) := by
  obtain ⟨b0, b1, b2, b3, b4, b5⟩ := hb.1
  obtain ⟨d0, d4, d1, d2, d3, d5⟩ := h.hd
  have t1 : ¬ (0 ≤ r ∧ r < q 1) → x_out x_e1 x_e2 (o_setShare q r sh) (m_Ex g T) (fun J' X' => X' = X ∧ x_day 36 (k_setShare q r sh) J' ∧ x_fr J J') (.inr x_e1) (m_Ex g T, J, X) := fun hn => x_t1 (by rw [o_setShare, y_need_n hn]) ⟨rfl, by rw [k_setShare, if_neg (fun z => hn z.1)]; exact h, x_fr.rf⟩
  have t2 : (0 ≤ r ∧ r < q 1) → ¬ (0 ≤ sh ∧ sh ≤ 100) → x_out x_e1 x_e2 (o_setShare q r sh) (m_Ex g T) (fun J' X' => X' = X ∧ x_day 36 (k_setShare q r sh) J' ∧ x_fr J J') (.inr x_e2) (m_Ex g T, J, X) := fun hp hn => x_t2 (by rw [o_setShare, y_need_2 hp, y_need_n hn]) ⟨rfl, by rw [k_setShare, if_neg (fun z => hn z.2.1)]; exact h, x_fr.rf⟩
  refine z_sem_of z_m167 m_ok_167 (Nat.le_of_ble_eq_true rfl) (fun Wp hs hv hS => ?_)
  refine w_167_0 hs ?_
  refine ⟨by omega, fun c => t1 (by omega), fun c => ⟨fun c1 => ⟨fun c2 => ⟨by omega, t2 (by omega) (by omega)⟩, fun c2 => ⟨fun c3 => ?_, fun c3 => ⟨by omega, t2 (by omega) (by omega)⟩⟩⟩, fun c1 => t1 (by omega)⟩⟩
  refine z_cIq (e_changeShare hb h ⟨c, by omega⟩ ⟨c2, c3⟩) ?_
  rintro v J2 X2 ⟨rfl, x2, f2, rfl⟩
  exact x_ok (by rw [o_setShare, y_need_2 (by omega), y_need_2 (by omega)]) ⟨rfl, x2, f2⟩
end Q7
