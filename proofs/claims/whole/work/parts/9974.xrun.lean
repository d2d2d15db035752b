/-! running a script, of the class -/
section Q29
variable {l : Launch} {d : Nat} {g : List (Option Nat)} {T : m_E} {J : z_J} {X : z_X} {q B : Int → Int} {c : Int}
theorem e_admit (hb : y_base q) (h : x_day 36 q J) {t : Int} (ht : 0 ≤ t ∧ t < q 5) : z_Sem l (d + 3) M_Day_admit [.inr (.inr (.ref 36)), .inl t] (m_Ex g T, J, X) 0 0 (z_rq (m_Ex g T) (fun v J' X' => X' = X ∧ x_day 36 (k_redeem q t) J' ∧ x_fr J J' ∧ v = (o_redeem q t).2)) := by
  obtain ⟨b0, b1, b2, b3, b4, b5⟩ := hb.1
  obtain ⟨d0, d4, d1, d2, d3, d5⟩ := h.hd
  have f := h.tk ht.1 ht.2
  have k2 := (hb.2.2.2.2 t ht.1 ht.2).2.1
  have rd := h.ride k2.1 k2.2
  have dn := (hb.ride k2.1 k2.2).2.2.2.2.1
  have no : ¬ (q (288 + 6 * t + 5) = 0 ∧ (q (288 + 6 * t + 2) ≤ q 0 ∧ q 0 ≤ q (288 + 6 * t + 3)) ∧ q (10 + 14 * q (288 + 6 * t + 1) + 5) ≠ 1) → z_rq (m_Ex g T) (fun v J' X' => X' = X ∧ x_day 36 (k_redeem q t) J' ∧ x_fr J J' ∧ v = (o_redeem q t).2) (.inl (some (.inl 0))) (m_Ex g T, J, X) := fun hn => by
    have ho : o_redeem q t = (0, 0) := by rw [o_redeem, y_need_2 ht, if_neg hn]
    exact ⟨_, _, _, rfl, rfl, rfl, by rw [k_redeem, ho, if_neg (by show ¬ (0 : Int) = 1; omega)]; exact h, x_fr.rf, by rw [ho]⟩
  refine z_sem_of z_m7 m_ok_7 (Nat.le_of_ble_eq_true rfl) (fun Wp hs hv hS => ?_)
  refine w_7_0 hs ?_
  rw [f.2.1, f.2.2.1, f.2.2.2.1, f.2.2.2.2.1, d0, rd.2.2.2.2.2.1]
  refine ⟨by omega, fun c => no (by omega), fun c => ⟨by omega, fun c1 => no (by omega), fun c1 => ⟨by omega, fun c2 => no (by omega), fun c2 => ⟨by omega, fun c3 => ?_, fun c3 => no (by omega)⟩⟩⟩⟩
  refine z_cVq (e_joinMerge hb h ht k2 (by omega)) ?_
  rintro J2 X2 ⟨rfl, x2, f2⟩
  have ho : o_redeem q t = (0, 1) := by rw [o_redeem, y_need_2 ht, if_pos (by omega)]
  exact ⟨_, _, _, rfl, rfl, rfl, by rw [k_redeem, ho, if_pos rfl]; exact x2, f2, by rw [ho]⟩
theorem x_exA {o : Int × Int} {q' : Int → Int} {J2 : z_J} {X2 : z_X} (h1 : o.1 = 0) (x2 : x_day 36 q' J2) (f2 : x_fr J J2) : (o.2 < 0 → z_rq (m_Ex g T) (fun v J' X' => X' = X2 ∧ x_day 36 q' J' ∧ x_fr J J' ∧ v = y_ok9 o) (.inl (some (.inl 0))) (m_Ex g T, J2, X2)) ∧ (0 ≤ o.2 → z_rq (m_Ex g T) (fun v J' X' => X' = X2 ∧ x_day 36 q' J' ∧ x_fr J J' ∧ v = y_ok9 o) (.inl (some (.inl 1))) (m_Ex g T, J2, X2)) := by
  refine ⟨fun v => ⟨_, _, _, rfl, rfl, rfl, x2, f2, ?_⟩, fun v => ⟨_, _, _, rfl, rfl, rfl, x2, f2, ?_⟩⟩ <;> unfold y_ok9
  · rw [if_neg (by omega)]
  · rw [if_pos (by omega)]
theorem x_exB {o : Int × Int} {q' : Int → Int} {J2 : z_J} {X2 : z_X} (h1 : o.1 = 0) (hv : o.2 = 0 ∨ o.2 = 1) (x2 : x_day 36 q' J2) (f2 : x_fr J J2) : (o.2 = 0 → z_rq (m_Ex g T) (fun v J' X' => X' = X2 ∧ x_day 36 q' J' ∧ x_fr J J' ∧ v = y_o19 o) (.inl (some (.inl 0))) (m_Ex g T, J2, X2)) ∧ (o.2 ≠ 0 → z_rq (m_Ex g T) (fun v J' X' => X' = X2 ∧ x_day 36 q' J' ∧ x_fr J J' ∧ v = y_o19 o) (.inl (some (.inl 1))) (m_Ex g T, J2, X2)) := by
  refine ⟨fun v => ⟨_, _, _, rfl, rfl, rfl, x2, f2, ?_⟩, fun v => ⟨_, _, _, rfl, rfl, rfl, x2, f2, ?_⟩⟩ <;> unfold y_o19
  · rw [if_neg (by omega)]
  · rw [if_pos (by omega)]
theorem e_succeeds {e : Int} (hb : y_base q) (h : x_day 36 q J) (hSc : x_S B c J) (hB : y_Sb B c) (hec : 0 ≤ e ∧ e < c) : z_Sem l (d + 6) M_Q_succeeds [.inr (.inr (.ref 0)), .inl e] (m_Ex g T, J, X) 0 0 (z_rq (m_Ex g T) (fun v J' X' => X' = X ∧ x_day 36 (y_do q B e).2 J' ∧ x_fr J J' ∧ v = (y_do q B e).1)) := by
  obtain ⟨b0, b1, b2, b3, b4, b5⟩ := hb.1
  obtain ⟨d0, d4, d1, d2, d3, d5⟩ := h.hd
  obtain ⟨s0, s1, s2, s3, s4⟩ := hSc e hec.1 hec.2
  obtain ⟨z0, z1, z2, z3, z4⟩ := hB.2 e hec.1 hec.2
  have hc := hB.1
  have bad : ∀ (o : Int × Int) (k : Int → Int), y_do q B e = (y_ok9 o, k) → o.1 ≠ 0 → k = q → z_rq (m_Ex g T) (fun v J' X' => X' = X ∧ x_day 36 (y_do q B e).2 J' ∧ x_fr J J' ∧ v = (y_do q B e).1) (.inl (some (.inl 0))) (m_Ex g T, J, X) := fun o k h1 h2 h3 => by
    rw [h1, h3]
    exact ⟨_, _, _, rfl, rfl, rfl, h, x_fr.rf, by show 0 = y_ok9 o; unfold y_ok9; rw [if_neg (fun z => h2 z.1)]⟩
  have bad1 : ∀ (o : Int × Int) (k : Int → Int), y_do q B e = (y_o19 o, k) → o.1 ≠ 0 → k = q → z_rq (m_Ex g T) (fun v J' X' => X' = X ∧ x_day 36 (y_do q B e).2 J' ∧ x_fr J J' ∧ v = (y_do q B e).1) (.inl (some (.inl 0))) (m_Ex g T, J, X) := fun o k h1 h2 h3 => by
    rw [h1, h3]
    exact ⟨_, _, _, rfl, rfl, rfl, h, x_fr.rf, by show 0 = y_o19 o; unfold y_o19; rw [if_neg (fun z => h2 z.1)]⟩
  refine z_sem_of z_m183 m_ok_183 (Nat.le_of_ble_eq_true rfl) (fun Wp hs hv hS => ?_)
  refine w_183_0 hs ?_
  rw [s1, s2, d3, d1, d5]
  generalize ef : B (5 * e + 2) = f at *
  refine ⟨by omega, fun a => ?_, fun a => ?_, fun a => ?_, fun a => ?_, fun a => ?_, fun a => ?_, fun a => ?_⟩
  · rw [s3 (by rw [a]; decide), s4 (by rw [a]; decide)]
    have er : y_do q B e = (y_ok9 (o_issue q f (B (5 * e + 3)) (B (5 * e + 4))), k_issue q f (B (5 * e + 3)) (B (5 * e + 4))) := by unfold y_do; rw [if_pos a, ef]
    have no : ¬ ((0 ≤ f ∧ f < q 3) ∧ (0 ≤ B (5 * e + 3) ∧ B (5 * e + 3) < q 1)) → _ := fun hn => bad _ _ er (by rw [o_issue, y_need_n hn]; decide) (by rw [k_issue, if_neg (by rw [o_issue, y_need_n hn]; intro z; exact absurd z.1 (by decide))])
    refine ⟨fun c1 => no (by omega), fun c1 => ⟨fun c2 => no (by omega), fun c2 => ⟨fun c3 => no (by omega), fun c3 => ⟨fun c4 => no (by omega), fun c4 => ⟨by omega, ?_⟩⟩⟩⟩⟩
    have t4 := z3 a
    refine z_cIq (e_issueTo hb h ⟨c1, by omega⟩ ⟨c3, by omega⟩ t4.1) ?_
    rintro v J2 X2 ⟨rfl, x2, f2, rfl⟩
    have ho : o_issue q f (B (5 * e + 3)) (B (5 * e + 4)) = (0, y_try q f (B (5 * e + 3)) (B (5 * e + 4))) := by rw [o_issue, y_need_2 (by omega), y_need_2 t4]
    have hk : k_issue q f (B (5 * e + 3)) (B (5 * e + 4)) = (if y_try q f (B (5 * e + 3)) (B (5 * e + 4)) < 0 then q else k_leave (k_try q f (B (5 * e + 3)) (B (5 * e + 4))) f (B (5 * e + 3))) := by
      rw [k_issue, ho]
      by_cases z : y_try q f (B (5 * e + 3)) (B (5 * e + 4)) < 0
      · rw [if_pos z, if_neg (fun w => by have := w.2; exact absurd z (by omega))]
      · rw [if_neg z, if_pos ⟨rfl, by show 0 ≤ y_try q f (B (5 * e + 3)) (B (5 * e + 4)); omega⟩]
    rw [er, hk, ho]
    exact x_exA (o := (0, y_try q f (B (5 * e + 3)) (B (5 * e + 4)))) rfl x2 f2
  · have er : y_do q B e = (y_o19 (o_redeem q f), k_redeem q f) := by unfold y_do; rw [if_neg (by omega), if_pos a, ef]
    have no : ¬ (0 ≤ f ∧ f < q 5) → _ := fun hn => bad1 _ _ er (by rw [o_redeem, y_need_n hn]; decide) (by rw [k_redeem, if_neg (by rw [o_redeem, y_need_n hn]; decide)])
    refine ⟨fun c1 => no (by omega), fun c1 => ⟨fun c2 => no (by omega), fun c2 => ?_⟩⟩
    refine z_cIq (e_admit hb h ⟨c1, by omega⟩) ?_
    rintro v J2 X2 ⟨rfl, x2, f2, rfl⟩
    rw [er]
    exact x_exB (by rw [o_redeem, y_need_2 (by omega)]) o_redeem_b x2 f2
  · have er : y_do q B e = (y_ok9 (o_cancel q f), k_cancel q f) := by unfold y_do; rw [if_neg (by omega), if_neg (by omega), if_pos a, ef]
    have no : ¬ (0 ≤ f ∧ f < q 5) → _ := fun hn => bad _ _ er (by rw [o_cancel, y_need_n hn]; decide) (by rw [k_cancel, if_neg (fun z => hn z.1)])
    refine ⟨fun c1 => no (by omega), fun c1 => ⟨fun c2 => no (by omega), fun c2 => ?_⟩⟩
    refine z_cIq (e_giveBack hb h ⟨c1, by omega⟩) ?_
    rintro v J2 X2 ⟨rfl, x2, f2, rfl⟩
    rw [er]
    exact x_exA (by rw [o_cancel, y_need_2 (by omega)]) x2 f2
  · rw [s3 (by rw [a]; decide)]
    have er : y_do q B e = (y_ok9 (o_joinWaitlist q f (B (5 * e + 3))), k_joinWaitlist q f (B (5 * e + 3))) := by unfold y_do; rw [if_neg (by omega), if_neg (by omega), if_neg (by omega), if_pos a, ef]
    have no : ¬ ((0 ≤ f ∧ f < q 3) ∧ (0 ≤ B (5 * e + 3) ∧ B (5 * e + 3) < q 1)) → _ := fun hn => bad _ _ er (by rw [o_joinWaitlist, y_need_n hn]; decide) (by rw [k_joinWaitlist, if_neg (by rw [o_joinWaitlist, y_need_n hn]; intro z; exact absurd z.1 (by decide))])
    refine ⟨fun c1 => no (by omega), fun c1 => ⟨fun c2 => no (by omega), fun c2 => ⟨fun c3 => no (by omega), fun c3 => ⟨fun c4 => no (by omega), fun c4 => ?_⟩⟩⟩⟩
    refine z_cIq (e_putOnWaitlist hb h ⟨c1, by omega⟩ ⟨c3, by omega⟩) ?_
    rintro v J2 X2 ⟨rfl, x2, f2, rfl⟩
    rw [er]
    exact x_exA (by rw [o_joinWaitlist, y_need_2 (by omega)]) x2 f2
  · rw [s3 (by rw [a]; decide)]
    have er : y_do q B e = (y_ok9 (o_joinStandby q f (B (5 * e + 3))), k_joinStandby q f (B (5 * e + 3))) := by unfold y_do; rw [if_neg (by omega), if_neg (by omega), if_neg (by omega), if_neg (by omega), if_pos a, ef]
    have no : ¬ (0 ≤ f ∧ f < q 1) → _ := fun hn => bad _ _ er (by rw [o_joinStandby, y_need_n hn]; decide) (by rw [k_joinStandby, if_neg (fun z => hn z.1)])
    refine ⟨fun c1 => no (by omega), fun c1 => ⟨fun c2 => no (by omega), fun c2 => ?_⟩⟩
    refine z_cIq (e_putOnStandby hb h ⟨c1, by omega⟩ (z4 a)) ?_
    rintro v J2 X2 ⟨rfl, x2, f2, rfl⟩
    rw [er]
    exact x_exA (by rw [o_joinStandby, y_need_2 (by omega), y_need_2 (z4 a)]) x2 f2
  · have er : y_do q B e = (y_o19 (o_breakDown q f), k_breakDown q f) := by unfold y_do; rw [if_neg (by omega), if_neg (by omega), if_neg (by omega), if_neg (by omega), if_neg (by omega), if_pos a, ef]
    have no : ¬ (0 ≤ f ∧ f < q 1) → _ := fun hn => bad1 _ _ er (by rw [o_breakDown, y_need_n hn]; decide) (by rw [k_breakDown, if_neg (fun z => hn z.1)])
    refine ⟨fun c1 => no (by omega), fun c1 => ⟨fun c2 => no (by omega), fun c2 => ?_⟩⟩
    refine z_cIq (e_takeDown hb h ⟨c1, by omega⟩) ?_
    rintro v J2 X2 ⟨rfl, x2, f2, rfl⟩
    rw [er]
    exact x_exB (by rw [o_breakDown, y_need_2 (by omega)]) o_breakDown_b x2 f2
  · have er : y_do q B e = (y_ok9 (o_repair q f), k_repair q f) := by unfold y_do; rw [if_neg (by omega), if_neg (by omega), if_neg (by omega), if_neg (by omega), if_neg (by omega), if_neg (by omega), ef]
    have no : ¬ (0 ≤ f ∧ f < q 1) → _ := fun hn => bad _ _ er (by rw [o_repair, y_need_n hn]; decide) (by rw [k_repair, if_neg (fun z => hn z.1)])
    refine ⟨fun c1 => no (by omega), fun c1 => ⟨fun c2 => no (by omega), fun c2 => ?_⟩⟩
    refine z_cIq (e_putBack hb h ⟨c1, by omega⟩) ?_
    rintro v J2 X2 ⟨rfl, x2, f2, rfl⟩
    rw [er]
    exact x_exA (by rw [o_repair, y_need_2 (by omega)]) x2 f2
/-- what running a script leaves of the class outside the day -/
def x_fn (J J' : z_J) : Prop := ∀ b j, (b < 36 ∨ 144 < b) → ¬ (b = 30 ∧ j = 6) → J' b j = J b j
theorem x_fn.rf {J : z_J} : x_fn J J := fun _ _ _ _ => rfl
theorem x_fn.tr {J J1 J2 : z_J} (h1 : x_fn J J1) (h2 : x_fn J1 J2) : x_fn J J2 := fun b j a k => (h2 b j a k).trans (h1 b j a k)
theorem x_fr.fn {J J1 : z_J} (h : x_fr J J1) : x_fn J J1 := fun b j a _ => by rw [h b a]
theorem x_fn.u {J J1 : z_J} {v : Int} (h : x_fn J J1) : x_fn J (z_u J1 30 6 v) := fun b j a k => by rw [z_u_nb (by omega)]; exact h b j a k
theorem x_fn.S {J J1 : z_J} (h : x_fn J J1) (hSc : x_S B c J) : x_S B c J1 := fun e a1 a2 => by
  rw [h 31 e (by omega) (by omega), h 32 e (by omega) (by omega), h 33 e (by omega) (by omega), h 34 e (by omega) (by omega), h 35 e (by omega) (by omega)]
  exact hSc e a1 a2
theorem x_day_congr36 {f : Int → Int} {J : z_J} {v : Int} (hb : y_base f) (h : x_day 36 f J) : x_day 36 f (z_u J 30 6 v) := x_day_mv (y_cb_b hb) (fun _ _ _ => rfl) (fun k hk => by rw [z_u_ne (by omega)]) h
theorem y_due_skip {m : Nat} {q : Int → Int} {e s : Int} (he : e < c) (h : B (5 * e) < q 0) : y_due B c (m + 1) q e s = y_due B c m q (e + 1) s := by
  rw [y_due, if_neg (by omega), if_neg (by omega), if_pos (by omega)]
theorem y_due_end {m : Nat} {q : Int → Int} {e s : Int} (h : c ≤ e ∨ q 0 < B (5 * e)) : y_due B c m q e s = (q, e, s) := by
  cases m with
  | zero => rfl
  | succ m =>
    rw [y_due]
    by_cases z : c ≤ e
    · rw [if_pos z]
    · rw [if_neg z, if_pos (by omega)]
theorem e_dropBefore {e w : Int} (hSc : x_S B c J) (hB : y_Sb B c) (h5 : J 30 5 = c) (h6 : J 30 6 = e) (hec : 0 ≤ e ∧ e ≤ c) (q : Int → Int) (hw : q 0 = w) : z_Sem l (d + 1) M_Script_dropBefore [.inr (.inr (.ref 30)), .inl w] (m_Ex g T, J, X) 0 0 (z_vq (m_Ex g T) (fun J' X' => X' = X ∧ ∃ e', J' = z_u J 30 6 e' ∧ (e ≤ e' ∧ e' ≤ c) ∧ y_due B c (c - e).toNat q e 0 = y_due B c (c - e').toNat q e' 0 ∧ (e' < c → w ≤ B (5 * e')))) := by
  have hc := hB.1
  refine z_sem_of z_m93 m_ok_93 (Nat.le_of_ble_eq_true rfl) (fun Wp hs hv hS => ?_)
  have loop : ∀ (m : Nat) (e' : Int), e' + m = c → e ≤ e' → y_due B c (c - e).toNat q e 0 = y_due B c (c - e').toNat q e' 0 → Wp 0 [some (.inr (.inr (.ref 30))), some (.inl w)] [] (m_Ex g T, z_u J 30 6 e', X) 0 0 := by
    intro m
    induction m with
    | zero =>
      intro e' hm h0 heq
      refine w_93_0 hs ?_
      rw [z_u_at rfl, z_u_off (show (5 : Int) ≠ 6 by decide), h5]
      exact ⟨fun _ => ⟨_, _, rfl, rfl, rfl, e', rfl, by omega, heq, fun z => by omega⟩, fun z => by omega⟩
    | succ m ih =>
      intro e' hm h0 heq
      refine w_93_0 hs ?_
      rw [z_u_at rfl, z_u_off (show (5 : Int) ≠ 6 by decide), z_u_ne (show 31 ≠ 30 by decide), h5, (hSc e' (by omega) (by omega)).1]
      refine ⟨fun z => by omega, fun _ => ⟨by omega, fun z => ⟨_, _, rfl, rfl, rfl, e', rfl, by omega, heq, fun _ => z⟩, fun z => ⟨by omega, ?_⟩⟩⟩
      rw [z_u_u]
      refine ih (e' + 1) (by omega) (by omega) ?_
      rw [heq, show (c - e').toNat = (c - (e' + 1)).toNat + 1 by omega, y_due_skip (by omega) (by omega)]
  have := loop (c - e).toNat e (by omega) (by omega) rfl
  rw [← h6, z_u_self] at this
  exact this
theorem q_runScript {e n : Int} (hb : y_base q) (h : x_day 36 q J) (hSc : x_S B c J) (hB : y_Sb B c) (h5 : J 30 5 = c) (h6 : J 30 6 = e) (hec : 0 ≤ e ∧ e ≤ c) : z_Sem l (d + 7) M_Q_runScript [.inr (.inr (.ref 0)), .inl n] (m_Ex g T, J, X) 4 24 (x_out x_e2 x_e2 (o_runScript q B c e n) (m_Ex g T) (fun J' X' => X' = X ∧ x_day 36 (k_runScript q B c e n).1 J' ∧ x_fn J J' ∧ J' 30 6 = (k_runScript q B c e n).2)) := by
  obtain ⟨b0, b1, b2, b3, b4, b5⟩ := hb.1
  obtain ⟨d0, d4, d1, d2, d3, d5⟩ := h.hd
  have hc := hB.1
  have srt : ∀ (k : Nat) (e1 : Int), 0 ≤ e1 → e1 + k < c → B (5 * e1) ≤ B (5 * (e1 + k)) := by
    intro k
    induction k with
    | zero => intro e1 a1 a2; rw [show e1 + ((0 : Nat) : Int) = e1 by omega]; exact Int.le_refl _
    | succ k ih =>
      intro e1 a1 a2
      have := ih e1 a1 (by omega)
      have s := (hB.2 (e1 + ((k + 1 : Nat) : Int)) (by omega) a2).2.1 (by omega)
      rw [show e1 + ((k + 1 : Nat) : Int) - 1 = e1 + k by omega] at s
      omega
  have t1 : ¬ ((1 ≤ n ∧ n ≤ 144) ∧ q 0 + n ≤ 144) → x_out x_e2 x_e2 (o_runScript q B c e n) (m_Ex g T) (fun J' X' => X' = X ∧ x_day 36 (k_runScript q B c e n).1 J' ∧ x_fn J J' ∧ J' 30 6 = (k_runScript q B c e n).2) (.inr x_e2) (m_Ex g T, J, X) := fun hn => x_t1 (by rw [o_runScript, y_need_n hn]) ⟨rfl, by rw [k_runScript, if_neg hn]; exact h, x_fn.rf, by rw [k_runScript, if_neg hn]; exact h6⟩
  refine z_sem_of z_m182 m_ok_182 (Nat.le_of_ble_eq_true rfl) (fun Wp hs hv hS => ?_)
  have loop : ((1 ≤ n ∧ n ≤ 144) ∧ q 0 + n ≤ 144) → ∀ (m k : Nat) (f : Int → Int) (e' s : Int) (J1 : z_J), (k : Int) + m = n → y_base f → f 0 = q 0 + k → (0 ≤ e' ∧ e' ≤ c) → (0 ≤ s ∧ s ≤ 40 * k) → x_day 36 f J1 → x_fn J J1 → J1 30 6 = e' → y_dues B c m f e' s = y_dues B c n.toNat q e 0 → Wp 9 [some (.inr (.inr (.ref 0))), some (.inl n), some (.inl s), some (.inl k), none] [] (m_Ex g T, J1, X) 3 18 := by
    intro hn m
    induction m with
    | zero =>
      intro k f e' s J1 hk hb2 h0 hec2 hs0 x1 f1 h6' heq
      refine w_182_9 hs ?_
      refine ⟨fun c => ?_, fun c => by omega⟩
      refine x_ok (by rw [o_runScript, y_need_2 hn, ← heq]; rfl) ⟨rfl, ?_, f1, ?_⟩
      · rw [k_runScript, if_pos hn, ← heq]; exact x1
      · rw [k_runScript, if_pos hn, ← heq]; exact h6'
    | succ m ih =>
      intro k f e' s J1 hk hb2 h0 hec2 hs0 x1 f1 h6' heq
      rw [y_dues] at heq
      have sk := y_due_kp (B := B) (c := c) (c - e').toNat f e' 0 hb2
      -- behind the due entries
      have past : ∀ (f3 : Int → Int) (e3 s3 : Int) (J3 : z_J), y_base f3 → (0 ≤ e3 ∧ e3 ≤ c) → (s ≤ s3 ∧ s3 ≤ s + 40) → f3 0 = f 0 → x_day 36 f3 J3 → x_fn J J3 → J3 30 6 = e3 → y_due B c (c - e').toNat f e' 0 = (f3, e3, s3 - s) → z_CallV l (d + 6) M_Day_pass [.inr (.inr (.ref 36))] (m_Ex g T) J3 X 3 18 (fun J2 X3 c4 s5 => (-2147483648 ≤ ((k : Int) + 1) ∧ ((k : Int) + 1) ≤ 2147483647) ∧ (Wp 9 [some (.inr (.inr (.ref 0))), some (.inl n), some (.inl s3), some (.inl ((k : Int) + 1)), none] [] (m_Ex g T, J2, X3) c4 s5)) (fun x J2 X3 c4 s5 => x_out x_e2 x_e2 (o_runScript q B c e n) (m_Ex g T) (fun J' X' => X' = X ∧ x_day 36 (k_runScript q B c e n).1 J' ∧ x_fn J J' ∧ J' 30 6 = (k_runScript q B c e n).2) (.inr x) (m_Ex g T, J2, X3)) := by
        intro f3 e3 s3 J3 b3 he3 hs3 f30 x3 fn3 h63 hd
        obtain ⟨i1, i2, i3⟩ := y_base_pass b3 (by omega)
        refine z_cVq (e_pass b3 (by omega) x3) ?_
        rintro J4 X4 ⟨rfl, x4, f4⟩
        rw [hd] at heq
        refine ⟨by omega, ih (k + 1) (k_pass f3) e3 s3 J4 (by omega) i1 (by omega) he3 (by omega) x4 (fn3.tr f4.fn) (by rw [f4 30 (by omega)]; exact h63) ?_⟩
        rw [← heq, show s + (s3 - s) = s3 by omega]
      have inner : ∀ (w j : Nat) (f3 : Int → Int) (e3 s3 : Int) (J3 : z_J), (e3 : Int) + w = c → (j : Int) ≤ e3 → (s ≤ s3 ∧ s3 ≤ s + j) → y_base f3 → f3 0 = f 0 → (e3 < c → f 0 ≤ B (5 * e3)) → x_day 36 f3 J3 → x_fn J J3 → J3 30 6 = e3 → y_due B c (c - e').toNat f e' 0 = y_due B c w f3 e3 (s3 - s) → Wp 31 [some (.inr (.inr (.ref 0))), some (.inl n), some (.inl s3), some (.inl k), some (.inl j)] [] (m_Ex g T, J3, X) 3 18 := by
        intro w
        induction w with
        | zero =>
          intro j f3 e3 s3 J3 hw hj hs3 b3 f30 hge x3 fn3 h63 hd
          have go := past f3 e3 s3 J3 b3 (by omega) (by omega) f30 x3 fn3 h63 hd
          have h53 : J3 30 5 = c := by rw [fn3 30 5 (by omega) (by omega)]; exact h5
          refine w_182_31 hs ?_
          rw [h53, h63]
          exact ⟨fun _ => go, fun _ => ⟨fun _ => go, fun z => by omega⟩⟩
        | succ w ih2 =>
          intro j f3 e3 s3 J3 hw hj hs3 b3 f30 hge x3 fn3 h63 hd
          have h53 : J3 30 5 = c := by rw [fn3 30 5 (by omega) (by omega)]; exact h5
          have S3 := fn3.S hSc
          refine w_182_31 hs ?_
          rw [h53, h63, (S3 e3 (by omega) (by omega)).1, x3.hd.1]
          refine ⟨fun z => by omega, fun _ => ⟨fun z => by omega, fun _ => ⟨by omega, fun z => ?_, fun z => ⟨by omega, ?_⟩⟩⟩⟩
          · have hlt : f3 0 < B (5 * e3) := by have := hge (by omega); omega
            exact past f3 e3 s3 J3 b3 (by omega) (by omega) f30 x3 fn3 h63 (by rw [hd, y_due_end (Or.inr hlt)])
          · have kp := y_do_kp (B := B) (e := e3) b3
            have x3' : x_day 36 f3 (z_u J3 30 6 (e3 + 1)) := x_day_congr36 b3 x3
            refine z_cIq (e_succeeds (J := z_u J3 30 6 (e3 + 1)) (e := e3 + 1 - 1) b3 x3' (fn3.u.S hSc) hB (by omega)) ?_
            rw [show e3 + 1 - 1 = e3 by omega]
            rintro v J4 X4 ⟨rfl, x4, f4, rfl⟩
            rw [y_due, if_neg (by omega), if_neg (by omega), if_neg (by omega)] at hd
            have fn4 := fn3.u.tr f4.fn
            have nx := ih2 (j + 1) (y_do f3 B e3).2 (e3 + 1) (s3 + (y_do f3 B e3).1) J4 (by omega) (by omega) (by omega) kp.1.1 (by rw [kp.1.2]; exact f30) (fun z2 => by have := srt 1 e3 (by omega) (by omega); rw [show e3 + ((1 : Nat) : Int) = e3 + 1 by omega] at this; omega) x4 fn4 (by rw [f4 30 (by omega), z_u_at rfl]) (by rw [hd, show s3 - s + (y_do f3 B e3).1 = s3 + (y_do f3 B e3).1 - s by omega])
            refine ⟨fun z => ⟨by omega, ?_⟩, fun z => ⟨by omega, ?_⟩⟩
            · rw [z] at nx; exact nx
            · rw [show (y_do f3 B e3).1 = 1 by omega] at nx; exact nx
      refine w_182_9 hs ?_
      refine ⟨fun c => by omega, fun _ => ?_⟩
      rw [x1.hd.1]
      refine z_cVq (e_dropBefore (f1.S hSc) hB (by rw [f1 30 5 (by omega) (by omega)]; exact h5) h6' hec2 f rfl) ?_
      rintro J2 X2 ⟨rfl, e2, rfl, he2, hd, hge⟩
      exact inner (c - e2).toNat 0 f e2 s _ (by omega) (by omega) (by omega) hb2 rfl hge (x_day_congr36 hb2 x1) f1.u (z_u_at rfl) (by rw [hd, show s - s = 0 by omega])
  refine w_182_0 hs ?_
  rw [d0]
  refine ⟨by omega, fun c => t1 (by omega), fun c => ⟨fun c1 => t1 (by omega), fun c1 => ⟨by omega, fun c2 => ?_, fun c2 => t1 (by omega)⟩⟩⟩
  exact loop (by omega) n.toNat 0 q e 0 J (by omega) hb (by omega) hec (by omega) h x_fn.rf h6 rfl
end Q29
