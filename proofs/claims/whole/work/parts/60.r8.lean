/-! the reference: cancel, repair, break down, shares, limits, moving and exchanging -/
theorem y_need_2 {p : Prop} [Decidable p] {e : Int} {x : Int × Int} (h : p) : y_need p e x = x := if_pos h
theorem y_need_n {p : Prop} [Decidable p] {e : Int} {x : Int × Int} (h : ¬ p) : y_need p e x = (e, 0) := if_neg h
def o_cancel (q : Int → Int) (t : Int) : Int × Int := y_need (0 ≤ t ∧ t < q 5) 1 (0, if q (288 + 6 * t + 5) = 0 then y_served (z_up q (288 + 6 * t + 5) 3) (q (288 + 6 * t + 1)) else -1)
def k_cancel (q : Int → Int) (t : Int) : Int → Int := if (0 ≤ t ∧ t < q 5) ∧ q (288 + 6 * t + 5) = 0 then k_serve (z_up q (288 + 6 * t + 5) 3) (q (288 + 6 * t + 1)) else q
def o_repair (q : Int → Int) (r : Int) : Int × Int := y_need (0 ≤ r ∧ r < q 1) 1 (0, if q (10 + 14 * r + 5) = 0 then -1 else y_served (z_up q (10 + 14 * r + 5) 0) r)
def k_repair (q : Int → Int) (r : Int) : Int → Int := if (0 ≤ r ∧ r < q 1) ∧ q (10 + 14 * r + 5) ≠ 0 then k_serve (z_up q (10 + 14 * r + 5) 0) r else q
def o_breakDown (q : Int → Int) (r : Int) : Int × Int := y_need (0 ≤ r ∧ r < q 1) 1 (0, if q (10 + 14 * r + 5) = 1 then 0 else 1)
def k_breakDown (q : Int → Int) (r : Int) : Int → Int := if (0 ≤ r ∧ r < q 1) ∧ q (10 + 14 * r + 5) ≠ 1 then z_up q (10 + 14 * r + 5) 1 else q
def o_setExtensionLimit (q : Int → Int) (x : Int) : Int × Int := (0, if 0 ≤ x ∧ x ≤ 48 then 1 else 0)
def k_setExtensionLimit (q : Int → Int) (x : Int) : Int → Int := if 0 ≤ x ∧ x ≤ 48 then z_up q 4 x else q
/-- a slot from n on that is charged more than would be planned -/
def y_over (q : Int → Int) (r sh : Int) : Int → Bool := fun k => decide (y_pw q r sh (q 0 + k) < y_charged q r (q 0 + k))
def o_setShare (q : Int → Int) (r sh : Int) : Int × Int := y_need (0 ≤ r ∧ r < q 1) 1 (y_need (0 ≤ sh ∧ sh ≤ 100) 2 (0, if y_any (y_over q r sh) (144 - q 0).toNat = true then -2 else y_served (z_up q (10 + 14 * r + 1) sh) r))
def k_setShare (q : Int → Int) (r sh : Int) : Int → Int := if (0 ≤ r ∧ r < q 1) ∧ (0 ≤ sh ∧ sh ≤ 100) ∧ y_any (y_over q r sh) (144 - q 0).toNat = false then k_serve (z_up q (10 + 14 * r + 1) sh) r else q
section R8
variable {l : Launch} {d : Nat} {g : List (Option Nat)} {T : m_E} {J : z_J} {X : z_X}
theorem p_cancel (hb : y_base (J 149)) {t : Int} : z_Sem l (d + 9) M_R_cancel [.inr (.inr (.ref 148)), .inl t] (m_Ex g T, J, X) 0 0 (z_rq (m_Ex g T) (fun v J' X' => X' = X ∧ y_tp J (k_cancel (J 149) t) (o_cancel (J 149) t).1 J' ∧ v = (o_cancel (J 149) t).2)) := by
  obtain ⟨h0, h1, h2, h3, h4, h5⟩ := hb.1
  have bad : ¬ (0 ≤ t ∧ t < J 149 5) → z_rq (m_Ex g T) (fun v J' X' => X' = X ∧ y_tp J (k_cancel (J 149) t) (o_cancel (J 149) t).1 J' ∧ v = (o_cancel (J 149) t).2) (.inl (some (.inl 0))) (m_Ex g T, z_u (z_u J 148 2 0) 148 2 1, X) := by
    intro hn
    rw [o_cancel, y_need_n hn, k_cancel, if_neg (fun z => hn z.1)]
    exact ⟨_, _, _, rfl, rfl, rfl, y_tp.th, rfl⟩
  refine z_sem_of z_m262 m_ok_262 (Nat.le_of_ble_eq_true rfl) (fun Wp hs hv hS => ?_)
  refine w_262_0 hs ?_
  refine ⟨by omega, fun c => bad (by omega), fun c => ⟨fun c1 => bad (by omega), fun c1 => ⟨by omega, fun c2 => ⟨by omega, ?_⟩, fun c2 => ?_⟩⟩⟩
  · have k2 := (hb.2.2.2.2 t c (by omega)).2.1
    have bq := y_base_state (v := 3) hb ⟨c, by omega⟩ (by omega) (by omega) (by omega)
    rw [z_up_ne (by omega)]
    have e1 : z_up (J 149) (288 + 6 * t + 5) 3 1 = J 149 1 := z_up_ne (by omega)
    refine z_cIq (c_serve (J := z_u (z_u J 148 2 0) 149 (288 + 6 * t + 5) 3) bq ⟨k2.1, by show _ < z_up (J 149) (288 + 6 * t + 5) 3 1; rw [e1]; exact k2.2⟩) ?_
    rintro v J' X' ⟨rfl, t1, rfl⟩
    rw [o_cancel, y_need_2 ⟨c, by omega⟩, if_pos c2, k_cancel, if_pos ⟨⟨c, by omega⟩, c2⟩]
    exact ⟨_, _, _, rfl, rfl, rfl, (y_to.u.tr t1).tp, rfl⟩
  · rw [o_cancel, y_need_2 ⟨c, by omega⟩, if_neg c2, k_cancel, if_neg (fun z => c2 z.2)]
    exact ⟨_, _, _, rfl, rfl, rfl, y_tp.th0, rfl⟩
theorem p_repair (hb : y_base (J 149)) {r : Int} : z_Sem l (d + 9) M_R_repair [.inr (.inr (.ref 148)), .inl r] (m_Ex g T, J, X) 0 0 (z_rq (m_Ex g T) (fun v J' X' => X' = X ∧ y_tp J (k_repair (J 149) r) (o_repair (J 149) r).1 J' ∧ v = (o_repair (J 149) r).2)) := by
  obtain ⟨h0, h1, h2, h3, h4, h5⟩ := hb.1
  have bad : ¬ (0 ≤ r ∧ r < J 149 1) → z_rq (m_Ex g T) (fun v J' X' => X' = X ∧ y_tp J (k_repair (J 149) r) (o_repair (J 149) r).1 J' ∧ v = (o_repair (J 149) r).2) (.inl (some (.inl 0))) (m_Ex g T, z_u (z_u J 148 2 0) 148 2 1, X) := by
    intro hn
    rw [o_repair, y_need_n hn, k_repair, if_neg (fun z => hn z.1)]
    exact ⟨_, _, _, rfl, rfl, rfl, y_tp.th, rfl⟩
  refine z_sem_of z_m295 m_ok_295 (Nat.le_of_ble_eq_true rfl) (fun Wp hs hv hS => ?_)
  refine w_295_0 hs ?_
  refine ⟨by omega, fun c => bad (by omega), fun c => ⟨fun c1 => bad (by omega), fun c1 => ⟨by omega, fun c2 => ⟨by omega, ?_⟩, fun c2 => ?_⟩⟩⟩
  · have hr : 0 ≤ r ∧ r < J 149 1 := ⟨c, by omega⟩
    have bq := y_base_down (v := 0) hb hr (Or.inl rfl)
    have e1 : z_up (J 149) (10 + 14 * r + 5) 0 1 = J 149 1 := z_up_ne (by omega)
    refine z_cIq (c_serve (J := z_u (z_u J 148 2 0) 149 (10 + 14 * r + 5) 0) bq ⟨c, by show _ < z_up (J 149) (10 + 14 * r + 5) 0 1; rw [e1]; exact hr.2⟩) ?_
    rintro v J' X' ⟨rfl, t1, rfl⟩
    rw [o_repair, y_need_2 hr, if_neg c2, k_repair, if_pos ⟨hr, c2⟩]
    exact ⟨_, _, _, rfl, rfl, rfl, (y_to.u.tr t1).tp, rfl⟩
  · rw [o_repair, y_need_2 ⟨c, by omega⟩, if_pos c2, k_repair, if_neg (fun z => z.2 c2)]
    exact ⟨_, _, _, rfl, rfl, rfl, y_tp.th0, rfl⟩
theorem p_breakDown (hb : y_base (J 149)) {r : Int} : z_Sem l (d + 3) M_R_breakDown [.inr (.inr (.ref 148)), .inl r] (m_Ex g T, J, X) 0 0 (z_rq (m_Ex g T) (fun v J' X' => X' = X ∧ y_tp J (k_breakDown (J 149) r) (o_breakDown (J 149) r).1 J' ∧ v = (o_breakDown (J 149) r).2)) := by
  obtain ⟨h0, h1, h2, h3, h4, h5⟩ := hb.1
  have bad : ¬ (0 ≤ r ∧ r < J 149 1) → z_rq (m_Ex g T) (fun v J' X' => X' = X ∧ y_tp J (k_breakDown (J 149) r) (o_breakDown (J 149) r).1 J' ∧ v = (o_breakDown (J 149) r).2) (.inl (some (.inl 0))) (m_Ex g T, z_u (z_u J 148 2 0) 148 2 1, X) := by
    intro hn
    rw [o_breakDown, y_need_n hn, k_breakDown, if_neg (fun z => hn z.1)]
    exact ⟨_, _, _, rfl, rfl, rfl, y_tp.th, rfl⟩
  refine z_sem_of z_m294 m_ok_294 (Nat.le_of_ble_eq_true rfl) (fun Wp hs hv hS => ?_)
  refine w_294_0 hs ?_
  refine ⟨by omega, fun c => bad (by omega), fun c => ⟨fun c1 => bad (by omega), fun c1 => ⟨by omega, fun c2 => ⟨by omega, ?_⟩, fun c2 => ?_⟩⟩⟩
  · rw [o_breakDown, y_need_2 ⟨c, by omega⟩, if_neg c2, k_breakDown, if_pos ⟨⟨c, by omega⟩, c2⟩]
    exact ⟨_, _, _, rfl, rfl, rfl, (y_to.u (J := z_u J 148 2 0)).tp, rfl⟩
  · rw [o_breakDown, y_need_2 ⟨c, by omega⟩, if_pos c2, k_breakDown, if_neg (fun z => z.2 c2)]
    exact ⟨_, _, _, rfl, rfl, rfl, y_tp.th0, rfl⟩
theorem p_setExtensionLimit {x : Int} : z_Sem l (d + 2) M_R_setExtensionLimit [.inr (.inr (.ref 148)), .inl x] (m_Ex g T, J, X) 0 0 (z_rq (m_Ex g T) (fun v J' X' => X' = X ∧ y_tp J (k_setExtensionLimit (J 149) x) (o_setExtensionLimit (J 149) x).1 J' ∧ v = (o_setExtensionLimit (J 149) x).2)) := by
  refine z_sem_of z_m297 m_ok_297 (Nat.le_of_ble_eq_true rfl) (fun Wp hs hv hS => ?_)
  refine w_297_0 hs ?_
  refine ⟨fun c => ?_, fun c => ⟨fun c1 => ?_, fun c1 => ?_⟩⟩
  · rw [o_setExtensionLimit, if_neg (by omega), k_setExtensionLimit, if_neg (by omega)]
    exact ⟨_, _, _, rfl, rfl, rfl, y_tp.th0, rfl⟩
  · rw [o_setExtensionLimit, if_neg (by omega), k_setExtensionLimit, if_neg (by omega)]
    exact ⟨_, _, _, rfl, rfl, rfl, y_tp.th0, rfl⟩
  · rw [o_setExtensionLimit, if_pos (by omega), k_setExtensionLimit, if_pos (by omega)]
    exact ⟨_, _, _, rfl, rfl, rfl, (y_to.u (J := z_u J 148 2 0)).tp, rfl⟩
theorem p_setShare (hb : y_base (J 149)) {r sh : Int} : z_Sem l (d + 9) M_R_setShare [.inr (.inr (.ref 148)), .inl r, .inl sh] (m_Ex g T, J, X) 0 0 (z_rq (m_Ex g T) (fun v J' X' => X' = X ∧ y_tp J (k_setShare (J 149) r sh) (o_setShare (J 149) r sh).1 J' ∧ v = (o_setShare (J 149) r sh).2)) := by
  obtain ⟨h0, h1, h2, h3, h4, h5⟩ := hb.1
  have bad1 : ¬ (0 ≤ r ∧ r < J 149 1) → z_rq (m_Ex g T) (fun v J' X' => X' = X ∧ y_tp J (k_setShare (J 149) r sh) (o_setShare (J 149) r sh).1 J' ∧ v = (o_setShare (J 149) r sh).2) (.inl (some (.inl 0))) (m_Ex g T, z_u (z_u J 148 2 0) 148 2 1, X) := by
    intro hn
    rw [o_setShare, y_need_n hn, k_setShare, if_neg (fun z => hn z.1)]
    exact ⟨_, _, _, rfl, rfl, rfl, y_tp.th, rfl⟩
  have bad2 : 0 ≤ r ∧ r < J 149 1 → ¬ (0 ≤ sh ∧ sh ≤ 100) → z_rq (m_Ex g T) (fun v J' X' => X' = X ∧ y_tp J (k_setShare (J 149) r sh) (o_setShare (J 149) r sh).1 J' ∧ v = (o_setShare (J 149) r sh).2) (.inl (some (.inl 0))) (m_Ex g T, z_u (z_u J 148 2 0) 148 2 2, X) := by
    intro hr hn
    rw [o_setShare, y_need_2 hr, y_need_n hn, k_setShare, if_neg (fun z => hn z.2.1)]
    exact ⟨_, _, _, rfl, rfl, rfl, y_tp.th, rfl⟩
  refine z_sem_of z_m296 m_ok_296 (Nat.le_of_ble_eq_true rfl) (fun Wp hs hv hS => ?_)
  have loop : 0 ≤ r ∧ r < J 149 1 → 0 ≤ sh ∧ sh ≤ 100 → ∀ (n k : Nat), J 149 0 + (k : Int) + n = 144 → y_any (y_over (J 149) r sh) k = false → Wp 58 [some (.inr (.inr (.ref 148))), some (.inl r), some (.inl sh), some (.inl (J 149 0 + k))] [] (m_Ex g T, z_u J 148 2 0, X) 0 0 := by
    intro hr hsh n
    have hm := y_mul_b (hb.ride hr.1 hr.2).1 hsh
    induction n with
    | zero =>
      intro k hk ha
      have bq := y_base_share (v := sh) hb hr hsh
      have e1 : z_up (J 149) (10 + 14 * r + 1) sh 1 = J 149 1 := z_up_ne (by omega)
      refine w_296_58 hs ?_
      refine ⟨fun c => ⟨by omega, z_cIq (c_serve (J := z_u (z_u J 148 2 0) 149 (10 + 14 * r + 1) sh) bq ⟨hr.1, by show _ < z_up (J 149) (10 + 14 * r + 1) sh 1; rw [e1]; exact hr.2⟩) ?_⟩, fun c => by omega⟩
      rintro v J' X' ⟨rfl, t1, rfl⟩
      have ha2 : y_any (y_over (J 149) r sh) (144 - J 149 0).toNat = false := by rw [show (144 - J 149 0).toNat = k by omega]; exact ha
      rw [o_setShare, y_need_2 hr, y_need_2 hsh, if_neg (by rw [ha2]; decide), k_setShare, if_pos ⟨hr, hsh, ha2⟩]
      exact ⟨_, _, _, rfl, rfl, rfl, (y_to.u.tr t1).tp, rfl⟩
    | succ n ih =>
      intro k hk ha
      have nxt : ¬ (y_pw (J 149) r sh (J 149 0 + k) < y_charged (J 149) r (J 149 0 + k)) → Wp 58 [some (.inr (.inr (.ref 148))), some (.inl r), some (.inl sh), some (.inl (J 149 0 + k + 1))] [] (m_Ex g T, z_u J 148 2 0, X) 0 0 := by
        intro hc
        have := ih (k + 1) (by omega) (by rw [y_any, ha, y_over, decide_eq_false hc]; rfl)
        rw [show J 149 0 + ((k + 1 : Nat) : Int) = J 149 0 + k + 1 by omega] at this
        exact this
      have stop : y_pw (J 149) r sh (J 149 0 + k) < y_charged (J 149) r (J 149 0 + k) → z_rq (m_Ex g T) (fun v J' X' => X' = X ∧ y_tp J (k_setShare (J 149) r sh) (o_setShare (J 149) r sh).1 J' ∧ v = (o_setShare (J 149) r sh).2) (.inl (some (.inl (-2)))) (m_Ex g T, z_u J 148 2 0, X) := by
        intro hc
        have ha2 : y_any (y_over (J 149) r sh) (144 - J 149 0).toNat = true := y_any_iff.mpr ⟨k, by omega, by rw [y_over, decide_eq_true_eq]; exact hc⟩
        rw [o_setShare, y_need_2 hr, y_need_2 hsh, if_pos ha2, k_setShare, if_neg (fun z => by rw [z.2.2] at ha2; cases ha2)]
        exact ⟨_, _, _, rfl, rfl, rfl, y_tp.th0, rfl⟩
      refine w_296_58 hs ?_
      simp only [show (z_u J 148 2 0) 149 = J 149 from rfl]
      refine ⟨fun c => by omega, fun c => ⟨by omega, fun c1 => z_cI (c_chargedIn (J := z_u J 148 2 0) hb) ⟨fun c2 => ⟨by omega, nxt ?_⟩, fun c2 => stop ?_⟩, fun c1 => ⟨fun c2 => z_cI (c_chargedIn (J := z_u J 148 2 0) hb) ⟨fun c3 => ⟨by omega, nxt ?_⟩, fun c3 => stop ?_⟩, fun c2 => ⟨by omega, z_cI (c_chargedIn (J := z_u J 148 2 0) hb) ⟨fun c3 => ⟨by omega, nxt ?_⟩, fun c3 => stop ?_⟩⟩⟩⟩⟩
      · have c2 : y_charged (J 149) r (J 149 0 + k) ≤ 0 := c2
        rw [y_pw, if_neg (by omega)]; omega
      · have c2 : 0 < y_charged (J 149) r (J 149 0 + k) := c2
        rw [y_pw, if_neg (by omega)]; omega
      · have c3 : y_charged (J 149) r (J 149 0 + k) ≤ 0 := c3
        rw [y_pw, if_neg (by omega)]; omega
      · have c3 : 0 < y_charged (J 149) r (J 149 0 + k) := c3
        rw [y_pw, if_neg (by omega)]; omega
      · have c3 : y_charged (J 149) r (J 149 0 + k) ≤ J 149 (10 + 14 * r + 0) * sh / 100 := c3
        rw [y_pw, if_pos (by omega)]; omega
      · have c3 : J 149 (10 + 14 * r + 0) * sh / 100 < y_charged (J 149) r (J 149 0 + k) := c3
        rw [y_pw, if_pos (by omega)]; omega
  refine w_296_0 hs ?_
  refine ⟨by omega, fun c => bad1 (by omega), fun c => ⟨fun c1 => bad1 (by omega), fun c1 => ⟨fun c2 => bad2 (by omega) (by omega), fun c2 => ⟨fun c3 => bad2 (by omega) (by omega), fun c3 => ?_⟩⟩⟩⟩
  have := loop ⟨c, by omega⟩ ⟨c2, c3⟩ (144 - J 149 0).toNat 0 (by omega) rfl
  rw [show J 149 0 + ((0 : Nat) : Int) = J 149 0 by omega] at this
  exact this
end R8
