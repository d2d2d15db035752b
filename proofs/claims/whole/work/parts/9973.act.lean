/-! what actions keep; an entry's action, pure -/
section K9
variable {q : Int → Int}
theorem y_serve_0 {r : Int} : ∀ (m : Nat) (q : Int → Int) (k n : Int), y_base q → 0 ≤ r ∧ r < q 1 → 0 ≤ k → k + m = q (10 + 14 * r + 13) → (y_serve r m q k n).1 0 = q 0
  | 0, q, k, n, hb, hr, hk, hm => rfl
  | m + 1, q, k, n, hb, hr, hk, hm => by
    have h0 := hb.1.1
    have w := (hb.2.1 r hr.1 hr.2).2.2.1.1 k hk (by omega)
    rw [y_serve]
    split
    · exact y_serve_0 m q (k + 1) n hb hr (by omega) (by omega)
    · rename_i h
      obtain ⟨w1, w2, w3, w4⟩ := y_wf_pos hb w hr h0.1 (by omega)
      have b1 := y_base_add hb w hr w1 w3 w4
      have e := k_add_13 hb (s := y_wf q (q (4564 + 50 * r + k)) r (q 0)) w hr
      have b2 := y_base_rm b1 (r := r) (x := k) ⟨hr.1, by rw [e.2.1]; exact hr.2⟩ ⟨hk, by rw [e.1]; omega⟩
      have e2 := k_rm_13 (q := k_add q (q (4564 + 50 * r + k)) r (y_wf q (q (4564 + 50 * r + k)) r (q 0))) (r := r) (x := k)
      have e3 := k_rm_hd (q := k_add q (q (4564 + 50 * r + k)) r (y_wf q (q (4564 + 50 * r + k)) r (q 0))) (r := r) (x := k) hr.1 hk
      rw [y_serve_0 m _ k (n + 1) b2 ⟨hr.1, by rw [e3.1, e.2.1]; exact hr.2⟩ hk (by rw [e2, e.1]; omega), e3.2.2, e.2.2.2]
/-- kept, and at the same time -/
def y_kp (q q' : Int → Int) : Prop := y_base q' ∧ q' 0 = q 0
theorem y_kp.rf (hb : y_base q) : y_kp q q := ⟨hb, rfl⟩
theorem y_kp_serve {r : Int} (hb : y_base q) (hr : 0 ≤ r ∧ r < q 1) : y_kp q (k_serve q r) := by
  have c13 := (hb.ride hr.1 hr.2).2.2.2.2.2.2.2.2.2.2.2
  exact ⟨(y_base_serve _ q 0 0 hb hr (by omega) (by omega)).1, y_serve_0 _ q 0 0 hb hr (by omega) (by omega)⟩
theorem y_kp_issue (hb : y_base q) {i r e : Int} : y_kp q (k_issue q i r e) := by
  unfold k_issue
  by_cases h1 : (0 ≤ i ∧ i < q 3) ∧ (0 ≤ r ∧ r < q 1)
  · by_cases h2 : 0 ≤ e ∧ e ≤ 143
    · split
      · have bt := y_base_try hb h1.1 h1.2 h2.1
        have e1 : k_try q i r e 1 = q 1 ∧ k_try q i r e 0 = q 0 := by
          unfold k_try
          split
          · exact ⟨rfl, rfl⟩
          · have := k_add_13 hb (s := y_wf q i r e) h1.1 h1.2
            exact ⟨this.2.1, this.2.2.2⟩
        exact ⟨y_base_leave bt ⟨h1.2.1, by rw [e1.1]; exact h1.2.2⟩, by rw [k_leave_old h1.2.1 (by omega) (by omega), e1.2]⟩
      · exact y_kp.rf hb
    · rw [if_neg (by rw [o_issue, y_need_2 h1, y_need_n h2]; intro z; exact absurd z.1 (by decide))]; exact y_kp.rf hb
  · rw [if_neg (by rw [o_issue, y_need_n h1]; intro z; exact absurd z.1 (by decide))]; exact y_kp.rf hb
theorem y_kp_redeem (hb : y_base q) {t : Int} : y_kp q (k_redeem q t) := by
  unfold k_redeem
  by_cases ht : 0 ≤ t ∧ t < q 5
  · by_cases hs : q (288 + 6 * t + 5) = 0 ∧ (q (288 + 6 * t + 2) ≤ q 0 ∧ q 0 ≤ q (288 + 6 * t + 3)) ∧ q (10 + 14 * q (288 + 6 * t + 1) + 5) ≠ 1
    · have k2 := (hb.2.2.2.2 t ht.1 ht.2).2.1
      have c6 := (hb.ride k2.1 k2.2).2.2.2.2.2.1
      rw [o_redeem, y_need_2 ht, if_pos hs, if_pos rfl]
      refine ⟨y_base_use hb ht k2 (by omega), ?_⟩
      unfold k_use
      rw [z_up_ne (by omega), z_up_ne (by omega), z_up_ne (by omega), z_up_ne (by omega)]
    · rw [o_redeem, y_need_2 ht, if_neg hs, if_neg (by show ¬ (0 : Int) = 1; decide)]; exact y_kp.rf hb
  · rw [o_redeem, y_need_n ht, if_neg (by show ¬ (0 : Int) = 1; decide)]; exact y_kp.rf hb
theorem y_kp_cancel (hb : y_base q) {t : Int} : y_kp q (k_cancel q t) := by
  unfold k_cancel
  split
  · rename_i h
    have k2 := (hb.2.2.2.2 t h.1.1 h.1.2).2.1
    have b1 := y_base_state (v := 3) hb h.1 (by omega) (by omega) (by omega)
    have := y_kp_serve b1 (r := q (288 + 6 * t + 1)) ⟨k2.1, by rw [z_up_ne (by omega)]; exact k2.2⟩
    exact ⟨this.1, by rw [this.2, z_up_ne (by omega)]⟩
  · exact y_kp.rf hb
theorem y_kp_repair (hb : y_base q) {r : Int} : y_kp q (k_repair q r) := by
  unfold k_repair
  split
  · rename_i h
    have b1 := y_base_down (v := 0) hb h.1 (Or.inl rfl)
    have := y_kp_serve b1 (r := r) ⟨h.1.1, by rw [z_up_ne (by omega)]; exact h.1.2⟩
    exact ⟨this.1, by rw [this.2, z_up_ne (by omega)]⟩
  · exact y_kp.rf hb
theorem y_kp_breakDown (hb : y_base q) {r : Int} : y_kp q (k_breakDown q r) := by
  unfold k_breakDown
  split
  · rename_i h
    exact ⟨y_base_down hb h.1 (Or.inr rfl), by rw [z_up_ne (by omega)]⟩
  · exact y_kp.rf hb
theorem y_kp_joinWaitlist (hb : y_base q) {i r : Int} : y_kp q (k_joinWaitlist q i r) := by
  unfold k_joinWaitlist
  by_cases h1 : (0 ≤ i ∧ i < q 3) ∧ (0 ≤ r ∧ r < q 1)
  · split
    · rename_i h
      rw [o_joinWaitlist, y_need_2 h1] at h
      by_cases hp : y_place q i r ≠ -1 ∨ y_has q i r = true
      · rw [if_pos hp] at h; exact absurd h.2 (by decide)
      · have hp' : y_place q i r = -1 := Classical.byContradiction (fun z => hp (Or.inl z))
        have room := y_wait_room hb h1.1 h1.2 hp'
        have c13 := (hb.ride h1.2.1 h1.2.2).2.2.2.2.2.2.2.2.2.2.2
        have h3 := hb.1.2.2.2.1
        exact ⟨y_base_ins hb h1.1 h1.2 hp', k_ins_old (by omega) (by omega) (by omega)⟩
    · exact y_kp.rf hb
  · rw [if_neg (by rw [o_joinWaitlist, y_need_n h1]; intro z; exact absurd z.1 (by decide))]; exact y_kp.rf hb
theorem y_kp_joinStandby (hb : y_base q) {r w : Int} : y_kp q (k_joinStandby q r w) := by
  unfold k_joinStandby
  split
  · rename_i h
    have c7 := (hb.ride h.1.1 h.1.2).2.2.2.2.2.2.1
    refine ⟨y_base_standby hb h.1 h.2.1 (by omega), ?_⟩
    unfold k_standby
    rw [z_up_ne (by omega), z_up_ne (by omega), z_up_ne (by omega)]
  · exact y_kp.rf hb
end K9
def y_ok9 (o : Int × Int) : Int := if o.1 = 0 ∧ 0 ≤ o.2 then 1 else 0
def y_o19 (o : Int × Int) : Int := if o.1 = 0 ∧ o.2 = 1 then 1 else 0
/-- the action of entry e: whether it succeeds, and what it leaves -/
def y_do (q B : Int → Int) (e : Int) : Int × (Int → Int) :=
  if B (5 * e + 1) = 0 then (y_ok9 (o_issue q (B (5 * e + 2)) (B (5 * e + 3)) (B (5 * e + 4))), k_issue q (B (5 * e + 2)) (B (5 * e + 3)) (B (5 * e + 4)))
  else if B (5 * e + 1) = 1 then (y_o19 (o_redeem q (B (5 * e + 2))), k_redeem q (B (5 * e + 2)))
  else if B (5 * e + 1) = 2 then (y_ok9 (o_cancel q (B (5 * e + 2))), k_cancel q (B (5 * e + 2)))
  else if B (5 * e + 1) = 3 then (y_ok9 (o_joinWaitlist q (B (5 * e + 2)) (B (5 * e + 3))), k_joinWaitlist q (B (5 * e + 2)) (B (5 * e + 3)))
  else if B (5 * e + 1) = 4 then (y_ok9 (o_joinStandby q (B (5 * e + 2)) (B (5 * e + 3))), k_joinStandby q (B (5 * e + 2)) (B (5 * e + 3)))
  else if B (5 * e + 1) = 5 then (y_o19 (o_breakDown q (B (5 * e + 2))), k_breakDown q (B (5 * e + 2)))
  else (y_ok9 (o_repair q (B (5 * e + 2))), k_repair q (B (5 * e + 2)))
theorem y_ok_b {o : Int × Int} : y_ok9 o = 0 ∨ y_ok9 o = 1 := by unfold y_ok9; split <;> simp
theorem y_o1_b {o : Int × Int} : y_o19 o = 0 ∨ y_o19 o = 1 := by unfold y_o19; split <;> simp
theorem y_do_kp {q B : Int → Int} {e : Int} (hb : y_base q) : y_kp q (y_do q B e).2 ∧ ((y_do q B e).1 = 0 ∨ (y_do q B e).1 = 1) := by
  unfold y_do
  repeat' split
  · exact ⟨y_kp_issue hb, y_ok_b⟩
  · exact ⟨y_kp_redeem hb, y_o1_b⟩
  · exact ⟨y_kp_cancel hb, y_ok_b⟩
  · exact ⟨y_kp_joinWaitlist hb, y_ok_b⟩
  · exact ⟨y_kp_joinStandby hb, y_ok_b⟩
  · exact ⟨y_kp_breakDown hb, y_o1_b⟩
  · exact ⟨y_kp_repair hb, y_ok_b⟩
/-- what is due in a slot: what it leaves, the next entry, how many succeed -/
def y_due (B : Int → Int) (c : Int) : Nat → (Int → Int) → Int → Int → (Int → Int) × Int × Int
  | 0, q, e, s => (q, e, s)
  | m + 1, q, e, s => if c ≤ e then (q, e, s) else if q 0 < B (5 * e) then (q, e, s) else if B (5 * e) ≠ q 0 then y_due B c m q (e + 1) s else y_due B c m (y_do q B e).2 (e + 1) (s + (y_do q B e).1)
def y_dues (B : Int → Int) (c : Int) : Nat → (Int → Int) → Int → Int → (Int → Int) × Int × Int
  | 0, q, e, s => (q, e, s)
  | m + 1, q, e, s => y_dues B c m (k_pass (y_due B c (c - e).toNat q e 0).1) (y_due B c (c - e).toNat q e 0).2.1 (s + (y_due B c (c - e).toNat q e 0).2.2)
theorem y_due_kp {B : Int → Int} {c : Int} : ∀ (m : Nat) (q : Int → Int) (e s : Int), y_base q → y_kp q (y_due B c m q e s).1 ∧ e ≤ (y_due B c m q e s).2.1 ∧ (y_due B c m q e s).2.1 ≤ e + m ∧ (s ≤ (y_due B c m q e s).2.2 ∧ (y_due B c m q e s).2.2 ≤ s + m)
  | 0, q, e, s, hb => ⟨y_kp.rf hb, by simp [y_due]⟩
  | m + 1, q, e, s, hb => by
    rw [y_due]
    split
    · exact ⟨y_kp.rf hb, by show e ≤ e ∧ e ≤ e + _ ∧ s ≤ s ∧ s ≤ s + _; omega⟩
    · split
      · exact ⟨y_kp.rf hb, by show e ≤ e ∧ e ≤ e + _ ∧ s ≤ s ∧ s ≤ s + _; omega⟩
      · split
        · have := y_due_kp (B := B) (c := c) m q (e + 1) s hb
          exact ⟨this.1, by omega⟩
        · have k := y_do_kp (B := B) (e := e) hb
          have := y_due_kp (B := B) (c := c) m (y_do q B e).2 (e + 1) (s + (y_do q B e).1) k.1.1
          exact ⟨⟨this.1.1, this.1.2.trans k.1.2⟩, by omega⟩
theorem y_tp.z {J J2 : z_J} {q' : Int → Int} {th : Int} (h : y_tp J q' th J2) : y_tp J q' 0 (z_u J2 148 2 0) := ⟨by rw [z_u_ne (by omega)]; exact h.1, z_u_at rfl, fun k h1 h2 => by rw [z_u_off h1]; exact h.2.2.1 k h1 h2, fun b h1 h2 h3 => by rw [z_u_ne h1]; exact h.2.2.2 b h1 h2 h3⟩
section R29
variable {l : Launch} {d : Nat} {g : List (Option Nat)} {T : m_E} {J : z_J} {X : z_X} {B : Int → Int} {c : Int}
theorem y_exA {o : Int × Int} {q' : Int → Int} {J2 : z_J} {X2 : z_X} (h : y_tp J q' o.1 J2) : (o.2 < 0 → ((J2 148 2 ≠ 0 → (z_and 0 0 = 0 ∨ z_and 0 0 = 1) ∧ z_rq (m_Ex g T) (fun v J' X' => X' = X2 ∧ y_tp J q' 0 J' ∧ v = y_ok9 o) (.inl (some (.inl (z_and 0 0)))) (m_Ex g T, z_u J2 148 2 0, X2)) ∧ (J2 148 2 = 0 → (z_and 0 1 = 0 ∨ z_and 0 1 = 1) ∧ z_rq (m_Ex g T) (fun v J' X' => X' = X2 ∧ y_tp J q' 0 J' ∧ v = y_ok9 o) (.inl (some (.inl (z_and 0 1)))) (m_Ex g T, z_u J2 148 2 0, X2)))) ∧ (0 ≤ o.2 → ((J2 148 2 ≠ 0 → (z_and 1 0 = 0 ∨ z_and 1 0 = 1) ∧ z_rq (m_Ex g T) (fun v J' X' => X' = X2 ∧ y_tp J q' 0 J' ∧ v = y_ok9 o) (.inl (some (.inl (z_and 1 0)))) (m_Ex g T, z_u J2 148 2 0, X2)) ∧ (J2 148 2 = 0 → (z_and 1 1 = 0 ∨ z_and 1 1 = 1) ∧ z_rq (m_Ex g T) (fun v J' X' => X' = X2 ∧ y_tp J q' 0 J' ∧ v = y_ok9 o) (.inl (some (.inl (z_and 1 1)))) (m_Ex g T, z_u J2 148 2 0, X2)))) := by
  have a00 : z_and 0 0 = 0 := by decide
  have a01 : z_and 0 1 = 0 := by decide
  have a10 : z_and 1 0 = 0 := by decide
  have a11 : z_and 1 1 = 1 := by decide
  rw [a00, a01, a10, a11, h.2.1]
  refine ⟨fun v => ⟨fun t => ⟨Or.inl rfl, _, _, _, rfl, rfl, rfl, h.z, ?_⟩, fun t => ⟨Or.inl rfl, _, _, _, rfl, rfl, rfl, h.z, ?_⟩⟩, fun v => ⟨fun t => ⟨Or.inl rfl, _, _, _, rfl, rfl, rfl, h.z, ?_⟩, fun t => ⟨Or.inr rfl, _, _, _, rfl, rfl, rfl, h.z, ?_⟩⟩⟩ <;> unfold y_ok9
  · rw [if_neg (by omega)]
  · rw [if_neg (by omega)]
  · rw [if_neg (by omega)]
  · rw [if_pos (by omega)]
theorem y_exB {o : Int × Int} {q' : Int → Int} {J2 : z_J} {X2 : z_X} (h : y_tp J q' o.1 J2) (hv : o.2 = 0 ∨ o.2 = 1) : (J2 148 2 ≠ 0 → (z_and o.2 0 = 0 ∨ z_and o.2 0 = 1) ∧ z_rq (m_Ex g T) (fun v J' X' => X' = X2 ∧ y_tp J q' 0 J' ∧ v = y_o19 o) (.inl (some (.inl (z_and o.2 0)))) (m_Ex g T, z_u J2 148 2 0, X2)) ∧ (J2 148 2 = 0 → (z_and o.2 1 = 0 ∨ z_and o.2 1 = 1) ∧ z_rq (m_Ex g T) (fun v J' X' => X' = X2 ∧ y_tp J q' 0 J' ∧ v = y_o19 o) (.inl (some (.inl (z_and o.2 1)))) (m_Ex g T, z_u J2 148 2 0, X2)) := by
  have a00 : z_and 0 0 = 0 := by decide
  have a01 : z_and 0 1 = 0 := by decide
  have a10 : z_and 1 0 = 0 := by decide
  have a11 : z_and 1 1 = 1 := by decide
  have e0 : z_and o.2 0 = 0 := by rcases hv with z | z <;> rw [z] <;> assumption
  have e1 : z_and o.2 1 = o.2 := by rcases hv with z | z <;> rw [z] <;> assumption
  rw [e0, e1, h.2.1]
  refine ⟨fun t => ⟨Or.inl rfl, _, _, _, rfl, rfl, rfl, h.z, ?_⟩, fun t => ⟨hv, _, _, _, rfl, rfl, rfl, h.z, ?_⟩⟩ <;> unfold y_o19
  · rw [if_neg (by omega)]
  · rcases hv with z | z
    · rw [if_neg (by omega), z]
    · rw [if_pos (by omega), z]
theorem o_redeem_b {q : Int → Int} {t : Int} : (o_redeem q t).2 = 0 ∨ (o_redeem q t).2 = 1 := by
  unfold o_redeem y_need
  (repeat' split) <;> simp
theorem o_breakDown_b {q : Int → Int} {t : Int} : (o_breakDown q t).2 = 0 ∨ (o_breakDown q t).2 = 1 := by
  unfold o_breakDown y_need
  (repeat' split) <;> simp
theorem c_execute {e : Int} (hb : y_base (J 149)) (hSc : y_S B c J) (hc : 0 ≤ c ∧ c ≤ 40) (he : J 148 24 = e) (hec : 0 ≤ e ∧ e < c) (ha : 0 ≤ B (5 * e + 1) ∧ B (5 * e + 1) ≤ 6) : z_Sem l (d + 10) M_R_execute [.inr (.inr (.ref 148))] (m_Ex g T, J, X) 0 0 (z_rq (m_Ex g T) (fun v J' X' => X' = X ∧ y_tp J (y_do (J 149) B e).2 0 J' ∧ v = (y_do (J 149) B e).1)) := by
  have ll := y_lim_l (B (5 * e + 1))
  have F := fun f h1 h2 => hSc e f hec.1 hec.2 h1 h2
  have f1 : J 159 (5 * e + 1) = B (5 * e + 1) := F 1 (by omega) (by unfold y_uf; omega)
  have f2 : J 159 (5 * e + 2) = B (5 * e + 2) := F 2 (by omega) (by unfold y_uf; omega)
  have len : ∀ a L, B (5 * e + 1) = a → y_lim a = L → y_uf B e = 2 + (L.length : Int) := fun a L h1 h2 => by unfold y_uf; rw [h1, h2]
  refine z_sem_of z_m339 m_ok_339 (Nat.le_of_ble_eq_true rfl) (fun Wp hs hv hS => ?_)
  refine w_339_0 hs ?_
  rw [he, f1, f2]
  refine ⟨by omega, fun a => ?_, fun a => ?_, fun a => ?_, fun a => ?_, fun a => ?_, fun a => ?_, fun a => ?_⟩
  · have u := len 0 _ a rfl
    rw [F 3 (by omega) (by rw [u]; decide), F 4 (by omega) (by rw [u]; decide)]
    have er : y_do (J 149) B e = (y_ok9 (o_issue (J 149) (B (5 * e + 2)) (B (5 * e + 3)) (B (5 * e + 4))), k_issue (J 149) (B (5 * e + 2)) (B (5 * e + 3)) (B (5 * e + 4))) := by unfold y_do; rw [if_pos a]
    rw [er]
    refine ⟨by omega, z_cIq (p_issue hb) ?_⟩
    rintro v J2 X2 ⟨rfl, h2, rfl⟩
    exact y_exA h2
  · have er : y_do (J 149) B e = (y_o19 (o_redeem (J 149) (B (5 * e + 2))), k_redeem (J 149) (B (5 * e + 2))) := by unfold y_do; rw [if_neg (by omega), if_pos a]
    rw [er]
    refine ⟨by omega, z_cIq (p_redeem hb) ?_⟩
    rintro v J2 X2 ⟨rfl, h2, rfl⟩
    exact y_exB h2 o_redeem_b
  · have er : y_do (J 149) B e = (y_ok9 (o_cancel (J 149) (B (5 * e + 2))), k_cancel (J 149) (B (5 * e + 2))) := by unfold y_do; rw [if_neg (by omega), if_neg (by omega), if_pos a]
    rw [er]
    refine ⟨by omega, z_cIq (p_cancel hb) ?_⟩
    rintro v J2 X2 ⟨rfl, h2, rfl⟩
    exact y_exA h2
  · have u := len 3 _ a rfl
    rw [F 3 (by omega) (by rw [u]; decide)]
    have er : y_do (J 149) B e = (y_ok9 (o_joinWaitlist (J 149) (B (5 * e + 2)) (B (5 * e + 3))), k_joinWaitlist (J 149) (B (5 * e + 2)) (B (5 * e + 3))) := by unfold y_do; rw [if_neg (by omega), if_neg (by omega), if_neg (by omega), if_pos a]
    rw [er]
    refine ⟨by omega, z_cIq (p_joinWaitlist hb) ?_⟩
    rintro v J2 X2 ⟨rfl, h2, rfl⟩
    exact y_exA h2
  · have u := len 4 _ a rfl
    rw [F 3 (by omega) (by rw [u]; decide)]
    have er : y_do (J 149) B e = (y_ok9 (o_joinStandby (J 149) (B (5 * e + 2)) (B (5 * e + 3))), k_joinStandby (J 149) (B (5 * e + 2)) (B (5 * e + 3))) := by unfold y_do; rw [if_neg (by omega), if_neg (by omega), if_neg (by omega), if_neg (by omega), if_pos a]
    rw [er]
    refine ⟨by omega, z_cIq (p_joinStandby hb) ?_⟩
    rintro v J2 X2 ⟨rfl, h2, rfl⟩
    exact y_exA h2
  · have er : y_do (J 149) B e = (y_o19 (o_breakDown (J 149) (B (5 * e + 2))), k_breakDown (J 149) (B (5 * e + 2))) := by unfold y_do; rw [if_neg (by omega), if_neg (by omega), if_neg (by omega), if_neg (by omega), if_neg (by omega), if_pos a]
    rw [er]
    refine ⟨by omega, z_cIq (p_breakDown hb) ?_⟩
    rintro v J2 X2 ⟨rfl, h2, rfl⟩
    exact y_exB h2 o_breakDown_b
  · have er : y_do (J 149) B e = (y_ok9 (o_repair (J 149) (B (5 * e + 2))), k_repair (J 149) (B (5 * e + 2))) := by unfold y_do; rw [if_neg (by omega), if_neg (by omega), if_neg (by omega), if_neg (by omega), if_neg (by omega), if_neg (by omega)]
    rw [er]
    refine ⟨by omega, z_cIq (p_repair hb) ?_⟩
    rintro v J2 X2 ⟨rfl, h2, rfl⟩
    exact y_exA h2
/-- what running a script leaves of the reference -/
def y_tr (J : z_J) (q' : Int → Int) (th e : Int) (J' : z_J) : Prop := J' 149 = q' ∧ J' 148 2 = th ∧ J' 148 24 = e ∧ (∀ k, k ≠ 2 → k ≠ 9 → k ≠ 24 → J' 148 k = J 148 k) ∧ ∀ b, b ≠ 148 → b ≠ 149 → (b < 151 ∨ 156 < b) → J' b = J b
theorem y_tr.tr {J J1 J2 : z_J} {q1 q2 : Int → Int} {t1 t2 e1 e2 : Int} (h1 : y_tr J q1 t1 e1 J1) (h2 : y_tr J1 q2 t2 e2 J2) : y_tr J q2 t2 e2 J2 := ⟨h2.1, h2.2.1, h2.2.2.1, fun k a b c => (h2.2.2.2.1 k a b c).trans (h1.2.2.2.1 k a b c), fun b x y z => (h2.2.2.2.2 b x y z).trans (h1.2.2.2.2 b x y z)⟩
theorem y_tr.S {J J1 : z_J} {q1 : Int → Int} {t1 e1 : Int} (h1 : y_tr J q1 t1 e1 J1) (h : y_S B c J) : y_S B c J1 := fun e f a1 a2 a3 a4 => by rw [h1.2.2.2.2 159 (by omega) (by omega) (by omega)]; exact h e f a1 a2 a3 a4
theorem y_tp.n {J J2 : z_J} {q' : Int → Int} {th e : Int} (h : y_tp J q' th J2) : y_tr J q' th e (z_u J2 148 24 e) := ⟨by rw [z_u_ne (by omega)]; exact h.1, by rw [z_u_off (by omega)]; exact h.2.1, z_u_at rfl, fun k h1 h2 h3 => by rw [z_u_off h3]; exact h.2.2.1 k h1 h2, fun b h1 h2 h3 => by rw [z_u_ne h1]; exact h.2.2.2 b h1 h2 h3⟩
theorem c_executeSlot {e : Int} (hb : y_base (J 149)) (hSc : y_S B c J) (hB : y_Sb B c) (h23 : J 148 23 = c) (he : J 148 24 = e) (h2 : J 148 2 = 0) (hec : 0 ≤ e ∧ e ≤ c) : z_Sem l (d + 11) M_R_executeSlot [.inr (.inr (.ref 148))] (m_Ex g T, J, X) 0 0 (z_rq (m_Ex g T) (fun v J' X' => X' = X ∧ y_tr J (y_due B c (c - e).toNat (J 149) e 0).1 0 (y_due B c (c - e).toNat (J 149) e 0).2.1 J' ∧ v = (y_due B c (c - e).toNat (J 149) e 0).2.2)) := by
  have hc := hB.1
  refine z_sem_of z_m337 m_ok_337 (Nat.le_of_ble_eq_true rfl) (fun Wp hs hv hS => ?_)
  have loop : ∀ (m : Nat) (q : Int → Int) (e' s : Int) (J1 : z_J), e' + m = c → 0 ≤ e' → 0 ≤ s ∧ s ≤ e' → y_base q → y_tr J q 0 e' J1 → y_due B c m q e' s = y_due B c (c - e).toNat (J 149) e 0 → Wp 2 [some (.inr (.inr (.ref 148))), some (.inl s)] [] (m_Ex g T, J1, X) 0 0 := by
    intro m
    induction m with
    | zero =>
      intro q e' s J1 hm h0 hs0 hbq ht heq
      have e23 : J1 148 23 = c := by rw [ht.2.2.2.1 23 (by omega) (by omega) (by omega)]; exact h23
      refine w_337_2 hs ?_
      rw [e23, ht.2.2.1]
      refine ⟨fun _ => ⟨_, _, _, rfl, rfl, rfl, ?_⟩, fun z => by omega⟩
      rw [← heq]
      exact ⟨ht, rfl⟩
    | succ m ih =>
      intro q e' s J1 hm h0 hs0 hbq ht heq
      have e23 : J1 148 23 = c := by rw [ht.2.2.2.1 23 (by omega) (by omega) (by omega)]; exact h23
      have S1 := ht.S hSc
      have ll := y_lim_l (B (5 * e' + 1))
      have f0 : J1 159 (5 * e' + 0) = B (5 * e') := by
        have := S1 e' 0 h0 (by omega) (by omega) (by unfold y_uf; omega)
        rw [this, show 5 * e' + 0 = 5 * e' by omega]
      rw [y_due, if_neg (by omega)] at heq
      refine w_337_2 hs ?_
      rw [e23, ht.2.2.1, f0, ht.1]
      refine ⟨fun z => by omega, fun _ => ⟨by omega, fun z => ⟨_, _, _, rfl, rfl, rfl, ?_⟩, fun z => ⟨by omega, fun z2 => ⟨by omega, ?_⟩, fun z2 => ?_⟩⟩⟩
      · rw [if_pos z] at heq
        rw [← heq]
        exact ⟨ht, rfl⟩
      · rw [if_neg (by omega), if_pos z2] at heq
        refine ih q (e' + 1) s _ (by omega) (by omega) (by omega) hbq (ht.tr (J1 := J1) (t1 := 0) (e1 := e') ?_) heq
        exact ⟨by rw [z_u_ne (by omega)]; exact ht.1, by rw [z_u_off (by omega)]; exact ht.2.1, z_u_at rfl, fun k h1 h2 h3 => by rw [z_u_off h3], fun b h1 h2 h3 => by rw [z_u_ne h1]⟩
      · rw [if_neg (by omega), if_neg (by omega)] at heq
        have k := y_do_kp (B := B) (e := e') hbq
        refine z_cIq (c_execute (J := J1) (e := e') (by rw [ht.1]; exact hbq) S1 hc ht.2.2.1 (by omega) (hB.2 e' h0 (by omega)).2.2.1) ?_
        rintro v J2 X2 ⟨rfl, h2, rfl⟩
        rw [ht.1] at h2 ⊢
        have e24 : J2 148 24 = e' := by rw [h2.2.2.1 24 (by omega) (by omega)]; exact ht.2.2.1
        rw [e24]
        have nx := ih _ (e' + 1) (s + (y_do q B e').1) _ (by omega) (by omega) (by omega) k.1.1 (ht.tr (h2.n (e := e' + 1))) heq
        refine ⟨fun z => ⟨by omega, ?_⟩, fun z => ⟨by omega, ?_⟩⟩
        · rw [z] at nx; exact nx
        · rw [show (y_do q B e').1 = 1 by omega] at nx; exact nx
  refine w_337_0 hs ?_
  exact loop (c - e).toNat (J 149) e 0 J (by omega) hec.1 (by omega) hb ⟨rfl, h2, he, fun _ _ _ _ => rfl, fun _ _ _ _ => rfl⟩ rfl
/-- running a script for n slots -/
def o_runScript (q B : Int → Int) (c e n : Int) : Int × Int := y_need ((1 ≤ n ∧ n ≤ 144) ∧ q 0 + n ≤ 144) 1 (0, (y_dues B c n.toNat q e 0).2.2)
def k_runScript (q B : Int → Int) (c e n : Int) : (Int → Int) × Int := if (1 ≤ n ∧ n ≤ 144) ∧ q 0 + n ≤ 144 then ((y_dues B c n.toNat q e 0).1, (y_dues B c n.toNat q e 0).2.1) else (q, e)
theorem p_runScript {e n : Int} (hb : y_base (J 149)) (hSc : y_S B c J) (hB : y_Sb B c) (h23 : J 148 23 = c) (he : J 148 24 = e) (hec : 0 ≤ e ∧ e ≤ c) : z_Sem l (d + 12) M_R_runScript [.inr (.inr (.ref 148)), .inl n] (m_Ex g T, J, X) 0 0 (z_rq (m_Ex g T) (fun v J' X' => X' = X ∧ y_tr J (k_runScript (J 149) B c e n).1 (o_runScript (J 149) B c e n).1 (k_runScript (J 149) B c e n).2 J' ∧ v = (o_runScript (J 149) B c e n).2)) := by
  obtain ⟨h0, h1, h2, h3, h4, h5⟩ := hb.1
  have hc := hB.1
  have bad : ¬ ((1 ≤ n ∧ n ≤ 144) ∧ J 149 0 + n ≤ 144) → z_rq (m_Ex g T) (fun v J' X' => X' = X ∧ y_tr J (k_runScript (J 149) B c e n).1 (o_runScript (J 149) B c e n).1 (k_runScript (J 149) B c e n).2 J' ∧ v = (o_runScript (J 149) B c e n).2) (.inl (some (.inl 0))) (m_Ex g T, z_u (z_u J 148 2 0) 148 2 1, X) := by
    intro hn
    rw [k_runScript, o_runScript, if_neg hn, y_need_n hn]
    refine ⟨_, _, _, rfl, rfl, rfl, ⟨by rw [z_u_ne (by omega), z_u_ne (by omega)], z_u_at rfl, by rw [z_u_off (by omega), z_u_off (by omega)]; exact he, fun k a b c => by rw [z_u_off a, z_u_off a], fun b x y z => by rw [z_u_ne x, z_u_ne x]⟩, rfl⟩
  refine z_sem_of z_m336 m_ok_336 (Nat.le_of_ble_eq_true rfl) (fun Wp hs hv hS => ?_)
  have loop : ((1 ≤ n ∧ n ≤ 144) ∧ J 149 0 + n ≤ 144) → ∀ (m k : Nat) (f : Int → Int) (e' s : Int) (J1 : z_J), (k : Int) + m = n → y_base f → f 0 = J 149 0 + k → (0 ≤ e' ∧ e' ≤ c) → (0 ≤ s ∧ s ≤ 40 * k) → y_tr J f 0 e' J1 → y_dues B c m f e' s = y_dues B c n.toNat (J 149) e 0 → Wp 49 [some (.inr (.inr (.ref 148))), some (.inl n), some (.inl s), some (.inl k)] [] (m_Ex g T, J1, X) 0 0 := by
    intro hn m
    induction m with
    | zero =>
      intro k f e' s J1 hk hb2 h0 hec2 hs0 ht heq
      refine w_336_49 hs ?_
      refine ⟨fun c => ?_, fun c => by omega⟩
      rw [k_runScript, o_runScript, if_pos hn, y_need_2 hn, ← heq]
      exact ⟨_, _, _, rfl, rfl, rfl, ht, rfl⟩
    | succ m ih =>
      intro k f e' s J1 hk hb2 h0 hec2 hs0 ht heq
      rw [y_dues] at heq
      have sk := y_due_kp (B := B) (c := c) (c - e').toNat f e' 0 hb2
      obtain ⟨i1, i2, i3⟩ := y_base_pass sk.1.1 (by rw [sk.1.2]; omega)
      refine w_336_49 hs ?_
      refine ⟨fun c => by omega, fun _ => z_cIq (c_executeSlot (J := J1) (e := e') (by rw [ht.1]; exact hb2) (ht.S hSc) hB (by rw [ht.2.2.2.1 23 (by omega) (by omega) (by omega)]; exact h23) ht.2.2.1 ht.2.1 hec2) ?_⟩
      rintro v J2 X2 ⟨rfl, h2, rfl⟩
      rw [ht.1] at h2 ⊢
      refine ⟨by omega, ?_⟩
      have ps := c_passSlot (l := l) (d := d + 6) (g := g) (T := T) (J := J2) (X := X2) sk.1.1 (by rw [sk.1.2]; omega)
      rw [← h2.1, z_row_self] at ps
      refine z_cV ps ⟨by omega, ih (k + 1) _ _ _ _ (by omega) i1 (by rw [i2, sk.1.2]; omega) (by omega) (by omega) ((ht.tr h2).tr ?_) heq⟩
      rw [h2.1]
      exact ⟨z_row_eq, by rw [z_row_ne (by omega)]; exact h2.2.1, by rw [z_row_ne (by omega)]; exact h2.2.2.1, fun k a b c => by rw [z_row_ne (by omega)], fun b x y z => by rw [z_row_ne y]⟩
  refine w_336_0 hs ?_
  refine ⟨fun c => bad (by omega), fun c => ⟨fun c1 => bad (by omega), fun c1 => ⟨by omega, fun c2 => ?_, fun c2 => bad (by omega)⟩⟩⟩
  refine loop (by omega) n.toNat 0 (J 149) e 0 _ (by omega) hb (by omega) hec (by omega) ⟨by rw [z_u_ne (by omega)], z_u_at rfl, by rw [z_u_off (by omega)]; exact he, fun k a b c => by rw [z_u_off a], fun b x y z => by rw [z_u_ne x]⟩ rfl
end R29
