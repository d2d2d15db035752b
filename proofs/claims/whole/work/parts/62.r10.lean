/-! the reference: waitlists, parties, standby lines, redeeming -/
theorem y_pigeon : ∀ (m n : Nat) (f : Nat → Nat), (∀ k, k < n → f k < m) → (∀ j k, j < k → k < n → f j ≠ f k) → n ≤ m
  | 0, n, f, h, _ => by
    cases n with
    | zero => exact Nat.le_refl _
    | succ n => exact absurd (h 0 (by omega)) (by omega)
  | m + 1, n, f, h, hi => by
    by_cases hx : ∃ k, k < n ∧ f k = m
    · obtain ⟨k0, hk0, e⟩ := hx
      have := y_pigeon m (n - 1) (fun k => if k < k0 then f k else f (k + 1)) (fun k hk => ?_) (fun j k hjk hk => ?_)
      · omega
      · show (if k < k0 then f k else f (k + 1)) < m
        split
        · have h1 := h k (by omega)
          have h2 := hi k k0 (by omega) hk0
          omega
        · have h1 := h (k + 1) (by omega)
          have h2 := hi k0 (k + 1) (by omega) (by omega)
          omega
      · show (if j < k0 then f j else f (j + 1)) ≠ (if k < k0 then f k else f (k + 1))
        split <;> split
        · exact hi j k hjk (by omega)
        · exact hi j (k + 1) (by omega) (by omega)
        · omega
        · exact hi (j + 1) (k + 1) (by omega) (by omega)
    · have := y_pigeon m n f (fun k hk => ?_) hi
      · omega
      · have h1 := h k hk
        have h2 : f k ≠ m := fun z => hx ⟨k, hk, z⟩
        omega
/-- who isn't on a waitlist finds it not full -/
theorem y_wait_room {q : Int → Int} (hb : y_base q) {i r : Int} (hi : 0 ≤ i ∧ i < q 3) (hr : 0 ≤ r ∧ r < q 1) (h : y_place q i r = -1) : q (10 + 14 * r + 13) < q 3 := by
  have w := (hb.2.1 r hr.1 hr.2).2.2.1
  have c13 := (hb.ride hr.1 hr.2).2.2.2.2.2.2.2.2.2.2.2
  have hn : ∀ k : Nat, k < (q (10 + 14 * r + 13)).toNat → q (4564 + 50 * r + k) ≠ i := by
    intro k hk he
    cases ha : y_any (y_pl q i r) (q (10 + 14 * r + 13)).toNat with
    | true =>
      unfold y_place at h
      obtain ⟨k1, hk1, hf⟩ := y_any_iff.mp ha
      have hmin : ∀ n : Nat, y_any (y_pl q i r) n = true → y_first (y_pl q i r) n ≠ -1 := by
        intro n
        induction n with
        | zero => intro z; cases z
        | succ n ih =>
          intro z
          rw [y_first]
          split
          · rename_i z2; exact ih z2
          · rename_i z2
            rw [y_any, Bool.or_eq_true] at z
            rcases z with z | z
            · exact absurd z z2
            · rw [if_pos z]; omega
      exact hmin _ ha h
    | false =>
      have := y_any_false.mp ha k hk
      rw [y_pl, decide_eq_false_iff_not] at this
      exact this he
  have := y_pigeon (q 3).toNat ((q (10 + 14 * r + 13)).toNat + 1) (fun k => if k < (q (10 + 14 * r + 13)).toNat then (q (4564 + 50 * r + k)).toNat else i.toNat) (fun k hk => ?_) (fun j k hjk hk => ?_)
  · omega
  · show (if k < (q (10 + 14 * r + 13)).toNat then (q (4564 + 50 * r + k)).toNat else i.toNat) < (q 3).toNat
    split
    · have := w.1 k (by omega) (by omega); omega
    · omega
  · show (if j < (q (10 + 14 * r + 13)).toNat then (q (4564 + 50 * r + j)).toNat else i.toNat) ≠ (if k < (q (10 + 14 * r + 13)).toNat then (q (4564 + 50 * r + k)).toNat else i.toNat)
    rw [if_pos (by omega)]
    have wj := w.1 j (by omega) (by omega)
    split
    · have := w.2 j k (by omega) (by omega) (by omega)
      have wk := w.1 k (by omega) (by omega)
      omega
    · have := hn j (by omega)
      omega
def y_rank (q : Int → Int) (i : Int) : Int := q (122 + 4 * q (138 + 3 * i + 0) + 3)
/-- where a party comes: behind all with its rank or a lower one -/
def y_ins (q : Int → Int) (i r : Int) : Nat → Nat
  | 0 => 0
  | n + 1 => if y_rank q i < y_rank q (q (4564 + 50 * r + n)) then y_ins q i r n else n + 1
def y_insAt (q : Int → Int) (i r : Int) : Int := (y_ins q i r (q (10 + 14 * r + 13)).toNat : Nat)
def k_ins (q : Int → Int) (i r : Int) : Int → Int := fun j => if j = 10 + 14 * r + 13 then q j + 1 else if j = 4564 + 50 * r + y_insAt q i r then i else if 4564 + 50 * r + y_insAt q i r < j ∧ j ≤ 4564 + 50 * r + q (10 + 14 * r + 13) then q (j - 1) else q j
def o_joinWaitlist (q : Int → Int) (i r : Int) : Int × Int := y_need ((0 ≤ i ∧ i < q 3) ∧ (0 ≤ r ∧ r < q 1)) 1 (0, if y_place q i r ≠ -1 ∨ y_has q i r = true then -3 else y_insAt q i r)
def k_joinWaitlist (q : Int → Int) (i r : Int) : Int → Int := if (o_joinWaitlist q i r).1 = 0 ∧ 0 ≤ (o_joinWaitlist q i r).2 then k_ins q i r else q
def o_leaveWaitlist (q : Int → Int) (i r : Int) : Int × Int := y_need ((0 ≤ i ∧ i < q 3) ∧ (0 ≤ r ∧ r < q 1)) 1 (0, if y_place q i r = -1 then 0 else 1)
def k_leaveWaitlist (q : Int → Int) (i r : Int) : Int → Int := if (0 ≤ i ∧ i < q 3) ∧ (0 ≤ r ∧ r < q 1) then k_leave q i r else q
theorem y_ins_le {q : Int → Int} {i r : Int} : ∀ n, y_ins q i r n ≤ n
  | 0 => Nat.le_refl _
  | n + 1 => by
    have := y_ins_le (q := q) (i := i) (r := r) n
    rw [y_ins]
    split <;> omega
section R10
variable {l : Launch} {d : Nat} {g : List (Option Nat)} {T : m_E} {J : z_J} {X : z_X}
theorem p_joinWaitlist (hb : y_base (J 149)) {i r : Int} : z_Sem l (d + 4) M_R_joinWaitlist [.inr (.inr (.ref 148)), .inl i, .inl r] (m_Ex g T, J, X) 0 0 (z_rq (m_Ex g T) (fun v J' X' => X' = X ∧ y_tp J (k_joinWaitlist (J 149) i r) (o_joinWaitlist (J 149) i r).1 J' ∧ v = (o_joinWaitlist (J 149) i r).2)) := by
  obtain ⟨h0, h1, h2, h3, h4, h5⟩ := hb.1
  have bad : ∀ (w x : Int), o_joinWaitlist (J 149) i r = (w, x) → (w ≠ 0 ∨ x < 0) → ∀ J1, y_tp J (J 149) w J1 → z_rq (m_Ex g T) (fun v J' X' => X' = X ∧ y_tp J (k_joinWaitlist (J 149) i r) (o_joinWaitlist (J 149) i r).1 J' ∧ v = (o_joinWaitlist (J 149) i r).2) (.inl (some (.inl x))) (m_Ex g T, J1, X) := by
    intro w x ho hn J1 hJ
    rw [k_joinWaitlist, ho, if_neg (by show ¬ (w = 0 ∧ 0 ≤ x); omega)]
    exact ⟨_, _, _, rfl, rfl, rfl, hJ, rfl⟩
  refine z_sem_of z_m251 m_ok_251 (Nat.le_of_ble_eq_true rfl) (fun Wp hs hv hS => ?_)
  have loop : (0 ≤ i ∧ i < J 149 3) → (0 ≤ r ∧ r < J 149 1) → y_place (J 149) i r = -1 → y_has (J 149) i r = false → ∀ (n : Nat) (f : Int → Int), (n : Int) ≤ J 149 (10 + 14 * r + 13) → y_ins (J 149) i r n = y_ins (J 149) i r (J 149 (10 + 14 * r + 13)).toNat → (∀ j, f j = if 4564 + 50 * r + n < j ∧ j ≤ 4564 + 50 * r + J 149 (10 + 14 * r + 13) then J 149 (j - 1) else J 149 j) → Wp 66 [some (.inr (.inr (.ref 148))), some (.inl i), some (.inl r), some (.inl n)] [] (m_Ex g T, z_row (z_u J 148 2 0) 149 f, X) 0 0 := by
    intro hi hr hp ha n
    have room := y_wait_room hb hi hr hp
    have c13 := (hb.ride hr.1 hr.2).2.2.2.2.2.2.2.2.2.2.2
    have w := (hb.2.1 r hr.1 hr.2).2.2.1
    have pi := hb.party hi.1 hi.2
    have ti := pi.2.2.2.2
    have fin : ∀ (n : Nat) (f : Int → Int), (n : Int) ≤ J 149 (10 + 14 * r + 13) → y_ins (J 149) i r (J 149 (10 + 14 * r + 13)).toNat = n → (∀ j, f j = if 4564 + 50 * r + n < j ∧ j ≤ 4564 + 50 * r + J 149 (10 + 14 * r + 13) then J 149 (j - 1) else J 149 j) → z_rq (m_Ex g T) (fun v J' X' => X' = X ∧ y_tp J (k_joinWaitlist (J 149) i r) (o_joinWaitlist (J 149) i r).1 J' ∧ v = (o_joinWaitlist (J 149) i r).2) (.inl (some (.inl n))) (m_Ex g T, z_u (z_u (z_row (z_u J 148 2 0) 149 f) 149 (4564 + 50 * r + n) i) 149 (10 + 14 * r + 13) (J 149 (10 + 14 * r + 13) + 1), X) := by
      intro n f hn hat hf
      have ho : o_joinWaitlist (J 149) i r = (0, (n : Int)) := by
        rw [o_joinWaitlist, y_need_2 ⟨hi, hr⟩, if_neg (by rw [ha]; rintro (z | z); exact z hp; cases z), y_insAt, hat]
      rw [k_joinWaitlist, ho, if_pos ⟨rfl, by show (0 : Int) ≤ n; omega⟩]
      refine ⟨_, _, _, rfl, rfl, rfl, ?_, rfl⟩
      rw [z_u_zrow, z_u_zrow]
      have ef : z_up (z_up f (4564 + 50 * r + n) i) (10 + 14 * r + 13) (J 149 (10 + 14 * r + 13) + 1) = k_ins (J 149) i r := by
        funext j
        unfold k_ins
        rw [y_insAt, hat]
        by_cases e1 : j = 10 + 14 * r + 13
        · rw [z_up_eq e1, if_pos e1, e1]
        · rw [z_up_ne e1, if_neg e1]
          by_cases e2 : j = 4564 + 50 * r + n
          · rw [z_up_eq e2, if_pos e2]
          · rw [z_up_ne e2, if_neg e2, hf j]
      rw [ef]
      exact (y_to.put (J := z_u J 148 2 0)).tp
    induction n with
    | zero =>
      intro f hn hat hf
      have e13 : z_up f (4564 + 50 * r + ((0 : Nat) : Int)) i (10 + 14 * r + 13) = J 149 (10 + 14 * r + 13) := by rw [z_up_ne (by omega), hf, if_neg (by omega)]
      refine w_251_66 hs ?_
      simp only [z_row_eq, e13]
      exact ⟨fun c => ⟨by omega, fin 0 f hn (by rw [← hat]; rfl) hf⟩, fun c => by omega⟩
    | succ n ih =>
      intro f hn hat hf
      have en : ((n + 1 : Nat) : Int) - 1 = n := by omega
      have e13 : z_up f (4564 + 50 * r + ((n + 1 : Nat) : Int)) i (10 + 14 * r + 13) = J 149 (10 + 14 * r + 13) := by rw [z_up_ne (by omega), hf, if_neg (by omega)]
      have ew : f (4564 + 50 * r + n) = J 149 (4564 + 50 * r + n) := by rw [hf, if_neg (by omega)]
      have wn := w.1 n (by omega) (by omega)
      have pw := hb.party wn.1 wn.2
      have et : f (138 + 3 * J 149 (4564 + 50 * r + n) + 0) = J 149 (138 + 3 * J 149 (4564 + 50 * r + n) + 0) := by rw [hf, if_neg (by omega)]
      have er : f (122 + 4 * J 149 (138 + 3 * J 149 (4564 + 50 * r + n) + 0) + 3) = y_rank (J 149) (J 149 (4564 + 50 * r + n)) := by rw [hf, if_neg (by omega)]; rfl
      have ei : f (138 + 3 * i + 0) = J 149 (138 + 3 * i + 0) := by rw [hf, if_neg (by omega)]
      have eri : f (122 + 4 * J 149 (138 + 3 * i + 0) + 3) = y_rank (J 149) i := by rw [hf, if_neg (by omega)]; rfl
      rw [y_ins] at hat
      refine w_251_66 hs ?_
      simp only [z_row_eq, e13, en, ew, et, er, ei, eri]
      refine ⟨fun c => by omega, fun c => ⟨by omega, fun c1 => ⟨by omega, ?_⟩, fun c1 => ⟨by omega, ?_⟩⟩⟩
      · rw [if_neg (by omega)] at hat
        exact fin (n + 1) f hn hat.symm hf
      · rw [if_pos c1] at hat
        rw [z_u_zrow, show ((n + 1 : Nat) : Int) + -1 = n by omega]
        refine ih _ (by omega) hat (fun j => ?_)
        by_cases e2 : j = 4564 + 50 * r + ((n + 1 : Nat) : Int)
        · rw [z_up_eq e2, if_pos (by omega), e2, show 4564 + 50 * r + ((n + 1 : Nat) : Int) - 1 = 4564 + 50 * r + n by omega]
        · rw [z_up_ne e2, hf j]
          by_cases e3 : 4564 + 50 * r + ((n + 1 : Nat) : Int) < j ∧ j ≤ 4564 + 50 * r + J 149 (10 + 14 * r + 13)
          · rw [if_pos e3, if_pos (by omega)]
          · rw [if_neg e3, if_neg (by omega)]
  refine w_251_0 hs ?_
  refine ⟨by omega, fun c => bad 1 0 (by rw [o_joinWaitlist, y_need_n (by omega)]) (by omega) _ y_tp.th, fun c => ⟨fun c1 => bad 1 0 (by rw [o_joinWaitlist, y_need_n (by omega)]) (by omega) _ y_tp.th, fun c1 => ⟨by omega, fun c2 => bad 1 0 (by rw [o_joinWaitlist, y_need_n (by omega)]) (by omega) _ y_tp.th, fun c2 => ⟨fun c3 => bad 1 0 (by rw [o_joinWaitlist, y_need_n (by omega)]) (by omega) _ y_tp.th, fun c3 => ?_⟩⟩⟩⟩
  have hi : 0 ≤ i ∧ i < J 149 3 := ⟨c, by omega⟩
  have hr : 0 ≤ r ∧ r < J 149 1 := ⟨c2, by omega⟩
  have c13 := (hb.ride hr.1 hr.2).2.2.2.2.2.2.2.2.2.2.2
  refine z_cI (c_placeOf (J := z_u J 148 2 0) hb hr) ⟨fun c4 => bad 0 (-3) (by rw [o_joinWaitlist, y_need_2 ⟨hi, hr⟩, if_pos (Or.inl (show y_place (J 149) i r ≠ -1 from c4))]) (by omega) _ y_tp.th0, fun c4 => ?_⟩
  refine z_cI (c_hasActive (J := z_u J 148 2 0) hb) ⟨fun c5 => ⟨by omega, ?_⟩, fun c5 => bad 0 (-3) (by rw [o_joinWaitlist, y_need_2 ⟨hi, hr⟩, if_pos (Or.inr (show y_has (J 149) i r = true from y_b_1.mp c5))]) (by omega) _ y_tp.th0⟩
  have := loop hi hr c4 (y_b_0.mp c5) (J 149 (10 + 14 * r + 13)).toNat (J 149) (by omega) rfl (fun j => by rw [if_neg (by omega)])
  rw [show z_row (z_u J 148 2 0) 149 (J 149) = z_u J 148 2 0 from z_row_self, show (((J 149 (10 + 14 * r + 13)).toNat : Nat) : Int) = J 149 (10 + 14 * r + 13) by omega] at this
  exact this
theorem p_leaveWaitlist (hb : y_base (J 149)) {i r : Int} : z_Sem l (d + 3) M_R_leaveWaitlist [.inr (.inr (.ref 148)), .inl i, .inl r] (m_Ex g T, J, X) 0 0 (z_rq (m_Ex g T) (fun v J' X' => X' = X ∧ y_tp J (k_leaveWaitlist (J 149) i r) (o_leaveWaitlist (J 149) i r).1 J' ∧ v = (o_leaveWaitlist (J 149) i r).2)) := by
  obtain ⟨h0, h1, h2, h3, h4, h5⟩ := hb.1
  have bad : ¬ ((0 ≤ i ∧ i < J 149 3) ∧ (0 ≤ r ∧ r < J 149 1)) → z_rq (m_Ex g T) (fun v J' X' => X' = X ∧ y_tp J (k_leaveWaitlist (J 149) i r) (o_leaveWaitlist (J 149) i r).1 J' ∧ v = (o_leaveWaitlist (J 149) i r).2) (.inl (some (.inl 0))) (m_Ex g T, z_u (z_u J 148 2 0) 148 2 1, X) := by
    intro hn
    rw [k_leaveWaitlist, if_neg hn, o_leaveWaitlist, y_need_n hn]
    exact ⟨_, _, _, rfl, rfl, rfl, y_tp.th, rfl⟩
  refine z_sem_of z_m252 m_ok_252 (Nat.le_of_ble_eq_true rfl) (fun Wp hs hv hS => ?_)
  refine w_252_0 hs ?_
  refine ⟨by omega, fun c => bad (by omega), fun c => ⟨fun c1 => bad (by omega), fun c1 => ⟨by omega, fun c2 => bad (by omega), fun c2 => ⟨fun c3 => bad (by omega), fun c3 => ?_⟩⟩⟩⟩
  have hi : 0 ≤ i ∧ i < J 149 3 := ⟨c, by omega⟩
  have hr : 0 ≤ r ∧ r < J 149 1 := ⟨c2, by omega⟩
  have pb := y_place_b (q := J 149) (i := i) (r := r)
  refine z_cI (c_placeOf (J := z_u J 148 2 0) hb hr) ⟨fun c4 => ?_, fun c4 => ?_⟩
  · have c4 : y_place (J 149) i r ≠ -1 := c4
    refine z_cI (c_placeOf (J := z_u J 148 2 0) hb hr) (z_cV (c_removeWaiting (J := z_u J 148 2 0) (x := y_place (J 149) i r) hb hr (show 0 ≤ y_place (J 149) i r ∧ y_place (J 149) i r < J 149 (10 + 14 * r + 13) by omega)) ?_)
    rw [k_leaveWaitlist, if_pos ⟨hi, hr⟩, k_leave, if_neg c4, o_leaveWaitlist, y_need_2 ⟨hi, hr⟩, if_neg c4]
    exact ⟨_, _, _, rfl, rfl, rfl, (y_to.put (J := z_u J 148 2 0)).tp, rfl⟩
  · have c4 : y_place (J 149) i r = -1 := c4
    rw [k_leaveWaitlist, if_pos ⟨hi, hr⟩, k_leave, if_pos c4, o_leaveWaitlist, y_need_2 ⟨hi, hr⟩, if_pos c4]
    exact ⟨_, _, _, rfl, rfl, rfl, y_tp.th0, rfl⟩
end R10
