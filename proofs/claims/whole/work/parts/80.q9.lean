/-! pieces of x_day carried over; waitlists and parties grow (written by wip/whole/gen80.py) -/
section X4
variable {q q' : Int → Int} {J J' : z_J}
theorem x_heads_c (hJ : ∀ b, b = 36 ∨ b = 37 ∨ b = 49 ∨ b = 57 → J' b = J b) (hq : ∀ j, 0 ≤ j → j ≤ 5 → q' j = q j) (h : x_heads 36 q J) : x_heads 36 q' J' := by
  unfold x_heads at *
  rw [hJ 36 (by omega), hJ (36 + 1) (by omega), hJ (36 + 13) (by omega), hJ (36 + 21) (by omega), hq 0 (by omega) (by omega), hq 1 (by omega) (by omega), hq 2 (by omega) (by omega), hq 3 (by omega) (by omega), hq 4 (by omega) (by omega), hq 5 (by omega) (by omega)]
  exact h
theorem x_ride_c {r : Int} (hJ : ∀ b, 38 ≤ b → b ≤ 48 → J' b = J b) (hq : ∀ w, 0 ≤ w → w < 13 → w ≠ 6 → w ≠ 7 → q' (10 + 14 * r + w) = q (10 + 14 * r + w)) (h : x_ride 36 q J r) : x_ride 36 q' J' r := by
  unfold x_ride at *
  rw [hJ (36 + 2) (by omega) (by omega), hJ (36 + 3) (by omega) (by omega), hJ (36 + 4) (by omega) (by omega), hJ (36 + 5) (by omega) (by omega), hJ (36 + 6) (by omega) (by omega), hJ (36 + 7) (by omega) (by omega), hJ (36 + 8) (by omega) (by omega), hJ (36 + 9) (by omega) (by omega), hJ (36 + 10) (by omega) (by omega), hJ (36 + 11) (by omega) (by omega), hJ (36 + 12) (by omega) (by omega), hq 0 (by omega) (by omega) (by omega) (by omega), hq 1 (by omega) (by omega) (by omega) (by omega), hq 2 (by omega) (by omega) (by omega) (by omega), hq 3 (by omega) (by omega) (by omega) (by omega), hq 4 (by omega) (by omega) (by omega) (by omega), hq 5 (by omega) (by omega) (by omega) (by omega), hq 8 (by omega) (by omega) (by omega) (by omega), hq 9 (by omega) (by omega) (by omega) (by omega), hq 11 (by omega) (by omega) (by omega) (by omega), hq 10 (by omega) (by omega) (by omega) (by omega), hq 12 (by omega) (by omega) (by omega) (by omega)]
  exact h
theorem x_line_c {r : Int} (b6 : q (10 + 14 * r + 6) ≤ 150) (b7 : q (10 + 14 * r + 7) ≤ 61) (hJ : ∀ b, 77 + 6 * r.toNat ≤ b → b ≤ 82 + 6 * r.toNat → J' b = J b) (h6 : q' (10 + 14 * r + 6) = q (10 + 14 * r + 6)) (h7 : q' (10 + 14 * r + 7) = q (10 + 14 * r + 7)) (hm : ∀ j, 1188 + 300 * r ≤ j → j < 1488 + 300 * r → q' j = q j) (hs : ∀ j, 3588 + 122 * r ≤ j → j < 3710 + 122 * r → q' j = q j) (h : x_line 36 q J r) : x_line 36 q' J' r := by
  obtain ⟨c1, c2, c3, c4⟩ := h
  refine ⟨?_, ?_, fun k b1 b2 => ?_, fun k b1 b2 => ?_⟩
  · rw [hJ _ (by omega) (by omega), h6]; exact c1
  · rw [hJ _ (by omega) (by omega), h7]; exact c2
  · rw [h6] at b2
    rw [hJ _ (by omega) (by omega), hJ _ (by omega) (by omega), hm _ (by omega) (by omega), hm _ (by omega) (by omega)]
    exact c3 k b1 b2
  · rw [h7] at b2
    rw [hJ _ (by omega) (by omega), hJ _ (by omega) (by omega), hs _ (by omega) (by omega), hs _ (by omega) (by omega)]
    exact c4 k b1 b2
theorem x_wait_c {r : Int} (b13 : q (10 + 14 * r + 13) ≤ 50) (hJ : ∀ b, b = 74 ∨ b = 66 + r.toNat → J' b = J b) (h13 : q' (10 + 14 * r + 13) = q (10 + 14 * r + 13)) (hw : ∀ j, 4564 + 50 * r ≤ j → j < 4614 + 50 * r → q' j = q j) (h : x_wait 36 q J r) : x_wait 36 q' J' r := by
  obtain ⟨c1, c2⟩ := h
  refine ⟨?_, fun k b1 b2 => ?_⟩
  · rw [hJ _ (by omega), h13]; exact c1
  · rw [h13] at b2
    rw [hJ _ (by omega), hw _ (by omega) (by omega)]
    exact c2 k b1 b2
theorem x_tier_c {t : Int} (hJ : ∀ b, 50 ≤ b → b ≤ 53 → J' b = J b) (hq : ∀ w, 0 ≤ w → w < 4 → q' (122 + 4 * t + w) = q (122 + 4 * t + w)) (h : x_tier 36 q J t) : x_tier 36 q' J' t := by
  unfold x_tier at *
  rw [hJ (36 + 14) (by omega) (by omega), hJ (36 + 15) (by omega) (by omega), hJ (36 + 16) (by omega) (by omega), hJ (36 + 17) (by omega) (by omega), hq 0 (by omega) (by omega), hq 1 (by omega) (by omega), hq 2 (by omega) (by omega), hq 3 (by omega) (by omega)]
  exact h
theorem x_party_c {i : Int} (hJ : ∀ b, 54 ≤ b → b ≤ 56 → J' b = J b) (hq : ∀ w, 0 ≤ w → w < 3 → q' (138 + 3 * i + w) = q (138 + 3 * i + w)) (h : x_party 36 q J i) : x_party 36 q' J' i := by
  unfold x_party at *
  rw [hJ (36 + 18) (by omega) (by omega), hJ (36 + 19) (by omega) (by omega), hJ (36 + 20) (by omega) (by omega), hq 0 (by omega) (by omega), hq 1 (by omega) (by omega), hq 2 (by omega) (by omega)]
  exact h
theorem x_tk_c {t : Int} (hJ : ∀ b, 58 ≤ b → b ≤ 63 → J' b = J b) (hq : ∀ w, 0 ≤ w → w < 6 → q' (288 + 6 * t + w) = q (288 + 6 * t + w)) (h : x_tk 36 q J t) : x_tk 36 q' J' t := by
  unfold x_tk at *
  rw [hJ (36 + 22) (by omega) (by omega), hJ (36 + 23) (by omega) (by omega), hJ (36 + 24) (by omega) (by omega), hJ (36 + 25) (by omega) (by omega), hJ (36 + 26) (by omega) (by omega), hJ (36 + 27) (by omega) (by omega), hq 0 (by omega) (by omega), hq 1 (by omega) (by omega), hq 2 (by omega) (by omega), hq 3 (by omega) (by omega), hq 4 (by omega) (by omega), hq 5 (by omega) (by omega)]
  exact h
theorem y_insAt_b {i r : Int} (h : 0 ≤ q (10 + 14 * r + 13)) : 0 ≤ y_insAt q i r ∧ y_insAt q i r ≤ q (10 + 14 * r + 13) := by
  have := y_ins_le (q := q) (i := i) (r := r) (q (10 + 14 * r + 13)).toNat
  unfold y_insAt
  omega
theorem k_ins_old {i r j : Int} (h13 : 0 ≤ q (10 + 14 * r + 13) ∧ q (10 + 14 * r + 13) < 50) (h1 : j ≠ 10 + 14 * r + 13) (h2 : j < 4564 + 50 * r ∨ 4614 + 50 * r ≤ j) : k_ins q i r j = q j := by
  have b := y_insAt_b (q := q) (i := i) (r := r) h13.1
  unfold k_ins
  rw [if_neg h1, if_neg (by omega), if_neg (by omega)]
theorem x_ins {i r : Int} (hb : y_base q) (h : x_day 36 q J) (hr : 0 ≤ r ∧ r < q 1) (h50 : q (10 + 14 * r + 13) < 50) (h74 : J' 74 = z_up (J 74) r (q (10 + 14 * r + 13) + 1)) (hw : ∀ k, 0 ≤ k → k < q (10 + 14 * r + 13) + 1 → J' (66 + r.toNat) k = k_ins q i r (4564 + 50 * r + k)) (hf : ∀ b, b ≠ 74 → b ≠ 66 + r.toNat → J' b = J b) : x_day 36 (k_ins q i r) J' := by
  have hR := fun r a b => hb.ride (r := r) a b
  have c13 := (hR r hr.1 hr.2).2.2.2.2.2.2.2.2.2.2.2
  obtain ⟨h0, h1, h2, h3, h4, h5⟩ := hb.1
  obtain ⟨k0, k1, k2, k3, k4, k5⟩ := h
  have O := fun (j : Int) => k_ins_old (q := q) (i := i) (r := r) (j := j) ⟨c13.1, h50⟩
  have e1 := O 1 (by omega) (by omega)
  have e2 := O 2 (by omega) (by omega)
  have e3 := O 3 (by omega) (by omega)
  have e5 := O 5 (by omega) (by omega)
  refine ⟨x_heads_c (fun b hb9 => hf b (by omega) (by omega)) (fun j a1 a2 => O j (by omega) (by omega)) k0, fun r' a1 a2 => ?_, fun t' a1 a2 => ?_, fun i' a1 a2 => ?_, fun t' a1 a2 => ?_, fun r5 a1 a2 => by have w5 := k5 r5 (by omega) a2; rw [hf _ (by omega) (by omega), hf _ (by omega) (by omega), hf _ (by omega) (by omega)]; exact w5⟩
  · rw [e1] at a2
    obtain ⟨c1, c2, c3⟩ := k1 r' a1 a2
    have w6 := (hR r' a1 a2).2.2.2.2.2.1
    have w7 := (hR r' a1 a2).2.2.2.2.2.2.1
    have w13 := (hR r' a1 a2).2.2.2.2.2.2.2.2.2.2.2
    refine ⟨x_ride_c (fun b b1 b2 => hf b (by omega) (by omega)) (fun w b1 b2 b3 b4 => O _ (by omega) (by omega)) c1, x_line_c (by omega) (by omega) (fun b b1 b2 => hf b (by omega) (by omega)) (O _ (by omega) (by omega)) (O _ (by omega) (by omega)) (fun j b1 b2 => O j (by omega) (by omega)) (fun j b1 b2 => O j (by omega) (by omega)) c2, ?_⟩
    by_cases hrr : r' = r
    · subst hrr
      have e13 : k_ins q i r' (10 + 14 * r' + 13) = q (10 + 14 * r' + 13) + 1 := by rw [k_ins, if_pos rfl]
      refine ⟨?_, fun k b1 b2 => ?_⟩
      · show J' 74 r' = _
        rw [h74, z_up_eq rfl, e13]
      · rw [e13] at b2
        exact hw k b1 b2
    · refine ⟨?_, fun k b1 b2 => ?_⟩
      · show J' 74 r' = _
        rw [h74, z_up_ne hrr, O _ (by omega) (by omega)]
        exact c3.1
      · rw [O _ (by omega) (by omega)] at b2
        rw [hf _ (by omega) (by omega), O _ (by omega) (by omega)]
        exact c3.2 k b1 b2
  · rw [e2] at a2
    exact x_tier_c (fun b b1 b2 => hf b (by omega) (by omega)) (fun w b1 b2 => O _ (by omega) (by omega)) (k2 t' a1 a2)
  · rw [e3] at a2
    exact x_party_c (fun b b1 b2 => hf b (by omega) (by omega)) (fun w b1 b2 => O _ (by omega) (by omega)) (k3 i' a1 a2)
  · rw [e5] at a2
    exact x_tk_c (fun b b1 b2 => hf b (by omega) (by omega)) (fun w b1 b2 => O _ (by omega) (by omega)) (k4 t' a1 a2)
end X4
section Q9
variable {l : Launch} {d : Nat} {g : List (Option Nat)} {T : m_E} {J : z_J} {X : z_X} {q : Int → Int}
theorem e_insert (hb : y_base q) (h : x_day 36 q J) {i r : Int} (hi : 0 ≤ i ∧ i < q 3) (hr : 0 ≤ r ∧ r < q 1) (h50 : q (10 + 14 * r + 13) < 50) : z_Sem l (d + 2) M_Waitlists_insert [.inr (.inr (.ref 64)), .inl r, .inl i, .inr (.inr (.ref 49))] (m_Ex g T, J, X) 0 0 (z_rq (m_Ex g T) (fun v J' X' => X' = X ∧ x_day 36 (k_ins q i r) J' ∧ (∀ b, b < 66 ∨ 74 < b → J' b = J b) ∧ v = y_insAt q i r)) := by
  have h1 := hb.1.2.1
  have h2 := hb.1.2.2.1
  have h3 := hb.1.2.2.2.1
  have c13 := (hb.ride hr.1 hr.2).2.2.2.2.2.2.2.2.2.2.2
  have wl := (hb.2.1 r hr.1 hr.2).2.2.1
  have w := h.wait hr.1 hr.2
  have pi := h.party hi.1 hi.2
  have ti := (hb.party hi.1 hi.2).1
  have ri := h.tier (t := q (138 + 3 * i + 0)) (by omega) (by omega)
  refine z_sem_of z_m111 m_ok_111 (Nat.le_of_ble_eq_true rfl) (fun Wp hs hv hS => ?_)
  have fin : ∀ (n : Nat) (J1 : z_J), (n : Int) ≤ q (10 + 14 * r + 13) → y_ins q i r (q (10 + 14 * r + 13)).toNat = n → (∀ b, b ≠ 66 + r.toNat → J1 b = J b) → (∀ j, 0 ≤ j → j ≤ q (10 + 14 * r + 13) → j ≠ n → J1 (66 + r.toNat) j = if (n : Int) < j then q (4564 + 50 * r + j - 1) else q (4564 + 50 * r + j)) → z_rq (m_Ex g T) (fun v J' X' => X' = X ∧ x_day 36 (k_ins q i r) J' ∧ (∀ b, b < 66 ∨ 74 < b → J' b = J b) ∧ v = y_insAt q i r) (.inl (some (.inl (n : Int)))) (m_Ex g T, z_u (z_u J1 (66 + r.toNat) n i) 74 r (q (10 + 14 * r + 13) + 1), X) := by
    intro n J1 hn hat hf hw
    have ea : y_insAt q i r = n := by rw [y_insAt, hat]
    refine ⟨_, _, _, rfl, rfl, rfl, x_ins hb h hr h50 ?_ (fun k b1 b2 => ?_) (fun b b1 b2 => ?_), fun b hb9 => ?_, ea.symm⟩
    · rw [z_u_row, z_u_ne (by omega), hf 74 (by omega)]
    · rw [z_u_ne (by omega)]
      unfold k_ins
      rw [ea, if_neg (by omega)]
      by_cases hk : k = n
      · rw [z_u_at hk, if_pos (by omega)]
      · rw [z_u_off hk, hw k b1 (by omega) hk, if_neg (show ¬ (4564 + 50 * r + k = 4564 + 50 * r + n) by omega)]
        by_cases hk2 : (n : Int) < k
        · rw [if_pos hk2, if_pos (by omega)]
        · rw [if_neg hk2, if_neg (by omega)]
    · rw [z_u_ne b1, z_u_ne b2]; exact hf b b2
    · rw [z_u_ne (by omega), z_u_ne (by omega)]; exact hf b (by omega)
  have loop : ∀ (n : Nat) (J1 : z_J), (n : Int) ≤ q (10 + 14 * r + 13) → y_ins q i r n = y_ins q i r (q (10 + 14 * r + 13)).toNat → (∀ b, b ≠ 66 + r.toNat → J1 b = J b) → (∀ j, 0 ≤ j → j ≤ q (10 + 14 * r + 13) → j ≠ n → J1 (66 + r.toNat) j = if (n : Int) < j then q (4564 + 50 * r + j - 1) else q (4564 + 50 * r + j)) → Wp 22 [some (.inr (.inr (.ref 64))), some (.inl r), some (.inl i), some (.inr (.inr (.ref 49))), some (.inl n)] [] (m_Ex g T, J1, X) 0 0 := by
    intro n
    induction n with
    | zero =>
      intro J1 hn hat hf hw
      have e74 : (z_u J1 (66 + r.toNat) ((0 : Nat) : Int) i) 74 r = q (10 + 14 * r + 13) := by rw [z_u_ne (by omega), hf 74 (by omega)]; exact w.1
      refine w_111_22 hs ?_
      rw [e74]
      exact ⟨fun c => ⟨by omega, by omega, fin 0 J1 hn hat.symm hf hw⟩, fun c => by omega⟩
    | succ n ih =>
      intro J1 hn hat hf hw
      have en : ((n + 1 : Nat) : Int) - 1 = n := by omega
      have e74 : (z_u J1 (66 + r.toNat) ((n + 1 : Nat) : Int) i) 74 r = q (10 + 14 * r + 13) := by rw [z_u_ne (by omega), hf 74 (by omega)]; exact w.1
      have ew : J1 (66 + r.toNat) n = q (4564 + 50 * r + n) := by rw [hw n (by omega) (by omega) (by omega), if_neg (by omega)]
      have wn := wl.1 n (by omega) (by omega)
      have pw := h.party wn.1 wn.2
      have tw := (hb.party wn.1 wn.2).1
      have rw9 := h.tier (t := q (138 + 3 * q (4564 + 50 * r + n) + 0)) (by omega) (by omega)
      have er : J1 53 (J1 54 (J1 (66 + r.toNat) n)) = y_rank q (q (4564 + 50 * r + n)) := by rw [ew, hf 54 (by omega), hf 53 (by omega), pw.1, rw9.2.2.2]; rfl
      have eri : J1 53 (J1 54 i) = y_rank q i := by rw [hf 54 (by omega), hf 53 (by omega), pi.1, ri.2.2.2]; rfl
      have et : J1 54 (J1 (66 + r.toNat) n) = q (138 + 3 * q (4564 + 50 * r + n) + 0) := by rw [ew, hf 54 (by omega), pw.1]
      have eti : J1 54 i = q (138 + 3 * i + 0) := by rw [hf 54 (by omega), pi.1]
      rw [y_ins] at hat
      refine w_111_22 hs ?_
      rw [e74, en, er, eri, et, eti, ew]
      refine ⟨fun c => by omega, fun c => ⟨by omega, by omega, fun c1 => ⟨by omega, by omega, ?_⟩, fun c1 => ⟨by omega, by omega, by omega, ?_⟩⟩⟩
      · rw [if_neg (by omega)] at hat
        exact fin (n + 1) J1 hn hat.symm hf hw
      · rw [if_pos c1] at hat
        rw [show ((n + 1 : Nat) : Int) + -1 = n by omega]
        refine ih _ (by omega) hat (fun b b1 => by rw [z_u_ne b1]; exact hf b b1) (fun j a1 a2 a3 => ?_)
        by_cases e2 : j = ((n + 1 : Nat) : Int)
        · rw [z_u_at e2, if_pos (by omega), e2, show 4564 + 50 * r + ((n + 1 : Nat) : Int) - 1 = 4564 + 50 * r + n by omega]
        · rw [z_u_off e2, hw j a1 a2 e2]
          by_cases e3 : ((n + 1 : Nat) : Int) < j
          · rw [if_pos e3, if_pos (by omega)]
          · rw [if_neg e3, if_neg (by omega)]
  refine w_111_0 hs ?_
  rw [w.1]
  refine ⟨by omega, fun c => ⟨by omega, ?_⟩, fun c => by omega⟩
  have := loop (q (10 + 14 * r + 13)).toNat J (by omega) rfl (fun _ _ => rfl) (fun j a1 a2 a3 => by rw [if_neg (by omega)]; exact w.2 j a1 (by omega))
  rw [show (((q (10 + 14 * r + 13)).toNat : Nat) : Int) = q (10 + 14 * r + 13) by omega] at this
  exact this
theorem e_putOnWaitlist (hb : y_base q) (h : x_day 36 q J) {i r : Int} (hi : 0 ≤ i ∧ i < q 3) (hr : 0 ≤ r ∧ r < q 1) : z_Sem l (d + 3) M_Day_putOnWaitlist [.inr (.inr (.ref 36)), .inl i, .inl r] (m_Ex g T, J, X) 0 0 (z_rq (m_Ex g T) (fun v J' X' => X' = X ∧ x_day 36 (k_joinWaitlist q i r) J' ∧ x_fr J J' ∧ v = (o_joinWaitlist q i r).2)) := by
  have h3 := hb.1.2.2.2.1
  have c13 := (hb.ride hr.1 hr.2).2.2.2.2.2.2.2.2.2.2.2
  have bad : o_joinWaitlist q i r = (0, -3) → z_rq (m_Ex g T) (fun v J' X' => X' = X ∧ x_day 36 (k_joinWaitlist q i r) J' ∧ x_fr J J' ∧ v = (o_joinWaitlist q i r).2) (.inl (some (.inl (-3)))) (m_Ex g T, J, X) := by
    intro ho
    rw [k_joinWaitlist, ho, if_neg (by show ¬ ((0 : Int) = 0 ∧ (0 : Int) ≤ -3); omega)]
    exact ⟨_, _, _, rfl, rfl, rfl, h, x_fr.rf, rfl⟩
  refine z_sem_of z_m10 m_ok_10 (Nat.le_of_ble_eq_true rfl) (fun Wp hs hv hS => ?_)
  refine w_10_0 hs ?_
  refine z_cI (e_positionOf hb h hr) ⟨fun c4 => bad (by rw [o_joinWaitlist, y_need_2 ⟨hi, hr⟩, if_pos (Or.inl c4)]), fun c4 => ?_⟩
  refine z_cI (e_hasActive hb h) ⟨fun c5 => ?_, fun c5 => bad (by rw [o_joinWaitlist, y_need_2 ⟨hi, hr⟩, if_pos (Or.inr (y_b_1.mp c5))])⟩
  have room := y_wait_room hb hi hr c4
  have ib := y_insAt_b (q := q) (i := i) (r := r) c13.1
  refine z_cIq (e_insert hb h hi hr (by omega)) ?_
  rintro v J2 X2 ⟨rfl, x2, f2, rfl⟩
  have ho : o_joinWaitlist q i r = (0, y_insAt q i r) := by
    rw [o_joinWaitlist, y_need_2 ⟨hi, hr⟩, if_neg (by rw [y_b_0.mp c5]; rintro (z | z); exact z c4; cases z)]
  refine ⟨_, _, _, rfl, rfl, rfl, ?_, fun b hb9 => f2 b (by omega), by rw [ho]⟩
  rw [k_joinWaitlist, ho, if_pos ⟨rfl, ib.1⟩]; exact x2
theorem q_joinWaitlist (hb : y_base q) (h : x_day 36 q J) {i r : Int} : z_Sem l (d + 4) M_Q_joinWaitlist [.inr (.inr (.ref 0)), .inl i, .inl r] (m_Ex g T, J, X) 4 24 (x_out x_e1 x_e2 (o_joinWaitlist q i r) (m_Ex g T) (fun J' X' => X' = X ∧ x_day 36 (k_joinWaitlist q i r) J' ∧ x_fr J J')) := by
  obtain ⟨b0, b1, b2, b3, b4, b5⟩ := hb.1
  obtain ⟨d0, d4, d1, d2, d3, d5⟩ := h.hd
  have t1 : ¬ ((0 ≤ i ∧ i < q 3) ∧ (0 ≤ r ∧ r < q 1)) → x_out x_e1 x_e2 (o_joinWaitlist q i r) (m_Ex g T) (fun J' X' => X' = X ∧ x_day 36 (k_joinWaitlist q i r) J' ∧ x_fr J J') (.inr x_e1) (m_Ex g T, J, X) := fun hn => by
    have ho : o_joinWaitlist q i r = (1, 0) := by rw [o_joinWaitlist, y_need_n hn]
    exact x_t1 ho ⟨rfl, by rw [k_joinWaitlist, ho, if_neg (by show ¬ ((1 : Int) = 0 ∧ (0 : Int) ≤ 0); omega)]; exact h, x_fr.rf⟩
  refine z_sem_of z_m156 m_ok_156 (Nat.le_of_ble_eq_true rfl) (fun Wp hs hv hS => ?_)
  refine w_156_0 hs ?_
  refine ⟨by omega, fun c => t1 (by omega), fun c => ⟨fun c1 => ⟨by omega, fun c2 => t1 (by omega), fun c2 => ⟨fun c3 => ?_, fun c3 => t1 (by omega)⟩⟩, fun c1 => t1 (by omega)⟩⟩
  refine z_cIq (e_putOnWaitlist hb h ⟨c, by omega⟩ ⟨c2, by omega⟩) ?_
  rintro v J2 X2 ⟨rfl, x2, f2, rfl⟩
  exact x_ok (by rw [o_joinWaitlist, y_need_2 (by omega)]) ⟨rfl, x2, f2⟩
end Q9
