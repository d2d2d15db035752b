/-! the class: waitlists shrink -/
theorem z_up_comm {q : Int → Int} {a b x y : Int} (h : a ≠ b) : z_up (z_up q a x) b y = z_up (z_up q b y) a x := by
  funext j
  unfold z_up
  by_cases h1 : j = b
  · rw [if_pos h1, if_neg (by omega), if_pos h1]
  · by_cases h2 : j = a
    · rw [if_neg h1, if_pos h2, if_pos h2]
    · rw [if_neg h1, if_neg h2, if_neg h2, if_neg h1]
theorem k_rm_up {q : Int → Int} {r x k v : Int} (hr : 0 ≤ r) (hx : 0 ≤ x) (hk : k < 4564) (h13 : k ≠ 10 + 14 * r + 13) : k_rm (z_up q k v) r x = z_up (k_rm q r x) k v := by
  funext j
  by_cases hj : j = k
  · rw [hj, z_up_eq rfl]
    unfold k_rm
    rw [if_neg h13, if_neg (by omega), z_up_eq rfl]
  · rw [z_up_ne hj]
    unfold k_rm
    rw [z_up_ne hj, z_up_ne (show 10 + 14 * r + 13 ≠ k by omega)]
    by_cases h2 : 4564 + 50 * r + x ≤ j ∧ j < 4564 + 50 * r + (q (10 + 14 * r + 13) - 1)
    · rw [if_pos h2, if_pos h2, z_up_ne (by omega)]
    · rw [if_neg h2, if_neg h2]
theorem y_place_up {q : Int → Int} {i r k v : Int} (hr : 0 ≤ r) (hk : k < 4564) (h13 : k ≠ 10 + 14 * r + 13) : y_place (z_up q k v) i r = y_place q i r := by
  unfold y_place
  rw [z_up_ne (show 10 + 14 * r + 13 ≠ k by omega)]
  refine y_first_congr (fun j hj => ?_)
  unfold y_pl
  rw [z_up_ne (by omega)]
theorem k_leave_up {q : Int → Int} {i r k v : Int} (hr : 0 ≤ r) (hk : k < 4564) (h13 : k ≠ 10 + 14 * r + 13) : k_leave (z_up q k v) i r = z_up (k_leave q i r) k v := by
  have b := y_place_b (q := q) (i := i) (r := r)
  unfold k_leave
  rw [y_place_up hr hk h13]
  split
  · rfl
  · exact k_rm_up hr (by omega) hk h13
/-- a ticket more, but for the party's last slot -/
def k_tk (q : Int → Int) (i r s : Int) : Int → Int := z_up (z_up (z_up (z_up (z_up (z_up (z_up q 5 (q 5 + 1)) (288 + 6 * q 5 + 0) i) (288 + 6 * q 5 + 1) r) (288 + 6 * q 5 + 2) s) (288 + 6 * q 5 + 3) (s + q (10 + 14 * r + 2) - 1)) (288 + 6 * q 5 + 4) 0) (288 + 6 * q 5 + 5) 0
theorem k_hand {q : Int → Int} (hb : y_base q) {i r s : Int} (hi : 0 ≤ i ∧ i < q 3) (hr : 0 ≤ r ∧ r < q 1) (h150 : q 5 < 150) : k_tk (k_leave (z_up q (138 + 3 * i + 2) (q 0)) i r) i r s = k_leave (k_add q i r s) i r := by
  obtain ⟨h0, h1, h2, h3, h4, h5⟩ := hb.1
  have L := fun (f : Int → Int) (k v : Int) (hk : k < 4564) (h13 : k ≠ 10 + 14 * r + 13) => k_leave_up (q := f) (i := i) (r := r) (v := v) hr.1 hk h13
  rw [k_add, L _ _ _ (by omega) (by omega), L _ _ _ (by omega) (by omega), L _ _ _ (by omega) (by omega), L _ _ _ (by omega) (by omega), L _ _ _ (by omega) (by omega), L _ _ _ (by omega) (by omega), L _ _ _ (by omega) (by omega), L _ _ _ (by omega) (by omega)]
  rw [L _ _ _ (by omega) (by omega)]
  have e5 : k_leave q i r 5 = q 5 := k_leave_old hr.1 (by omega) (by omega)
  have e2 : k_leave q i r (10 + 14 * r + 2) = q (10 + 14 * r + 2) := k_leave_old hr.1 (by omega) (by omega)
  rw [k_tk, z_up_ne (show (5 : Int) ≠ 138 + 3 * i + 2 by omega), z_up_ne (show 10 + 14 * r + 2 ≠ 138 + 3 * i + 2 by omega), e5, e2]
  rw [z_up_comm (a := 138 + 3 * i + 2) (b := 5) (by omega), z_up_comm (a := 138 + 3 * i + 2) (b := 288 + 6 * q 5 + 0) (by omega), z_up_comm (a := 138 + 3 * i + 2) (b := 288 + 6 * q 5 + 1) (by omega), z_up_comm (a := 138 + 3 * i + 2) (b := 288 + 6 * q 5 + 2) (by omega), z_up_comm (a := 138 + 3 * i + 2) (b := 288 + 6 * q 5 + 3) (by omega), z_up_comm (a := 138 + 3 * i + 2) (b := 288 + 6 * q 5 + 4) (by omega), z_up_comm (a := 138 + 3 * i + 2) (b := 288 + 6 * q 5 + 5) (by omega)]
section X2
variable {q : Int → Int} {J J' : z_J} {r x : Int}
theorem x_rm (hb : y_base q) (h : x_day 36 q J) (hr : 0 ≤ r ∧ r < q 1) (hx : 0 ≤ x ∧ x < q (10 + 14 * r + 13)) (h74 : J' 74 = z_up (J 74) r (q (10 + 14 * r + 13) - 1)) (hw : ∀ k, 0 ≤ k → k < q (10 + 14 * r + 13) - 1 → J' (66 + r.toNat) k = k_rm q r x (4564 + 50 * r + k)) (hf : ∀ b, b ≠ 74 → b ≠ 66 + r.toNat → J' b = J b) : x_day 36 (k_rm q r x) J' := by
  have hR := fun r a b => hb.ride (r := r) a b
  have wr13 := (hR r hr.1 hr.2).2.2.2.2.2.2.2.2.2.2.2
  obtain ⟨h0, h1, h2, h3, h4, h5⟩ := hb.1
  obtain ⟨k0, k1, k2, k3, k4, k5⟩ := h
  have O := fun (j : Int) (h : j < 4564) (h' : j ≠ 10 + 14 * r + 13) => k_rm_old (q := q) (r := r) (x := x) (j := j) h' (by omega)
  have e1 := O 1 (by omega) (by omega)
  have e2 := O 2 (by omega) (by omega)
  have e3 := O 3 (by omega) (by omega)
  have e5 := O 5 (by omega) (by omega)
  refine ⟨?_, fun r' a1 a2 => ?_, fun t' a1 a2 => ?_, fun i' a1 a2 => ?_, fun t' a1 a2 => ?_, fun r5 a1 a2 => by have w5 := k5 r5 (by omega) a2; rw [hf _ (by omega) (by omega), hf _ (by omega) (by omega), hf _ (by omega) (by omega)]; exact w5⟩
  · unfold x_heads at *
    rw [hf 36 (by omega) (by omega), hf (36 + 1) (by omega) (by omega), hf (36 + 13) (by omega) (by omega), hf (36 + 21) (by omega) (by omega), O 0 (by omega) (by omega), O 4 (by omega) (by omega), e1, e2, e3, e5]
    exact k0
  · rw [e1] at a2
    obtain ⟨c1, c2, c3⟩ := k1 r' a1 a2
    have w6 := (hR r' a1 a2).2.2.2.2.2.1
    have w7 := (hR r' a1 a2).2.2.2.2.2.2.1
    have w13 := (hR r' a1 a2).2.2.2.2.2.2.2.2.2.2.2
    have g6 := O (10 + 14 * r' + 6) (by omega) (by omega)
    have g7 := O (10 + 14 * r' + 7) (by omega) (by omega)
    refine ⟨?_, ⟨?_, ?_, fun k b1 b2 => ?_, fun k b1 b2 => ?_⟩, ?_⟩
    · unfold x_ride at *
      rw [hf (36 + 2) (by omega) (by omega), hf (36 + 3) (by omega) (by omega), hf (36 + 4) (by omega) (by omega), hf (36 + 5) (by omega) (by omega), hf (36 + 6) (by omega) (by omega), hf (36 + 7) (by omega) (by omega), hf (36 + 8) (by omega) (by omega), hf (36 + 9) (by omega) (by omega), hf (36 + 10) (by omega) (by omega), hf (36 + 11) (by omega) (by omega), hf (36 + 12) (by omega) (by omega), O (10 + 14 * r' + 0) (by omega) (by omega), O (10 + 14 * r' + 1) (by omega) (by omega), O (10 + 14 * r' + 2) (by omega) (by omega), O (10 + 14 * r' + 3) (by omega) (by omega), O (10 + 14 * r' + 4) (by omega) (by omega), O (10 + 14 * r' + 5) (by omega) (by omega), O (10 + 14 * r' + 8) (by omega) (by omega), O (10 + 14 * r' + 9) (by omega) (by omega), O (10 + 14 * r' + 10) (by omega) (by omega), O (10 + 14 * r' + 11) (by omega) (by omega), O (10 + 14 * r' + 12) (by omega) (by omega)]
      exact c1
    · rw [hf _ (by omega) (by omega), g6]; exact c2.1
    · rw [hf _ (by omega) (by omega), g7]; exact c2.2.1
    · rw [g6] at b2
      rw [hf _ (by omega) (by omega), hf _ (by omega) (by omega), O _ (by omega) (by omega), O _ (by omega) (by omega)]
      exact c2.2.2.1 k b1 b2
    · rw [g7] at b2
      rw [hf _ (by omega) (by omega), hf _ (by omega) (by omega), O _ (by omega) (by omega), O _ (by omega) (by omega)]
      exact c2.2.2.2 k b1 b2
    · unfold x_wait at *
      by_cases hrr : r' = r
      · subst hrr
        refine ⟨?_, fun k b1 b2 => ?_⟩
        · show J' 74 r' = _
          rw [h74, z_up_eq rfl, k_rm_13]
        · rw [k_rm_13] at b2
          exact hw k b1 b2
      · refine ⟨?_, fun k b1 b2 => ?_⟩
        · show J' 74 r' = _
          rw [h74, z_up_ne hrr, O _ (by omega) (by omega)]
          exact c3.1
        · rw [O _ (by omega) (by omega)] at b2
          rw [hf _ (by omega) (by omega), k_rm_old (by omega) (by omega)]
          exact c3.2 k b1 b2
  · rw [e2] at a2
    have c := k2 t' a1 a2
    unfold x_tier at *
    rw [hf (36 + 14) (by omega) (by omega), hf (36 + 15) (by omega) (by omega), hf (36 + 16) (by omega) (by omega), hf (36 + 17) (by omega) (by omega), O (122 + 4 * t' + 0) (by omega) (by omega), O (122 + 4 * t' + 1) (by omega) (by omega), O (122 + 4 * t' + 2) (by omega) (by omega), O (122 + 4 * t' + 3) (by omega) (by omega)]
    exact c
  · rw [e3] at a2
    have c := k3 i' a1 a2
    unfold x_party at *
    rw [hf (36 + 18) (by omega) (by omega), hf (36 + 19) (by omega) (by omega), hf (36 + 20) (by omega) (by omega), O (138 + 3 * i' + 0) (by omega) (by omega), O (138 + 3 * i' + 1) (by omega) (by omega), O (138 + 3 * i' + 2) (by omega) (by omega)]
    exact c
  · rw [e5] at a2
    have c := k4 t' a1 a2
    unfold x_tk at *
    rw [hf (36 + 22) (by omega) (by omega), hf (36 + 23) (by omega) (by omega), hf (36 + 24) (by omega) (by omega), hf (36 + 25) (by omega) (by omega), hf (36 + 26) (by omega) (by omega), hf (36 + 27) (by omega) (by omega), O (288 + 6 * t' + 0) (by omega) (by omega), O (288 + 6 * t' + 1) (by omega) (by omega), O (288 + 6 * t' + 2) (by omega) (by omega), O (288 + 6 * t' + 3) (by omega) (by omega), O (288 + 6 * t' + 4) (by omega) (by omega), O (288 + 6 * t' + 5) (by omega) (by omega)]
    exact c
end X2
section Q5
variable {l : Launch} {d : Nat} {g : List (Option Nat)} {T : m_E} {J : z_J} {X : z_X} {q : Int → Int}
theorem e_remove (hb : y_base q) (h : x_day 36 q J) {i r : Int} (hr : 0 ≤ r ∧ r < q 1) : z_Sem l (d + 2) M_Waitlists_remove [.inr (.inr (.ref 64)), .inl r, .inl i] (m_Ex g T, J, X) 0 0 (z_rq (m_Ex g T) (fun v J' X' => X' = X ∧ x_day 36 (k_leave q i r) J' ∧ (∀ b, b < 66 ∨ 74 < b → J' b = J b) ∧ v = (if y_place q i r = -1 then 0 else 1))) := by
  have h1 := hb.1.2.1
  have c13 := (hb.ride hr.1 hr.2).2.2.2.2.2.2.2.2.2.2.2
  have w := h.wait hr.1 hr.2
  have pb := y_place_b (q := q) (i := i) (r := r)
  refine z_sem_of z_m109 m_ok_109 (Nat.le_of_ble_eq_true rfl) (fun Wp hs hv hS => ?_)
  have loop : y_place q i r ≠ -1 → ∀ (n : Nat) (k : Int) (J1 : z_J), k + n = q (10 + 14 * r + 13) - 1 → y_place q i r ≤ k → J1 74 = z_up (J 74) r (q (10 + 14 * r + 13) - 1) → (∀ b, b ≠ 74 → b ≠ 66 + r.toNat → J1 b = J b) → (∀ j, 0 ≤ j → j < q (10 + 14 * r + 13) → J1 (66 + r.toNat) j = if y_place q i r ≤ j ∧ j < k then q (4564 + 50 * r + j + 1) else q (4564 + 50 * r + j)) → Wp 27 [some (.inr (.inr (.ref 64))), some (.inl r), some (.inl i), some (.inl (y_place q i r)), some (.inl k)] [] (m_Ex g T, J1, X) 0 0 := by
    intro hp n
    induction n with
    | zero =>
      intro k J1 hk hxk h74 hf hw
      have e74 : J1 74 r = q (10 + 14 * r + 13) - 1 := by rw [h74, z_up_eq rfl]
      refine w_109_27 hs ?_
      rw [e74]
      refine ⟨by omega, fun c => ⟨_, _, _, rfl, rfl, rfl, ?_, fun b hb9 => hf b (by omega) (by omega), by rw [if_neg hp]⟩, fun c => by omega⟩
      rw [k_leave, if_neg hp]
      refine x_rm hb h hr (by omega) h74 (fun j a1 a2 => ?_) hf
      rw [hw j a1 (by omega)]
      by_cases hj : y_place q i r ≤ j
      · rw [if_pos (by omega), k_rm_in (by omega) (by omega) (by omega) (by omega)]
      · rw [if_neg (by omega), k_rm_old (by omega) (by omega)]
    | succ n ih =>
      intro k J1 hk hxk h74 hf hw
      have e74 : J1 74 r = q (10 + 14 * r + 13) - 1 := by rw [h74, z_up_eq rfl]
      have ek := hw (k + 1) (by omega) (by omega)
      rw [if_neg (by omega)] at ek
      refine w_109_27 hs ?_
      rw [e74, ek]
      refine ⟨by omega, fun c => by omega, fun c => ⟨by omega, by omega, by omega, ih (k + 1) _ (by omega) (by omega) ?_ (fun b b1 b2 => ?_) (fun j a1 a2 => ?_)⟩⟩
      · rw [z_u_ne (by omega)]; exact h74
      · rw [z_u_ne b2]; exact hf b b1 b2
      · by_cases hj : j = k
        · rw [hj, z_u_at rfl, if_pos (by omega), show 4564 + 50 * r + (k + 1) = 4564 + 50 * r + k + 1 by omega]
        · rw [z_u_off hj, hw j a1 a2]
          by_cases h9 : y_place q i r ≤ j ∧ j < k
          · rw [if_pos h9, if_pos (by omega)]
          · rw [if_neg h9, if_neg (by omega)]
  refine w_109_0 hs ?_
  refine z_cI (e_positionOf hb h hr) ⟨fun c => ?_, fun c => ⟨_, _, _, rfl, rfl, rfl, ?_, fun b _ => rfl, by rw [if_pos c]⟩⟩
  · rw [w.1]
    refine ⟨by omega, loop c (q (10 + 14 * r + 13) - 1 - y_place q i r).toNat _ _ (by omega) (by omega) ?_ (fun b b1 b2 => by rw [z_u_ne b1]) (fun j a1 a2 => ?_)⟩
    · rw [z_u_row]
    · rw [z_u_ne (by omega), if_neg (by omega)]
      exact w.2 j a1 a2
  · rw [k_leave, if_pos c]; exact h
end Q5
