/-! the reference: tickets issued, waitlists served -/
/-- J' is J but for the state's row and the scratch rows -/
def y_to (J : z_J) (q' : Int → Int) (J' : z_J) : Prop := J' 149 = q' ∧ ∀ b, b ≠ 149 → (b < 151 ∨ 156 < b) → J' b = J b
def y_tp (J : z_J) (q' : Int → Int) (th : Int) (J' : z_J) : Prop := J' 149 = q' ∧ J' 148 2 = th ∧ (∀ k, k ≠ 2 → k ≠ 9 → J' 148 k = J 148 k) ∧ ∀ b, b ≠ 148 → b ≠ 149 → (b < 151 ∨ 156 < b) → J' b = J b
theorem y_to.rf {J : z_J} : y_to J (J 149) J := ⟨rfl, fun _ _ _ => rfl⟩
theorem y_to.tr {J J1 J2 : z_J} {q1 q2 : Int → Int} (h1 : y_to J q1 J1) (h2 : y_to J1 q2 J2) : y_to J q2 J2 := ⟨h2.1, fun b a1 a2 => (h2.2 b a1 a2).trans (h1.2 b a1 a2)⟩
theorem y_to.sc {J : z_J} {f f' : Int → Int} : y_to J (J 149) (z_row (z_row J 151 f) 152 f') := ⟨rfl, fun b a1 a2 => by rw [z_row_ne (by omega), z_row_ne (by omega)]⟩
theorem y_to.sc1 {J : z_J} {f : Int → Int} : y_to J (J 149) (z_row J 151 f) := ⟨rfl, fun b a1 a2 => by rw [z_row_ne (by omega)]⟩
theorem y_to.sc2 {J : z_J} {f : Int → Int} : y_to J (J 149) (z_row J 152 f) := ⟨rfl, fun b a1 a2 => by rw [z_row_ne (by omega)]⟩
theorem y_to.put {J : z_J} {f : Int → Int} : y_to J f (z_row J 149 f) := ⟨rfl, fun b a1 a2 => by rw [z_row_ne a1]⟩
theorem y_to.u {J : z_J} {k x : Int} : y_to J (z_up (J 149) k x) (z_u J 149 k x) := ⟨rfl, fun b a1 a2 => by rw [z_u_ne a1]⟩
theorem y_to.tp {J J' : z_J} {q' : Int → Int} {th : Int} (h : y_to (z_u J 148 2 th) q' J') : y_tp J q' th J' := by
  have e := h.2 148 (by omega) (by omega)
  refine ⟨h.1, ?_, fun k a1 a2 => ?_, fun b a1 a2 a3 => ?_⟩
  · rw [e, z_u_row, z_up_eq rfl]
  · rw [e, z_u_row, z_up_ne a1]
  · rw [h.2 b a2 a3, z_u_ne a1]
theorem y_tp.th {J : z_J} {w : Int} : y_tp J (J 149) w (z_u (z_u J 148 2 0) 148 2 w) := by
  rw [z_u_u]
  exact y_to.tp (J := J) (th := w) y_to.rf
theorem y_tp.th0 {J : z_J} : y_tp J (J 149) 0 (z_u J 148 2 0) := y_to.tp (J := J) (th := 0) y_to.rf
theorem y_win_spec {L B : Int → Int} {w n lo hi : Int} (h : y_win L B w n lo hi ≠ -1) (hlo : 0 ≤ lo) : lo ≤ y_win L B w n lo hi ∧ y_win L B w n lo hi ≤ hi ∧ w ≤ L (y_win L B w n lo hi) := by
  unfold y_win at *
  by_cases h1 : y_first (y_wn L B w n lo) (hi - lo + 1).toNat = -1
  · rw [if_pos h1] at h; exact absurd rfl h
  · rw [if_neg h1] at *
    have h2 := y_first_lt (f := y_wn L B w n lo) (n := (hi - lo + 1).toNat)
    have h3 := (y_first_spec (f := y_wn L B w n lo) (n := (hi - lo + 1).toNat) (by omega)).1
    unfold y_wn at h3
    rw [Bool.and_eq_true, decide_eq_true_eq] at h3
    exact ⟨by omega, by omega, h3.1⟩
theorem y_win_lt {L B : Int → Int} {w n lo hi : Int} (hlo : 0 ≤ lo) : -1 ≤ y_win L B w n lo hi := by
  by_cases h : y_win L B w n lo hi = -1
  · omega
  · have := (y_win_spec h hlo).1; omega
/-- a slot that a party gets: within the ride's day -/
theorem y_slot_pos {q : Int → Int} (hb : y_base q) {i r e : Int} (hi : 0 ≤ i ∧ i < q 3) (hr : 0 ≤ r ∧ r < q 1) (he : 0 ≤ e) (h : y_slot q i r e ≠ -4) : (q (10 + 14 * r + 3) ≤ y_slot q i r e ∧ y_slot q i r e ≤ q (10 + 14 * r + 4)) ∧ (0 ≤ y_slot q i r e ∧ y_slot q i r e ≤ 143) := by
  have r3 := (hb.ride hr.1 hr.2).2.2.2.1
  have p := hb.party hi.1 hi.2
  unfold y_slot y_4 at *
  by_cases h1 : y_win (y_free q r) (y_taken q i) (y_size q i) (q (10 + 14 * r + 2)) (max e (q 0)) (min (y_late q i) (q (10 + 14 * r + 4))) = -1
  · rw [if_pos h1] at h; exact absurd rfl h
  · rw [if_neg h1] at *
    have h2 := y_win_spec h1 (by omega)
    generalize y_win (y_free q r) (y_taken q i) (y_size q i) (q (10 + 14 * r + 2)) (max e (q 0)) (min (y_late q i) (q (10 + 14 * r + 4))) = v at *
    have h3 : 1 ≤ y_planned q r v := by
      have b := y_charged_b hb (r := r) (s := v)
      have := h2.2.2
      unfold y_free y_size at this
      omega
    have h4 : q (10 + 14 * r + 3) ≤ v ∧ v ≤ q (10 + 14 * r + 4) := by
      unfold y_planned y_pw at h3
      by_cases h9 : q (10 + 14 * r + 3) ≤ v ∧ v ≤ q (10 + 14 * r + 4)
      · exact h9
      · rw [if_neg h9] at h3; omega
    omega
theorem y_slot_neg {q : Int → Int} {i r e : Int} (he : 0 ≤ e) : y_slot q i r e = -4 ∨ 0 ≤ y_slot q i r e := by
  unfold y_slot y_4
  split
  · exact Or.inl rfl
  · rename_i h
    have := y_win_lt (L := y_free q r) (B := y_taken q i) (w := y_size q i) (n := q (10 + 14 * r + 2)) (lo := max e (q 0)) (hi := min (y_late q i) (q (10 + 14 * r + 4))) (by omega)
    exact Or.inr (by omega)
theorem y_check_le {q : Int → Int} {i r : Int} : -5 ≤ y_check q i r ∧ y_check q i r ≤ 0 := by
  unfold y_check
  split
  · omega
  · split
    · omega
    · split <;> omega
theorem y_check_0 {q : Int → Int} (hb : y_base q) {i r : Int} (hi : 0 ≤ i ∧ i < q 3) (h : y_check q i r = 0) : y_act q i (q 5).toNat ≤ 4 := by
  have p := (hb.party hi.1 hi.2).2.2.2.2.1
  unfold y_check at h
  split at h
  · omega
  · split at h
    · omega
    · split at h
      · omega
      · rename_i h9
        have : ¬ (q (122 + 4 * q (138 + 3 * i + 0) + 0) ≤ y_act q i (q 5).toNat) := fun z => h9 (Or.inl z)
        omega
theorem y_wf_pos {q : Int → Int} (hb : y_base q) {i r e : Int} (hi : 0 ≤ i ∧ i < q 3) (hr : 0 ≤ r ∧ r < q 1) (he : 0 ≤ e) (h : 0 ≤ y_wf q i r e) : (q (10 + 14 * r + 3) ≤ y_wf q i r e ∧ y_wf q i r e ≤ q (10 + 14 * r + 4)) ∧ (0 ≤ y_wf q i r e ∧ y_wf q i r e ≤ 143) ∧ q 5 < 150 ∧ y_act q i (q 5).toNat ≤ 4 := by
  have h5 := hb.1.2.2.2.2.2
  have c0 := y_check_le (q := q) (i := i) (r := r)
  unfold y_wf at *
  by_cases h1 : y_check q i r = 0
  · rw [if_pos h1] at *
    by_cases h2 : q 5 = 150
    · rw [if_pos h2] at h; omega
    · rw [if_neg h2] at *
      have h3 := y_slot_pos hb hi hr he (by omega)
      exact ⟨h3.1, h3.2, by omega, y_check_0 hb hi h1⟩
  · rw [if_neg h1] at h; omega
theorem y_wf_le {q : Int → Int} (hb : y_base q) {i r e : Int} (hi : 0 ≤ i ∧ i < q 3) (hr : 0 ≤ r ∧ r < q 1) (he : 0 ≤ e) : -6 ≤ y_wf q i r e ∧ y_wf q i r e ≤ 143 := by
  by_cases h : 0 ≤ y_wf q i r e
  · have := y_wf_pos hb hi hr he h; omega
  · have c0 := y_check_le (q := q) (i := i) (r := r)
    have c1 := y_slot_neg (q := q) (i := i) (r := r) he
    unfold y_wf at *
    split at * <;> (try split at *) <;> omega
def y_try (q : Int → Int) (i r e : Int) : Int := if y_wf q i r e < 0 then y_wf q i r e else q 5
def k_try (q : Int → Int) (i r e : Int) : Int → Int := if y_wf q i r e < 0 then q else k_add q i r (y_wf q i r e)
def y_serve (r : Int) : Nat → (Int → Int) → Int → Int → (Int → Int) × Int
  | 0, q, _, n => (q, n)
  | m + 1, q, k, n => if y_wf q (q (4564 + 50 * r + k)) r (q 0) < 0 then y_serve r m q (k + 1) n else y_serve r m (k_rm (k_add q (q (4564 + 50 * r + k)) r (y_wf q (q (4564 + 50 * r + k)) r (q 0))) r k) k (n + 1)
def k_serve (q : Int → Int) (r : Int) : Int → Int := (y_serve r (q (10 + 14 * r + 13)).toNat q 0 0).1
def y_served (q : Int → Int) (r : Int) : Int := (y_serve r (q (10 + 14 * r + 13)).toNat q 0 0).2
section K2
variable {q : Int → Int} {i r x : Int}
theorem k_rm_old {j : Int} (h1 : j ≠ 10 + 14 * r + 13) (h2 : j < 4564 + 50 * r + x ∨ 4564 + 50 * r + (q (10 + 14 * r + 13) - 1) ≤ j) : k_rm q r x j = q j := by
  unfold k_rm
  rw [if_neg h1, if_neg (by omega)]
theorem k_rm_13 : k_rm q r x (10 + 14 * r + 13) = q (10 + 14 * r + 13) - 1 := by
  unfold k_rm
  rw [if_pos rfl]
theorem k_rm_in {j : Int} (hr : 0 ≤ r) (hr8 : r < 8) (h2 : 4564 + 50 * r + x ≤ j ∧ j < 4564 + 50 * r + (q (10 + 14 * r + 13) - 1)) (hx : 0 ≤ x) : k_rm q r x j = q (j + 1) := by
  unfold k_rm
  rw [if_neg (by omega), if_pos h2]
theorem y_base_rm (hb : y_base q) (hr : 0 ≤ r ∧ r < q 1) (hx : 0 ≤ x ∧ x < q (10 + 14 * r + 13)) : y_base (k_rm q r x) := by
  obtain ⟨hh, H1, H2, H3, H4⟩ := hb
  obtain ⟨h0, h1, h2, h3, h4, h5⟩ := hh
  have O := fun (j : Int) (h : j < 4564) (h' : j ≠ 10 + 14 * r + 13) => k_rm_old (q := q) (r := r) (x := x) (j := j) h' (by omega)
  have c13 := (H1 r hr.1 hr.2).1.2.2.2.2.2.2.2.2.2.2.2
  have U : ∀ n : Nat, (n : Int) ≤ q 5 → y_used (k_rm q r x) n = y_used q n := by
    intro n hn
    unfold y_used
    refine y_sum_congr (fun k hk => ?_)
    rw [O _ (by omega) (by omega)]
  have A : ∀ (i' : Int) (n : Nat), (n : Int) ≤ q 5 → y_act (k_rm q r x) i' n = y_act q i' n := by
    intro i' n hn
    unfold y_act
    refine y_sum_congr (fun k hk => ?_)
    rw [O _ (by omega) (by omega), O _ (by omega) (by omega)]
  have e0 := O 0 (by omega) (by omega)
  have e1 := O 1 (by omega) (by omega)
  have e2 := O 2 (by omega) (by omega)
  have e3 := O 3 (by omega) (by omega)
  have e4 := O 4 (by omega) (by omega)
  have e5 := O 5 (by omega) (by omega)
  refine ⟨?_, fun r' a1 a2 => ?_, fun t a1 a2 => ?_, fun i' a1 a2 => ?_, fun t a1 a2 => ?_⟩
  · unfold y_heads
    rw [e0, e1, e2, e3, e4, e5]
    omega
  · rw [e1] at a2
    obtain ⟨c1, c2, c3, c4⟩ := H1 r' a1 a2
    have l2 : y_lines (k_rm q r x) r' := y_lines_c e0 (O _ (by omega) (by omega)) (O _ (by omega) (by omega)) c1 (fun j b1 b2 => O _ (by omega) (by omega)) (fun j b1 b2 => O _ (by omega) (by omega)) c2
    have l4 : k_rm q r x (10 + 14 * r' + 6) ≤ y_used (k_rm q r x) (k_rm q r x 5).toNat := by
      rw [e5, U _ (by omega), O _ (by omega) (by omega)]
      exact c4
    have d1 := c1.2.2.2.2.2.2.2.2.2.2.2
    by_cases hrr : r' = r
    · subst hrr
      refine ⟨?_, l2, ?_, l4⟩
      · unfold y_ride at *
        rw [e0, O (10 + 14 * r' + 0) (by omega) (by omega), O (10 + 14 * r' + 1) (by omega) (by omega), O (10 + 14 * r' + 2) (by omega) (by omega), O (10 + 14 * r' + 3) (by omega) (by omega), O (10 + 14 * r' + 4) (by omega) (by omega), O (10 + 14 * r' + 5) (by omega) (by omega), O (10 + 14 * r' + 6) (by omega) (by omega), O (10 + 14 * r' + 7) (by omega) (by omega), O (10 + 14 * r' + 8) (by omega) (by omega), O (10 + 14 * r' + 9) (by omega) (by omega), O (10 + 14 * r' + 10) (by omega) (by omega), O (10 + 14 * r' + 11) (by omega) (by omega), O (10 + 14 * r' + 12) (by omega) (by omega), k_rm_13]
        omega
      · refine ⟨fun k b1 b2 => ?_, fun j k b1 b2 b3 => ?_⟩
        · rw [k_rm_13] at b2
          rw [e3]
          by_cases hk : k < x
          · rw [k_rm_old (by omega) (by omega)]
            exact c3.1 k b1 (by omega)
          · rw [k_rm_in (by omega) (by omega) (by omega) (by omega), show 4564 + 50 * r' + k + 1 = 4564 + 50 * r' + (k + 1) by omega]
            exact c3.1 (k + 1) (by omega) (by omega)
        · rw [k_rm_13] at b3
          by_cases hk : k < x
          · rw [k_rm_old (by omega) (by omega), k_rm_old (by omega) (by omega)]
            exact c3.2 j k b1 b2 (by omega)
          · rw [k_rm_in (j := 4564 + 50 * r' + k) (by omega) (by omega) (by omega) (by omega), show 4564 + 50 * r' + k + 1 = 4564 + 50 * r' + (k + 1) by omega]
            by_cases hj : j < x
            · rw [k_rm_old (by omega) (by omega)]
              exact c3.2 j (k + 1) b1 (by omega) (by omega)
            · rw [k_rm_in (by omega) (by omega) (by omega) (by omega), show 4564 + 50 * r' + j + 1 = 4564 + 50 * r' + (j + 1) by omega]
              exact c3.2 (j + 1) (k + 1) (by omega) (by omega) (by omega)
    · refine ⟨y_ride_c e0 (fun w b1 b2 => O _ (by omega) (by omega)) c1, l2, y_wait_c (by omega) (O _ (by omega) (by omega)) c1 (fun j b1 b2 => k_rm_old (by omega) (by omega)) c3, l4⟩
  · rw [e2] at a2
    exact y_tier_c (fun w b1 b2 => O _ (by omega) (by omega)) (H2 t a1 a2)
  · rw [e3] at a2
    obtain ⟨c1, c2⟩ := H3 i' a1 a2
    refine ⟨y_party_c e2 (fun w b1 b2 => O _ (by omega) (by omega)) c1, ?_⟩
    rw [e5, A _ _ (by omega)]
    exact c2
  · rw [e5] at a2
    exact y_tk_c (by omega) e1 ⟨h0, h1, h2, h3, h4, h5⟩ (fun w b1 b2 => O _ (by omega) (by omega)) (fun r' b1 b2 => ⟨O _ (by omega) (by omega), O _ (by omega) (by omega)⟩) (H4 t a1 a2)
theorem y_place_b : -1 ≤ y_place q i r ∧ y_place q i r < (q (10 + 14 * r + 13)).toNat := y_first_lt
theorem y_base_leave (hb : y_base q) (hr : 0 ≤ r ∧ r < q 1) : y_base (k_leave q i r) := by
  unfold k_leave
  have := y_place_b (q := q) (i := i) (r := r)
  split
  · exact hb
  · exact y_base_rm hb hr (by omega)
theorem y_base_try {e : Int} (hb : y_base q) (hi : 0 ≤ i ∧ i < q 3) (hr : 0 ≤ r ∧ r < q 1) (he : 0 ≤ e) : y_base (k_try q i r e) := by
  unfold k_try
  split
  · exact hb
  · rename_i h
    obtain ⟨w1, w2, w3, w4⟩ := y_wf_pos hb hi hr he (by omega)
    exact y_base_add hb hi hr w1 w3 w4
theorem k_add_13 (hb : y_base q) {s : Int} (hi : 0 ≤ i ∧ i < q 3) (hr : 0 ≤ r ∧ r < q 1) : k_add q i r s (10 + 14 * r + 13) = q (10 + 14 * r + 13) ∧ k_add q i r s 1 = q 1 ∧ k_add q i r s 3 = q 3 ∧ k_add q i r s 0 = q 0 := by
  obtain ⟨h0, h1, h2, h3, h4, h5⟩ := hb.1
  have O := fun j => k_add_old (q := q) (i := i) (r := r) (s := s) (by omega) h5.1 (j := j)
  exact ⟨O _ (by omega) (by omega) (by omega), O _ (by omega) (by omega) (by omega), O _ (by omega) (by omega) (by omega), O _ (by omega) (by omega) (by omega)⟩
theorem k_rm_hd (hr : 0 ≤ r) (hx : 0 ≤ x) : k_rm q r x 1 = q 1 ∧ k_rm q r x 3 = q 3 ∧ k_rm q r x 0 = q 0 :=
  ⟨k_rm_old (by omega) (by omega), k_rm_old (by omega) (by omega), k_rm_old (by omega) (by omega)⟩
/-- serving keeps what always holds -/
theorem y_base_serve : ∀ (m : Nat) (q : Int → Int) (k n : Int), y_base q → 0 ≤ r ∧ r < q 1 → 0 ≤ k → k + m = q (10 + 14 * r + 13) → y_base (y_serve r m q k n).1 ∧ (n ≤ (y_serve r m q k n).2 ∧ (y_serve r m q k n).2 ≤ n + m) ∧ (y_serve r m q k n).1 1 = q 1
  | 0, q, k, n, hb, hr, hk, hm => ⟨hb, by simp [y_serve], rfl⟩
  | m + 1, q, k, n, hb, hr, hk, hm => by
    have h0 := hb.1.1
    have w := (hb.2.1 r hr.1 hr.2).2.2.1.1 k hk (by omega)
    rw [y_serve]
    split
    · have := y_base_serve m q (k + 1) n hb hr (by omega) (by omega)
      refine ⟨this.1, by omega, this.2.2⟩
    · rename_i h
      obtain ⟨w1, w2, w3, w4⟩ := y_wf_pos hb w hr h0.1 (by omega)
      have b1 := y_base_add hb w hr w1 w3 w4
      have e := k_add_13 hb (s := y_wf q (q (4564 + 50 * r + k)) r (q 0)) w hr
      have b2 := y_base_rm b1 (r := r) (x := k) ⟨hr.1, by rw [e.2.1]; exact hr.2⟩ ⟨hk, by rw [e.1]; omega⟩
      have e2 := k_rm_13 (q := k_add q (q (4564 + 50 * r + k)) r (y_wf q (q (4564 + 50 * r + k)) r (q 0))) (r := r) (x := k)
      have e3 := (k_rm_hd (q := k_add q (q (4564 + 50 * r + k)) r (y_wf q (q (4564 + 50 * r + k)) r (q 0))) (r := r) (x := k) hr.1 hk).1
      have := y_base_serve m _ k (n + 1) b2 ⟨hr.1, by rw [e3, e.2.1]; exact hr.2⟩ hk (by rw [e2, e.1]; omega)
      refine ⟨this.1, by omega, ?_⟩
      rw [this.2.2, e3, e.2.1]
end K2
section R7
variable {l : Launch} {d : Nat} {g : List (Option Nat)} {T : m_E} {J : z_J} {X : z_X}
theorem c_tryIssue (hb : y_base (J 149)) {i r e : Int} (hi : 0 ≤ i ∧ i < J 149 3) (hr : 0 ≤ r ∧ r < J 149 1) (he : 0 ≤ e) : z_Sem l (d + 7) M_R_tryIssue [.inr (.inr (.ref 148)), .inl i, .inl r, .inl e] (m_Ex g T, J, X) 0 0 (z_rq (m_Ex g T) (fun v J' X' => X' = X ∧ y_to J (k_try (J 149) i r e) J' ∧ v = y_try (J 149) i r e)) := by
  refine z_sem_of z_m220 m_ok_220 (Nat.le_of_ble_eq_true rfl) (fun Wp hs hv hS => ?_)
  refine w_220_0 hs ?_
  refine z_cIq (c_windowFor hb hi hr he) ?_
  rintro v J' X' ⟨rfl, ⟨f, f', rfl⟩, rfl⟩
  refine ⟨fun c => ?_, fun c => ⟨_, _, _, rfl, rfl, rfl, ?_, ?_⟩⟩
  · obtain ⟨w1, w2, w3, w4⟩ := y_wf_pos hb hi hr he c
    refine z_cI (c_addTicket (J := z_row (z_row J 151 f) 152 f') hb hi hr w2 w3) ⟨_, _, _, rfl, rfl, rfl, ?_, ?_⟩
    · rw [k_try, if_neg (by omega)]
      exact y_to.tr y_to.sc y_to.put
    · rw [y_try, if_neg (by omega)]; rfl
  · rw [k_try, if_pos c]; exact y_to.sc
  · rw [y_try, if_pos c]
theorem c_serve (hb : y_base (J 149)) {r : Int} (hr : 0 ≤ r ∧ r < J 149 1) : z_Sem l (d + 8) M_R_serve [.inr (.inr (.ref 148)), .inl r] (m_Ex g T, J, X) 0 0 (z_rq (m_Ex g T) (fun v J' X' => X' = X ∧ y_to J (k_serve (J 149) r) J' ∧ v = y_served (J 149) r)) := by
  have c13 := (hb.ride hr.1 hr.2).2.2.2.2.2.2.2.2.2.2.2
  refine z_sem_of z_m248 m_ok_248 (Nat.le_of_ble_eq_true rfl) (fun Wp hs hv hS => ?_)
  have loop : ∀ (m : Nat) (q : Int → Int) (J1 : z_J) (k n : Int), y_to J q J1 → y_base q → r < q 1 → 0 ≤ k → k + m = q (10 + 14 * r + 13) → 0 ≤ n → n + m ≤ 50 → y_serve r m q k n = y_serve r (J 149 (10 + 14 * r + 13)).toNat (J 149) 0 0 → Wp 4 [some (.inr (.inr (.ref 148))), some (.inl r), some (.inl n), some (.inl k)] [] (m_Ex g T, J1, X) 0 0 := by
    intro m
    induction m with
    | zero =>
      intro q J1 k n ht hq hr1 hk hm hn hnm hE
      have h1 := hq.1.2.1
      refine w_248_4 hs ?_
      rw [ht.1]
      refine ⟨by omega, fun c => ⟨_, _, _, rfl, rfl, rfl, ?_, ?_⟩, fun c => by omega⟩
      · rw [k_serve, ← hE]; exact ht
      · rw [y_served, ← hE]; rfl
    | succ m ih =>
      intro q J1 k n ht hq hr1 hk hm hn hnm hE
      have h1 := hq.1.2.1
      have h0 := hq.1.1
      have c14 := (hq.ride hr.1 hr1).2.2.2.2.2.2.2.2.2.2.2
      have w := (hq.2.1 r hr.1 hr1).2.2.1.1 k hk (by omega)
      have h5 := hq.1.2.2.2.2.2
      refine w_248_4 hs ?_
      simp only [ht.1]
      refine ⟨by omega, fun c => by omega, fun c => ⟨by omega, z_cIq (c_tryIssue (J := J1) (by rw [ht.1]; exact hq) (by rw [ht.1]; exact w) (by rw [ht.1]; exact ⟨hr.1, hr1⟩) h0.1) ?_⟩⟩
      rw [ht.1]
      rintro v J2 X2 ⟨rfl, t2, rfl⟩
      rw [y_serve] at hE
      refine ⟨fun c1 => ⟨by omega, ?_⟩, fun c1 => ?_⟩
      · have hw : y_wf q (q (4564 + 50 * r + k)) r (q 0) < 0 := by
          unfold y_try at c1
          split at c1 <;> omega
        rw [if_pos hw] at hE
        rw [k_try, if_pos hw] at t2
        exact ih q J2 (k + 1) n (ht.tr t2) hq hr1 (by omega) (by omega) hn (by omega) hE
      · have hw : ¬ y_wf q (q (4564 + 50 * r + k)) r (q 0) < 0 := by
          intro hw
          unfold y_try at c1
          rw [if_pos hw] at c1; omega
        rw [if_neg hw] at hE
        rw [k_try, if_neg hw] at t2
        obtain ⟨w1, w2, w3, w4⟩ := y_wf_pos hq w ⟨hr.1, hr1⟩ h0.1 (by omega)
        have b1 := y_base_add hq w ⟨hr.1, hr1⟩ w1 w3 w4
        have e := k_add_13 hq (s := y_wf q (q (4564 + 50 * r + k)) r (q 0)) w ⟨hr.1, hr1⟩
        have hr2 : 0 ≤ r ∧ r < k_add q (q (4564 + 50 * r + k)) r (y_wf q (q (4564 + 50 * r + k)) r (q 0)) 1 := ⟨hr.1, by rw [e.2.1]; exact hr1⟩
        have hx2 : 0 ≤ k ∧ k < k_add q (q (4564 + 50 * r + k)) r (y_wf q (q (4564 + 50 * r + k)) r (q 0)) (10 + 14 * r + 13) := ⟨hk, by rw [e.1]; omega⟩
        refine z_cV (c_removeWaiting (J := J2) (by rw [t2.1]; exact b1) (by rw [t2.1]; exact hr2) (by rw [t2.1]; exact hx2)) ⟨by omega, ?_⟩
        rw [t2.1]
        have e3 := (k_rm_hd (q := k_add q (q (4564 + 50 * r + k)) r (y_wf q (q (4564 + 50 * r + k)) r (q 0))) (r := r) (x := k) hr.1 hk).1
        refine ih _ _ k (n + 1) ((ht.tr t2).tr y_to.put) (y_base_rm b1 hr2 hx2) (by rw [e3]; exact hr2.2) hk (by rw [k_rm_13, e.1]; omega) (by omega) (by omega) hE
  refine w_248_0 hs ?_
  exact loop (J 149 (10 + 14 * r + 13)).toNat (J 149) J 0 0 y_to.rf hb hr.2 (by omega) (by omega) (by omega) (by omega) rfl
def o_issue (q : Int → Int) (i r e : Int) : Int × Int := y_need ((0 ≤ i ∧ i < q 3) ∧ (0 ≤ r ∧ r < q 1)) 1 (y_need (0 ≤ e ∧ e ≤ 143) 2 (0, y_try q i r e))
def k_issue (q : Int → Int) (i r e : Int) : Int → Int := if (o_issue q i r e).1 = 0 ∧ 0 ≤ (o_issue q i r e).2 then k_leave (k_try q i r e) i r else q
theorem p_issue (hb : y_base (J 149)) {i r e : Int} : z_Sem l (d + 8) M_R_issue [.inr (.inr (.ref 148)), .inl i, .inl r, .inl e] (m_Ex g T, J, X) 0 0 (z_rq (m_Ex g T) (fun v J' X' => X' = X ∧ y_tp J (k_issue (J 149) i r e) (o_issue (J 149) i r e).1 J' ∧ v = (o_issue (J 149) i r e).2)) := by
  obtain ⟨h0, h1, h2, h3, h4, h5⟩ := hb.1
  have bad : ∀ (w : Int), w ≠ 0 → o_issue (J 149) i r e = (w, 0) → z_rq (m_Ex g T) (fun v J' X' => X' = X ∧ y_tp J (k_issue (J 149) i r e) (o_issue (J 149) i r e).1 J' ∧ v = (o_issue (J 149) i r e).2) (.inl (some (.inl 0))) (m_Ex g T, z_u (z_u J 148 2 0) 148 2 w, X) := by
    intro w hw ho
    refine ⟨_, _, _, rfl, rfl, rfl, ?_, by rw [ho]⟩
    rw [k_issue, ho, if_neg (fun z => hw z.1)]
    exact y_tp.th
  refine z_sem_of z_m219 m_ok_219 (Nat.le_of_ble_eq_true rfl) (fun Wp hs hv hS => ?_)
  refine w_219_0 hs ?_
  refine ⟨by omega, fun c => ?_, fun c => ⟨fun c1 => ?_, fun c1 => ⟨by omega, fun c2 => ?_, fun c2 => ⟨fun c3 => ?_, fun c3 => ⟨fun c4 => ?_, fun c4 => ⟨fun c5 => ?_, fun c5 => ?_⟩⟩⟩⟩⟩⟩
  · exact bad 1 (by omega) (by rw [o_issue, y_need, if_neg (by omega)])
  · exact bad 1 (by omega) (by rw [o_issue, y_need, if_neg (by omega)])
  · exact bad 1 (by omega) (by rw [o_issue, y_need, if_neg (by omega)])
  · exact bad 1 (by omega) (by rw [o_issue, y_need, if_neg (by omega)])
  · exact bad 2 (by omega) (by rw [o_issue, y_need, if_pos (by omega), y_need, if_neg (by omega)])
  · exact bad 2 (by omega) (by rw [o_issue, y_need, if_pos (by omega), y_need, if_neg (by omega)])
  · have ho : o_issue (J 149) i r e = (0, y_try (J 149) i r e) := by rw [o_issue, y_need, if_pos (by omega), y_need, if_pos (by omega)]
    have hi : 0 ≤ i ∧ i < J 149 3 := ⟨c, by omega⟩
    have hr : 0 ≤ r ∧ r < J 149 1 := ⟨c2, by omega⟩
    refine z_cIq (c_tryIssue (J := z_u J 148 2 0) hb hi hr c4) ?_
    rintro v J' X' ⟨rfl, t1, rfl⟩
    refine ⟨fun c6 => ⟨_, _, _, rfl, rfl, rfl, ?_, by rw [ho]; rfl⟩, fun c6 => ?_⟩
    · have c6 : y_try (J 149) i r e < 0 := c6
      rw [k_issue, ho, if_neg (by omega)]
      have e2 : k_try (J 149) i r e = J 149 := by
        unfold k_try
        unfold y_try at c6
        split
        · rfl
        · rename_i h9
          rw [if_neg h9] at c6; omega
      rw [← e2]
      exact t1.tp
    · have c6 : 0 ≤ y_try (J 149) i r e := c6
      have b1 := y_base_try hb hi hr c4
      have hr1 : k_try (J 149) i r e 1 = J 149 1 := by
        unfold k_try
        split
        · rfl
        · exact (k_add_13 hb hi hr).2.1
      refine z_cV (c_leave (J := J') (by rw [t1.1]; exact b1) (by rw [t1.1]; exact ⟨c2, by show r < k_try (J 149) i r e 1; rw [hr1]; omega⟩)) ⟨_, _, _, rfl, rfl, rfl, ?_, by rw [ho]; rfl⟩
      rw [k_issue, ho, if_pos ⟨rfl, c6⟩, t1.1]
      exact (t1.tr y_to.put).tp
end R7
