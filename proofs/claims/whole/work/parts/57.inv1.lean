/-! what always holds stays so: when tickets are made and waitlists change -/
theorem y_ride_c {q q' : Int → Int} {r : Int} (h0 : q' 0 = q 0) (h : ∀ w, 0 ≤ w → w < 14 → q' (10 + 14 * r + w) = q (10 + 14 * r + w)) (hr : y_ride q r) : y_ride q' r := by
  unfold y_ride at *
  rw [h0, h 0 (by omega) (by omega), h 1 (by omega) (by omega), h 2 (by omega) (by omega), h 3 (by omega) (by omega), h 4 (by omega) (by omega), h 5 (by omega) (by omega), h 6 (by omega) (by omega), h 7 (by omega) (by omega), h 8 (by omega) (by omega), h 9 (by omega) (by omega), h 10 (by omega) (by omega), h 11 (by omega) (by omega), h 12 (by omega) (by omega), h 13 (by omega) (by omega)]
  exact hr
theorem y_tier_c {q q' : Int → Int} {t : Int} (h : ∀ w, 0 ≤ w → w < 4 → q' (122 + 4 * t + w) = q (122 + 4 * t + w)) (hr : y_tier q t) : y_tier q' t := by
  unfold y_tier at *
  rw [h 0 (by omega) (by omega), h 1 (by omega) (by omega), h 2 (by omega) (by omega), h 3 (by omega) (by omega)]
  exact hr
theorem y_lines_c {q q' : Int → Int} {r : Int} (h0 : q' 0 = q 0) (h6 : q' (10 + 14 * r + 6) = q (10 + 14 * r + 6)) (h7 : q' (10 + 14 * r + 7) = q (10 + 14 * r + 7)) (hb : y_ride q r) (h : ∀ j, 1188 + 300 * r ≤ j → j < 1188 + 300 * r + 300 → q' j = q j) (h' : ∀ j, 3588 + 122 * r ≤ j → j < 3588 + 122 * r + 122 → q' j = q j) (hr : y_lines q r) : y_lines q' r := by
  have b6 := hb.2.2.2.2.2.1
  have b7 := hb.2.2.2.2.2.2.1
  refine ⟨fun k a1 a2 => ?_, fun k a1 a2 => ?_⟩
  · rw [h6] at a2
    rw [h _ (by omega) (by omega), h _ (by omega) (by omega), h0]
    exact hr.1 k a1 a2
  · rw [h7] at a2
    rw [h' _ (by omega) (by omega), h' _ (by omega) (by omega), h0]
    exact hr.2 k a1 a2
theorem y_wait_c {q q' : Int → Int} {r : Int} (h3 : q 3 ≤ q' 3) (h13 : q' (10 + 14 * r + 13) = q (10 + 14 * r + 13)) (hb : y_ride q r) (h : ∀ j, 4564 + 50 * r ≤ j → j < 4564 + 50 * r + 50 → q' j = q j) (hr : y_wait q r) : y_wait q' r := by
  have b := hb.2.2.2.2.2.2.2.2.2.2.2
  refine ⟨fun k a1 a2 => ?_, fun j k a1 a2 a3 => ?_⟩
  · rw [h13] at a2
    rw [h _ (by omega) (by omega)]
    have := hr.1 k a1 a2
    omega
  · rw [h13] at a3
    rw [h _ (by omega) (by omega), h _ (by omega) (by omega)]
    exact hr.2 j k a1 a2 a3
theorem y_tk_c {q q' : Int → Int} {t : Int} (h3 : q 3 ≤ q' 3) (h1 : q' 1 = q 1) (hb : y_heads q) (h : ∀ w, 0 ≤ w → w < 6 → q' (288 + 6 * t + w) = q (288 + 6 * t + w)) (hr : ∀ r, 0 ≤ r → r < q 1 → q' (10 + 14 * r + 3) = q (10 + 14 * r + 3) ∧ q' (10 + 14 * r + 4) = q (10 + 14 * r + 4)) (hk : y_tk q t) : y_tk q' t := by
  unfold y_tk at *
  have e := hr (q (288 + 6 * t + 1)) hk.2.1.1 hk.2.1.2
  rw [h 0 (by omega) (by omega), h 1 (by omega) (by omega), h 2 (by omega) (by omega), h 3 (by omega) (by omega), h 4 (by omega) (by omega), h 5 (by omega) (by omega), h1, e.1, e.2]
  omega
theorem y_party_c {q q' : Int → Int} {i : Int} (h2 : q' 2 = q 2) (h : ∀ w, 0 ≤ w → w < 3 → q' (138 + 3 * i + w) = q (138 + 3 * i + w)) (hp : y_party q i) : y_party q' i := by
  unfold y_party at *
  rw [h2, h 0 (by omega) (by omega), h 1 (by omega) (by omega), h 2 (by omega) (by omega)]
  exact hp
section K1
variable {q : Int → Int} {i r s : Int}
theorem k_add_old (hi : 0 ≤ i ∧ i < 50) (h5 : 0 ≤ q 5) {j : Int} (h1 : j ≠ 5) (h2 : j < 288 + 6 * q 5 ∨ 288 + 6 * q 5 + 6 ≤ j) (h3 : j ≠ 138 + 3 * i + 2) : k_add q i r s j = q j := by
  unfold k_add
  rw [z_up_ne h3, z_up_ne (by omega), z_up_ne (by omega), z_up_ne (by omega), z_up_ne (by omega), z_up_ne (by omega), z_up_ne (by omega), z_up_ne h1]
theorem k_add_5 (hi : 0 ≤ i ∧ i < 50) (h5 : 0 ≤ q 5) : k_add q i r s 5 = q 5 + 1 := by
  unfold k_add
  rw [z_up_ne (by omega), z_up_ne (by omega), z_up_ne (by omega), z_up_ne (by omega), z_up_ne (by omega), z_up_ne (by omega), z_up_ne (by omega), z_up_eq rfl]
theorem k_add_new (hi : 0 ≤ i ∧ i < 50) (h5 : 0 ≤ q 5) : k_add q i r s (288 + 6 * q 5 + 0) = i ∧ k_add q i r s (288 + 6 * q 5 + 1) = r ∧ k_add q i r s (288 + 6 * q 5 + 2) = s ∧ k_add q i r s (288 + 6 * q 5 + 3) = s + q (10 + 14 * r + 2) - 1 ∧ k_add q i r s (288 + 6 * q 5 + 4) = 0 ∧ k_add q i r s (288 + 6 * q 5 + 5) = 0 ∧ k_add q i r s (138 + 3 * i + 2) = q 0 := by
  unfold k_add
  refine ⟨?_, ?_, ?_, ?_, ?_, ?_, ?_⟩
  · rw [z_up_ne (by omega), z_up_ne (by omega), z_up_ne (by omega), z_up_ne (by omega), z_up_ne (by omega), z_up_ne (by omega), z_up_eq rfl]
  · rw [z_up_ne (by omega), z_up_ne (by omega), z_up_ne (by omega), z_up_ne (by omega), z_up_ne (by omega), z_up_eq rfl]
  · rw [z_up_ne (by omega), z_up_ne (by omega), z_up_ne (by omega), z_up_ne (by omega), z_up_eq rfl]
  · rw [z_up_ne (by omega), z_up_ne (by omega), z_up_ne (by omega), z_up_eq rfl]
  · rw [z_up_ne (by omega), z_up_ne (by omega), z_up_eq rfl]
  · rw [z_up_ne (by omega), z_up_eq rfl]
  · rw [z_up_eq rfl]
theorem y_base_add (hb : y_base q) (hi : 0 ≤ i ∧ i < q 3) (hr : 0 ≤ r ∧ r < q 1) (hs0 : q (10 + 14 * r + 3) ≤ s ∧ s ≤ q (10 + 14 * r + 4)) (h150 : q 5 < 150) (hact : y_act q i (q 5).toNat ≤ 4) : y_base (k_add q i r s) := by
  obtain ⟨hh, H1, H2, H3, H4⟩ := hb
  obtain ⟨h0, h1, h2, h3, h4, h5⟩ := hh
  have hi2 : 0 ≤ i ∧ i < 50 := by omega
  have O := fun j => k_add_old (q := q) (r := r) (s := s) hi2 h5.1 (j := j)
  have N := k_add_new (q := q) (r := r) (s := s) hi2 h5.1
  have N5 := k_add_5 (q := q) (r := r) (s := s) hi2 h5.1
  have E : (q 5 + 1).toNat = (q 5).toNat + 1 := by omega
  have C : ((q 5).toNat : Int) = q 5 := by omega
  have U : y_used (k_add q i r s) ((q 5).toNat + 1) = y_used q (q 5).toNat := by
    unfold y_used
    rw [y_sum, C, N.2.2.2.2.2.1, if_neg (by omega), Int.add_zero]
    refine y_sum_congr (fun k hk => ?_)
    rw [O _ (by omega) (by omega) (by omega)]
  have A : ∀ i', y_act (k_add q i r s) i' ((q 5).toNat + 1) = y_act q i' (q 5).toNat + (if i = i' then 1 else 0) := by
    intro i'
    unfold y_act
    rw [y_sum, C, N.2.2.2.2.2.1, N.1]
    congr 1
    · refine y_sum_congr (fun k hk => ?_)
      rw [O _ (by omega) (by omega) (by omega), O _ (by omega) (by omega) (by omega)]
    · by_cases h9 : i = i'
      · rw [if_pos h9, if_pos ⟨h9, rfl⟩]
      · rw [if_neg h9, if_neg (fun z => h9 z.1)]
  have e0 := O 0 (by omega) (by omega) (by omega)
  have e1 := O 1 (by omega) (by omega) (by omega)
  have e2 := O 2 (by omega) (by omega) (by omega)
  have e3 := O 3 (by omega) (by omega) (by omega)
  have e4 := O 4 (by omega) (by omega) (by omega)
  refine ⟨?_, fun r' a1 a2 => ?_, fun t a1 a2 => ?_, fun i' a1 a2 => ?_, fun t a1 a2 => ?_⟩
  · unfold y_heads
    rw [e0, e1, e2, e3, e4, N5]
    omega
  · rw [e1] at a2
    obtain ⟨c1, c2, c3, c4⟩ := H1 r' a1 a2
    refine ⟨y_ride_c e0 (fun w b1 b2 => O _ (by omega) (by omega) (by omega)) c1, y_lines_c e0 (O _ (by omega) (by omega) (by omega)) (O _ (by omega) (by omega) (by omega)) c1 (fun j b1 b2 => O _ (by omega) (by omega) (by omega)) (fun j b1 b2 => O _ (by omega) (by omega) (by omega)) c2, y_wait_c (by omega) (O _ (by omega) (by omega) (by omega)) c1 (fun j b1 b2 => O _ (by omega) (by omega) (by omega)) c3, ?_⟩
    rw [N5, E, U, O _ (by omega) (by omega) (by omega)]
    exact c4
  · rw [e2] at a2
    exact y_tier_c (fun w b1 b2 => O _ (by omega) (by omega) (by omega)) (H2 t a1 a2)
  · rw [e3] at a2
    obtain ⟨c1, c2⟩ := H3 i' a1 a2
    refine ⟨?_, ?_⟩
    · unfold y_party at *
      rw [e2, O (138 + 3 * i' + 0) (by omega) (by omega) (by omega), O (138 + 3 * i' + 1) (by omega) (by omega) (by omega)]
      by_cases h9 : i' = i
      · subst h9
        rw [N.2.2.2.2.2.2]
        omega
      · rw [O (138 + 3 * i' + 2) (by omega) (by omega) (by omega)]
        exact c1
    · rw [N5, E, A]
      by_cases h9 : i = i'
      · subst h9
        rw [if_pos rfl]; omega
      · rw [if_neg h9]; omega
  · rw [N5] at a2
    by_cases ht : t = q 5
    · subst ht
      have hl := (H1 r hr.1 hr.2).1.2.2.1
      unfold y_tk
      rw [N.1, N.2.1, N.2.2.1, N.2.2.2.1, N.2.2.2.2.1, N.2.2.2.2.2.1, e1, e3, O _ (by omega) (by omega) (by omega), O _ (by omega) (by omega) (by omega)]
      omega
    · exact y_tk_c (by omega) e1 ⟨h0, h1, h2, h3, h4, h5⟩ (fun w b1 b2 => O _ (by omega) (by omega) (by omega)) (fun r' b1 b2 => ⟨O _ (by omega) (by omega) (by omega), O _ (by omega) (by omega) (by omega)⟩) (H4 t a1 (by omega))
end K1
