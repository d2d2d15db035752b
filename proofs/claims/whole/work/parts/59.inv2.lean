/-! what always holds stays so: plain changes (written by wip/whole/gen59.py) -/
theorem y_sum_mono {f g : Int → Int} : ∀ {n : Nat}, (∀ k : Nat, k < n → f k ≤ g k) → y_sum f n ≤ y_sum g n
  | 0, _ => Int.le_refl _
  | n + 1, h => by
    have h1 := y_sum_mono (n := n) (fun k hk => h k (by omega))
    have h2 := h n (by omega)
    rw [y_sum, y_sum]
    omega
/-- one ticket more is used -/
theorem y_sum_one {f g : Int → Int} {t : Nat} : ∀ {n : Nat}, t < n → (∀ k : Nat, k < n → k ≠ t → f k = g k) → g t = f t + 1 → y_sum g n = y_sum f n + 1
  | 0, h, _, _ => by omega
  | n + 1, h, h1, h2 => by
    rw [y_sum, y_sum]
    by_cases hn : t = n
    · subst hn
      rw [y_sum_congr (f := g) (g := f) (fun k hk => (h1 k (by omega) (by omega)).symm), h2]
      omega
    · rw [y_sum_one (by omega) (fun k hk a => h1 k (by omega) a) h2, h1 n (by omega) (by omega)]
      omega
theorem y_base_state {q : Int → Int} {t v : Int} (hb : y_base q) (ht : 0 ≤ t ∧ t < q 5) (hv : 0 ≤ v ∧ v ≤ 4) (ha : q (288 + 6 * t + 5) = 1 → v = 1) (hc : v = 0 → q (288 + 6 * t + 5) = 0) : y_base (z_up q (288 + 6 * t + 5) v) := by
  obtain ⟨hh, H1, H2, H3, H4⟩ := hb
  obtain ⟨h0, h1, h2, h3, h4, h5⟩ := hh
  have O : ∀ j, j ≠ 288 + 6 * t + 5 → (z_up q (288 + 6 * t + 5) v) j = q j := fun j hj => by simp (disch := omega) only [z_up_ne]
  have e0 := O 0 (by omega)
  have e1 := O 1 (by omega)
  have e2 := O 2 (by omega)
  have e3 := O 3 (by omega)
  have e4 := O 4 (by omega)
  have e5 := O 5 (by omega)
  have U : y_used q (q 5).toNat ≤ y_used (z_up q (288 + 6 * t + 5) v) (q 5).toNat := by
    unfold y_used
    refine y_sum_mono (fun k hk => ?_)
    show (if q (288 + 6 * (k : Int) + 5) = 1 then (1 : Int) else 0) ≤ if z_up q (288 + 6 * t + 5) v (288 + 6 * (k : Int) + 5) = 1 then 1 else 0
    by_cases hkt : (k : Int) = t
    · rw [hkt, z_up_eq rfl]
      split <;> split <;> omega
    · rw [z_up_ne (by omega)]
      exact Int.le_refl _
  have A : ∀ i', y_act (z_up q (288 + 6 * t + 5) v) i' (q 5).toNat ≤ y_act q i' (q 5).toNat := by
    intro i'
    unfold y_act
    refine y_sum_mono (fun k hk => ?_)
    show (if z_up q (288 + 6 * t + 5) v (288 + 6 * (k : Int) + 0) = i' ∧ z_up q (288 + 6 * t + 5) v (288 + 6 * (k : Int) + 5) = 0 then (1 : Int) else 0) ≤ if q (288 + 6 * (k : Int) + 0) = i' ∧ q (288 + 6 * (k : Int) + 5) = 0 then 1 else 0
    rw [z_up_ne (show 288 + 6 * (k : Int) + 0 ≠ 288 + 6 * t + 5 by omega)]
    by_cases hkt : (k : Int) = t
    · rw [hkt, z_up_eq rfl]
      split <;> split <;> omega
    · rw [z_up_ne (by omega)]
      exact Int.le_refl _
  refine ⟨?_, fun r' a1 a2 => ?_, fun t' a1 a2 => ?_, fun i' a1 a2 => ?_, fun t' a1 a2 => ?_⟩
  · unfold y_heads
    rw [e0, e1, e2, e3, e4, e5]
    omega
  · rw [e1] at a2
    obtain ⟨c1, c2, c3, c4⟩ := H1 r' a1 a2
    refine ⟨y_ride_c e0 (fun w b1 b2 => O _ (by omega)) c1, y_lines_c e0 (O _ (by omega)) (O _ (by omega)) c1 (fun j b1 b2 => O _ (by omega)) (fun j b1 b2 => O _ (by omega)) c2, y_wait_c (by omega) (O _ (by omega)) c1 (fun j b1 b2 => O _ (by omega)) c3, ?_⟩
    rw [e5, O _ (by omega)]
    have := U
    omega
  · rw [e2] at a2
    exact y_tier_c (fun w b1 b2 => O _ (by omega)) (H2 t' a1 a2)
  · rw [e3] at a2
    obtain ⟨c1, c2⟩ := H3 i' a1 a2
    refine ⟨y_party_c e2 (fun w b1 b2 => O _ (by omega)) c1, ?_⟩
    rw [e5]
    have := A i'
    omega
  · rw [e5] at a2
    by_cases htt : t' = t
    · subst htt
      have hk := H4 t' a1 a2
      unfold y_tk at *
      rw [z_up_eq rfl, O (288 + 6 * t' + 0) (by omega), O (288 + 6 * t' + 1) (by omega), O (288 + 6 * t' + 2) (by omega), O (288 + 6 * t' + 3) (by omega), O (288 + 6 * t' + 4) (by omega), e1, e3, O (10 + 14 * q (288 + 6 * t' + 1) + 3) (by omega), O (10 + 14 * q (288 + 6 * t' + 1) + 4) (by omega)]
      omega
    · exact y_tk_c (by omega) e1 ⟨h0, h1, h2, h3, h4, h5⟩ (fun w b1 b2 => O _ (by omega)) (fun r' b1 b2 => ⟨O _ (by omega), O _ (by omega)⟩) (H4 t' a1 a2)
theorem y_base_down {q : Int → Int} {r v : Int} (hb : y_base q) (hr : 0 ≤ r ∧ r < q 1) (hv : v = 0 ∨ v = 1) : y_base (z_up q (10 + 14 * r + 5) v) := by
  obtain ⟨hh, H1, H2, H3, H4⟩ := hb
  obtain ⟨h0, h1, h2, h3, h4, h5⟩ := hh
  have O : ∀ j, j ≠ 10 + 14 * r + 5 → (z_up q (10 + 14 * r + 5) v) j = q j := fun j hj => by simp (disch := omega) only [z_up_ne]
  have e0 := O 0 (by omega)
  have e1 := O 1 (by omega)
  have e2 := O 2 (by omega)
  have e3 := O 3 (by omega)
  have e4 := O 4 (by omega)
  have e5 := O 5 (by omega)
  have U : y_used (z_up q (10 + 14 * r + 5) v) (q 5).toNat = y_used q (q 5).toNat := by
    unfold y_used
    refine y_sum_congr (fun k hk => ?_)
    rw [O _ (by omega)]
  have A : ∀ i', y_act (z_up q (10 + 14 * r + 5) v) i' (q 5).toNat = y_act q i' (q 5).toNat := by
    intro i'
    unfold y_act
    refine y_sum_congr (fun k hk => ?_)
    rw [O _ (by omega), O _ (by omega)]
  refine ⟨?_, fun r' a1 a2 => ?_, fun t' a1 a2 => ?_, fun i' a1 a2 => ?_, fun t' a1 a2 => ?_⟩
  · unfold y_heads
    rw [e0, e1, e2, e3, e4, e5]
    omega
  · rw [e1] at a2
    obtain ⟨c1, c2, c3, c4⟩ := H1 r' a1 a2
    have l2 : y_lines (z_up q (10 + 14 * r + 5) v) r' := y_lines_c e0 (O _ (by omega)) (O _ (by omega)) c1 (fun j b1 b2 => O _ (by omega)) (fun j b1 b2 => O _ (by omega)) c2
    have l3 : y_wait (z_up q (10 + 14 * r + 5) v) r' := y_wait_c (by omega) (O _ (by omega)) c1 (fun j b1 b2 => O _ (by omega)) c3
    refine ⟨?_, l2, l3, ?_⟩
    · by_cases hrr : r' = r
      · subst hrr
        unfold y_ride at *
        rw [e0, O (10 + 14 * r' + 0) (by omega), O (10 + 14 * r' + 1) (by omega), O (10 + 14 * r' + 2) (by omega), O (10 + 14 * r' + 3) (by omega), O (10 + 14 * r' + 4) (by omega), z_up_eq (j := 10 + 14 * r' + 5) rfl, O (10 + 14 * r' + 6) (by omega), O (10 + 14 * r' + 7) (by omega), O (10 + 14 * r' + 8) (by omega), O (10 + 14 * r' + 9) (by omega), O (10 + 14 * r' + 10) (by omega), O (10 + 14 * r' + 11) (by omega), O (10 + 14 * r' + 12) (by omega), O (10 + 14 * r' + 13) (by omega)]
        omega
      · exact y_ride_c e0 (fun w b1 b2 => O _ (by omega)) c1
    · rw [e5, O _ (by omega)]
      have := U
      omega
  · rw [e2] at a2
    exact y_tier_c (fun w b1 b2 => O _ (by omega)) (H2 t' a1 a2)
  · rw [e3] at a2
    obtain ⟨c1, c2⟩ := H3 i' a1 a2
    refine ⟨y_party_c e2 (fun w b1 b2 => O _ (by omega)) c1, ?_⟩
    rw [e5]
    have := A i'
    omega
  · rw [e5] at a2
    exact y_tk_c (by omega) e1 ⟨h0, h1, h2, h3, h4, h5⟩ (fun w b1 b2 => O _ (by omega)) (fun r' b1 b2 => ⟨O _ (by omega), O _ (by omega)⟩) (H4 t' a1 a2)
theorem y_base_share {q : Int → Int} {r v : Int} (hb : y_base q) (hr : 0 ≤ r ∧ r < q 1) (hv : 0 ≤ v ∧ v ≤ 100) : y_base (z_up q (10 + 14 * r + 1) v) := by
  obtain ⟨hh, H1, H2, H3, H4⟩ := hb
  obtain ⟨h0, h1, h2, h3, h4, h5⟩ := hh
  have O : ∀ j, j ≠ 10 + 14 * r + 1 → (z_up q (10 + 14 * r + 1) v) j = q j := fun j hj => by simp (disch := omega) only [z_up_ne]
  have e0 := O 0 (by omega)
  have e1 := O 1 (by omega)
  have e2 := O 2 (by omega)
  have e3 := O 3 (by omega)
  have e4 := O 4 (by omega)
  have e5 := O 5 (by omega)
  have U : y_used (z_up q (10 + 14 * r + 1) v) (q 5).toNat = y_used q (q 5).toNat := by
    unfold y_used
    refine y_sum_congr (fun k hk => ?_)
    rw [O _ (by omega)]
  have A : ∀ i', y_act (z_up q (10 + 14 * r + 1) v) i' (q 5).toNat = y_act q i' (q 5).toNat := by
    intro i'
    unfold y_act
    refine y_sum_congr (fun k hk => ?_)
    rw [O _ (by omega), O _ (by omega)]
  refine ⟨?_, fun r' a1 a2 => ?_, fun t' a1 a2 => ?_, fun i' a1 a2 => ?_, fun t' a1 a2 => ?_⟩
  · unfold y_heads
    rw [e0, e1, e2, e3, e4, e5]
    omega
  · rw [e1] at a2
    obtain ⟨c1, c2, c3, c4⟩ := H1 r' a1 a2
    have l2 : y_lines (z_up q (10 + 14 * r + 1) v) r' := y_lines_c e0 (O _ (by omega)) (O _ (by omega)) c1 (fun j b1 b2 => O _ (by omega)) (fun j b1 b2 => O _ (by omega)) c2
    have l3 : y_wait (z_up q (10 + 14 * r + 1) v) r' := y_wait_c (by omega) (O _ (by omega)) c1 (fun j b1 b2 => O _ (by omega)) c3
    refine ⟨?_, l2, l3, ?_⟩
    · by_cases hrr : r' = r
      · subst hrr
        unfold y_ride at *
        rw [e0, O (10 + 14 * r' + 0) (by omega), z_up_eq (j := 10 + 14 * r' + 1) rfl, O (10 + 14 * r' + 2) (by omega), O (10 + 14 * r' + 3) (by omega), O (10 + 14 * r' + 4) (by omega), O (10 + 14 * r' + 5) (by omega), O (10 + 14 * r' + 6) (by omega), O (10 + 14 * r' + 7) (by omega), O (10 + 14 * r' + 8) (by omega), O (10 + 14 * r' + 9) (by omega), O (10 + 14 * r' + 10) (by omega), O (10 + 14 * r' + 11) (by omega), O (10 + 14 * r' + 12) (by omega), O (10 + 14 * r' + 13) (by omega)]
        omega
      · exact y_ride_c e0 (fun w b1 b2 => O _ (by omega)) c1
    · rw [e5, O _ (by omega)]
      have := U
      omega
  · rw [e2] at a2
    exact y_tier_c (fun w b1 b2 => O _ (by omega)) (H2 t' a1 a2)
  · rw [e3] at a2
    obtain ⟨c1, c2⟩ := H3 i' a1 a2
    refine ⟨y_party_c e2 (fun w b1 b2 => O _ (by omega)) c1, ?_⟩
    rw [e5]
    have := A i'
    omega
  · rw [e5] at a2
    exact y_tk_c (by omega) e1 ⟨h0, h1, h2, h3, h4, h5⟩ (fun w b1 b2 => O _ (by omega)) (fun r' b1 b2 => ⟨O _ (by omega), O _ (by omega)⟩) (H4 t' a1 a2)
theorem y_base_ext {q : Int → Int} {v : Int} (hb : y_base q) (hv : 0 ≤ v ∧ v ≤ 48) : y_base (z_up q 4 v) := by
  obtain ⟨hh, H1, H2, H3, H4⟩ := hb
  obtain ⟨h0, h1, h2, h3, h4, h5⟩ := hh
  have O : ∀ j, j ≠ 4 → (z_up q 4 v) j = q j := fun j hj => by simp (disch := omega) only [z_up_ne]
  have e0 := O 0 (by omega)
  have e1 := O 1 (by omega)
  have e2 := O 2 (by omega)
  have e3 := O 3 (by omega)
  have e5 := O 5 (by omega)
  have U : y_used (z_up q 4 v) (q 5).toNat = y_used q (q 5).toNat := by
    unfold y_used
    refine y_sum_congr (fun k hk => ?_)
    rw [O _ (by omega)]
  have A : ∀ i', y_act (z_up q 4 v) i' (q 5).toNat = y_act q i' (q 5).toNat := by
    intro i'
    unfold y_act
    refine y_sum_congr (fun k hk => ?_)
    rw [O _ (by omega), O _ (by omega)]
  refine ⟨?_, fun r' a1 a2 => ?_, fun t' a1 a2 => ?_, fun i' a1 a2 => ?_, fun t' a1 a2 => ?_⟩
  · unfold y_heads
    rw [e0, e1, e2, e3, e5]
    rw [z_up_eq rfl]; omega
  · rw [e1] at a2
    obtain ⟨c1, c2, c3, c4⟩ := H1 r' a1 a2
    refine ⟨y_ride_c e0 (fun w b1 b2 => O _ (by omega)) c1, y_lines_c e0 (O _ (by omega)) (O _ (by omega)) c1 (fun j b1 b2 => O _ (by omega)) (fun j b1 b2 => O _ (by omega)) c2, y_wait_c (by omega) (O _ (by omega)) c1 (fun j b1 b2 => O _ (by omega)) c3, ?_⟩
    rw [e5, O _ (by omega)]
    have := U
    omega
  · rw [e2] at a2
    exact y_tier_c (fun w b1 b2 => O _ (by omega)) (H2 t' a1 a2)
  · rw [e3] at a2
    obtain ⟨c1, c2⟩ := H3 i' a1 a2
    refine ⟨y_party_c e2 (fun w b1 b2 => O _ (by omega)) c1, ?_⟩
    rw [e5]
    have := A i'
    omega
  · rw [e5] at a2
    exact y_tk_c (by omega) e1 ⟨h0, h1, h2, h3, h4, h5⟩ (fun w b1 b2 => O _ (by omega)) (fun r' b1 b2 => ⟨O _ (by omega), O _ (by omega)⟩) (H4 t' a1 a2)
theorem y_base_window {q : Int → Int} {t s e : Int} (hb : y_base q) (ht : 0 ≤ t ∧ t < q 5) (hs : q (10 + 14 * q (288 + 6 * t + 1) + 3) ≤ s ∧ s ≤ q (10 + 14 * q (288 + 6 * t + 1) + 4)) (he : s ≤ e ∧ e ≤ s + 23) : y_base (z_up (z_up (z_up q (288 + 6 * t + 2) s) (288 + 6 * t + 3) e) (288 + 6 * t + 4) 0) := by
  obtain ⟨hh, H1, H2, H3, H4⟩ := hb
  obtain ⟨h0, h1, h2, h3, h4, h5⟩ := hh
  have O : ∀ j, j < 288 + 6 * t + 2 ∨ 288 + 6 * t + 4 < j → (z_up (z_up (z_up q (288 + 6 * t + 2) s) (288 + 6 * t + 3) e) (288 + 6 * t + 4) 0) j = q j := fun j hj => by simp (disch := omega) only [z_up_ne]
  have e0 := O 0 (by omega)
  have e1 := O 1 (by omega)
  have e2 := O 2 (by omega)
  have e3 := O 3 (by omega)
  have e4 := O 4 (by omega)
  have e5 := O 5 (by omega)
  have U : y_used (z_up (z_up (z_up q (288 + 6 * t + 2) s) (288 + 6 * t + 3) e) (288 + 6 * t + 4) 0) (q 5).toNat = y_used q (q 5).toNat := by
    unfold y_used
    refine y_sum_congr (fun k hk => ?_)
    rw [O _ (by omega)]
  have A : ∀ i', y_act (z_up (z_up (z_up q (288 + 6 * t + 2) s) (288 + 6 * t + 3) e) (288 + 6 * t + 4) 0) i' (q 5).toNat = y_act q i' (q 5).toNat := by
    intro i'
    unfold y_act
    refine y_sum_congr (fun k hk => ?_)
    rw [O _ (by omega), O _ (by omega)]
  refine ⟨?_, fun r' a1 a2 => ?_, fun t' a1 a2 => ?_, fun i' a1 a2 => ?_, fun t' a1 a2 => ?_⟩
  · unfold y_heads
    rw [e0, e1, e2, e3, e4, e5]
    omega
  · rw [e1] at a2
    obtain ⟨c1, c2, c3, c4⟩ := H1 r' a1 a2
    refine ⟨y_ride_c e0 (fun w b1 b2 => O _ (by omega)) c1, y_lines_c e0 (O _ (by omega)) (O _ (by omega)) c1 (fun j b1 b2 => O _ (by omega)) (fun j b1 b2 => O _ (by omega)) c2, y_wait_c (by omega) (O _ (by omega)) c1 (fun j b1 b2 => O _ (by omega)) c3, ?_⟩
    rw [e5, O _ (by omega)]
    have := U
    omega
  · rw [e2] at a2
    exact y_tier_c (fun w b1 b2 => O _ (by omega)) (H2 t' a1 a2)
  · rw [e3] at a2
    obtain ⟨c1, c2⟩ := H3 i' a1 a2
    refine ⟨y_party_c e2 (fun w b1 b2 => O _ (by omega)) c1, ?_⟩
    rw [e5]
    have := A i'
    omega
  · rw [e5] at a2
    by_cases htt : t' = t
    · subst htt
      have hk := H4 t' a1 a2
      have v2 : (z_up (z_up (z_up q (288 + 6 * t' + 2) s) (288 + 6 * t' + 3) e) (288 + 6 * t' + 4) 0) (288 + 6 * t' + 2) = s := by rw [z_up_ne (by omega), z_up_ne (by omega), z_up_eq rfl]
      have v3 : (z_up (z_up (z_up q (288 + 6 * t' + 2) s) (288 + 6 * t' + 3) e) (288 + 6 * t' + 4) 0) (288 + 6 * t' + 3) = e := by rw [z_up_ne (by omega), z_up_eq rfl]
      have v4 : (z_up (z_up (z_up q (288 + 6 * t' + 2) s) (288 + 6 * t' + 3) e) (288 + 6 * t' + 4) 0) (288 + 6 * t' + 4) = 0 := by rw [z_up_eq rfl]
      unfold y_tk at *
      rw [v2, v3, v4, O (288 + 6 * t' + 0) (by omega), O (288 + 6 * t' + 1) (by omega), O (288 + 6 * t' + 5) (by omega), e1, e3, O (10 + 14 * q (288 + 6 * t' + 1) + 3) (by omega), O (10 + 14 * q (288 + 6 * t' + 1) + 4) (by omega)]
      omega
    · exact y_tk_c (by omega) e1 ⟨h0, h1, h2, h3, h4, h5⟩ (fun w b1 b2 => O _ (by omega)) (fun r' b1 b2 => ⟨O _ (by omega), O _ (by omega)⟩) (H4 t' a1 a2)
theorem y_base_standby {q : Int → Int} {r w : Int} (hb : y_base q) (hr : 0 ≤ r ∧ r < q 1) (hw : 1 ≤ w ∧ w ≤ 12) (hc : q (10 + 14 * r + 7) < 60) : y_base (z_up (z_up (z_up q (3588 + 122 * r + 2 * q (10 + 14 * r + 7)) w) (3588 + 122 * r + 2 * q (10 + 14 * r + 7) + 1) (q 0)) (10 + 14 * r + 7) (q (10 + 14 * r + 7) + 1)) := by
  obtain ⟨hh, H1, H2, H3, H4⟩ := hb
  obtain ⟨h0, h1, h2, h3, h4, h5⟩ := hh
  have d7 := (H1 r hr.1 hr.2).1.2.2.2.2.2.2.1
  have O : ∀ j, j ≠ 10 + 14 * r + 7 ∧ (j < 3588 + 122 * r + 2 * q (10 + 14 * r + 7) ∨ 3588 + 122 * r + 2 * q (10 + 14 * r + 7) + 1 < j) → (z_up (z_up (z_up q (3588 + 122 * r + 2 * q (10 + 14 * r + 7)) w) (3588 + 122 * r + 2 * q (10 + 14 * r + 7) + 1) (q 0)) (10 + 14 * r + 7) (q (10 + 14 * r + 7) + 1)) j = q j := fun j hj => by simp (disch := omega) only [z_up_ne]
  have e0 := O 0 (by omega)
  have e1 := O 1 (by omega)
  have e2 := O 2 (by omega)
  have e3 := O 3 (by omega)
  have e4 := O 4 (by omega)
  have e5 := O 5 (by omega)
  have U : y_used (z_up (z_up (z_up q (3588 + 122 * r + 2 * q (10 + 14 * r + 7)) w) (3588 + 122 * r + 2 * q (10 + 14 * r + 7) + 1) (q 0)) (10 + 14 * r + 7) (q (10 + 14 * r + 7) + 1)) (q 5).toNat = y_used q (q 5).toNat := by
    unfold y_used
    refine y_sum_congr (fun k hk => ?_)
    rw [O _ (by omega)]
  have A : ∀ i', y_act (z_up (z_up (z_up q (3588 + 122 * r + 2 * q (10 + 14 * r + 7)) w) (3588 + 122 * r + 2 * q (10 + 14 * r + 7) + 1) (q 0)) (10 + 14 * r + 7) (q (10 + 14 * r + 7) + 1)) i' (q 5).toNat = y_act q i' (q 5).toNat := by
    intro i'
    unfold y_act
    refine y_sum_congr (fun k hk => ?_)
    rw [O _ (by omega), O _ (by omega)]
  refine ⟨?_, fun r' a1 a2 => ?_, fun t' a1 a2 => ?_, fun i' a1 a2 => ?_, fun t' a1 a2 => ?_⟩
  · unfold y_heads
    rw [e0, e1, e2, e3, e4, e5]
    omega
  · rw [e1] at a2
    obtain ⟨c1, c2, c3, c4⟩ := H1 r' a1 a2
    have d7 := c1.2.2.2.2.2.2.1
    have d6 := c1.2.2.2.2.2.1
    have l3 : y_wait (z_up (z_up (z_up q (3588 + 122 * r + 2 * q (10 + 14 * r + 7)) w) (3588 + 122 * r + 2 * q (10 + 14 * r + 7) + 1) (q 0)) (10 + 14 * r + 7) (q (10 + 14 * r + 7) + 1)) r' := y_wait_c (by omega) (O _ (by omega)) c1 (fun j b1 b2 => O _ (by omega)) c3
    have l4 : (z_up (z_up (z_up q (3588 + 122 * r + 2 * q (10 + 14 * r + 7)) w) (3588 + 122 * r + 2 * q (10 + 14 * r + 7) + 1) (q 0)) (10 + 14 * r + 7) (q (10 + 14 * r + 7) + 1)) (10 + 14 * r' + 6) ≤ y_used (z_up (z_up (z_up q (3588 + 122 * r + 2 * q (10 + 14 * r + 7)) w) (3588 + 122 * r + 2 * q (10 + 14 * r + 7) + 1) (q 0)) (10 + 14 * r + 7) (q (10 + 14 * r + 7) + 1)) ((z_up (z_up (z_up q (3588 + 122 * r + 2 * q (10 + 14 * r + 7)) w) (3588 + 122 * r + 2 * q (10 + 14 * r + 7) + 1) (q 0)) (10 + 14 * r + 7) (q (10 + 14 * r + 7) + 1)) 5).toNat := by
      rw [e5, O _ (by omega)]
      have := U
      omega
    by_cases hrr : r' = r
    · subst hrr
      have v7 : (z_up (z_up (z_up q (3588 + 122 * r' + 2 * q (10 + 14 * r' + 7)) w) (3588 + 122 * r' + 2 * q (10 + 14 * r' + 7) + 1) (q 0)) (10 + 14 * r' + 7) (q (10 + 14 * r' + 7) + 1)) (10 + 14 * r' + 7) = q (10 + 14 * r' + 7) + 1 := z_up_eq rfl
      refine ⟨?_, ⟨fun k b1 b2 => ?_, fun k b1 b2 => ?_⟩, l3, l4⟩
      · unfold y_ride at *
        rw [e0, v7, O (10 + 14 * r' + 0) (by omega), O (10 + 14 * r' + 1) (by omega), O (10 + 14 * r' + 2) (by omega), O (10 + 14 * r' + 3) (by omega), O (10 + 14 * r' + 4) (by omega), O (10 + 14 * r' + 5) (by omega), O (10 + 14 * r' + 6) (by omega), O (10 + 14 * r' + 8) (by omega), O (10 + 14 * r' + 9) (by omega), O (10 + 14 * r' + 10) (by omega), O (10 + 14 * r' + 11) (by omega), O (10 + 14 * r' + 12) (by omega), O (10 + 14 * r' + 13) (by omega)]
        omega
      · rw [O _ (by omega)] at b2
        rw [O _ (by omega), O _ (by omega), e0]
        exact c2.1 k b1 b2
      · rw [v7] at b2
        by_cases hk : k = q (10 + 14 * r' + 7)
        · subst hk
          rw [z_up_ne (by omega), z_up_ne (by omega), z_up_eq rfl, z_up_ne (by omega), z_up_eq rfl, e0]
          omega
        · rw [O _ (by omega), O _ (by omega), e0]
          exact c2.2 k b1 (by omega)
    · have d7' := (H1 r hr.1 hr.2).1.2.2.2.2.2.2.1
      have d6 := c1.2.2.2.2.2.1
      exact ⟨y_ride_c e0 (fun w b1 b2 => O _ (by omega)) c1, y_lines_c e0 (O _ (by omega)) (O _ (by omega)) c1 (fun j b1 b2 => O _ (by omega)) (fun j b1 b2 => O _ (by omega)) c2, l3, l4⟩
  · rw [e2] at a2
    exact y_tier_c (fun w b1 b2 => O _ (by omega)) (H2 t' a1 a2)
  · rw [e3] at a2
    obtain ⟨c1, c2⟩ := H3 i' a1 a2
    refine ⟨y_party_c e2 (fun w b1 b2 => O _ (by omega)) c1, ?_⟩
    rw [e5]
    have := A i'
    omega
  · rw [e5] at a2
    exact y_tk_c (by omega) e1 ⟨h0, h1, h2, h3, h4, h5⟩ (fun w b1 b2 => O _ (by omega)) (fun r' b1 b2 => ⟨O _ (by omega), O _ (by omega)⟩) (H4 t' a1 a2)
