/-! parties, standby lines, redeeming: what always holds; the reference's methods (written by wip/whole/gen63.py) -/
theorem y_place_none {q : Int → Int} {i r : Int} (h : y_place q i r = -1) {k : Int} (h0 : 0 ≤ k) (h1 : k < q (10 + 14 * r + 13)) : q (4564 + 50 * r + k) ≠ i := by
  intro he
  have hmin : ∀ n : Nat, y_any (y_pl q i r) n = true → y_first (y_pl q i r) n ≠ -1 := by
    intro n
    induction n with
    | zero => intro z; cases z
    | succ n ih =>
      intro z
      rw [y_first]
      split
      · rename_i z2; exact ih z2
      · rename_i z2
        rw [y_any, Bool.or_eq_true] at z
        rcases z with z | z
        · exact absurd z z2
        · rw [if_pos z]; omega
  refine hmin (q (10 + 14 * r + 13)).toNat (y_any_iff.mpr ⟨k.toNat, by omega, ?_⟩) h
  rw [y_pl, decide_eq_true_eq, show (k.toNat : Int) = k by omega]
  exact he
theorem y_base_ins {q : Int → Int} {i r : Int} (hb : y_base q) (hi : 0 ≤ i ∧ i < q 3) (hr : 0 ≤ r ∧ r < q 1) (hp : y_place q i r = -1) : y_base (k_ins q i r) := by
  have room := y_wait_room hb hi hr hp
  have none := fun k => y_place_none (k := k) hp
  obtain ⟨hh, H1, H2, H3, H4⟩ := hb
  obtain ⟨h0, h1, h2, h3, h4, h5⟩ := hh
  have c13 := (H1 r hr.1 hr.2).1.2.2.2.2.2.2.2.2.2.2.2
  have at0 : 0 ≤ y_insAt q i r ∧ y_insAt q i r ≤ q (10 + 14 * r + 13) := by
    have := y_ins_le (q := q) (i := i) (r := r) (q (10 + 14 * r + 13)).toNat
    unfold y_insAt
    omega
  have v13 : k_ins q i r (10 + 14 * r + 13) = q (10 + 14 * r + 13) + 1 := by unfold k_ins; rw [if_pos rfl]
  have va : k_ins q i r (4564 + 50 * r + y_insAt q i r) = i := by unfold k_ins; rw [if_neg (by omega), if_pos rfl]
  have vi : ∀ j, 4564 + 50 * r + y_insAt q i r < j → j ≤ 4564 + 50 * r + q (10 + 14 * r + 13) → k_ins q i r j = q (j - 1) := by
    intro j a b; unfold k_ins; rw [if_neg (by omega), if_neg (by omega), if_pos ⟨a, b⟩]
  have O : ∀ j, j ≠ 10 + 14 * r + 13 ∧ (j < 4564 + 50 * r + y_insAt q i r ∨ 4564 + 50 * r + q (10 + 14 * r + 13) < j) → k_ins q i r j = q j := by
    intro j hj; unfold k_ins; rw [if_neg hj.1, if_neg (by omega), if_neg (by omega)]
  generalize y_insAt q i r = at9 at *
  have e0 := O 0 (by omega)
  have e1 := O 1 (by omega)
  have e2 := O 2 (by omega)
  have e3 := O 3 (by omega)
  have e4 := O 4 (by omega)
  have e5 := O 5 (by omega)
  have U : y_used (k_ins q i r) (q 5).toNat = y_used q (q 5).toNat := by
    unfold y_used
    refine y_sum_congr (fun k hk => ?_)
    rw [O _ (by omega)]
  have A : ∀ i', y_act (k_ins q i r) i' (q 5).toNat = y_act q i' (q 5).toNat := by
    intro i'
    unfold y_act
    refine y_sum_congr (fun k hk => ?_)
    rw [O _ (by omega), O _ (by omega)]
  refine ⟨?_, fun r' a1 a2 => ?_, fun t' a1 a2 => ?_, fun i' a1 a2 => ?_, fun t' a1 a2 => ?_⟩
  · unfold y_heads
    rw [e0, e1, e2, e3, e4, e5]
    omega
  · rw [e1] at a2
    obtain ⟨c1, c2, c3, c4⟩ := H1 r' a1 a2
    have l2 : y_lines (k_ins q i r) r' := y_lines_c e0 (O _ (by omega)) (O _ (by omega)) c1 (fun j b1 b2 => O _ (by omega)) (fun j b1 b2 => O _ (by omega)) c2
    have l4 : k_ins q i r (10 + 14 * r' + 6) ≤ y_used (k_ins q i r) (k_ins q i r 5).toNat := by
      rw [e5, O _ (by omega)]
      have := U
      omega
    by_cases hrr : r' = r
    · subst hrr
      refine ⟨?_, l2, ⟨fun k b1 b2 => ?_, fun j k b1 b2 b3 => ?_⟩, l4⟩
      · unfold y_ride at *
        rw [e0, v13, O (10 + 14 * r' + 0) (by omega), O (10 + 14 * r' + 1) (by omega), O (10 + 14 * r' + 2) (by omega), O (10 + 14 * r' + 3) (by omega), O (10 + 14 * r' + 4) (by omega), O (10 + 14 * r' + 5) (by omega), O (10 + 14 * r' + 6) (by omega), O (10 + 14 * r' + 7) (by omega), O (10 + 14 * r' + 8) (by omega), O (10 + 14 * r' + 9) (by omega), O (10 + 14 * r' + 10) (by omega), O (10 + 14 * r' + 11) (by omega), O (10 + 14 * r' + 12) (by omega)]
        omega
      · rw [v13] at b2
        rw [e3]
        by_cases hk : k < at9
        · rw [O _ (by omega)]; exact c3.1 k b1 (by omega)
        · by_cases hk2 : k = at9
          · rw [hk2, va]; exact hi
          · rw [vi _ (by omega) (by omega), show 4564 + 50 * r' + k - 1 = 4564 + 50 * r' + (k - 1) by omega]
            exact c3.1 (k - 1) (by omega) (by omega)
      · rw [v13] at b3
        by_cases hk : k < at9
        · rw [O _ (by omega), O _ (by omega)]; exact c3.2 j k b1 b2 (by omega)
        · by_cases hk2 : k = at9
          · rw [hk2, va, O _ (by omega)]; exact none j b1 (by omega)
          · rw [vi (4564 + 50 * r' + k) (by omega) (by omega), show 4564 + 50 * r' + k - 1 = 4564 + 50 * r' + (k - 1) by omega]
            by_cases hj : j < at9
            · rw [O _ (by omega)]; exact c3.2 j (k - 1) b1 (by omega) (by omega)
            · by_cases hj2 : j = at9
              · rw [hj2, va]; exact fun z => none (k - 1) (by omega) (by omega) z.symm
              · rw [vi _ (by omega) (by omega), show 4564 + 50 * r' + j - 1 = 4564 + 50 * r' + (j - 1) by omega]
                exact c3.2 (j - 1) (k - 1) (by omega) (by omega) (by omega)
    · exact ⟨y_ride_c e0 (fun w b1 b2 => O _ (by omega)) c1, l2, y_wait_c (by omega) (O _ (by omega)) c1 (fun j b1 b2 => O _ (by omega)) c3, l4⟩
  · rw [e2] at a2
    exact y_tier_c (fun w b1 b2 => O _ (by omega)) (H2 t' a1 a2)
  · rw [e3] at a2
    obtain ⟨c1, c2⟩ := H3 i' a1 a2
    refine ⟨y_party_c e2 (fun w b1 b2 => O _ (by omega)) c1, ?_⟩
    rw [e5]
    have := A i'
    omega
  · rw [e5] at a2
    exact y_tk_c (by omega) e1 ⟨h0, h1, h2, h3, h4, h5⟩ (fun w b1 b2 => O _ (by omega)) (fun r' b1 b2 => ⟨O _ (by omega), O _ (by omega)⟩) (H4 t' a1 a2)
def k_party (q : Int → Int) (ti w : Int) : Int → Int := z_up (z_up (z_up (z_up q (138 + 3 * q 3 + 0) ti) (138 + 3 * q 3 + 1) w) (138 + 3 * q 3 + 2) (-1)) 3 (q 3 + 1)
theorem y_base_party {q : Int → Int} {ti w : Int} (hb : y_base q) (ht : 0 ≤ ti ∧ ti < q 2) (hw : 1 ≤ w ∧ w ≤ 12) (h50 : q 3 < 50) : y_base (k_party q ti w) := by
  obtain ⟨hh, H1, H2, H3, H4⟩ := hb
  obtain ⟨h0, h1, h2, h3, h4, h5⟩ := hh
  have O : ∀ j, j ≠ 3 ∧ (j < 138 + 3 * q 3 ∨ 138 + 3 * q 3 + 2 < j) → k_party q ti w j = q j := by
    intro j hj; unfold k_party; simp (disch := omega) only [z_up_ne]
  have v0 : k_party q ti w (138 + 3 * q 3 + 0) = ti := by unfold k_party; rw [z_up_ne (by omega), z_up_ne (by omega), z_up_ne (by omega), z_up_eq rfl]
  have v1 : k_party q ti w (138 + 3 * q 3 + 1) = w := by unfold k_party; rw [z_up_ne (by omega), z_up_ne (by omega), z_up_eq rfl]
  have v2 : k_party q ti w (138 + 3 * q 3 + 2) = -1 := by unfold k_party; rw [z_up_ne (by omega), z_up_eq rfl]
  have e3 : k_party q ti w 3 = q 3 + 1 := by unfold k_party; rw [z_up_eq rfl]
  have e0 := O 0 (by omega)
  have e1 := O 1 (by omega)
  have e2 := O 2 (by omega)
  have e4 := O 4 (by omega)
  have e5 := O 5 (by omega)
  have U : y_used (k_party q ti w) (q 5).toNat = y_used q (q 5).toNat := by
    unfold y_used
    refine y_sum_congr (fun k hk => ?_)
    rw [O _ (by omega)]
  have A : ∀ i', y_act (k_party q ti w) i' (q 5).toNat = y_act q i' (q 5).toNat := by
    intro i'
    unfold y_act
    refine y_sum_congr (fun k hk => ?_)
    rw [O _ (by omega), O _ (by omega)]
  refine ⟨?_, fun r' a1 a2 => ?_, fun t' a1 a2 => ?_, fun i' a1 a2 => ?_, fun t' a1 a2 => ?_⟩
  · unfold y_heads
    rw [e0, e1, e2, e3, e4, e5]
    omega
  · rw [e1] at a2
    obtain ⟨c1, c2, c3, c4⟩ := H1 r' a1 a2
    refine ⟨y_ride_c e0 (fun w b1 b2 => O _ (by omega)) c1, y_lines_c e0 (O _ (by omega)) (O _ (by omega)) c1 (fun j b1 b2 => O _ (by omega)) (fun j b1 b2 => O _ (by omega)) c2, y_wait_c (by omega) (O _ (by omega)) c1 (fun j b1 b2 => O _ (by omega)) c3, ?_⟩
    rw [e5, O _ (by omega)]
    have := U
    omega
  · rw [e2] at a2
    exact y_tier_c (fun w b1 b2 => O _ (by omega)) (H2 t' a1 a2)
  · rw [e3] at a2
    rw [e5, A]
    by_cases hi : i' = q 3
    · subst hi
      refine ⟨?_, ?_⟩
      · unfold y_party
        rw [v0, v1, v2, e2]
        omega
      · have : y_act q (q 3) (q 5).toNat = y_sum (fun _ => 0) (q 5).toNat := by
          unfold y_act
          refine y_sum_congr (fun k hk => ?_)
          have := (H4 k (by omega) (by omega)).1
          rw [if_neg (by omega)]
        rw [this]
        have z : ∀ n, y_sum (fun _ => 0) n = 0 := by
          intro n
          induction n with
          | zero => rfl
          | succ n ih => rw [y_sum, ih]; rfl
        rw [z]; omega
    · obtain ⟨c1, c2⟩ := H3 i' a1 (by omega)
      exact ⟨y_party_c e2 (fun w b1 b2 => O _ (by omega)) c1, c2⟩
  · rw [e5] at a2
    exact y_tk_c (by omega) e1 ⟨h0, h1, h2, h3, h4, h5⟩ (fun w b1 b2 => O _ (by omega)) (fun r' b1 b2 => ⟨O _ (by omega), O _ (by omega)⟩) (H4 t' a1 a2)
def k_use (q : Int → Int) (t r : Int) : Int → Int := z_up (z_up (z_up (z_up q (288 + 6 * t + 5) 1) (1188 + 300 * r + 2 * q (10 + 14 * r + 6)) (q (138 + 3 * q (288 + 6 * t + 0) + 1))) (1188 + 300 * r + 2 * q (10 + 14 * r + 6) + 1) (q 0)) (10 + 14 * r + 6) (q (10 + 14 * r + 6) + 1)
theorem y_base_use {q : Int → Int} {t r : Int} (hb : y_base q) (ht : 0 ≤ t ∧ t < q 5) (hr : 0 ≤ r ∧ r < q 1) (hs : q (288 + 6 * t + 5) ≠ 1) : y_base (k_use q t r) := by
  have tk := hb.tk ht.1 ht.2
  obtain ⟨hh, H1, H2, H3, H4⟩ := hb
  obtain ⟨h0, h1, h2, h3, h4, h5⟩ := hh
  have d6 := (H1 r hr.1 hr.2).1.2.2.2.2.2.1
  have u6 := (H1 r hr.1 hr.2).2.2.2
  have ub : y_used q (q 5).toNat ≤ 149 := by
    have hz : y_sum (fun k => if q (288 + 6 * k + 5) = 1 then 1 else if k = t then 1 else 0) (q 5).toNat = y_used q (q 5).toNat + 1 := by
      unfold y_used
      refine y_sum_one (t := t.toNat) (by omega) (fun k hk hne => ?_) ?_
      · show (if q (288 + 6 * (k : Int) + 5) = 1 then (1 : Int) else 0) = if q (288 + 6 * (k : Int) + 5) = 1 then 1 else if (k : Int) = t then 1 else 0
        rw [if_neg (show ¬ (k : Int) = t by omega)]
      · show (if q (288 + 6 * (t.toNat : Int) + 5) = 1 then (1 : Int) else if (t.toNat : Int) = t then 1 else 0) = (if q (288 + 6 * (t.toNat : Int) + 5) = 1 then 1 else 0) + 1
        rw [show (t.toNat : Int) = t by omega, if_neg hs, if_pos rfl, if_neg hs]; rfl
    have := y_sum_le (f := fun k => if q (288 + 6 * k + 5) = 1 then 1 else if k = t then 1 else 0) (b := 1) (n := (q 5).toNat) (fun k hk => by show (if _ then (1 : Int) else if _ then 1 else 0) ≤ 1; split; omega; split <;> omega)
    omega
  have O : ∀ j, j ≠ 288 + 6 * t + 5 ∧ j ≠ 10 + 14 * r + 6 ∧ (j < 1188 + 300 * r + 2 * q (10 + 14 * r + 6) ∨ 1188 + 300 * r + 2 * q (10 + 14 * r + 6) + 1 < j) → k_use q t r j = q j := by
    intro j hj; unfold k_use; simp (disch := omega) only [z_up_ne]
  have vs : k_use q t r (288 + 6 * t + 5) = 1 := by unfold k_use; rw [z_up_ne (by omega), z_up_ne (by omega), z_up_ne (by omega), z_up_eq rfl]
  have v6 : k_use q t r (10 + 14 * r + 6) = q (10 + 14 * r + 6) + 1 := by unfold k_use; rw [z_up_eq rfl]
  have va : k_use q t r (1188 + 300 * r + 2 * q (10 + 14 * r + 6)) = q (138 + 3 * q (288 + 6 * t + 0) + 1) := by unfold k_use; rw [z_up_ne (by omega), z_up_ne (by omega), z_up_eq rfl]
  have vb : k_use q t r (1188 + 300 * r + 2 * q (10 + 14 * r + 6) + 1) = q 0 := by unfold k_use; rw [z_up_ne (by omega), z_up_eq rfl]
  have e0 := O 0 (by omega)
  have e1 := O 1 (by omega)
  have e2 := O 2 (by omega)
  have e3 := O 3 (by omega)
  have e4 := O 4 (by omega)
  have e5 := O 5 (by omega)
  have U : y_used (k_use q t r) (q 5).toNat = y_used q (q 5).toNat + 1 := by
    unfold y_used
    refine y_sum_one (t := t.toNat) (by omega) (fun k hk hne => ?_) ?_
    · show (if q (288 + 6 * (k : Int) + 5) = 1 then (1 : Int) else 0) = if k_use q t r (288 + 6 * (k : Int) + 5) = 1 then 1 else 0
      rw [O _ (by omega)]
    · show (if k_use q t r (288 + 6 * (t.toNat : Int) + 5) = 1 then (1 : Int) else 0) = (if q (288 + 6 * (t.toNat : Int) + 5) = 1 then 1 else 0) + 1
      rw [show (t.toNat : Int) = t by omega, vs, if_pos rfl, if_neg hs]; rfl
  have A : ∀ i', y_act (k_use q t r) i' (q 5).toNat ≤ y_act q i' (q 5).toNat := by
    intro i'
    unfold y_act
    refine y_sum_mono (fun k hk => ?_)
    show (if k_use q t r (288 + 6 * (k : Int) + 0) = i' ∧ k_use q t r (288 + 6 * (k : Int) + 5) = 0 then (1 : Int) else 0) ≤ if q (288 + 6 * (k : Int) + 0) = i' ∧ q (288 + 6 * (k : Int) + 5) = 0 then 1 else 0
    rw [O (288 + 6 * (k : Int) + 0) (by omega)]
    by_cases hkt : (k : Int) = t
    · rw [hkt, vs]
      split <;> split <;> omega
    · rw [O _ (by omega)]
      exact Int.le_refl _
  refine ⟨?_, fun r' a1 a2 => ?_, fun t' a1 a2 => ?_, fun i' a1 a2 => ?_, fun t' a1 a2 => ?_⟩
  · unfold y_heads
    rw [e0, e1, e2, e3, e4, e5]
    omega
  · rw [e1] at a2
    obtain ⟨c1, c2, c3, c4⟩ := H1 r' a1 a2
    have g6 := c1.2.2.2.2.2.1
    have g7 := c1.2.2.2.2.2.2.1
    have l3 : y_wait (k_use q t r) r' := y_wait_c (by omega) (O _ (by omega)) c1 (fun j b1 b2 => O _ (by omega)) c3
    rw [e5, U]
    by_cases hrr : r' = r
    · subst hrr
      refine ⟨?_, ⟨fun k b1 b2 => ?_, fun k b1 b2 => ?_⟩, l3, ?_⟩
      · unfold y_ride at *
        rw [e0, v6, O (10 + 14 * r' + 0) (by omega), O (10 + 14 * r' + 1) (by omega), O (10 + 14 * r' + 2) (by omega), O (10 + 14 * r' + 3) (by omega), O (10 + 14 * r' + 4) (by omega), O (10 + 14 * r' + 5) (by omega), O (10 + 14 * r' + 7) (by omega), O (10 + 14 * r' + 8) (by omega), O (10 + 14 * r' + 9) (by omega), O (10 + 14 * r' + 10) (by omega), O (10 + 14 * r' + 11) (by omega), O (10 + 14 * r' + 12) (by omega), O (10 + 14 * r' + 13) (by omega)]
        omega
      · rw [v6] at b2
        by_cases hk : k = q (10 + 14 * r' + 6)
        · rw [hk, va, vb, e0]
          omega
        · rw [O _ (by omega), O _ (by omega), e0]
          exact c2.1 k b1 (by omega)
      · rw [O _ (by omega)] at b2
        rw [O _ (by omega), O _ (by omega), e0]
        exact c2.2 k b1 b2
      · rw [v6]; omega
    · refine ⟨y_ride_c e0 (fun w b1 b2 => O _ (by omega)) c1, y_lines_c e0 (O _ (by omega)) (O _ (by omega)) c1 (fun j b1 b2 => O _ (by omega)) (fun j b1 b2 => O _ (by omega)) c2, l3, ?_⟩
      rw [O _ (by omega)]; omega
  · rw [e2] at a2
    exact y_tier_c (fun w b1 b2 => O _ (by omega)) (H2 t' a1 a2)
  · rw [e3] at a2
    obtain ⟨c1, c2⟩ := H3 i' a1 a2
    refine ⟨y_party_c e2 (fun w b1 b2 => O _ (by omega)) c1, ?_⟩
    rw [e5]
    have := A i'
    omega
  · rw [e5] at a2
    by_cases htt : t' = t
    · subst htt
      have hk := H4 t' a1 a2
      unfold y_tk at *
      rw [vs, O (288 + 6 * t' + 0) (by omega), O (288 + 6 * t' + 1) (by omega), O (288 + 6 * t' + 2) (by omega), O (288 + 6 * t' + 3) (by omega), O (288 + 6 * t' + 4) (by omega), e1, e3, O (10 + 14 * q (288 + 6 * t' + 1) + 3) (by omega), O (10 + 14 * q (288 + 6 * t' + 1) + 4) (by omega)]
      omega
    · exact y_tk_c (by omega) e1 ⟨h0, h1, h2, h3, h4, h5⟩ (fun w b1 b2 => O _ (by omega)) (fun r' b1 b2 => ⟨O _ (by omega), O _ (by omega)⟩) (H4 t' a1 a2)
def k_standby (q : Int → Int) (r w : Int) : Int → Int := z_up (z_up (z_up q (3588 + 122 * r + 2 * q (10 + 14 * r + 7)) w) (3588 + 122 * r + 2 * q (10 + 14 * r + 7) + 1) (q 0)) (10 + 14 * r + 7) (q (10 + 14 * r + 7) + 1)
def o_addParty (q : Int → Int) (ti w : Int) : Int × Int := y_need (0 ≤ ti ∧ ti < q 2) 1 (y_need (1 ≤ w ∧ w ≤ 12) 2 (0, if q 3 = 50 then -6 else q 3))
def k_addParty (q : Int → Int) (ti w : Int) : Int → Int := if (0 ≤ ti ∧ ti < q 2) ∧ (1 ≤ w ∧ w ≤ 12) ∧ q 3 ≠ 50 then k_party q ti w else q
def o_joinStandby (q : Int → Int) (r w : Int) : Int × Int := y_need (0 ≤ r ∧ r < q 1) 1 (y_need (1 ≤ w ∧ w ≤ 12) 2 (0, if q (10 + 14 * r + 7) = 60 then -6 else q (10 + 14 * r + 7) + 1))
def k_joinStandby (q : Int → Int) (r w : Int) : Int → Int := if (0 ≤ r ∧ r < q 1) ∧ (1 ≤ w ∧ w ≤ 12) ∧ q (10 + 14 * r + 7) ≠ 60 then k_standby q r w else q
def y_mayUse (q : Int → Int) (t : Int) : Prop := q (288 + 6 * t + 5) = 0 ∧ (q (288 + 6 * t + 2) ≤ q 0 ∧ q 0 ≤ q (288 + 6 * t + 3)) ∧ q (10 + 14 * q (288 + 6 * t + 1) + 5) ≠ 1
def y_mayOpen (q : Int → Int) (t r : Int) : Prop := q (288 + 6 * t + 5) = 4 ∧ (q (10 + 14 * r + 3) ≤ q 0 ∧ q 0 ≤ q (10 + 14 * r + 4)) ∧ q (10 + 14 * r + 5) = 0
section R11
variable {l : Launch} {d : Nat} {g : List (Option Nat)} {T : m_E} {J : z_J} {X : z_X}
theorem c_useTicket (hb : y_base (J 149)) {t r : Int} (ht : 0 ≤ t ∧ t < J 149 5) (hr : 0 ≤ r ∧ r < J 149 1) : z_Sem l (d + 2) M_R_useTicket [.inr (.inr (.ref 148)), .inl t, .inl r] (m_Ex g T, J, X) 0 0 (z_vd (m_Ex g T, z_row J 149 (k_use (J 149) t r), X)) := by
  obtain ⟨h0, h1, h2, h3, h4, h5⟩ := hb.1
  have tk := hb.tk ht.1 ht.2
  have d6 := (hb.ride hr.1 hr.2).2.2.2.2.2.1
  refine z_sem_of z_m265 m_ok_265 (Nat.le_of_ble_eq_true rfl) (fun Wp hs hv hS => ?_)
  refine w_265_0 hs ?_
  simp (disch := omega) only [z_up_ne]
  refine ⟨by omega, rfl, ?_⟩
  simp only [z_u_row1 (J := J), z_u_zrow]
  rfl
theorem p_addParty (hb : y_base (J 149)) {ti w : Int} : z_Sem l (d + 2) M_R_addParty [.inr (.inr (.ref 148)), .inl ti, .inl w] (m_Ex g T, J, X) 0 0 (z_rq (m_Ex g T) (fun v J' X' => X' = X ∧ y_tp J (k_addParty (J 149) ti w) (o_addParty (J 149) ti w).1 J' ∧ v = (o_addParty (J 149) ti w).2)) := by
  obtain ⟨h0, h1, h2, h3, h4, h5⟩ := hb.1
  have bad : ∀ (w9 x : Int), o_addParty (J 149) ti w = (w9, x) → ¬ ((0 ≤ ti ∧ ti < J 149 2) ∧ (1 ≤ w ∧ w ≤ 12) ∧ J 149 3 ≠ 50) → ∀ J1, y_tp J (J 149) w9 J1 → z_rq (m_Ex g T) (fun v J' X' => X' = X ∧ y_tp J (k_addParty (J 149) ti w) (o_addParty (J 149) ti w).1 J' ∧ v = (o_addParty (J 149) ti w).2) (.inl (some (.inl x))) (m_Ex g T, J1, X) := by
    intro w9 x ho hn J1 hJ
    rw [k_addParty, ho, if_neg hn]
    exact ⟨_, _, _, rfl, rfl, rfl, hJ, rfl⟩
  refine z_sem_of z_m200 m_ok_200 (Nat.le_of_ble_eq_true rfl) (fun Wp hs hv hS => ?_)
  refine w_200_0 hs ?_
  refine ⟨by omega, fun c => bad 1 0 (by rw [o_addParty, y_need_n (by omega)]) (by omega) _ y_tp.th, fun c => ⟨fun c1 => bad 1 0 (by rw [o_addParty, y_need_n (by omega)]) (by omega) _ y_tp.th, fun c1 => ⟨fun c2 => bad 2 0 (by rw [o_addParty, y_need_2 (by omega), y_need_n (by omega)]) (by omega) _ y_tp.th, fun c2 => ⟨fun c3 => bad 2 0 (by rw [o_addParty, y_need_2 (by omega), y_need_n (by omega)]) (by omega) _ y_tp.th, fun c3 => ⟨fun c4 => ?_, fun c4 => bad 0 (-6) (by rw [o_addParty, y_need_2 (by omega), y_need_2 (by omega), if_pos c4]) (by omega) _ y_tp.th0⟩⟩⟩⟩⟩
  simp (disch := omega) only [z_up_ne]
  rw [o_addParty, y_need_2 (by omega), y_need_2 (by omega), if_neg c4, k_addParty, if_pos (by omega)]
  refine ⟨by omega, _, _, _, rfl, rfl, rfl, ?_, by show J 149 3 + 1 - 1 = J 149 3; omega⟩
  simp only [z_u_row1 (J := z_u J 148 2 0), z_u_zrow]
  exact (y_to.put (J := z_u J 148 2 0)).tp
theorem p_joinStandby (hb : y_base (J 149)) {r w : Int} : z_Sem l (d + 3) M_R_joinStandby [.inr (.inr (.ref 148)), .inl r, .inl w] (m_Ex g T, J, X) 0 0 (z_rq (m_Ex g T) (fun v J' X' => X' = X ∧ y_tp J (k_joinStandby (J 149) r w) (o_joinStandby (J 149) r w).1 J' ∧ v = (o_joinStandby (J 149) r w).2)) := by
  obtain ⟨h0, h1, h2, h3, h4, h5⟩ := hb.1
  have bad : ∀ (w9 x : Int), o_joinStandby (J 149) r w = (w9, x) → ¬ ((0 ≤ r ∧ r < J 149 1) ∧ (1 ≤ w ∧ w ≤ 12) ∧ J 149 (10 + 14 * r + 7) ≠ 60) → ∀ J1, y_tp J (J 149) w9 J1 → z_rq (m_Ex g T) (fun v J' X' => X' = X ∧ y_tp J (k_joinStandby (J 149) r w) (o_joinStandby (J 149) r w).1 J' ∧ v = (o_joinStandby (J 149) r w).2) (.inl (some (.inl x))) (m_Ex g T, J1, X) := by
    intro w9 x ho hn J1 hJ
    rw [k_joinStandby, ho, if_neg hn]
    exact ⟨_, _, _, rfl, rfl, rfl, hJ, rfl⟩
  refine z_sem_of z_m278 m_ok_278 (Nat.le_of_ble_eq_true rfl) (fun Wp hs hv hS => ?_)
  refine w_278_0 hs ?_
  refine ⟨by omega, fun c => bad 1 0 (by rw [o_joinStandby, y_need_n (by omega)]) (by omega) _ y_tp.th, fun c => ⟨fun c1 => bad 1 0 (by rw [o_joinStandby, y_need_n (by omega)]) (by omega) _ y_tp.th, fun c1 => ⟨fun c2 => bad 2 0 (by rw [o_joinStandby, y_need_2 (by omega), y_need_n (by omega)]) (by omega) _ y_tp.th, fun c2 => ⟨fun c3 => bad 2 0 (by rw [o_joinStandby, y_need_2 (by omega), y_need_n (by omega)]) (by omega) _ y_tp.th, fun c3 => ⟨by omega, fun c4 => ?_, fun c4 => bad 0 (-6) (by rw [o_joinStandby, y_need_2 (by omega), y_need_2 (by omega), if_pos c4]) (by omega) _ y_tp.th0⟩⟩⟩⟩⟩
  have d7 := (hb.ride c (by omega)).2.2.2.2.2.2.1
  simp (disch := omega) only [z_up_ne, z_up_eq]
  rw [o_joinStandby, y_need_2 (by omega), y_need_2 (by omega), if_neg c4, k_joinStandby, if_pos (by omega)]
  refine ⟨by omega, _, _, _, rfl, rfl, rfl, ?_, rfl⟩
  simp only [z_u_row1 (J := z_u J 148 2 0), z_u_zrow]
  exact (y_to.put (J := z_u J 148 2 0)).tp
end R11
