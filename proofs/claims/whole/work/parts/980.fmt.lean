/-! an itinerary as text: the k-th active ticket is there; both sides write the same -/
theorem y_first_any {f : Int → Bool} : ∀ {n : Nat}, y_any f n = true → 0 ≤ y_first f n
  | 0, h => by cases h
  | n + 1, h => by
    rw [y_first]
    split
    · rename_i z; exact y_first_any z
    · rename_i z
      rw [y_any, Bool.or_eq_true] at h
      rcases h with h | h
      · exact absurd h z
      · rw [if_pos h]; omega
theorem y_min_ex {P : Nat → Prop} {key : Nat → Int} : ∀ n : Nat, (∃ k, k < n ∧ P k) → ∃ k, k < n ∧ P k ∧ ∀ j, j < n → P j → key k ≤ key j
  | 0, ⟨k, h, _⟩ => by omega
  | n + 1, ⟨k, h, hk⟩ => by
    by_cases hx : ∃ k, k < n ∧ P k
    · obtain ⟨m, m1, m2, m3⟩ := y_min_ex (key := key) n hx
      by_cases hn : P n ∧ key n < key m
      · refine ⟨n, by omega, hn.1, fun j hj pj => ?_⟩
        by_cases e : j = n
        · subst e; exact Int.le_refl _
        · have := m3 j (by omega) pj
          omega
      · refine ⟨m, by omega, m2, fun j hj pj => ?_⟩
        by_cases e : j = n
        · subst e
          have : ¬ key j < key m := fun z => hn ⟨pj, z⟩
          omega
        · exact m3 j (by omega) pj
    · have e : k = n := by
        by_cases e : k = n
        · exact e
        · exact absurd ⟨k, by omega, hk⟩ hx
      subst e
      refine ⟨k, by omega, hk, fun j hj pj => ?_⟩
      by_cases e : j = k
      · subst e; exact Int.le_refl _
      · exact absurd ⟨j, by omega, pj⟩ hx
theorem y_sum_pos {f : Int → Int} : ∀ {n : Nat}, 0 < y_sum f n → ∃ k : Nat, k < n ∧ 0 < f k
  | 0, h => by simp [y_sum] at h
  | n + 1, h => by
    rw [y_sum] at h
    by_cases h2 : 0 < f n
    · exact ⟨n, by omega, h2⟩
    · obtain ⟨k, a, b⟩ := y_sum_pos (f := f) (n := n) (by omega)
      exact ⟨k, by omega, b⟩
theorem y_sum_z {f : Int → Int} : ∀ {n : Nat}, (∀ k : Nat, k < n → f k = 0) → y_sum f n = 0
  | 0, _ => rfl
  | n + 1, h => by rw [y_sum, y_sum_z (n := n) (fun k hk => h k (by omega)), h n (by omega)]; rfl
section F1
variable {q : Int → Int}
theorem y_rank_ex (hb : y_base q) {i : Int} : ∀ k : Nat, (k : Int) < y_act q i (q 5).toNat → ∃ t : Nat, t < (q 5).toNat ∧ (q (288 + 6 * (t : Int) + 0) = i ∧ q (288 + 6 * (t : Int) + 5) = 0) ∧ y_bfs q i t = k
  | 0, h => by
    have b5 := hb.1.2.2.2.2.2
    obtain ⟨k, k1, k2⟩ := y_sum_pos (show 0 < y_sum (fun t => if q (288 + 6 * t + 0) = i ∧ q (288 + 6 * t + 5) = 0 then 1 else 0) (q 5).toNat from h)
    have kP : q (288 + 6 * (k : Int) + 0) = i ∧ q (288 + 6 * (k : Int) + 5) = 0 := by
      have k2 : 0 < (if q (288 + 6 * (k : Int) + 0) = i ∧ q (288 + 6 * (k : Int) + 5) = 0 then (1 : Int) else 0) := k2
      by_cases z : q (288 + 6 * (k : Int) + 0) = i ∧ q (288 + 6 * (k : Int) + 5) = 0
      · exact z
      · rw [if_neg z] at k2; omega
    obtain ⟨t, t1, t2, t3⟩ := y_min_ex (P := fun t => q (288 + 6 * (t : Int) + 0) = i ∧ q (288 + 6 * (t : Int) + 5) = 0) (key := fun t => 1000 * q (288 + 6 * (t : Int) + 2) + t) (q 5).toNat ⟨k, k1, kP⟩
    refine ⟨t, t1, t2, ?_⟩
    have : y_bfs q i t = 0 := y_sum_z (fun o ho => by
      unfold y_bf
      rw [if_neg]
      rintro ⟨o1, o2, o3⟩
      have := t3 o ho ⟨o1, o2⟩
      have bo := hb.tk (t := o) (by omega) (by omega)
      have bt := hb.tk (t := t) (by omega) (by omega)
      omega)
    rw [this]; rfl
  | k + 1, h => by
    have b5 := hb.1.2.2.2.2.2
    obtain ⟨t, t1, t2, t3⟩ := y_rank_ex hb (i := i) k (by omega)
    have bt := hb.tk (t := t) (by omega) (by omega)
    have gs : y_sum (fun o => if (q (288 + 6 * o + 0) = i ∧ q (288 + 6 * o + 5) = 0) ∧ 1000 * q (288 + 6 * o + 2) + o ≤ 1000 * q (288 + 6 * (t : Int) + 2) + t then 1 else 0) (q 5).toNat = k + 1 := by
      rw [← t3]
      unfold y_bfs
      refine y_sum_one (t := t) t1 (fun o ho hne => ?_) ?_
      · have bo := hb.tk (t := o) (by omega) (by omega)
        unfold y_bf
        show _ = if _ then (1 : Int) else 0
        by_cases c : (q (288 + 6 * (o : Int) + 0) = i ∧ q (288 + 6 * (o : Int) + 5) = 0) ∧ 1000 * q (288 + 6 * (o : Int) + 2) + o ≤ 1000 * q (288 + 6 * (t : Int) + 2) + t
        · rw [if_pos c, if_pos ⟨c.1.1, c.1.2, by omega⟩]
        · rw [if_neg c, if_neg (fun z => c ⟨⟨z.1, z.2.1⟩, by omega⟩)]
      · unfold y_bf
        show (if _ then (1 : Int) else 0) = _
        rw [if_pos ⟨t2, Int.le_refl _⟩, if_neg (fun z => by omega)]
        rfl
    have ex : ∃ o, o < (q 5).toNat ∧ ((q (288 + 6 * (o : Int) + 0) = i ∧ q (288 + 6 * (o : Int) + 5) = 0) ∧ 1000 * q (288 + 6 * (t : Int) + 2) + t < 1000 * q (288 + 6 * (o : Int) + 2) + o) := by
      by_cases hx : ∃ o, o < (q 5).toNat ∧ ((q (288 + 6 * (o : Int) + 0) = i ∧ q (288 + 6 * (o : Int) + 5) = 0) ∧ 1000 * q (288 + 6 * (t : Int) + 2) + t < 1000 * q (288 + 6 * (o : Int) + 2) + o)
      · exact hx
      · have : y_act q i (q 5).toNat = k + 1 := by
          rw [← gs]
          unfold y_act
          refine y_sum_congr (fun o ho => ?_)
          show (if _ then (1 : Int) else 0) = if _ then (1 : Int) else 0
          by_cases c : q (288 + 6 * (o : Int) + 0) = i ∧ q (288 + 6 * (o : Int) + 5) = 0
          · have : ¬ (1000 * q (288 + 6 * (t : Int) + 2) + t < 1000 * q (288 + 6 * (o : Int) + 2) + o) := fun z => hx ⟨o, ho, c, z⟩
            rw [if_pos c, if_pos ⟨c, by omega⟩]
          · rw [if_neg c, if_neg (fun z => c z.1)]
        omega
    obtain ⟨s, s1, s2, s3⟩ := y_min_ex (P := fun o => (q (288 + 6 * (o : Int) + 0) = i ∧ q (288 + 6 * (o : Int) + 5) = 0) ∧ 1000 * q (288 + 6 * (t : Int) + 2) + t < 1000 * q (288 + 6 * (o : Int) + 2) + o) (key := fun t => 1000 * q (288 + 6 * (t : Int) + 2) + t) (q 5).toNat ex
    refine ⟨s, s1, s2.1, ?_⟩
    have bs := hb.tk (t := s) (by omega) (by omega)
    rw [show ((k + 1 : Nat) : Int) = (k : Int) + 1 from rfl, ← gs]
    unfold y_bfs
    refine y_sum_congr (fun o ho => ?_)
    have bo := hb.tk (t := o) (by omega) (by omega)
    unfold y_bf
    show _ = if _ then (1 : Int) else 0
    by_cases c : (q (288 + 6 * (o : Int) + 0) = i ∧ q (288 + 6 * (o : Int) + 5) = 0) ∧ 1000 * q (288 + 6 * (o : Int) + 2) + o ≤ 1000 * q (288 + 6 * (t : Int) + 2) + t
    · have := s2.2
      rw [if_pos c, if_pos ⟨c.1.1, c.1.2, by omega⟩]
    · rw [if_neg c, if_neg]
      rintro ⟨z1, z2, z3⟩
      have := s3 o ho ⟨⟨z1, z2⟩, by
        by_cases y : 1000 * q (288 + 6 * (t : Int) + 2) + t < 1000 * q (288 + 6 * (o : Int) + 2) + o
        · exact y
        · exact absurd ⟨⟨z1, z2⟩, by omega⟩ c⟩
      omega
theorem y_at_ok (hb : y_base q) {i : Int} {k : Nat} (h : (k : Int) < y_act q i (q 5).toNat) : 0 ≤ y_at q i k ∧ y_at q i k < q 5 := by
  have b5 := hb.1.2.2.2.2.2
  obtain ⟨t, t1, t2, t3⟩ := y_rank_ex hb k h
  have a : y_any (y_aa q i k) (q 5).toNat = true := y_any_iff.mpr ⟨t, t1, by unfold y_aa; rw [decide_eq_true_eq]; exact ⟨t2.1, t2.2, t3⟩⟩
  have := y_first_any a
  have := y_first_lt (f := y_aa q i k) (n := (q 5).toNat)
  unfold y_at
  omega
end F1
/-- one byte more -/
def k_ap (s : (Int → Int) × Int) (v : Int) : (Int → Int) × Int := (z_up s.1 s.2 v, s.2 + 1)
def k_num (n : Int) (s : (Int → Int) × Int) : (Int → Int) × Int := if n ≤ 9 then k_ap s (48 + n % 10) else if n ≤ 99 then k_ap (k_ap s (48 + n / 10 % 10)) (48 + n % 10) else k_ap (k_ap (k_ap s (48 + n / 100)) (48 + n / 10 % 10)) (48 + n % 10)
def k_item (q : Int → Int) (t : Int) (s : (Int → Int) × Int) : (Int → Int) × Int := k_ap (k_num (q (288 + 6 * t + 3)) (k_ap (k_num (q (288 + 6 * t + 2)) (k_ap (k_num (q (288 + 6 * t + 1)) s) 64)) 45)) 59
def k_fmt (q : Int → Int) (i : Int) (s : (Int → Int) × Int) : Nat → (Int → Int) × Int
  | 0 => s
  | n + 1 => k_item q (y_at q i n) (k_fmt q i s n)
/-- two texts are the same -/
def y_same (s s' : (Int → Int) × Int) : Prop := s.2 = s'.2 ∧ ∀ k, 0 ≤ k → k < s.2 → s.1 k = s'.1 k
theorem y_same_ap {s s' : (Int → Int) × Int} {v : Int} (h : y_same s s') : y_same (k_ap s v) (k_ap s' v) := by
  refine ⟨by show s.2 + 1 = s'.2 + 1; rw [h.1], fun k h0 h1 => ?_⟩
  have h1 : k < s.2 + 1 := h1
  show z_up s.1 s.2 v k = z_up s'.1 s'.2 v k
  rw [← h.1]
  by_cases hk : k = s.2
  · rw [z_up_eq hk, z_up_eq hk]
  · rw [z_up_ne hk, z_up_ne hk, h.2 k h0 (by omega)]
theorem y_same_num {s s' : (Int → Int) × Int} {n : Int} (h : y_same s s') : y_same (k_num n s) (k_num n s') := by
  unfold k_num
  split
  · exact y_same_ap h
  · split
    · exact y_same_ap (y_same_ap h)
    · exact y_same_ap (y_same_ap (y_same_ap h))
theorem y_same_fmt {q : Int → Int} {i : Int} {s s' : (Int → Int) × Int} (h : y_same s s') : ∀ n : Nat, y_same (k_fmt q i s n) (k_fmt q i s' n)
  | 0 => h
  | n + 1 => y_same_ap (y_same_num (y_same_ap (y_same_num (y_same_ap (y_same_num (y_same_fmt h n))))))
theorem k_num_l {n : Int} {s : (Int → Int) × Int} : s.2 < (k_num n s).2 ∧ (k_num n s).2 ≤ s.2 + 3 ∧ (n ≤ 9 → (k_num n s).2 = s.2 + 1) := by
  unfold k_num
  by_cases h : n ≤ 9
  · rw [if_pos h]
    show s.2 < s.2 + 1 ∧ s.2 + 1 ≤ s.2 + 3 ∧ (n ≤ 9 → s.2 + 1 = s.2 + 1)
    omega
  · rw [if_neg h]
    split
    · show s.2 < s.2 + 1 + 1 ∧ s.2 + 1 + 1 ≤ s.2 + 3 ∧ (n ≤ 9 → s.2 + 1 + 1 = s.2 + 1)
      omega
    · show s.2 < s.2 + 1 + 1 + 1 ∧ s.2 + 1 + 1 + 1 ≤ s.2 + 3 ∧ (n ≤ 9 → s.2 + 1 + 1 + 1 = s.2 + 1)
      omega
theorem k_item_l {q : Int → Int} {t : Int} {s : (Int → Int) × Int} (h : q (288 + 6 * t + 1) ≤ 9) : s.2 ≤ (k_item q t s).2 ∧ (k_item q t s).2 ≤ s.2 + 10 := by
  have a := k_num_l (n := q (288 + 6 * t + 1)) (s := s)
  have b := k_num_l (n := q (288 + 6 * t + 2)) (s := k_ap (k_num (q (288 + 6 * t + 1)) s) 64)
  have c := k_num_l (n := q (288 + 6 * t + 3)) (s := k_ap (k_num (q (288 + 6 * t + 2)) (k_ap (k_num (q (288 + 6 * t + 1)) s) 64)) 45)
  have e1 : (k_ap (k_num (q (288 + 6 * t + 1)) s) 64).2 = (k_num (q (288 + 6 * t + 1)) s).2 + 1 := rfl
  have e2 : (k_ap (k_num (q (288 + 6 * t + 2)) (k_ap (k_num (q (288 + 6 * t + 1)) s) 64)) 45).2 = (k_num (q (288 + 6 * t + 2)) (k_ap (k_num (q (288 + 6 * t + 1)) s) 64)).2 + 1 := rfl
  have e3 : (k_item q t s).2 = (k_num (q (288 + 6 * t + 3)) (k_ap (k_num (q (288 + 6 * t + 2)) (k_ap (k_num (q (288 + 6 * t + 1)) s) 64)) 45)).2 + 1 := rfl
  omega
theorem k_fmt_l {q : Int → Int} (hb : y_base q) {i : Int} {s : (Int → Int) × Int} : ∀ n : Nat, (n : Int) ≤ y_act q i (q 5).toNat → s.2 ≤ (k_fmt q i s n).2 ∧ (k_fmt q i s n).2 ≤ s.2 + 10 * n
  | 0, _ => ⟨Int.le_refl _, by show s.2 ≤ s.2 + 10 * ((0 : Nat) : Int); omega⟩
  | n + 1, h => by
    have ih := k_fmt_l hb (i := i) (s := s) n (by omega)
    have t := y_at_ok hb (i := i) (k := n) (by omega)
    have b := hb.tk t.1 t.2
    have := k_item_l (q := q) (t := y_at q i n) (s := k_fmt q i s n) (by omega)
    rw [k_fmt]
    omega
/-- the text that is there after formatItinerary -/
def k_form (q : Int → Int) (i : Int) (s : (Int → Int) × Int) : (Int → Int) × Int := if 0 ≤ i ∧ i < q 3 then k_fmt q i (s.1, 0) (y_act q i (q 5).toNat).toNat else s
def o_format (q : Int → Int) (i : Int) : Int × Int := y_need (0 ≤ i ∧ i < q 3) 1 (0, (k_fmt q i (fun _ => 0, 0) (y_act q i (q 5).toNat).toNat).2)
theorem o_format_l {q : Int → Int} {i : Int} {f : Int → Int} : (k_fmt q i (f, 0) (y_act q i (q 5).toNat).toNat).2 = (k_fmt q i (fun _ => 0, 0) (y_act q i (q 5).toNat).toNat).2 := (y_same_fmt (s := (f, 0)) (s' := (fun _ => 0, 0)) ⟨rfl, fun k a b => absurd (show k < 0 from b) (by omega)⟩ _).1
theorem k_form_same {q : Int → Int} {i : Int} {s s' : (Int → Int) × Int} (h : y_same s s') : y_same (k_form q i s) (k_form q i s') := by
  unfold k_form
  split
  · exact y_same_fmt (s := (s.1, 0)) (s' := (s'.1, 0)) ⟨rfl, fun k a b => absurd (show k < 0 from b) (by omega)⟩ _
  · exact h
theorem k_form_b {q : Int → Int} (hb : y_base q) {i : Int} {s : (Int → Int) × Int} (h : 0 ≤ s.2 ∧ s.2 ≤ 64) : 0 ≤ (k_form q i s).2 ∧ (k_form q i s).2 ≤ 64 := by
  unfold k_form
  split
  · rename_i hi
    have a5 := (hb.2.2.2.1 i hi.1 hi.2).2
    have a0 := (y_act_b (q := q) (i := i) (n := (q 5).toNat)).1
    have := k_fmt_l hb (i := i) (s := (s.1, 0)) (y_act q i (q 5).toNat).toNat (by omega)
    have e : (s.1, (0 : Int)).2 = 0 := rfl
    omega
  · exact h
/-- only the text has changed: s -/
def y_fm (J : z_J) (s : (Int → Int) × Int) (J' : z_J) : Prop := J' 157 = s.1 ∧ J' 148 11 = s.2 ∧ (∀ k, k ≠ 11 → J' 148 k = J 148 k) ∧ ∀ b, b ≠ 148 → b ≠ 157 → J' b = J b
def x_fm (J : z_J) (s : (Int → Int) × Int) (J' : z_J) : Prop := J' 147 = s.1 ∧ J' 0 10 = s.2 ∧ (∀ k, k ≠ 10 → J' 0 k = J 0 k) ∧ ∀ b, b ≠ 0 → b ≠ 147 → J' b = J b
theorem y_fm_0 {J : z_J} : y_fm J (J 157, J 148 11) J := ⟨rfl, rfl, fun _ _ => rfl, fun _ _ _ => rfl⟩
theorem x_fm_0 {J : z_J} : x_fm J (J 147, J 0 10) J := ⟨rfl, rfl, fun _ _ => rfl, fun _ _ _ => rfl⟩
theorem y_fm_ap {J J1 : z_J} {s : (Int → Int) × Int} {n m v : Int} (h : y_fm J s J1) (hn : n = s.2) (hm : m = n + 1) : y_fm J (k_ap s v) (z_u (z_u J1 157 n v) 148 11 m) := by
  obtain ⟨h1, h2, h3, h4⟩ := h
  refine ⟨?_, ?_, fun k hk => ?_, fun b b1 b2 => ?_⟩
  · rw [z_u_ne (by omega), z_u_row, h1, hn]; rfl
  · rw [z_u_at rfl, hm, hn]; rfl
  · rw [z_u_off hk, z_u_ne (by omega)]; exact h3 k hk
  · rw [z_u_ne b1, z_u_ne b2]; exact h4 b b1 b2
theorem x_fm_ap {J J1 : z_J} {s : (Int → Int) × Int} {n m v : Int} (h : x_fm J s J1) (hn : n = s.2) (hm : m = n + 1) : x_fm J (k_ap s v) (z_u (z_u J1 147 n v) 0 10 m) := by
  obtain ⟨h1, h2, h3, h4⟩ := h
  refine ⟨?_, ?_, fun k hk => ?_, fun b b1 b2 => ?_⟩
  · rw [z_u_ne (by omega), z_u_row, h1, hn]; rfl
  · rw [z_u_at rfl, hm, hn]; rfl
  · rw [z_u_off hk, z_u_ne (by omega)]; exact h3 k hk
  · rw [z_u_ne b1, z_u_ne b2]; exact h4 b b1 b2
theorem y_fm_tr {J J1 J2 : z_J} {s : (Int → Int) × Int} {F : (Int → Int) × Int → (Int → Int) × Int} (h : y_fm J s J1) (h2 : y_fm J1 (F (J1 157, J1 148 11)) J2) : y_fm J (F s) J2 := by
  have e : (J1 157, J1 148 11) = s := by rw [h.1, h.2.1]
  rw [e] at h2
  exact ⟨h2.1, h2.2.1, fun k hk => (h2.2.2.1 k hk).trans (h.2.2.1 k hk), fun b a1 a2 => (h2.2.2.2 b a1 a2).trans (h.2.2.2 b a1 a2)⟩
theorem x_fm_tr {J J1 J2 : z_J} {s : (Int → Int) × Int} {F : (Int → Int) × Int → (Int → Int) × Int} (h : x_fm J s J1) (h2 : x_fm J1 (F (J1 147, J1 0 10)) J2) : x_fm J (F s) J2 := by
  have e : (J1 147, J1 0 10) = s := by rw [h.1, h.2.1]
  rw [e] at h2
  exact ⟨h2.1, h2.2.1, fun k hk => (h2.2.2.1 k hk).trans (h.2.2.1 k hk), fun b a1 a2 => (h2.2.2.2 b a1 a2).trans (h.2.2.2 b a1 a2)⟩
section R19
variable {l : Launch} {d : Nat} {g : List (Option Nat)} {T : m_E} {J : z_J} {X : z_X} {q : Int → Int}
theorem c_appendNumber {n : Int} (hn : 0 ≤ n ∧ n ≤ 999) (hL : 0 ≤ J 148 11 ∧ J 148 11 ≤ 190) : z_Sem l (d + 2) M_R_appendNumber [.inr (.inr (.ref 148)), .inl n] (m_Ex g T, J, X) 0 0 (z_vq (m_Ex g T) (fun J' X' => X' = X ∧ y_fm J (k_num n (J 157, J 148 11)) J')) := by
  have b1 : (48 + n % 10 + 128) % 256 - 128 = 48 + n % 10 := by omega
  have b2 : (48 + n / 10 % 10 + 128) % 256 - 128 = 48 + n / 10 % 10 := by omega
  refine z_sem_of z_m306 m_ok_306 (Nat.le_of_ble_eq_true rfl) (fun Wp hs hv hS => ?_)
  refine w_306_0 hs ?_
  simp only [b1, b2]
  refine ⟨fun c => ⟨fun c1 => ⟨by omega, _, _, rfl, rfl, rfl, ?_⟩, fun c1 => ⟨by omega, _, _, rfl, rfl, rfl, ?_⟩⟩, fun c => ⟨by omega, fun c1 => by omega, fun c1 => ⟨by omega, _, _, rfl, rfl, rfl, ?_⟩⟩⟩
  · rw [k_num, if_pos c1]
    exact y_fm_ap y_fm_0 rfl rfl
  · rw [k_num, if_neg (by omega), if_pos c]
    exact y_fm_ap (y_fm_ap y_fm_0 rfl rfl) rfl rfl
  · have b3 : (48 + n / 100 + 128) % 256 - 128 = 48 + n / 100 := by omega
    rw [k_num, if_neg (by omega), if_neg (by omega), b3]
    exact y_fm_ap (y_fm_ap (y_fm_ap y_fm_0 rfl rfl) rfl rfl) rfl rfl
theorem p_formatItinerary (hb : y_base (J 149)) {i : Int} : z_Sem l (d + 4) M_R_formatItinerary [.inr (.inr (.ref 148)), .inl i] (m_Ex g T, J, X) 0 0 (z_rq (m_Ex g T) (fun v J' X' => X' = X ∧ v = (o_format (J 149) i).2 ∧ y_fm (z_u J 148 2 (o_format (J 149) i).1) (k_form (J 149) i (J 157, J 148 11)) J')) := by
  obtain ⟨h0, h1, h2, h3, h4, h5⟩ := hb.1
  have bad : ¬ (0 ≤ i ∧ i < J 149 3) → z_rq (m_Ex g T) (fun v J' X' => X' = X ∧ v = (o_format (J 149) i).2 ∧ y_fm (z_u J 148 2 (o_format (J 149) i).1) (k_form (J 149) i (J 157, J 148 11)) J') (.inl (some (.inl 0))) (m_Ex g T, z_u (z_u J 148 2 0) 148 2 1, X) := by
    intro hn
    rw [o_format, y_need_n hn, k_form, if_neg hn, z_u_u]
    refine ⟨_, _, _, rfl, rfl, rfl, rfl, rfl, ?_, fun _ _ => rfl, fun _ _ _ => rfl⟩
    rw [z_u_off (by omega)]
  refine z_sem_of z_m305 m_ok_305 (Nat.le_of_ble_eq_true rfl) (fun Wp hs hv hS => ?_)
  have loop : (0 ≤ i ∧ i < J 149 3) → ∀ (m k : Nat) (J1 : z_J), k + m = (y_act (J 149) i (J 149 5).toNat).toNat → y_fm (z_u J 148 2 0) (k_fmt (J 149) i (J 157, 0) k) J1 → Wp 35 [some (.inr (.inr (.ref 148))), some (.inl i), some (.inl k), none] [] (m_Ex g T, J1, X) 0 0 := by
    intro hi m
    have a5 := (hb.2.2.2.1 i hi.1 hi.2).2
    have a0 := (y_act_b (q := J 149) (i := i) (n := (J 149 5).toNat)).1
    induction m with
    | zero =>
      intro k J1 hk f1
      have e149 : J1 149 = J 149 := (f1.2.2.2 149 (by omega) (by omega)).trans (z_u_ne (by omega))
      have ca := c_activeOf (l := l) (d := d) (g := g) (T := T) (J := J1) (X := X) (i := i) (by rw [e149]; exact hb)
      rw [e149] at ca
      refine w_305_35 hs ?_
      refine z_cI ca ⟨fun c => ?_, fun c => by omega⟩
      rw [f1.2.1]
      rw [o_format, y_need_2 hi, k_form, if_pos hi, show (y_act (J 149) i (J 149 5).toNat).toNat = k by omega]
      refine ⟨_, _, _, rfl, rfl, rfl, ?_, f1⟩
      have := o_format_l (q := J 149) (i := i) (f := J 157)
      rw [show (y_act (J 149) i (J 149 5).toNat).toNat = k by omega] at this
      exact this
    | succ m ih =>
      intro k J1 hk f1
      have e149 : J1 149 = J 149 := (f1.2.2.2 149 (by omega) (by omega)).trans (z_u_ne (by omega))
      have ca := c_activeOf (l := l) (d := d) (g := g) (T := T) (J := J1) (X := X) (i := i) (by rw [e149]; exact hb)
      rw [e149] at ca
      have cb := c_activeAt (l := l) (d := d) (g := g) (T := T) (J := J1) (X := X) (i := i) (x := k) (by rw [e149]; exact hb)
      rw [e149] at cb
      have tb := y_at_ok hb (i := i) (k := k) (by omega)
      have tk := hb.tk tb.1 tb.2
      have ln := k_fmt_l hb (i := i) (s := (J 157, 0)) k (by omega)
      have ln0 : (J 157, (0 : Int)).2 = 0 := rfl
      have nx := ih (k + 1)
      rw [k_fmt, k_item] at nx
      generalize y_at (J 149) i k = t at *
      generalize k_fmt (J 149) i (J 157, 0) k = s at *
      refine w_305_35 hs ?_
      refine z_cI ca ⟨fun c => by omega, fun c => z_cI cb ⟨by omega, ?_⟩⟩
      rw [e149]
      refine z_cVq (c_appendNumber (by omega) (by rw [f1.2.1]; omega)) ?_
      rintro J2 X2 ⟨rfl, g2⟩
      have f2 := y_fm_tr (F := k_num (J 149 (288 + 6 * t + 1))) f1 g2
      have l2 := k_num_l (n := J 149 (288 + 6 * t + 1)) (s := s)
      have e2 : J2 149 = J 149 := (f2.2.2.2 149 (by omega) (by omega)).trans (z_u_ne (by omega))
      have f3 := y_fm_ap (v := 64) f2 f2.2.1 rfl
      rw [e2, f2.2.1]
      rw [f2.2.1] at f3
      generalize k_num (J 149 (288 + 6 * t + 1)) s = s2 at *
      refine ⟨by omega, z_cVq (c_appendNumber (by omega) (by rw [f3.2.1]; show 0 ≤ s2.2 + 1 ∧ s2.2 + 1 ≤ 190; omega)) ?_⟩
      rintro J4 X4 ⟨rfl, g4⟩
      have f4 := y_fm_tr (F := k_num (J 149 (288 + 6 * t + 2))) f3 g4
      have l4 := k_num_l (n := J 149 (288 + 6 * t + 2)) (s := k_ap s2 64)
      have l4' : (k_ap s2 64).2 = s2.2 + 1 := rfl
      have e4 : J4 149 = J 149 := (f4.2.2.2 149 (by omega) (by omega)).trans (z_u_ne (by omega))
      have f5 := y_fm_ap (v := 45) f4 f4.2.1 rfl
      rw [e4, f4.2.1]
      rw [f4.2.1] at f5
      generalize k_num (J 149 (288 + 6 * t + 2)) (k_ap s2 64) = s4 at *
      refine ⟨by omega, z_cVq (c_appendNumber (by omega) (by rw [f5.2.1]; show 0 ≤ s4.2 + 1 ∧ s4.2 + 1 ≤ 190; omega)) ?_⟩
      rintro J6 X6 ⟨rfl, g6⟩
      have f6 := y_fm_tr (F := k_num (J 149 (288 + 6 * t + 3))) f5 g6
      have l6 := k_num_l (n := J 149 (288 + 6 * t + 3)) (s := k_ap s4 45)
      have l6' : (k_ap s4 45).2 = s4.2 + 1 := rfl
      have f7 := y_fm_ap (v := 59) f6 f6.2.1 rfl
      rw [f6.2.1]
      rw [f6.2.1] at f7
      exact ⟨by omega, nx _ (by omega) f7⟩
  refine w_305_0 hs ?_
  refine ⟨by omega, fun c => bad (by omega), fun c => ⟨fun c1 => bad (by omega), fun c1 => ?_⟩⟩
  refine loop (by omega) (y_act (J 149) i (J 149 5).toNat).toNat 0 _ (by omega) ⟨?_, ?_, fun k hk => ?_, fun b b1 b2 => ?_⟩
  · rw [z_u_ne (by omega), z_u_ne (by omega)]; rfl
  · rw [z_u_at rfl]; rfl
  · rw [z_u_off hk]
  · rw [z_u_ne b1]
theorem e_formatSign {v : Int} (hv : 0 ≤ v ∧ v ≤ 127) (hL : 0 ≤ J 0 10 ∧ J 0 10 < 64) : z_Sem l (d + 1) M_Q_formatSign [.inr (.inr (.ref 0)), .inl v] (m_Ex g T, J, X) 0 0 (z_vq (m_Ex g T) (fun J' X' => X' = X ∧ x_fm J (k_ap (J 147, J 0 10) v) J')) := by
  have b1 : (v + 128) % 256 - 128 = v := by omega
  refine z_sem_of z_m189 m_ok_189 (Nat.le_of_ble_eq_true rfl) (fun Wp hs hv hS => ?_)
  refine w_189_0 hs ?_
  simp only [b1]
  exact ⟨fun c => by omega, fun c => ⟨by omega, _, _, rfl, rfl, rfl, x_fm_ap x_fm_0 rfl rfl⟩⟩
theorem e_formatNumber {n : Int} (hn : 0 ≤ n ∧ n ≤ 999) (hL : 0 ≤ J 0 10 ∧ J 0 10 ≤ 60) : z_Sem l (d + 2) M_Q_formatNumber [.inr (.inr (.ref 0)), .inl n] (m_Ex g T, J, X) 0 0 (z_vq (m_Ex g T) (fun J' X' => X' = X ∧ x_fm J (k_num n (J 147, J 0 10)) J')) := by
  have b1 : (48 + n % 10) % 65536 = 48 + n % 10 := by omega
  have b2 : (48 + n / 10 % 10) % 65536 = 48 + n / 10 % 10 := by omega
  have b3 : (48 + n / 100) % 65536 = 48 + n / 100 := by omega
  refine z_sem_of z_m188 m_ok_188 (Nat.le_of_ble_eq_true rfl) (fun Wp hs hv hS => ?_)
  refine w_188_0 hs ?_
  simp only [b1, b2, b3]
  refine ⟨fun c => ⟨fun c1 => ⟨by omega, z_cVq (e_formatSign (by omega) (by omega)) ?_⟩, fun c1 => ⟨by omega, z_cVq (e_formatSign (by omega) (by omega)) ?_⟩⟩, fun c => ⟨by omega, z_cVq (e_formatSign (by omega) (by omega)) ?_⟩⟩
  · rintro J2 X2 ⟨rfl, f2⟩
    rw [k_num, if_pos (by omega)]
    exact ⟨_, _, rfl, rfl, rfl, f2⟩
  · rintro J2 X2 ⟨rfl, f2⟩
    have l2 : J2 0 10 = J 0 10 + 1 := f2.2.1
    refine ⟨by omega, z_cVq (e_formatSign (by omega) (by omega)) ?_⟩
    rintro J3 X3 ⟨rfl, f3⟩
    rw [k_num, if_neg (by omega), if_pos (by omega)]
    exact ⟨_, _, rfl, rfl, rfl, x_fm_tr (F := fun s => k_ap s (48 + n % 10)) f2 f3⟩
  · rintro J2 X2 ⟨rfl, f2⟩
    have l2 : J2 0 10 = J 0 10 + 1 := f2.2.1
    refine ⟨fun c1 => by omega, fun c1 => ⟨by omega, z_cVq (e_formatSign (by omega) (by omega)) ?_⟩⟩
    rintro J3 X3 ⟨rfl, f3⟩
    have l3 : J3 0 10 = J2 0 10 + 1 := f3.2.1
    refine ⟨by omega, z_cVq (e_formatSign (by omega) (by omega)) ?_⟩
    rintro J4 X4 ⟨rfl, f4⟩
    rw [k_num, if_neg (by omega), if_neg (by omega)]
    exact ⟨_, _, rfl, rfl, rfl, x_fm_tr (F := fun s => k_ap s (48 + n % 10)) (x_fm_tr (F := fun s => k_ap s (48 + n / 10 % 10)) f2 f3) f4⟩
theorem x_fm_day {J J1 : z_J} {s : (Int → Int) × Int} (hb : y_base q) (h : x_day 36 q J) (f : x_fm J s J1) : x_day 36 q J1 := x_day_mv (y_cb_b hb) (fun _ _ _ => rfl) (fun k hk => f.2.2.2 (36 + k) (by omega) (by omega)) h
theorem q_formatItinerary (hb : y_base q) (h : x_day 36 q J) {i : Int} : z_Sem l (d + 4) M_Q_formatItinerary [.inr (.inr (.ref 0)), .inl i] (m_Ex g T, J, X) 4 24 (x_out x_e1 x_e2 (o_format q i) (m_Ex g T) (fun J' X' => X' = X ∧ x_fm J (k_form q i (J 147, J 0 10)) J')) := by
  obtain ⟨b0, b1, b2, b3, b4, b5⟩ := hb.1
  obtain ⟨d0, d4, d1, d2, d3, d5⟩ := h.hd
  have t1 : ¬ (0 ≤ i ∧ i < q 3) → x_out x_e1 x_e2 (o_format q i) (m_Ex g T) (fun J' X' => X' = X ∧ x_fm J (k_form q i (J 147, J 0 10)) J') (.inr x_e1) (m_Ex g T, J, X) := fun hn => x_t1 (by rw [o_format, y_need_n hn]) ⟨rfl, by rw [k_form, if_neg hn]; exact x_fm_0⟩
  refine z_sem_of z_m187 m_ok_187 (Nat.le_of_ble_eq_true rfl) (fun Wp hs hv hS => ?_)
  have loop : (0 ≤ i ∧ i < q 3) → ∀ (m k : Nat) (J1 : z_J), k + m = (y_act q i (q 5).toNat).toNat → x_fm J (k_fmt q i (J 147, 0) k) J1 → Wp 25 [some (.inr (.inr (.ref 0))), some (.inl i), some (.inl (y_act q i (q 5).toNat)), some (.inl k), none] [] (m_Ex g T, J1, X) 3 18 := by
    intro hi m
    have a5 := (hb.2.2.2.1 i hi.1 hi.2).2
    have a0 := (y_act_b (q := q) (i := i) (n := (q 5).toNat)).1
    induction m with
    | zero =>
      intro k J1 hk f1
      refine w_187_25 hs ?_
      rw [f1.2.1]
      refine ⟨fun c => x_ok ?_ ⟨rfl, ?_⟩, fun c => by omega⟩
      · rw [o_format, y_need_2 hi]
        have := o_format_l (q := q) (i := i) (f := J 147)
        rw [← this, show (y_act q i (q 5).toNat).toNat = k by omega]
      · rw [k_form, if_pos hi, show (y_act q i (q 5).toNat).toNat = k by omega]; exact f1
    | succ m ih =>
      intro k J1 hk f1
      have x1 : x_day 36 q J1 := x_fm_day hb h f1
      have tb := y_at_ok hb (i := i) (k := k) (by omega)
      have tk := hb.tk tb.1 tb.2
      have ln := k_fmt_l hb (i := i) (s := (J 147, 0)) k (by omega)
      have ln0 : (J 147, (0 : Int)).2 = 0 := rfl
      have nx := ih (k + 1)
      rw [k_fmt, k_item] at nx
      have cb := e_activeAt (l := l) (d := d) (g := g) (T := T) (J := J1) (X := X) (i := i) (x := k) hb x1
      generalize y_at q i k = t at *
      generalize k_fmt q i (J 147, 0) k = s at *
      refine w_187_25 hs ?_
      refine ⟨fun c => by omega, fun c => z_cI cb ⟨fun c1 => by omega, fun c1 => ⟨by omega, ?_⟩⟩⟩
      have f := h.tk tb.1 tb.2
      have ef : ∀ (J9 : z_J) (s9 : (Int → Int) × Int), x_fm J s9 J9 → J9 59 t = q (288 + 6 * t + 1) ∧ J9 60 t = q (288 + 6 * t + 2) ∧ J9 61 t = q (288 + 6 * t + 3) := fun J9 s9 z => by
        rw [z.2.2.2 59 (by omega) (by omega), z.2.2.2 60 (by omega) (by omega), z.2.2.2 61 (by omega) (by omega)]
        exact ⟨f.2.1, f.2.2.1, f.2.2.2.1⟩
      rw [(ef J1 _ f1).1]
      refine z_cVq (e_formatNumber (by omega) (by rw [f1.2.1]; omega)) ?_
      rintro J2 X2 ⟨rfl, g2⟩
      have f2 := x_fm_tr (F := k_num (q (288 + 6 * t + 1))) f1 g2
      have l2 := k_num_l (n := q (288 + 6 * t + 1)) (s := s)
      generalize k_num (q (288 + 6 * t + 1)) s = s2 at *
      refine z_cVq (e_formatSign (by omega) (by rw [f2.2.1]; omega)) ?_
      rintro J3 X3 ⟨rfl, g3⟩
      have f3 := x_fm_tr (F := fun s => k_ap s 64) f2 g3
      rw [(ef J3 _ f3).2.1]
      refine ⟨by omega, z_cVq (e_formatNumber (by omega) (by rw [f3.2.1]; show 0 ≤ s2.2 + 1 ∧ s2.2 + 1 ≤ 60; omega)) ?_⟩
      rintro J4 X4 ⟨rfl, g4⟩
      have f4 := x_fm_tr (F := k_num (q (288 + 6 * t + 2))) f3 g4
      have l4 := k_num_l (n := q (288 + 6 * t + 2)) (s := k_ap s2 64)
      have l4' : (k_ap s2 64).2 = s2.2 + 1 := rfl
      generalize k_num (q (288 + 6 * t + 2)) (k_ap s2 64) = s4 at *
      refine z_cVq (e_formatSign (by omega) (by rw [f4.2.1]; omega)) ?_
      rintro J5 X5 ⟨rfl, g5⟩
      have f5 := x_fm_tr (F := fun s => k_ap s 45) f4 g5
      rw [(ef J5 _ f5).2.2]
      refine ⟨by omega, z_cVq (e_formatNumber (by omega) (by rw [f5.2.1]; show 0 ≤ s4.2 + 1 ∧ s4.2 + 1 ≤ 60; omega)) ?_⟩
      rintro J6 X6 ⟨rfl, g6⟩
      have f6 := x_fm_tr (F := k_num (q (288 + 6 * t + 3))) f5 g6
      have l6 := k_num_l (n := q (288 + 6 * t + 3)) (s := k_ap s4 45)
      have l6' : (k_ap s4 45).2 = s4.2 + 1 := rfl
      refine z_cVq (e_formatSign (by omega) (by rw [f6.2.1]; omega)) ?_
      rintro J7 X7 ⟨rfl, g7⟩
      have f7 := x_fm_tr (F := fun s => k_ap s 59) f6 g7
      exact ⟨by omega, nx _ (by omega) f7⟩
  have f00 : x_fm J (J 147, 0) (z_u J 0 10 0) := by
    refine ⟨?_, ?_, fun k hk => ?_, fun b b1 b2 => ?_⟩
    · rw [z_u_ne (by omega)]
    · rw [z_u_at rfl]
    · rw [z_u_off hk]
    · rw [z_u_ne b1]
  refine w_187_0 hs ?_
  rw [d3]
  refine ⟨by omega, fun c => t1 (by omega), fun c => ⟨fun c1 => ?_, fun c1 => t1 (by omega)⟩⟩
  have a0 := (y_act_b (q := q) (i := i) (n := (q 5).toNat)).1
  refine z_cI (e_countOf hb (x_fm_day hb h f00)) ?_
  exact loop ⟨c, c1⟩ (y_act q i (q 5).toNat).toNat 0 _ (by omega) f00
end R19
