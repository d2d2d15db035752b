/-! sums and counts over whole numbers -/
def y_sum (f : Int → Int) : Nat → Int
  | 0 => 0
  | n + 1 => y_sum f n + f n
def y_any (f : Int → Bool) : Nat → Bool
  | 0 => false
  | n + 1 => y_any f n || f n
/-- the least place below n with f, or -1 -/
def y_first (f : Int → Bool) : Nat → Int
  | 0 => -1
  | n + 1 => if y_any f n = true then y_first f n else if f n = true then n else -1
theorem y_sum_le {f : Int → Int} {b : Int} : ∀ {n : Nat}, (∀ k : Nat, k < n → f k ≤ b) → y_sum f n ≤ b * n
  | 0, _ => by simp [y_sum]
  | n + 1, h => by
    have h1 := y_sum_le (n := n) (fun k hk => h k (by omega))
    have h2 := h n (by omega)
    rw [y_sum, show ((n + 1 : Nat) : Int) = (n : Int) + 1 from rfl, Int.mul_add]
    omega
theorem y_sum_nn {f : Int → Int} : ∀ {n : Nat}, (∀ k : Nat, k < n → 0 ≤ f k) → 0 ≤ y_sum f n
  | 0, _ => Int.le_refl _
  | n + 1, h => by
    have h1 := y_sum_nn (n := n) (fun k hk => h k (by omega))
    have h2 := h n (by omega)
    rw [y_sum]
    omega
theorem y_sum_congr {f g : Int → Int} : ∀ {n : Nat}, (∀ k : Nat, k < n → f k = g k) → y_sum f n = y_sum g n
  | 0, _ => rfl
  | n + 1, h => by rw [y_sum, y_sum, y_sum_congr (n := n) (fun k hk => h k (by omega)), h n (by omega)]
theorem y_any_congr {f g : Int → Bool} : ∀ {n : Nat}, (∀ k : Nat, k < n → f k = g k) → y_any f n = y_any g n
  | 0, _ => rfl
  | n + 1, h => by rw [y_any, y_any, y_any_congr (n := n) (fun k hk => h k (by omega)), h n (by omega)]
theorem y_first_congr {f g : Int → Bool} : ∀ {n : Nat}, (∀ k : Nat, k < n → f k = g k) → y_first f n = y_first g n
  | 0, _ => rfl
  | n + 1, h => by rw [y_first, y_first, y_any_congr (n := n) (fun k hk => h k (by omega)), y_first_congr (n := n) (fun k hk => h k (by omega)), h n (by omega)]
theorem y_any_mono {f : Int → Bool} : ∀ (m n : Nat), y_any f n = true → y_any f (n + m) = true
  | 0, _, h => h
  | m + 1, n, h => by
    show (y_any f (n + m) || f ((n + m : Nat) : Int)) = true
    rw [y_any_mono m n h]; rfl
theorem y_any_iff {f : Int → Bool} : ∀ {n : Nat}, y_any f n = true ↔ ∃ k : Nat, k < n ∧ f k = true
  | 0 => ⟨fun h => (by cases h), fun ⟨k, h, _⟩ => (by omega)⟩
  | n + 1 => by
    rw [y_any, Bool.or_eq_true, y_any_iff (n := n)]
    constructor
    · rintro (⟨k, h1, h2⟩ | h)
      · exact ⟨k, by omega, h2⟩
      · exact ⟨n, by omega, h⟩
    · rintro ⟨k, h1, h2⟩
      by_cases hk : k = n
      · subst hk; exact Or.inr h2
      · exact Or.inl ⟨k, by omega, h2⟩
theorem y_first_none {f : Int → Bool} : ∀ {n : Nat}, y_any f n = false → y_first f n = -1
  | 0, _ => rfl
  | n + 1, h => by
    rw [y_any, Bool.or_eq_false_iff] at h
    rw [y_first, h.1, h.2]; rfl
theorem y_first_at {f : Int → Bool} : ∀ {n k : Nat}, k < n → y_any f k = false → f k = true → y_first f n = k
  | 0, _, h, _, _ => by omega
  | n + 1, k, h, h1, h2 => by
    rw [y_first]
    by_cases hk : k = n
    · subst hk
      rw [h1, h2]; rfl
    · have ha : y_any f n = true := y_any_iff.mpr ⟨k, by omega, h2⟩
      rw [if_pos ha]
      exact y_first_at (by omega) h1 h2
theorem y_first_lt {f : Int → Bool} : ∀ {n : Nat}, -1 ≤ y_first f n ∧ y_first f n < n
  | 0 => by simp [y_first]
  | n + 1 => by
    have := y_first_lt (f := f) (n := n)
    rw [y_first]
    split
    · omega
    · split <;> omega
theorem y_first_spec {f : Int → Bool} : ∀ {n : Nat}, 0 ≤ y_first f n → f (y_first f n) = true ∧ y_any f (y_first f n).toNat = false
  | 0, h => by simp [y_first] at h
  | n + 1, h => by
    rw [y_first] at h ⊢
    split
    · rename_i ha
      rw [if_pos ha] at h
      exact y_first_spec h
    · rename_i ha
      rw [if_neg ha] at h
      split
      · rename_i hf
        exact ⟨hf, by simpa using ha⟩
      · rename_i hf
        rw [if_neg hf] at h
        omega
theorem z_up_eq {f : Int → Int} {k j x : Int} (h : j = k) : z_up f k x j = x := if_pos h
theorem z_up_ne {f : Int → Int} {k j x : Int} (h : j ≠ k) : z_up f k x j = f j := if_neg h
theorem z_u_row {J : z_J} {a : Nat} {k x : Int} : z_u J a k x a = z_up (J a) k x := if_pos rfl
theorem z_u_ne {J : z_J} {a b : Nat} {k x : Int} (h : b ≠ a) : z_u J a k x b = J b := if_neg h
theorem z_row_eq {J : z_J} {a : Nat} {f : Int → Int} : z_row J a f a = f := if_pos rfl
theorem z_row_ne {J : z_J} {a b : Nat} {f : Int → Int} (h : b ≠ a) : z_row J a f b = J b := if_neg h
theorem z_u_u {J : z_J} {a : Nat} {k x y : Int} : z_u (z_u J a k x) a k y = z_u J a k y := by
  funext b j
  unfold z_u z_row z_up
  by_cases h : b = a
  · subst h
    simp only [if_true]
    by_cases h2 : j = k
    · rw [if_pos h2, if_pos h2]
    · rw [if_neg h2, if_neg h2, if_neg h2]
  · rw [if_neg h, if_neg h, if_neg h]
/-! what always holds of a block: the bounds that the document names -/
def y_ride (q : Int → Int) (r : Int) : Prop := (1 ≤ q (10 + 14 * r + 0) ∧ q (10 + 14 * r + 0) ≤ 200) ∧ (0 ≤ q (10 + 14 * r + 1) ∧ q (10 + 14 * r + 1) ≤ 100) ∧ (1 ≤ q (10 + 14 * r + 2) ∧ q (10 + 14 * r + 2) ≤ 24) ∧ (0 ≤ q (10 + 14 * r + 3) ∧ q (10 + 14 * r + 3) ≤ q (10 + 14 * r + 4) ∧ q (10 + 14 * r + 4) ≤ 143) ∧ (q (10 + 14 * r + 5) = 0 ∨ q (10 + 14 * r + 5) = 1) ∧ (0 ≤ q (10 + 14 * r + 6) ∧ q (10 + 14 * r + 6) ≤ 150) ∧ (0 ≤ q (10 + 14 * r + 7) ∧ q (10 + 14 * r + 7) ≤ 60) ∧
  (0 ≤ q (10 + 14 * r + 8) ∧ 0 ≤ q (10 + 14 * r + 9) ∧ q (10 + 14 * r + 8) + q (10 + 14 * r + 9) ≤ 200 * q 0) ∧ (0 ≤ q (10 + 14 * r + 10) ∧ q (10 + 14 * r + 10) ≤ 144 * q (10 + 14 * r + 11)) ∧ (0 ≤ q (10 + 14 * r + 11) ∧ q (10 + 14 * r + 11) ≤ 200 * q 0) ∧ (0 ≤ q (10 + 14 * r + 12) ∧ q (10 + 14 * r + 12) ≤ 144) ∧ (0 ≤ q (10 + 14 * r + 13) ∧ q (10 + 14 * r + 13) ≤ 50)
def y_tier (q : Int → Int) (t : Int) : Prop := (1 ≤ q (122 + 4 * t + 0) ∧ q (122 + 4 * t + 0) ≤ 5) ∧ (1 ≤ q (122 + 4 * t + 1) ∧ q (122 + 4 * t + 1) ≤ 144) ∧ (0 ≤ q (122 + 4 * t + 2) ∧ q (122 + 4 * t + 2) ≤ 48) ∧ (0 ≤ q (122 + 4 * t + 3) ∧ q (122 + 4 * t + 3) ≤ 9)
def y_party (q : Int → Int) (i : Int) : Prop := (0 ≤ q (138 + 3 * i + 0) ∧ q (138 + 3 * i + 0) < q 2) ∧ (1 ≤ q (138 + 3 * i + 1) ∧ q (138 + 3 * i + 1) ≤ 12) ∧ (-1 ≤ q (138 + 3 * i + 2) ∧ q (138 + 3 * i + 2) ≤ 144)
def y_tk (q : Int → Int) (t : Int) : Prop := (0 ≤ q (288 + 6 * t + 0) ∧ q (288 + 6 * t + 0) < q 3) ∧ (0 ≤ q (288 + 6 * t + 1) ∧ q (288 + 6 * t + 1) < q 1) ∧ (q (10 + 14 * q (288 + 6 * t + 1) + 3) ≤ q (288 + 6 * t + 2) ∧ q (288 + 6 * t + 2) ≤ q (10 + 14 * q (288 + 6 * t + 1) + 4)) ∧ (q (288 + 6 * t + 2) ≤ q (288 + 6 * t + 3) ∧ q (288 + 6 * t + 3) ≤ q (288 + 6 * t + 2) + 23 + q (288 + 6 * t + 4)) ∧ (0 ≤ q (288 + 6 * t + 4) ∧ q (288 + 6 * t + 4) ≤ 48) ∧ (0 ≤ q (288 + 6 * t + 5) ∧ q (288 + 6 * t + 5) ≤ 4)
def y_lines (q : Int → Int) (r : Int) : Prop := (∀ k, 0 ≤ k → k < q (10 + 14 * r + 6) → (1 ≤ q (1188 + 300 * r + 2 * k) ∧ q (1188 + 300 * r + 2 * k) ≤ 12) ∧ (0 ≤ q (1188 + 300 * r + 2 * k + 1) ∧ q (1188 + 300 * r + 2 * k + 1) ≤ q 0)) ∧ (∀ k, 0 ≤ k → k < q (10 + 14 * r + 7) → (1 ≤ q (3588 + 122 * r + 2 * k) ∧ q (3588 + 122 * r + 2 * k) ≤ 12) ∧ (0 ≤ q (3588 + 122 * r + 2 * k + 1) ∧ q (3588 + 122 * r + 2 * k + 1) ≤ q 0))
def y_wait (q : Int → Int) (r : Int) : Prop := (∀ k, 0 ≤ k → k < q (10 + 14 * r + 13) → 0 ≤ q (4564 + 50 * r + k) ∧ q (4564 + 50 * r + k) < q 3) ∧ (∀ j k, 0 ≤ j → j < k → k < q (10 + 14 * r + 13) → q (4564 + 50 * r + j) ≠ q (4564 + 50 * r + k))
/-- how many of the first n tickets are used -/
def y_used (q : Int → Int) (n : Nat) : Int := y_sum (fun t => if q (288 + 6 * t + 5) = 1 then 1 else 0) n
/-- how many of the first n tickets of a party are active -/
def y_act (q : Int → Int) (i : Int) (n : Nat) : Int := y_sum (fun t => if q (288 + 6 * t + 0) = i ∧ q (288 + 6 * t + 5) = 0 then 1 else 0) n
def y_heads (q : Int → Int) : Prop := (0 ≤ q 0 ∧ q 0 ≤ 144) ∧ (0 ≤ q 1 ∧ q 1 ≤ 8) ∧ (0 ≤ q 2 ∧ q 2 ≤ 4) ∧ (0 ≤ q 3 ∧ q 3 ≤ 50) ∧ (0 ≤ q 4 ∧ q 4 ≤ 48) ∧ (0 ≤ q 5 ∧ q 5 ≤ 150)
def y_base (q : Int → Int) : Prop := y_heads q ∧ (∀ r, 0 ≤ r → r < q 1 → y_ride q r ∧ y_lines q r ∧ y_wait q r ∧ q (10 + 14 * r + 6) ≤ y_used q (q 5).toNat) ∧ (∀ t, 0 ≤ t → t < q 2 → y_tier q t) ∧ (∀ i, 0 ≤ i → i < q 3 → y_party q i ∧ y_act q i (q 5).toNat ≤ 5) ∧ (∀ t, 0 ≤ t → t < q 5 → y_tk q t)
/-- what a ticket's numbers are bounded by -/
theorem y_base.tk {q : Int → Int} (h : y_base q) {t : Int} (h0 : 0 ≤ t) (h1 : t < q 5) : (0 ≤ q (288 + 6 * t + 0) ∧ q (288 + 6 * t + 0) < 50) ∧ (0 ≤ q (288 + 6 * t + 1) ∧ q (288 + 6 * t + 1) < 8) ∧ (0 ≤ q (288 + 6 * t + 2) ∧ q (288 + 6 * t + 2) ≤ 143) ∧ (q (288 + 6 * t + 2) ≤ q (288 + 6 * t + 3) ∧ q (288 + 6 * t + 3) ≤ 214) ∧ (0 ≤ q (288 + 6 * t + 4) ∧ q (288 + 6 * t + 4) ≤ 48) ∧ (0 ≤ q (288 + 6 * t + 5) ∧ q (288 + 6 * t + 5) ≤ 4) ∧ (1 ≤ q (138 + 3 * q (288 + 6 * t + 0) + 1) ∧ q (138 + 3 * q (288 + 6 * t + 0) + 1) ≤ 12) := by
  obtain ⟨⟨b0, b1, b2, b3, b4, b5⟩, hr, -, hp, hk⟩ := h
  obtain ⟨k1, k2, k3, k4, k5, k6⟩ := hk t h0 h1
  obtain ⟨⟨-, -, -, r3, -⟩, -⟩ := hr _ k2.1 k2.2
  obtain ⟨⟨-, p1, -⟩, -⟩ := hp _ k1.1 k1.2
  exact ⟨by omega, by omega, by omega, by omega, by omega, by omega, by omega⟩
