/-! forecasting (written by wip/whole/gen97.py): how many groups of a line fit -/
def y_fit (f : Int → Int) : Nat → Int → Int → Nat
  | 0, _, _ => 0
  | n + 1, o, rm => if f o ≤ rm then y_fit f n (o + 1) (rm - f o) + 1 else 0
def y_fsum (f : Int → Int) : Nat → Int → Int
  | 0, _ => 0
  | n + 1, o => f o + y_fsum f n (o + 1)
theorem y_fit_sh {f g : Int → Int} : ∀ {n : Nat} {a b rm : Int}, (∀ k : Nat, k < n → f (a + k) = g (b + k)) → y_fit f n a rm = y_fit g n b rm
  | 0, _, _, _, _ => rfl
  | n + 1, a, b, rm, h => by
    have h0 := h 0 (by omega)
    rw [show a + ((0 : Nat) : Int) = a by omega, show b + ((0 : Nat) : Int) = b by omega] at h0
    rw [y_fit, y_fit, h0, y_fit_sh (n := n) (a := a + 1) (b := b + 1) (fun k hk => ?_)]
    have := h (k + 1) (by omega)
    rw [show a + ((k + 1 : Nat) : Int) = a + 1 + k by omega, show b + ((k + 1 : Nat) : Int) = b + 1 + k by omega] at this
    exact this
theorem y_fsum_sh {f g : Int → Int} : ∀ {n : Nat} {a b : Int}, (∀ k : Nat, k < n → f (a + k) = g (b + k)) → y_fsum f n a = y_fsum g n b
  | 0, _, _, _ => rfl
  | n + 1, a, b, h => by
    have h0 := h 0 (by omega)
    rw [show a + ((0 : Nat) : Int) = a by omega, show b + ((0 : Nat) : Int) = b by omega] at h0
    rw [y_fsum, y_fsum, h0, y_fsum_sh (n := n) (a := a + 1) (b := b + 1) (fun k hk => ?_)]
    have := h (k + 1) (by omega)
    rw [show a + ((k + 1 : Nat) : Int) = a + 1 + k by omega, show b + ((k + 1 : Nat) : Int) = b + 1 + k by omega] at this
    exact this
theorem y_fit_le {f : Int → Int} : ∀ {n : Nat} {a rm : Int}, y_fit f n a rm ≤ n
  | 0, _, _ => Nat.le_refl _
  | n + 1, a, rm => by
    have := y_fit_le (f := f) (n := n) (a := a + 1) (rm := rm - f a)
    rw [y_fit]
    split <;> omega
/-- what fits does fit -/
theorem y_fit_b {f : Int → Int} : ∀ {n : Nat} {a rm : Int}, 0 ≤ rm → (∀ k : Nat, k < n → 1 ≤ f (a + k) ∧ f (a + k) ≤ 12) → 0 ≤ y_fsum f (y_fit f n a rm) a ∧ y_fsum f (y_fit f n a rm) a ≤ rm
  | 0, _, _, h, _ => ⟨Int.le_refl _, h⟩
  | n + 1, a, rm, h, hf => by
    have h0 := hf 0 (by omega)
    rw [show a + ((0 : Nat) : Int) = a by omega] at h0
    rw [y_fit]
    split
    · have := y_fit_b (f := f) (n := n) (a := a + 1) (rm := rm - f a) (by omega) (fun k hk => by
        have := hf (k + 1) (by omega)
        rw [show a + ((k + 1 : Nat) : Int) = a + 1 + k by omega] at this
        exact this)
      rw [y_fsum]
      omega
    · exact ⟨Int.le_refl _, h⟩
/-- one group more behind -/
theorem y_fit_s {f : Int → Int} : ∀ {n : Nat} {a rm : Int}, y_fit f (n + 1) a rm = if y_fit f n a rm = n ∧ y_fsum f n a + f (a + n) ≤ rm then n + 1 else y_fit f n a rm
  | 0, a, rm => by
    rw [y_fit, y_fit, y_fit, y_fsum, show a + ((0 : Nat) : Int) = a by omega]
    by_cases h : f a ≤ rm
    · rw [if_pos h, if_pos ⟨rfl, by omega⟩]
    · rw [if_neg h, if_neg (fun z => h (by omega))]
  | n + 1, a, rm => by
    have ih := y_fit_s (f := f) (n := n) (a := a + 1) (rm := rm - f a)
    rw [y_fit, ih, y_fit, y_fsum, show a + 1 + (n : Int) = a + ((n + 1 : Nat) : Int) by omega]
    by_cases h : f a ≤ rm
    · rw [if_pos h, if_pos h]
      by_cases h2 : y_fit f n (a + 1) (rm - f a) = n ∧ y_fsum f n (a + 1) + f (a + ((n + 1 : Nat) : Int)) ≤ rm - f a
      · rw [if_pos h2, if_pos ⟨by omega, by omega⟩]
      · rw [if_neg h2, if_neg (fun z => h2 ⟨by omega, by omega⟩)]
    · rw [if_neg h, if_neg h, if_neg (fun z => by omega)]
theorem k_bn0_c {r : Int} (hr : 0 ≤ r ∧ r < 8) : ∀ (n : Nat) (q : Int → Int) (rm : Int), q (10 + 14 * r + 6) = n → n ≤ 150 → y_bn0 r n q rm = y_fsum (y_pi q (1188 + 300 * r)) (y_fit (y_pi q (1188 + 300 * r)) n 0 rm) 0 ∧ k_bn0 r n q rm (10 + 14 * r + 6) = n - (y_fit (y_pi q (1188 + 300 * r)) n 0 rm : Nat) ∧ (∀ k : Nat, k + y_fit (y_pi q (1188 + 300 * r)) n 0 rm < n → k_bn0 r n q rm (1188 + 300 * r + 2 * k) = q (1188 + 300 * r + 2 * ((y_fit (y_pi q (1188 + 300 * r)) n 0 rm : Nat) + k)))
  | 0, q, rm, hc, _ => ⟨rfl, by show q _ = ((0 : Nat) : Int) - ((0 : Nat) : Int); rw [hc]; omega, fun k hk => by omega⟩
  | n + 1, q, rm, hc, hn => by
    have vC := (k_bs0_v (q := q) hr).2.2.2
    have e0 : y_pi q (1188 + 300 * r) 0 = q (1188 + 300 * r) := by unfold y_pi; rw [show 1188 + 300 * r + 2 * 0 = 1188 + 300 * r by omega]
    have sh : ∀ k : Nat, k < n → y_pi (k_bs0 q r) (1188 + 300 * r) (0 + k) = y_pi q (1188 + 300 * r) (0 + 1 + k) := by
      intro k hk
      unfold y_pi
      rw [k_bs0_s hr (by omega) (by omega) (by omega), show 1188 + 300 * r + 2 * (0 + (k : Int)) + 2 = 1188 + 300 * r + 2 * (0 + 1 + k) by omega]
    obtain ⟨i1, i2, i3⟩ := k_bn0_c hr n (k_bs0 q r) (rm - q (1188 + 300 * r)) (by omega) (by omega)
    rw [y_fit_sh sh] at i1 i2 i3
    rw [k_bn0, y_bn0, y_fit, e0]
    by_cases h : q (1188 + 300 * r) ≤ rm
    · rw [if_pos h, if_pos h, if_pos h]
      have le := y_fit_le (f := y_pi q (1188 + 300 * r)) (n := n) (a := 0 + 1) (rm := rm - q (1188 + 300 * r))
      generalize y_fit (y_pi q (1188 + 300 * r)) n (0 + 1) (rm - q (1188 + 300 * r)) = m at *
      refine ⟨?_, by omega, fun k hk => ?_⟩
      · rw [y_fsum, e0, i1, y_fsum_sh (n := m) (a := 0) (b := 0 + 1) (fun k hk => sh k (by omega))]
      · rw [i3 k (by omega), k_bs0_s hr (by omega) (by omega) (by omega), show 1188 + 300 * r + 2 * ((m : Int) + k) + 2 = 1188 + 300 * r + 2 * (((m + 1 : Nat) : Int) + k) by omega]
    · rw [if_neg h, if_neg h, if_neg h]
      exact ⟨rfl, by omega, fun k hk => by rw [show ((0 : Nat) : Int) + (k : Int) = k by omega]⟩
theorem k_bd0_c {r : Int} {q : Int → Int} {rm : Int} (hr : 0 ≤ r ∧ r < 8) (hc : 0 ≤ q (10 + 14 * r + 6) ∧ q (10 + 14 * r + 6) ≤ 150) : y_bp0 q r rm = y_fsum (y_pi q (1188 + 300 * r)) (y_fit (y_pi q (1188 + 300 * r)) (q (10 + 14 * r + 6)).toNat 0 rm) 0 ∧ k_bd0 q r rm (10 + 14 * r + 6) = q (10 + 14 * r + 6) - (y_fit (y_pi q (1188 + 300 * r)) (q (10 + 14 * r + 6)).toNat 0 rm : Nat) ∧ (∀ k : Nat, (k + y_fit (y_pi q (1188 + 300 * r)) (q (10 + 14 * r + 6)).toNat 0 rm : Nat) < q (10 + 14 * r + 6) → k_bd0 q r rm (1188 + 300 * r + 2 * k) = q (1188 + 300 * r + 2 * ((y_fit (y_pi q (1188 + 300 * r)) (q (10 + 14 * r + 6)).toNat 0 rm : Nat) + k))) := by
  obtain ⟨i1, i2, i3⟩ := k_bn0_c hr (q (10 + 14 * r + 6)).toNat q rm (by omega) (by omega)
  refine ⟨i1, ?_, fun k hk => ?_⟩
  · rw [k_bd0, z_up_ne (by omega)]
    show k_bn0 r (q (10 + 14 * r + 6)).toNat q rm _ = _
    omega
  · rw [k_bd0, z_up_ne (by omega)]
    exact i3 k (by omega)
theorem k_bn1_c {r : Int} (hr : 0 ≤ r ∧ r < 8) : ∀ (n : Nat) (q : Int → Int) (rm : Int), q (10 + 14 * r + 7) = n → n ≤ 150 → y_bn1 r n q rm = y_fsum (y_pi q (3588 + 122 * r)) (y_fit (y_pi q (3588 + 122 * r)) n 0 rm) 0 ∧ k_bn1 r n q rm (10 + 14 * r + 7) = n - (y_fit (y_pi q (3588 + 122 * r)) n 0 rm : Nat) ∧ (∀ k : Nat, k + y_fit (y_pi q (3588 + 122 * r)) n 0 rm < n → k_bn1 r n q rm (3588 + 122 * r + 2 * k) = q (3588 + 122 * r + 2 * ((y_fit (y_pi q (3588 + 122 * r)) n 0 rm : Nat) + k)))
  | 0, q, rm, hc, _ => ⟨rfl, by show q _ = ((0 : Nat) : Int) - ((0 : Nat) : Int); rw [hc]; omega, fun k hk => by omega⟩
  | n + 1, q, rm, hc, hn => by
    have vC := (k_bs1_v (q := q) hr).2.2.2
    have e0 : y_pi q (3588 + 122 * r) 0 = q (3588 + 122 * r) := by unfold y_pi; rw [show 3588 + 122 * r + 2 * 0 = 3588 + 122 * r by omega]
    have sh : ∀ k : Nat, k < n → y_pi (k_bs1 q r) (3588 + 122 * r) (0 + k) = y_pi q (3588 + 122 * r) (0 + 1 + k) := by
      intro k hk
      unfold y_pi
      rw [k_bs1_s hr (by omega) (by omega) (by omega), show 3588 + 122 * r + 2 * (0 + (k : Int)) + 2 = 3588 + 122 * r + 2 * (0 + 1 + k) by omega]
    obtain ⟨i1, i2, i3⟩ := k_bn1_c hr n (k_bs1 q r) (rm - q (3588 + 122 * r)) (by omega) (by omega)
    rw [y_fit_sh sh] at i1 i2 i3
    rw [k_bn1, y_bn1, y_fit, e0]
    by_cases h : q (3588 + 122 * r) ≤ rm
    · rw [if_pos h, if_pos h, if_pos h]
      have le := y_fit_le (f := y_pi q (3588 + 122 * r)) (n := n) (a := 0 + 1) (rm := rm - q (3588 + 122 * r))
      generalize y_fit (y_pi q (3588 + 122 * r)) n (0 + 1) (rm - q (3588 + 122 * r)) = m at *
      refine ⟨?_, by omega, fun k hk => ?_⟩
      · rw [y_fsum, e0, i1, y_fsum_sh (n := m) (a := 0) (b := 0 + 1) (fun k hk => sh k (by omega))]
      · rw [i3 k (by omega), k_bs1_s hr (by omega) (by omega) (by omega), show 3588 + 122 * r + 2 * ((m : Int) + k) + 2 = 3588 + 122 * r + 2 * (((m + 1 : Nat) : Int) + k) by omega]
    · rw [if_neg h, if_neg h, if_neg h]
      exact ⟨rfl, by omega, fun k hk => by rw [show ((0 : Nat) : Int) + (k : Int) = k by omega]⟩
theorem k_bd1_c {r : Int} {q : Int → Int} {rm : Int} (hr : 0 ≤ r ∧ r < 8) (hc : 0 ≤ q (10 + 14 * r + 7) ∧ q (10 + 14 * r + 7) ≤ 150) : y_bp1 q r rm = y_fsum (y_pi q (3588 + 122 * r)) (y_fit (y_pi q (3588 + 122 * r)) (q (10 + 14 * r + 7)).toNat 0 rm) 0 ∧ k_bd1 q r rm (10 + 14 * r + 7) = q (10 + 14 * r + 7) - (y_fit (y_pi q (3588 + 122 * r)) (q (10 + 14 * r + 7)).toNat 0 rm : Nat) ∧ (∀ k : Nat, (k + y_fit (y_pi q (3588 + 122 * r)) (q (10 + 14 * r + 7)).toNat 0 rm : Nat) < q (10 + 14 * r + 7) → k_bd1 q r rm (3588 + 122 * r + 2 * k) = q (3588 + 122 * r + 2 * ((y_fit (y_pi q (3588 + 122 * r)) (q (10 + 14 * r + 7)).toNat 0 rm : Nat) + k))) := by
  obtain ⟨i1, i2, i3⟩ := k_bn1_c hr (q (10 + 14 * r + 7)).toNat q rm (by omega) (by omega)
  refine ⟨i1, ?_, fun k hk => ?_⟩
  · rw [k_bd1, z_up_ne (by omega)]
    show k_bn1 r (q (10 + 14 * r + 7)).toNat q rm _ = _
    omega
  · rw [k_bd1, z_up_ne (by omega)]
    exact i3 k (by omega)
/-- the wait of a group of w that joins: slot by slot, a groups of the merge line and b of the standby line have boarded -/
def y_fc (q : Int → Int) (r w : Int) : Nat → Int → Int → Int → Int
  | 0, _, _, _ => -1
  | n + 1, s, a, b =>
    if q (10 + 14 * r + 3) ≤ s ∧ s ≤ q (10 + 14 * r + 4) then
      if b + (y_fit (y_pi q (3588 + 122 * r)) (q (10 + 14 * r + 7) - b).toNat b (q (10 + 14 * r + 0) - y_fsum (y_pi q (1188 + 300 * r)) (y_fit (y_pi q (1188 + 300 * r)) (q (10 + 14 * r + 6) - a).toNat a (y_planned q r s)) a) : Nat) = q (10 + 14 * r + 7) ∧ y_fsum (y_pi q (1188 + 300 * r)) (y_fit (y_pi q (1188 + 300 * r)) (q (10 + 14 * r + 6) - a).toNat a (y_planned q r s)) a + y_fsum (y_pi q (3588 + 122 * r)) (y_fit (y_pi q (3588 + 122 * r)) (q (10 + 14 * r + 7) - b).toNat b (q (10 + 14 * r + 0) - y_fsum (y_pi q (1188 + 300 * r)) (y_fit (y_pi q (1188 + 300 * r)) (q (10 + 14 * r + 6) - a).toNat a (y_planned q r s)) a)) b + w ≤ q (10 + 14 * r + 0) then s - q 0
      else y_fc q r w n (s + 1) (a + (y_fit (y_pi q (1188 + 300 * r)) (q (10 + 14 * r + 6) - a).toNat a (y_planned q r s) : Nat) + (y_fit (y_pi q (1188 + 300 * r)) (q (10 + 14 * r + 6) - (a + (y_fit (y_pi q (1188 + 300 * r)) (q (10 + 14 * r + 6) - a).toNat a (y_planned q r s) : Nat))).toNat (a + (y_fit (y_pi q (1188 + 300 * r)) (q (10 + 14 * r + 6) - a).toNat a (y_planned q r s) : Nat)) (q (10 + 14 * r + 0) - (y_fsum (y_pi q (1188 + 300 * r)) (y_fit (y_pi q (1188 + 300 * r)) (q (10 + 14 * r + 6) - a).toNat a (y_planned q r s)) a + y_fsum (y_pi q (3588 + 122 * r)) (y_fit (y_pi q (3588 + 122 * r)) (q (10 + 14 * r + 7) - b).toNat b (q (10 + 14 * r + 0) - y_fsum (y_pi q (1188 + 300 * r)) (y_fit (y_pi q (1188 + 300 * r)) (q (10 + 14 * r + 6) - a).toNat a (y_planned q r s)) a)) b)) : Nat)) (b + (y_fit (y_pi q (3588 + 122 * r)) (q (10 + 14 * r + 7) - b).toNat b (q (10 + 14 * r + 0) - y_fsum (y_pi q (1188 + 300 * r)) (y_fit (y_pi q (1188 + 300 * r)) (q (10 + 14 * r + 6) - a).toNat a (y_planned q r s)) a) : Nat))
    else y_fc q r w n (s + 1) a b
/-- a slot of it, its numbers by name -/
theorem y_fc_s {q : Int → Int} {r w : Int} {n : Nat} {s a b P1 P2 : Int} {e k lt : Nat} (h : q (10 + 14 * r + 3) ≤ s ∧ s ≤ q (10 + 14 * r + 4)) (he : y_fit (y_pi q (1188 + 300 * r)) (q (10 + 14 * r + 6) - a).toNat a (y_planned q r s) = e) (h1 : y_fsum (y_pi q (1188 + 300 * r)) e a = P1) (hk : y_fit (y_pi q (3588 + 122 * r)) (q (10 + 14 * r + 7) - b).toNat b (q (10 + 14 * r + 0) - P1) = k) (h2 : P1 + y_fsum (y_pi q (3588 + 122 * r)) k b = P2) (hl : y_fit (y_pi q (1188 + 300 * r)) (q (10 + 14 * r + 6) - (a + e)).toNat (a + e) (q (10 + 14 * r + 0) - P2) = lt) : y_fc q r w (n + 1) s a b = if b + k = q (10 + 14 * r + 7) ∧ P2 + w ≤ q (10 + 14 * r + 0) then s - q 0 else y_fc q r w n (s + 1) (a + e + lt) (b + k) := by
  subst he
  subst h1
  subst hk
  subst h2
  subst hl
  rw [y_fc, if_pos h]
theorem y_fc_n {q : Int → Int} {r w : Int} {n : Nat} {s a b : Int} (h : ¬ (q (10 + 14 * r + 3) ≤ s ∧ s ≤ q (10 + 14 * r + 4))) : y_fc q r w (n + 1) s a b = y_fc q r w n (s + 1) a b := by
  rw [y_fc, if_neg h]
theorem y_fc_late {q : Int → Int} {r w : Int} : ∀ {n : Nat} {s a b : Int}, q (10 + 14 * r + 4) < s → y_fc q r w n s a b = -1
  | 0, _, _, _, _ => rfl
  | n + 1, s, a, b, h => by rw [y_fc_n (fun z => by omega)]; exact y_fc_late (by omega)
theorem y_fc_early {q : Int → Int} {r w : Int} : ∀ {m n : Nat} {s a b : Int}, s + m ≤ q (10 + 14 * r + 3) → y_fc q r w (m + n) s a b = y_fc q r w n (s + m) a b
  | 0, n, s, a, b, h => by rw [Nat.zero_add, show s + ((0 : Nat) : Int) = s by omega]
  | m + 1, n, s, a, b, h => by
    rw [show m + 1 + n = m + n + 1 by omega, y_fc_n (fun z => by omega), y_fc_early (by omega), show s + 1 + (m : Int) = s + ((m + 1 : Nat) : Int) by omega]
def o_forecastStandby (q : Int → Int) (r w : Int) : Int × Int := y_need (0 ≤ r ∧ r < q 1) 1 (y_need (1 ≤ w ∧ w ≤ 12) 2 (0, if q (10 + 14 * r + 5) = 0 then y_fc q r w (144 - q 0).toNat (q 0) 0 0 else -1))
/-- a forecast is drawn in block 3 -/
def k_forecast (q : Int → Int) (r w : Int) : Int → Int := if (0 ≤ r ∧ r < q 1) ∧ (1 ≤ w ∧ w ≤ 12) then k_copy q 0 3 else q
/-- the reference's row f in slot s of a forecast that began with q2 -/
def y_fi (q2 : Int → Int) (r : Int) (f : Int → Int) (s a b : Int) : Prop := f 0 = s ∧ (f (10 + 14 * r + 0) = q2 (10 + 14 * r + 0) ∧ f (10 + 14 * r + 1) = q2 (10 + 14 * r + 1) ∧ f (10 + 14 * r + 3) = q2 (10 + 14 * r + 3) ∧ f (10 + 14 * r + 4) = q2 (10 + 14 * r + 4) ∧ f (10 + 14 * r + 5) = q2 (10 + 14 * r + 5)) ∧ f (10 + 14 * r + 6) = q2 (10 + 14 * r + 6) - a ∧ f (10 + 14 * r + 7) = q2 (10 + 14 * r + 7) - b ∧ (∀ k : Nat, a + k < q2 (10 + 14 * r + 6) → f (1188 + 300 * r + 2 * k) = q2 (1188 + 300 * r + 2 * (a + k))) ∧ (∀ k : Nat, b + k < q2 (10 + 14 * r + 7) → f (3588 + 122 * r + 2 * k) = q2 (3588 + 122 * r + 2 * (b + k))) ∧ y_loc f r ∧ (∀ j, (j < 0 ∨ 4964 ≤ j) → f j = q2 j)
theorem y_fi_t {q2 f : Int → Int} {r s a b : Int} (hr : 0 ≤ r ∧ r < 8) (h : y_fi q2 r f s a b) (hs : s < 144) : y_fi q2 r (z_up f 0 (s + 1)) (s + 1) a b := by
  obtain ⟨h0, ⟨c0, c1, c3, c4, c5⟩, h6, h7, hm, hst, hl, ho⟩ := h
  have O : ∀ j, j ≠ 0 → z_up f 0 (s + 1) j = f j := fun j hj => z_up_ne hj
  refine ⟨z_up_eq rfl, ⟨(O _ (by omega)).trans c0, (O _ (by omega)).trans c1, (O _ (by omega)).trans c3, (O _ (by omega)).trans c4, (O _ (by omega)).trans c5⟩, (O _ (by omega)).trans h6, (O _ (by omega)).trans h7, fun k hk => (O _ (by omega)).trans (hm k hk), fun k hk => (O _ (by omega)).trans (hst k hk), ?_, fun j hj => (O _ (by omega)).trans (ho j hj)⟩
  obtain ⟨l0, ls, l6, l7, l8, l9, l10, l11, l12, ln⟩ := hl
  unfold y_loc
  rw [z_up_eq rfl, O (10 + 14 * r + 0) (by omega), O (10 + 14 * r + 1) (by omega), O (10 + 14 * r + 3) (by omega), O (10 + 14 * r + 4) (by omega), O (10 + 14 * r + 6) (by omega), O (10 + 14 * r + 7) (by omega), O (10 + 14 * r + 8) (by omega), O (10 + 14 * r + 9) (by omega), O (10 + 14 * r + 10) (by omega), O (10 + 14 * r + 11) (by omega), O (10 + 14 * r + 12) (by omega)]
  refine ⟨by omega, ls, l6, l7, l8, l9, l10, l11, l12, fun k a1 a2 => ?_, fun k a1 a2 => ?_⟩
  · rw [O _ (by omega)] at a2
    rw [O _ (by omega), O _ (by omega), z_up_eq rfl]
    have := ln.1 k a1 a2
    omega
  · rw [O _ (by omega)] at a2
    rw [O _ (by omega), O _ (by omega), z_up_eq rfl]
    have := ln.2 k a1 a2
    omega
/-- a ride boards in a forecast -/
theorem y_fi_r {q2 f : Int → Int} {r s a b P1 P2 : Int} {e k lt : Nat} (hr : 0 ≤ r ∧ r < 8) (h : y_fi q2 r f s a b) (ha : 0 ≤ a ∧ a ≤ q2 (10 + 14 * r + 6)) (hb : 0 ≤ b ∧ b ≤ q2 (10 + 14 * r + 7)) (he : y_fit (y_pi q2 (1188 + 300 * r)) (q2 (10 + 14 * r + 6) - a).toNat a (y_planned q2 r s) = e) (h1 : y_fsum (y_pi q2 (1188 + 300 * r)) e a = P1) (hk : y_fit (y_pi q2 (3588 + 122 * r)) (q2 (10 + 14 * r + 7) - b).toNat b (q2 (10 + 14 * r + 0) - P1) = k) (h2 : P1 + y_fsum (y_pi q2 (3588 + 122 * r)) k b = P2) (hl : y_fit (y_pi q2 (1188 + 300 * r)) (q2 (10 + 14 * r + 6) - (a + e)).toNat (a + e) (q2 (10 + 14 * r + 0) - P2) = lt) : y_fi q2 r (k_ride f r) s (a + e + lt) (b + k) ∧ a + e + lt ≤ q2 (10 + 14 * r + 6) ∧ b + k ≤ q2 (10 + 14 * r + 7) := by
  obtain ⟨h0, ⟨c0, c1, c3, c4, c5⟩, h6, h7, hm, hst, hlc, ho⟩ := h
  have l6 := hlc.2.2.1
  have l7 := hlc.2.2.2.1
  have cap := hlc.2.1.1
  have pl := y_planned_L (s := f 0) hlc
  have epl : y_planned f r (f 0) = y_planned q2 r s := by unfold y_planned y_pw; rw [c0, c1, c3, c4, h0]
  -- the merge line, early
  obtain ⟨f1, f2, f3, f4, f5, f6, f7⟩ := y_bd0_f hr hlc pl.1
  obtain ⟨m1, m2, m3⟩ := k_bd0_c (q := f) (rm := y_planned f r (f 0)) hr l6
  have s1 : y_fit (y_pi f (1188 + 300 * r)) (f (10 + 14 * r + 6)).toNat 0 (y_planned f r (f 0)) = e := by
    rw [← he, epl, h6]
    refine y_fit_sh (fun i hi => ?_)
    unfold y_pi
    rw [show (0 : Int) + (i : Int) = i by omega]
    exact hm i (by omega)
  rw [s1] at m1 m2 m3
  have le1 : e ≤ (q2 (10 + 14 * r + 6) - a).toNat := by rw [← he]; exact y_fit_le
  have E1 : y_e f r = P1 := by
    rw [y_e, m1, ← h1]
    refine y_fsum_sh (fun i hi => ?_)
    unfold y_pi
    rw [show (0 : Int) + (i : Int) = i by omega]
    exact hm i (by omega)
  have o1 : ∀ j, j ≠ 10 + 14 * r + 8 → j ≠ 10 + 14 * r + 10 → j ≠ 10 + 14 * r + 11 → j ≠ 10 + 14 * r + 12 → j ≠ 10 + 14 * r + 6 → (j < 1188 + 300 * r ∨ 1188 + 300 * r + 300 ≤ j) → k_r1 f r j = f j := f7
  have m2' : k_r1 f r (10 + 14 * r + 6) = f (10 + 14 * r + 6) - e := m2
  have m3' : ∀ i : Nat, (i + e : Nat) < f (10 + 14 * r + 6) → k_r1 f r (1188 + 300 * r + 2 * i) = f (1188 + 300 * r + 2 * (e + i)) := m3
  have L1 : y_loc (k_r1 f r) r := f1
  have ye : y_e f r = y_bp0 f r (y_planned f r (f 0)) := rfl
  -- the standby line
  have g7 : k_r1 f r (10 + 14 * r + 7) = f (10 + 14 * r + 7) := o1 _ (by omega) (by omega) (by omega) (by omega) (by omega) (by omega)
  obtain ⟨w1, w2, w3, w4, w5, w6, w7⟩ := y_bd1_f hr (q := k_r1 f r) (rm := f (10 + 14 * r + 0) - y_e f r) L1 (by omega)
  obtain ⟨n1, n2, n3⟩ := k_bd1_c (q := k_r1 f r) (rm := f (10 + 14 * r + 0) - y_e f r) hr (by omega)
  have s2 : y_fit (y_pi (k_r1 f r) (3588 + 122 * r)) (k_r1 f r (10 + 14 * r + 7)).toNat 0 (f (10 + 14 * r + 0) - y_e f r) = k := by
    rw [← hk, g7, h7, E1, c0]
    refine y_fit_sh (fun i hi => ?_)
    unfold y_pi
    rw [show (0 : Int) + (i : Int) = i by omega, o1 _ (by omega) (by omega) (by omega) (by omega) (by omega) (by omega)]
    exact hst i (by omega)
  rw [s2] at n1 n2 n3
  have le2 : k ≤ (q2 (10 + 14 * r + 7) - b).toNat := by rw [← hk]; exact y_fit_le
  have E2 : y_e f r + y_wk f r = P2 := by
    rw [← h2, E1, y_wk, n1]
    congr 1
    refine y_fsum_sh (fun i hi => ?_)
    unfold y_pi
    rw [show (0 : Int) + (i : Int) = i by omega, o1 _ (by omega) (by omega) (by omega) (by omega) (by omega) (by omega)]
    exact hst i (by omega)
  have o2 : ∀ j, j ≠ 10 + 14 * r + 9 → j ≠ 10 + 14 * r + 10 → j ≠ 10 + 14 * r + 11 → j ≠ 10 + 14 * r + 12 → j ≠ 10 + 14 * r + 7 → (j < 3588 + 122 * r ∨ 3588 + 122 * r + 122 ≤ j) → k_r2 f r j = k_r1 f r j := w7
  have n2' : k_r2 f r (10 + 14 * r + 7) = k_r1 f r (10 + 14 * r + 7) - k := n2
  have n3' : ∀ i : Nat, (i + k : Nat) < k_r1 f r (10 + 14 * r + 7) → k_r2 f r (3588 + 122 * r + 2 * i) = k_r1 f r (3588 + 122 * r + 2 * (k + i)) := n3
  have L2 : y_loc (k_r2 f r) r := w1
  have yw : y_wk f r = y_bp1 (k_r1 f r) r (f (10 + 14 * r + 0) - y_e f r) := rfl
  -- the merge line, late
  have g6 : k_r2 f r (10 + 14 * r + 6) = k_r1 f r (10 + 14 * r + 6) := o2 _ (by omega) (by omega) (by omega) (by omega) (by omega) (by omega)
  obtain ⟨t1, t2, t3, t4, t5, t6, t7⟩ := y_bd0_f hr (q := k_r2 f r) (rm := f (10 + 14 * r + 0) - (y_e f r + y_wk f r)) L2 (by omega)
  have o3 : ∀ j, j ≠ 10 + 14 * r + 8 → j ≠ 10 + 14 * r + 10 → j ≠ 10 + 14 * r + 11 → j ≠ 10 + 14 * r + 12 → j ≠ 10 + 14 * r + 6 → (j < 1188 + 300 * r ∨ 1188 + 300 * r + 300 ≤ j) → k_ride f r j = k_r2 f r j := t7
  obtain ⟨p1, p2, p3⟩ := k_bd0_c (q := k_r2 f r) (rm := f (10 + 14 * r + 0) - (y_e f r + y_wk f r)) hr (by omega)
  have lv : ∀ i : Nat, (i + e : Nat) < f (10 + 14 * r + 6) → k_r2 f r (1188 + 300 * r + 2 * i) = q2 (1188 + 300 * r + 2 * (a + e + i)) := by
    intro i hi
    rw [o2 _ (by omega) (by omega) (by omega) (by omega) (by omega) (by omega), m3' i hi, show ((e : Int) + i) = ((e + i : Nat) : Int) by omega, hm (e + i) (by omega), show a + ((e + i : Nat) : Int) = a + e + i by omega]
  have s3 : y_fit (y_pi (k_r2 f r) (1188 + 300 * r)) (k_r2 f r (10 + 14 * r + 6)).toNat 0 (f (10 + 14 * r + 0) - (y_e f r + y_wk f r)) = lt := by
    rw [← hl, g6, m2', h6, E2, c0, show q2 (10 + 14 * r + 6) - a - (e : Int) = q2 (10 + 14 * r + 6) - (a + e) by omega]
    refine y_fit_sh (fun i hi => ?_)
    unfold y_pi
    rw [show (0 : Int) + (i : Int) = i by omega]
    exact lv i (by omega)
  rw [s3] at p1 p2 p3
  have le3 : lt ≤ (q2 (10 + 14 * r + 6) - (a + e)).toNat := by rw [← hl]; exact y_fit_le
  have p2' : k_ride f r (10 + 14 * r + 6) = k_r2 f r (10 + 14 * r + 6) - lt := p2
  have p3' : ∀ i : Nat, (i + lt : Nat) < k_r2 f r (10 + 14 * r + 6) → k_ride f r (1188 + 300 * r + 2 * i) = k_r2 f r (1188 + 300 * r + 2 * (lt + i)) := p3
  have O : ∀ j, (j < 10 + 14 * r + 6 ∨ 10 + 14 * r + 12 < j) → (j < 1188 + 300 * r ∨ 1188 + 300 * r + 300 ≤ j) → (j < 3588 + 122 * r ∨ 3588 + 122 * r + 122 ≤ j) → k_ride f r j = f j := by
    intro j a1 a2 a3
    rw [o3 j (by omega) (by omega) (by omega) (by omega) (by omega) (by omega), o2 j (by omega) (by omega) (by omega) (by omega) (by omega) (by omega), o1 j (by omega) (by omega) (by omega) (by omega) (by omega) (by omega)]
  refine ⟨⟨?_, ⟨?_, ?_, ?_, ?_, ?_⟩, by omega, ?_, fun i hi => ?_, fun i hi => ?_, t1, fun j hj => ?_⟩, by omega, by omega⟩
  · rw [O _ (by omega) (by omega) (by omega)]; exact h0
  · rw [O _ (by omega) (by omega) (by omega)]; exact c0
  · rw [O _ (by omega) (by omega) (by omega)]; exact c1
  · rw [O _ (by omega) (by omega) (by omega)]; exact c3
  · rw [O _ (by omega) (by omega) (by omega)]; exact c4
  · rw [O _ (by omega) (by omega) (by omega)]; exact c5
  · rw [o3 _ (by omega) (by omega) (by omega) (by omega) (by omega) (by omega), n2', g7]; omega
  · rw [p3' i (by omega), show ((lt : Int) + i) = ((lt + i : Nat) : Int) by omega, lv (lt + i) (by omega), show a + (e : Int) + ((lt + i : Nat) : Int) = a + e + lt + i by omega]
  · rw [o3 _ (by omega) (by omega) (by omega) (by omega) (by omega) (by omega), n3' i (by omega), show ((k : Int) + i) = ((k + i : Nat) : Int) by omega, o1 _ (by omega) (by omega) (by omega) (by omega) (by omega) (by omega), hst (k + i) (by omega), show b + ((k + i : Nat) : Int) = b + k + i by omega]
  · rw [O j (by omega) (by omega) (by omega)]; exact ho j hj
section R18
variable {l : Launch} {d : Nat} {g : List (Option Nat)} {T : m_E} {J : z_J} {X : z_X}
theorem p_forecastStandby (hb : y_base (J 149)) {r w : Int} : z_Sem l (d + 5) M_R_forecastStandby [.inr (.inr (.ref 148)), .inl r, .inl w] (m_Ex g T, J, X) 0 0 (z_rq (m_Ex g T) (fun v J' X' => X' = X ∧ y_tp J (k_forecast (J 149) r w) (o_forecastStandby (J 149) r w).1 J' ∧ v = (o_forecastStandby (J 149) r w).2)) := by
  obtain ⟨h0, h1, h2, h3, h4, h5⟩ := hb.1
  have bad : ∀ (th : Int), o_forecastStandby (J 149) r w = (th, 0) → ¬ ((0 ≤ r ∧ r < J 149 1) ∧ (1 ≤ w ∧ w ≤ 12)) → z_rq (m_Ex g T) (fun v J' X' => X' = X ∧ y_tp J (k_forecast (J 149) r w) (o_forecastStandby (J 149) r w).1 J' ∧ v = (o_forecastStandby (J 149) r w).2) (.inl (some (.inl 0))) (m_Ex g T, z_u (z_u J 148 2 0) 148 2 th, X) := by
    intro th ho hn
    rw [k_forecast, ho, if_neg hn]
    exact ⟨_, _, _, rfl, rfl, rfl, y_tp.th, rfl⟩
  refine z_sem_of z_m287 m_ok_287 (Nat.le_of_ble_eq_true rfl) (fun Wp hs hv hS => ?_)
  -- the end
  have fin : ((0 ≤ r ∧ r < J 149 1) ∧ (1 ≤ w ∧ w ≤ 12)) → ∀ (f : Int → Int) (v : Int), (∀ j, (j < 0 ∨ 4964 ≤ j) → f j = k_copy (J 149) 0 3 j) → v = (o_forecastStandby (J 149) r w).2 → (z_rq (m_Ex g T) (fun v J' X' => X' = X ∧ y_tp J (k_forecast (J 149) r w) (o_forecastStandby (J 149) r w).1 J' ∧ v = (o_forecastStandby (J 149) r w).2)) (.inl (some (.inl v))) (m_Ex g T, z_row (z_row (z_u J 148 2 0) 149 f) 149 (k_copy ((z_row (z_u J 148 2 0) 149 f) 149) 3 0), X) := by
    intro hp f v hf hv
    refine ⟨_, _, _, rfl, rfl, rfl, ?_, hv⟩
    have e : k_copy f 3 0 = k_copy (J 149) 0 3 := by
      funext j
      unfold k_copy
      by_cases hj : 4964 * 0 ≤ j ∧ j < 4964 * 0 + 4964
      · rw [if_pos hj, if_neg (by omega), hf _ (by omega)]
        unfold k_copy
        rw [if_pos (by omega), show j - 4964 * 0 + 4964 * 3 - 4964 * 3 + 4964 * 0 = j by omega]
      · rw [if_neg hj, hf j (by omega)]; rfl
    have o1 : (o_forecastStandby (J 149) r w).1 = 0 := by rw [o_forecastStandby, y_need_2 hp.1, y_need_2 hp.2]
    rw [z_row_eq, z_row_row, e, k_forecast, if_pos hp, o1]
    exact (y_to.put (J := z_u J 148 2 0)).tp
  have loop : ∀ (hp : (0 ≤ r ∧ r < J 149 1) ∧ (1 ≤ w ∧ w ≤ 12)) (q2 : Int → Int), (∀ j, (0 ≤ j ∧ j < 4964) → j ≠ 10 + 14 * r + 7 → j ≠ 3588 + 122 * r + 2 * J 149 (10 + 14 * r + 7) → j ≠ 3588 + 122 * r + 2 * J 149 (10 + 14 * r + 7) + 1 → q2 j = J 149 j) → q2 (10 + 14 * r + 7) = J 149 (10 + 14 * r + 7) + 1 → q2 (3588 + 122 * r + 2 * J 149 (10 + 14 * r + 7)) = w → (∀ j, (j < 0 ∨ 4964 ≤ j) → q2 j = k_copy (J 149) 0 3 j) → ∀ (n : Nat) (f : Int → Int) (s a b : Int), s + n = 144 → J 149 0 ≤ s → y_fi q2 r f s a b → (0 ≤ a ∧ a ≤ q2 (10 + 14 * r + 6)) → (0 ≤ b ∧ b < q2 (10 + 14 * r + 7)) → (if J 149 (10 + 14 * r + 5) = 0 then y_fc (J 149) r w n s a b else -1) = (o_forecastStandby (J 149) r w).2 → Wp 73 [some (.inr (.inr (.ref 148))), some (.inl r), some (.inl w), some (.inl (J 149 0)), some (.inl (-1))] [] (m_Ex g T, z_row (z_u J 148 2 0) 149 f, X) 0 0 := by
    intro hp q2 hq hq7 hqw hqo n
    have rd := hb.ride hp.1.1 hp.1.2
    obtain ⟨r0, r1, r2, r3, r5, r6, r7, -⟩ := rd
    have ln := (hb.2.1 r hp.1.1 hp.1.2).2.1
    have e0 := hq (10 + 14 * r + 0) (by omega) (by omega) (by omega) (by omega)
    have e1 := hq (10 + 14 * r + 1) (by omega) (by omega) (by omega) (by omega)
    have e3 := hq (10 + 14 * r + 3) (by omega) (by omega) (by omega) (by omega)
    have e4 := hq (10 + 14 * r + 4) (by omega) (by omega) (by omega) (by omega)
    have e5 := hq (10 + 14 * r + 5) (by omega) (by omega) (by omega) (by omega)
    have e6 := hq (10 + 14 * r + 6) (by omega) (by omega) (by omega) (by omega)
    induction n with
    | zero =>
      intro f s a b hsn hs0 fi ha hb9 ho
      have f0 := fi.1
      refine w_287_73 hs ?_
      simp only [z_row_eq]
      refine ⟨fun c => z_cV (c_copyBlock (J := z_row (z_u J 148 2 0) 149 f) (by omega) (by omega) (by omega)) (fin hp f (-1) (fun j hj => (fi.2.2.2.2.2.2.2 j hj).trans (hqo j hj)) ?_), fun c => by omega⟩
      rw [← ho]
      split <;> rfl
    | succ n ih =>
      intro f s a b hsn hs0 fi ha hb9 ho
      have f0 := fi.1
      obtain ⟨c0, c1, c3, c4, c5⟩ := fi.2.1
      have c7 := fi.2.2.2.1
      have nf : ¬ ((q2 (10 + 14 * r + 3) ≤ s ∧ s ≤ q2 (10 + 14 * r + 4)) ∧ q2 (10 + 14 * r + 5) = 0) → Wp 73 [some (.inr (.inr (.ref 148))), some (.inl r), some (.inl w), some (.inl (J 149 0)), some (.inl (-1))] [] (m_Ex g T, z_row (z_u J 148 2 0) 149 (z_up f 0 (f 0 + 1)), X) 0 0 := by
        intro hn
        rw [f0]
        refine ih (z_up f 0 (s + 1)) (s + 1) a b (by omega) (by omega) (y_fi_t (by omega) fi (by omega)) ha hb9 ?_
        rw [← ho]
        by_cases h9 : J 149 (10 + 14 * r + 5) = 0
        · rw [if_pos h9, if_pos h9, y_fc_n (fun z => hn (by omega))]
        · rw [if_neg h9, if_neg h9]
      refine w_287_73 hs ?_
      simp only [z_row_eq, z_u_zrow]
      refine ⟨fun c => by omega, fun c => ⟨fun c1 => absurd rfl c1, fun c1 => ⟨by omega, fun c2 => ⟨by omega, fun c3 => ⟨by omega, nf (by omega)⟩, fun c3 => by omega⟩, fun c2 => ⟨fun c3 => ⟨by omega, fun c4 => ⟨by omega, nf (by omega)⟩, fun c4 => by omega⟩, fun c3 => ⟨by omega, fun c4 => ⟨by omega, fun c5 => ⟨by omega, nf (by omega)⟩, fun c5 => by omega⟩, fun c4 => ?_⟩⟩⟩⟩⟩
      -- the ride boards
      have lc := fi.2.2.2.2.2.2.1
      refine z_cV (c_boardRide (by omega) lc) ?_
      have epl : y_planned q2 r s = y_planned (J 149) r s := by unfold y_planned y_pw; rw [e0, e1, e3, e4]
      obtain ⟨e, he⟩ : ∃ e, y_fit (y_pi q2 (1188 + 300 * r)) (q2 (10 + 14 * r + 6) - a).toNat a (y_planned q2 r s) = e := ⟨_, rfl⟩
      obtain ⟨P1, hP1⟩ : ∃ P1, y_fsum (y_pi q2 (1188 + 300 * r)) e a = P1 := ⟨_, rfl⟩
      obtain ⟨k, hk⟩ : ∃ k, y_fit (y_pi q2 (3588 + 122 * r)) (q2 (10 + 14 * r + 7) - b).toNat b (q2 (10 + 14 * r + 0) - P1) = k := ⟨_, rfl⟩
      obtain ⟨P2, hP2⟩ : ∃ P2, P1 + y_fsum (y_pi q2 (3588 + 122 * r)) k b = P2 := ⟨_, rfl⟩
      obtain ⟨lt, hlt⟩ : ∃ lt, y_fit (y_pi q2 (1188 + 300 * r)) (q2 (10 + 14 * r + 6) - (a + e)).toNat (a + e) (q2 (10 + 14 * r + 0) - P2) = lt := ⟨_, rfl⟩
      obtain ⟨fi2, la, lb⟩ := y_fi_r (by omega) fi ha (by omega) he hP1 hk hP2 hlt
      have g0 := fi2.1
      have g7 := fi2.2.2.2.1
      have le1 : e ≤ (q2 (10 + 14 * r + 6) - a).toNat := by rw [← he]; exact y_fit_le
      -- the same numbers of the present row
      have mq : ∀ i : Int, 0 ≤ i → i < J 149 (10 + 14 * r + 6) → y_pi q2 (1188 + 300 * r) i = y_pi (J 149) (1188 + 300 * r) i := fun i a1 a2 => by unfold y_pi; exact hq _ (by omega) (by omega) (by omega) (by omega)
      have sq : ∀ i : Int, 0 ≤ i → i < J 149 (10 + 14 * r + 7) → y_pi q2 (3588 + 122 * r) i = y_pi (J 149) (3588 + 122 * r) i := fun i a1 a2 => by unfold y_pi; exact hq _ (by omega) (by omega) (by omega) (by omega)
      have he' : y_fit (y_pi (J 149) (1188 + 300 * r)) (J 149 (10 + 14 * r + 6) - a).toNat a (y_planned (J 149) r s) = e := by
        rw [← he, epl, e6]
        exact y_fit_sh (fun i hi => (mq _ (by omega) (by omega)).symm)
      have hP1' : y_fsum (y_pi (J 149) (1188 + 300 * r)) e a = P1 := by
        rw [← hP1]
        exact y_fsum_sh (fun i hi => (mq _ (by omega) (by omega)).symm)
      obtain ⟨k', hk'⟩ : ∃ k', y_fit (y_pi (J 149) (3588 + 122 * r)) (J 149 (10 + 14 * r + 7) - b).toNat b (J 149 (10 + 14 * r + 0) - P1) = k' := ⟨_, rfl⟩
      have lk' : k' ≤ (J 149 (10 + 14 * r + 7) - b).toNat := by rw [← hk']; exact y_fit_le
      have hk2 : y_fit (y_pi q2 (3588 + 122 * r)) (J 149 (10 + 14 * r + 7) - b).toNat b (J 149 (10 + 14 * r + 0) - P1) = k' := by
        rw [← hk']
        exact y_fit_sh (fun i hi => sq _ (by omega) (by omega))
      have hk3 := y_fit_s (f := y_pi q2 (3588 + 122 * r)) (n := (J 149 (10 + 14 * r + 7) - b).toNat) (a := b) (rm := J 149 (10 + 14 * r + 0) - P1)
      rw [hk2] at hk3
      rw [e0, hq7, show (J 149 (10 + 14 * r + 7) + 1 - b).toNat = (J 149 (10 + 14 * r + 7) - b).toNat + 1 by omega] at hk
      rw [hk] at hk3
      have new : y_pi q2 (3588 + 122 * r) (b + (J 149 (10 + 14 * r + 7) - b).toNat) = w := by
        unfold y_pi
        rw [show b + ((J 149 (10 + 14 * r + 7) - b).toNat : Int) = J 149 (10 + 14 * r + 7) by omega]
        exact hqw
      rw [new] at hk3
      obtain ⟨P2', hP2'⟩ : ∃ P2', P1 + y_fsum (y_pi (J 149) (3588 + 122 * r)) k' b = P2' := ⟨_, rfl⟩
      have hs2 : y_fsum (y_pi q2 (3588 + 122 * r)) k' b = y_fsum (y_pi (J 149) (3588 + 122 * r)) k' b := y_fsum_sh (fun i hi => sq _ (by omega) (by omega))
      by_cases hf : b + (k' : Int) = J 149 (10 + 14 * r + 7) ∧ P2' + w ≤ J 149 (10 + 14 * r + 0)
      · -- the new group boards
        have ek : k' = (J 149 (10 + 14 * r + 7) - b).toNat := by omega
        rw [if_pos ⟨ek, by rw [← ek, hs2]; omega⟩] at hk3
        have z7 : k_ride f r (10 + 14 * r + 7) = 0 := by rw [g7, hq7]; omega
        have ans : s - J 149 0 = (o_forecastStandby (J 149) r w).2 := by
          rw [← ho, if_pos (by omega), y_fc_s (by omega) he' hP1' hk' hP2' rfl, if_pos hf]
        simp only [z_row_eq, z_u_zrow]
        refine ⟨by omega, fun c8 => absurd z7 c8, fun c8 => ⟨by omega, ?_⟩⟩
        have f2 := fi2.2.2.2.2.2.2.2
        rw [g0]
        refine w_287_73 hs ?_
        simp only [z_row_eq]
        refine ⟨fun c9 => z_cV (c_copyBlock (J := z_row (z_u J 148 2 0) 149 (z_up (k_ride f r) 0 (s + 1))) (by omega) (by omega) (by omega)) (fin hp _ _ (fun j hj => ?_) ans), fun c9 => ⟨fun c10 => z_cV (c_copyBlock (J := z_row (z_u J 148 2 0) 149 (z_up (k_ride f r) 0 (s + 1))) (by omega) (by omega) (by omega)) (fin hp _ _ (fun j hj => ?_) ans), fun c10 => by omega⟩⟩
        · rw [z_up_ne (by omega)]; exact (f2 j hj).trans (hqo j hj)
        · rw [z_up_ne (by omega)]; exact (f2 j hj).trans (hqo j hj)
      · -- it doesn't
        rw [if_neg (fun z => hf ⟨by have := z.1; omega, by
          have z2 := z.2
          rw [← z.1, hs2] at z2
          omega⟩)] at hk3
        subst hk3
        have eP : P2 = P2' := by rw [← hP2, ← hP2', hs2]
        have hlt' : y_fit (y_pi (J 149) (1188 + 300 * r)) (J 149 (10 + 14 * r + 6) - (a + e)).toNat (a + e) (J 149 (10 + 14 * r + 0) - P2') = lt := by
          rw [← hlt, eP, e6, e0]
          exact y_fit_sh (fun i hi => (mq _ (by omega) (by omega)).symm)
        have nx := ih (z_up (k_ride f r) 0 (s + 1)) (s + 1) (a + e + lt) (b + k) (by omega) (by omega) (y_fi_t (by omega) fi2 (by omega)) (by omega) (by omega) (by
          rw [← ho, if_pos (by omega), if_pos (by omega), y_fc_s (by omega) he' hP1' hk' hP2' hlt', if_neg hf])
        simp only [z_row_eq, z_u_zrow]
        refine ⟨by omega, fun c8 => ⟨by omega, ?_⟩, fun c8 => by omega⟩
        rw [g0]
        exact nx
  refine w_287_0 hs ?_
  refine ⟨by omega, fun c => bad 1 (by rw [o_forecastStandby, y_need_n (by omega)]) (by omega), fun c => ⟨fun c1 => bad 1 (by rw [o_forecastStandby, y_need_n (by omega)]) (by omega), fun c1 => ⟨fun c2 => bad 2 (by rw [o_forecastStandby, y_need_2 (by omega), y_need_n (by omega)]) (by omega), fun c2 => ⟨fun c3 => bad 2 (by rw [o_forecastStandby, y_need_2 (by omega), y_need_n (by omega)]) (by omega), fun c3 => ?_⟩⟩⟩⟩
  have hp : (0 ≤ r ∧ r < J 149 1) ∧ (1 ≤ w ∧ w ≤ 12) := by omega
  have rd := hb.ride hp.1.1 hp.1.2
  have rd' := rd
  obtain ⟨r0, r1, r2, r3, r5, r6, r7, r8, r10, r11, r12, r13⟩ := rd'
  have ln := (hb.2.1 r hp.1.1 hp.1.2).2.1
  refine z_cV (c_copyBlock (J := z_u J 148 2 0) (by omega) (by omega) (by omega)) ?_
  simp only [z_row_eq, z_u_zrow]
  have cp : ∀ j, j < 4964 → k_copy ((z_u J 148 2 0) 149) 0 3 j = J 149 j := fun j hj => by unfold k_copy; rw [if_neg (by omega)]; rfl
  simp (disch := omega) only [z_up_ne, cp]
  refine ⟨by omega, ?_⟩
  generalize eq2 : z_up (z_up (z_up (k_copy ((z_u J 148 2 0) 149) 0 3) (3588 + 122 * r + 2 * J 149 (10 + 14 * r + 7)) w) (3588 + 122 * r + 2 * J 149 (10 + 14 * r + 7) + 1) (J 149 0)) (10 + 14 * r + 7) (J 149 (10 + 14 * r + 7) + 1) = q2
  have O : ∀ j, j ≠ 10 + 14 * r + 7 → j ≠ 3588 + 122 * r + 2 * J 149 (10 + 14 * r + 7) → j ≠ 3588 + 122 * r + 2 * J 149 (10 + 14 * r + 7) + 1 → q2 j = k_copy (J 149) 0 3 j := fun j a1 a2 a3 => by rw [← eq2, z_up_ne a1, z_up_ne a3, z_up_ne a2]; rfl
  have O1 : ∀ j, (0 ≤ j ∧ j < 4964) → j ≠ 10 + 14 * r + 7 → j ≠ 3588 + 122 * r + 2 * J 149 (10 + 14 * r + 7) → j ≠ 3588 + 122 * r + 2 * J 149 (10 + 14 * r + 7) + 1 → q2 j = J 149 j := fun j a0 a1 a2 a3 => (O j a1 a2 a3).trans (cp j a0.2)
  have v7 : q2 (10 + 14 * r + 7) = J 149 (10 + 14 * r + 7) + 1 := by rw [← eq2, z_up_eq rfl]
  have vw : q2 (3588 + 122 * r + 2 * J 149 (10 + 14 * r + 7)) = w := by rw [← eq2, z_up_ne (by omega), z_up_ne (by omega), z_up_eq rfl]
  have vn : q2 (3588 + 122 * r + 2 * J 149 (10 + 14 * r + 7) + 1) = J 149 0 := by rw [← eq2, z_up_ne (by omega), z_up_eq rfl]
  have z0 := O1 0 (by omega) (by omega) (by omega) (by omega)
  have lc : y_loc q2 r := by
    unfold y_loc
    rw [v7, z0, O1 (10 + 14 * r + 0) (by omega) (by omega) (by omega) (by omega), O1 (10 + 14 * r + 1) (by omega) (by omega) (by omega) (by omega), O1 (10 + 14 * r + 3) (by omega) (by omega) (by omega) (by omega), O1 (10 + 14 * r + 4) (by omega) (by omega) (by omega) (by omega), O1 (10 + 14 * r + 6) (by omega) (by omega) (by omega) (by omega), O1 (10 + 14 * r + 8) (by omega) (by omega) (by omega) (by omega), O1 (10 + 14 * r + 9) (by omega) (by omega) (by omega) (by omega), O1 (10 + 14 * r + 10) (by omega) (by omega) (by omega) (by omega), O1 (10 + 14 * r + 11) (by omega) (by omega) (by omega) (by omega), O1 (10 + 14 * r + 12) (by omega) (by omega) (by omega) (by omega)]
    refine ⟨h0, ⟨r0, r1, by omega⟩, r6, by omega, by omega, by omega, by omega, by omega, r12, fun k a1 a2 => ?_, fun k a1 a2 => ?_⟩
    · rw [O1 (10 + 14 * r + 6) (by omega) (by omega) (by omega) (by omega)] at a2
      rw [O1 _ (by omega) (by omega) (by omega) (by omega), O1 _ (by omega) (by omega) (by omega) (by omega), z0]
      exact ln.1 k a1 a2
    · rw [v7] at a2
      rw [z0]
      by_cases hk : k = J 149 (10 + 14 * r + 7)
      · rw [hk, vw, vn]; omega
      · rw [O1 _ (by omega) (by omega) (by omega) (by omega), O1 _ (by omega) (by omega) (by omega) (by omega)]
        exact ln.2 k a1 (by omega)
  refine loop hp q2 O1 v7 vw (fun j hj => O j (by omega) (by omega) (by omega)) (144 - J 149 0).toNat q2 (J 149 0) 0 0 (by omega) (by omega) ⟨z0, ⟨rfl, rfl, rfl, rfl, rfl⟩, by omega, by omega, fun k _ => by rw [show (0 : Int) + (k : Int) = k by omega], fun k _ => by rw [show (0 : Int) + (k : Int) = k by omega], lc, fun _ _ => rfl⟩ ?_ (by omega) ?_
  · rw [O1 (10 + 14 * r + 6) (by omega) (by omega) (by omega) (by omega)]; omega
  · rw [o_forecastStandby, y_need_2 hp.1, y_need_2 hp.2]
end R18
