/-! boarding (written by wip/whole/gen93.py): one group, all that fit -/
def y_loc (q : Int → Int) (r : Int) : Prop := (0 ≤ q 0 ∧ q 0 ≤ 144) ∧ ((1 ≤ q (10 + 14 * r + 0) ∧ q (10 + 14 * r + 0) ≤ 200) ∧ (0 ≤ q (10 + 14 * r + 1) ∧ q (10 + 14 * r + 1) ≤ 100) ∧ (0 ≤ q (10 + 14 * r + 3) ∧ q (10 + 14 * r + 4) ≤ 143)) ∧ (0 ≤ q (10 + 14 * r + 6) ∧ q (10 + 14 * r + 6) ≤ 150) ∧ (0 ≤ q (10 + 14 * r + 7) ∧ q (10 + 14 * r + 7) ≤ 61) ∧ (0 ≤ q (10 + 14 * r + 8) ∧ q (10 + 14 * r + 8) + 12 * (q (10 + 14 * r + 6) + q (10 + 14 * r + 7)) ≤ 10000000) ∧ (0 ≤ q (10 + 14 * r + 9) ∧ q (10 + 14 * r + 9) + 12 * (q (10 + 14 * r + 6) + q (10 + 14 * r + 7)) ≤ 10000000) ∧ (0 ≤ q (10 + 14 * r + 10) ∧ q (10 + 14 * r + 10) + 144 * (q (10 + 14 * r + 6) + q (10 + 14 * r + 7)) ≤ 10000000) ∧ (0 ≤ q (10 + 14 * r + 11) ∧ q (10 + 14 * r + 11) + (q (10 + 14 * r + 6) + q (10 + 14 * r + 7)) ≤ 10000000) ∧ (0 ≤ q (10 + 14 * r + 12) ∧ q (10 + 14 * r + 12) ≤ 144) ∧ y_lines q r
def k_nt (q : Int → Int) (r wt : Int) : Int → Int := z_up (z_up (z_up q (10 + 14 * r + 10) (q (10 + 14 * r + 10) + wt)) (10 + 14 * r + 11) (q (10 + 14 * r + 11) + 1)) (10 + 14 * r + 12) (max (q (10 + 14 * r + 12)) wt)
def k_sh0 (q : Int → Int) (r : Int) : Int → Int := fun j => if j = 10 + 14 * r + 6 then q j - 1 else if 1188 + 300 * r ≤ j ∧ j < 1188 + 300 * r + 2 * (q (10 + 14 * r + 6) - 1) then q (j + 2) else q j
def k_bs0 (q : Int → Int) (r : Int) : Int → Int := k_sh0 (k_nt q r (q 0 - q (1188 + 300 * r + 1))) r
/-- what is left when as many as fit have boarded (not counted at 8) -/
def k_bn0 (r : Int) : Nat → (Int → Int) → Int → (Int → Int)
  | 0, q, _ => q
  | n + 1, q, rm => if q (1188 + 300 * r) ≤ rm then k_bn0 r n (k_bs0 q r) (rm - q (1188 + 300 * r)) else q
/-- how many persons board -/
def y_bn0 (r : Int) : Nat → (Int → Int) → Int → Int
  | 0, _, _ => 0
  | n + 1, q, rm => if q (1188 + 300 * r) ≤ rm then q (1188 + 300 * r) + y_bn0 r n (k_bs0 q r) (rm - q (1188 + 300 * r)) else 0
def y_bp0 (q : Int → Int) (r rm : Int) : Int := y_bn0 r (q (10 + 14 * r + 6)).toNat q rm
def k_bq0 (q : Int → Int) (r rm : Int) : Int → Int := k_bn0 r (q (10 + 14 * r + 6)).toNat q rm
def k_bd0 (q : Int → Int) (r rm : Int) : Int → Int := z_up (k_bq0 q r rm) (10 + 14 * r + 8) (q (10 + 14 * r + 8) + y_bp0 q r rm)
section B10
variable {q : Int → Int} {r : Int}
theorem k_bs0_v (hr : 0 ≤ r ∧ r < 8) : k_bs0 q r (10 + 14 * r + 10) = q (10 + 14 * r + 10) + (q 0 - q (1188 + 300 * r + 1)) ∧ k_bs0 q r (10 + 14 * r + 11) = q (10 + 14 * r + 11) + 1 ∧ k_bs0 q r (10 + 14 * r + 12) = max (q (10 + 14 * r + 12)) (q 0 - q (1188 + 300 * r + 1)) ∧ k_bs0 q r (10 + 14 * r + 6) = q (10 + 14 * r + 6) - 1 := by
  unfold k_bs0 k_sh0 k_nt
  refine ⟨?_, ?_, ?_, ?_⟩ <;> simp (disch := omega) only [z_up_ne, z_up_eq, if_neg, if_pos, if_true]
theorem k_bs0_s (hr : 0 ≤ r ∧ r < 8) (hc : q (10 + 14 * r + 6) ≤ 150) {j : Int} (h0 : 1188 + 300 * r ≤ j) (h1 : j < 1188 + 300 * r + 2 * (q (10 + 14 * r + 6) - 1)) : k_bs0 q r j = q (j + 2) := by
  unfold k_bs0 k_sh0 k_nt
  simp (disch := omega) only [z_up_ne, z_up_eq]
  rw [if_neg (by omega), if_pos ⟨h0, h1⟩]
theorem k_bs0_o (hr : 0 ≤ r ∧ r < 8) {j : Int} (h10 : j ≠ 10 + 14 * r + 10) (h11 : j ≠ 10 + 14 * r + 11) (h12 : j ≠ 10 + 14 * r + 12) (hC : j ≠ 10 + 14 * r + 6) (h : j < 1188 + 300 * r ∨ 1188 + 300 * r + 2 * (q (10 + 14 * r + 6) - 1) ≤ j) : k_bs0 q r j = q j := by
  unfold k_bs0 k_sh0 k_nt
  simp (disch := omega) only [z_up_ne, z_up_eq]
  rw [if_neg (by omega), if_neg (by omega)]
theorem y_loc_bs0 (hr : 0 ≤ r ∧ r < 8) (hl : y_loc q r) (hc : 0 < q (10 + 14 * r + 6)) : y_loc (k_bs0 q r) r := by
  obtain ⟨h0, hs, h6, h7, h8, h9, h10, h11, h12, hn⟩ := hl
  obtain ⟨v10, v11, v12, vC⟩ := k_bs0_v (q := q) hr
  have O := fun j => k_bs0_o (q := q) (j := j) hr
  have S := fun j => k_bs0_s (q := q) (j := j) hr (by omega)
  have g0 := hn.1 0 (by omega) hc
  have g1 : q (1188 + 300 * r + 2 * 0 + 1) = q (1188 + 300 * r + 1) := by rw [show 1188 + 300 * r + 2 * 0 + 1 = 1188 + 300 * r + 1 by omega]
  have e0 := O 0 (by omega) (by omega) (by omega) (by omega) (by omega)
  have own : ∀ k, 0 ≤ k → k < q (10 + 14 * r + 6) - 1 → (1 ≤ k_bs0 q r (1188 + 300 * r + 2 * k) ∧ k_bs0 q r (1188 + 300 * r + 2 * k) ≤ 12) ∧ (0 ≤ k_bs0 q r (1188 + 300 * r + 2 * k + 1) ∧ k_bs0 q r (1188 + 300 * r + 2 * k + 1) ≤ q 0) := by
    intro k b1 b2
    rw [S _ (by omega) (by omega), S _ (by omega) (by omega), show 1188 + 300 * r + 2 * k + 2 = 1188 + 300 * r + 2 * (k + 1) by omega, show 1188 + 300 * r + 2 * k + 1 + 2 = 1188 + 300 * r + 2 * (k + 1) + 1 by omega]
    exact hn.1 (k + 1) (by omega) (by omega)
  have oth : ∀ k, 0 ≤ k → k < q (10 + 14 * r + 7) → (1 ≤ k_bs0 q r (3588 + 122 * r + 2 * k) ∧ k_bs0 q r (3588 + 122 * r + 2 * k) ≤ 12) ∧ (0 ≤ k_bs0 q r (3588 + 122 * r + 2 * k + 1) ∧ k_bs0 q r (3588 + 122 * r + 2 * k + 1) ≤ q 0) := by
    intro k b1 b2
    rw [O _ (by omega) (by omega) (by omega) (by omega) (by omega), O _ (by omega) (by omega) (by omega) (by omega) (by omega)]
    exact hn.2 k b1 b2
  unfold y_loc y_lines
  rw [e0, v10, v11, v12, vC, O (10 + 14 * r + 0) (by omega) (by omega) (by omega) (by omega) (by omega), O (10 + 14 * r + 1) (by omega) (by omega) (by omega) (by omega) (by omega), O (10 + 14 * r + 3) (by omega) (by omega) (by omega) (by omega) (by omega), O (10 + 14 * r + 4) (by omega) (by omega) (by omega) (by omega) (by omega), O (10 + 14 * r + 7) (by omega) (by omega) (by omega) (by omega) (by omega), O (10 + 14 * r + 8) (by omega) (by omega) (by omega) (by omega) (by omega), O (10 + 14 * r + 9) (by omega) (by omega) (by omega) (by omega) (by omega)]
  exact ⟨h0, hs, by omega, by omega, by omega, by omega, by omega, by omega, by omega, ⟨own, oth⟩⟩
/-- what boarding does to the numbers -/
theorem y_bn0_f (hr : 0 ≤ r ∧ r < 8) : ∀ (n : Nat) (q : Int → Int) (rm : Int), y_loc q r → q (10 + 14 * r + 6) = n → 0 ≤ rm →
    y_loc (k_bn0 r n q rm) r ∧ (0 ≤ y_bn0 r n q rm ∧ y_bn0 r n q rm ≤ rm) ∧ (q (10 + 14 * r + 11) ≤ k_bn0 r n q rm (10 + 14 * r + 11) ∧ k_bn0 r n q rm (10 + 14 * r + 11) ≤ q (10 + 14 * r + 11) + y_bn0 r n q rm) ∧ (q (10 + 14 * r + 10) ≤ k_bn0 r n q rm (10 + 14 * r + 10) ∧ k_bn0 r n q rm (10 + 14 * r + 10) ≤ q (10 + 14 * r + 10) + 144 * (k_bn0 r n q rm (10 + 14 * r + 11) - q (10 + 14 * r + 11))) ∧ (0 ≤ k_bn0 r n q rm (10 + 14 * r + 6) ∧ k_bn0 r n q rm (10 + 14 * r + 6) ≤ q (10 + 14 * r + 6) ∧ y_bn0 r n q rm ≤ 12 * (q (10 + 14 * r + 6) - k_bn0 r n q rm (10 + 14 * r + 6))) ∧ (∀ j, j ≠ 10 + 14 * r + 10 → j ≠ 10 + 14 * r + 11 → j ≠ 10 + 14 * r + 12 → j ≠ 10 + 14 * r + 6 → (j < 1188 + 300 * r ∨ 1188 + 300 * r + 300 ≤ j) → k_bn0 r n q rm j = q j) := by
  intro n
  induction n with
  | zero =>
    intro q rm hl hc hm
    exact ⟨hl, ⟨Int.le_refl _, hm⟩, ⟨Int.le_refl _, by show q _ ≤ q _ + (0 : Int); omega⟩, ⟨Int.le_refl _, by show q _ ≤ q _ + 144 * (q _ - q _); omega⟩, ⟨by show 0 ≤ q _; omega, Int.le_refl _, by show (0 : Int) ≤ 12 * (q _ - q _); omega⟩, fun j _ _ _ _ _ => rfl⟩
  | succ n ih =>
    intro q rm hl hc hm
    rw [k_bn0, y_bn0]
    have hln := hl.2.2.2.2.2.2.2.2.2.1 0 (by omega) (by omega)
    have g1 : q (1188 + 300 * r + 2 * 0 + 1) = q (1188 + 300 * r + 1) := by rw [show 1188 + 300 * r + 2 * 0 + 1 = 1188 + 300 * r + 1 by omega]
    have g0 : q (1188 + 300 * r + 2 * 0) = q (1188 + 300 * r) := by rw [show 1188 + 300 * r + 2 * 0 = 1188 + 300 * r by omega]
    have hb0 := hl.1
    have h6 := hl.2.2.1
    have h7 := hl.2.2.2.1
    by_cases hw : q (1188 + 300 * r) ≤ rm
    · rw [if_pos hw, if_pos hw]
      obtain ⟨v10, v11, v12, vC⟩ := k_bs0_v (q := q) hr
      obtain ⟨i1, i2, i3, i4, i5, i6⟩ := ih (k_bs0 q r) (rm - q (1188 + 300 * r)) (y_loc_bs0 hr hl (by omega)) (by omega) (by omega)
      refine ⟨i1, by omega, by omega, by omega, by omega, fun j a1 a2 a3 a4 a5 => ?_⟩
      rw [i6 j a1 a2 a3 a4 a5, k_bs0_o hr a1 a2 a3 a4 (by omega)]
    · rw [if_neg hw, if_neg hw]
      exact ⟨hl, ⟨Int.le_refl _, hm⟩, by omega, by omega, by omega, fun j _ _ _ _ _ => rfl⟩
theorem y_bd0_f (hr : 0 ≤ r ∧ r < 8) {rm : Int} (hl : y_loc q r) (hm : 0 ≤ rm) : y_loc (k_bd0 q r rm) r ∧ (0 ≤ y_bp0 q r rm ∧ y_bp0 q r rm ≤ rm) ∧ (q (10 + 14 * r + 11) ≤ k_bd0 q r rm (10 + 14 * r + 11) ∧ k_bd0 q r rm (10 + 14 * r + 11) ≤ q (10 + 14 * r + 11) + y_bp0 q r rm) ∧ (q (10 + 14 * r + 10) ≤ k_bd0 q r rm (10 + 14 * r + 10) ∧ k_bd0 q r rm (10 + 14 * r + 10) ≤ q (10 + 14 * r + 10) + 144 * (k_bd0 q r rm (10 + 14 * r + 11) - q (10 + 14 * r + 11))) ∧ (0 ≤ k_bd0 q r rm (10 + 14 * r + 6) ∧ k_bd0 q r rm (10 + 14 * r + 6) ≤ q (10 + 14 * r + 6)) ∧ k_bd0 q r rm (10 + 14 * r + 8) = q (10 + 14 * r + 8) + y_bp0 q r rm ∧ (∀ j, j ≠ 10 + 14 * r + 8 → j ≠ 10 + 14 * r + 10 → j ≠ 10 + 14 * r + 11 → j ≠ 10 + 14 * r + 12 → j ≠ 10 + 14 * r + 6 → (j < 1188 + 300 * r ∨ 1188 + 300 * r + 300 ≤ j) → k_bd0 q r rm j = q j) := by
  have hc : 0 ≤ q (10 + 14 * r + 6) := by have := hl.2.2.1; have := hl.2.2.2.1; omega
  obtain ⟨i1, i2, i3, i4, i5, i6⟩ := y_bn0_f hr (q (10 + 14 * r + 6)).toNat q rm hl (by omega) hm
  have O : ∀ j, j ≠ 10 + 14 * r + 8 → k_bd0 q r rm j = k_bn0 r (q (10 + 14 * r + 6)).toNat q rm j := fun j hj => by rw [k_bd0, z_up_ne hj]; rfl
  have vA : k_bd0 q r rm (10 + 14 * r + 8) = q (10 + 14 * r + 8) + y_bp0 q r rm := by rw [k_bd0, z_up_eq rfl]
  have eA := i6 (10 + 14 * r + 8) (by omega) (by omega) (by omega) (by omega) (by omega)
  have eD := i6 (10 + 14 * r + 7) (by omega) (by omega) (by omega) (by omega) (by omega)
  have yb : y_bp0 q r rm = y_bn0 r (q (10 + 14 * r + 6)).toNat q rm := rfl
  refine ⟨?_, by omega, ?_, ?_, ?_, vA, fun j a0 a1 a2 a3 a4 a5 => by rw [O j a0, i6 j a1 a2 a3 a4 a5]⟩
  · obtain ⟨h0, hs, h6, h7, h8, h9, h10, h11, h12, hn⟩ := i1
    have b6 := hl.2.2.1
    have b7 := hl.2.2.2.1
    have b8 := hl.2.2.2.2.1
    have b9 := hl.2.2.2.2.2.1
    have L : y_lines (k_bd0 q r rm) r := by
      refine ⟨fun k a1 a2 => ?_, fun k a1 a2 => ?_⟩
      · rw [O _ (by omega)] at a2
        rw [O _ (by omega), O _ (by omega), O _ (by omega)]
        exact hn.1 k a1 a2
      · rw [O _ (by omega)] at a2
        rw [O _ (by omega), O _ (by omega), O _ (by omega)]
        exact hn.2 k a1 a2
    unfold y_loc
    rw [vA, O 0 (by omega), O (10 + 14 * r + 0) (by omega), O (10 + 14 * r + 1) (by omega), O (10 + 14 * r + 3) (by omega), O (10 + 14 * r + 4) (by omega), O (10 + 14 * r + 6) (by omega), O (10 + 14 * r + 7) (by omega), O (10 + 14 * r + 9) (by omega), O (10 + 14 * r + 10) (by omega), O (10 + 14 * r + 11) (by omega), O (10 + 14 * r + 12) (by omega)]
    exact ⟨h0, hs, h6, h7, by omega, by omega, h10, h11, h12, L⟩
  · rw [O _ (by omega)]; omega
  · rw [O _ (by omega), O _ (by omega)]; omega
  · rw [O _ (by omega)]; omega
end B10
def k_sh1 (q : Int → Int) (r : Int) : Int → Int := fun j => if j = 10 + 14 * r + 7 then q j - 1 else if 3588 + 122 * r ≤ j ∧ j < 3588 + 122 * r + 2 * (q (10 + 14 * r + 7) - 1) then q (j + 2) else q j
def k_bs1 (q : Int → Int) (r : Int) : Int → Int := k_sh1 (k_nt q r (q 0 - q (3588 + 122 * r + 1))) r
/-- what is left when as many as fit have boarded (not counted at 9) -/
def k_bn1 (r : Int) : Nat → (Int → Int) → Int → (Int → Int)
  | 0, q, _ => q
  | n + 1, q, rm => if q (3588 + 122 * r) ≤ rm then k_bn1 r n (k_bs1 q r) (rm - q (3588 + 122 * r)) else q
/-- how many persons board -/
def y_bn1 (r : Int) : Nat → (Int → Int) → Int → Int
  | 0, _, _ => 0
  | n + 1, q, rm => if q (3588 + 122 * r) ≤ rm then q (3588 + 122 * r) + y_bn1 r n (k_bs1 q r) (rm - q (3588 + 122 * r)) else 0
def y_bp1 (q : Int → Int) (r rm : Int) : Int := y_bn1 r (q (10 + 14 * r + 7)).toNat q rm
def k_bq1 (q : Int → Int) (r rm : Int) : Int → Int := k_bn1 r (q (10 + 14 * r + 7)).toNat q rm
def k_bd1 (q : Int → Int) (r rm : Int) : Int → Int := z_up (k_bq1 q r rm) (10 + 14 * r + 9) (q (10 + 14 * r + 9) + y_bp1 q r rm)
section B11
variable {q : Int → Int} {r : Int}
theorem k_bs1_v (hr : 0 ≤ r ∧ r < 8) : k_bs1 q r (10 + 14 * r + 10) = q (10 + 14 * r + 10) + (q 0 - q (3588 + 122 * r + 1)) ∧ k_bs1 q r (10 + 14 * r + 11) = q (10 + 14 * r + 11) + 1 ∧ k_bs1 q r (10 + 14 * r + 12) = max (q (10 + 14 * r + 12)) (q 0 - q (3588 + 122 * r + 1)) ∧ k_bs1 q r (10 + 14 * r + 7) = q (10 + 14 * r + 7) - 1 := by
  unfold k_bs1 k_sh1 k_nt
  refine ⟨?_, ?_, ?_, ?_⟩ <;> simp (disch := omega) only [z_up_ne, z_up_eq, if_neg, if_pos, if_true]
theorem k_bs1_s (hr : 0 ≤ r ∧ r < 8) (hc : q (10 + 14 * r + 7) ≤ 150) {j : Int} (h0 : 3588 + 122 * r ≤ j) (h1 : j < 3588 + 122 * r + 2 * (q (10 + 14 * r + 7) - 1)) : k_bs1 q r j = q (j + 2) := by
  unfold k_bs1 k_sh1 k_nt
  simp (disch := omega) only [z_up_ne, z_up_eq]
  rw [if_neg (by omega), if_pos ⟨h0, h1⟩]
theorem k_bs1_o (hr : 0 ≤ r ∧ r < 8) {j : Int} (h10 : j ≠ 10 + 14 * r + 10) (h11 : j ≠ 10 + 14 * r + 11) (h12 : j ≠ 10 + 14 * r + 12) (hC : j ≠ 10 + 14 * r + 7) (h : j < 3588 + 122 * r ∨ 3588 + 122 * r + 2 * (q (10 + 14 * r + 7) - 1) ≤ j) : k_bs1 q r j = q j := by
  unfold k_bs1 k_sh1 k_nt
  simp (disch := omega) only [z_up_ne, z_up_eq]
  rw [if_neg (by omega), if_neg (by omega)]
theorem y_loc_bs1 (hr : 0 ≤ r ∧ r < 8) (hl : y_loc q r) (hc : 0 < q (10 + 14 * r + 7)) : y_loc (k_bs1 q r) r := by
  obtain ⟨h0, hs, h6, h7, h8, h9, h10, h11, h12, hn⟩ := hl
  obtain ⟨v10, v11, v12, vC⟩ := k_bs1_v (q := q) hr
  have O := fun j => k_bs1_o (q := q) (j := j) hr
  have S := fun j => k_bs1_s (q := q) (j := j) hr (by omega)
  have g0 := hn.2 0 (by omega) hc
  have g1 : q (3588 + 122 * r + 2 * 0 + 1) = q (3588 + 122 * r + 1) := by rw [show 3588 + 122 * r + 2 * 0 + 1 = 3588 + 122 * r + 1 by omega]
  have e0 := O 0 (by omega) (by omega) (by omega) (by omega) (by omega)
  have own : ∀ k, 0 ≤ k → k < q (10 + 14 * r + 7) - 1 → (1 ≤ k_bs1 q r (3588 + 122 * r + 2 * k) ∧ k_bs1 q r (3588 + 122 * r + 2 * k) ≤ 12) ∧ (0 ≤ k_bs1 q r (3588 + 122 * r + 2 * k + 1) ∧ k_bs1 q r (3588 + 122 * r + 2 * k + 1) ≤ q 0) := by
    intro k b1 b2
    rw [S _ (by omega) (by omega), S _ (by omega) (by omega), show 3588 + 122 * r + 2 * k + 2 = 3588 + 122 * r + 2 * (k + 1) by omega, show 3588 + 122 * r + 2 * k + 1 + 2 = 3588 + 122 * r + 2 * (k + 1) + 1 by omega]
    exact hn.2 (k + 1) (by omega) (by omega)
  have oth : ∀ k, 0 ≤ k → k < q (10 + 14 * r + 6) → (1 ≤ k_bs1 q r (1188 + 300 * r + 2 * k) ∧ k_bs1 q r (1188 + 300 * r + 2 * k) ≤ 12) ∧ (0 ≤ k_bs1 q r (1188 + 300 * r + 2 * k + 1) ∧ k_bs1 q r (1188 + 300 * r + 2 * k + 1) ≤ q 0) := by
    intro k b1 b2
    rw [O _ (by omega) (by omega) (by omega) (by omega) (by omega), O _ (by omega) (by omega) (by omega) (by omega) (by omega)]
    exact hn.1 k b1 b2
  unfold y_loc y_lines
  rw [e0, v10, v11, v12, vC, O (10 + 14 * r + 0) (by omega) (by omega) (by omega) (by omega) (by omega), O (10 + 14 * r + 1) (by omega) (by omega) (by omega) (by omega) (by omega), O (10 + 14 * r + 3) (by omega) (by omega) (by omega) (by omega) (by omega), O (10 + 14 * r + 4) (by omega) (by omega) (by omega) (by omega) (by omega), O (10 + 14 * r + 6) (by omega) (by omega) (by omega) (by omega) (by omega), O (10 + 14 * r + 8) (by omega) (by omega) (by omega) (by omega) (by omega), O (10 + 14 * r + 9) (by omega) (by omega) (by omega) (by omega) (by omega)]
  exact ⟨h0, hs, by omega, by omega, by omega, by omega, by omega, by omega, by omega, ⟨oth, own⟩⟩
/-- what boarding does to the numbers -/
theorem y_bn1_f (hr : 0 ≤ r ∧ r < 8) : ∀ (n : Nat) (q : Int → Int) (rm : Int), y_loc q r → q (10 + 14 * r + 7) = n → 0 ≤ rm →
    y_loc (k_bn1 r n q rm) r ∧ (0 ≤ y_bn1 r n q rm ∧ y_bn1 r n q rm ≤ rm) ∧ (q (10 + 14 * r + 11) ≤ k_bn1 r n q rm (10 + 14 * r + 11) ∧ k_bn1 r n q rm (10 + 14 * r + 11) ≤ q (10 + 14 * r + 11) + y_bn1 r n q rm) ∧ (q (10 + 14 * r + 10) ≤ k_bn1 r n q rm (10 + 14 * r + 10) ∧ k_bn1 r n q rm (10 + 14 * r + 10) ≤ q (10 + 14 * r + 10) + 144 * (k_bn1 r n q rm (10 + 14 * r + 11) - q (10 + 14 * r + 11))) ∧ (0 ≤ k_bn1 r n q rm (10 + 14 * r + 7) ∧ k_bn1 r n q rm (10 + 14 * r + 7) ≤ q (10 + 14 * r + 7) ∧ y_bn1 r n q rm ≤ 12 * (q (10 + 14 * r + 7) - k_bn1 r n q rm (10 + 14 * r + 7))) ∧ (∀ j, j ≠ 10 + 14 * r + 10 → j ≠ 10 + 14 * r + 11 → j ≠ 10 + 14 * r + 12 → j ≠ 10 + 14 * r + 7 → (j < 3588 + 122 * r ∨ 3588 + 122 * r + 122 ≤ j) → k_bn1 r n q rm j = q j) := by
  intro n
  induction n with
  | zero =>
    intro q rm hl hc hm
    exact ⟨hl, ⟨Int.le_refl _, hm⟩, ⟨Int.le_refl _, by show q _ ≤ q _ + (0 : Int); omega⟩, ⟨Int.le_refl _, by show q _ ≤ q _ + 144 * (q _ - q _); omega⟩, ⟨by show 0 ≤ q _; omega, Int.le_refl _, by show (0 : Int) ≤ 12 * (q _ - q _); omega⟩, fun j _ _ _ _ _ => rfl⟩
  | succ n ih =>
    intro q rm hl hc hm
    rw [k_bn1, y_bn1]
    have hln := hl.2.2.2.2.2.2.2.2.2.2 0 (by omega) (by omega)
    have g1 : q (3588 + 122 * r + 2 * 0 + 1) = q (3588 + 122 * r + 1) := by rw [show 3588 + 122 * r + 2 * 0 + 1 = 3588 + 122 * r + 1 by omega]
    have g0 : q (3588 + 122 * r + 2 * 0) = q (3588 + 122 * r) := by rw [show 3588 + 122 * r + 2 * 0 = 3588 + 122 * r by omega]
    have hb0 := hl.1
    have h6 := hl.2.2.1
    have h7 := hl.2.2.2.1
    by_cases hw : q (3588 + 122 * r) ≤ rm
    · rw [if_pos hw, if_pos hw]
      obtain ⟨v10, v11, v12, vC⟩ := k_bs1_v (q := q) hr
      obtain ⟨i1, i2, i3, i4, i5, i6⟩ := ih (k_bs1 q r) (rm - q (3588 + 122 * r)) (y_loc_bs1 hr hl (by omega)) (by omega) (by omega)
      refine ⟨i1, by omega, by omega, by omega, by omega, fun j a1 a2 a3 a4 a5 => ?_⟩
      rw [i6 j a1 a2 a3 a4 a5, k_bs1_o hr a1 a2 a3 a4 (by omega)]
    · rw [if_neg hw, if_neg hw]
      exact ⟨hl, ⟨Int.le_refl _, hm⟩, by omega, by omega, by omega, fun j _ _ _ _ _ => rfl⟩
theorem y_bd1_f (hr : 0 ≤ r ∧ r < 8) {rm : Int} (hl : y_loc q r) (hm : 0 ≤ rm) : y_loc (k_bd1 q r rm) r ∧ (0 ≤ y_bp1 q r rm ∧ y_bp1 q r rm ≤ rm) ∧ (q (10 + 14 * r + 11) ≤ k_bd1 q r rm (10 + 14 * r + 11) ∧ k_bd1 q r rm (10 + 14 * r + 11) ≤ q (10 + 14 * r + 11) + y_bp1 q r rm) ∧ (q (10 + 14 * r + 10) ≤ k_bd1 q r rm (10 + 14 * r + 10) ∧ k_bd1 q r rm (10 + 14 * r + 10) ≤ q (10 + 14 * r + 10) + 144 * (k_bd1 q r rm (10 + 14 * r + 11) - q (10 + 14 * r + 11))) ∧ (0 ≤ k_bd1 q r rm (10 + 14 * r + 7) ∧ k_bd1 q r rm (10 + 14 * r + 7) ≤ q (10 + 14 * r + 7)) ∧ k_bd1 q r rm (10 + 14 * r + 9) = q (10 + 14 * r + 9) + y_bp1 q r rm ∧ (∀ j, j ≠ 10 + 14 * r + 9 → j ≠ 10 + 14 * r + 10 → j ≠ 10 + 14 * r + 11 → j ≠ 10 + 14 * r + 12 → j ≠ 10 + 14 * r + 7 → (j < 3588 + 122 * r ∨ 3588 + 122 * r + 122 ≤ j) → k_bd1 q r rm j = q j) := by
  have hc : 0 ≤ q (10 + 14 * r + 7) := by have := hl.2.2.1; have := hl.2.2.2.1; omega
  obtain ⟨i1, i2, i3, i4, i5, i6⟩ := y_bn1_f hr (q (10 + 14 * r + 7)).toNat q rm hl (by omega) hm
  have O : ∀ j, j ≠ 10 + 14 * r + 9 → k_bd1 q r rm j = k_bn1 r (q (10 + 14 * r + 7)).toNat q rm j := fun j hj => by rw [k_bd1, z_up_ne hj]; rfl
  have vA : k_bd1 q r rm (10 + 14 * r + 9) = q (10 + 14 * r + 9) + y_bp1 q r rm := by rw [k_bd1, z_up_eq rfl]
  have eA := i6 (10 + 14 * r + 9) (by omega) (by omega) (by omega) (by omega) (by omega)
  have eD := i6 (10 + 14 * r + 6) (by omega) (by omega) (by omega) (by omega) (by omega)
  have yb : y_bp1 q r rm = y_bn1 r (q (10 + 14 * r + 7)).toNat q rm := rfl
  refine ⟨?_, by omega, ?_, ?_, ?_, vA, fun j a0 a1 a2 a3 a4 a5 => by rw [O j a0, i6 j a1 a2 a3 a4 a5]⟩
  · obtain ⟨h0, hs, h6, h7, h8, h9, h10, h11, h12, hn⟩ := i1
    have b6 := hl.2.2.1
    have b7 := hl.2.2.2.1
    have b8 := hl.2.2.2.2.1
    have b9 := hl.2.2.2.2.2.1
    have L : y_lines (k_bd1 q r rm) r := by
      refine ⟨fun k a1 a2 => ?_, fun k a1 a2 => ?_⟩
      · rw [O _ (by omega)] at a2
        rw [O _ (by omega), O _ (by omega), O _ (by omega)]
        exact hn.1 k a1 a2
      · rw [O _ (by omega)] at a2
        rw [O _ (by omega), O _ (by omega), O _ (by omega)]
        exact hn.2 k a1 a2
    unfold y_loc
    rw [vA, O 0 (by omega), O (10 + 14 * r + 0) (by omega), O (10 + 14 * r + 1) (by omega), O (10 + 14 * r + 3) (by omega), O (10 + 14 * r + 4) (by omega), O (10 + 14 * r + 6) (by omega), O (10 + 14 * r + 7) (by omega), O (10 + 14 * r + 8) (by omega), O (10 + 14 * r + 10) (by omega), O (10 + 14 * r + 11) (by omega), O (10 + 14 * r + 12) (by omega)]
    exact ⟨h0, hs, h6, h7, by omega, by omega, h10, h11, h12, L⟩
  · rw [O _ (by omega)]; omega
  · rw [O _ (by omega), O _ (by omega)]; omega
  · rw [O _ (by omega)]; omega
end B11
section B2
variable {l : Launch} {d : Nat} {g : List (Option Nat)} {T : m_E} {J : z_J} {X : z_X}
theorem c_board0 {r p0 mo : Int} (hr : 0 ≤ r ∧ r < 8) (hl : y_loc (J 149) r) (hp : 0 ≤ p0 ∧ p0 ≤ mo) (hm : mo ≤ 200) : z_Sem l (d + 2) M_R_board [.inr (.inr (.ref 148)), .inl r, .inl 0, .inl p0, .inl mo] (m_Ex g T, J, X) 0 0 (z_ret (.inl (p0 + y_bp0 (J 149) r (mo - p0))) (m_Ex g T, z_row J 149 (k_bd0 (J 149) r (mo - p0)), X)) := by
  refine z_sem_of z_m289 m_ok_289 (Nat.le_of_ble_eq_true rfl) (fun Wp hs hv hS => ?_)
  have shift : ∀ (n : Nat) (i p w9 c : Int) (f f2 : Int → Int), (∀ j, f2 j = if 1188 + 300 * r ≤ j ∧ j < i then f (j + 2) else f j) → f (10 + 14 * r + 6) = c → 0 ≤ c ∧ c ≤ 150 → 1188 + 300 * r ≤ i → i + n = 1188 + 300 * r + 2 * c → (∀ f3 : Int → Int, (∀ j, f3 j = if 1188 + 300 * r ≤ j ∧ j < 1188 + 300 * r + 2 * c then f (j + 2) else f j) → Wp 10 [some (.inr (.inr (.ref 148))), some (.inl r), some (.inl 0), some (.inl p0), some (.inl mo), some (.inl p), some (.inl (1188 + 300 * r)), none, none] [] (m_Ex g T, z_row J 149 f3, X) 0 0) → Wp 169 [some (.inr (.inr (.ref 148))), some (.inl r), some (.inl 0), some (.inl p0), some (.inl mo), some (.inl p), some (.inl (1188 + 300 * r)), some (.inl w9), some (.inl i)] [] (m_Ex g T, z_row J 149 f2, X) 0 0 := by
    intro n
    induction n with
    | zero =>
      intro i p w9 c f f2 hf hc hcb hi hin K
      have e := hf (10 + 14 * r + 6)
      rw [if_neg (by omega), hc] at e
      refine w_289_169 hs ?_
      simp only [z_row_eq, Int.reduceAdd, e]
      refine ⟨by omega, fun c9 => K f2 (fun j => ?_), fun c9 => by omega⟩
      rw [hf j, show i = 1188 + 300 * r + 2 * c from by omega]
    | succ n ih =>
      intro i p w9 c f f2 hf hc hcb hi hin K
      have e := hf (10 + 14 * r + 6)
      rw [if_neg (by omega), hc] at e
      have e2 := hf (i + 2)
      rw [if_neg (by omega)] at e2
      refine w_289_169 hs ?_
      simp only [z_row_eq, Int.reduceAdd, e, e2, z_u_zrow]
      refine ⟨by omega, fun c => by omega, fun c1 => ⟨by omega, ?_⟩⟩
      refine w_289_204 hs ?_
      refine ⟨by omega, ih (i + 1) p w9 c f _ (fun j => ?_) hc hcb (by omega) (by omega) K⟩
      by_cases hj : j = i
      · rw [z_up_eq hj, if_pos (by omega), hj]
      · rw [z_up_ne hj, hf j]
        by_cases h9 : 1188 + 300 * r ≤ j ∧ j < i
        · rw [if_pos h9, if_pos (by omega)]
        · rw [if_neg h9, if_neg (by omega)]
  have loop : ∀ (n : Nat) (Q9 : Int → Int) (p v : Int), y_loc Q9 r → Q9 (10 + 14 * r + 6) = n → 0 ≤ p ∧ p ≤ mo → 0 ≤ v ∧ v + 12 * n ≤ 20000000 → p + y_bn0 r n Q9 (mo - p) = p0 + y_bp0 (J 149) r (mo - p0) → z_up (k_bn0 r n Q9 (mo - p)) (10 + 14 * r + 8) (v + y_bn0 r n Q9 (mo - p)) = k_bd0 (J 149) r (mo - p0) → Wp 10 [some (.inr (.inr (.ref 148))), some (.inl r), some (.inl 0), some (.inl p0), some (.inl mo), some (.inl p), some (.inl (1188 + 300 * r)), none, none] [] (m_Ex g T, z_row J 149 (z_up Q9 (10 + 14 * r + 8) v), X) 0 0 := by
    intro n
    induction n with
    | zero =>
      intro Q9 p v hl hc hp hv e1 e2
      have vC : z_up Q9 (10 + 14 * r + 8) v (10 + 14 * r + 6) = 0 := by rw [z_up_ne (by omega), hc]; rfl
      refine w_289_10 hs ?_
      simp only [z_row_eq, Int.reduceAdd, vC]
      refine ⟨by omega, fun c => ?_, fun c => by omega⟩
      rw [← e1, ← e2]
      exact ⟨z_wi (by show p = p + 0; omega), by show _ = (m_Ex g T, z_row J 149 (z_up Q9 _ (v + 0)), X); rw [Int.add_zero]⟩
    | succ n ih =>
      intro Q9 p v hl hc hp hv e1 e2
      have hln := hl.2.2.2.2.2.2.2.2.2.1 0 (by omega) (by omega)
      have g1 : Q9 (1188 + 300 * r + 2 * 0 + 1) = Q9 (1188 + 300 * r + 1) := by rw [show 1188 + 300 * r + 2 * 0 + 1 = 1188 + 300 * r + 1 by omega]
      have g0 : Q9 (1188 + 300 * r + 2 * 0) = Q9 (1188 + 300 * r) := by rw [show 1188 + 300 * r + 2 * 0 = 1188 + 300 * r by omega]
      have hb0 := hl.1
      have h6 := hl.2.2.1
      have h7 := hl.2.2.2.1
      have h10 := hl.2.2.2.2.2.2.1
      have h11 := hl.2.2.2.2.2.2.2.1
      have vC : z_up Q9 (10 + 14 * r + 8) v (10 + 14 * r + 6) = Q9 (10 + 14 * r + 6) := z_up_ne (by omega)
      have vB : z_up Q9 (10 + 14 * r + 8) v (1188 + 300 * r) = Q9 (1188 + 300 * r) := z_up_ne (by omega)
      have vB1 : z_up Q9 (10 + 14 * r + 8) v (1188 + 300 * r + 1) = Q9 (1188 + 300 * r + 1) := z_up_ne (by omega)
      have v0 : z_up Q9 (10 + 14 * r + 8) v 0 = Q9 0 := z_up_ne (by omega)
      have vA : z_up Q9 (10 + 14 * r + 8) v (10 + 14 * r + 8) = v := z_up_eq rfl
      rw [k_bn0, y_bn0] at e2
      rw [y_bn0] at e1
      refine w_289_10 hs ?_
      simp only [z_row_eq, Int.reduceAdd, vC, vB, vB1, v0, vA, z_u_zrow]
      refine ⟨by omega, fun c => by omega, fun c => ⟨by omega, fun c1 => ?_, fun c1 => ⟨by omega, ?_⟩⟩⟩
      · rw [if_neg (by omega)] at e1
        rw [if_neg (by omega), if_neg (by omega)] at e2
        rw [← e1, ← e2]
        exact ⟨z_wi (by omega), by rw [Int.add_zero]⟩
      · rw [if_pos (by omega)] at e1
        rw [if_pos (by omega), if_pos (by omega)] at e2
        have U : z_up (z_up Q9 (10 + 14 * r + 8) v) (10 + 14 * r + 8) (v + Q9 (1188 + 300 * r)) = z_up Q9 (10 + 14 * r + 8) (v + Q9 (1188 + 300 * r)) := by
          funext j
          by_cases hj : j = 10 + 14 * r + 8
          · rw [z_up_eq hj, z_up_eq hj]
          · rw [z_up_ne hj, z_up_ne hj, z_up_ne hj]
        rw [U]
        refine w_289_93 hs ?_
        simp only [z_row_eq, z_u_zrow]
        simp (disch := omega) only [z_up_ne, z_up_eq]
        refine ⟨by omega, ?_⟩
        refine w_289_110 hs ?_
        simp only [z_row_eq, z_u_zrow]
        simp (disch := omega) only [z_up_ne, z_up_eq]
        refine ⟨by omega, ?_⟩
        refine w_289_126 hs ?_
        simp only [z_row_eq, z_u_zrow]
        simp (disch := omega) only [z_up_ne, z_up_eq]
        refine ⟨by omega, ?_⟩
        refine w_289_145 hs ?_
        simp only [z_row_eq, z_u_zrow, Int.reduceAdd]
        simp (disch := omega) only [z_up_ne, z_up_eq]
        refine ⟨by omega, ?_⟩
        refine w_289_165 hs ?_
        refine shift (2 * n) (1188 + 300 * r) _ _ (Q9 (10 + 14 * r + 6) - 1) _ _ (fun j => by rw [if_neg (by omega)]) (by rw [z_up_eq rfl]) (by omega) (by omega) (by omega) (fun f3 hf3 => ?_)
        have ef : f3 = z_up (k_bs0 Q9 r) (10 + 14 * r + 8) (v + Q9 (1188 + 300 * r)) := by
          funext j
          rw [hf3 j]
          by_cases hA : j = 10 + 14 * r + 8
          · rw [z_up_eq hA, if_neg (by omega)]
            simp (disch := omega) only [z_up_ne, z_up_eq]
          · rw [z_up_ne hA]
            by_cases hS : 1188 + 300 * r ≤ j ∧ j < 1188 + 300 * r + 2 * (Q9 (10 + 14 * r + 6) - 1)
            · rw [if_pos hS, k_bs0_s hr (by omega) hS.1 hS.2]
              simp (disch := omega) only [z_up_ne]
            · rw [if_neg hS]
              unfold k_bs0 k_sh0 k_nt
              by_cases hC : j = 10 + 14 * r + 6
              · rw [z_up_eq hC, if_pos hC, hC]
                simp (disch := omega) only [z_up_ne]
              · rw [z_up_ne hC, if_neg hC, if_neg (by simp (disch := omega) only [z_up_ne]; exact hS)]
                by_cases h12 : j = 10 + 14 * r + 12
                · rw [z_up_eq h12, z_up_eq h12]
                · rw [z_up_ne h12, z_up_ne h12]
                  by_cases h11 : j = 10 + 14 * r + 11
                  · rw [z_up_eq h11, z_up_eq h11]
                  · rw [z_up_ne h11, z_up_ne h11]
                    by_cases h10 : j = 10 + 14 * r + 10
                    · rw [z_up_eq h10, z_up_eq h10]
                    · rw [z_up_ne h10, z_up_ne h10, z_up_ne hA]
        rw [ef]
        have vv := (k_bs0_v (q := Q9) hr).2.2.2
        refine ih (k_bs0 Q9 r) (p + Q9 (1188 + 300 * r)) (v + Q9 (1188 + 300 * r)) (y_loc_bs0 hr hl (by omega)) (by omega) (by omega) (by omega) ?_ ?_
        · rw [show mo - (p + Q9 (1188 + 300 * r)) = mo - p - Q9 (1188 + 300 * r) by omega]; omega
        · rw [show mo - (p + Q9 (1188 + 300 * r)) = mo - p - Q9 (1188 + 300 * r) by omega, ← e2, show v + (Q9 (1188 + 300 * r) + y_bn0 r n (k_bs0 Q9 r) (mo - p - Q9 (1188 + 300 * r))) = v + Q9 (1188 + 300 * r) + y_bn0 r n (k_bs0 Q9 r) (mo - p - Q9 (1188 + 300 * r)) by omega]
  have h6 := hl.2.2.1
  have h7 := hl.2.2.2.1
  have h8 := hl.2.2.2.2.1
  have h9 := hl.2.2.2.2.2.1
  have st := loop (J 149 (10 + 14 * r + 6)).toNat (J 149) p0 (J 149 (10 + 14 * r + 8)) hl (by omega) hp (by omega) rfl rfl
  have e0 : z_up (J 149) (10 + 14 * r + 8) (J 149 (10 + 14 * r + 8)) = J 149 := by
    funext j
    by_cases hj : j = 10 + 14 * r + 8
    · rw [z_up_eq hj, hj]
    · rw [z_up_ne hj]
  rw [e0, z_row_self] at st
  refine w_289_0 hs ?_
  exact ⟨fun c => absurd rfl c, fun c => ⟨by omega, st⟩⟩
theorem c_board1 {r p0 mo : Int} (hr : 0 ≤ r ∧ r < 8) (hl : y_loc (J 149) r) (hp : 0 ≤ p0 ∧ p0 ≤ mo) (hm : mo ≤ 200) : z_Sem l (d + 2) M_R_board [.inr (.inr (.ref 148)), .inl r, .inl 1, .inl p0, .inl mo] (m_Ex g T, J, X) 0 0 (z_ret (.inl (p0 + y_bp1 (J 149) r (mo - p0))) (m_Ex g T, z_row J 149 (k_bd1 (J 149) r (mo - p0)), X)) := by
  refine z_sem_of z_m289 m_ok_289 (Nat.le_of_ble_eq_true rfl) (fun Wp hs hv hS => ?_)
  have shift : ∀ (n : Nat) (i p w9 c : Int) (f f2 : Int → Int), (∀ j, f2 j = if 3588 + 122 * r ≤ j ∧ j < i then f (j + 2) else f j) → f (10 + 14 * r + 7) = c → 0 ≤ c ∧ c ≤ 150 → 3588 + 122 * r ≤ i → i + n = 3588 + 122 * r + 2 * c → (∀ f3 : Int → Int, (∀ j, f3 j = if 3588 + 122 * r ≤ j ∧ j < 3588 + 122 * r + 2 * c then f (j + 2) else f j) → Wp 10 [some (.inr (.inr (.ref 148))), some (.inl r), some (.inl 1), some (.inl p0), some (.inl mo), some (.inl p), some (.inl (3588 + 122 * r)), none, none] [] (m_Ex g T, z_row J 149 f3, X) 0 0) → Wp 169 [some (.inr (.inr (.ref 148))), some (.inl r), some (.inl 1), some (.inl p0), some (.inl mo), some (.inl p), some (.inl (3588 + 122 * r)), some (.inl w9), some (.inl i)] [] (m_Ex g T, z_row J 149 f2, X) 0 0 := by
    intro n
    induction n with
    | zero =>
      intro i p w9 c f f2 hf hc hcb hi hin K
      have e := hf (10 + 14 * r + 7)
      rw [if_neg (by omega), hc] at e
      refine w_289_169 hs ?_
      simp only [z_row_eq, Int.reduceAdd, e]
      refine ⟨by omega, fun c9 => K f2 (fun j => ?_), fun c9 => by omega⟩
      rw [hf j, show i = 3588 + 122 * r + 2 * c from by omega]
    | succ n ih =>
      intro i p w9 c f f2 hf hc hcb hi hin K
      have e := hf (10 + 14 * r + 7)
      rw [if_neg (by omega), hc] at e
      have e2 := hf (i + 2)
      rw [if_neg (by omega)] at e2
      refine w_289_169 hs ?_
      simp only [z_row_eq, Int.reduceAdd, e, e2, z_u_zrow]
      refine ⟨by omega, fun c => by omega, fun c1 => ⟨by omega, ?_⟩⟩
      refine w_289_204 hs ?_
      refine ⟨by omega, ih (i + 1) p w9 c f _ (fun j => ?_) hc hcb (by omega) (by omega) K⟩
      by_cases hj : j = i
      · rw [z_up_eq hj, if_pos (by omega), hj]
      · rw [z_up_ne hj, hf j]
        by_cases h9 : 3588 + 122 * r ≤ j ∧ j < i
        · rw [if_pos h9, if_pos (by omega)]
        · rw [if_neg h9, if_neg (by omega)]
  have loop : ∀ (n : Nat) (Q9 : Int → Int) (p v : Int), y_loc Q9 r → Q9 (10 + 14 * r + 7) = n → 0 ≤ p ∧ p ≤ mo → 0 ≤ v ∧ v + 12 * n ≤ 20000000 → p + y_bn1 r n Q9 (mo - p) = p0 + y_bp1 (J 149) r (mo - p0) → z_up (k_bn1 r n Q9 (mo - p)) (10 + 14 * r + 9) (v + y_bn1 r n Q9 (mo - p)) = k_bd1 (J 149) r (mo - p0) → Wp 10 [some (.inr (.inr (.ref 148))), some (.inl r), some (.inl 1), some (.inl p0), some (.inl mo), some (.inl p), some (.inl (3588 + 122 * r)), none, none] [] (m_Ex g T, z_row J 149 (z_up Q9 (10 + 14 * r + 9) v), X) 0 0 := by
    intro n
    induction n with
    | zero =>
      intro Q9 p v hl hc hp hv e1 e2
      have vC : z_up Q9 (10 + 14 * r + 9) v (10 + 14 * r + 7) = 0 := by rw [z_up_ne (by omega), hc]; rfl
      refine w_289_10 hs ?_
      simp only [z_row_eq, Int.reduceAdd, vC]
      refine ⟨by omega, fun c => ?_, fun c => by omega⟩
      rw [← e1, ← e2]
      exact ⟨z_wi (by show p = p + 0; omega), by show _ = (m_Ex g T, z_row J 149 (z_up Q9 _ (v + 0)), X); rw [Int.add_zero]⟩
    | succ n ih =>
      intro Q9 p v hl hc hp hv e1 e2
      have hln := hl.2.2.2.2.2.2.2.2.2.2 0 (by omega) (by omega)
      have g1 : Q9 (3588 + 122 * r + 2 * 0 + 1) = Q9 (3588 + 122 * r + 1) := by rw [show 3588 + 122 * r + 2 * 0 + 1 = 3588 + 122 * r + 1 by omega]
      have g0 : Q9 (3588 + 122 * r + 2 * 0) = Q9 (3588 + 122 * r) := by rw [show 3588 + 122 * r + 2 * 0 = 3588 + 122 * r by omega]
      have hb0 := hl.1
      have h6 := hl.2.2.1
      have h7 := hl.2.2.2.1
      have h10 := hl.2.2.2.2.2.2.1
      have h11 := hl.2.2.2.2.2.2.2.1
      have vC : z_up Q9 (10 + 14 * r + 9) v (10 + 14 * r + 7) = Q9 (10 + 14 * r + 7) := z_up_ne (by omega)
      have vB : z_up Q9 (10 + 14 * r + 9) v (3588 + 122 * r) = Q9 (3588 + 122 * r) := z_up_ne (by omega)
      have vB1 : z_up Q9 (10 + 14 * r + 9) v (3588 + 122 * r + 1) = Q9 (3588 + 122 * r + 1) := z_up_ne (by omega)
      have v0 : z_up Q9 (10 + 14 * r + 9) v 0 = Q9 0 := z_up_ne (by omega)
      have vA : z_up Q9 (10 + 14 * r + 9) v (10 + 14 * r + 9) = v := z_up_eq rfl
      rw [k_bn1, y_bn1] at e2
      rw [y_bn1] at e1
      refine w_289_10 hs ?_
      simp only [z_row_eq, Int.reduceAdd, vC, vB, vB1, v0, vA, z_u_zrow]
      refine ⟨by omega, fun c => by omega, fun c => ⟨by omega, fun c1 => ?_, fun c1 => ⟨by omega, ?_⟩⟩⟩
      · rw [if_neg (by omega)] at e1
        rw [if_neg (by omega), if_neg (by omega)] at e2
        rw [← e1, ← e2]
        exact ⟨z_wi (by omega), by rw [Int.add_zero]⟩
      · rw [if_pos (by omega)] at e1
        rw [if_pos (by omega), if_pos (by omega)] at e2
        have U : z_up (z_up Q9 (10 + 14 * r + 9) v) (10 + 14 * r + 9) (v + Q9 (3588 + 122 * r)) = z_up Q9 (10 + 14 * r + 9) (v + Q9 (3588 + 122 * r)) := by
          funext j
          by_cases hj : j = 10 + 14 * r + 9
          · rw [z_up_eq hj, z_up_eq hj]
          · rw [z_up_ne hj, z_up_ne hj, z_up_ne hj]
        rw [U]
        refine w_289_93 hs ?_
        simp only [z_row_eq, z_u_zrow]
        simp (disch := omega) only [z_up_ne, z_up_eq]
        refine ⟨by omega, ?_⟩
        refine w_289_110 hs ?_
        simp only [z_row_eq, z_u_zrow]
        simp (disch := omega) only [z_up_ne, z_up_eq]
        refine ⟨by omega, ?_⟩
        refine w_289_126 hs ?_
        simp only [z_row_eq, z_u_zrow]
        simp (disch := omega) only [z_up_ne, z_up_eq]
        refine ⟨by omega, ?_⟩
        refine w_289_145 hs ?_
        simp only [z_row_eq, z_u_zrow, Int.reduceAdd]
        simp (disch := omega) only [z_up_ne, z_up_eq]
        refine ⟨by omega, ?_⟩
        refine w_289_165 hs ?_
        refine shift (2 * n) (3588 + 122 * r) _ _ (Q9 (10 + 14 * r + 7) - 1) _ _ (fun j => by rw [if_neg (by omega)]) (by rw [z_up_eq rfl]) (by omega) (by omega) (by omega) (fun f3 hf3 => ?_)
        have ef : f3 = z_up (k_bs1 Q9 r) (10 + 14 * r + 9) (v + Q9 (3588 + 122 * r)) := by
          funext j
          rw [hf3 j]
          by_cases hA : j = 10 + 14 * r + 9
          · rw [z_up_eq hA, if_neg (by omega)]
            simp (disch := omega) only [z_up_ne, z_up_eq]
          · rw [z_up_ne hA]
            by_cases hS : 3588 + 122 * r ≤ j ∧ j < 3588 + 122 * r + 2 * (Q9 (10 + 14 * r + 7) - 1)
            · rw [if_pos hS, k_bs1_s hr (by omega) hS.1 hS.2]
              simp (disch := omega) only [z_up_ne]
            · rw [if_neg hS]
              unfold k_bs1 k_sh1 k_nt
              by_cases hC : j = 10 + 14 * r + 7
              · rw [z_up_eq hC, if_pos hC, hC]
                simp (disch := omega) only [z_up_ne]
              · rw [z_up_ne hC, if_neg hC, if_neg (by simp (disch := omega) only [z_up_ne]; exact hS)]
                by_cases h12 : j = 10 + 14 * r + 12
                · rw [z_up_eq h12, z_up_eq h12]
                · rw [z_up_ne h12, z_up_ne h12]
                  by_cases h11 : j = 10 + 14 * r + 11
                  · rw [z_up_eq h11, z_up_eq h11]
                  · rw [z_up_ne h11, z_up_ne h11]
                    by_cases h10 : j = 10 + 14 * r + 10
                    · rw [z_up_eq h10, z_up_eq h10]
                    · rw [z_up_ne h10, z_up_ne h10, z_up_ne hA]
        rw [ef]
        have vv := (k_bs1_v (q := Q9) hr).2.2.2
        refine ih (k_bs1 Q9 r) (p + Q9 (3588 + 122 * r)) (v + Q9 (3588 + 122 * r)) (y_loc_bs1 hr hl (by omega)) (by omega) (by omega) (by omega) ?_ ?_
        · rw [show mo - (p + Q9 (3588 + 122 * r)) = mo - p - Q9 (3588 + 122 * r) by omega]; omega
        · rw [show mo - (p + Q9 (3588 + 122 * r)) = mo - p - Q9 (3588 + 122 * r) by omega, ← e2, show v + (Q9 (3588 + 122 * r) + y_bn1 r n (k_bs1 Q9 r) (mo - p - Q9 (3588 + 122 * r))) = v + Q9 (3588 + 122 * r) + y_bn1 r n (k_bs1 Q9 r) (mo - p - Q9 (3588 + 122 * r)) by omega]
  have h6 := hl.2.2.1
  have h7 := hl.2.2.2.1
  have h8 := hl.2.2.2.2.1
  have h9 := hl.2.2.2.2.2.1
  have st := loop (J 149 (10 + 14 * r + 7)).toNat (J 149) p0 (J 149 (10 + 14 * r + 9)) hl (by omega) hp (by omega) rfl rfl
  have e0 : z_up (J 149) (10 + 14 * r + 9) (J 149 (10 + 14 * r + 9)) = J 149 := by
    funext j
    by_cases hj : j = 10 + 14 * r + 9
    · rw [z_up_eq hj, hj]
    · rw [z_up_ne hj]
  rw [e0, z_row_self] at st
  refine w_289_0 hs ?_
  exact ⟨fun c => ⟨by omega, st⟩, fun c => absurd c (by decide)⟩
end B2
