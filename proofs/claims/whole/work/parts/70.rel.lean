/-! the class's cells against a block of the reference (written by wip/whole/gen70.py): the day at cell b holds q, as far as it lives -/
def x_heads (b : Nat) (q : Int → Int) (J : z_J) : Prop := J b 0 = q 0 ∧ J b 1 = q 4 ∧ J (b + 1) 11 = q 1 ∧ J (b + 13) 4 = q 2 ∧ J (b + 13) 8 = q 3 ∧ J (b + 21) 6 = q 5
def x_ride (b : Nat) (q : Int → Int) (J : z_J) (r : Int) : Prop := J (b + 2) r = q (10 + 14 * r + 0) ∧ J (b + 3) r = q (10 + 14 * r + 1) ∧ J (b + 4) r = q (10 + 14 * r + 2) ∧ J (b + 5) r = q (10 + 14 * r + 3) ∧ J (b + 6) r = q (10 + 14 * r + 4) ∧ J (b + 7) r = q (10 + 14 * r + 5) ∧ J (b + 8) r = q (10 + 14 * r + 8) ∧ J (b + 9) r = q (10 + 14 * r + 9) ∧ J (b + 10) r = q (10 + 14 * r + 11) ∧ J (b + 11) r = q (10 + 14 * r + 10) ∧ J (b + 12) r = q (10 + 14 * r + 12)
def x_line (b : Nat) (q : Int → Int) (J : z_J) (r : Int) : Prop := J (b + 41 + 6 * r.toNat) 2 = q (10 + 14 * r + 6) ∧ J (b + 44 + 6 * r.toNat) 2 = q (10 + 14 * r + 7) ∧ (∀ k, 0 ≤ k → k < q (10 + 14 * r + 6) → J (b + 42 + 6 * r.toNat) k = q (1188 + 300 * r + 2 * k) ∧ J (b + 43 + 6 * r.toNat) k = q (1188 + 300 * r + 2 * k + 1)) ∧ (∀ k, 0 ≤ k → k < q (10 + 14 * r + 7) → J (b + 45 + 6 * r.toNat) k = q (3588 + 122 * r + 2 * k) ∧ J (b + 46 + 6 * r.toNat) k = q (3588 + 122 * r + 2 * k + 1))
def x_wait (b : Nat) (q : Int → Int) (J : z_J) (r : Int) : Prop := J (b + 38) r = q (10 + 14 * r + 13) ∧ ∀ k, 0 ≤ k → k < q (10 + 14 * r + 13) → J (b + 30 + r.toNat) k = q (4564 + 50 * r + k)
def x_tier (b : Nat) (q : Int → Int) (J : z_J) (t : Int) : Prop := J (b + 14) t = q (122 + 4 * t + 0) ∧ J (b + 15) t = q (122 + 4 * t + 1) ∧ J (b + 16) t = q (122 + 4 * t + 2) ∧ J (b + 17) t = q (122 + 4 * t + 3)
def x_party (b : Nat) (q : Int → Int) (J : z_J) (i : Int) : Prop := J (b + 18) i = q (138 + 3 * i + 0) ∧ J (b + 19) i = q (138 + 3 * i + 1) ∧ J (b + 20) i = q (138 + 3 * i + 2)
def x_tk (b : Nat) (q : Int → Int) (J : z_J) (t : Int) : Prop := J (b + 22) t = q (288 + 6 * t + 0) ∧ J (b + 23) t = q (288 + 6 * t + 1) ∧ J (b + 24) t = q (288 + 6 * t + 2) ∧ J (b + 25) t = q (288 + 6 * t + 3) ∧ J (b + 26) t = q (288 + 6 * t + 5) ∧ J (b + 27) t = q (288 + 6 * t + 4)
def x_day (b : Nat) (q : Int → Int) (J : z_J) : Prop := x_heads b q J ∧ (∀ r, 0 ≤ r → r < q 1 → x_ride b q J r ∧ x_line b q J r ∧ x_wait b q J r) ∧ (∀ t, 0 ≤ t → t < q 2 → x_tier b q J t) ∧ (∀ i, 0 ≤ i → i < q 3 → x_party b q J i) ∧ (∀ t, 0 ≤ t → t < q 5 → x_tk b q J t) ∧ (∀ r, q 1 ≤ r → r < 8 → J (b + 7) r = 0 ∧ J (b + 41 + 6 * r.toNat) 2 = 0 ∧ J (b + 44 + 6 * r.toNat) 2 = 0)
section X0
variable {q : Int → Int} {J : z_J}
theorem x_day.hd (h : x_day 36 q J) : J 36 0 = q 0 ∧ J 36 1 = q 4 ∧ J 37 11 = q 1 ∧ J 49 4 = q 2 ∧ J 49 8 = q 3 ∧ J 57 6 = q 5 := h.1
theorem x_day.ride (h : x_day 36 q J) {r : Int} (h0 : 0 ≤ r) (h1 : r < q 1) : J 38 r = q (10 + 14 * r + 0) ∧ J 39 r = q (10 + 14 * r + 1) ∧ J 40 r = q (10 + 14 * r + 2) ∧ J 41 r = q (10 + 14 * r + 3) ∧ J 42 r = q (10 + 14 * r + 4) ∧ J 43 r = q (10 + 14 * r + 5) ∧ J 44 r = q (10 + 14 * r + 8) ∧ J 45 r = q (10 + 14 * r + 9) ∧ J 46 r = q (10 + 14 * r + 11) ∧ J 47 r = q (10 + 14 * r + 10) ∧ J 48 r = q (10 + 14 * r + 12) := (h.2.1 r h0 h1).1
theorem x_day.line (h : x_day 36 q J) {r : Int} (h0 : 0 ≤ r) (h1 : r < q 1) : J (77 + 6 * r.toNat) 2 = q (10 + 14 * r + 6) ∧ J (80 + 6 * r.toNat) 2 = q (10 + 14 * r + 7) ∧ (∀ k, 0 ≤ k → k < q (10 + 14 * r + 6) → J (78 + 6 * r.toNat) k = q (1188 + 300 * r + 2 * k) ∧ J (79 + 6 * r.toNat) k = q (1188 + 300 * r + 2 * k + 1)) ∧ (∀ k, 0 ≤ k → k < q (10 + 14 * r + 7) → J (81 + 6 * r.toNat) k = q (3588 + 122 * r + 2 * k) ∧ J (82 + 6 * r.toNat) k = q (3588 + 122 * r + 2 * k + 1)) := (h.2.1 r h0 h1).2.1
theorem x_day.wait (h : x_day 36 q J) {r : Int} (h0 : 0 ≤ r) (h1 : r < q 1) : J 74 r = q (10 + 14 * r + 13) ∧ ∀ k, 0 ≤ k → k < q (10 + 14 * r + 13) → J (66 + r.toNat) k = q (4564 + 50 * r + k) := (h.2.1 r h0 h1).2.2
theorem x_day.tier (h : x_day 36 q J) {t : Int} (h0 : 0 ≤ t) (h1 : t < q 2) : J 50 t = q (122 + 4 * t + 0) ∧ J 51 t = q (122 + 4 * t + 1) ∧ J 52 t = q (122 + 4 * t + 2) ∧ J 53 t = q (122 + 4 * t + 3) := h.2.2.1 t h0 h1
theorem x_day.party (h : x_day 36 q J) {i : Int} (h0 : 0 ≤ i) (h1 : i < q 3) : J 54 i = q (138 + 3 * i + 0) ∧ J 55 i = q (138 + 3 * i + 1) ∧ J 56 i = q (138 + 3 * i + 2) := h.2.2.2.1 i h0 h1
theorem x_day.tk (h : x_day 36 q J) {t : Int} (h0 : 0 ≤ t) (h1 : t < q 5) : J 58 t = q (288 + 6 * t + 0) ∧ J 59 t = q (288 + 6 * t + 1) ∧ J 60 t = q (288 + 6 * t + 2) ∧ J 61 t = q (288 + 6 * t + 3) ∧ J 62 t = q (288 + 6 * t + 5) ∧ J 63 t = q (288 + 6 * t + 4) := h.2.2.2.2.1 t h0 h1
end X0
abbrev x_e1 : String := "java/lang/IndexOutOfBoundsException"
abbrev x_e2 : String := "java/lang/IllegalArgumentException"
abbrev x_e3 : String := "java/lang/ArithmeticException"
/-- how a public method of the class ends: by the answer o; e1, e2: which exceptions its 1 and 2 are -/
def x_out (e1 e2 : String) (o : Int × Int) (E : m_E) (P : z_J → z_X → Prop) : z_O → z_S → Prop := fun w S' => ∃ J' X', S' = (E, J', X') ∧ P J' X' ∧ ((o.1 = 0 ∧ w = .inl (some (.inl o.2))) ∨ (o.1 = 1 ∧ w = .inr e1) ∨ (o.1 = 2 ∧ w = .inr e2))
def x_outD (e1 e2 : String) (o : Int × UInt64) (E : m_E) (P : z_J → z_X → Prop) : z_O → z_S → Prop := fun w S' => ∃ J' X', S' = (E, J', X') ∧ P J' X' ∧ ((o.1 = 0 ∧ w = .inl (some (.inr (.inr (.double o.2))))) ∨ (o.1 = 1 ∧ w = .inr e1) ∨ (o.1 = 2 ∧ w = .inr e2))
/-- only scratch rows of the class have changed -/
def x_sc (J J' : z_J) : Prop := ∀ b, (b < 125 ∨ 144 < b) → J' b = J b
theorem x_sc.rf {J : z_J} : x_sc J J := fun _ _ => rfl
theorem x_ok {e1 e2 : String} {o : Int × Int} {E : m_E} {P : z_J → z_X → Prop} {J' : z_J} {X' : z_X} {v : Int} (ho : o = (0, v)) (hP : P J' X') : x_out e1 e2 o E P (.inl (some (.inl v))) (E, J', X') := by
  subst ho; exact ⟨J', X', rfl, hP, Or.inl ⟨rfl, rfl⟩⟩
theorem x_t1 {e1 e2 : String} {o : Int × Int} {E : m_E} {P : z_J → z_X → Prop} {J' : z_J} {X' : z_X} {v : Int} (ho : o = (1, v)) (hP : P J' X') : x_out e1 e2 o E P (.inr e1) (E, J', X') := by
  subst ho; exact ⟨J', X', rfl, hP, Or.inr (Or.inl ⟨rfl, rfl⟩)⟩
theorem x_t2 {e1 e2 : String} {o : Int × Int} {E : m_E} {P : z_J → z_X → Prop} {J' : z_J} {X' : z_X} {v : Int} (ho : o = (2, v)) (hP : P J' X') : x_out e1 e2 o E P (.inr e2) (E, J', X') := by
  subst ho; exact ⟨J', X', rfl, hP, Or.inr (Or.inr ⟨rfl, rfl⟩)⟩
theorem x_okD {e1 e2 : String} {o : Int × UInt64} {E : m_E} {P : z_J → z_X → Prop} {J' : z_J} {X' : z_X} {v : UInt64} (ho : o = (0, v)) (hP : P J' X') : x_outD e1 e2 o E P (.inl (some (.inr (.inr (.double v))))) (E, J', X') := by
  subst ho; exact ⟨J', X', rfl, hP, Or.inl ⟨rfl, rfl⟩⟩
theorem x_t1D {e1 e2 : String} {o : Int × UInt64} {E : m_E} {P : z_J → z_X → Prop} {J' : z_J} {X' : z_X} {v : UInt64} (ho : o = (1, v)) (hP : P J' X') : x_outD e1 e2 o E P (.inr e1) (E, J', X') := by
  subst ho; exact ⟨J', X', rfl, hP, Or.inr (Or.inl ⟨rfl, rfl⟩)⟩
theorem x_t2D {e1 e2 : String} {o : Int × UInt64} {E : m_E} {P : z_J → z_X → Prop} {J' : z_J} {X' : z_X} {v : UInt64} (ho : o = (2, v)) (hP : P J' X') : x_outD e1 e2 o E P (.inr e2) (E, J', X') := by
  subst ho; exact ⟨J', X', rfl, hP, Or.inr (Or.inr ⟨rfl, rfl⟩)⟩
