/-! the cases of the law (written by wip/whole/gen99896.py) -/
abbrev z_loc (i : Int) : z_L := [some (.inr (.inr (.ref 2000000))), some (.inr (.inr (.ref 0))), some (.inr (.inr (.ref 148))), some (.inr (.inr (.ref 161))), some (.inr (.inr (.ref 162))), some (.inl i), none, none, none]
theorem z_scr {g : List (Option Nat)} {T : m_E} {J : z_J} {X : z_X} {L : Nat} (h : (m_Ex g T)[2000000]? = none) (hL : (J 2000001 0).toNat = L) {i : Int} (h0 : 0 ≤ i) (h1 : i < L) : z_isA (m_Ex g T, J, X) 2000000 (fun ty n => m_isInt ty = true ∧ 0 ≤ i ∧ i < n) := by
  refine Or.inr ⟨h, rfl, rfl, h0, ?_⟩
  show i < ((J 2000001 0).toNat : Int)
  rw [hL]
  exact h1
theorem z_scE {J J1 : z_J} {xs : Nat → Int32} (h : ∀ k : Nat, J 2000000 k = (xs k).toInt) (h1 : ∀ k : Nat, J1 2000000 k = (xs k).toInt) (x : Int) (hx : 0 ≤ x) : J1 2000000 x = J 2000000 x := by
  obtain ⟨k, rfl⟩ := Int.eq_ofNat_of_zero_le hx
  rw [h k, h1 k]
theorem z_lc0 {x : Int} : (if x < x then (1 : Int) else if x = x then 0 else -1) = 0 := by
  rw [if_neg (Int.lt_irrefl x), if_pos rfl]
/-- behind a case: the loop goes on -/
def z_LK (Wp : Nat → z_C) (i : Int) (n : Nat) : Prop := ∀ (g : List (Option Nat)) (T : m_E) (J : z_J) (X : z_X) (bc bs : Nat), x_I g T J → 4 * n + 300 * x_nn g ≤ bc → 24 * n + 30000 * x_nn g ≤ bs → Wp 3710 (z_loc i) [] (m_Ex g T, J, X) bc bs
