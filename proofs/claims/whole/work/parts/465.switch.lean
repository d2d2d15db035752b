/-! a switch by its cases -/
theorem z_sw5 {P : Int → Prop} {x : Int} {o0 o1 o2 o3 o4 : Int} (h0 : x = 0 → P o0) (h1 : x = 1 → P o1) (h2 : x = 2 → P o2) (h3 : x = 3 → P o3) (h4 : x = 4 → P o4) : ∀ off : Int, 0 ≤ x → x ≤ 4 → #[o0, o1, o2, o3, o4][(x - 0).toNat]? = some off → P off := by
  intro off a b c
  rcases (show x = 0 ∨ x = 1 ∨ x = 2 ∨ x = 3 ∨ x = 4 by omega) with rfl | rfl | rfl | rfl | rfl <;> cases c
  · exact h0 rfl
  · exact h1 rfl
  · exact h2 rfl
  · exact h3 rfl
  · exact h4 rfl
theorem z_sw6 {P : Int → Prop} {x : Int} {o0 o1 o2 o3 o4 o5 : Int} (h0 : x = 0 → P o0) (h1 : x = 1 → P o1) (h2 : x = 2 → P o2) (h3 : x = 3 → P o3) (h4 : x = 4 → P o4) (h5 : x = 5 → P o5) : ∀ off : Int, 0 ≤ x → x ≤ 5 → #[o0, o1, o2, o3, o4, o5][(x - 0).toNat]? = some off → P off := by
  intro off a b c
  rcases (show x = 0 ∨ x = 1 ∨ x = 2 ∨ x = 3 ∨ x = 4 ∨ x = 5 by omega) with rfl | rfl | rfl | rfl | rfl | rfl <;> cases c
  · exact h0 rfl
  · exact h1 rfl
  · exact h2 rfl
  · exact h3 rfl
  · exact h4 rfl
  · exact h5 rfl
