/-! a day at base b (written by wip/whole/gen9975.py) -/
def m_DayAt (b : Nat) : m_E := [(.inl 0, [none, none, some (b + 1), some (b + 13), some (b + 21), some (b + 28), some (b + 39), some (b + 40)]),
  (.inl 7, [some (b + 2), some (b + 3), some (b + 4), some (b + 5), some (b + 6), some (b + 7), some (b + 8), some (b + 9), some (b + 10), some (b + 11), some (b + 12), none]),
  (.inr (.int, 8), []),
  (.inr (.int, 8), []),
  (.inr (.int, 8), []),
  (.inr (.int, 8), []),
  (.inr (.int, 8), []),
  (.inr (.boolean, 8), []),
  (.inr (.int, 8), []),
  (.inr (.int, 8), []),
  (.inr (.int, 8), []),
  (.inr (.int, 8), []),
  (.inr (.int, 8), []),
  (.inl 2, [some (b + 14), some (b + 15), some (b + 16), some (b + 17), none, some (b + 18), some (b + 19), some (b + 20), none]),
  (.inr (.int, 4), []),
  (.inr (.int, 4), []),
  (.inr (.int, 4), []),
  (.inr (.int, 4), []),
  (.inr (.int, 50), []),
  (.inr (.int, 50), []),
  (.inr (.int, 50), []),
  (.inl 9, [some (b + 22), some (b + 23), some (b + 24), some (b + 25), some (b + 26), some (b + 27), none]),
  (.inr (.int, 150), []),
  (.inr (.int, 150), []),
  (.inr (.int, 150), []),
  (.inr (.int, 150), []),
  (.inr (.int, 150), []),
  (.inr (.int, 150), []),
  (.inl 10, [some (b + 29), some (b + 38)]),
  (.inr ((.array .int), 8), [some (b + 30), some (b + 31), some (b + 32), some (b + 33), some (b + 34), some (b + 35), some (b + 36), some (b + 37)]),
  (.inr (.int, 50), []),
  (.inr (.int, 50), []),
  (.inr (.int, 50), []),
  (.inr (.int, 50), []),
  (.inr (.int, 50), []),
  (.inr (.int, 50), []),
  (.inr (.int, 50), []),
  (.inr (.int, 50), []),
  (.inr (.int, 8), []),
  (.inr ((.object "VirtualQueue$Line"), 8), [some (b + 41), some (b + 47), some (b + 53), some (b + 59), some (b + 65), some (b + 71), some (b + 77), some (b + 83)]),
  (.inr ((.object "VirtualQueue$Line"), 8), [some (b + 44), some (b + 50), some (b + 56), some (b + 62), some (b + 68), some (b + 74), some (b + 80), some (b + 86)]),
  (.inl 4, [some (b + 42), some (b + 43), none]),
  (.inr (.int, 150), []),
  (.inr (.int, 150), []),
  (.inl 4, [some (b + 45), some (b + 46), none]),
  (.inr (.int, 60), []),
  (.inr (.int, 60), []),
  (.inl 4, [some (b + 48), some (b + 49), none]),
  (.inr (.int, 150), []),
  (.inr (.int, 150), []),
  (.inl 4, [some (b + 51), some (b + 52), none]),
  (.inr (.int, 60), []),
  (.inr (.int, 60), []),
  (.inl 4, [some (b + 54), some (b + 55), none]),
  (.inr (.int, 150), []),
  (.inr (.int, 150), []),
  (.inl 4, [some (b + 57), some (b + 58), none]),
  (.inr (.int, 60), []),
  (.inr (.int, 60), []),
  (.inl 4, [some (b + 60), some (b + 61), none]),
  (.inr (.int, 150), []),
  (.inr (.int, 150), []),
  (.inl 4, [some (b + 63), some (b + 64), none]),
  (.inr (.int, 60), []),
  (.inr (.int, 60), []),
  (.inl 4, [some (b + 66), some (b + 67), none]),
  (.inr (.int, 150), []),
  (.inr (.int, 150), []),
  (.inl 4, [some (b + 69), some (b + 70), none]),
  (.inr (.int, 60), []),
  (.inr (.int, 60), []),
  (.inl 4, [some (b + 72), some (b + 73), none]),
  (.inr (.int, 150), []),
  (.inr (.int, 150), []),
  (.inl 4, [some (b + 75), some (b + 76), none]),
  (.inr (.int, 60), []),
  (.inr (.int, 60), []),
  (.inl 4, [some (b + 78), some (b + 79), none]),
  (.inr (.int, 150), []),
  (.inr (.int, 150), []),
  (.inl 4, [some (b + 81), some (b + 82), none]),
  (.inr (.int, 60), []),
  (.inr (.int, 60), []),
  (.inl 4, [some (b + 84), some (b + 85), none]),
  (.inr (.int, 150), []),
  (.inr (.int, 150), []),
  (.inl 4, [some (b + 87), some (b + 88), none]),
  (.inr (.int, 60), []),
  (.inr (.int, 60), [])]
def x_at (E : m_E) (b : Nat) : Prop := ∀ k, k < 89 → E[b + k]? = (m_DayAt b)[k]?
theorem z_d0 {E : m_E} {b : Nat} (h : x_at E b) : E[b + 0]? = some (.inl 0, [none, none, some (b + 1), some (b + 13), some (b + 21), some (b + 28), some (b + 39), some (b + 40)]) := h 0 (by decide)
theorem z_d1 {E : m_E} {b : Nat} (h : x_at E b) : E[b + 1]? = some (.inl 7, [some (b + 2), some (b + 3), some (b + 4), some (b + 5), some (b + 6), some (b + 7), some (b + 8), some (b + 9), some (b + 10), some (b + 11), some (b + 12), none]) := h 1 (by decide)
theorem z_d2 {E : m_E} {b : Nat} (h : x_at E b) : E[b + 2]? = some (.inr (.int, 8), []) := h 2 (by decide)
theorem z_d3 {E : m_E} {b : Nat} (h : x_at E b) : E[b + 3]? = some (.inr (.int, 8), []) := h 3 (by decide)
theorem z_d4 {E : m_E} {b : Nat} (h : x_at E b) : E[b + 4]? = some (.inr (.int, 8), []) := h 4 (by decide)
theorem z_d5 {E : m_E} {b : Nat} (h : x_at E b) : E[b + 5]? = some (.inr (.int, 8), []) := h 5 (by decide)
theorem z_d6 {E : m_E} {b : Nat} (h : x_at E b) : E[b + 6]? = some (.inr (.int, 8), []) := h 6 (by decide)
theorem z_d7 {E : m_E} {b : Nat} (h : x_at E b) : E[b + 7]? = some (.inr (.boolean, 8), []) := h 7 (by decide)
theorem z_d8 {E : m_E} {b : Nat} (h : x_at E b) : E[b + 8]? = some (.inr (.int, 8), []) := h 8 (by decide)
theorem z_d9 {E : m_E} {b : Nat} (h : x_at E b) : E[b + 9]? = some (.inr (.int, 8), []) := h 9 (by decide)
theorem z_d10 {E : m_E} {b : Nat} (h : x_at E b) : E[b + 10]? = some (.inr (.int, 8), []) := h 10 (by decide)
theorem z_d11 {E : m_E} {b : Nat} (h : x_at E b) : E[b + 11]? = some (.inr (.int, 8), []) := h 11 (by decide)
theorem z_d12 {E : m_E} {b : Nat} (h : x_at E b) : E[b + 12]? = some (.inr (.int, 8), []) := h 12 (by decide)
theorem z_d13 {E : m_E} {b : Nat} (h : x_at E b) : E[b + 13]? = some (.inl 2, [some (b + 14), some (b + 15), some (b + 16), some (b + 17), none, some (b + 18), some (b + 19), some (b + 20), none]) := h 13 (by decide)
theorem z_d14 {E : m_E} {b : Nat} (h : x_at E b) : E[b + 14]? = some (.inr (.int, 4), []) := h 14 (by decide)
theorem z_d15 {E : m_E} {b : Nat} (h : x_at E b) : E[b + 15]? = some (.inr (.int, 4), []) := h 15 (by decide)
theorem z_d16 {E : m_E} {b : Nat} (h : x_at E b) : E[b + 16]? = some (.inr (.int, 4), []) := h 16 (by decide)
theorem z_d17 {E : m_E} {b : Nat} (h : x_at E b) : E[b + 17]? = some (.inr (.int, 4), []) := h 17 (by decide)
theorem z_d18 {E : m_E} {b : Nat} (h : x_at E b) : E[b + 18]? = some (.inr (.int, 50), []) := h 18 (by decide)
theorem z_d19 {E : m_E} {b : Nat} (h : x_at E b) : E[b + 19]? = some (.inr (.int, 50), []) := h 19 (by decide)
theorem z_d20 {E : m_E} {b : Nat} (h : x_at E b) : E[b + 20]? = some (.inr (.int, 50), []) := h 20 (by decide)
theorem z_d21 {E : m_E} {b : Nat} (h : x_at E b) : E[b + 21]? = some (.inl 9, [some (b + 22), some (b + 23), some (b + 24), some (b + 25), some (b + 26), some (b + 27), none]) := h 21 (by decide)
theorem z_d22 {E : m_E} {b : Nat} (h : x_at E b) : E[b + 22]? = some (.inr (.int, 150), []) := h 22 (by decide)
theorem z_d23 {E : m_E} {b : Nat} (h : x_at E b) : E[b + 23]? = some (.inr (.int, 150), []) := h 23 (by decide)
theorem z_d24 {E : m_E} {b : Nat} (h : x_at E b) : E[b + 24]? = some (.inr (.int, 150), []) := h 24 (by decide)
theorem z_d25 {E : m_E} {b : Nat} (h : x_at E b) : E[b + 25]? = some (.inr (.int, 150), []) := h 25 (by decide)
theorem z_d26 {E : m_E} {b : Nat} (h : x_at E b) : E[b + 26]? = some (.inr (.int, 150), []) := h 26 (by decide)
theorem z_d27 {E : m_E} {b : Nat} (h : x_at E b) : E[b + 27]? = some (.inr (.int, 150), []) := h 27 (by decide)
theorem z_d28 {E : m_E} {b : Nat} (h : x_at E b) : E[b + 28]? = some (.inl 10, [some (b + 29), some (b + 38)]) := h 28 (by decide)
theorem z_d29 {E : m_E} {b : Nat} (h : x_at E b) : E[b + 29]? = some (.inr ((.array .int), 8), [some (b + 30), some (b + 31), some (b + 32), some (b + 33), some (b + 34), some (b + 35), some (b + 36), some (b + 37)]) := h 29 (by decide)
theorem z_d30 {E : m_E} {b : Nat} (h : x_at E b) : E[b + 30]? = some (.inr (.int, 50), []) := h 30 (by decide)
theorem z_d31 {E : m_E} {b : Nat} (h : x_at E b) : E[b + 31]? = some (.inr (.int, 50), []) := h 31 (by decide)
theorem z_d32 {E : m_E} {b : Nat} (h : x_at E b) : E[b + 32]? = some (.inr (.int, 50), []) := h 32 (by decide)
theorem z_d33 {E : m_E} {b : Nat} (h : x_at E b) : E[b + 33]? = some (.inr (.int, 50), []) := h 33 (by decide)
theorem z_d34 {E : m_E} {b : Nat} (h : x_at E b) : E[b + 34]? = some (.inr (.int, 50), []) := h 34 (by decide)
theorem z_d35 {E : m_E} {b : Nat} (h : x_at E b) : E[b + 35]? = some (.inr (.int, 50), []) := h 35 (by decide)
theorem z_d36 {E : m_E} {b : Nat} (h : x_at E b) : E[b + 36]? = some (.inr (.int, 50), []) := h 36 (by decide)
theorem z_d37 {E : m_E} {b : Nat} (h : x_at E b) : E[b + 37]? = some (.inr (.int, 50), []) := h 37 (by decide)
theorem z_d38 {E : m_E} {b : Nat} (h : x_at E b) : E[b + 38]? = some (.inr (.int, 8), []) := h 38 (by decide)
theorem z_d39 {E : m_E} {b : Nat} (h : x_at E b) : E[b + 39]? = some (.inr ((.object "VirtualQueue$Line"), 8), [some (b + 41), some (b + 47), some (b + 53), some (b + 59), some (b + 65), some (b + 71), some (b + 77), some (b + 83)]) := h 39 (by decide)
theorem z_d40 {E : m_E} {b : Nat} (h : x_at E b) : E[b + 40]? = some (.inr ((.object "VirtualQueue$Line"), 8), [some (b + 44), some (b + 50), some (b + 56), some (b + 62), some (b + 68), some (b + 74), some (b + 80), some (b + 86)]) := h 40 (by decide)
theorem z_dw {E : m_E} {b : Nat} (h : x_at E b) {i : Int} (hi : 0 ≤ i ∧ i < 8) : E[b + 30 + i.toNat]? = some (.inr (.int, 50), []) := by
  obtain ⟨k, hk, e⟩ : ∃ k : Nat, k < 8 ∧ i.toNat = k := ⟨i.toNat, by omega, rfl⟩
  rw [e]
  match k, hk with
  | 0, _ => exact h 30 (by decide)
  | 1, _ => exact h 31 (by decide)
  | 2, _ => exact h 32 (by decide)
  | 3, _ => exact h 33 (by decide)
  | 4, _ => exact h 34 (by decide)
  | 5, _ => exact h 35 (by decide)
  | 6, _ => exact h 36 (by decide)
  | 7, _ => exact h 37 (by decide)
theorem z_dm {E : m_E} {b : Nat} (h : x_at E b) {i : Int} (hi : 0 ≤ i ∧ i < 8) : E[b + 41 + 6 * i.toNat]? = some (.inl 4, [some (b + 42 + 6 * i.toNat), some (b + 43 + 6 * i.toNat), none]) := by
  obtain ⟨k, hk, e⟩ : ∃ k : Nat, k < 8 ∧ i.toNat = k := ⟨i.toNat, by omega, rfl⟩
  rw [e]
  match k, hk with
  | 0, _ => exact h 41 (by decide)
  | 1, _ => exact h 47 (by decide)
  | 2, _ => exact h 53 (by decide)
  | 3, _ => exact h 59 (by decide)
  | 4, _ => exact h 65 (by decide)
  | 5, _ => exact h 71 (by decide)
  | 6, _ => exact h 77 (by decide)
  | 7, _ => exact h 83 (by decide)
theorem z_dm1 {E : m_E} {b : Nat} (h : x_at E b) {i : Int} (hi : 0 ≤ i ∧ i < 8) : E[b + 42 + 6 * i.toNat]? = some (.inr (.int, 150), []) := by
  obtain ⟨k, hk, e⟩ : ∃ k : Nat, k < 8 ∧ i.toNat = k := ⟨i.toNat, by omega, rfl⟩
  rw [e]
  match k, hk with
  | 0, _ => exact h 42 (by decide)
  | 1, _ => exact h 48 (by decide)
  | 2, _ => exact h 54 (by decide)
  | 3, _ => exact h 60 (by decide)
  | 4, _ => exact h 66 (by decide)
  | 5, _ => exact h 72 (by decide)
  | 6, _ => exact h 78 (by decide)
  | 7, _ => exact h 84 (by decide)
theorem z_dm2 {E : m_E} {b : Nat} (h : x_at E b) {i : Int} (hi : 0 ≤ i ∧ i < 8) : E[b + 43 + 6 * i.toNat]? = some (.inr (.int, 150), []) := by
  obtain ⟨k, hk, e⟩ : ∃ k : Nat, k < 8 ∧ i.toNat = k := ⟨i.toNat, by omega, rfl⟩
  rw [e]
  match k, hk with
  | 0, _ => exact h 43 (by decide)
  | 1, _ => exact h 49 (by decide)
  | 2, _ => exact h 55 (by decide)
  | 3, _ => exact h 61 (by decide)
  | 4, _ => exact h 67 (by decide)
  | 5, _ => exact h 73 (by decide)
  | 6, _ => exact h 79 (by decide)
  | 7, _ => exact h 85 (by decide)
theorem z_ds {E : m_E} {b : Nat} (h : x_at E b) {i : Int} (hi : 0 ≤ i ∧ i < 8) : E[b + 44 + 6 * i.toNat]? = some (.inl 4, [some (b + 45 + 6 * i.toNat), some (b + 46 + 6 * i.toNat), none]) := by
  obtain ⟨k, hk, e⟩ : ∃ k : Nat, k < 8 ∧ i.toNat = k := ⟨i.toNat, by omega, rfl⟩
  rw [e]
  match k, hk with
  | 0, _ => exact h 44 (by decide)
  | 1, _ => exact h 50 (by decide)
  | 2, _ => exact h 56 (by decide)
  | 3, _ => exact h 62 (by decide)
  | 4, _ => exact h 68 (by decide)
  | 5, _ => exact h 74 (by decide)
  | 6, _ => exact h 80 (by decide)
  | 7, _ => exact h 86 (by decide)
theorem z_ds1 {E : m_E} {b : Nat} (h : x_at E b) {i : Int} (hi : 0 ≤ i ∧ i < 8) : E[b + 45 + 6 * i.toNat]? = some (.inr (.int, 60), []) := by
  obtain ⟨k, hk, e⟩ : ∃ k : Nat, k < 8 ∧ i.toNat = k := ⟨i.toNat, by omega, rfl⟩
  rw [e]
  match k, hk with
  | 0, _ => exact h 45 (by decide)
  | 1, _ => exact h 51 (by decide)
  | 2, _ => exact h 57 (by decide)
  | 3, _ => exact h 63 (by decide)
  | 4, _ => exact h 69 (by decide)
  | 5, _ => exact h 75 (by decide)
  | 6, _ => exact h 81 (by decide)
  | 7, _ => exact h 87 (by decide)
theorem z_ds2 {E : m_E} {b : Nat} (h : x_at E b) {i : Int} (hi : 0 ≤ i ∧ i < 8) : E[b + 46 + 6 * i.toNat]? = some (.inr (.int, 60), []) := by
  obtain ⟨k, hk, e⟩ : ∃ k : Nat, k < 8 ∧ i.toNat = k := ⟨i.toNat, by omega, rfl⟩
  rw [e]
  match k, hk with
  | 0, _ => exact h 46 (by decide)
  | 1, _ => exact h 52 (by decide)
  | 2, _ => exact h 58 (by decide)
  | 3, _ => exact h 64 (by decide)
  | 4, _ => exact h 70 (by decide)
  | 5, _ => exact h 76 (by decide)
  | 6, _ => exact h 82 (by decide)
  | 7, _ => exact h 88 (by decide)
theorem z_dgw {b : Nat} {i : Int} (hi : 0 ≤ i ∧ i < 8) : ([some (b + 30), some (b + 31), some (b + 32), some (b + 33), some (b + 34), some (b + 35), some (b + 36), some (b + 37)] : List (Option Nat)).getD i.toNat none = some (b + 30 + i.toNat) := by
  obtain ⟨k, hk, e⟩ : ∃ k : Nat, k < 8 ∧ i.toNat = k := ⟨i.toNat, by omega, rfl⟩
  rw [e]
  match k, hk with
  | 0, _ => rfl
  | 1, _ => rfl
  | 2, _ => rfl
  | 3, _ => rfl
  | 4, _ => rfl
  | 5, _ => rfl
  | 6, _ => rfl
  | 7, _ => rfl
theorem z_dgm {b : Nat} {i : Int} (hi : 0 ≤ i ∧ i < 8) : ([some (b + 41), some (b + 47), some (b + 53), some (b + 59), some (b + 65), some (b + 71), some (b + 77), some (b + 83)] : List (Option Nat)).getD i.toNat none = some (b + 41 + 6 * i.toNat) := by
  obtain ⟨k, hk, e⟩ : ∃ k : Nat, k < 8 ∧ i.toNat = k := ⟨i.toNat, by omega, rfl⟩
  rw [e]
  match k, hk with
  | 0, _ => rfl
  | 1, _ => rfl
  | 2, _ => rfl
  | 3, _ => rfl
  | 4, _ => rfl
  | 5, _ => rfl
  | 6, _ => rfl
  | 7, _ => rfl
theorem z_dgs {b : Nat} {i : Int} (hi : 0 ≤ i ∧ i < 8) : ([some (b + 44), some (b + 50), some (b + 56), some (b + 62), some (b + 68), some (b + 74), some (b + 80), some (b + 86)] : List (Option Nat)).getD i.toNat none = some (b + 44 + 6 * i.toNat) := by
  obtain ⟨k, hk, e⟩ : ∃ k : Nat, k < 8 ∧ i.toNat = k := ⟨i.toNat, by omega, rfl⟩
  rw [e]
  match k, hk with
  | 0, _ => rfl
  | 1, _ => rfl
  | 2, _ => rfl
  | 3, _ => rfl
  | 4, _ => rfl
  | 5, _ => rfl
  | 6, _ => rfl
  | 7, _ => rfl
