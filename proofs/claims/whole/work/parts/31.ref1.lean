/-! the reference's small methods -/
/-- a method that changes nothing and answers r -/
def m_ans (r : Value) (S : m_S) : m_O → m_S → Prop := fun o S' => o = .inl (some r) ∧ S' = S
def m_b (p : Prop) [Decidable p] : Int32 := if p then 1 else 0
theorem m_b_nar (p : Prop) [Decidable p] : vp_nar .boolean (m_b p) = m_b p := by
  unfold m_b
  split <;> rfl
theorem m_call0 {l : Launch} {d a : Nat} {vs : m_V} {S : m_S} {bc bs : Nat} {K : m_O → m_S → Nat → Nat → Prop} {Q : m_O → m_S → Prop} (h : m_Sem l d a vs S 0 0 Q) (hK : ∀ o S', Q o S' → K o S' bc bs) : m_Call l d a vs S bc bs K := ⟨0, 0, Q, h, Nat.zero_le _, Nat.zero_le _, hK⟩
theorem m_callA {l : Launch} {d a : Nat} {vs : m_V} {S : m_S} {bc bs : Nat} {K : m_O → m_S → Nat → Nat → Prop} {r : Value} (h : m_Sem l d a vs S 0 0 (m_ans r S)) (hK : K (.inl (some r)) S bc bs) : m_Call l d a vs S bc bs K := m_call0 h (fun o S' ⟨h1, h2⟩ => by subst h1; subst h2; exact hK)
section R1
variable {l : Launch} {d : Nat} {g : List (Option Nat)} {T : m_E} {I : m_I} {X : m_X}
theorem s_inRange (S : m_S) (v a b : Int32) : m_Sem l (d + 1) M_R_inRange [.int v, .int a, .int b] S 0 0 (m_ans (.int (m_b (a ≤ v ∧ v ≤ b))) S) := by
  refine m_sem_of m_okall rfl m_ok_193 (by decide) (fun Wp hs => ?_)
  refine hs 30 [] 0 _ _ _ _ _ ?_
  refine ⟨fun c1 => ?_, fun c1 => ⟨fun c2 => ?_, fun c2 => ?_⟩⟩
  · refine ⟨rfl, ?_, rfl⟩
    rw [m_b, if_neg]
    rintro ⟨h1, -⟩
    exact absurd c1 (by rw [Int32.lt_iff_toInt_lt]; rw [Int32.le_iff_toInt_le] at h1; omega)
  · refine ⟨rfl, ?_, rfl⟩
    rw [m_b, if_neg]
    rintro ⟨-, h1⟩
    exact absurd c2 (by rw [Int32.lt_iff_toInt_lt]; rw [Int32.le_iff_toInt_le] at h1; omega)
  · refine ⟨rfl, ?_, rfl⟩
    rw [m_b, if_pos]
    rw [Int32.lt_iff_toInt_lt] at c1 c2
    rw [Int32.le_iff_toInt_le, Int32.le_iff_toInt_le]
    omega
end R1
