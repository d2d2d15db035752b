/-! the reference's small methods -/
/-- a method that changes nothing and answers r -/
def m_ans (r : Value) (S : m_S) : m_O → m_S → Prop := fun o S' => o = .inl (some r) ∧ S' = S
/-- a method that answers nothing and leaves S1 -/
def m_void (S1 : m_S) : m_O → m_S → Prop := fun o S' => o = .inl none ∧ S' = S1
/-- a method that answers r and leaves S1 -/
def m_both (r : Value) (S1 : m_S) : m_O → m_S → Prop := fun o S' => o = .inl (some r) ∧ S' = S1
def m_b (p : Prop) [Decidable p] : Int32 := if p then 1 else 0
theorem m_b_nar (p : Prop) [Decidable p] : vp_nar .boolean (m_b p) = m_b p := by
  unfold m_b
  split <;> rfl
theorem m_b_t {p : Prop} [Decidable p] (h : p) : m_b p = 1 := if_pos h
theorem m_b_f {p : Prop} [Decidable p] (h : ¬ p) : m_b p = 0 := if_neg h
theorem m_b_0 {p : Prop} [Decidable p] : m_b p = 0 ↔ ¬ p := by
  unfold m_b
  split
  · rename_i h; exact ⟨fun q => absurd q (by decide), fun q => absurd h q⟩
  · rename_i h; exact ⟨fun _ => h, fun _ => rfl⟩
theorem nI_lit (n : Nat) : (OfNat.ofNat n : Int32) = nI n := rfl
theorem m_lt {a b : Int32} : a < b ↔ a.toInt < b.toInt := Int32.lt_iff_toInt_lt
theorem m_le {a b : Int32} : a ≤ b ↔ a.toInt ≤ b.toInt := Int32.le_iff_toInt_le
theorem m_call0 {l : Launch} {d a : Nat} {vs : m_V} {S : m_S} {bc bs : Nat} {K : m_O → m_S → Nat → Nat → Prop} {Q : m_O → m_S → Prop} (h : m_Sem l d a vs S 0 0 Q) (hK : ∀ o S', Q o S' → K o S' bc bs) : m_Call l d a vs S bc bs K := ⟨0, 0, Q, h, Nat.zero_le _, Nat.zero_le _, hK⟩
theorem m_callA {l : Launch} {d a : Nat} {vs : m_V} {S : m_S} {bc bs : Nat} {K : m_O → m_S → Nat → Nat → Prop} {r : Value} (h : m_Sem l d a vs S 0 0 (m_ans r S)) (hK : K (.inl (some r)) S bc bs) : m_Call l d a vs S bc bs K := m_call0 h (fun o S' ⟨h1, h2⟩ => by subst h1; subst h2; exact hK)
theorem m_callB {l : Launch} {d a : Nat} {vs : m_V} {S S1 : m_S} {bc bs : Nat} {K : m_O → m_S → Nat → Nat → Prop} {r : Value} (h : m_Sem l d a vs S 0 0 (m_both r S1)) (hK : K (.inl (some r)) S1 bc bs) : m_Call l d a vs S bc bs K := m_call0 h (fun o S' ⟨h1, h2⟩ => by subst h1; subst h2; exact hK)
theorem m_callV {l : Launch} {d a : Nat} {vs : m_V} {S S1 : m_S} {bc bs : Nat} {K : m_O → m_S → Nat → Nat → Prop} (h : m_Sem l d a vs S 0 0 (m_void S1)) (hK : K (.inl none) S1 bc bs) : m_Call l d a vs S bc bs K := m_call0 h (fun o S' ⟨h1, h2⟩ => by subst h1; subst h2; exact hK)
section R1
variable {l : Launch} {d : Nat} {g : List (Option Nat)} {T : m_E} {I : m_I} {X : m_X}
theorem s_inRange (S : m_S) (v a b : Int32) : m_Sem l (d + 1) M_R_inRange [.int v, .int a, .int b] S 0 0 (m_ans (.int (m_b (a ≤ v ∧ v ≤ b))) S) := by
  refine m_sem_of m_okall rfl m_ok_193 (Nat.le_of_ble_eq_true rfl) (fun Wp hs => ?_)
  refine hs 30 [] 0 _ _ _ _ _ ?_
  refine ⟨fun (c1 : v < a) => ⟨rfl, ?_, rfl⟩, fun (c1 : ¬ v < a) => ⟨fun (c2 : b < v) => ⟨rfl, ?_, rfl⟩, fun (c2 : ¬ b < v) => ⟨rfl, ?_, rfl⟩⟩⟩
  · rw [m_b_f]; rw [m_lt] at c1; rw [m_le, m_le]; omega
  · rw [m_b_f]; rw [m_lt] at c1 c2; rw [m_le, m_le]; omega
  · rw [m_b_t]; rw [m_lt] at c1 c2; rw [m_le, m_le]; omega
theorem m_in_lit {n N : Nat} (h : n < N) (hN : N < 2 ^ 31) : vp_in (nI n) N := vp_in_nI h hN
theorem s_of {r w : Nat} (hr : r < 8) (hw : w < 14) : m_Sem l (d + 1) M_R_of [.ref 148, .int (nI r), .int (nI w)] (m_Ex g T, I, X) 0 0 (m_ans (.int (I 149 (10 + 14 * r + w))) (m_Ex g T, I, X)) := by
  have e : (10 : Int32) + 14 * nI r + nI w = nI (10 + 14 * r + w) := by
    rw [nI_lit, nI_lit, pk_mul, nI_add, nI_add]
  refine m_sem_of m_okall rfl m_ok_211 (Nat.le_of_ble_eq_true rfl) (fun Wp hs => ?_)
  refine hs 30 [] 0 _ _ _ _ _ ?_
  have h1 : vp_in ((10 : Int32) + 14 * nI r + nI w) 24820 := by rw [e]; exact vp_in_nI (by omega) (by omega)
  refine ⟨h1, ?_, rfl⟩
  show Sum.inl (some (Value.int (I 149 ((10 : Int32) + 14 * nI r + nI w).toNatClampNeg))) = _
  rw [e, nI_clamp (by omega)]
end R1
