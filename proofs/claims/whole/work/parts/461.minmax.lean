/-! the less and the greater of two -/
set_option maxRecDepth 20000 in
theorem w_235_0 {l : Launch} {d : Nat} {Q : z_O → z_S → Prop} {Wp : Nat → z_C} {E : m_E} {J : z_J} {X : z_X} {bc bs : Nat} (hs : z_Cl l (d + 0) m_me_235 Q Wp) {x0 : Int} {x1 : Int}
    (h : (x1 ≤ x0 → (Q (.inl (some (.inl x1))) (E, J, X))) ∧ (x0 < x1 → (Q (.inl (some (.inl x0))) (E, J, X)))) : Wp 0 [some (.inl x0), some (.inl x1)] [] (E, J, X) bc bs :=
  hs 400 [] [] 0 _ _ _ _ _ (⟨fun c1 => (h.1 c1), fun c1 => (h.2 c1)⟩)
set_option maxRecDepth 20000 in
theorem w_234_0 {l : Launch} {d : Nat} {Q : z_O → z_S → Prop} {Wp : Nat → z_C} {E : m_E} {J : z_J} {X : z_X} {bc bs : Nat} (hs : z_Cl l (d + 0) m_me_234 Q Wp) {x0 : Int} {x1 : Int}
    (h : (x0 ≤ x1 → (Q (.inl (some (.inl x1))) (E, J, X))) ∧ (x1 < x0 → (Q (.inl (some (.inl x0))) (E, J, X)))) : Wp 0 [some (.inl x0), some (.inl x1)] [] (E, J, X) bc bs :=
  hs 400 [] [] 0 _ _ _ _ _ (⟨fun c1 => (h.1 c1), fun c1 => (h.2 c1)⟩)
theorem z_callv {l : Launch} {d a bc bs : Nat} {vs : z_V} {S : z_S} {w : z_W} {K : z_O → z_S → Nat → Nat → Prop} (h : z_Sem l d a vs S 0 0 (z_ret w S)) (hK : K (.inl (some w)) S bc bs) : z_Call l d a vs S bc bs K := by
  refine ⟨0, 0, _, h, Nat.zero_le _, Nat.zero_le _, ?_⟩
  rintro _ _ _ ⟨rfl, rfl⟩
  exact hK
theorem z_wi {x y : Int} (h : x = y) : (Sum.inl (some (Sum.inl x)) : z_O) = .inl (some (.inl y)) := by rw [h]
theorem c_min {l : Launch} {d : Nat} {E : m_E} {J : z_J} {X : z_X} {a b : Int} : z_Sem l (d + 1) M_R_min [.inl a, .inl b] (E, J, X) 0 0 (z_ret (.inl (min a b)) (E, J, X)) := by
  refine z_sem_of z_m235 m_ok_235 (Nat.le_of_ble_eq_true rfl) (fun Wp hs _ _ => ?_)
  refine w_235_0 hs ⟨fun c => ⟨z_wi (by omega), rfl⟩, fun c => ⟨z_wi (by omega), rfl⟩⟩
theorem c_max {l : Launch} {d : Nat} {E : m_E} {J : z_J} {X : z_X} {a b : Int} : z_Sem l (d + 1) M_R_max [.inl a, .inl b] (E, J, X) 0 0 (z_ret (.inl (max a b)) (E, J, X)) := by
  refine z_sem_of z_m234 m_ok_234 (Nat.le_of_ble_eq_true rfl) (fun Wp hs _ _ => ?_)
  refine w_234_0 hs ⟨fun c => ⟨z_wi (by omega), rfl⟩, fun c => ⟨z_wi (by omega), rfl⟩⟩
