/-! constructors that make arrays (written by wip/whole/gen99794.py) -/
theorem z_apV {E L : m_E} {c w w' : (Nat ⊕ (FieldType × Nat)) × List (Option Nat)} {a : Nat} (h : a < E.length) : ((E.set a w ++ L) ++ [c]).set a w' = E.set a w' ++ (L ++ [c]) := by
  rw [List.append_assoc, List.set_append_left _ _ (by simp; exact h), List.set_set]
theorem z_wpS {Wp : Nat → z_C} {pc : Nat} {lo : z_L} {E E' : m_E} {J J' : z_J} {X X' : z_X} {bc bs : Nat} (h1 : E = E') (h2 : J = J') (h3 : X = X') (h : Wp pc lo [] (E', J', X') bc bs) : Wp pc lo [] (E, J, X) bc bs := by
  subst h1 h2 h3; exact h
section Q34
variable {l : Launch} {d : Nat} {E : m_E} {J : z_J} {X : z_X} {th bc bs : Nat}
theorem e_initRides (hE : E[th]? = some (.inl 7, [none, none, none, none, none, none, none, none, none, none, none, none])) (hl : E.length + 11 < 1000) (hb : 11 ≤ bc) (hb2 : 88 ≤ bs) : z_Sem l (d + 1) M_Rides_init [.inr (.inr (.ref th))] (E, J, X) bc bs (fun o S' => o = .inl none ∧ S'.1 = E.set th (.inl 7, [some E.length, some (E.length + 1), some (E.length + 2), some (E.length + 3), some (E.length + 4), some (E.length + 5), some (E.length + 6), some (E.length + 7), some (E.length + 8), some (E.length + 9), some (E.length + 10), none]) ++ [(.inr (.int, 8), []), (.inr (.int, 8), []), (.inr (.int, 8), []), (.inr (.int, 8), []), (.inr (.int, 8), []), (.inr (.boolean, 8), []), (.inr (.int, 8), []), (.inr (.int, 8), []), (.inr (.int, 8), []), (.inr (.int, 8), []), (.inr (.int, 8), [])] ∧ x_nw E.length 11 (E, J, X) S') := by
  have ht : th < E.length := (List.getElem?_eq_some_iff.mp hE).1
  refine z_sem_of z_m78 m_ok_78 (Nat.le_of_ble_eq_true rfl) (fun Wp hs hv hS => ?_)
  refine w_78i_0 hs ?_
  refine w_78i_4 hE hs ⟨⟨by omega, by omega, by omega⟩, ?_⟩
  refine z_wpS (Wp := Wp) (E' := E.set th (.inl 7, [some E.length, none, none, none, none, none, none, none, none, none, none, none]) ++ [(.inr (.int, 8), [])]) (J' := (z_row J E.length (fun _ => 0))) (X' := ((z_row X.1 E.length (fun _ => 0)), (m_rowX X.2 E.length (fun _ => 0)))) ?_ ?_ ?_ ?_
  · rw [z_apU ht]; rfl
  · rfl
  · rfl
  refine w_78i_12 (z_apG ht) hs ⟨⟨by simp only [List.length_append, List.length_set, List.length_cons, List.length_nil]; omega, by omega, by omega⟩, ?_⟩
  refine z_wpS (Wp := Wp) (E' := E.set th (.inl 7, [some E.length, some (E.length + 1), none, none, none, none, none, none, none, none, none, none]) ++ [(.inr (.int, 8), []), (.inr (.int, 8), [])]) (J' := (z_row (z_row J E.length (fun _ => 0)) (E.length + 1) (fun _ => 0))) (X' := ((z_row (z_row X.1 E.length (fun _ => 0)) (E.length + 1) (fun _ => 0)), (m_rowX (m_rowX X.2 E.length (fun _ => 0)) (E.length + 1) (fun _ => 0)))) ?_ ?_ ?_ ?_
  · rw [z_apV ht]; simp only [List.length_append, List.length_set, List.length_cons, List.length_nil]; rfl
  · simp only [List.length_append, List.length_set, List.length_cons, List.length_nil]
  · simp only [List.length_append, List.length_set, List.length_cons, List.length_nil]
  refine w_78i_20 (z_apG ht) hs ⟨⟨by simp only [List.length_append, List.length_set, List.length_cons, List.length_nil]; omega, by omega, by omega⟩, ?_⟩
  refine z_wpS (Wp := Wp) (E' := E.set th (.inl 7, [some E.length, some (E.length + 1), some (E.length + 2), none, none, none, none, none, none, none, none, none]) ++ [(.inr (.int, 8), []), (.inr (.int, 8), []), (.inr (.int, 8), [])]) (J' := (z_row (z_row (z_row J E.length (fun _ => 0)) (E.length + 1) (fun _ => 0)) (E.length + 2) (fun _ => 0))) (X' := ((z_row (z_row (z_row X.1 E.length (fun _ => 0)) (E.length + 1) (fun _ => 0)) (E.length + 2) (fun _ => 0)), (m_rowX (m_rowX (m_rowX X.2 E.length (fun _ => 0)) (E.length + 1) (fun _ => 0)) (E.length + 2) (fun _ => 0)))) ?_ ?_ ?_ ?_
  · rw [z_apV ht]; simp only [List.length_append, List.length_set, List.length_cons, List.length_nil]; rfl
  · simp only [List.length_append, List.length_set, List.length_cons, List.length_nil]
  · simp only [List.length_append, List.length_set, List.length_cons, List.length_nil]
  refine w_78i_28 (z_apG ht) hs ⟨⟨by simp only [List.length_append, List.length_set, List.length_cons, List.length_nil]; omega, by omega, by omega⟩, ?_⟩
  refine z_wpS (Wp := Wp) (E' := E.set th (.inl 7, [some E.length, some (E.length + 1), some (E.length + 2), some (E.length + 3), none, none, none, none, none, none, none, none]) ++ [(.inr (.int, 8), []), (.inr (.int, 8), []), (.inr (.int, 8), []), (.inr (.int, 8), [])]) (J' := (z_row (z_row (z_row (z_row J E.length (fun _ => 0)) (E.length + 1) (fun _ => 0)) (E.length + 2) (fun _ => 0)) (E.length + 3) (fun _ => 0))) (X' := ((z_row (z_row (z_row (z_row X.1 E.length (fun _ => 0)) (E.length + 1) (fun _ => 0)) (E.length + 2) (fun _ => 0)) (E.length + 3) (fun _ => 0)), (m_rowX (m_rowX (m_rowX (m_rowX X.2 E.length (fun _ => 0)) (E.length + 1) (fun _ => 0)) (E.length + 2) (fun _ => 0)) (E.length + 3) (fun _ => 0)))) ?_ ?_ ?_ ?_
  · rw [z_apV ht]; simp only [List.length_append, List.length_set, List.length_cons, List.length_nil]; rfl
  · simp only [List.length_append, List.length_set, List.length_cons, List.length_nil]
  · simp only [List.length_append, List.length_set, List.length_cons, List.length_nil]
  refine w_78i_36 (z_apG ht) hs ⟨⟨by simp only [List.length_append, List.length_set, List.length_cons, List.length_nil]; omega, by omega, by omega⟩, ?_⟩
  refine z_wpS (Wp := Wp) (E' := E.set th (.inl 7, [some E.length, some (E.length + 1), some (E.length + 2), some (E.length + 3), some (E.length + 4), none, none, none, none, none, none, none]) ++ [(.inr (.int, 8), []), (.inr (.int, 8), []), (.inr (.int, 8), []), (.inr (.int, 8), []), (.inr (.int, 8), [])]) (J' := (z_row (z_row (z_row (z_row (z_row J E.length (fun _ => 0)) (E.length + 1) (fun _ => 0)) (E.length + 2) (fun _ => 0)) (E.length + 3) (fun _ => 0)) (E.length + 4) (fun _ => 0))) (X' := ((z_row (z_row (z_row (z_row (z_row X.1 E.length (fun _ => 0)) (E.length + 1) (fun _ => 0)) (E.length + 2) (fun _ => 0)) (E.length + 3) (fun _ => 0)) (E.length + 4) (fun _ => 0)), (m_rowX (m_rowX (m_rowX (m_rowX (m_rowX X.2 E.length (fun _ => 0)) (E.length + 1) (fun _ => 0)) (E.length + 2) (fun _ => 0)) (E.length + 3) (fun _ => 0)) (E.length + 4) (fun _ => 0)))) ?_ ?_ ?_ ?_
  · rw [z_apV ht]; simp only [List.length_append, List.length_set, List.length_cons, List.length_nil]; rfl
  · simp only [List.length_append, List.length_set, List.length_cons, List.length_nil]
  · simp only [List.length_append, List.length_set, List.length_cons, List.length_nil]
  refine w_78i_44 (z_apG ht) hs ⟨⟨by simp only [List.length_append, List.length_set, List.length_cons, List.length_nil]; omega, by omega, by omega⟩, ?_⟩
  refine z_wpS (Wp := Wp) (E' := E.set th (.inl 7, [some E.length, some (E.length + 1), some (E.length + 2), some (E.length + 3), some (E.length + 4), some (E.length + 5), none, none, none, none, none, none]) ++ [(.inr (.int, 8), []), (.inr (.int, 8), []), (.inr (.int, 8), []), (.inr (.int, 8), []), (.inr (.int, 8), []), (.inr (.boolean, 8), [])]) (J' := (z_row (z_row (z_row (z_row (z_row (z_row J E.length (fun _ => 0)) (E.length + 1) (fun _ => 0)) (E.length + 2) (fun _ => 0)) (E.length + 3) (fun _ => 0)) (E.length + 4) (fun _ => 0)) (E.length + 5) (fun _ => 0))) (X' := ((z_row (z_row (z_row (z_row (z_row (z_row X.1 E.length (fun _ => 0)) (E.length + 1) (fun _ => 0)) (E.length + 2) (fun _ => 0)) (E.length + 3) (fun _ => 0)) (E.length + 4) (fun _ => 0)) (E.length + 5) (fun _ => 0)), (m_rowX (m_rowX (m_rowX (m_rowX (m_rowX (m_rowX X.2 E.length (fun _ => 0)) (E.length + 1) (fun _ => 0)) (E.length + 2) (fun _ => 0)) (E.length + 3) (fun _ => 0)) (E.length + 4) (fun _ => 0)) (E.length + 5) (fun _ => 0)))) ?_ ?_ ?_ ?_
  · rw [z_apV ht]; simp only [List.length_append, List.length_set, List.length_cons, List.length_nil]; rfl
  · simp only [List.length_append, List.length_set, List.length_cons, List.length_nil]
  · simp only [List.length_append, List.length_set, List.length_cons, List.length_nil]
  refine w_78i_52 (z_apG ht) hs ⟨⟨by simp only [List.length_append, List.length_set, List.length_cons, List.length_nil]; omega, by omega, by omega⟩, ?_⟩
  refine z_wpS (Wp := Wp) (E' := E.set th (.inl 7, [some E.length, some (E.length + 1), some (E.length + 2), some (E.length + 3), some (E.length + 4), some (E.length + 5), some (E.length + 6), none, none, none, none, none]) ++ [(.inr (.int, 8), []), (.inr (.int, 8), []), (.inr (.int, 8), []), (.inr (.int, 8), []), (.inr (.int, 8), []), (.inr (.boolean, 8), []), (.inr (.int, 8), [])]) (J' := (z_row (z_row (z_row (z_row (z_row (z_row (z_row J E.length (fun _ => 0)) (E.length + 1) (fun _ => 0)) (E.length + 2) (fun _ => 0)) (E.length + 3) (fun _ => 0)) (E.length + 4) (fun _ => 0)) (E.length + 5) (fun _ => 0)) (E.length + 6) (fun _ => 0))) (X' := ((z_row (z_row (z_row (z_row (z_row (z_row (z_row X.1 E.length (fun _ => 0)) (E.length + 1) (fun _ => 0)) (E.length + 2) (fun _ => 0)) (E.length + 3) (fun _ => 0)) (E.length + 4) (fun _ => 0)) (E.length + 5) (fun _ => 0)) (E.length + 6) (fun _ => 0)), (m_rowX (m_rowX (m_rowX (m_rowX (m_rowX (m_rowX (m_rowX X.2 E.length (fun _ => 0)) (E.length + 1) (fun _ => 0)) (E.length + 2) (fun _ => 0)) (E.length + 3) (fun _ => 0)) (E.length + 4) (fun _ => 0)) (E.length + 5) (fun _ => 0)) (E.length + 6) (fun _ => 0)))) ?_ ?_ ?_ ?_
  · rw [z_apV ht]; simp only [List.length_append, List.length_set, List.length_cons, List.length_nil]; rfl
  · simp only [List.length_append, List.length_set, List.length_cons, List.length_nil]
  · simp only [List.length_append, List.length_set, List.length_cons, List.length_nil]
  refine w_78i_60 (z_apG ht) hs ⟨⟨by simp only [List.length_append, List.length_set, List.length_cons, List.length_nil]; omega, by omega, by omega⟩, ?_⟩
  refine z_wpS (Wp := Wp) (E' := E.set th (.inl 7, [some E.length, some (E.length + 1), some (E.length + 2), some (E.length + 3), some (E.length + 4), some (E.length + 5), some (E.length + 6), some (E.length + 7), none, none, none, none]) ++ [(.inr (.int, 8), []), (.inr (.int, 8), []), (.inr (.int, 8), []), (.inr (.int, 8), []), (.inr (.int, 8), []), (.inr (.boolean, 8), []), (.inr (.int, 8), []), (.inr (.int, 8), [])]) (J' := (z_row (z_row (z_row (z_row (z_row (z_row (z_row (z_row J E.length (fun _ => 0)) (E.length + 1) (fun _ => 0)) (E.length + 2) (fun _ => 0)) (E.length + 3) (fun _ => 0)) (E.length + 4) (fun _ => 0)) (E.length + 5) (fun _ => 0)) (E.length + 6) (fun _ => 0)) (E.length + 7) (fun _ => 0))) (X' := ((z_row (z_row (z_row (z_row (z_row (z_row (z_row (z_row X.1 E.length (fun _ => 0)) (E.length + 1) (fun _ => 0)) (E.length + 2) (fun _ => 0)) (E.length + 3) (fun _ => 0)) (E.length + 4) (fun _ => 0)) (E.length + 5) (fun _ => 0)) (E.length + 6) (fun _ => 0)) (E.length + 7) (fun _ => 0)), (m_rowX (m_rowX (m_rowX (m_rowX (m_rowX (m_rowX (m_rowX (m_rowX X.2 E.length (fun _ => 0)) (E.length + 1) (fun _ => 0)) (E.length + 2) (fun _ => 0)) (E.length + 3) (fun _ => 0)) (E.length + 4) (fun _ => 0)) (E.length + 5) (fun _ => 0)) (E.length + 6) (fun _ => 0)) (E.length + 7) (fun _ => 0)))) ?_ ?_ ?_ ?_
  · rw [z_apV ht]; simp only [List.length_append, List.length_set, List.length_cons, List.length_nil]; rfl
  · simp only [List.length_append, List.length_set, List.length_cons, List.length_nil]
  · simp only [List.length_append, List.length_set, List.length_cons, List.length_nil]
  refine w_78i_68 (z_apG ht) hs ⟨⟨by simp only [List.length_append, List.length_set, List.length_cons, List.length_nil]; omega, by omega, by omega⟩, ?_⟩
  refine z_wpS (Wp := Wp) (E' := E.set th (.inl 7, [some E.length, some (E.length + 1), some (E.length + 2), some (E.length + 3), some (E.length + 4), some (E.length + 5), some (E.length + 6), some (E.length + 7), some (E.length + 8), none, none, none]) ++ [(.inr (.int, 8), []), (.inr (.int, 8), []), (.inr (.int, 8), []), (.inr (.int, 8), []), (.inr (.int, 8), []), (.inr (.boolean, 8), []), (.inr (.int, 8), []), (.inr (.int, 8), []), (.inr (.int, 8), [])]) (J' := (z_row (z_row (z_row (z_row (z_row (z_row (z_row (z_row (z_row J E.length (fun _ => 0)) (E.length + 1) (fun _ => 0)) (E.length + 2) (fun _ => 0)) (E.length + 3) (fun _ => 0)) (E.length + 4) (fun _ => 0)) (E.length + 5) (fun _ => 0)) (E.length + 6) (fun _ => 0)) (E.length + 7) (fun _ => 0)) (E.length + 8) (fun _ => 0))) (X' := ((z_row (z_row (z_row (z_row (z_row (z_row (z_row (z_row (z_row X.1 E.length (fun _ => 0)) (E.length + 1) (fun _ => 0)) (E.length + 2) (fun _ => 0)) (E.length + 3) (fun _ => 0)) (E.length + 4) (fun _ => 0)) (E.length + 5) (fun _ => 0)) (E.length + 6) (fun _ => 0)) (E.length + 7) (fun _ => 0)) (E.length + 8) (fun _ => 0)), (m_rowX (m_rowX (m_rowX (m_rowX (m_rowX (m_rowX (m_rowX (m_rowX (m_rowX X.2 E.length (fun _ => 0)) (E.length + 1) (fun _ => 0)) (E.length + 2) (fun _ => 0)) (E.length + 3) (fun _ => 0)) (E.length + 4) (fun _ => 0)) (E.length + 5) (fun _ => 0)) (E.length + 6) (fun _ => 0)) (E.length + 7) (fun _ => 0)) (E.length + 8) (fun _ => 0)))) ?_ ?_ ?_ ?_
  · rw [z_apV ht]; simp only [List.length_append, List.length_set, List.length_cons, List.length_nil]; rfl
  · simp only [List.length_append, List.length_set, List.length_cons, List.length_nil]
  · simp only [List.length_append, List.length_set, List.length_cons, List.length_nil]
  refine w_78i_76 (z_apG ht) hs ⟨⟨by simp only [List.length_append, List.length_set, List.length_cons, List.length_nil]; omega, by omega, by omega⟩, ?_⟩
  refine z_wpS (Wp := Wp) (E' := E.set th (.inl 7, [some E.length, some (E.length + 1), some (E.length + 2), some (E.length + 3), some (E.length + 4), some (E.length + 5), some (E.length + 6), some (E.length + 7), some (E.length + 8), some (E.length + 9), none, none]) ++ [(.inr (.int, 8), []), (.inr (.int, 8), []), (.inr (.int, 8), []), (.inr (.int, 8), []), (.inr (.int, 8), []), (.inr (.boolean, 8), []), (.inr (.int, 8), []), (.inr (.int, 8), []), (.inr (.int, 8), []), (.inr (.int, 8), [])]) (J' := (z_row (z_row (z_row (z_row (z_row (z_row (z_row (z_row (z_row (z_row J E.length (fun _ => 0)) (E.length + 1) (fun _ => 0)) (E.length + 2) (fun _ => 0)) (E.length + 3) (fun _ => 0)) (E.length + 4) (fun _ => 0)) (E.length + 5) (fun _ => 0)) (E.length + 6) (fun _ => 0)) (E.length + 7) (fun _ => 0)) (E.length + 8) (fun _ => 0)) (E.length + 9) (fun _ => 0))) (X' := ((z_row (z_row (z_row (z_row (z_row (z_row (z_row (z_row (z_row (z_row X.1 E.length (fun _ => 0)) (E.length + 1) (fun _ => 0)) (E.length + 2) (fun _ => 0)) (E.length + 3) (fun _ => 0)) (E.length + 4) (fun _ => 0)) (E.length + 5) (fun _ => 0)) (E.length + 6) (fun _ => 0)) (E.length + 7) (fun _ => 0)) (E.length + 8) (fun _ => 0)) (E.length + 9) (fun _ => 0)), (m_rowX (m_rowX (m_rowX (m_rowX (m_rowX (m_rowX (m_rowX (m_rowX (m_rowX (m_rowX X.2 E.length (fun _ => 0)) (E.length + 1) (fun _ => 0)) (E.length + 2) (fun _ => 0)) (E.length + 3) (fun _ => 0)) (E.length + 4) (fun _ => 0)) (E.length + 5) (fun _ => 0)) (E.length + 6) (fun _ => 0)) (E.length + 7) (fun _ => 0)) (E.length + 8) (fun _ => 0)) (E.length + 9) (fun _ => 0)))) ?_ ?_ ?_ ?_
  · rw [z_apV ht]; simp only [List.length_append, List.length_set, List.length_cons, List.length_nil]; rfl
  · simp only [List.length_append, List.length_set, List.length_cons, List.length_nil]
  · simp only [List.length_append, List.length_set, List.length_cons, List.length_nil]
  refine w_78i_84 (z_apG ht) hs ⟨⟨by simp only [List.length_append, List.length_set, List.length_cons, List.length_nil]; omega, by omega, by omega⟩, ?_⟩
  refine z_wpS (Wp := Wp) (E' := E.set th (.inl 7, [some E.length, some (E.length + 1), some (E.length + 2), some (E.length + 3), some (E.length + 4), some (E.length + 5), some (E.length + 6), some (E.length + 7), some (E.length + 8), some (E.length + 9), some (E.length + 10), none]) ++ [(.inr (.int, 8), []), (.inr (.int, 8), []), (.inr (.int, 8), []), (.inr (.int, 8), []), (.inr (.int, 8), []), (.inr (.boolean, 8), []), (.inr (.int, 8), []), (.inr (.int, 8), []), (.inr (.int, 8), []), (.inr (.int, 8), []), (.inr (.int, 8), [])]) (J' := (z_row (z_row (z_row (z_row (z_row (z_row (z_row (z_row (z_row (z_row (z_row J E.length (fun _ => 0)) (E.length + 1) (fun _ => 0)) (E.length + 2) (fun _ => 0)) (E.length + 3) (fun _ => 0)) (E.length + 4) (fun _ => 0)) (E.length + 5) (fun _ => 0)) (E.length + 6) (fun _ => 0)) (E.length + 7) (fun _ => 0)) (E.length + 8) (fun _ => 0)) (E.length + 9) (fun _ => 0)) (E.length + 10) (fun _ => 0))) (X' := ((z_row (z_row (z_row (z_row (z_row (z_row (z_row (z_row (z_row (z_row (z_row X.1 E.length (fun _ => 0)) (E.length + 1) (fun _ => 0)) (E.length + 2) (fun _ => 0)) (E.length + 3) (fun _ => 0)) (E.length + 4) (fun _ => 0)) (E.length + 5) (fun _ => 0)) (E.length + 6) (fun _ => 0)) (E.length + 7) (fun _ => 0)) (E.length + 8) (fun _ => 0)) (E.length + 9) (fun _ => 0)) (E.length + 10) (fun _ => 0)), (m_rowX (m_rowX (m_rowX (m_rowX (m_rowX (m_rowX (m_rowX (m_rowX (m_rowX (m_rowX (m_rowX X.2 E.length (fun _ => 0)) (E.length + 1) (fun _ => 0)) (E.length + 2) (fun _ => 0)) (E.length + 3) (fun _ => 0)) (E.length + 4) (fun _ => 0)) (E.length + 5) (fun _ => 0)) (E.length + 6) (fun _ => 0)) (E.length + 7) (fun _ => 0)) (E.length + 8) (fun _ => 0)) (E.length + 9) (fun _ => 0)) (E.length + 10) (fun _ => 0)))) ?_ ?_ ?_ ?_
  · rw [z_apV ht]; simp only [List.length_append, List.length_set, List.length_cons, List.length_nil]; rfl
  · simp only [List.length_append, List.length_set, List.length_cons, List.length_nil]
  · simp only [List.length_append, List.length_set, List.length_cons, List.length_nil]
  refine w_78i_92 hs ⟨rfl, rfl, ?_, ?_⟩
  · intro a ha
    exact ⟨by show (z_row (z_row (z_row (z_row (z_row (z_row (z_row (z_row (z_row (z_row (z_row J E.length (fun _ => 0)) (E.length + 1) (fun _ => 0)) (E.length + 2) (fun _ => 0)) (E.length + 3) (fun _ => 0)) (E.length + 4) (fun _ => 0)) (E.length + 5) (fun _ => 0)) (E.length + 6) (fun _ => 0)) (E.length + 7) (fun _ => 0)) (E.length + 8) (fun _ => 0)) (E.length + 9) (fun _ => 0)) (E.length + 10) (fun _ => 0)) a = J a; rw [z_row_ne (by omega), z_row_ne (by omega), z_row_ne (by omega), z_row_ne (by omega), z_row_ne (by omega), z_row_ne (by omega), z_row_ne (by omega), z_row_ne (by omega), z_row_ne (by omega), z_row_ne (by omega), z_row_ne (by omega)], by show (z_row (z_row (z_row (z_row (z_row (z_row (z_row (z_row (z_row (z_row (z_row X.1 E.length (fun _ => 0)) (E.length + 1) (fun _ => 0)) (E.length + 2) (fun _ => 0)) (E.length + 3) (fun _ => 0)) (E.length + 4) (fun _ => 0)) (E.length + 5) (fun _ => 0)) (E.length + 6) (fun _ => 0)) (E.length + 7) (fun _ => 0)) (E.length + 8) (fun _ => 0)) (E.length + 9) (fun _ => 0)) (E.length + 10) (fun _ => 0)) a = X.1 a; rw [z_row_ne (by omega), z_row_ne (by omega), z_row_ne (by omega), z_row_ne (by omega), z_row_ne (by omega), z_row_ne (by omega), z_row_ne (by omega), z_row_ne (by omega), z_row_ne (by omega), z_row_ne (by omega), z_row_ne (by omega)], by show (m_rowX (m_rowX (m_rowX (m_rowX (m_rowX (m_rowX (m_rowX (m_rowX (m_rowX (m_rowX (m_rowX X.2 E.length (fun _ => 0)) (E.length + 1) (fun _ => 0)) (E.length + 2) (fun _ => 0)) (E.length + 3) (fun _ => 0)) (E.length + 4) (fun _ => 0)) (E.length + 5) (fun _ => 0)) (E.length + 6) (fun _ => 0)) (E.length + 7) (fun _ => 0)) (E.length + 8) (fun _ => 0)) (E.length + 9) (fun _ => 0)) (E.length + 10) (fun _ => 0)) a = X.2 a; unfold m_rowX; rw [if_neg (by omega), if_neg (by omega), if_neg (by omega), if_neg (by omega), if_neg (by omega), if_neg (by omega), if_neg (by omega), if_neg (by omega), if_neg (by omega), if_neg (by omega), if_neg (by omega)]⟩
  · intro a h1 h2
    show (z_row (z_row (z_row (z_row (z_row (z_row (z_row (z_row (z_row (z_row (z_row J E.length (fun _ => 0)) (E.length + 1) (fun _ => 0)) (E.length + 2) (fun _ => 0)) (E.length + 3) (fun _ => 0)) (E.length + 4) (fun _ => 0)) (E.length + 5) (fun _ => 0)) (E.length + 6) (fun _ => 0)) (E.length + 7) (fun _ => 0)) (E.length + 8) (fun _ => 0)) (E.length + 9) (fun _ => 0)) (E.length + 10) (fun _ => 0)) a = _
    by_cases e10 : a = E.length + 10
    · rw [e10, z_row_eq]
    · rw [z_row_ne e10]
      by_cases e9 : a = E.length + 9
      · rw [e9, z_row_eq]
      · rw [z_row_ne e9]
        by_cases e8 : a = E.length + 8
        · rw [e8, z_row_eq]
        · rw [z_row_ne e8]
          by_cases e7 : a = E.length + 7
          · rw [e7, z_row_eq]
          · rw [z_row_ne e7]
            by_cases e6 : a = E.length + 6
            · rw [e6, z_row_eq]
            · rw [z_row_ne e6]
              by_cases e5 : a = E.length + 5
              · rw [e5, z_row_eq]
              · rw [z_row_ne e5]
                by_cases e4 : a = E.length + 4
                · rw [e4, z_row_eq]
                · rw [z_row_ne e4]
                  by_cases e3 : a = E.length + 3
                  · rw [e3, z_row_eq]
                  · rw [z_row_ne e3]
                    by_cases e2 : a = E.length + 2
                    · rw [e2, z_row_eq]
                    · rw [z_row_ne e2]
                      by_cases e1 : a = E.length + 1
                      · rw [e1, z_row_eq]
                      · rw [z_row_ne e1]
                        rw [show a = E.length by omega, z_row_eq]
theorem e_initGuests (hE : E[th]? = some (.inl 2, [none, none, none, none, none, none, none, none, none])) (hl : E.length + 7 < 1000) (hb : 7 ≤ bc) (hb2 : 166 ≤ bs) : z_Sem l (d + 1) M_Guests_init [.inr (.inr (.ref th))] (E, J, X) bc bs (fun o S' => o = .inl none ∧ S'.1 = E.set th (.inl 2, [some E.length, some (E.length + 1), some (E.length + 2), some (E.length + 3), none, some (E.length + 4), some (E.length + 5), some (E.length + 6), none]) ++ [(.inr (.int, 4), []), (.inr (.int, 4), []), (.inr (.int, 4), []), (.inr (.int, 4), []), (.inr (.int, 50), []), (.inr (.int, 50), []), (.inr (.int, 50), [])] ∧ x_nw E.length 7 (E, J, X) S') := by
  have ht : th < E.length := (List.getElem?_eq_some_iff.mp hE).1
  refine z_sem_of z_m36 m_ok_36 (Nat.le_of_ble_eq_true rfl) (fun Wp hs hv hS => ?_)
  refine w_36i_0 hs ?_
  refine w_36i_4 hE hs ⟨⟨by omega, by omega, by omega⟩, ?_⟩
  refine z_wpS (Wp := Wp) (E' := E.set th (.inl 2, [some E.length, none, none, none, none, none, none, none, none]) ++ [(.inr (.int, 4), [])]) (J' := (z_row J E.length (fun _ => 0))) (X' := ((z_row X.1 E.length (fun _ => 0)), (m_rowX X.2 E.length (fun _ => 0)))) ?_ ?_ ?_ ?_
  · rw [z_apU ht]; rfl
  · rfl
  · rfl
  refine w_36i_11 (z_apG ht) hs ⟨⟨by simp only [List.length_append, List.length_set, List.length_cons, List.length_nil]; omega, by omega, by omega⟩, ?_⟩
  refine z_wpS (Wp := Wp) (E' := E.set th (.inl 2, [some E.length, some (E.length + 1), none, none, none, none, none, none, none]) ++ [(.inr (.int, 4), []), (.inr (.int, 4), [])]) (J' := (z_row (z_row J E.length (fun _ => 0)) (E.length + 1) (fun _ => 0))) (X' := ((z_row (z_row X.1 E.length (fun _ => 0)) (E.length + 1) (fun _ => 0)), (m_rowX (m_rowX X.2 E.length (fun _ => 0)) (E.length + 1) (fun _ => 0)))) ?_ ?_ ?_ ?_
  · rw [z_apV ht]; simp only [List.length_append, List.length_set, List.length_cons, List.length_nil]; rfl
  · simp only [List.length_append, List.length_set, List.length_cons, List.length_nil]
  · simp only [List.length_append, List.length_set, List.length_cons, List.length_nil]
  refine w_36i_18 (z_apG ht) hs ⟨⟨by simp only [List.length_append, List.length_set, List.length_cons, List.length_nil]; omega, by omega, by omega⟩, ?_⟩
  refine z_wpS (Wp := Wp) (E' := E.set th (.inl 2, [some E.length, some (E.length + 1), some (E.length + 2), none, none, none, none, none, none]) ++ [(.inr (.int, 4), []), (.inr (.int, 4), []), (.inr (.int, 4), [])]) (J' := (z_row (z_row (z_row J E.length (fun _ => 0)) (E.length + 1) (fun _ => 0)) (E.length + 2) (fun _ => 0))) (X' := ((z_row (z_row (z_row X.1 E.length (fun _ => 0)) (E.length + 1) (fun _ => 0)) (E.length + 2) (fun _ => 0)), (m_rowX (m_rowX (m_rowX X.2 E.length (fun _ => 0)) (E.length + 1) (fun _ => 0)) (E.length + 2) (fun _ => 0)))) ?_ ?_ ?_ ?_
  · rw [z_apV ht]; simp only [List.length_append, List.length_set, List.length_cons, List.length_nil]; rfl
  · simp only [List.length_append, List.length_set, List.length_cons, List.length_nil]
  · simp only [List.length_append, List.length_set, List.length_cons, List.length_nil]
  refine w_36i_25 (z_apG ht) hs ⟨⟨by simp only [List.length_append, List.length_set, List.length_cons, List.length_nil]; omega, by omega, by omega⟩, ?_⟩
  refine z_wpS (Wp := Wp) (E' := E.set th (.inl 2, [some E.length, some (E.length + 1), some (E.length + 2), some (E.length + 3), none, none, none, none, none]) ++ [(.inr (.int, 4), []), (.inr (.int, 4), []), (.inr (.int, 4), []), (.inr (.int, 4), [])]) (J' := (z_row (z_row (z_row (z_row J E.length (fun _ => 0)) (E.length + 1) (fun _ => 0)) (E.length + 2) (fun _ => 0)) (E.length + 3) (fun _ => 0))) (X' := ((z_row (z_row (z_row (z_row X.1 E.length (fun _ => 0)) (E.length + 1) (fun _ => 0)) (E.length + 2) (fun _ => 0)) (E.length + 3) (fun _ => 0)), (m_rowX (m_rowX (m_rowX (m_rowX X.2 E.length (fun _ => 0)) (E.length + 1) (fun _ => 0)) (E.length + 2) (fun _ => 0)) (E.length + 3) (fun _ => 0)))) ?_ ?_ ?_ ?_
  · rw [z_apV ht]; simp only [List.length_append, List.length_set, List.length_cons, List.length_nil]; rfl
  · simp only [List.length_append, List.length_set, List.length_cons, List.length_nil]
  · simp only [List.length_append, List.length_set, List.length_cons, List.length_nil]
  refine w_36i_32 (z_apG ht) hs ⟨⟨by simp only [List.length_append, List.length_set, List.length_cons, List.length_nil]; omega, by omega, by omega⟩, ?_⟩
  refine z_wpS (Wp := Wp) (E' := E.set th (.inl 2, [some E.length, some (E.length + 1), some (E.length + 2), some (E.length + 3), none, some (E.length + 4), none, none, none]) ++ [(.inr (.int, 4), []), (.inr (.int, 4), []), (.inr (.int, 4), []), (.inr (.int, 4), []), (.inr (.int, 50), [])]) (J' := (z_row (z_row (z_row (z_row (z_row J E.length (fun _ => 0)) (E.length + 1) (fun _ => 0)) (E.length + 2) (fun _ => 0)) (E.length + 3) (fun _ => 0)) (E.length + 4) (fun _ => 0))) (X' := ((z_row (z_row (z_row (z_row (z_row X.1 E.length (fun _ => 0)) (E.length + 1) (fun _ => 0)) (E.length + 2) (fun _ => 0)) (E.length + 3) (fun _ => 0)) (E.length + 4) (fun _ => 0)), (m_rowX (m_rowX (m_rowX (m_rowX (m_rowX X.2 E.length (fun _ => 0)) (E.length + 1) (fun _ => 0)) (E.length + 2) (fun _ => 0)) (E.length + 3) (fun _ => 0)) (E.length + 4) (fun _ => 0)))) ?_ ?_ ?_ ?_
  · rw [z_apV ht]; simp only [List.length_append, List.length_set, List.length_cons, List.length_nil]; rfl
  · simp only [List.length_append, List.length_set, List.length_cons, List.length_nil]
  · simp only [List.length_append, List.length_set, List.length_cons, List.length_nil]
  refine w_36i_40 (z_apG ht) hs ⟨⟨by simp only [List.length_append, List.length_set, List.length_cons, List.length_nil]; omega, by omega, by omega⟩, ?_⟩
  refine z_wpS (Wp := Wp) (E' := E.set th (.inl 2, [some E.length, some (E.length + 1), some (E.length + 2), some (E.length + 3), none, some (E.length + 4), some (E.length + 5), none, none]) ++ [(.inr (.int, 4), []), (.inr (.int, 4), []), (.inr (.int, 4), []), (.inr (.int, 4), []), (.inr (.int, 50), []), (.inr (.int, 50), [])]) (J' := (z_row (z_row (z_row (z_row (z_row (z_row J E.length (fun _ => 0)) (E.length + 1) (fun _ => 0)) (E.length + 2) (fun _ => 0)) (E.length + 3) (fun _ => 0)) (E.length + 4) (fun _ => 0)) (E.length + 5) (fun _ => 0))) (X' := ((z_row (z_row (z_row (z_row (z_row (z_row X.1 E.length (fun _ => 0)) (E.length + 1) (fun _ => 0)) (E.length + 2) (fun _ => 0)) (E.length + 3) (fun _ => 0)) (E.length + 4) (fun _ => 0)) (E.length + 5) (fun _ => 0)), (m_rowX (m_rowX (m_rowX (m_rowX (m_rowX (m_rowX X.2 E.length (fun _ => 0)) (E.length + 1) (fun _ => 0)) (E.length + 2) (fun _ => 0)) (E.length + 3) (fun _ => 0)) (E.length + 4) (fun _ => 0)) (E.length + 5) (fun _ => 0)))) ?_ ?_ ?_ ?_
  · rw [z_apV ht]; simp only [List.length_append, List.length_set, List.length_cons, List.length_nil]; rfl
  · simp only [List.length_append, List.length_set, List.length_cons, List.length_nil]
  · simp only [List.length_append, List.length_set, List.length_cons, List.length_nil]
  refine w_36i_48 (z_apG ht) hs ⟨⟨by simp only [List.length_append, List.length_set, List.length_cons, List.length_nil]; omega, by omega, by omega⟩, ?_⟩
  refine z_wpS (Wp := Wp) (E' := E.set th (.inl 2, [some E.length, some (E.length + 1), some (E.length + 2), some (E.length + 3), none, some (E.length + 4), some (E.length + 5), some (E.length + 6), none]) ++ [(.inr (.int, 4), []), (.inr (.int, 4), []), (.inr (.int, 4), []), (.inr (.int, 4), []), (.inr (.int, 50), []), (.inr (.int, 50), []), (.inr (.int, 50), [])]) (J' := (z_row (z_row (z_row (z_row (z_row (z_row (z_row J E.length (fun _ => 0)) (E.length + 1) (fun _ => 0)) (E.length + 2) (fun _ => 0)) (E.length + 3) (fun _ => 0)) (E.length + 4) (fun _ => 0)) (E.length + 5) (fun _ => 0)) (E.length + 6) (fun _ => 0))) (X' := ((z_row (z_row (z_row (z_row (z_row (z_row (z_row X.1 E.length (fun _ => 0)) (E.length + 1) (fun _ => 0)) (E.length + 2) (fun _ => 0)) (E.length + 3) (fun _ => 0)) (E.length + 4) (fun _ => 0)) (E.length + 5) (fun _ => 0)) (E.length + 6) (fun _ => 0)), (m_rowX (m_rowX (m_rowX (m_rowX (m_rowX (m_rowX (m_rowX X.2 E.length (fun _ => 0)) (E.length + 1) (fun _ => 0)) (E.length + 2) (fun _ => 0)) (E.length + 3) (fun _ => 0)) (E.length + 4) (fun _ => 0)) (E.length + 5) (fun _ => 0)) (E.length + 6) (fun _ => 0)))) ?_ ?_ ?_ ?_
  · rw [z_apV ht]; simp only [List.length_append, List.length_set, List.length_cons, List.length_nil]; rfl
  · simp only [List.length_append, List.length_set, List.length_cons, List.length_nil]
  · simp only [List.length_append, List.length_set, List.length_cons, List.length_nil]
  refine w_36i_56 hs ⟨rfl, rfl, ?_, ?_⟩
  · intro a ha
    exact ⟨by show (z_row (z_row (z_row (z_row (z_row (z_row (z_row J E.length (fun _ => 0)) (E.length + 1) (fun _ => 0)) (E.length + 2) (fun _ => 0)) (E.length + 3) (fun _ => 0)) (E.length + 4) (fun _ => 0)) (E.length + 5) (fun _ => 0)) (E.length + 6) (fun _ => 0)) a = J a; rw [z_row_ne (by omega), z_row_ne (by omega), z_row_ne (by omega), z_row_ne (by omega), z_row_ne (by omega), z_row_ne (by omega), z_row_ne (by omega)], by show (z_row (z_row (z_row (z_row (z_row (z_row (z_row X.1 E.length (fun _ => 0)) (E.length + 1) (fun _ => 0)) (E.length + 2) (fun _ => 0)) (E.length + 3) (fun _ => 0)) (E.length + 4) (fun _ => 0)) (E.length + 5) (fun _ => 0)) (E.length + 6) (fun _ => 0)) a = X.1 a; rw [z_row_ne (by omega), z_row_ne (by omega), z_row_ne (by omega), z_row_ne (by omega), z_row_ne (by omega), z_row_ne (by omega), z_row_ne (by omega)], by show (m_rowX (m_rowX (m_rowX (m_rowX (m_rowX (m_rowX (m_rowX X.2 E.length (fun _ => 0)) (E.length + 1) (fun _ => 0)) (E.length + 2) (fun _ => 0)) (E.length + 3) (fun _ => 0)) (E.length + 4) (fun _ => 0)) (E.length + 5) (fun _ => 0)) (E.length + 6) (fun _ => 0)) a = X.2 a; unfold m_rowX; rw [if_neg (by omega), if_neg (by omega), if_neg (by omega), if_neg (by omega), if_neg (by omega), if_neg (by omega), if_neg (by omega)]⟩
  · intro a h1 h2
    show (z_row (z_row (z_row (z_row (z_row (z_row (z_row J E.length (fun _ => 0)) (E.length + 1) (fun _ => 0)) (E.length + 2) (fun _ => 0)) (E.length + 3) (fun _ => 0)) (E.length + 4) (fun _ => 0)) (E.length + 5) (fun _ => 0)) (E.length + 6) (fun _ => 0)) a = _
    by_cases e6 : a = E.length + 6
    · rw [e6, z_row_eq]
    · rw [z_row_ne e6]
      by_cases e5 : a = E.length + 5
      · rw [e5, z_row_eq]
      · rw [z_row_ne e5]
        by_cases e4 : a = E.length + 4
        · rw [e4, z_row_eq]
        · rw [z_row_ne e4]
          by_cases e3 : a = E.length + 3
          · rw [e3, z_row_eq]
          · rw [z_row_ne e3]
            by_cases e2 : a = E.length + 2
            · rw [e2, z_row_eq]
            · rw [z_row_ne e2]
              by_cases e1 : a = E.length + 1
              · rw [e1, z_row_eq]
              · rw [z_row_ne e1]
                rw [show a = E.length by omega, z_row_eq]
theorem e_initTickets (hE : E[th]? = some (.inl 9, [none, none, none, none, none, none, none])) (hl : E.length + 6 < 1000) (hb : 6 ≤ bc) (hb2 : 900 ≤ bs) : z_Sem l (d + 1) M_Tickets_init [.inr (.inr (.ref th))] (E, J, X) bc bs (fun o S' => o = .inl none ∧ S'.1 = E.set th (.inl 9, [some E.length, some (E.length + 1), some (E.length + 2), some (E.length + 3), some (E.length + 4), some (E.length + 5), none]) ++ [(.inr (.int, 150), []), (.inr (.int, 150), []), (.inr (.int, 150), []), (.inr (.int, 150), []), (.inr (.int, 150), []), (.inr (.int, 150), [])] ∧ x_nw E.length 6 (E, J, X) S') := by
  have ht : th < E.length := (List.getElem?_eq_some_iff.mp hE).1
  refine z_sem_of z_m96 m_ok_96 (Nat.le_of_ble_eq_true rfl) (fun Wp hs hv hS => ?_)
  refine w_96i_0 hs ?_
  refine w_96i_4 hE hs ⟨⟨by omega, by omega, by omega⟩, ?_⟩
  refine z_wpS (Wp := Wp) (E' := E.set th (.inl 9, [some E.length, none, none, none, none, none, none]) ++ [(.inr (.int, 150), [])]) (J' := (z_row J E.length (fun _ => 0))) (X' := ((z_row X.1 E.length (fun _ => 0)), (m_rowX X.2 E.length (fun _ => 0)))) ?_ ?_ ?_ ?_
  · rw [z_apU ht]; rfl
  · rfl
  · rfl
  refine w_96i_13 (z_apG ht) hs ⟨⟨by simp only [List.length_append, List.length_set, List.length_cons, List.length_nil]; omega, by omega, by omega⟩, ?_⟩
  refine z_wpS (Wp := Wp) (E' := E.set th (.inl 9, [some E.length, some (E.length + 1), none, none, none, none, none]) ++ [(.inr (.int, 150), []), (.inr (.int, 150), [])]) (J' := (z_row (z_row J E.length (fun _ => 0)) (E.length + 1) (fun _ => 0))) (X' := ((z_row (z_row X.1 E.length (fun _ => 0)) (E.length + 1) (fun _ => 0)), (m_rowX (m_rowX X.2 E.length (fun _ => 0)) (E.length + 1) (fun _ => 0)))) ?_ ?_ ?_ ?_
  · rw [z_apV ht]; simp only [List.length_append, List.length_set, List.length_cons, List.length_nil]; rfl
  · simp only [List.length_append, List.length_set, List.length_cons, List.length_nil]
  · simp only [List.length_append, List.length_set, List.length_cons, List.length_nil]
  refine w_96i_22 (z_apG ht) hs ⟨⟨by simp only [List.length_append, List.length_set, List.length_cons, List.length_nil]; omega, by omega, by omega⟩, ?_⟩
  refine z_wpS (Wp := Wp) (E' := E.set th (.inl 9, [some E.length, some (E.length + 1), some (E.length + 2), none, none, none, none]) ++ [(.inr (.int, 150), []), (.inr (.int, 150), []), (.inr (.int, 150), [])]) (J' := (z_row (z_row (z_row J E.length (fun _ => 0)) (E.length + 1) (fun _ => 0)) (E.length + 2) (fun _ => 0))) (X' := ((z_row (z_row (z_row X.1 E.length (fun _ => 0)) (E.length + 1) (fun _ => 0)) (E.length + 2) (fun _ => 0)), (m_rowX (m_rowX (m_rowX X.2 E.length (fun _ => 0)) (E.length + 1) (fun _ => 0)) (E.length + 2) (fun _ => 0)))) ?_ ?_ ?_ ?_
  · rw [z_apV ht]; simp only [List.length_append, List.length_set, List.length_cons, List.length_nil]; rfl
  · simp only [List.length_append, List.length_set, List.length_cons, List.length_nil]
  · simp only [List.length_append, List.length_set, List.length_cons, List.length_nil]
  refine w_96i_31 (z_apG ht) hs ⟨⟨by simp only [List.length_append, List.length_set, List.length_cons, List.length_nil]; omega, by omega, by omega⟩, ?_⟩
  refine z_wpS (Wp := Wp) (E' := E.set th (.inl 9, [some E.length, some (E.length + 1), some (E.length + 2), some (E.length + 3), none, none, none]) ++ [(.inr (.int, 150), []), (.inr (.int, 150), []), (.inr (.int, 150), []), (.inr (.int, 150), [])]) (J' := (z_row (z_row (z_row (z_row J E.length (fun _ => 0)) (E.length + 1) (fun _ => 0)) (E.length + 2) (fun _ => 0)) (E.length + 3) (fun _ => 0))) (X' := ((z_row (z_row (z_row (z_row X.1 E.length (fun _ => 0)) (E.length + 1) (fun _ => 0)) (E.length + 2) (fun _ => 0)) (E.length + 3) (fun _ => 0)), (m_rowX (m_rowX (m_rowX (m_rowX X.2 E.length (fun _ => 0)) (E.length + 1) (fun _ => 0)) (E.length + 2) (fun _ => 0)) (E.length + 3) (fun _ => 0)))) ?_ ?_ ?_ ?_
  · rw [z_apV ht]; simp only [List.length_append, List.length_set, List.length_cons, List.length_nil]; rfl
  · simp only [List.length_append, List.length_set, List.length_cons, List.length_nil]
  · simp only [List.length_append, List.length_set, List.length_cons, List.length_nil]
  refine w_96i_40 (z_apG ht) hs ⟨⟨by simp only [List.length_append, List.length_set, List.length_cons, List.length_nil]; omega, by omega, by omega⟩, ?_⟩
  refine z_wpS (Wp := Wp) (E' := E.set th (.inl 9, [some E.length, some (E.length + 1), some (E.length + 2), some (E.length + 3), some (E.length + 4), none, none]) ++ [(.inr (.int, 150), []), (.inr (.int, 150), []), (.inr (.int, 150), []), (.inr (.int, 150), []), (.inr (.int, 150), [])]) (J' := (z_row (z_row (z_row (z_row (z_row J E.length (fun _ => 0)) (E.length + 1) (fun _ => 0)) (E.length + 2) (fun _ => 0)) (E.length + 3) (fun _ => 0)) (E.length + 4) (fun _ => 0))) (X' := ((z_row (z_row (z_row (z_row (z_row X.1 E.length (fun _ => 0)) (E.length + 1) (fun _ => 0)) (E.length + 2) (fun _ => 0)) (E.length + 3) (fun _ => 0)) (E.length + 4) (fun _ => 0)), (m_rowX (m_rowX (m_rowX (m_rowX (m_rowX X.2 E.length (fun _ => 0)) (E.length + 1) (fun _ => 0)) (E.length + 2) (fun _ => 0)) (E.length + 3) (fun _ => 0)) (E.length + 4) (fun _ => 0)))) ?_ ?_ ?_ ?_
  · rw [z_apV ht]; simp only [List.length_append, List.length_set, List.length_cons, List.length_nil]; rfl
  · simp only [List.length_append, List.length_set, List.length_cons, List.length_nil]
  · simp only [List.length_append, List.length_set, List.length_cons, List.length_nil]
  refine w_96i_49 (z_apG ht) hs ⟨⟨by simp only [List.length_append, List.length_set, List.length_cons, List.length_nil]; omega, by omega, by omega⟩, ?_⟩
  refine z_wpS (Wp := Wp) (E' := E.set th (.inl 9, [some E.length, some (E.length + 1), some (E.length + 2), some (E.length + 3), some (E.length + 4), some (E.length + 5), none]) ++ [(.inr (.int, 150), []), (.inr (.int, 150), []), (.inr (.int, 150), []), (.inr (.int, 150), []), (.inr (.int, 150), []), (.inr (.int, 150), [])]) (J' := (z_row (z_row (z_row (z_row (z_row (z_row J E.length (fun _ => 0)) (E.length + 1) (fun _ => 0)) (E.length + 2) (fun _ => 0)) (E.length + 3) (fun _ => 0)) (E.length + 4) (fun _ => 0)) (E.length + 5) (fun _ => 0))) (X' := ((z_row (z_row (z_row (z_row (z_row (z_row X.1 E.length (fun _ => 0)) (E.length + 1) (fun _ => 0)) (E.length + 2) (fun _ => 0)) (E.length + 3) (fun _ => 0)) (E.length + 4) (fun _ => 0)) (E.length + 5) (fun _ => 0)), (m_rowX (m_rowX (m_rowX (m_rowX (m_rowX (m_rowX X.2 E.length (fun _ => 0)) (E.length + 1) (fun _ => 0)) (E.length + 2) (fun _ => 0)) (E.length + 3) (fun _ => 0)) (E.length + 4) (fun _ => 0)) (E.length + 5) (fun _ => 0)))) ?_ ?_ ?_ ?_
  · rw [z_apV ht]; simp only [List.length_append, List.length_set, List.length_cons, List.length_nil]; rfl
  · simp only [List.length_append, List.length_set, List.length_cons, List.length_nil]
  · simp only [List.length_append, List.length_set, List.length_cons, List.length_nil]
  refine w_96i_58 hs ⟨rfl, rfl, ?_, ?_⟩
  · intro a ha
    exact ⟨by show (z_row (z_row (z_row (z_row (z_row (z_row J E.length (fun _ => 0)) (E.length + 1) (fun _ => 0)) (E.length + 2) (fun _ => 0)) (E.length + 3) (fun _ => 0)) (E.length + 4) (fun _ => 0)) (E.length + 5) (fun _ => 0)) a = J a; rw [z_row_ne (by omega), z_row_ne (by omega), z_row_ne (by omega), z_row_ne (by omega), z_row_ne (by omega), z_row_ne (by omega)], by show (z_row (z_row (z_row (z_row (z_row (z_row X.1 E.length (fun _ => 0)) (E.length + 1) (fun _ => 0)) (E.length + 2) (fun _ => 0)) (E.length + 3) (fun _ => 0)) (E.length + 4) (fun _ => 0)) (E.length + 5) (fun _ => 0)) a = X.1 a; rw [z_row_ne (by omega), z_row_ne (by omega), z_row_ne (by omega), z_row_ne (by omega), z_row_ne (by omega), z_row_ne (by omega)], by show (m_rowX (m_rowX (m_rowX (m_rowX (m_rowX (m_rowX X.2 E.length (fun _ => 0)) (E.length + 1) (fun _ => 0)) (E.length + 2) (fun _ => 0)) (E.length + 3) (fun _ => 0)) (E.length + 4) (fun _ => 0)) (E.length + 5) (fun _ => 0)) a = X.2 a; unfold m_rowX; rw [if_neg (by omega), if_neg (by omega), if_neg (by omega), if_neg (by omega), if_neg (by omega), if_neg (by omega)]⟩
  · intro a h1 h2
    show (z_row (z_row (z_row (z_row (z_row (z_row J E.length (fun _ => 0)) (E.length + 1) (fun _ => 0)) (E.length + 2) (fun _ => 0)) (E.length + 3) (fun _ => 0)) (E.length + 4) (fun _ => 0)) (E.length + 5) (fun _ => 0)) a = _
    by_cases e5 : a = E.length + 5
    · rw [e5, z_row_eq]
    · rw [z_row_ne e5]
      by_cases e4 : a = E.length + 4
      · rw [e4, z_row_eq]
      · rw [z_row_ne e4]
        by_cases e3 : a = E.length + 3
        · rw [e3, z_row_eq]
        · rw [z_row_ne e3]
          by_cases e2 : a = E.length + 2
          · rw [e2, z_row_eq]
          · rw [z_row_ne e2]
            by_cases e1 : a = E.length + 1
            · rw [e1, z_row_eq]
            · rw [z_row_ne e1]
              rw [show a = E.length by omega, z_row_eq]
end Q34
