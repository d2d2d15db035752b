/-! constructors: waitlists -/
theorem z_apL2 {E L : m_E} {a : Nat} {w : (Nat ⊕ (FieldType × Nat)) × List (Option Nat)} (h : E[a]? = some w) : (E ++ L)[a]? = some w := by
  rw [List.getElem?_append_left (List.getElem?_eq_some_iff.mp h).1]; exact h
theorem z_apT2 {E L : m_E} {c : (Nat ⊕ (FieldType × Nat)) × List (Option Nat)} : E.length < (E ++ c :: L).length := by simp
set_option maxRecDepth 20000 in
theorem w_106i_4 {l : Launch} {d : Nat} {Q : z_O → z_S → Prop} {Wp : Nat → z_C} {E : m_E} {J : z_J} {X : z_X} {bc bs : Nat} {th : Nat} {rs : List (Option Nat)} (hE : E[th]? = some (.inl 10, rs)) (hs : z_Cl l (d + 0) m_me_106 Q Wp)
    (h : (E.length < 1000 ∧ (9 : Int) ≤ (bc : Int) ∧ (408 : Int) ≤ (bs : Int)) ∧ Wp 16 [some (.inr (.inr (.ref th)))] [] ((E ++ (.inr (.array .int, 8), (List.range 8).map (fun i => some (E.length + 1 + i))) :: List.replicate 8 (.inr (.int, 50), []) : m_E).set th (.inl 10, rs.set 0 (some E.length)), z_zeros J E.length 9, (z_zeros X.1 E.length 9, fun b => if E.length ≤ b ∧ b < E.length + 9 then (fun _ => 0) else X.2 b)) (bc - 9) (bs - 408)) : Wp 4 [some (.inr (.inr (.ref th)))] [] (E, J, X) bc bs :=
  hs 400 [(4, 1), (16, 1), (24, 1)] [] 4 _ _ _ _ _ (⟨rfl, rfl, ⟨by decide, by decide, by decide, by decide, h.1.1, h.1.2.1, h.1.2.2⟩, ⟨_, z_apL2 hE, z_apT2, h.2⟩⟩)
set_option maxRecDepth 20000 in
theorem w_106i_0 {l : Launch} {d : Nat} {Q : z_O → z_S → Prop} {Wp : Nat → z_C} {E : m_E} {J : z_J} {X : z_X} {bc bs : Nat} {th : Nat} (hs : z_Cl l (d + 0) m_me_106 Q Wp) (h : Wp 4 [some (.inr (.inr (.ref th)))] [] (E, J, X) bc bs) : Wp 0 [some (.inr (.inr (.ref th)))] [] (E, J, X) bc bs :=
  hs 400 [(4, 1), (16, 1), (24, 1)] [] 0 _ _ _ _ _ (⟨rfl, h⟩)
set_option maxRecDepth 20000 in
theorem w_106i_24 {l : Launch} {d : Nat} {Q : z_O → z_S → Prop} {Wp : Nat → z_C} {E : m_E} {J : z_J} {X : z_X} {bc bs : Nat} {th : Nat} (hs : z_Cl l (d + 0) m_me_106 Q Wp) (h : Q (.inl none) (E, J, X)) : Wp 24 [some (.inr (.inr (.ref th)))] [] (E, J, X) bc bs :=
  hs 400 [(4, 1), (16, 1), (24, 1)] [] 24 _ _ _ _ _ h
set_option maxRecDepth 20000 in
theorem w_106i_16 {l : Launch} {d : Nat} {Q : z_O → z_S → Prop} {Wp : Nat → z_C} {E : m_E} {J : z_J} {X : z_X} {bc bs : Nat} {th : Nat} {rs : List (Option Nat)} (hE : E[th]? = some (.inl 10, rs)) (hs : z_Cl l (d + 0) m_me_106 Q Wp)
    (h : (E.length < 1000 ∧ 1 ≤ bc ∧ (8 : Int) ≤ (bs : Int)) ∧ Wp 24 [some (.inr (.inr (.ref th)))] [] ((E ++ [(.inr (.int, 8), [])] : m_E).set th (.inl 10, rs.set 1 (some E.length)), z_row J E.length (fun _ => 0), (z_row X.1 E.length (fun _ => 0), m_rowX X.2 E.length (fun _ => 0))) (bc - 1) (bs - 8)) : Wp 16 [some (.inr (.inr (.ref th)))] [] (E, J, X) bc bs :=
  hs 400 [(4, 1), (16, 1), (24, 1)] [] 16 _ _ _ _ _ (⟨rfl, ⟨by decide, by decide, h.1.1, h.1.2.1, h.1.2.2⟩, ⟨_, z_apL hE, z_apT, h.2⟩⟩)
