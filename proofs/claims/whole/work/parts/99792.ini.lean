/-! constructors: one array made and put into a field (written by wip/whole/gen99792.py) -/
theorem z_apL {E : m_E} {c : (Nat ⊕ (FieldType × Nat)) × List (Option Nat)} {a : Nat} {w : (Nat ⊕ (FieldType × Nat)) × List (Option Nat)} (h : E[a]? = some w) : (E ++ [c])[a]? = some w := by
  rw [List.getElem?_append_left (List.getElem?_eq_some_iff.mp h).1]; exact h
theorem z_apT {E : m_E} {c : (Nat ⊕ (FieldType × Nat)) × List (Option Nat)} : E.length < (E ++ [c]).length := by simp
set_option maxRecDepth 20000 in
theorem w_78i_4 {l : Launch} {d : Nat} {Q : z_O → z_S → Prop} {Wp : Nat → z_C} {E : m_E} {J : z_J} {X : z_X} {bc bs : Nat} {th : Nat} {rs : List (Option Nat)} (hE : E[th]? = some (.inl 7, rs)) (hs : z_Cl l (d + 0) m_me_78 Q Wp)
    (h : (E.length < 1000 ∧ 1 ≤ bc ∧ (8 : Int) ≤ (bs : Int)) ∧ Wp 12 [some (.inr (.inr (.ref th)))] [] ((E ++ [(.inr (.int, 8), [])] : m_E).set th (.inl 7, rs.set 0 (some E.length)), z_row J E.length (fun _ => 0), (z_row X.1 E.length (fun _ => 0), m_rowX X.2 E.length (fun _ => 0))) (bc - 1) (bs - 8)) : Wp 4 [some (.inr (.inr (.ref th)))] [] (E, J, X) bc bs :=
  hs 400 [(4, 1), (12, 1), (20, 1), (28, 1), (36, 1), (44, 1), (52, 1), (60, 1), (68, 1), (76, 1), (84, 1), (92, 1)] [] 4 _ _ _ _ _ (⟨rfl, ⟨by decide, by decide, h.1.1, h.1.2.1, h.1.2.2⟩, ⟨_, z_apL hE, z_apT, h.2⟩⟩)
set_option maxRecDepth 20000 in
theorem w_78i_12 {l : Launch} {d : Nat} {Q : z_O → z_S → Prop} {Wp : Nat → z_C} {E : m_E} {J : z_J} {X : z_X} {bc bs : Nat} {th : Nat} {rs : List (Option Nat)} (hE : E[th]? = some (.inl 7, rs)) (hs : z_Cl l (d + 0) m_me_78 Q Wp)
    (h : (E.length < 1000 ∧ 1 ≤ bc ∧ (8 : Int) ≤ (bs : Int)) ∧ Wp 20 [some (.inr (.inr (.ref th)))] [] ((E ++ [(.inr (.int, 8), [])] : m_E).set th (.inl 7, rs.set 1 (some E.length)), z_row J E.length (fun _ => 0), (z_row X.1 E.length (fun _ => 0), m_rowX X.2 E.length (fun _ => 0))) (bc - 1) (bs - 8)) : Wp 12 [some (.inr (.inr (.ref th)))] [] (E, J, X) bc bs :=
  hs 400 [(4, 1), (12, 1), (20, 1), (28, 1), (36, 1), (44, 1), (52, 1), (60, 1), (68, 1), (76, 1), (84, 1), (92, 1)] [] 12 _ _ _ _ _ (⟨rfl, ⟨by decide, by decide, h.1.1, h.1.2.1, h.1.2.2⟩, ⟨_, z_apL hE, z_apT, h.2⟩⟩)
set_option maxRecDepth 20000 in
theorem w_78i_20 {l : Launch} {d : Nat} {Q : z_O → z_S → Prop} {Wp : Nat → z_C} {E : m_E} {J : z_J} {X : z_X} {bc bs : Nat} {th : Nat} {rs : List (Option Nat)} (hE : E[th]? = some (.inl 7, rs)) (hs : z_Cl l (d + 0) m_me_78 Q Wp)
    (h : (E.length < 1000 ∧ 1 ≤ bc ∧ (8 : Int) ≤ (bs : Int)) ∧ Wp 28 [some (.inr (.inr (.ref th)))] [] ((E ++ [(.inr (.int, 8), [])] : m_E).set th (.inl 7, rs.set 2 (some E.length)), z_row J E.length (fun _ => 0), (z_row X.1 E.length (fun _ => 0), m_rowX X.2 E.length (fun _ => 0))) (bc - 1) (bs - 8)) : Wp 20 [some (.inr (.inr (.ref th)))] [] (E, J, X) bc bs :=
  hs 400 [(4, 1), (12, 1), (20, 1), (28, 1), (36, 1), (44, 1), (52, 1), (60, 1), (68, 1), (76, 1), (84, 1), (92, 1)] [] 20 _ _ _ _ _ (⟨rfl, ⟨by decide, by decide, h.1.1, h.1.2.1, h.1.2.2⟩, ⟨_, z_apL hE, z_apT, h.2⟩⟩)
set_option maxRecDepth 20000 in
theorem w_78i_28 {l : Launch} {d : Nat} {Q : z_O → z_S → Prop} {Wp : Nat → z_C} {E : m_E} {J : z_J} {X : z_X} {bc bs : Nat} {th : Nat} {rs : List (Option Nat)} (hE : E[th]? = some (.inl 7, rs)) (hs : z_Cl l (d + 0) m_me_78 Q Wp)
    (h : (E.length < 1000 ∧ 1 ≤ bc ∧ (8 : Int) ≤ (bs : Int)) ∧ Wp 36 [some (.inr (.inr (.ref th)))] [] ((E ++ [(.inr (.int, 8), [])] : m_E).set th (.inl 7, rs.set 3 (some E.length)), z_row J E.length (fun _ => 0), (z_row X.1 E.length (fun _ => 0), m_rowX X.2 E.length (fun _ => 0))) (bc - 1) (bs - 8)) : Wp 28 [some (.inr (.inr (.ref th)))] [] (E, J, X) bc bs :=
  hs 400 [(4, 1), (12, 1), (20, 1), (28, 1), (36, 1), (44, 1), (52, 1), (60, 1), (68, 1), (76, 1), (84, 1), (92, 1)] [] 28 _ _ _ _ _ (⟨rfl, ⟨by decide, by decide, h.1.1, h.1.2.1, h.1.2.2⟩, ⟨_, z_apL hE, z_apT, h.2⟩⟩)
set_option maxRecDepth 20000 in
theorem w_78i_36 {l : Launch} {d : Nat} {Q : z_O → z_S → Prop} {Wp : Nat → z_C} {E : m_E} {J : z_J} {X : z_X} {bc bs : Nat} {th : Nat} {rs : List (Option Nat)} (hE : E[th]? = some (.inl 7, rs)) (hs : z_Cl l (d + 0) m_me_78 Q Wp)
    (h : (E.length < 1000 ∧ 1 ≤ bc ∧ (8 : Int) ≤ (bs : Int)) ∧ Wp 44 [some (.inr (.inr (.ref th)))] [] ((E ++ [(.inr (.int, 8), [])] : m_E).set th (.inl 7, rs.set 4 (some E.length)), z_row J E.length (fun _ => 0), (z_row X.1 E.length (fun _ => 0), m_rowX X.2 E.length (fun _ => 0))) (bc - 1) (bs - 8)) : Wp 36 [some (.inr (.inr (.ref th)))] [] (E, J, X) bc bs :=
  hs 400 [(4, 1), (12, 1), (20, 1), (28, 1), (36, 1), (44, 1), (52, 1), (60, 1), (68, 1), (76, 1), (84, 1), (92, 1)] [] 36 _ _ _ _ _ (⟨rfl, ⟨by decide, by decide, h.1.1, h.1.2.1, h.1.2.2⟩, ⟨_, z_apL hE, z_apT, h.2⟩⟩)
set_option maxRecDepth 20000 in
theorem w_78i_44 {l : Launch} {d : Nat} {Q : z_O → z_S → Prop} {Wp : Nat → z_C} {E : m_E} {J : z_J} {X : z_X} {bc bs : Nat} {th : Nat} {rs : List (Option Nat)} (hE : E[th]? = some (.inl 7, rs)) (hs : z_Cl l (d + 0) m_me_78 Q Wp)
    (h : (E.length < 1000 ∧ 1 ≤ bc ∧ (8 : Int) ≤ (bs : Int)) ∧ Wp 52 [some (.inr (.inr (.ref th)))] [] ((E ++ [(.inr (.boolean, 8), [])] : m_E).set th (.inl 7, rs.set 5 (some E.length)), z_row J E.length (fun _ => 0), (z_row X.1 E.length (fun _ => 0), m_rowX X.2 E.length (fun _ => 0))) (bc - 1) (bs - 8)) : Wp 44 [some (.inr (.inr (.ref th)))] [] (E, J, X) bc bs :=
  hs 400 [(4, 1), (12, 1), (20, 1), (28, 1), (36, 1), (44, 1), (52, 1), (60, 1), (68, 1), (76, 1), (84, 1), (92, 1)] [] 44 _ _ _ _ _ (⟨rfl, ⟨by decide, by decide, h.1.1, h.1.2.1, h.1.2.2⟩, ⟨_, z_apL hE, z_apT, h.2⟩⟩)
set_option maxRecDepth 20000 in
theorem w_78i_52 {l : Launch} {d : Nat} {Q : z_O → z_S → Prop} {Wp : Nat → z_C} {E : m_E} {J : z_J} {X : z_X} {bc bs : Nat} {th : Nat} {rs : List (Option Nat)} (hE : E[th]? = some (.inl 7, rs)) (hs : z_Cl l (d + 0) m_me_78 Q Wp)
    (h : (E.length < 1000 ∧ 1 ≤ bc ∧ (8 : Int) ≤ (bs : Int)) ∧ Wp 60 [some (.inr (.inr (.ref th)))] [] ((E ++ [(.inr (.int, 8), [])] : m_E).set th (.inl 7, rs.set 6 (some E.length)), z_row J E.length (fun _ => 0), (z_row X.1 E.length (fun _ => 0), m_rowX X.2 E.length (fun _ => 0))) (bc - 1) (bs - 8)) : Wp 52 [some (.inr (.inr (.ref th)))] [] (E, J, X) bc bs :=
  hs 400 [(4, 1), (12, 1), (20, 1), (28, 1), (36, 1), (44, 1), (52, 1), (60, 1), (68, 1), (76, 1), (84, 1), (92, 1)] [] 52 _ _ _ _ _ (⟨rfl, ⟨by decide, by decide, h.1.1, h.1.2.1, h.1.2.2⟩, ⟨_, z_apL hE, z_apT, h.2⟩⟩)
set_option maxRecDepth 20000 in
theorem w_78i_60 {l : Launch} {d : Nat} {Q : z_O → z_S → Prop} {Wp : Nat → z_C} {E : m_E} {J : z_J} {X : z_X} {bc bs : Nat} {th : Nat} {rs : List (Option Nat)} (hE : E[th]? = some (.inl 7, rs)) (hs : z_Cl l (d + 0) m_me_78 Q Wp)
    (h : (E.length < 1000 ∧ 1 ≤ bc ∧ (8 : Int) ≤ (bs : Int)) ∧ Wp 68 [some (.inr (.inr (.ref th)))] [] ((E ++ [(.inr (.int, 8), [])] : m_E).set th (.inl 7, rs.set 7 (some E.length)), z_row J E.length (fun _ => 0), (z_row X.1 E.length (fun _ => 0), m_rowX X.2 E.length (fun _ => 0))) (bc - 1) (bs - 8)) : Wp 60 [some (.inr (.inr (.ref th)))] [] (E, J, X) bc bs :=
  hs 400 [(4, 1), (12, 1), (20, 1), (28, 1), (36, 1), (44, 1), (52, 1), (60, 1), (68, 1), (76, 1), (84, 1), (92, 1)] [] 60 _ _ _ _ _ (⟨rfl, ⟨by decide, by decide, h.1.1, h.1.2.1, h.1.2.2⟩, ⟨_, z_apL hE, z_apT, h.2⟩⟩)
set_option maxRecDepth 20000 in
theorem w_78i_68 {l : Launch} {d : Nat} {Q : z_O → z_S → Prop} {Wp : Nat → z_C} {E : m_E} {J : z_J} {X : z_X} {bc bs : Nat} {th : Nat} {rs : List (Option Nat)} (hE : E[th]? = some (.inl 7, rs)) (hs : z_Cl l (d + 0) m_me_78 Q Wp)
    (h : (E.length < 1000 ∧ 1 ≤ bc ∧ (8 : Int) ≤ (bs : Int)) ∧ Wp 76 [some (.inr (.inr (.ref th)))] [] ((E ++ [(.inr (.int, 8), [])] : m_E).set th (.inl 7, rs.set 8 (some E.length)), z_row J E.length (fun _ => 0), (z_row X.1 E.length (fun _ => 0), m_rowX X.2 E.length (fun _ => 0))) (bc - 1) (bs - 8)) : Wp 68 [some (.inr (.inr (.ref th)))] [] (E, J, X) bc bs :=
  hs 400 [(4, 1), (12, 1), (20, 1), (28, 1), (36, 1), (44, 1), (52, 1), (60, 1), (68, 1), (76, 1), (84, 1), (92, 1)] [] 68 _ _ _ _ _ (⟨rfl, ⟨by decide, by decide, h.1.1, h.1.2.1, h.1.2.2⟩, ⟨_, z_apL hE, z_apT, h.2⟩⟩)
set_option maxRecDepth 20000 in
theorem w_78i_76 {l : Launch} {d : Nat} {Q : z_O → z_S → Prop} {Wp : Nat → z_C} {E : m_E} {J : z_J} {X : z_X} {bc bs : Nat} {th : Nat} {rs : List (Option Nat)} (hE : E[th]? = some (.inl 7, rs)) (hs : z_Cl l (d + 0) m_me_78 Q Wp)
    (h : (E.length < 1000 ∧ 1 ≤ bc ∧ (8 : Int) ≤ (bs : Int)) ∧ Wp 84 [some (.inr (.inr (.ref th)))] [] ((E ++ [(.inr (.int, 8), [])] : m_E).set th (.inl 7, rs.set 9 (some E.length)), z_row J E.length (fun _ => 0), (z_row X.1 E.length (fun _ => 0), m_rowX X.2 E.length (fun _ => 0))) (bc - 1) (bs - 8)) : Wp 76 [some (.inr (.inr (.ref th)))] [] (E, J, X) bc bs :=
  hs 400 [(4, 1), (12, 1), (20, 1), (28, 1), (36, 1), (44, 1), (52, 1), (60, 1), (68, 1), (76, 1), (84, 1), (92, 1)] [] 76 _ _ _ _ _ (⟨rfl, ⟨by decide, by decide, h.1.1, h.1.2.1, h.1.2.2⟩, ⟨_, z_apL hE, z_apT, h.2⟩⟩)
set_option maxRecDepth 20000 in
theorem w_78i_84 {l : Launch} {d : Nat} {Q : z_O → z_S → Prop} {Wp : Nat → z_C} {E : m_E} {J : z_J} {X : z_X} {bc bs : Nat} {th : Nat} {rs : List (Option Nat)} (hE : E[th]? = some (.inl 7, rs)) (hs : z_Cl l (d + 0) m_me_78 Q Wp)
    (h : (E.length < 1000 ∧ 1 ≤ bc ∧ (8 : Int) ≤ (bs : Int)) ∧ Wp 92 [some (.inr (.inr (.ref th)))] [] ((E ++ [(.inr (.int, 8), [])] : m_E).set th (.inl 7, rs.set 10 (some E.length)), z_row J E.length (fun _ => 0), (z_row X.1 E.length (fun _ => 0), m_rowX X.2 E.length (fun _ => 0))) (bc - 1) (bs - 8)) : Wp 84 [some (.inr (.inr (.ref th)))] [] (E, J, X) bc bs :=
  hs 400 [(4, 1), (12, 1), (20, 1), (28, 1), (36, 1), (44, 1), (52, 1), (60, 1), (68, 1), (76, 1), (84, 1), (92, 1)] [] 84 _ _ _ _ _ (⟨rfl, ⟨by decide, by decide, h.1.1, h.1.2.1, h.1.2.2⟩, ⟨_, z_apL hE, z_apT, h.2⟩⟩)
set_option maxRecDepth 20000 in
theorem w_78i_0 {l : Launch} {d : Nat} {Q : z_O → z_S → Prop} {Wp : Nat → z_C} {E : m_E} {J : z_J} {X : z_X} {bc bs : Nat} {th : Nat} (hs : z_Cl l (d + 0) m_me_78 Q Wp) (h : Wp 4 [some (.inr (.inr (.ref th)))] [] (E, J, X) bc bs) : Wp 0 [some (.inr (.inr (.ref th)))] [] (E, J, X) bc bs :=
  hs 400 [(4, 1), (12, 1), (20, 1), (28, 1), (36, 1), (44, 1), (52, 1), (60, 1), (68, 1), (76, 1), (84, 1), (92, 1)] [] 0 _ _ _ _ _ (⟨rfl, h⟩)
set_option maxRecDepth 20000 in
theorem w_78i_92 {l : Launch} {d : Nat} {Q : z_O → z_S → Prop} {Wp : Nat → z_C} {E : m_E} {J : z_J} {X : z_X} {bc bs : Nat} {th : Nat} (hs : z_Cl l (d + 0) m_me_78 Q Wp) (h : Q (.inl none) (E, J, X)) : Wp 92 [some (.inr (.inr (.ref th)))] [] (E, J, X) bc bs :=
  hs 400 [(4, 1), (12, 1), (20, 1), (28, 1), (36, 1), (44, 1), (52, 1), (60, 1), (68, 1), (76, 1), (84, 1), (92, 1)] [] 92 _ _ _ _ _ h
set_option maxRecDepth 20000 in
theorem w_36i_4 {l : Launch} {d : Nat} {Q : z_O → z_S → Prop} {Wp : Nat → z_C} {E : m_E} {J : z_J} {X : z_X} {bc bs : Nat} {th : Nat} {rs : List (Option Nat)} (hE : E[th]? = some (.inl 2, rs)) (hs : z_Cl l (d + 0) m_me_36 Q Wp)
    (h : (E.length < 1000 ∧ 1 ≤ bc ∧ (4 : Int) ≤ (bs : Int)) ∧ Wp 11 [some (.inr (.inr (.ref th)))] [] ((E ++ [(.inr (.int, 4), [])] : m_E).set th (.inl 2, rs.set 0 (some E.length)), z_row J E.length (fun _ => 0), (z_row X.1 E.length (fun _ => 0), m_rowX X.2 E.length (fun _ => 0))) (bc - 1) (bs - 4)) : Wp 4 [some (.inr (.inr (.ref th)))] [] (E, J, X) bc bs :=
  hs 400 [(4, 1), (11, 1), (18, 1), (25, 1), (32, 1), (40, 1), (48, 1), (56, 1)] [] 4 _ _ _ _ _ (⟨rfl, ⟨by decide, by decide, h.1.1, h.1.2.1, h.1.2.2⟩, ⟨_, z_apL hE, z_apT, h.2⟩⟩)
set_option maxRecDepth 20000 in
theorem w_36i_11 {l : Launch} {d : Nat} {Q : z_O → z_S → Prop} {Wp : Nat → z_C} {E : m_E} {J : z_J} {X : z_X} {bc bs : Nat} {th : Nat} {rs : List (Option Nat)} (hE : E[th]? = some (.inl 2, rs)) (hs : z_Cl l (d + 0) m_me_36 Q Wp)
    (h : (E.length < 1000 ∧ 1 ≤ bc ∧ (4 : Int) ≤ (bs : Int)) ∧ Wp 18 [some (.inr (.inr (.ref th)))] [] ((E ++ [(.inr (.int, 4), [])] : m_E).set th (.inl 2, rs.set 1 (some E.length)), z_row J E.length (fun _ => 0), (z_row X.1 E.length (fun _ => 0), m_rowX X.2 E.length (fun _ => 0))) (bc - 1) (bs - 4)) : Wp 11 [some (.inr (.inr (.ref th)))] [] (E, J, X) bc bs :=
  hs 400 [(4, 1), (11, 1), (18, 1), (25, 1), (32, 1), (40, 1), (48, 1), (56, 1)] [] 11 _ _ _ _ _ (⟨rfl, ⟨by decide, by decide, h.1.1, h.1.2.1, h.1.2.2⟩, ⟨_, z_apL hE, z_apT, h.2⟩⟩)
set_option maxRecDepth 20000 in
theorem w_36i_18 {l : Launch} {d : Nat} {Q : z_O → z_S → Prop} {Wp : Nat → z_C} {E : m_E} {J : z_J} {X : z_X} {bc bs : Nat} {th : Nat} {rs : List (Option Nat)} (hE : E[th]? = some (.inl 2, rs)) (hs : z_Cl l (d + 0) m_me_36 Q Wp)
    (h : (E.length < 1000 ∧ 1 ≤ bc ∧ (4 : Int) ≤ (bs : Int)) ∧ Wp 25 [some (.inr (.inr (.ref th)))] [] ((E ++ [(.inr (.int, 4), [])] : m_E).set th (.inl 2, rs.set 2 (some E.length)), z_row J E.length (fun _ => 0), (z_row X.1 E.length (fun _ => 0), m_rowX X.2 E.length (fun _ => 0))) (bc - 1) (bs - 4)) : Wp 18 [some (.inr (.inr (.ref th)))] [] (E, J, X) bc bs :=
  hs 400 [(4, 1), (11, 1), (18, 1), (25, 1), (32, 1), (40, 1), (48, 1), (56, 1)] [] 18 _ _ _ _ _ (⟨rfl, ⟨by decide, by decide, h.1.1, h.1.2.1, h.1.2.2⟩, ⟨_, z_apL hE, z_apT, h.2⟩⟩)
set_option maxRecDepth 20000 in
theorem w_36i_25 {l : Launch} {d : Nat} {Q : z_O → z_S → Prop} {Wp : Nat → z_C} {E : m_E} {J : z_J} {X : z_X} {bc bs : Nat} {th : Nat} {rs : List (Option Nat)} (hE : E[th]? = some (.inl 2, rs)) (hs : z_Cl l (d + 0) m_me_36 Q Wp)
    (h : (E.length < 1000 ∧ 1 ≤ bc ∧ (4 : Int) ≤ (bs : Int)) ∧ Wp 32 [some (.inr (.inr (.ref th)))] [] ((E ++ [(.inr (.int, 4), [])] : m_E).set th (.inl 2, rs.set 3 (some E.length)), z_row J E.length (fun _ => 0), (z_row X.1 E.length (fun _ => 0), m_rowX X.2 E.length (fun _ => 0))) (bc - 1) (bs - 4)) : Wp 25 [some (.inr (.inr (.ref th)))] [] (E, J, X) bc bs :=
  hs 400 [(4, 1), (11, 1), (18, 1), (25, 1), (32, 1), (40, 1), (48, 1), (56, 1)] [] 25 _ _ _ _ _ (⟨rfl, ⟨by decide, by decide, h.1.1, h.1.2.1, h.1.2.2⟩, ⟨_, z_apL hE, z_apT, h.2⟩⟩)
set_option maxRecDepth 20000 in
theorem w_36i_32 {l : Launch} {d : Nat} {Q : z_O → z_S → Prop} {Wp : Nat → z_C} {E : m_E} {J : z_J} {X : z_X} {bc bs : Nat} {th : Nat} {rs : List (Option Nat)} (hE : E[th]? = some (.inl 2, rs)) (hs : z_Cl l (d + 0) m_me_36 Q Wp)
    (h : (E.length < 1000 ∧ 1 ≤ bc ∧ (50 : Int) ≤ (bs : Int)) ∧ Wp 40 [some (.inr (.inr (.ref th)))] [] ((E ++ [(.inr (.int, 50), [])] : m_E).set th (.inl 2, rs.set 5 (some E.length)), z_row J E.length (fun _ => 0), (z_row X.1 E.length (fun _ => 0), m_rowX X.2 E.length (fun _ => 0))) (bc - 1) (bs - 50)) : Wp 32 [some (.inr (.inr (.ref th)))] [] (E, J, X) bc bs :=
  hs 400 [(4, 1), (11, 1), (18, 1), (25, 1), (32, 1), (40, 1), (48, 1), (56, 1)] [] 32 _ _ _ _ _ (⟨rfl, ⟨by decide, by decide, h.1.1, h.1.2.1, h.1.2.2⟩, ⟨_, z_apL hE, z_apT, h.2⟩⟩)
set_option maxRecDepth 20000 in
theorem w_36i_40 {l : Launch} {d : Nat} {Q : z_O → z_S → Prop} {Wp : Nat → z_C} {E : m_E} {J : z_J} {X : z_X} {bc bs : Nat} {th : Nat} {rs : List (Option Nat)} (hE : E[th]? = some (.inl 2, rs)) (hs : z_Cl l (d + 0) m_me_36 Q Wp)
    (h : (E.length < 1000 ∧ 1 ≤ bc ∧ (50 : Int) ≤ (bs : Int)) ∧ Wp 48 [some (.inr (.inr (.ref th)))] [] ((E ++ [(.inr (.int, 50), [])] : m_E).set th (.inl 2, rs.set 6 (some E.length)), z_row J E.length (fun _ => 0), (z_row X.1 E.length (fun _ => 0), m_rowX X.2 E.length (fun _ => 0))) (bc - 1) (bs - 50)) : Wp 40 [some (.inr (.inr (.ref th)))] [] (E, J, X) bc bs :=
  hs 400 [(4, 1), (11, 1), (18, 1), (25, 1), (32, 1), (40, 1), (48, 1), (56, 1)] [] 40 _ _ _ _ _ (⟨rfl, ⟨by decide, by decide, h.1.1, h.1.2.1, h.1.2.2⟩, ⟨_, z_apL hE, z_apT, h.2⟩⟩)
set_option maxRecDepth 20000 in
theorem w_36i_48 {l : Launch} {d : Nat} {Q : z_O → z_S → Prop} {Wp : Nat → z_C} {E : m_E} {J : z_J} {X : z_X} {bc bs : Nat} {th : Nat} {rs : List (Option Nat)} (hE : E[th]? = some (.inl 2, rs)) (hs : z_Cl l (d + 0) m_me_36 Q Wp)
    (h : (E.length < 1000 ∧ 1 ≤ bc ∧ (50 : Int) ≤ (bs : Int)) ∧ Wp 56 [some (.inr (.inr (.ref th)))] [] ((E ++ [(.inr (.int, 50), [])] : m_E).set th (.inl 2, rs.set 7 (some E.length)), z_row J E.length (fun _ => 0), (z_row X.1 E.length (fun _ => 0), m_rowX X.2 E.length (fun _ => 0))) (bc - 1) (bs - 50)) : Wp 48 [some (.inr (.inr (.ref th)))] [] (E, J, X) bc bs :=
  hs 400 [(4, 1), (11, 1), (18, 1), (25, 1), (32, 1), (40, 1), (48, 1), (56, 1)] [] 48 _ _ _ _ _ (⟨rfl, ⟨by decide, by decide, h.1.1, h.1.2.1, h.1.2.2⟩, ⟨_, z_apL hE, z_apT, h.2⟩⟩)
set_option maxRecDepth 20000 in
theorem w_36i_0 {l : Launch} {d : Nat} {Q : z_O → z_S → Prop} {Wp : Nat → z_C} {E : m_E} {J : z_J} {X : z_X} {bc bs : Nat} {th : Nat} (hs : z_Cl l (d + 0) m_me_36 Q Wp) (h : Wp 4 [some (.inr (.inr (.ref th)))] [] (E, J, X) bc bs) : Wp 0 [some (.inr (.inr (.ref th)))] [] (E, J, X) bc bs :=
  hs 400 [(4, 1), (11, 1), (18, 1), (25, 1), (32, 1), (40, 1), (48, 1), (56, 1)] [] 0 _ _ _ _ _ (⟨rfl, h⟩)
set_option maxRecDepth 20000 in
theorem w_36i_56 {l : Launch} {d : Nat} {Q : z_O → z_S → Prop} {Wp : Nat → z_C} {E : m_E} {J : z_J} {X : z_X} {bc bs : Nat} {th : Nat} (hs : z_Cl l (d + 0) m_me_36 Q Wp) (h : Q (.inl none) (E, J, X)) : Wp 56 [some (.inr (.inr (.ref th)))] [] (E, J, X) bc bs :=
  hs 400 [(4, 1), (11, 1), (18, 1), (25, 1), (32, 1), (40, 1), (48, 1), (56, 1)] [] 56 _ _ _ _ _ h
set_option maxRecDepth 20000 in
theorem w_96i_4 {l : Launch} {d : Nat} {Q : z_O → z_S → Prop} {Wp : Nat → z_C} {E : m_E} {J : z_J} {X : z_X} {bc bs : Nat} {th : Nat} {rs : List (Option Nat)} (hE : E[th]? = some (.inl 9, rs)) (hs : z_Cl l (d + 0) m_me_96 Q Wp)
    (h : (E.length < 1000 ∧ 1 ≤ bc ∧ (150 : Int) ≤ (bs : Int)) ∧ Wp 13 [some (.inr (.inr (.ref th)))] [] ((E ++ [(.inr (.int, 150), [])] : m_E).set th (.inl 9, rs.set 0 (some E.length)), z_row J E.length (fun _ => 0), (z_row X.1 E.length (fun _ => 0), m_rowX X.2 E.length (fun _ => 0))) (bc - 1) (bs - 150)) : Wp 4 [some (.inr (.inr (.ref th)))] [] (E, J, X) bc bs :=
  hs 400 [(4, 1), (13, 1), (22, 1), (31, 1), (40, 1), (49, 1), (58, 1)] [] 4 _ _ _ _ _ (⟨rfl, ⟨by decide, by decide, h.1.1, h.1.2.1, h.1.2.2⟩, ⟨_, z_apL hE, z_apT, h.2⟩⟩)
set_option maxRecDepth 20000 in
theorem w_96i_13 {l : Launch} {d : Nat} {Q : z_O → z_S → Prop} {Wp : Nat → z_C} {E : m_E} {J : z_J} {X : z_X} {bc bs : Nat} {th : Nat} {rs : List (Option Nat)} (hE : E[th]? = some (.inl 9, rs)) (hs : z_Cl l (d + 0) m_me_96 Q Wp)
    (h : (E.length < 1000 ∧ 1 ≤ bc ∧ (150 : Int) ≤ (bs : Int)) ∧ Wp 22 [some (.inr (.inr (.ref th)))] [] ((E ++ [(.inr (.int, 150), [])] : m_E).set th (.inl 9, rs.set 1 (some E.length)), z_row J E.length (fun _ => 0), (z_row X.1 E.length (fun _ => 0), m_rowX X.2 E.length (fun _ => 0))) (bc - 1) (bs - 150)) : Wp 13 [some (.inr (.inr (.ref th)))] [] (E, J, X) bc bs :=
  hs 400 [(4, 1), (13, 1), (22, 1), (31, 1), (40, 1), (49, 1), (58, 1)] [] 13 _ _ _ _ _ (⟨rfl, ⟨by decide, by decide, h.1.1, h.1.2.1, h.1.2.2⟩, ⟨_, z_apL hE, z_apT, h.2⟩⟩)
set_option maxRecDepth 20000 in
theorem w_96i_22 {l : Launch} {d : Nat} {Q : z_O → z_S → Prop} {Wp : Nat → z_C} {E : m_E} {J : z_J} {X : z_X} {bc bs : Nat} {th : Nat} {rs : List (Option Nat)} (hE : E[th]? = some (.inl 9, rs)) (hs : z_Cl l (d + 0) m_me_96 Q Wp)
    (h : (E.length < 1000 ∧ 1 ≤ bc ∧ (150 : Int) ≤ (bs : Int)) ∧ Wp 31 [some (.inr (.inr (.ref th)))] [] ((E ++ [(.inr (.int, 150), [])] : m_E).set th (.inl 9, rs.set 2 (some E.length)), z_row J E.length (fun _ => 0), (z_row X.1 E.length (fun _ => 0), m_rowX X.2 E.length (fun _ => 0))) (bc - 1) (bs - 150)) : Wp 22 [some (.inr (.inr (.ref th)))] [] (E, J, X) bc bs :=
  hs 400 [(4, 1), (13, 1), (22, 1), (31, 1), (40, 1), (49, 1), (58, 1)] [] 22 _ _ _ _ _ (⟨rfl, ⟨by decide, by decide, h.1.1, h.1.2.1, h.1.2.2⟩, ⟨_, z_apL hE, z_apT, h.2⟩⟩)
set_option maxRecDepth 20000 in
theorem w_96i_31 {l : Launch} {d : Nat} {Q : z_O → z_S → Prop} {Wp : Nat → z_C} {E : m_E} {J : z_J} {X : z_X} {bc bs : Nat} {th : Nat} {rs : List (Option Nat)} (hE : E[th]? = some (.inl 9, rs)) (hs : z_Cl l (d + 0) m_me_96 Q Wp)
    (h : (E.length < 1000 ∧ 1 ≤ bc ∧ (150 : Int) ≤ (bs : Int)) ∧ Wp 40 [some (.inr (.inr (.ref th)))] [] ((E ++ [(.inr (.int, 150), [])] : m_E).set th (.inl 9, rs.set 3 (some E.length)), z_row J E.length (fun _ => 0), (z_row X.1 E.length (fun _ => 0), m_rowX X.2 E.length (fun _ => 0))) (bc - 1) (bs - 150)) : Wp 31 [some (.inr (.inr (.ref th)))] [] (E, J, X) bc bs :=
  hs 400 [(4, 1), (13, 1), (22, 1), (31, 1), (40, 1), (49, 1), (58, 1)] [] 31 _ _ _ _ _ (⟨rfl, ⟨by decide, by decide, h.1.1, h.1.2.1, h.1.2.2⟩, ⟨_, z_apL hE, z_apT, h.2⟩⟩)
set_option maxRecDepth 20000 in
theorem w_96i_40 {l : Launch} {d : Nat} {Q : z_O → z_S → Prop} {Wp : Nat → z_C} {E : m_E} {J : z_J} {X : z_X} {bc bs : Nat} {th : Nat} {rs : List (Option Nat)} (hE : E[th]? = some (.inl 9, rs)) (hs : z_Cl l (d + 0) m_me_96 Q Wp)
    (h : (E.length < 1000 ∧ 1 ≤ bc ∧ (150 : Int) ≤ (bs : Int)) ∧ Wp 49 [some (.inr (.inr (.ref th)))] [] ((E ++ [(.inr (.int, 150), [])] : m_E).set th (.inl 9, rs.set 4 (some E.length)), z_row J E.length (fun _ => 0), (z_row X.1 E.length (fun _ => 0), m_rowX X.2 E.length (fun _ => 0))) (bc - 1) (bs - 150)) : Wp 40 [some (.inr (.inr (.ref th)))] [] (E, J, X) bc bs :=
  hs 400 [(4, 1), (13, 1), (22, 1), (31, 1), (40, 1), (49, 1), (58, 1)] [] 40 _ _ _ _ _ (⟨rfl, ⟨by decide, by decide, h.1.1, h.1.2.1, h.1.2.2⟩, ⟨_, z_apL hE, z_apT, h.2⟩⟩)
set_option maxRecDepth 20000 in
theorem w_96i_49 {l : Launch} {d : Nat} {Q : z_O → z_S → Prop} {Wp : Nat → z_C} {E : m_E} {J : z_J} {X : z_X} {bc bs : Nat} {th : Nat} {rs : List (Option Nat)} (hE : E[th]? = some (.inl 9, rs)) (hs : z_Cl l (d + 0) m_me_96 Q Wp)
    (h : (E.length < 1000 ∧ 1 ≤ bc ∧ (150 : Int) ≤ (bs : Int)) ∧ Wp 58 [some (.inr (.inr (.ref th)))] [] ((E ++ [(.inr (.int, 150), [])] : m_E).set th (.inl 9, rs.set 5 (some E.length)), z_row J E.length (fun _ => 0), (z_row X.1 E.length (fun _ => 0), m_rowX X.2 E.length (fun _ => 0))) (bc - 1) (bs - 150)) : Wp 49 [some (.inr (.inr (.ref th)))] [] (E, J, X) bc bs :=
  hs 400 [(4, 1), (13, 1), (22, 1), (31, 1), (40, 1), (49, 1), (58, 1)] [] 49 _ _ _ _ _ (⟨rfl, ⟨by decide, by decide, h.1.1, h.1.2.1, h.1.2.2⟩, ⟨_, z_apL hE, z_apT, h.2⟩⟩)
set_option maxRecDepth 20000 in
theorem w_96i_0 {l : Launch} {d : Nat} {Q : z_O → z_S → Prop} {Wp : Nat → z_C} {E : m_E} {J : z_J} {X : z_X} {bc bs : Nat} {th : Nat} (hs : z_Cl l (d + 0) m_me_96 Q Wp) (h : Wp 4 [some (.inr (.inr (.ref th)))] [] (E, J, X) bc bs) : Wp 0 [some (.inr (.inr (.ref th)))] [] (E, J, X) bc bs :=
  hs 400 [(4, 1), (13, 1), (22, 1), (31, 1), (40, 1), (49, 1), (58, 1)] [] 0 _ _ _ _ _ (⟨rfl, h⟩)
set_option maxRecDepth 20000 in
theorem w_96i_58 {l : Launch} {d : Nat} {Q : z_O → z_S → Prop} {Wp : Nat → z_C} {E : m_E} {J : z_J} {X : z_X} {bc bs : Nat} {th : Nat} (hs : z_Cl l (d + 0) m_me_96 Q Wp) (h : Q (.inl none) (E, J, X)) : Wp 58 [some (.inr (.inr (.ref th)))] [] (E, J, X) bc bs :=
  hs 400 [(4, 1), (13, 1), (22, 1), (31, 1), (40, 1), (49, 1), (58, 1)] [] 58 _ _ _ _ _ h
set_option maxRecDepth 20000 in
theorem w_57i_10 {l : Launch} {d : Nat} {Q : z_O → z_S → Prop} {Wp : Nat → z_C} {E : m_E} {J : z_J} {X : z_X} {bc bs : Nat} {th : Nat} {rs : List (Option Nat)} {x1 x2 : Int} (hE : E[th]? = some (.inl 4, rs)) (hs : z_Cl l (d + 0) m_me_57 Q Wp) (hx : 0 ≤ x2 ∧ x2 ≤ 100000)
    (h : (E.length < 1000 ∧ 1 ≤ bc ∧ (x2 : Int) ≤ (bs : Int)) ∧ Wp 17 [some (.inr (.inr (.ref th))), some (.inl x1), some (.inl x2)] [] ((E ++ [(.inr (.int, x2.toNat), [])] : m_E).set th (.inl 4, rs.set 0 (some E.length)), z_row J E.length (fun _ => 0), (z_row X.1 E.length (fun _ => 0), m_rowX X.2 E.length (fun _ => 0))) (bc - 1) (bs - x2.toNat)) : Wp 10 [some (.inr (.inr (.ref th))), some (.inl x1), some (.inl x2)] [] (E, J, X) bc bs :=
  hs 400 [(10, 3), (17, 3), (24, 3)] [] 10 _ _ _ _ _ (⟨⟨hx.1, hx.2, h.1.1, h.1.2.1, h.1.2.2⟩, ⟨_, z_apL hE, z_apT, h.2⟩⟩)
set_option maxRecDepth 20000 in
theorem w_57i_17 {l : Launch} {d : Nat} {Q : z_O → z_S → Prop} {Wp : Nat → z_C} {E : m_E} {J : z_J} {X : z_X} {bc bs : Nat} {th : Nat} {rs : List (Option Nat)} {x1 x2 : Int} (hE : E[th]? = some (.inl 4, rs)) (hs : z_Cl l (d + 0) m_me_57 Q Wp) (hx : 0 ≤ x2 ∧ x2 ≤ 100000)
    (h : (E.length < 1000 ∧ 1 ≤ bc ∧ (x2 : Int) ≤ (bs : Int)) ∧ Wp 24 [some (.inr (.inr (.ref th))), some (.inl x1), some (.inl x2)] [] ((E ++ [(.inr (.int, x2.toNat), [])] : m_E).set th (.inl 4, rs.set 1 (some E.length)), z_row J E.length (fun _ => 0), (z_row X.1 E.length (fun _ => 0), m_rowX X.2 E.length (fun _ => 0))) (bc - 1) (bs - x2.toNat)) : Wp 17 [some (.inr (.inr (.ref th))), some (.inl x1), some (.inl x2)] [] (E, J, X) bc bs :=
  hs 400 [(10, 3), (17, 3), (24, 3)] [] 17 _ _ _ _ _ (⟨⟨hx.1, hx.2, h.1.1, h.1.2.1, h.1.2.2⟩, ⟨_, z_apL hE, z_apT, h.2⟩⟩)
set_option maxRecDepth 20000 in
theorem w_57i_0 {l : Launch} {d : Nat} {Q : z_O → z_S → Prop} {Wp : Nat → z_C} {E : m_E} {J : z_J} {X : z_X} {bc bs : Nat} {th : Nat} {x1 : Int} (hs : z_Cl l (d + 0) m_me_57 Q Wp) (h : Wp 10 [some (.inr (.inr (.ref th))), some (.inl x1), some (.inl (max x1 0))] [] (E, J, X) bc bs) : Wp 0 [some (.inr (.inr (.ref th))), some (.inl x1), none] [] (E, J, X) bc bs :=
  hs 400 [(10, 3), (17, 3), (24, 3)] [] 0 _ _ _ _ _ (⟨rfl, ⟨rfl, ⟨rfl, h⟩⟩⟩)
set_option maxRecDepth 20000 in
theorem w_57i_24 {l : Launch} {d : Nat} {Q : z_O → z_S → Prop} {Wp : Nat → z_C} {E : m_E} {J : z_J} {X : z_X} {bc bs : Nat} {th : Nat} {x1 x2 : Int} (hs : z_Cl l (d + 0) m_me_57 Q Wp) (h : Q (.inl none) (E, J, X)) : Wp 24 [some (.inr (.inr (.ref th))), some (.inl x1), some (.inl x2)] [] (E, J, X) bc bs :=
  hs 400 [(10, 3), (17, 3), (24, 3)] [] 24 _ _ _ _ _ h
theorem z_apU {E : m_E} {c w : (Nat ⊕ (FieldType × Nat)) × List (Option Nat)} {a : Nat} (h : a < E.length) : (E ++ [c]).set a w = E.set a w ++ [c] := by rw [List.set_append_left _ _ h]
theorem z_apG {E : m_E} {w : (Nat ⊕ (FieldType × Nat)) × List (Option Nat)} {L : m_E} {a : Nat} (h : a < E.length) : (E.set a w ++ L)[a]? = some w := by rw [List.getElem?_append_left (by simp; exact h), List.getElem?_set_self h]
