/-! clean conditions of saving and restoring (written by wip/whole/gen9979.py) -/
set_option maxRecDepth 20000 in
theorem w_127n_0 {l : Launch} {d : Nat} {Q : z_O → z_S → Prop} {Wp : Nat → z_C} {g : List (Option Nat)} {T : m_E} {J : z_J} {X : z_X} {bc bs : Nat} (hs : z_Cl l (d + 2) m_me_127 Q Wp) {x1 : Int} (hg : g.getD (x1).toNat none = none)
    (h : (x1 < 0 → (Q (.inl (some (.inl 0))) (m_Ex g T, J, X))) ∧ (0 ≤ x1 → ((2 ≤ x1 → (Q (.inl (some (.inl 0))) (m_Ex g T, J, X))) ∧ (x1 < 2 → ((0 ≤ x1 ∧ x1 < 2) ∧ (((J 146 x1) = 0 → (Q (.inl (some (.inl 0))) (m_Ex g T, J, X))) ∧ ((J 146 x1) ≠ 0 → ((0 ≤ x1 ∧ x1 < 2) ∧ (Q (.inl (some (.inl 0))) (m_Ex g T, J, X)))))))))) : Wp 0 [some (.inr (.inr (.ref 0))), some (.inl x1)] [] (m_Ex g T, J, X) bc bs :=
  hs 400 [] [] 0 _ _ _ _ _ (⟨fun c4 => ⟨rfl, ⟨Or.inl rfl, (h.1 c4)⟩⟩, fun c4 => ⟨rfl, ⟨fun c3 => ⟨rfl, ⟨Or.inl rfl, ((h.2 c4).1 c3)⟩⟩, fun c3 => ⟨_, z_k0, ⟨Or.inl ⟨_, _, _, z_k146, rfl, ((h.2 c4).2 c3).1⟩, ⟨fun c2 => ⟨rfl, ⟨Or.inl rfl, (((h.2 c4).2 c3).2.1 c2)⟩⟩, fun c2 => ⟨_, z_k0, (fun (b1 : 0 ≤ x1 ∧ x1 < 2) => ⟨_, _, _, _, z_k145, rfl, b1, hg, ⟨rfl, ⟨Or.inl rfl, (((h.2 c4).2 c3).2.2 c2).2⟩⟩⟩) (((h.2 c4).2 c3).2.2 c2).1⟩⟩⟩⟩⟩⟩⟩)
set_option maxRecDepth 20000 in
theorem w_127s_0 {l : Launch} {d : Nat} {Q : z_O → z_S → Prop} {Wp : Nat → z_C} {g : List (Option Nat)} {T : m_E} {J : z_J} {X : z_X} {bc bs : Nat} (hs : z_Cl l (d + 2) m_me_127 Q Wp) {x1 : Int} {s9 : Nat} (hg : g.getD (x1).toNat none = some s9)
    (h : (x1 < 0 → (Q (.inl (some (.inl 0))) (m_Ex g T, J, X))) ∧ (0 ≤ x1 → ((2 ≤ x1 → (Q (.inl (some (.inl 0))) (m_Ex g T, J, X))) ∧ (x1 < 2 → ((0 ≤ x1 ∧ x1 < 2) ∧ (((J 146 x1) = 0 → (Q (.inl (some (.inl 0))) (m_Ex g T, J, X))) ∧ ((J 146 x1) ≠ 0 → ((0 ≤ x1 ∧ x1 < 2) ∧ ((0 ≤ x1 ∧ x1 < 2) ∧ (z_CallV l (d + 2) M_Day_copyFrom [.inr (.inr (.ref 36)), .inr (.inr (.ref s9))] (m_Ex g T) J X bc bs (fun J4 X5 c6 s7 => Q (.inl (some (.inl 1))) (m_Ex g T, J4, X5)) (fun x9 J4 X5 c6 s7 => Q (.inr x9) (m_Ex g T, J4, X5)))))))))))) : Wp 0 [some (.inr (.inr (.ref 0))), some (.inl x1)] [] (m_Ex g T, J, X) bc bs :=
  hs 400 [] [] 0 _ _ _ _ _ (⟨fun c12 => ⟨rfl, ⟨Or.inl rfl, (h.1 c12)⟩⟩, fun c12 => ⟨rfl, ⟨fun c11 => ⟨rfl, ⟨Or.inl rfl, ((h.2 c12).1 c11)⟩⟩, fun c11 => ⟨_, z_k0, ⟨Or.inl ⟨_, _, _, z_k146, rfl, ((h.2 c12).2 c11).1⟩, ⟨fun c10 => ⟨rfl, ⟨Or.inl rfl, (((h.2 c12).2 c11).2.1 c10)⟩⟩, fun c10 => ⟨_, z_k0, (fun (b1 : 0 ≤ x1 ∧ x1 < 2) => ⟨_, _, _, _, z_k145, rfl, b1, hg, ⟨_, z_k0, ⟨_, z_k0, (fun (b2 : 0 ≤ x1 ∧ x1 < 2) => ⟨_, _, _, _, z_k145, rfl, b2, hg, ⟨_, _, rfl, z_k36, rfl, rfl, z_mV9 (((h.2 c12).2 c11).2.2 c10).2.2 (fun J4 X5 c6 s7 h8 => ⟨rfl, ⟨Or.inr rfl, h8⟩⟩) (fun x9 J4 X5 c6 s7 h => h)⟩⟩) (((h.2 c12).2 c11).2.2 c10).2.1⟩⟩⟩) (((h.2 c12).2 c11).2.2 c10).1⟩⟩⟩⟩⟩⟩⟩)
set_option maxRecDepth 20000 in
theorem w_126s_0 {l : Launch} {d : Nat} {Q : z_O → z_S → Prop} {Wp : Nat → z_C} {g : List (Option Nat)} {T : m_E} {J : z_J} {X : z_X} {bc bs : Nat} (hs : z_Cl l (d + 2) m_me_126 Q Wp) {x1 : Int} {s9 : Nat} (hg : g.getD (x1).toNat none = some s9) (hd : x_at (m_Ex g T) s9)
    (h : (x1 < 0 → (Q (.inl (some (.inl 0))) (m_Ex g T, J, X))) ∧ (0 ≤ x1 → ((x1 < 2 → ((0 ≤ x1 ∧ x1 < 2) ∧ (Wp 33 [some (.inr (.inr (.ref 0))), some (.inl x1)] [] (m_Ex g T, J, X) bc bs))) ∧ (2 ≤ x1 → (Q (.inl (some (.inl 0))) (m_Ex g T, J, X)))))) : Wp 0 [some (.inr (.inr (.ref 0))), some (.inl x1)] [] (m_Ex g T, J, X) bc bs :=
  hs 400 [(33, 2)] [] 0 _ _ _ _ _ (⟨fun c3 => ⟨rfl, ⟨Or.inl rfl, (h.1 c3)⟩⟩, fun c3 => ⟨rfl, ⟨fun c2 => ⟨_, z_k0, (fun (b1 : 0 ≤ x1 ∧ x1 < 2) => ⟨_, _, _, _, z_k145, rfl, b1, hg, ((h.2 c3).1 c2).2⟩) ((h.2 c3).1 c2).1⟩, fun c2 => ⟨rfl, ⟨Or.inl rfl, ((h.2 c3).2 c2)⟩⟩⟩⟩⟩)
set_option maxRecDepth 20000 in
theorem w_126s_33 {l : Launch} {d : Nat} {Q : z_O → z_S → Prop} {Wp : Nat → z_C} {g : List (Option Nat)} {T : m_E} {J : z_J} {X : z_X} {bc bs : Nat} (hs : z_Cl l (d + 2) m_me_126 Q Wp) {x1 : Int} {s9 : Nat} (hg : g.getD (x1).toNat none = some s9) (hd : x_at (m_Ex g T) s9)
    (h : (0 ≤ x1 ∧ x1 < 2) ∧ (z_CallV l (d + 2) M_Day_copyFrom [.inr (.inr (.ref s9)), .inr (.inr (.ref 36))] (m_Ex g T) J X bc bs (fun J3 X4 c5 s6 => (0 ≤ x1 ∧ x1 < 2) ∧ (Q (.inl (some (.inl 1))) (m_Ex g T, (z_u J3 146 x1 1), X4))) (fun x8 J3 X4 c5 s6 => Q (.inr x8) (m_Ex g T, J3, X4)))) : Wp 33 [some (.inr (.inr (.ref 0))), some (.inl x1)] [] (m_Ex g T, J, X) bc bs :=
  hs 400 [(33, 2)] [] 33 _ _ _ _ _ (⟨_, z_k0, (fun (b1 : 0 ≤ x1 ∧ x1 < 2) => ⟨_, _, _, _, z_k145, rfl, b1, hg, ⟨_, z_k0, ⟨_, _, rfl, (z_d0 hd), rfl, rfl, z_mV9 h.2 (fun J3 X4 c5 s6 h7 => ⟨_, z_k0, ⟨rfl, ⟨⟨_, _, _, z_k146, rfl, h7.1, Or.inr rfl⟩, ⟨rfl, ⟨Or.inr rfl, h7.2⟩⟩⟩⟩⟩) (fun x8 J3 X4 c5 s6 h => h)⟩⟩⟩) h.1⟩)
theorem x_at36 {g : List (Option Nat)} {T : m_E} : x_at (m_Ex g T) 36 := fun k hk => match k, hk with
  | 0, _ => rfl
  | 1, _ => rfl
  | 2, _ => rfl
  | 3, _ => rfl
  | 4, _ => rfl
  | 5, _ => rfl
  | 6, _ => rfl
  | 7, _ => rfl
  | 8, _ => rfl
  | 9, _ => rfl
  | 10, _ => rfl
  | 11, _ => rfl
  | 12, _ => rfl
  | 13, _ => rfl
  | 14, _ => rfl
  | 15, _ => rfl
  | 16, _ => rfl
  | 17, _ => rfl
  | 18, _ => rfl
  | 19, _ => rfl
  | 20, _ => rfl
  | 21, _ => rfl
  | 22, _ => rfl
  | 23, _ => rfl
  | 24, _ => rfl
  | 25, _ => rfl
  | 26, _ => rfl
  | 27, _ => rfl
  | 28, _ => rfl
  | 29, _ => rfl
  | 30, _ => rfl
  | 31, _ => rfl
  | 32, _ => rfl
  | 33, _ => rfl
  | 34, _ => rfl
  | 35, _ => rfl
  | 36, _ => rfl
  | 37, _ => rfl
  | 38, _ => rfl
  | 39, _ => rfl
  | 40, _ => rfl
  | 41, _ => rfl
  | 42, _ => rfl
  | 43, _ => rfl
  | 44, _ => rfl
  | 45, _ => rfl
  | 46, _ => rfl
  | 47, _ => rfl
  | 48, _ => rfl
  | 49, _ => rfl
  | 50, _ => rfl
  | 51, _ => rfl
  | 52, _ => rfl
  | 53, _ => rfl
  | 54, _ => rfl
  | 55, _ => rfl
  | 56, _ => rfl
  | 57, _ => rfl
  | 58, _ => rfl
  | 59, _ => rfl
  | 60, _ => rfl
  | 61, _ => rfl
  | 62, _ => rfl
  | 63, _ => rfl
  | 64, _ => rfl
  | 65, _ => rfl
  | 66, _ => rfl
  | 67, _ => rfl
  | 68, _ => rfl
  | 69, _ => rfl
  | 70, _ => rfl
  | 71, _ => rfl
  | 72, _ => rfl
  | 73, _ => rfl
  | 74, _ => rfl
  | 75, _ => rfl
  | 76, _ => rfl
  | 77, _ => rfl
  | 78, _ => rfl
  | 79, _ => rfl
  | 80, _ => rfl
  | 81, _ => rfl
  | 82, _ => rfl
  | 83, _ => rfl
  | 84, _ => rfl
  | 85, _ => rfl
  | 86, _ => rfl
  | 87, _ => rfl
  | 88, _ => rfl
  | k + 89, hk => absurd hk (by omega)
