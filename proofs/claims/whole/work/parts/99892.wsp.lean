/-! what the wrappers do (written by wip/whole/gen99892.py) -/
theorem s_at {X1 : z_X} {v : Int} : ((z_u X1.1 161 0 v, X1.2) : z_X).1 161 0 = v := by show z_u X1.1 161 0 v 161 0 = v; exact z_u_at rfl
section W1
variable {l : Launch} {d : Nat} {g : List (Option Nat)} {T : m_E} {J : z_J} {X : z_X}
theorem s_addParty {a1 a2 : Int} {P : z_J → Int → Int → Prop} {Q1 : z_O → z_S → Prop} (hq : z_Sem l (d + 12) 129 [.inr (.inr (.ref 0)), .inl a1, .inl a2] (m_Ex g T, J, X) 4 24 Q1) (hQ : ∀ o S1, Q1 o S1 → ∃ (J1 : z_J) (X1 : z_X) (t : Int) (v : Int), S1 = (m_Ex g T, J1, X1) ∧ ((t = 0 ∧ o = .inl (some (.inl v))) ∨ (t = 1 ∧ o = .inr x_e1) ∨ (t = 2 ∧ o = .inr x_e2)) ∧ P J1 t v) : z_SemW l (d + 13) m_we_0 [.inr (.inr (.ref 0)), .inl a1, .inl a2, .inr (.inr (.ref 161))] (m_Ex g T, J, X) 4 24 (fun o S' => ∃ (J1 : z_J) (X2 : z_X) (t : Int) (v : Int), S' = (m_Ex g T, J1, X2) ∧ P J1 t v ∧ o = .inl (some (.inl t)) ∧ (t = 0 → X2.1 161 0 = v)) := by
  refine z_semW_of m_wok_0 (Nat.le_of_ble_eq_true rfl) (fun Wp hs hv hS => ?_)
  refine hs 400 [] [] 0 _ _ _ _ _ (⟨rfl, ⟨_, _, rfl, z_k0, rfl, rfl, ⟨4, 24, Q1, hq, Nat.le_refl _, Nat.le_refl _, fun o S1 hS1 hq1 => ?_⟩⟩⟩)
  obtain ⟨J1, X1, t, v, rfl, hc, hP⟩ := hQ o S1 hq1
  rcases hc with ⟨rfl, rfl⟩ | ⟨rfl, rfl⟩ | ⟨rfl, rfl⟩
  · exact ⟨⟨_, _, z_k161, by decide⟩, rfl, J1, _, 0, v, rfl, hP, rfl, fun _ => s_at⟩
  · exact ⟨1, by decide, J1, X1, 1, v, rfl, hP, rfl, fun h => absurd h (by decide)⟩
  · exact ⟨2, by decide, J1, X1, 2, v, rfl, hP, rfl, fun h => absurd h (by decide)⟩
theorem s_partySize {a1 : Int} {P : z_J → Int → Int → Prop} {Q1 : z_O → z_S → Prop} (hq : z_Sem l (d + 12) 131 [.inr (.inr (.ref 0)), .inl a1] (m_Ex g T, J, X) 4 24 Q1) (hQ : ∀ o S1, Q1 o S1 → ∃ (J1 : z_J) (X1 : z_X) (t : Int) (v : Int), S1 = (m_Ex g T, J1, X1) ∧ ((t = 0 ∧ o = .inl (some (.inl v))) ∨ (t = 1 ∧ o = .inr x_e1) ∨ (t = 2 ∧ o = .inr x_e2)) ∧ P J1 t v ∧ t ≠ 2) : z_SemW l (d + 13) m_we_1 [.inr (.inr (.ref 0)), .inl a1, .inr (.inr (.ref 161))] (m_Ex g T, J, X) 4 24 (fun o S' => ∃ (J1 : z_J) (X2 : z_X) (t : Int) (v : Int), S' = (m_Ex g T, J1, X2) ∧ P J1 t v ∧ o = .inl (some (.inl t)) ∧ (t = 0 → X2.1 161 0 = v)) := by
  refine z_semW_of m_wok_1 (Nat.le_of_ble_eq_true rfl) (fun Wp hs hv hS => ?_)
  refine hs 400 [] [] 0 _ _ _ _ _ (⟨rfl, ⟨_, _, rfl, z_k0, rfl, rfl, ⟨4, 24, Q1, hq, Nat.le_refl _, Nat.le_refl _, fun o S1 hS1 hq1 => ?_⟩⟩⟩)
  obtain ⟨J1, X1, t, v, rfl, hc, hP, h2⟩ := hQ o S1 hq1
  rcases hc with ⟨rfl, rfl⟩ | ⟨rfl, rfl⟩ | ⟨rfl, rfl⟩
  · exact ⟨⟨_, _, z_k161, by decide⟩, rfl, J1, _, 0, v, rfl, hP, rfl, fun _ => s_at⟩
  · exact ⟨1, by decide, J1, X1, 1, v, rfl, hP, rfl, fun h => absurd h (by decide)⟩
  · exact absurd rfl h2
theorem s_partyTier {a1 : Int} {P : z_J → Int → Int → Prop} {Q1 : z_O → z_S → Prop} (hq : z_Sem l (d + 12) 133 [.inr (.inr (.ref 0)), .inl a1] (m_Ex g T, J, X) 4 24 Q1) (hQ : ∀ o S1, Q1 o S1 → ∃ (J1 : z_J) (X1 : z_X) (t : Int) (v : Int), S1 = (m_Ex g T, J1, X1) ∧ ((t = 0 ∧ o = .inl (some (.inl v))) ∨ (t = 1 ∧ o = .inr x_e1) ∨ (t = 2 ∧ o = .inr x_e2)) ∧ P J1 t v ∧ t ≠ 2) : z_SemW l (d + 13) m_we_2 [.inr (.inr (.ref 0)), .inl a1, .inr (.inr (.ref 161))] (m_Ex g T, J, X) 4 24 (fun o S' => ∃ (J1 : z_J) (X2 : z_X) (t : Int) (v : Int), S' = (m_Ex g T, J1, X2) ∧ P J1 t v ∧ o = .inl (some (.inl t)) ∧ (t = 0 → X2.1 161 0 = v)) := by
  refine z_semW_of m_wok_2 (Nat.le_of_ble_eq_true rfl) (fun Wp hs hv hS => ?_)
  refine hs 400 [] [] 0 _ _ _ _ _ (⟨rfl, ⟨_, _, rfl, z_k0, rfl, rfl, ⟨4, 24, Q1, hq, Nat.le_refl _, Nat.le_refl _, fun o S1 hS1 hq1 => ?_⟩⟩⟩)
  obtain ⟨J1, X1, t, v, rfl, hc, hP, h2⟩ := hQ o S1 hq1
  rcases hc with ⟨rfl, rfl⟩ | ⟨rfl, rfl⟩ | ⟨rfl, rfl⟩
  · exact ⟨⟨_, _, z_k161, by decide⟩, rfl, J1, _, 0, v, rfl, hP, rfl, fun _ => s_at⟩
  · exact ⟨1, by decide, J1, X1, 1, v, rfl, hP, rfl, fun h => absurd h (by decide)⟩
  · exact absurd rfl h2
theorem s_planned {a1 a2 : Int} {P : z_J → Int → Int → Prop} {Q1 : z_O → z_S → Prop} (hq : z_Sem l (d + 12) 134 [.inr (.inr (.ref 0)), .inl a1, .inl a2] (m_Ex g T, J, X) 4 24 Q1) (hQ : ∀ o S1, Q1 o S1 → ∃ (J1 : z_J) (X1 : z_X) (t : Int) (v : Int), S1 = (m_Ex g T, J1, X1) ∧ ((t = 0 ∧ o = .inl (some (.inl v))) ∨ (t = 1 ∧ o = .inr x_e1) ∨ (t = 2 ∧ o = .inr x_e2)) ∧ P J1 t v) : z_SemW l (d + 13) m_we_3 [.inr (.inr (.ref 0)), .inl a1, .inl a2, .inr (.inr (.ref 161))] (m_Ex g T, J, X) 4 24 (fun o S' => ∃ (J1 : z_J) (X2 : z_X) (t : Int) (v : Int), S' = (m_Ex g T, J1, X2) ∧ P J1 t v ∧ o = .inl (some (.inl t)) ∧ (t = 0 → X2.1 161 0 = v)) := by
  refine z_semW_of m_wok_3 (Nat.le_of_ble_eq_true rfl) (fun Wp hs hv hS => ?_)
  refine hs 400 [] [] 0 _ _ _ _ _ (⟨rfl, ⟨_, _, rfl, z_k0, rfl, rfl, ⟨4, 24, Q1, hq, Nat.le_refl _, Nat.le_refl _, fun o S1 hS1 hq1 => ?_⟩⟩⟩)
  obtain ⟨J1, X1, t, v, rfl, hc, hP⟩ := hQ o S1 hq1
  rcases hc with ⟨rfl, rfl⟩ | ⟨rfl, rfl⟩ | ⟨rfl, rfl⟩
  · exact ⟨⟨_, _, z_k161, by decide⟩, rfl, J1, _, 0, v, rfl, hP, rfl, fun _ => s_at⟩
  · exact ⟨1, by decide, J1, X1, 1, v, rfl, hP, rfl, fun h => absurd h (by decide)⟩
  · exact ⟨2, by decide, J1, X1, 2, v, rfl, hP, rfl, fun h => absurd h (by decide)⟩
theorem s_remaining {a1 a2 : Int} {P : z_J → Int → Int → Prop} {Q1 : z_O → z_S → Prop} (hq : z_Sem l (d + 12) 137 [.inr (.inr (.ref 0)), .inl a1, .inl a2] (m_Ex g T, J, X) 4 24 Q1) (hQ : ∀ o S1, Q1 o S1 → ∃ (J1 : z_J) (X1 : z_X) (t : Int) (v : Int), S1 = (m_Ex g T, J1, X1) ∧ ((t = 0 ∧ o = .inl (some (.inl v))) ∨ (t = 1 ∧ o = .inr x_e1) ∨ (t = 2 ∧ o = .inr x_e2)) ∧ P J1 t v) : z_SemW l (d + 13) m_we_4 [.inr (.inr (.ref 0)), .inl a1, .inl a2, .inr (.inr (.ref 161))] (m_Ex g T, J, X) 4 24 (fun o S' => ∃ (J1 : z_J) (X2 : z_X) (t : Int) (v : Int), S' = (m_Ex g T, J1, X2) ∧ P J1 t v ∧ o = .inl (some (.inl t)) ∧ (t = 0 → X2.1 161 0 = v)) := by
  refine z_semW_of m_wok_4 (Nat.le_of_ble_eq_true rfl) (fun Wp hs hv hS => ?_)
  refine hs 400 [] [] 0 _ _ _ _ _ (⟨rfl, ⟨_, _, rfl, z_k0, rfl, rfl, ⟨4, 24, Q1, hq, Nat.le_refl _, Nat.le_refl _, fun o S1 hS1 hq1 => ?_⟩⟩⟩)
  obtain ⟨J1, X1, t, v, rfl, hc, hP⟩ := hQ o S1 hq1
  rcases hc with ⟨rfl, rfl⟩ | ⟨rfl, rfl⟩ | ⟨rfl, rfl⟩
  · exact ⟨⟨_, _, z_k161, by decide⟩, rfl, J1, _, 0, v, rfl, hP, rfl, fun _ => s_at⟩
  · exact ⟨1, by decide, J1, X1, 1, v, rfl, hP, rfl, fun h => absurd h (by decide)⟩
  · exact ⟨2, by decide, J1, X1, 2, v, rfl, hP, rfl, fun h => absurd h (by decide)⟩
theorem s_issue {a1 a2 a3 : Int} {P : z_J → Int → Int → Prop} {Q1 : z_O → z_S → Prop} (hq : z_Sem l (d + 12) 138 [.inr (.inr (.ref 0)), .inl a1, .inl a2, .inl a3] (m_Ex g T, J, X) 4 24 Q1) (hQ : ∀ o S1, Q1 o S1 → ∃ (J1 : z_J) (X1 : z_X) (t : Int) (v : Int), S1 = (m_Ex g T, J1, X1) ∧ ((t = 0 ∧ o = .inl (some (.inl v))) ∨ (t = 1 ∧ o = .inr x_e1) ∨ (t = 2 ∧ o = .inr x_e2)) ∧ P J1 t v) : z_SemW l (d + 13) m_we_5 [.inr (.inr (.ref 0)), .inl a1, .inl a2, .inl a3, .inr (.inr (.ref 161))] (m_Ex g T, J, X) 4 24 (fun o S' => ∃ (J1 : z_J) (X2 : z_X) (t : Int) (v : Int), S' = (m_Ex g T, J1, X2) ∧ P J1 t v ∧ o = .inl (some (.inl t)) ∧ (t = 0 → X2.1 161 0 = v)) := by
  refine z_semW_of m_wok_5 (Nat.le_of_ble_eq_true rfl) (fun Wp hs hv hS => ?_)
  refine hs 400 [] [] 0 _ _ _ _ _ (⟨rfl, ⟨_, _, rfl, z_k0, rfl, rfl, ⟨4, 24, Q1, hq, Nat.le_refl _, Nat.le_refl _, fun o S1 hS1 hq1 => ?_⟩⟩⟩)
  obtain ⟨J1, X1, t, v, rfl, hc, hP⟩ := hQ o S1 hq1
  rcases hc with ⟨rfl, rfl⟩ | ⟨rfl, rfl⟩ | ⟨rfl, rfl⟩
  · exact ⟨⟨_, _, z_k161, by decide⟩, rfl, J1, _, 0, v, rfl, hP, rfl, fun _ => s_at⟩
  · exact ⟨1, by decide, J1, X1, 1, v, rfl, hP, rfl, fun h => absurd h (by decide)⟩
  · exact ⟨2, by decide, J1, X1, 2, v, rfl, hP, rfl, fun h => absurd h (by decide)⟩
theorem s_nextWindow {a1 a2 a3 : Int} {P : z_J → Int → Int → Prop} {Q1 : z_O → z_S → Prop} (hq : z_Sem l (d + 12) 140 [.inr (.inr (.ref 0)), .inl a1, .inl a2, .inl a3] (m_Ex g T, J, X) 4 24 Q1) (hQ : ∀ o S1, Q1 o S1 → ∃ (J1 : z_J) (X1 : z_X) (t : Int) (v : Int), S1 = (m_Ex g T, J1, X1) ∧ ((t = 0 ∧ o = .inl (some (.inl v))) ∨ (t = 1 ∧ o = .inr x_e1) ∨ (t = 2 ∧ o = .inr x_e2)) ∧ P J1 t v) : z_SemW l (d + 13) m_we_6 [.inr (.inr (.ref 0)), .inl a1, .inl a2, .inl a3, .inr (.inr (.ref 161))] (m_Ex g T, J, X) 4 24 (fun o S' => ∃ (J1 : z_J) (X2 : z_X) (t : Int) (v : Int), S' = (m_Ex g T, J1, X2) ∧ P J1 t v ∧ o = .inl (some (.inl t)) ∧ (t = 0 → X2.1 161 0 = v)) := by
  refine z_semW_of m_wok_6 (Nat.le_of_ble_eq_true rfl) (fun Wp hs hv hS => ?_)
  refine hs 400 [] [] 0 _ _ _ _ _ (⟨rfl, ⟨_, _, rfl, z_k0, rfl, rfl, ⟨4, 24, Q1, hq, Nat.le_refl _, Nat.le_refl _, fun o S1 hS1 hq1 => ?_⟩⟩⟩)
  obtain ⟨J1, X1, t, v, rfl, hc, hP⟩ := hQ o S1 hq1
  rcases hc with ⟨rfl, rfl⟩ | ⟨rfl, rfl⟩ | ⟨rfl, rfl⟩
  · exact ⟨⟨_, _, z_k161, by decide⟩, rfl, J1, _, 0, v, rfl, hP, rfl, fun _ => s_at⟩
  · exact ⟨1, by decide, J1, X1, 1, v, rfl, hP, rfl, fun h => absurd h (by decide)⟩
  · exact ⟨2, by decide, J1, X1, 2, v, rfl, hP, rfl, fun h => absurd h (by decide)⟩
theorem s_issueJoint {a1 a2 a3 a4 : Int} {P : z_J → Int → Int → Prop} {Q1 : z_O → z_S → Prop} (hq : z_Sem l (d + 12) 141 [.inr (.inr (.ref 0)), .inl a1, .inl a2, .inl a3, .inl a4] (m_Ex g T, J, X) 4 24 Q1) (hQ : ∀ o S1, Q1 o S1 → ∃ (J1 : z_J) (X1 : z_X) (t : Int) (v : Int), S1 = (m_Ex g T, J1, X1) ∧ ((t = 0 ∧ o = .inl (some (.inl v))) ∨ (t = 1 ∧ o = .inr x_e1) ∨ (t = 2 ∧ o = .inr x_e2)) ∧ P J1 t v) : z_SemW l (d + 13) m_we_7 [.inr (.inr (.ref 0)), .inl a1, .inl a2, .inl a3, .inl a4, .inr (.inr (.ref 161))] (m_Ex g T, J, X) 4 24 (fun o S' => ∃ (J1 : z_J) (X2 : z_X) (t : Int) (v : Int), S' = (m_Ex g T, J1, X2) ∧ P J1 t v ∧ o = .inl (some (.inl t)) ∧ (t = 0 → X2.1 161 0 = v)) := by
  refine z_semW_of m_wok_7 (Nat.le_of_ble_eq_true rfl) (fun Wp hs hv hS => ?_)
  refine hs 400 [] [] 0 _ _ _ _ _ (⟨rfl, ⟨_, _, rfl, z_k0, rfl, rfl, ⟨4, 24, Q1, hq, Nat.le_refl _, Nat.le_refl _, fun o S1 hS1 hq1 => ?_⟩⟩⟩)
  obtain ⟨J1, X1, t, v, rfl, hc, hP⟩ := hQ o S1 hq1
  rcases hc with ⟨rfl, rfl⟩ | ⟨rfl, rfl⟩ | ⟨rfl, rfl⟩
  · exact ⟨⟨_, _, z_k161, by decide⟩, rfl, J1, _, 0, v, rfl, hP, rfl, fun _ => s_at⟩
  · exact ⟨1, by decide, J1, X1, 1, v, rfl, hP, rfl, fun h => absurd h (by decide)⟩
  · exact ⟨2, by decide, J1, X1, 2, v, rfl, hP, rfl, fun h => absurd h (by decide)⟩
theorem s_moveTicket {a1 a2 : Int} {P : z_J → Int → Int → Prop} {Q1 : z_O → z_S → Prop} (hq : z_Sem l (d + 12) 142 [.inr (.inr (.ref 0)), .inl a1, .inl a2] (m_Ex g T, J, X) 4 24 Q1) (hQ : ∀ o S1, Q1 o S1 → ∃ (J1 : z_J) (X1 : z_X) (t : Int) (v : Int), S1 = (m_Ex g T, J1, X1) ∧ ((t = 0 ∧ o = .inl (some (.inl v))) ∨ (t = 1 ∧ o = .inr x_e1) ∨ (t = 2 ∧ o = .inr x_e2)) ∧ P J1 t v) : z_SemW l (d + 13) m_we_8 [.inr (.inr (.ref 0)), .inl a1, .inl a2, .inr (.inr (.ref 161))] (m_Ex g T, J, X) 4 24 (fun o S' => ∃ (J1 : z_J) (X2 : z_X) (t : Int) (v : Int), S' = (m_Ex g T, J1, X2) ∧ P J1 t v ∧ o = .inl (some (.inl t)) ∧ (t = 0 → X2.1 161 0 = v)) := by
  refine z_semW_of m_wok_8 (Nat.le_of_ble_eq_true rfl) (fun Wp hs hv hS => ?_)
  refine hs 400 [] [] 0 _ _ _ _ _ (⟨rfl, ⟨_, _, rfl, z_k0, rfl, rfl, ⟨4, 24, Q1, hq, Nat.le_refl _, Nat.le_refl _, fun o S1 hS1 hq1 => ?_⟩⟩⟩)
  obtain ⟨J1, X1, t, v, rfl, hc, hP⟩ := hQ o S1 hq1
  rcases hc with ⟨rfl, rfl⟩ | ⟨rfl, rfl⟩ | ⟨rfl, rfl⟩
  · exact ⟨⟨_, _, z_k161, by decide⟩, rfl, J1, _, 0, v, rfl, hP, rfl, fun _ => s_at⟩
  · exact ⟨1, by decide, J1, X1, 1, v, rfl, hP, rfl, fun h => absurd h (by decide)⟩
  · exact ⟨2, by decide, J1, X1, 2, v, rfl, hP, rfl, fun h => absurd h (by decide)⟩
theorem s_exchange {a1 a2 a3 : Int} {P : z_J → Int → Int → Prop} {Q1 : z_O → z_S → Prop} (hq : z_Sem l (d + 12) 144 [.inr (.inr (.ref 0)), .inl a1, .inl a2, .inl a3] (m_Ex g T, J, X) 4 24 Q1) (hQ : ∀ o S1, Q1 o S1 → ∃ (J1 : z_J) (X1 : z_X) (t : Int) (v : Int), S1 = (m_Ex g T, J1, X1) ∧ ((t = 0 ∧ o = .inl (some (.inl v))) ∨ (t = 1 ∧ o = .inr x_e1) ∨ (t = 2 ∧ o = .inr x_e2)) ∧ P J1 t v) : z_SemW l (d + 13) m_we_9 [.inr (.inr (.ref 0)), .inl a1, .inl a2, .inl a3, .inr (.inr (.ref 161))] (m_Ex g T, J, X) 4 24 (fun o S' => ∃ (J1 : z_J) (X2 : z_X) (t : Int) (v : Int), S' = (m_Ex g T, J1, X2) ∧ P J1 t v ∧ o = .inl (some (.inl t)) ∧ (t = 0 → X2.1 161 0 = v)) := by
  refine z_semW_of m_wok_9 (Nat.le_of_ble_eq_true rfl) (fun Wp hs hv hS => ?_)
  refine hs 400 [] [] 0 _ _ _ _ _ (⟨rfl, ⟨_, _, rfl, z_k0, rfl, rfl, ⟨4, 24, Q1, hq, Nat.le_refl _, Nat.le_refl _, fun o S1 hS1 hq1 => ?_⟩⟩⟩)
  obtain ⟨J1, X1, t, v, rfl, hc, hP⟩ := hQ o S1 hq1
  rcases hc with ⟨rfl, rfl⟩ | ⟨rfl, rfl⟩ | ⟨rfl, rfl⟩
  · exact ⟨⟨_, _, z_k161, by decide⟩, rfl, J1, _, 0, v, rfl, hP, rfl, fun _ => s_at⟩
  · exact ⟨1, by decide, J1, X1, 1, v, rfl, hP, rfl, fun h => absurd h (by decide)⟩
  · exact ⟨2, by decide, J1, X1, 2, v, rfl, hP, rfl, fun h => absurd h (by decide)⟩
theorem s_cancel {a1 : Int} {P : z_J → Int → Int → Prop} {Q1 : z_O → z_S → Prop} (hq : z_Sem l (d + 12) 145 [.inr (.inr (.ref 0)), .inl a1] (m_Ex g T, J, X) 4 24 Q1) (hQ : ∀ o S1, Q1 o S1 → ∃ (J1 : z_J) (X1 : z_X) (t : Int) (v : Int), S1 = (m_Ex g T, J1, X1) ∧ ((t = 0 ∧ o = .inl (some (.inl v))) ∨ (t = 1 ∧ o = .inr x_e1) ∨ (t = 2 ∧ o = .inr x_e2)) ∧ P J1 t v ∧ t ≠ 2) : z_SemW l (d + 13) m_we_10 [.inr (.inr (.ref 0)), .inl a1, .inr (.inr (.ref 161))] (m_Ex g T, J, X) 4 24 (fun o S' => ∃ (J1 : z_J) (X2 : z_X) (t : Int) (v : Int), S' = (m_Ex g T, J1, X2) ∧ P J1 t v ∧ o = .inl (some (.inl t)) ∧ (t = 0 → X2.1 161 0 = v)) := by
  refine z_semW_of m_wok_10 (Nat.le_of_ble_eq_true rfl) (fun Wp hs hv hS => ?_)
  refine hs 400 [] [] 0 _ _ _ _ _ (⟨rfl, ⟨_, _, rfl, z_k0, rfl, rfl, ⟨4, 24, Q1, hq, Nat.le_refl _, Nat.le_refl _, fun o S1 hS1 hq1 => ?_⟩⟩⟩)
  obtain ⟨J1, X1, t, v, rfl, hc, hP, h2⟩ := hQ o S1 hq1
  rcases hc with ⟨rfl, rfl⟩ | ⟨rfl, rfl⟩ | ⟨rfl, rfl⟩
  · exact ⟨⟨_, _, z_k161, by decide⟩, rfl, J1, _, 0, v, rfl, hP, rfl, fun _ => s_at⟩
  · exact ⟨1, by decide, J1, X1, 1, v, rfl, hP, rfl, fun h => absurd h (by decide)⟩
  · exact absurd rfl h2
theorem s_redeem {a1 : Int} {P : z_J → Int → Int → Prop} {Q1 : z_O → z_S → Prop} (hq : z_Sem l (d + 12) 146 [.inr (.inr (.ref 0)), .inl a1] (m_Ex g T, J, X) 4 24 Q1) (hQ : ∀ o S1, Q1 o S1 → ∃ (J1 : z_J) (X1 : z_X) (t : Int) (v : Int), S1 = (m_Ex g T, J1, X1) ∧ ((t = 0 ∧ o = .inl (some (.inl v))) ∨ (t = 1 ∧ o = .inr x_e1) ∨ (t = 2 ∧ o = .inr x_e2)) ∧ P J1 t v ∧ t ≠ 2) : z_SemW l (d + 13) m_we_11 [.inr (.inr (.ref 0)), .inl a1, .inr (.inr (.ref 161))] (m_Ex g T, J, X) 4 24 (fun o S' => ∃ (J1 : z_J) (X2 : z_X) (t : Int) (v : Int), S' = (m_Ex g T, J1, X2) ∧ P J1 t v ∧ o = .inl (some (.inl t)) ∧ (t = 0 → X2.1 161 0 = if v = 0 then 0 else 1)) := by
  refine z_semW_of m_wok_11 (Nat.le_of_ble_eq_true rfl) (fun Wp hs hv hS => ?_)
  refine hs 400 [] [] 0 _ _ _ _ _ (⟨rfl, ⟨_, _, rfl, z_k0, rfl, rfl, ⟨4, 24, Q1, hq, Nat.le_refl _, Nat.le_refl _, fun o S1 hS1 hq1 => ?_⟩⟩⟩)
  obtain ⟨J1, X1, t, v, rfl, hc, hP, h2⟩ := hQ o S1 hq1
  rcases hc with ⟨rfl, rfl⟩ | ⟨rfl, rfl⟩ | ⟨rfl, rfl⟩
  · exact ⟨fun c0 => ⟨⟨_, _, z_k161, by decide⟩, rfl, J1, _, 0, v, rfl, hP, rfl, fun _ => by rw [if_pos c0]; exact s_at⟩, fun c0 => ⟨⟨_, _, z_k161, by decide⟩, rfl, J1, _, 0, v, rfl, hP, rfl, fun _ => by rw [if_neg c0]; exact s_at⟩⟩
  · exact ⟨1, by decide, J1, X1, 1, v, rfl, hP, rfl, fun h => absurd h (by decide)⟩
  · exact absurd rfl h2
theorem s_redeemOpen {a1 a2 : Int} {P : z_J → Int → Int → Prop} {Q1 : z_O → z_S → Prop} (hq : z_Sem l (d + 12) 147 [.inr (.inr (.ref 0)), .inl a1, .inl a2] (m_Ex g T, J, X) 4 24 Q1) (hQ : ∀ o S1, Q1 o S1 → ∃ (J1 : z_J) (X1 : z_X) (t : Int) (v : Int), S1 = (m_Ex g T, J1, X1) ∧ ((t = 0 ∧ o = .inl (some (.inl v))) ∨ (t = 1 ∧ o = .inr x_e1) ∨ (t = 2 ∧ o = .inr x_e2)) ∧ P J1 t v ∧ t ≠ 2) : z_SemW l (d + 13) m_we_12 [.inr (.inr (.ref 0)), .inl a1, .inl a2, .inr (.inr (.ref 161))] (m_Ex g T, J, X) 4 24 (fun o S' => ∃ (J1 : z_J) (X2 : z_X) (t : Int) (v : Int), S' = (m_Ex g T, J1, X2) ∧ P J1 t v ∧ o = .inl (some (.inl t)) ∧ (t = 0 → X2.1 161 0 = if v = 0 then 0 else 1)) := by
  refine z_semW_of m_wok_12 (Nat.le_of_ble_eq_true rfl) (fun Wp hs hv hS => ?_)
  refine hs 400 [] [] 0 _ _ _ _ _ (⟨rfl, ⟨_, _, rfl, z_k0, rfl, rfl, ⟨4, 24, Q1, hq, Nat.le_refl _, Nat.le_refl _, fun o S1 hS1 hq1 => ?_⟩⟩⟩)
  obtain ⟨J1, X1, t, v, rfl, hc, hP, h2⟩ := hQ o S1 hq1
  rcases hc with ⟨rfl, rfl⟩ | ⟨rfl, rfl⟩ | ⟨rfl, rfl⟩
  · exact ⟨fun c0 => ⟨⟨_, _, z_k161, by decide⟩, rfl, J1, _, 0, v, rfl, hP, rfl, fun _ => by rw [if_pos c0]; exact s_at⟩, fun c0 => ⟨⟨_, _, z_k161, by decide⟩, rfl, J1, _, 0, v, rfl, hP, rfl, fun _ => by rw [if_neg c0]; exact s_at⟩⟩
  · exact ⟨1, by decide, J1, X1, 1, v, rfl, hP, rfl, fun h => absurd h (by decide)⟩
  · exact absurd rfl h2
theorem s_ticketParty {a1 : Int} {P : z_J → Int → Int → Prop} {Q1 : z_O → z_S → Prop} (hq : z_Sem l (d + 12) 148 [.inr (.inr (.ref 0)), .inl a1] (m_Ex g T, J, X) 4 24 Q1) (hQ : ∀ o S1, Q1 o S1 → ∃ (J1 : z_J) (X1 : z_X) (t : Int) (v : Int), S1 = (m_Ex g T, J1, X1) ∧ ((t = 0 ∧ o = .inl (some (.inl v))) ∨ (t = 1 ∧ o = .inr x_e1) ∨ (t = 2 ∧ o = .inr x_e2)) ∧ P J1 t v ∧ t ≠ 2) : z_SemW l (d + 13) m_we_13 [.inr (.inr (.ref 0)), .inl a1, .inr (.inr (.ref 161))] (m_Ex g T, J, X) 4 24 (fun o S' => ∃ (J1 : z_J) (X2 : z_X) (t : Int) (v : Int), S' = (m_Ex g T, J1, X2) ∧ P J1 t v ∧ o = .inl (some (.inl t)) ∧ (t = 0 → X2.1 161 0 = v)) := by
  refine z_semW_of m_wok_13 (Nat.le_of_ble_eq_true rfl) (fun Wp hs hv hS => ?_)
  refine hs 400 [] [] 0 _ _ _ _ _ (⟨rfl, ⟨_, _, rfl, z_k0, rfl, rfl, ⟨4, 24, Q1, hq, Nat.le_refl _, Nat.le_refl _, fun o S1 hS1 hq1 => ?_⟩⟩⟩)
  obtain ⟨J1, X1, t, v, rfl, hc, hP, h2⟩ := hQ o S1 hq1
  rcases hc with ⟨rfl, rfl⟩ | ⟨rfl, rfl⟩ | ⟨rfl, rfl⟩
  · exact ⟨⟨_, _, z_k161, by decide⟩, rfl, J1, _, 0, v, rfl, hP, rfl, fun _ => s_at⟩
  · exact ⟨1, by decide, J1, X1, 1, v, rfl, hP, rfl, fun h => absurd h (by decide)⟩
  · exact absurd rfl h2
theorem s_ticketRide {a1 : Int} {P : z_J → Int → Int → Prop} {Q1 : z_O → z_S → Prop} (hq : z_Sem l (d + 12) 149 [.inr (.inr (.ref 0)), .inl a1] (m_Ex g T, J, X) 4 24 Q1) (hQ : ∀ o S1, Q1 o S1 → ∃ (J1 : z_J) (X1 : z_X) (t : Int) (v : Int), S1 = (m_Ex g T, J1, X1) ∧ ((t = 0 ∧ o = .inl (some (.inl v))) ∨ (t = 1 ∧ o = .inr x_e1) ∨ (t = 2 ∧ o = .inr x_e2)) ∧ P J1 t v ∧ t ≠ 2) : z_SemW l (d + 13) m_we_14 [.inr (.inr (.ref 0)), .inl a1, .inr (.inr (.ref 161))] (m_Ex g T, J, X) 4 24 (fun o S' => ∃ (J1 : z_J) (X2 : z_X) (t : Int) (v : Int), S' = (m_Ex g T, J1, X2) ∧ P J1 t v ∧ o = .inl (some (.inl t)) ∧ (t = 0 → X2.1 161 0 = v)) := by
  refine z_semW_of m_wok_14 (Nat.le_of_ble_eq_true rfl) (fun Wp hs hv hS => ?_)
  refine hs 400 [] [] 0 _ _ _ _ _ (⟨rfl, ⟨_, _, rfl, z_k0, rfl, rfl, ⟨4, 24, Q1, hq, Nat.le_refl _, Nat.le_refl _, fun o S1 hS1 hq1 => ?_⟩⟩⟩)
  obtain ⟨J1, X1, t, v, rfl, hc, hP, h2⟩ := hQ o S1 hq1
  rcases hc with ⟨rfl, rfl⟩ | ⟨rfl, rfl⟩ | ⟨rfl, rfl⟩
  · exact ⟨⟨_, _, z_k161, by decide⟩, rfl, J1, _, 0, v, rfl, hP, rfl, fun _ => s_at⟩
  · exact ⟨1, by decide, J1, X1, 1, v, rfl, hP, rfl, fun h => absurd h (by decide)⟩
  · exact absurd rfl h2
theorem s_ticketStart {a1 : Int} {P : z_J → Int → Int → Prop} {Q1 : z_O → z_S → Prop} (hq : z_Sem l (d + 12) 150 [.inr (.inr (.ref 0)), .inl a1] (m_Ex g T, J, X) 4 24 Q1) (hQ : ∀ o S1, Q1 o S1 → ∃ (J1 : z_J) (X1 : z_X) (t : Int) (v : Int), S1 = (m_Ex g T, J1, X1) ∧ ((t = 0 ∧ o = .inl (some (.inl v))) ∨ (t = 1 ∧ o = .inr x_e1) ∨ (t = 2 ∧ o = .inr x_e2)) ∧ P J1 t v ∧ t ≠ 2) : z_SemW l (d + 13) m_we_15 [.inr (.inr (.ref 0)), .inl a1, .inr (.inr (.ref 161))] (m_Ex g T, J, X) 4 24 (fun o S' => ∃ (J1 : z_J) (X2 : z_X) (t : Int) (v : Int), S' = (m_Ex g T, J1, X2) ∧ P J1 t v ∧ o = .inl (some (.inl t)) ∧ (t = 0 → X2.1 161 0 = v)) := by
  refine z_semW_of m_wok_15 (Nat.le_of_ble_eq_true rfl) (fun Wp hs hv hS => ?_)
  refine hs 400 [] [] 0 _ _ _ _ _ (⟨rfl, ⟨_, _, rfl, z_k0, rfl, rfl, ⟨4, 24, Q1, hq, Nat.le_refl _, Nat.le_refl _, fun o S1 hS1 hq1 => ?_⟩⟩⟩)
  obtain ⟨J1, X1, t, v, rfl, hc, hP, h2⟩ := hQ o S1 hq1
  rcases hc with ⟨rfl, rfl⟩ | ⟨rfl, rfl⟩ | ⟨rfl, rfl⟩
  · exact ⟨⟨_, _, z_k161, by decide⟩, rfl, J1, _, 0, v, rfl, hP, rfl, fun _ => s_at⟩
  · exact ⟨1, by decide, J1, X1, 1, v, rfl, hP, rfl, fun h => absurd h (by decide)⟩
  · exact absurd rfl h2
theorem s_ticketEnd {a1 : Int} {P : z_J → Int → Int → Prop} {Q1 : z_O → z_S → Prop} (hq : z_Sem l (d + 12) 151 [.inr (.inr (.ref 0)), .inl a1] (m_Ex g T, J, X) 4 24 Q1) (hQ : ∀ o S1, Q1 o S1 → ∃ (J1 : z_J) (X1 : z_X) (t : Int) (v : Int), S1 = (m_Ex g T, J1, X1) ∧ ((t = 0 ∧ o = .inl (some (.inl v))) ∨ (t = 1 ∧ o = .inr x_e1) ∨ (t = 2 ∧ o = .inr x_e2)) ∧ P J1 t v ∧ t ≠ 2) : z_SemW l (d + 13) m_we_16 [.inr (.inr (.ref 0)), .inl a1, .inr (.inr (.ref 161))] (m_Ex g T, J, X) 4 24 (fun o S' => ∃ (J1 : z_J) (X2 : z_X) (t : Int) (v : Int), S' = (m_Ex g T, J1, X2) ∧ P J1 t v ∧ o = .inl (some (.inl t)) ∧ (t = 0 → X2.1 161 0 = v)) := by
  refine z_semW_of m_wok_16 (Nat.le_of_ble_eq_true rfl) (fun Wp hs hv hS => ?_)
  refine hs 400 [] [] 0 _ _ _ _ _ (⟨rfl, ⟨_, _, rfl, z_k0, rfl, rfl, ⟨4, 24, Q1, hq, Nat.le_refl _, Nat.le_refl _, fun o S1 hS1 hq1 => ?_⟩⟩⟩)
  obtain ⟨J1, X1, t, v, rfl, hc, hP, h2⟩ := hQ o S1 hq1
  rcases hc with ⟨rfl, rfl⟩ | ⟨rfl, rfl⟩ | ⟨rfl, rfl⟩
  · exact ⟨⟨_, _, z_k161, by decide⟩, rfl, J1, _, 0, v, rfl, hP, rfl, fun _ => s_at⟩
  · exact ⟨1, by decide, J1, X1, 1, v, rfl, hP, rfl, fun h => absurd h (by decide)⟩
  · exact absurd rfl h2
theorem s_ticketState {a1 : Int} {P : z_J → Int → Int → Prop} {Q1 : z_O → z_S → Prop} (hq : z_Sem l (d + 12) 152 [.inr (.inr (.ref 0)), .inl a1] (m_Ex g T, J, X) 4 24 Q1) (hQ : ∀ o S1, Q1 o S1 → ∃ (J1 : z_J) (X1 : z_X) (t : Int) (v : Int), S1 = (m_Ex g T, J1, X1) ∧ ((t = 0 ∧ o = .inl (some (.inl v))) ∨ (t = 1 ∧ o = .inr x_e1) ∨ (t = 2 ∧ o = .inr x_e2)) ∧ P J1 t v ∧ t ≠ 2) : z_SemW l (d + 13) m_we_17 [.inr (.inr (.ref 0)), .inl a1, .inr (.inr (.ref 161))] (m_Ex g T, J, X) 4 24 (fun o S' => ∃ (J1 : z_J) (X2 : z_X) (t : Int) (v : Int), S' = (m_Ex g T, J1, X2) ∧ P J1 t v ∧ o = .inl (some (.inl t)) ∧ (t = 0 → X2.1 161 0 = v)) := by
  refine z_semW_of m_wok_17 (Nat.le_of_ble_eq_true rfl) (fun Wp hs hv hS => ?_)
  refine hs 400 [] [] 0 _ _ _ _ _ (⟨rfl, ⟨_, _, rfl, z_k0, rfl, rfl, ⟨4, 24, Q1, hq, Nat.le_refl _, Nat.le_refl _, fun o S1 hS1 hq1 => ?_⟩⟩⟩)
  obtain ⟨J1, X1, t, v, rfl, hc, hP, h2⟩ := hQ o S1 hq1
  rcases hc with ⟨rfl, rfl⟩ | ⟨rfl, rfl⟩ | ⟨rfl, rfl⟩
  · exact ⟨⟨_, _, z_k161, by decide⟩, rfl, J1, _, 0, v, rfl, hP, rfl, fun _ => s_at⟩
  · exact ⟨1, by decide, J1, X1, 1, v, rfl, hP, rfl, fun h => absurd h (by decide)⟩
  · exact absurd rfl h2
theorem s_ticketExtension {a1 : Int} {P : z_J → Int → Int → Prop} {Q1 : z_O → z_S → Prop} (hq : z_Sem l (d + 12) 153 [.inr (.inr (.ref 0)), .inl a1] (m_Ex g T, J, X) 4 24 Q1) (hQ : ∀ o S1, Q1 o S1 → ∃ (J1 : z_J) (X1 : z_X) (t : Int) (v : Int), S1 = (m_Ex g T, J1, X1) ∧ ((t = 0 ∧ o = .inl (some (.inl v))) ∨ (t = 1 ∧ o = .inr x_e1) ∨ (t = 2 ∧ o = .inr x_e2)) ∧ P J1 t v ∧ t ≠ 2) : z_SemW l (d + 13) m_we_18 [.inr (.inr (.ref 0)), .inl a1, .inr (.inr (.ref 161))] (m_Ex g T, J, X) 4 24 (fun o S' => ∃ (J1 : z_J) (X2 : z_X) (t : Int) (v : Int), S' = (m_Ex g T, J1, X2) ∧ P J1 t v ∧ o = .inl (some (.inl t)) ∧ (t = 0 → X2.1 161 0 = v)) := by
  refine z_semW_of m_wok_18 (Nat.le_of_ble_eq_true rfl) (fun Wp hs hv hS => ?_)
  refine hs 400 [] [] 0 _ _ _ _ _ (⟨rfl, ⟨_, _, rfl, z_k0, rfl, rfl, ⟨4, 24, Q1, hq, Nat.le_refl _, Nat.le_refl _, fun o S1 hS1 hq1 => ?_⟩⟩⟩)
  obtain ⟨J1, X1, t, v, rfl, hc, hP, h2⟩ := hQ o S1 hq1
  rcases hc with ⟨rfl, rfl⟩ | ⟨rfl, rfl⟩ | ⟨rfl, rfl⟩
  · exact ⟨⟨_, _, z_k161, by decide⟩, rfl, J1, _, 0, v, rfl, hP, rfl, fun _ => s_at⟩
  · exact ⟨1, by decide, J1, X1, 1, v, rfl, hP, rfl, fun h => absurd h (by decide)⟩
  · exact absurd rfl h2
theorem s_countTickets {a1 a2 : Int} {P : z_J → Int → Int → Prop} {Q1 : z_O → z_S → Prop} (hq : z_Sem l (d + 12) 154 [.inr (.inr (.ref 0)), .inl a1, .inl a2] (m_Ex g T, J, X) 4 24 Q1) (hQ : ∀ o S1, Q1 o S1 → ∃ (J1 : z_J) (X1 : z_X) (t : Int) (v : Int), S1 = (m_Ex g T, J1, X1) ∧ ((t = 0 ∧ o = .inl (some (.inl v))) ∨ (t = 1 ∧ o = .inr x_e1) ∨ (t = 2 ∧ o = .inr x_e2)) ∧ P J1 t v) : z_SemW l (d + 13) m_we_19 [.inr (.inr (.ref 0)), .inl a1, .inl a2, .inr (.inr (.ref 161))] (m_Ex g T, J, X) 4 24 (fun o S' => ∃ (J1 : z_J) (X2 : z_X) (t : Int) (v : Int), S' = (m_Ex g T, J1, X2) ∧ P J1 t v ∧ o = .inl (some (.inl t)) ∧ (t = 0 → X2.1 161 0 = v)) := by
  refine z_semW_of m_wok_19 (Nat.le_of_ble_eq_true rfl) (fun Wp hs hv hS => ?_)
  refine hs 400 [] [] 0 _ _ _ _ _ (⟨rfl, ⟨_, _, rfl, z_k0, rfl, rfl, ⟨4, 24, Q1, hq, Nat.le_refl _, Nat.le_refl _, fun o S1 hS1 hq1 => ?_⟩⟩⟩)
  obtain ⟨J1, X1, t, v, rfl, hc, hP⟩ := hQ o S1 hq1
  rcases hc with ⟨rfl, rfl⟩ | ⟨rfl, rfl⟩ | ⟨rfl, rfl⟩
  · exact ⟨⟨_, _, z_k161, by decide⟩, rfl, J1, _, 0, v, rfl, hP, rfl, fun _ => s_at⟩
  · exact ⟨1, by decide, J1, X1, 1, v, rfl, hP, rfl, fun h => absurd h (by decide)⟩
  · exact ⟨2, by decide, J1, X1, 2, v, rfl, hP, rfl, fun h => absurd h (by decide)⟩
theorem s_itinerary {a1 a2 : Int} {P : z_J → Int → Int → Prop} {Q1 : z_O → z_S → Prop} (hq : z_Sem l (d + 12) 155 [.inr (.inr (.ref 0)), .inl a1, .inl a2] (m_Ex g T, J, X) 4 24 Q1) (hQ : ∀ o S1, Q1 o S1 → ∃ (J1 : z_J) (X1 : z_X) (t : Int) (v : Int), S1 = (m_Ex g T, J1, X1) ∧ ((t = 0 ∧ o = .inl (some (.inl v))) ∨ (t = 1 ∧ o = .inr x_e1) ∨ (t = 2 ∧ o = .inr x_e2)) ∧ P J1 t v ∧ t ≠ 2) : z_SemW l (d + 13) m_we_20 [.inr (.inr (.ref 0)), .inl a1, .inl a2, .inr (.inr (.ref 161))] (m_Ex g T, J, X) 4 24 (fun o S' => ∃ (J1 : z_J) (X2 : z_X) (t : Int) (v : Int), S' = (m_Ex g T, J1, X2) ∧ P J1 t v ∧ o = .inl (some (.inl t)) ∧ (t = 0 → X2.1 161 0 = v)) := by
  refine z_semW_of m_wok_20 (Nat.le_of_ble_eq_true rfl) (fun Wp hs hv hS => ?_)
  refine hs 400 [] [] 0 _ _ _ _ _ (⟨rfl, ⟨_, _, rfl, z_k0, rfl, rfl, ⟨4, 24, Q1, hq, Nat.le_refl _, Nat.le_refl _, fun o S1 hS1 hq1 => ?_⟩⟩⟩)
  obtain ⟨J1, X1, t, v, rfl, hc, hP, h2⟩ := hQ o S1 hq1
  rcases hc with ⟨rfl, rfl⟩ | ⟨rfl, rfl⟩ | ⟨rfl, rfl⟩
  · exact ⟨⟨_, _, z_k161, by decide⟩, rfl, J1, _, 0, v, rfl, hP, rfl, fun _ => s_at⟩
  · exact ⟨1, by decide, J1, X1, 1, v, rfl, hP, rfl, fun h => absurd h (by decide)⟩
  · exact absurd rfl h2
theorem s_joinWaitlist {a1 a2 : Int} {P : z_J → Int → Int → Prop} {Q1 : z_O → z_S → Prop} (hq : z_Sem l (d + 12) 156 [.inr (.inr (.ref 0)), .inl a1, .inl a2] (m_Ex g T, J, X) 4 24 Q1) (hQ : ∀ o S1, Q1 o S1 → ∃ (J1 : z_J) (X1 : z_X) (t : Int) (v : Int), S1 = (m_Ex g T, J1, X1) ∧ ((t = 0 ∧ o = .inl (some (.inl v))) ∨ (t = 1 ∧ o = .inr x_e1) ∨ (t = 2 ∧ o = .inr x_e2)) ∧ P J1 t v ∧ t ≠ 2) : z_SemW l (d + 13) m_we_21 [.inr (.inr (.ref 0)), .inl a1, .inl a2, .inr (.inr (.ref 161))] (m_Ex g T, J, X) 4 24 (fun o S' => ∃ (J1 : z_J) (X2 : z_X) (t : Int) (v : Int), S' = (m_Ex g T, J1, X2) ∧ P J1 t v ∧ o = .inl (some (.inl t)) ∧ (t = 0 → X2.1 161 0 = v)) := by
  refine z_semW_of m_wok_21 (Nat.le_of_ble_eq_true rfl) (fun Wp hs hv hS => ?_)
  refine hs 400 [] [] 0 _ _ _ _ _ (⟨rfl, ⟨_, _, rfl, z_k0, rfl, rfl, ⟨4, 24, Q1, hq, Nat.le_refl _, Nat.le_refl _, fun o S1 hS1 hq1 => ?_⟩⟩⟩)
  obtain ⟨J1, X1, t, v, rfl, hc, hP, h2⟩ := hQ o S1 hq1
  rcases hc with ⟨rfl, rfl⟩ | ⟨rfl, rfl⟩ | ⟨rfl, rfl⟩
  · exact ⟨⟨_, _, z_k161, by decide⟩, rfl, J1, _, 0, v, rfl, hP, rfl, fun _ => s_at⟩
  · exact ⟨1, by decide, J1, X1, 1, v, rfl, hP, rfl, fun h => absurd h (by decide)⟩
  · exact absurd rfl h2
theorem s_leaveWaitlist {a1 a2 : Int} {P : z_J → Int → Int → Prop} {Q1 : z_O → z_S → Prop} (hq : z_Sem l (d + 12) 157 [.inr (.inr (.ref 0)), .inl a1, .inl a2] (m_Ex g T, J, X) 4 24 Q1) (hQ : ∀ o S1, Q1 o S1 → ∃ (J1 : z_J) (X1 : z_X) (t : Int) (v : Int), S1 = (m_Ex g T, J1, X1) ∧ ((t = 0 ∧ o = .inl (some (.inl v))) ∨ (t = 1 ∧ o = .inr x_e1) ∨ (t = 2 ∧ o = .inr x_e2)) ∧ P J1 t v ∧ t ≠ 2) : z_SemW l (d + 13) m_we_22 [.inr (.inr (.ref 0)), .inl a1, .inl a2, .inr (.inr (.ref 161))] (m_Ex g T, J, X) 4 24 (fun o S' => ∃ (J1 : z_J) (X2 : z_X) (t : Int) (v : Int), S' = (m_Ex g T, J1, X2) ∧ P J1 t v ∧ o = .inl (some (.inl t)) ∧ (t = 0 → X2.1 161 0 = if v = 0 then 0 else 1)) := by
  refine z_semW_of m_wok_22 (Nat.le_of_ble_eq_true rfl) (fun Wp hs hv hS => ?_)
  refine hs 400 [] [] 0 _ _ _ _ _ (⟨rfl, ⟨_, _, rfl, z_k0, rfl, rfl, ⟨4, 24, Q1, hq, Nat.le_refl _, Nat.le_refl _, fun o S1 hS1 hq1 => ?_⟩⟩⟩)
  obtain ⟨J1, X1, t, v, rfl, hc, hP, h2⟩ := hQ o S1 hq1
  rcases hc with ⟨rfl, rfl⟩ | ⟨rfl, rfl⟩ | ⟨rfl, rfl⟩
  · exact ⟨fun c0 => ⟨⟨_, _, z_k161, by decide⟩, rfl, J1, _, 0, v, rfl, hP, rfl, fun _ => by rw [if_pos c0]; exact s_at⟩, fun c0 => ⟨⟨_, _, z_k161, by decide⟩, rfl, J1, _, 0, v, rfl, hP, rfl, fun _ => by rw [if_neg c0]; exact s_at⟩⟩
  · exact ⟨1, by decide, J1, X1, 1, v, rfl, hP, rfl, fun h => absurd h (by decide)⟩
  · exact absurd rfl h2
theorem s_waitlistAt {a1 a2 : Int} {P : z_J → Int → Int → Prop} {Q1 : z_O → z_S → Prop} (hq : z_Sem l (d + 12) 158 [.inr (.inr (.ref 0)), .inl a1, .inl a2] (m_Ex g T, J, X) 4 24 Q1) (hQ : ∀ o S1, Q1 o S1 → ∃ (J1 : z_J) (X1 : z_X) (t : Int) (v : Int), S1 = (m_Ex g T, J1, X1) ∧ ((t = 0 ∧ o = .inl (some (.inl v))) ∨ (t = 1 ∧ o = .inr x_e1) ∨ (t = 2 ∧ o = .inr x_e2)) ∧ P J1 t v ∧ t ≠ 2) : z_SemW l (d + 13) m_we_23 [.inr (.inr (.ref 0)), .inl a1, .inl a2, .inr (.inr (.ref 161))] (m_Ex g T, J, X) 4 24 (fun o S' => ∃ (J1 : z_J) (X2 : z_X) (t : Int) (v : Int), S' = (m_Ex g T, J1, X2) ∧ P J1 t v ∧ o = .inl (some (.inl t)) ∧ (t = 0 → X2.1 161 0 = v)) := by
  refine z_semW_of m_wok_23 (Nat.le_of_ble_eq_true rfl) (fun Wp hs hv hS => ?_)
  refine hs 400 [] [] 0 _ _ _ _ _ (⟨rfl, ⟨_, _, rfl, z_k0, rfl, rfl, ⟨4, 24, Q1, hq, Nat.le_refl _, Nat.le_refl _, fun o S1 hS1 hq1 => ?_⟩⟩⟩)
  obtain ⟨J1, X1, t, v, rfl, hc, hP, h2⟩ := hQ o S1 hq1
  rcases hc with ⟨rfl, rfl⟩ | ⟨rfl, rfl⟩ | ⟨rfl, rfl⟩
  · exact ⟨⟨_, _, z_k161, by decide⟩, rfl, J1, _, 0, v, rfl, hP, rfl, fun _ => s_at⟩
  · exact ⟨1, by decide, J1, X1, 1, v, rfl, hP, rfl, fun h => absurd h (by decide)⟩
  · exact absurd rfl h2
theorem s_joinStandby {a1 a2 : Int} {P : z_J → Int → Int → Prop} {Q1 : z_O → z_S → Prop} (hq : z_Sem l (d + 12) 159 [.inr (.inr (.ref 0)), .inl a1, .inl a2] (m_Ex g T, J, X) 4 24 Q1) (hQ : ∀ o S1, Q1 o S1 → ∃ (J1 : z_J) (X1 : z_X) (t : Int) (v : Int), S1 = (m_Ex g T, J1, X1) ∧ ((t = 0 ∧ o = .inl (some (.inl v))) ∨ (t = 1 ∧ o = .inr x_e1) ∨ (t = 2 ∧ o = .inr x_e2)) ∧ P J1 t v) : z_SemW l (d + 13) m_we_24 [.inr (.inr (.ref 0)), .inl a1, .inl a2, .inr (.inr (.ref 161))] (m_Ex g T, J, X) 4 24 (fun o S' => ∃ (J1 : z_J) (X2 : z_X) (t : Int) (v : Int), S' = (m_Ex g T, J1, X2) ∧ P J1 t v ∧ o = .inl (some (.inl t)) ∧ (t = 0 → X2.1 161 0 = v)) := by
  refine z_semW_of m_wok_24 (Nat.le_of_ble_eq_true rfl) (fun Wp hs hv hS => ?_)
  refine hs 400 [] [] 0 _ _ _ _ _ (⟨rfl, ⟨_, _, rfl, z_k0, rfl, rfl, ⟨4, 24, Q1, hq, Nat.le_refl _, Nat.le_refl _, fun o S1 hS1 hq1 => ?_⟩⟩⟩)
  obtain ⟨J1, X1, t, v, rfl, hc, hP⟩ := hQ o S1 hq1
  rcases hc with ⟨rfl, rfl⟩ | ⟨rfl, rfl⟩ | ⟨rfl, rfl⟩
  · exact ⟨⟨_, _, z_k161, by decide⟩, rfl, J1, _, 0, v, rfl, hP, rfl, fun _ => s_at⟩
  · exact ⟨1, by decide, J1, X1, 1, v, rfl, hP, rfl, fun h => absurd h (by decide)⟩
  · exact ⟨2, by decide, J1, X1, 2, v, rfl, hP, rfl, fun h => absurd h (by decide)⟩
theorem s_standbyPersons {a1 : Int} {P : z_J → Int → Int → Prop} {Q1 : z_O → z_S → Prop} (hq : z_Sem l (d + 12) 160 [.inr (.inr (.ref 0)), .inl a1] (m_Ex g T, J, X) 4 24 Q1) (hQ : ∀ o S1, Q1 o S1 → ∃ (J1 : z_J) (X1 : z_X) (t : Int) (v : Int), S1 = (m_Ex g T, J1, X1) ∧ ((t = 0 ∧ o = .inl (some (.inl v))) ∨ (t = 1 ∧ o = .inr x_e1) ∨ (t = 2 ∧ o = .inr x_e2)) ∧ P J1 t v ∧ t ≠ 2) : z_SemW l (d + 13) m_we_25 [.inr (.inr (.ref 0)), .inl a1, .inr (.inr (.ref 161))] (m_Ex g T, J, X) 4 24 (fun o S' => ∃ (J1 : z_J) (X2 : z_X) (t : Int) (v : Int), S' = (m_Ex g T, J1, X2) ∧ P J1 t v ∧ o = .inl (some (.inl t)) ∧ (t = 0 → X2.1 161 0 = v)) := by
  refine z_semW_of m_wok_25 (Nat.le_of_ble_eq_true rfl) (fun Wp hs hv hS => ?_)
  refine hs 400 [] [] 0 _ _ _ _ _ (⟨rfl, ⟨_, _, rfl, z_k0, rfl, rfl, ⟨4, 24, Q1, hq, Nat.le_refl _, Nat.le_refl _, fun o S1 hS1 hq1 => ?_⟩⟩⟩)
  obtain ⟨J1, X1, t, v, rfl, hc, hP, h2⟩ := hQ o S1 hq1
  rcases hc with ⟨rfl, rfl⟩ | ⟨rfl, rfl⟩ | ⟨rfl, rfl⟩
  · exact ⟨⟨_, _, z_k161, by decide⟩, rfl, J1, _, 0, v, rfl, hP, rfl, fun _ => s_at⟩
  · exact ⟨1, by decide, J1, X1, 1, v, rfl, hP, rfl, fun h => absurd h (by decide)⟩
  · exact absurd rfl h2
theorem s_mergePersons {a1 : Int} {P : z_J → Int → Int → Prop} {Q1 : z_O → z_S → Prop} (hq : z_Sem l (d + 12) 161 [.inr (.inr (.ref 0)), .inl a1] (m_Ex g T, J, X) 4 24 Q1) (hQ : ∀ o S1, Q1 o S1 → ∃ (J1 : z_J) (X1 : z_X) (t : Int) (v : Int), S1 = (m_Ex g T, J1, X1) ∧ ((t = 0 ∧ o = .inl (some (.inl v))) ∨ (t = 1 ∧ o = .inr x_e1) ∨ (t = 2 ∧ o = .inr x_e2)) ∧ P J1 t v ∧ t ≠ 2) : z_SemW l (d + 13) m_we_26 [.inr (.inr (.ref 0)), .inl a1, .inr (.inr (.ref 161))] (m_Ex g T, J, X) 4 24 (fun o S' => ∃ (J1 : z_J) (X2 : z_X) (t : Int) (v : Int), S' = (m_Ex g T, J1, X2) ∧ P J1 t v ∧ o = .inl (some (.inl t)) ∧ (t = 0 → X2.1 161 0 = v)) := by
  refine z_semW_of m_wok_26 (Nat.le_of_ble_eq_true rfl) (fun Wp hs hv hS => ?_)
  refine hs 400 [] [] 0 _ _ _ _ _ (⟨rfl, ⟨_, _, rfl, z_k0, rfl, rfl, ⟨4, 24, Q1, hq, Nat.le_refl _, Nat.le_refl _, fun o S1 hS1 hq1 => ?_⟩⟩⟩)
  obtain ⟨J1, X1, t, v, rfl, hc, hP, h2⟩ := hQ o S1 hq1
  rcases hc with ⟨rfl, rfl⟩ | ⟨rfl, rfl⟩ | ⟨rfl, rfl⟩
  · exact ⟨⟨_, _, z_k161, by decide⟩, rfl, J1, _, 0, v, rfl, hP, rfl, fun _ => s_at⟩
  · exact ⟨1, by decide, J1, X1, 1, v, rfl, hP, rfl, fun h => absurd h (by decide)⟩
  · exact absurd rfl h2
theorem s_advance {a1 : Int} {P : z_J → Int → Int → Prop} {Q1 : z_O → z_S → Prop} (hq : z_Sem l (d + 12) 162 [.inr (.inr (.ref 0)), .inl a1] (m_Ex g T, J, X) 4 24 Q1) (hQ : ∀ o S1, Q1 o S1 → ∃ (J1 : z_J) (X1 : z_X) (t : Int) (v : Int), S1 = (m_Ex g T, J1, X1) ∧ ((t = 0 ∧ o = .inl (some (.inl v))) ∨ (t = 1 ∧ o = .inr x_e2) ∨ (t = 2 ∧ o = .inr x_e2)) ∧ P J1 t v ∧ t ≠ 2) : z_SemW l (d + 13) m_we_27 [.inr (.inr (.ref 0)), .inl a1, .inr (.inr (.ref 161))] (m_Ex g T, J, X) 4 24 (fun o S' => ∃ (J1 : z_J) (X2 : z_X) (t : Int) (v : Int), S' = (m_Ex g T, J1, X2) ∧ P J1 t v ∧ o = .inl (some (.inl t)) ∧ (t = 0 → X2.1 161 0 = v)) := by
  refine z_semW_of m_wok_27 (Nat.le_of_ble_eq_true rfl) (fun Wp hs hv hS => ?_)
  refine hs 400 [] [] 0 _ _ _ _ _ (⟨rfl, ⟨_, _, rfl, z_k0, rfl, rfl, ⟨4, 24, Q1, hq, Nat.le_refl _, Nat.le_refl _, fun o S1 hS1 hq1 => ?_⟩⟩⟩)
  obtain ⟨J1, X1, t, v, rfl, hc, hP, h2⟩ := hQ o S1 hq1
  rcases hc with ⟨rfl, rfl⟩ | ⟨rfl, rfl⟩ | ⟨rfl, rfl⟩
  · exact ⟨⟨_, _, z_k161, by decide⟩, rfl, J1, _, 0, v, rfl, hP, rfl, fun _ => s_at⟩
  · exact ⟨1, by decide, J1, X1, 1, v, rfl, hP, rfl, fun h => absurd h (by decide)⟩
  · exact absurd rfl h2
theorem s_isDown {a1 : Int} {P : z_J → Int → Int → Prop} {Q1 : z_O → z_S → Prop} (hq : z_Sem l (d + 12) 164 [.inr (.inr (.ref 0)), .inl a1] (m_Ex g T, J, X) 4 24 Q1) (hQ : ∀ o S1, Q1 o S1 → ∃ (J1 : z_J) (X1 : z_X) (t : Int) (v : Int), S1 = (m_Ex g T, J1, X1) ∧ ((t = 0 ∧ o = .inl (some (.inl v))) ∨ (t = 1 ∧ o = .inr x_e1) ∨ (t = 2 ∧ o = .inr x_e2)) ∧ P J1 t v ∧ t ≠ 2) : z_SemW l (d + 13) m_we_28 [.inr (.inr (.ref 0)), .inl a1, .inr (.inr (.ref 161))] (m_Ex g T, J, X) 4 24 (fun o S' => ∃ (J1 : z_J) (X2 : z_X) (t : Int) (v : Int), S' = (m_Ex g T, J1, X2) ∧ P J1 t v ∧ o = .inl (some (.inl t)) ∧ (t = 0 → X2.1 161 0 = if v = 0 then 0 else 1)) := by
  refine z_semW_of m_wok_28 (Nat.le_of_ble_eq_true rfl) (fun Wp hs hv hS => ?_)
  refine hs 400 [] [] 0 _ _ _ _ _ (⟨rfl, ⟨_, _, rfl, z_k0, rfl, rfl, ⟨4, 24, Q1, hq, Nat.le_refl _, Nat.le_refl _, fun o S1 hS1 hq1 => ?_⟩⟩⟩)
  obtain ⟨J1, X1, t, v, rfl, hc, hP, h2⟩ := hQ o S1 hq1
  rcases hc with ⟨rfl, rfl⟩ | ⟨rfl, rfl⟩ | ⟨rfl, rfl⟩
  · exact ⟨fun c0 => ⟨⟨_, _, z_k161, by decide⟩, rfl, J1, _, 0, v, rfl, hP, rfl, fun _ => by rw [if_pos c0]; exact s_at⟩, fun c0 => ⟨⟨_, _, z_k161, by decide⟩, rfl, J1, _, 0, v, rfl, hP, rfl, fun _ => by rw [if_neg c0]; exact s_at⟩⟩
  · exact ⟨1, by decide, J1, X1, 1, v, rfl, hP, rfl, fun h => absurd h (by decide)⟩
  · exact absurd rfl h2
theorem s_breakDown {a1 : Int} {P : z_J → Int → Int → Prop} {Q1 : z_O → z_S → Prop} (hq : z_Sem l (d + 12) 165 [.inr (.inr (.ref 0)), .inl a1] (m_Ex g T, J, X) 4 24 Q1) (hQ : ∀ o S1, Q1 o S1 → ∃ (J1 : z_J) (X1 : z_X) (t : Int) (v : Int), S1 = (m_Ex g T, J1, X1) ∧ ((t = 0 ∧ o = .inl (some (.inl v))) ∨ (t = 1 ∧ o = .inr x_e1) ∨ (t = 2 ∧ o = .inr x_e2)) ∧ P J1 t v ∧ t ≠ 2) : z_SemW l (d + 13) m_we_29 [.inr (.inr (.ref 0)), .inl a1, .inr (.inr (.ref 161))] (m_Ex g T, J, X) 4 24 (fun o S' => ∃ (J1 : z_J) (X2 : z_X) (t : Int) (v : Int), S' = (m_Ex g T, J1, X2) ∧ P J1 t v ∧ o = .inl (some (.inl t)) ∧ (t = 0 → X2.1 161 0 = if v = 0 then 0 else 1)) := by
  refine z_semW_of m_wok_29 (Nat.le_of_ble_eq_true rfl) (fun Wp hs hv hS => ?_)
  refine hs 400 [] [] 0 _ _ _ _ _ (⟨rfl, ⟨_, _, rfl, z_k0, rfl, rfl, ⟨4, 24, Q1, hq, Nat.le_refl _, Nat.le_refl _, fun o S1 hS1 hq1 => ?_⟩⟩⟩)
  obtain ⟨J1, X1, t, v, rfl, hc, hP, h2⟩ := hQ o S1 hq1
  rcases hc with ⟨rfl, rfl⟩ | ⟨rfl, rfl⟩ | ⟨rfl, rfl⟩
  · exact ⟨fun c0 => ⟨⟨_, _, z_k161, by decide⟩, rfl, J1, _, 0, v, rfl, hP, rfl, fun _ => by rw [if_pos c0]; exact s_at⟩, fun c0 => ⟨⟨_, _, z_k161, by decide⟩, rfl, J1, _, 0, v, rfl, hP, rfl, fun _ => by rw [if_neg c0]; exact s_at⟩⟩
  · exact ⟨1, by decide, J1, X1, 1, v, rfl, hP, rfl, fun h => absurd h (by decide)⟩
  · exact absurd rfl h2
theorem s_repair {a1 : Int} {P : z_J → Int → Int → Prop} {Q1 : z_O → z_S → Prop} (hq : z_Sem l (d + 12) 166 [.inr (.inr (.ref 0)), .inl a1] (m_Ex g T, J, X) 4 24 Q1) (hQ : ∀ o S1, Q1 o S1 → ∃ (J1 : z_J) (X1 : z_X) (t : Int) (v : Int), S1 = (m_Ex g T, J1, X1) ∧ ((t = 0 ∧ o = .inl (some (.inl v))) ∨ (t = 1 ∧ o = .inr x_e1) ∨ (t = 2 ∧ o = .inr x_e2)) ∧ P J1 t v ∧ t ≠ 2) : z_SemW l (d + 13) m_we_30 [.inr (.inr (.ref 0)), .inl a1, .inr (.inr (.ref 161))] (m_Ex g T, J, X) 4 24 (fun o S' => ∃ (J1 : z_J) (X2 : z_X) (t : Int) (v : Int), S' = (m_Ex g T, J1, X2) ∧ P J1 t v ∧ o = .inl (some (.inl t)) ∧ (t = 0 → X2.1 161 0 = v)) := by
  refine z_semW_of m_wok_30 (Nat.le_of_ble_eq_true rfl) (fun Wp hs hv hS => ?_)
  refine hs 400 [] [] 0 _ _ _ _ _ (⟨rfl, ⟨_, _, rfl, z_k0, rfl, rfl, ⟨4, 24, Q1, hq, Nat.le_refl _, Nat.le_refl _, fun o S1 hS1 hq1 => ?_⟩⟩⟩)
  obtain ⟨J1, X1, t, v, rfl, hc, hP, h2⟩ := hQ o S1 hq1
  rcases hc with ⟨rfl, rfl⟩ | ⟨rfl, rfl⟩ | ⟨rfl, rfl⟩
  · exact ⟨⟨_, _, z_k161, by decide⟩, rfl, J1, _, 0, v, rfl, hP, rfl, fun _ => s_at⟩
  · exact ⟨1, by decide, J1, X1, 1, v, rfl, hP, rfl, fun h => absurd h (by decide)⟩
  · exact absurd rfl h2
theorem s_setShare {a1 a2 : Int} {P : z_J → Int → Int → Prop} {Q1 : z_O → z_S → Prop} (hq : z_Sem l (d + 12) 167 [.inr (.inr (.ref 0)), .inl a1, .inl a2] (m_Ex g T, J, X) 4 24 Q1) (hQ : ∀ o S1, Q1 o S1 → ∃ (J1 : z_J) (X1 : z_X) (t : Int) (v : Int), S1 = (m_Ex g T, J1, X1) ∧ ((t = 0 ∧ o = .inl (some (.inl v))) ∨ (t = 1 ∧ o = .inr x_e1) ∨ (t = 2 ∧ o = .inr x_e2)) ∧ P J1 t v) : z_SemW l (d + 13) m_we_31 [.inr (.inr (.ref 0)), .inl a1, .inl a2, .inr (.inr (.ref 161))] (m_Ex g T, J, X) 4 24 (fun o S' => ∃ (J1 : z_J) (X2 : z_X) (t : Int) (v : Int), S' = (m_Ex g T, J1, X2) ∧ P J1 t v ∧ o = .inl (some (.inl t)) ∧ (t = 0 → X2.1 161 0 = v)) := by
  refine z_semW_of m_wok_31 (Nat.le_of_ble_eq_true rfl) (fun Wp hs hv hS => ?_)
  refine hs 400 [] [] 0 _ _ _ _ _ (⟨rfl, ⟨_, _, rfl, z_k0, rfl, rfl, ⟨4, 24, Q1, hq, Nat.le_refl _, Nat.le_refl _, fun o S1 hS1 hq1 => ?_⟩⟩⟩)
  obtain ⟨J1, X1, t, v, rfl, hc, hP⟩ := hQ o S1 hq1
  rcases hc with ⟨rfl, rfl⟩ | ⟨rfl, rfl⟩ | ⟨rfl, rfl⟩
  · exact ⟨⟨_, _, z_k161, by decide⟩, rfl, J1, _, 0, v, rfl, hP, rfl, fun _ => s_at⟩
  · exact ⟨1, by decide, J1, X1, 1, v, rfl, hP, rfl, fun h => absurd h (by decide)⟩
  · exact ⟨2, by decide, J1, X1, 2, v, rfl, hP, rfl, fun h => absurd h (by decide)⟩
theorem s_boarded {a1 a2 : Int} {P : z_J → Int → Int → Prop} {Q1 : z_O → z_S → Prop} (hq : z_Sem l (d + 12) 168 [.inr (.inr (.ref 0)), .inl a1, .inl a2] (m_Ex g T, J, X) 4 24 Q1) (hQ : ∀ o S1, Q1 o S1 → ∃ (J1 : z_J) (X1 : z_X) (t : Int) (v : Int), S1 = (m_Ex g T, J1, X1) ∧ ((t = 0 ∧ o = .inl (some (.inl v))) ∨ (t = 1 ∧ o = .inr x_e1) ∨ (t = 2 ∧ o = .inr x_e2)) ∧ P J1 t v ∧ t ≠ 2) : z_SemW l (d + 13) m_we_32 [.inr (.inr (.ref 0)), .inl a1, .inl a2, .inr (.inr (.ref 161))] (m_Ex g T, J, X) 4 24 (fun o S' => ∃ (J1 : z_J) (X2 : z_X) (t : Int) (v : Int), S' = (m_Ex g T, J1, X2) ∧ P J1 t v ∧ o = .inl (some (.inl t)) ∧ (t = 0 → X2.1 161 0 = v)) := by
  refine z_semW_of m_wok_32 (Nat.le_of_ble_eq_true rfl) (fun Wp hs hv hS => ?_)
  refine hs 400 [] [] 0 _ _ _ _ _ (⟨rfl, ⟨_, _, rfl, z_k0, rfl, rfl, ⟨4, 24, Q1, hq, Nat.le_refl _, Nat.le_refl _, fun o S1 hS1 hq1 => ?_⟩⟩⟩)
  obtain ⟨J1, X1, t, v, rfl, hc, hP, h2⟩ := hQ o S1 hq1
  rcases hc with ⟨rfl, rfl⟩ | ⟨rfl, rfl⟩ | ⟨rfl, rfl⟩
  · exact ⟨⟨_, _, z_k161, by decide⟩, rfl, J1, _, 0, v, rfl, hP, rfl, fun _ => s_at⟩
  · exact ⟨1, by decide, J1, X1, 1, v, rfl, hP, rfl, fun h => absurd h (by decide)⟩
  · exact absurd rfl h2
theorem s_averageWait {a1 : Int} {P : z_J → Int → UInt64 → Prop} {Q1 : z_O → z_S → Prop} (hq : z_Sem l (d + 12) 169 [.inr (.inr (.ref 0)), .inl a1] (m_Ex g T, J, X) 4 24 Q1) (hQ : ∀ o S1, Q1 o S1 → ∃ (J1 : z_J) (X1 : z_X) (t : Int) (v : UInt64), S1 = (m_Ex g T, J1, X1) ∧ ((t = 0 ∧ o = .inl (some (.inr (.inr (.double v))))) ∨ (t = 1 ∧ o = .inr x_e1) ∨ (t = 2 ∧ o = .inr x_e3)) ∧ P J1 t v) : z_SemW l (d + 13) m_we_33 [.inr (.inr (.ref 0)), .inl a1, .inr (.inr (.ref 162))] (m_Ex g T, J, X) 4 24 (fun o S' => ∃ (J1 : z_J) (X2 : z_X) (t : Int) (v : UInt64), S' = (m_Ex g T, J1, X2) ∧ P J1 t v ∧ o = .inl (some (.inl t)) ∧ (t = 0 → X2.2 162 0 = v)) := by
  refine z_semW_of m_wok_33 (Nat.le_of_ble_eq_true rfl) (fun Wp hs hv hS => ?_)
  refine hs 400 [] [] 0 _ _ _ _ _ (⟨rfl, ⟨_, _, rfl, z_k0, rfl, rfl, ⟨4, 24, Q1, hq, Nat.le_refl _, Nat.le_refl _, fun o S1 hS1 hq1 => ?_⟩⟩⟩)
  obtain ⟨J1, X1, t, v, rfl, hc, hP⟩ := hQ o S1 hq1
  rcases hc with ⟨rfl, rfl⟩ | ⟨rfl, rfl⟩ | ⟨rfl, rfl⟩
  · exact ⟨⟨_, _, z_k162, by decide⟩, rfl, J1, _, 0, v, rfl, hP, rfl, fun _ => by simp [m_rowX, vf_upd]⟩
  · exact ⟨1, by decide, J1, X1, 1, v, rfl, hP, rfl, fun h => absurd h (by decide)⟩
  · exact ⟨2, by decide, J1, X1, 2, v, rfl, hP, rfl, fun h => absurd h (by decide)⟩
theorem s_longestWait {a1 : Int} {P : z_J → Int → Int → Prop} {Q1 : z_O → z_S → Prop} (hq : z_Sem l (d + 12) 170 [.inr (.inr (.ref 0)), .inl a1] (m_Ex g T, J, X) 4 24 Q1) (hQ : ∀ o S1, Q1 o S1 → ∃ (J1 : z_J) (X1 : z_X) (t : Int) (v : Int), S1 = (m_Ex g T, J1, X1) ∧ ((t = 0 ∧ o = .inl (some (.inl v))) ∨ (t = 1 ∧ o = .inr x_e1) ∨ (t = 2 ∧ o = .inr x_e2)) ∧ P J1 t v ∧ t ≠ 2) : z_SemW l (d + 13) m_we_34 [.inr (.inr (.ref 0)), .inl a1, .inr (.inr (.ref 161))] (m_Ex g T, J, X) 4 24 (fun o S' => ∃ (J1 : z_J) (X2 : z_X) (t : Int) (v : Int), S' = (m_Ex g T, J1, X2) ∧ P J1 t v ∧ o = .inl (some (.inl t)) ∧ (t = 0 → X2.1 161 0 = v)) := by
  refine z_semW_of m_wok_34 (Nat.le_of_ble_eq_true rfl) (fun Wp hs hv hS => ?_)
  refine hs 400 [] [] 0 _ _ _ _ _ (⟨rfl, ⟨_, _, rfl, z_k0, rfl, rfl, ⟨4, 24, Q1, hq, Nat.le_refl _, Nat.le_refl _, fun o S1 hS1 hq1 => ?_⟩⟩⟩)
  obtain ⟨J1, X1, t, v, rfl, hc, hP, h2⟩ := hQ o S1 hq1
  rcases hc with ⟨rfl, rfl⟩ | ⟨rfl, rfl⟩ | ⟨rfl, rfl⟩
  · exact ⟨⟨_, _, z_k161, by decide⟩, rfl, J1, _, 0, v, rfl, hP, rfl, fun _ => s_at⟩
  · exact ⟨1, by decide, J1, X1, 1, v, rfl, hP, rfl, fun h => absurd h (by decide)⟩
  · exact absurd rfl h2
theorem s_forecastStandby {a1 a2 : Int} {P : z_J → Int → Int → Prop} {Q1 : z_O → z_S → Prop} (hq : z_Sem l (d + 12) 171 [.inr (.inr (.ref 0)), .inl a1, .inl a2] (m_Ex g T, J, X) 4 24 Q1) (hQ : ∀ o S1, Q1 o S1 → ∃ (J1 : z_J) (X1 : z_X) (t : Int) (v : Int), S1 = (m_Ex g T, J1, X1) ∧ ((t = 0 ∧ o = .inl (some (.inl v))) ∨ (t = 1 ∧ o = .inr x_e1) ∨ (t = 2 ∧ o = .inr x_e2)) ∧ P J1 t v) : z_SemW l (d + 13) m_we_35 [.inr (.inr (.ref 0)), .inl a1, .inl a2, .inr (.inr (.ref 161))] (m_Ex g T, J, X) 4 24 (fun o S' => ∃ (J1 : z_J) (X2 : z_X) (t : Int) (v : Int), S' = (m_Ex g T, J1, X2) ∧ P J1 t v ∧ o = .inl (some (.inl t)) ∧ (t = 0 → X2.1 161 0 = v)) := by
  refine z_semW_of m_wok_35 (Nat.le_of_ble_eq_true rfl) (fun Wp hs hv hS => ?_)
  refine hs 400 [] [] 0 _ _ _ _ _ (⟨rfl, ⟨_, _, rfl, z_k0, rfl, rfl, ⟨4, 24, Q1, hq, Nat.le_refl _, Nat.le_refl _, fun o S1 hS1 hq1 => ?_⟩⟩⟩)
  obtain ⟨J1, X1, t, v, rfl, hc, hP⟩ := hQ o S1 hq1
  rcases hc with ⟨rfl, rfl⟩ | ⟨rfl, rfl⟩ | ⟨rfl, rfl⟩
  · exact ⟨⟨_, _, z_k161, by decide⟩, rfl, J1, _, 0, v, rfl, hP, rfl, fun _ => s_at⟩
  · exact ⟨1, by decide, J1, X1, 1, v, rfl, hP, rfl, fun h => absurd h (by decide)⟩
  · exact ⟨2, by decide, J1, X1, 2, v, rfl, hP, rfl, fun h => absurd h (by decide)⟩
theorem s_expectedReturns {a1 a2 : Int} {P : z_J → Int → Int → Prop} {Q1 : z_O → z_S → Prop} (hq : z_Sem l (d + 12) 172 [.inr (.inr (.ref 0)), .inl a1, .inl a2] (m_Ex g T, J, X) 4 24 Q1) (hQ : ∀ o S1, Q1 o S1 → ∃ (J1 : z_J) (X1 : z_X) (t : Int) (v : Int), S1 = (m_Ex g T, J1, X1) ∧ ((t = 0 ∧ o = .inl (some (.inl v))) ∨ (t = 1 ∧ o = .inr x_e1) ∨ (t = 2 ∧ o = .inr x_e2)) ∧ P J1 t v) : z_SemW l (d + 13) m_we_36 [.inr (.inr (.ref 0)), .inl a1, .inl a2, .inr (.inr (.ref 161))] (m_Ex g T, J, X) 4 24 (fun o S' => ∃ (J1 : z_J) (X2 : z_X) (t : Int) (v : Int), S' = (m_Ex g T, J1, X2) ∧ P J1 t v ∧ o = .inl (some (.inl t)) ∧ (t = 0 → X2.1 161 0 = v)) := by
  refine z_semW_of m_wok_36 (Nat.le_of_ble_eq_true rfl) (fun Wp hs hv hS => ?_)
  refine hs 400 [] [] 0 _ _ _ _ _ (⟨rfl, ⟨_, _, rfl, z_k0, rfl, rfl, ⟨4, 24, Q1, hq, Nat.le_refl _, Nat.le_refl _, fun o S1 hS1 hq1 => ?_⟩⟩⟩)
  obtain ⟨J1, X1, t, v, rfl, hc, hP⟩ := hQ o S1 hq1
  rcases hc with ⟨rfl, rfl⟩ | ⟨rfl, rfl⟩ | ⟨rfl, rfl⟩
  · exact ⟨⟨_, _, z_k161, by decide⟩, rfl, J1, _, 0, v, rfl, hP, rfl, fun _ => s_at⟩
  · exact ⟨1, by decide, J1, X1, 1, v, rfl, hP, rfl, fun h => absurd h (by decide)⟩
  · exact ⟨2, by decide, J1, X1, 2, v, rfl, hP, rfl, fun h => absurd h (by decide)⟩
theorem s_expiredPart {a1 : Int} {P : z_J → Int → UInt64 → Prop} {Q1 : z_O → z_S → Prop} (hq : z_Sem l (d + 12) 173 [.inr (.inr (.ref 0)), .inl a1] (m_Ex g T, J, X) 4 24 Q1) (hQ : ∀ o S1, Q1 o S1 → ∃ (J1 : z_J) (X1 : z_X) (t : Int) (v : UInt64), S1 = (m_Ex g T, J1, X1) ∧ ((t = 0 ∧ o = .inl (some (.inr (.inr (.double v))))) ∨ (t = 1 ∧ o = .inr x_e1) ∨ (t = 2 ∧ o = .inr x_e3)) ∧ P J1 t v) : z_SemW l (d + 13) m_we_37 [.inr (.inr (.ref 0)), .inl a1, .inr (.inr (.ref 162))] (m_Ex g T, J, X) 4 24 (fun o S' => ∃ (J1 : z_J) (X2 : z_X) (t : Int) (v : UInt64), S' = (m_Ex g T, J1, X2) ∧ P J1 t v ∧ o = .inl (some (.inl t)) ∧ (t = 0 → X2.2 162 0 = v)) := by
  refine z_semW_of m_wok_37 (Nat.le_of_ble_eq_true rfl) (fun Wp hs hv hS => ?_)
  refine hs 400 [] [] 0 _ _ _ _ _ (⟨rfl, ⟨_, _, rfl, z_k0, rfl, rfl, ⟨4, 24, Q1, hq, Nat.le_refl _, Nat.le_refl _, fun o S1 hS1 hq1 => ?_⟩⟩⟩)
  obtain ⟨J1, X1, t, v, rfl, hc, hP⟩ := hQ o S1 hq1
  rcases hc with ⟨rfl, rfl⟩ | ⟨rfl, rfl⟩ | ⟨rfl, rfl⟩
  · exact ⟨⟨_, _, z_k162, by decide⟩, rfl, J1, _, 0, v, rfl, hP, rfl, fun _ => by simp [m_rowX, vf_upd]⟩
  · exact ⟨1, by decide, J1, X1, 1, v, rfl, hP, rfl, fun h => absurd h (by decide)⟩
  · exact ⟨2, by decide, J1, X1, 2, v, rfl, hP, rfl, fun h => absurd h (by decide)⟩
theorem s_capacityLeft {a1 : Int} {P : z_J → Int → Int → Prop} {Q1 : z_O → z_S → Prop} (hq : z_Sem l (d + 12) 174 [.inr (.inr (.ref 0)), .inl a1] (m_Ex g T, J, X) 4 24 Q1) (hQ : ∀ o S1, Q1 o S1 → ∃ (J1 : z_J) (X1 : z_X) (t : Int) (v : Int), S1 = (m_Ex g T, J1, X1) ∧ ((t = 0 ∧ o = .inl (some (.inl v))) ∨ (t = 1 ∧ o = .inr x_e1) ∨ (t = 2 ∧ o = .inr x_e2)) ∧ P J1 t v ∧ t ≠ 2) : z_SemW l (d + 13) m_we_38 [.inr (.inr (.ref 0)), .inl a1, .inr (.inr (.ref 161))] (m_Ex g T, J, X) 4 24 (fun o S' => ∃ (J1 : z_J) (X2 : z_X) (t : Int) (v : Int), S' = (m_Ex g T, J1, X2) ∧ P J1 t v ∧ o = .inl (some (.inl t)) ∧ (t = 0 → X2.1 161 0 = v)) := by
  refine z_semW_of m_wok_38 (Nat.le_of_ble_eq_true rfl) (fun Wp hs hv hS => ?_)
  refine hs 400 [] [] 0 _ _ _ _ _ (⟨rfl, ⟨_, _, rfl, z_k0, rfl, rfl, ⟨4, 24, Q1, hq, Nat.le_refl _, Nat.le_refl _, fun o S1 hS1 hq1 => ?_⟩⟩⟩)
  obtain ⟨J1, X1, t, v, rfl, hc, hP, h2⟩ := hQ o S1 hq1
  rcases hc with ⟨rfl, rfl⟩ | ⟨rfl, rfl⟩ | ⟨rfl, rfl⟩
  · exact ⟨⟨_, _, z_k161, by decide⟩, rfl, J1, _, 0, v, rfl, hP, rfl, fun _ => s_at⟩
  · exact ⟨1, by decide, J1, X1, 1, v, rfl, hP, rfl, fun h => absurd h (by decide)⟩
  · exact absurd rfl h2
theorem s_peakSlot {a1 : Int} {P : z_J → Int → Int → Prop} {Q1 : z_O → z_S → Prop} (hq : z_Sem l (d + 12) 175 [.inr (.inr (.ref 0)), .inl a1] (m_Ex g T, J, X) 4 24 Q1) (hQ : ∀ o S1, Q1 o S1 → ∃ (J1 : z_J) (X1 : z_X) (t : Int) (v : Int), S1 = (m_Ex g T, J1, X1) ∧ ((t = 0 ∧ o = .inl (some (.inl v))) ∨ (t = 1 ∧ o = .inr x_e1) ∨ (t = 2 ∧ o = .inr x_e2)) ∧ P J1 t v ∧ t ≠ 2) : z_SemW l (d + 13) m_we_39 [.inr (.inr (.ref 0)), .inl a1, .inr (.inr (.ref 161))] (m_Ex g T, J, X) 4 24 (fun o S' => ∃ (J1 : z_J) (X2 : z_X) (t : Int) (v : Int), S' = (m_Ex g T, J1, X2) ∧ P J1 t v ∧ o = .inl (some (.inl t)) ∧ (t = 0 → X2.1 161 0 = v)) := by
  refine z_semW_of m_wok_39 (Nat.le_of_ble_eq_true rfl) (fun Wp hs hv hS => ?_)
  refine hs 400 [] [] 0 _ _ _ _ _ (⟨rfl, ⟨_, _, rfl, z_k0, rfl, rfl, ⟨4, 24, Q1, hq, Nat.le_refl _, Nat.le_refl _, fun o S1 hS1 hq1 => ?_⟩⟩⟩)
  obtain ⟨J1, X1, t, v, rfl, hc, hP, h2⟩ := hQ o S1 hq1
  rcases hc with ⟨rfl, rfl⟩ | ⟨rfl, rfl⟩ | ⟨rfl, rfl⟩
  · exact ⟨⟨_, _, z_k161, by decide⟩, rfl, J1, _, 0, v, rfl, hP, rfl, fun _ => s_at⟩
  · exact ⟨1, by decide, J1, X1, 1, v, rfl, hP, rfl, fun h => absurd h (by decide)⟩
  · exact absurd rfl h2
theorem s_usage {a1 : Int} {P : z_J → Int → UInt64 → Prop} {Q1 : z_O → z_S → Prop} (hq : z_Sem l (d + 12) 176 [.inr (.inr (.ref 0)), .inl a1] (m_Ex g T, J, X) 4 24 Q1) (hQ : ∀ o S1, Q1 o S1 → ∃ (J1 : z_J) (X1 : z_X) (t : Int) (v : UInt64), S1 = (m_Ex g T, J1, X1) ∧ ((t = 0 ∧ o = .inl (some (.inr (.inr (.double v))))) ∨ (t = 1 ∧ o = .inr x_e1) ∨ (t = 2 ∧ o = .inr x_e3)) ∧ P J1 t v) : z_SemW l (d + 13) m_we_40 [.inr (.inr (.ref 0)), .inl a1, .inr (.inr (.ref 162))] (m_Ex g T, J, X) 4 24 (fun o S' => ∃ (J1 : z_J) (X2 : z_X) (t : Int) (v : UInt64), S' = (m_Ex g T, J1, X2) ∧ P J1 t v ∧ o = .inl (some (.inl t)) ∧ (t = 0 → X2.2 162 0 = v)) := by
  refine z_semW_of m_wok_40 (Nat.le_of_ble_eq_true rfl) (fun Wp hs hv hS => ?_)
  refine hs 400 [] [] 0 _ _ _ _ _ (⟨rfl, ⟨_, _, rfl, z_k0, rfl, rfl, ⟨4, 24, Q1, hq, Nat.le_refl _, Nat.le_refl _, fun o S1 hS1 hq1 => ?_⟩⟩⟩)
  obtain ⟨J1, X1, t, v, rfl, hc, hP⟩ := hQ o S1 hq1
  rcases hc with ⟨rfl, rfl⟩ | ⟨rfl, rfl⟩ | ⟨rfl, rfl⟩
  · exact ⟨⟨_, _, z_k162, by decide⟩, rfl, J1, _, 0, v, rfl, hP, rfl, fun _ => by simp [m_rowX, vf_upd]⟩
  · exact ⟨1, by decide, J1, X1, 1, v, rfl, hP, rfl, fun h => absurd h (by decide)⟩
  · exact ⟨2, by decide, J1, X1, 2, v, rfl, hP, rfl, fun h => absurd h (by decide)⟩
theorem s_bestFinish {a1 a2 : Int} {P : z_J → Int → Int → Prop} {Q1 : z_O → z_S → Prop} (hq : z_Sem l (d + 12) 177 [.inr (.inr (.ref 0)), .inl a1, .inl a2] (m_Ex g T, J, X) 4 24 Q1) (hQ : ∀ o S1, Q1 o S1 → ∃ (J1 : z_J) (X1 : z_X) (t : Int) (v : Int), S1 = (m_Ex g T, J1, X1) ∧ ((t = 0 ∧ o = .inl (some (.inl v))) ∨ (t = 1 ∧ o = .inr x_e1) ∨ (t = 2 ∧ o = .inr x_e2)) ∧ P J1 t v) : z_SemW l (d + 13) m_we_41 [.inr (.inr (.ref 0)), .inl a1, .inl a2, .inr (.inr (.ref 161))] (m_Ex g T, J, X) 4 24 (fun o S' => ∃ (J1 : z_J) (X2 : z_X) (t : Int) (v : Int), S' = (m_Ex g T, J1, X2) ∧ P J1 t v ∧ o = .inl (some (.inl t)) ∧ (t = 0 → X2.1 161 0 = v)) := by
  refine z_semW_of m_wok_41 (Nat.le_of_ble_eq_true rfl) (fun Wp hs hv hS => ?_)
  refine hs 400 [] [] 0 _ _ _ _ _ (⟨rfl, ⟨_, _, rfl, z_k0, rfl, rfl, ⟨4, 24, Q1, hq, Nat.le_refl _, Nat.le_refl _, fun o S1 hS1 hq1 => ?_⟩⟩⟩)
  obtain ⟨J1, X1, t, v, rfl, hc, hP⟩ := hQ o S1 hq1
  rcases hc with ⟨rfl, rfl⟩ | ⟨rfl, rfl⟩ | ⟨rfl, rfl⟩
  · exact ⟨⟨_, _, z_k161, by decide⟩, rfl, J1, _, 0, v, rfl, hP, rfl, fun _ => s_at⟩
  · exact ⟨1, by decide, J1, X1, 1, v, rfl, hP, rfl, fun h => absurd h (by decide)⟩
  · exact ⟨2, by decide, J1, X1, 2, v, rfl, hP, rfl, fun h => absurd h (by decide)⟩
theorem s_bestOrder {a1 a2 a3 : Int} {P : z_J → Int → Int → Prop} {Q1 : z_O → z_S → Prop} (hq : z_Sem l (d + 12) 179 [.inr (.inr (.ref 0)), .inl a1, .inl a2, .inl a3] (m_Ex g T, J, X) 4 24 Q1) (hQ : ∀ o S1, Q1 o S1 → ∃ (J1 : z_J) (X1 : z_X) (t : Int) (v : Int), S1 = (m_Ex g T, J1, X1) ∧ ((t = 0 ∧ o = .inl (some (.inl v))) ∨ (t = 1 ∧ o = .inr x_e1) ∨ (t = 2 ∧ o = .inr x_e2)) ∧ P J1 t v) : z_SemW l (d + 13) m_we_42 [.inr (.inr (.ref 0)), .inl a1, .inl a2, .inl a3, .inr (.inr (.ref 161))] (m_Ex g T, J, X) 4 24 (fun o S' => ∃ (J1 : z_J) (X2 : z_X) (t : Int) (v : Int), S' = (m_Ex g T, J1, X2) ∧ P J1 t v ∧ o = .inl (some (.inl t)) ∧ (t = 0 → X2.1 161 0 = v)) := by
  refine z_semW_of m_wok_42 (Nat.le_of_ble_eq_true rfl) (fun Wp hs hv hS => ?_)
  refine hs 400 [] [] 0 _ _ _ _ _ (⟨rfl, ⟨_, _, rfl, z_k0, rfl, rfl, ⟨4, 24, Q1, hq, Nat.le_refl _, Nat.le_refl _, fun o S1 hS1 hq1 => ?_⟩⟩⟩)
  obtain ⟨J1, X1, t, v, rfl, hc, hP⟩ := hQ o S1 hq1
  rcases hc with ⟨rfl, rfl⟩ | ⟨rfl, rfl⟩ | ⟨rfl, rfl⟩
  · exact ⟨⟨_, _, z_k161, by decide⟩, rfl, J1, _, 0, v, rfl, hP, rfl, fun _ => s_at⟩
  · exact ⟨1, by decide, J1, X1, 1, v, rfl, hP, rfl, fun h => absurd h (by decide)⟩
  · exact ⟨2, by decide, J1, X1, 2, v, rfl, hP, rfl, fun h => absurd h (by decide)⟩
theorem s_mostServed {a1 : Int} {P : z_J → Int → Int → Prop} {Q1 : z_O → z_S → Prop} (hq : z_Sem l (d + 12) 180 [.inr (.inr (.ref 0)), .inl a1] (m_Ex g T, J, X) 4 24 Q1) (hQ : ∀ o S1, Q1 o S1 → ∃ (J1 : z_J) (X1 : z_X) (t : Int) (v : Int), S1 = (m_Ex g T, J1, X1) ∧ ((t = 0 ∧ o = .inl (some (.inl v))) ∨ (t = 1 ∧ o = .inr x_e1) ∨ (t = 2 ∧ o = .inr x_e2)) ∧ P J1 t v ∧ t ≠ 2) : z_SemW l (d + 13) m_we_43 [.inr (.inr (.ref 0)), .inl a1, .inr (.inr (.ref 161))] (m_Ex g T, J, X) 4 24 (fun o S' => ∃ (J1 : z_J) (X2 : z_X) (t : Int) (v : Int), S' = (m_Ex g T, J1, X2) ∧ P J1 t v ∧ o = .inl (some (.inl t)) ∧ (t = 0 → X2.1 161 0 = v)) := by
  refine z_semW_of m_wok_43 (Nat.le_of_ble_eq_true rfl) (fun Wp hs hv hS => ?_)
  refine hs 400 [] [] 0 _ _ _ _ _ (⟨rfl, ⟨_, _, rfl, z_k0, rfl, rfl, ⟨4, 24, Q1, hq, Nat.le_refl _, Nat.le_refl _, fun o S1 hS1 hq1 => ?_⟩⟩⟩)
  obtain ⟨J1, X1, t, v, rfl, hc, hP, h2⟩ := hQ o S1 hq1
  rcases hc with ⟨rfl, rfl⟩ | ⟨rfl, rfl⟩ | ⟨rfl, rfl⟩
  · exact ⟨⟨_, _, z_k161, by decide⟩, rfl, J1, _, 0, v, rfl, hP, rfl, fun _ => s_at⟩
  · exact ⟨1, by decide, J1, X1, 1, v, rfl, hP, rfl, fun h => absurd h (by decide)⟩
  · exact absurd rfl h2
theorem s_servedSet {a1 : Int} {P : z_J → Int → Int → Prop} {Q1 : z_O → z_S → Prop} (hq : z_Sem l (d + 12) 181 [.inr (.inr (.ref 0)), .inl a1] (m_Ex g T, J, X) 4 24 Q1) (hQ : ∀ o S1, Q1 o S1 → ∃ (J1 : z_J) (X1 : z_X) (t : Int) (v : Int), S1 = (m_Ex g T, J1, X1) ∧ ((t = 0 ∧ o = .inl (some (.inl v))) ∨ (t = 1 ∧ o = .inr x_e1) ∨ (t = 2 ∧ o = .inr x_e2)) ∧ P J1 t v ∧ t ≠ 2) : z_SemW l (d + 13) m_we_44 [.inr (.inr (.ref 0)), .inl a1, .inr (.inr (.ref 161))] (m_Ex g T, J, X) 4 24 (fun o S' => ∃ (J1 : z_J) (X2 : z_X) (t : Int) (v : Int), S' = (m_Ex g T, J1, X2) ∧ P J1 t v ∧ o = .inl (some (.inl t)) ∧ (t = 0 → X2.1 161 0 = v)) := by
  refine z_semW_of m_wok_44 (Nat.le_of_ble_eq_true rfl) (fun Wp hs hv hS => ?_)
  refine hs 400 [] [] 0 _ _ _ _ _ (⟨rfl, ⟨_, _, rfl, z_k0, rfl, rfl, ⟨4, 24, Q1, hq, Nat.le_refl _, Nat.le_refl _, fun o S1 hS1 hq1 => ?_⟩⟩⟩)
  obtain ⟨J1, X1, t, v, rfl, hc, hP, h2⟩ := hQ o S1 hq1
  rcases hc with ⟨rfl, rfl⟩ | ⟨rfl, rfl⟩ | ⟨rfl, rfl⟩
  · exact ⟨⟨_, _, z_k161, by decide⟩, rfl, J1, _, 0, v, rfl, hP, rfl, fun _ => s_at⟩
  · exact ⟨1, by decide, J1, X1, 1, v, rfl, hP, rfl, fun h => absurd h (by decide)⟩
  · exact absurd rfl h2
theorem s_runScript {a1 : Int} {P : z_J → Int → Int → Prop} {Q1 : z_O → z_S → Prop} (hq : z_Sem l (d + 12) 182 [.inr (.inr (.ref 0)), .inl a1] (m_Ex g T, J, X) 4 24 Q1) (hQ : ∀ o S1, Q1 o S1 → ∃ (J1 : z_J) (X1 : z_X) (t : Int) (v : Int), S1 = (m_Ex g T, J1, X1) ∧ ((t = 0 ∧ o = .inl (some (.inl v))) ∨ (t = 1 ∧ o = .inr x_e2) ∨ (t = 2 ∧ o = .inr x_e2)) ∧ P J1 t v ∧ t ≠ 2) : z_SemW l (d + 13) m_we_45 [.inr (.inr (.ref 0)), .inl a1, .inr (.inr (.ref 161))] (m_Ex g T, J, X) 4 24 (fun o S' => ∃ (J1 : z_J) (X2 : z_X) (t : Int) (v : Int), S' = (m_Ex g T, J1, X2) ∧ P J1 t v ∧ o = .inl (some (.inl t)) ∧ (t = 0 → X2.1 161 0 = v)) := by
  refine z_semW_of m_wok_45 (Nat.le_of_ble_eq_true rfl) (fun Wp hs hv hS => ?_)
  refine hs 400 [] [] 0 _ _ _ _ _ (⟨rfl, ⟨_, _, rfl, z_k0, rfl, rfl, ⟨4, 24, Q1, hq, Nat.le_refl _, Nat.le_refl _, fun o S1 hS1 hq1 => ?_⟩⟩⟩)
  obtain ⟨J1, X1, t, v, rfl, hc, hP, h2⟩ := hQ o S1 hq1
  rcases hc with ⟨rfl, rfl⟩ | ⟨rfl, rfl⟩ | ⟨rfl, rfl⟩
  · exact ⟨⟨_, _, z_k161, by decide⟩, rfl, J1, _, 0, v, rfl, hP, rfl, fun _ => s_at⟩
  · exact ⟨1, by decide, J1, X1, 1, v, rfl, hP, rfl, fun h => absurd h (by decide)⟩
  · exact absurd rfl h2
theorem s_formatItinerary {a1 : Int} {P : z_J → Int → Int → Prop} {Q1 : z_O → z_S → Prop} (hq : z_Sem l (d + 12) 187 [.inr (.inr (.ref 0)), .inl a1] (m_Ex g T, J, X) 4 24 Q1) (hQ : ∀ o S1, Q1 o S1 → ∃ (J1 : z_J) (X1 : z_X) (t : Int) (v : Int), S1 = (m_Ex g T, J1, X1) ∧ ((t = 0 ∧ o = .inl (some (.inl v))) ∨ (t = 1 ∧ o = .inr x_e1) ∨ (t = 2 ∧ o = .inr x_e2)) ∧ P J1 t v ∧ t ≠ 2) : z_SemW l (d + 13) m_we_46 [.inr (.inr (.ref 0)), .inl a1, .inr (.inr (.ref 161))] (m_Ex g T, J, X) 4 24 (fun o S' => ∃ (J1 : z_J) (X2 : z_X) (t : Int) (v : Int), S' = (m_Ex g T, J1, X2) ∧ P J1 t v ∧ o = .inl (some (.inl t)) ∧ (t = 0 → X2.1 161 0 = v)) := by
  refine z_semW_of m_wok_46 (Nat.le_of_ble_eq_true rfl) (fun Wp hs hv hS => ?_)
  refine hs 400 [] [] 0 _ _ _ _ _ (⟨rfl, ⟨_, _, rfl, z_k0, rfl, rfl, ⟨4, 24, Q1, hq, Nat.le_refl _, Nat.le_refl _, fun o S1 hS1 hq1 => ?_⟩⟩⟩)
  obtain ⟨J1, X1, t, v, rfl, hc, hP, h2⟩ := hQ o S1 hq1
  rcases hc with ⟨rfl, rfl⟩ | ⟨rfl, rfl⟩ | ⟨rfl, rfl⟩
  · exact ⟨⟨_, _, z_k161, by decide⟩, rfl, J1, _, 0, v, rfl, hP, rfl, fun _ => s_at⟩
  · exact ⟨1, by decide, J1, X1, 1, v, rfl, hP, rfl, fun h => absurd h (by decide)⟩
  · exact absurd rfl h2
end W1
