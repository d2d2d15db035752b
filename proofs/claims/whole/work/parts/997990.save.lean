/-! the class's saveSnapshot where no snapshot lies yet -/
theorem m_Ex_app {g : List (Option Nat)} {T U : m_E} : m_Ex g T ++ U = m_Ex g (T ++ U) := by
  unfold m_Ex; simp only [List.append_assoc, List.cons_append]
theorem m_Ex_len {g : List (Option Nat)} {T : m_E} : (m_Ex g T).length = 163 + T.length := by
  unfold m_Ex
  rw [List.length_append, List.length_cons, List.length_append, show m_E0a.length = 145 from rfl, show m_E0b.length = 17 from rfl]
  omega
theorem m_Ex_set {g g' : List (Option Nat)} {T : m_E} : (m_Ex g T).set 145 (.inr (.object "VirtualQueue$Day", 2), g') = m_Ex g' T := by
  unfold m_Ex
  have e : m_E0a.length = 145 := rfl
  rw [List.set_append_right _ _ (Nat.le_of_eq e), e]
  rfl
theorem x_at_new {g : List (Option Nat)} {T : m_E} {n : Nat} (hn : (m_Ex g T).length = n) {g' : List (Option Nat)} : x_at (m_Ex g' (T ++ m_DayAt n)) n := by
  have hn' : (m_Ex g' T).length = n := by rw [← hn, m_Ex_len, m_Ex_len]
  intro k _
  rw [← m_Ex_app, z_ag hn']
set_option maxRecDepth 20000 in
theorem w_126n_0 {l : Launch} {d : Nat} {Q : z_O → z_S → Prop} {Wp : Nat → z_C} {g : List (Option Nat)} {T : m_E} {J : z_J} {X : z_X} {bc bs : Nat} (hs : z_Cl l (d + 2) m_me_126 Q Wp) {x1 : Int} (hg : g.getD (x1).toNat none = none)
    (h : (x1 < 0 → (Q (.inl (some (.inl 0))) (m_Ex g T, J, X))) ∧ (0 ≤ x1 → ((x1 < 2 → ((0 ≤ x1 ∧ x1 < 2) ∧ (Wp 20 [some (.inr (.inr (.ref 0))), some (.inl x1)] [] (m_Ex g T, J, X) bc bs))) ∧ (2 ≤ x1 → (Q (.inl (some (.inl 0))) (m_Ex g T, J, X)))))) : Wp 0 [some (.inr (.inr (.ref 0))), some (.inl x1)] [] (m_Ex g T, J, X) bc bs :=
  hs 400 [(20, 2), (33, 2)] [] 0 _ _ _ _ _ (⟨fun c3 => ⟨rfl, ⟨Or.inl rfl, (h.1 c3)⟩⟩, fun c3 => ⟨rfl, ⟨fun c2 => ⟨_, z_k0, (fun (b1 : 0 ≤ x1 ∧ x1 < 2) => ⟨_, _, _, _, z_k145, rfl, b1, hg, ((h.2 c3).1 c2).2⟩) ((h.2 c3).1 c2).1⟩, fun c2 => ⟨rfl, ⟨Or.inl rfl, ((h.2 c3).2 c2)⟩⟩⟩⟩⟩)
theorem z_mkD {l : Launch} {d n : Nat} {g : List (Option Nat)} {T : m_E} {J : z_J} {X : z_X} {bc bs : Nat} {K : z_O → z_S → Nat → Nat → Prop} (hn : (m_Ex g T).length = n) (hl : n + 100 < 1000) (hb : 88 ≤ bc) (hb2 : 5100 ≤ bs)
    (hK : ∀ (J' : z_J) (X' : z_X), (∀ a, a < n → J' a = J a) → K (.inl none) (m_Ex g (T ++ m_DayAt n), J', X') (bc - 88) (bs - 5100)) : z_Call l (d + 2) 0 [.inr (.inr (.ref n))] (m_Ex g T ++ [(.inl 0, [none, none, none, none, none, none, none, none])], z_row J n (fun _ => 0), (z_row X.1 n (fun _ => 0), m_rowX X.2 n (fun _ => 0))) bc bs K := by
  refine ⟨88, 5100, _, e_initDay (E0 := m_Ex g T) hn hl (Nat.le_refl _) (Nat.le_refl _), hb, hb2, fun o S' _ hq => ?_⟩
  obtain ⟨rfl, h1, h2⟩ := hq
  obtain ⟨E', J', X'⟩ := S'
  have h1 : E' = _ := h1
  rw [m_Ex_app] at h1
  subst h1
  refine hK J' X' (fun a ha => ?_)
  rw [show J' a = z_u (z_row J n (fun _ => 0)) n 1 6 a from (h2.1 a (Or.inl (by omega))).1, z_u_ne (by omega), z_row_ne (by omega)]
set_option maxRecDepth 20000 in
theorem w_126n_20 {l : Launch} {d : Nat} {Q : z_O → z_S → Prop} {Wp : Nat → z_C} {g : List (Option Nat)} {T : m_E} {J : z_J} {X : z_X} {bc bs n : Nat} (hs : z_Cl l (d + 2) m_me_126 Q Wp) {x1 : Int} (hi : 0 ≤ x1 ∧ x1 < 2) (hn : (m_Ex g T).length = n) (hl : n + 100 < 1000) (hb : 89 ≤ bc) (hb2 : 5108 ≤ bs)
    (h : ∀ (J' : z_J) (X' : z_X), (∀ a, a < n → J' a = J a) → Wp 33 [some (.inr (.inr (.ref 0))), some (.inl x1)] [] (m_Ex (g.set x1.toNat (some n)) (T ++ m_DayAt n), J', X') (bc - 1 - 88) (bs - 8 - 5100)) : Wp 20 [some (.inr (.inr (.ref 0))), some (.inl x1)] [] (m_Ex g T, J, X) bc bs := by
  subst hn
  refine hs 400 [(20, 2), (33, 2)] [] 20 _ _ _ _ _ (⟨_, z_k0, ⟨⟨?_, ?_, ?_⟩, ⟨_, rfl, rfl, rfl, z_mkD rfl hl ?_ ?_ (fun J' X' hJ => ⟨_, _, _, _, _, z_k145, ((x_at_new rfl) 0 (by decide)).trans rfl, rfl, ⟨hi.1, hi.2⟩, ?_⟩)⟩⟩⟩)
  · show (m_Ex g T).length < 1000
    omega
  · show 1 ≤ bc
    omega
  · show 8 ≤ bs
    omega
  · show 88 ≤ bc - 1
    omega
  · show 5100 ≤ bs - 8
    omega
  · have := h J' X' hJ
    rw [← m_Ex_set (g := g)] at this
    exact this
section Q37
variable {l : Launch} {d : Nat} {g : List (Option Nat)} {T : m_E} {J : z_J} {X : z_X} {q : Int → Int} {n : Nat}
theorem q_saveBadN {x : Int} (hx : ¬ (0 ≤ x ∧ x < 2)) (hg : g.getD x.toNat none = none) : z_Sem l (d + 3) M_Q_saveSnapshot [.inr (.inr (.ref 0)), .inl x] (m_Ex g T, J, X) 300 30000 (z_ret (.inl 0) (m_Ex g T, J, X)) := by
  refine z_sem_of z_m126 m_ok_126 (Nat.le_of_ble_eq_true rfl) (fun Wp hs hv hS => ?_)
  refine w_126n_0 hs hg ?_
  exact ⟨fun _ => ⟨rfl, rfl⟩, fun a => ⟨fun b => absurd ⟨a, b⟩ hx, fun _ => ⟨rfl, rfl⟩⟩⟩
theorem q_saveNone {x : Int} (hx : 0 ≤ x ∧ x < 2) (hg2 : g.length = 2) (hg : g.getD x.toNat none = none) (hn : (m_Ex g T).length = n) (hl : n + 100 < 1000) (hb : y_base q) (h : x_day 36 q J) : z_Sem l (d + 3) M_Q_saveSnapshot [.inr (.inr (.ref 0)), .inl x] (m_Ex g T, J, X) 300 30000 (z_rq (m_Ex (g.set x.toNat (some n)) (T ++ m_DayAt n)) (fun v J' X' => v = 1 ∧ x_day n q J' ∧ J' 146 x = 1 ∧ (∀ j, j ≠ x → J' 146 j = J 146 j) ∧ ∀ a, a ≠ 146 → a < n → J' a = J a)) := by
  have h163 : 163 ≤ n := by rw [← hn, m_Ex_len]; omega
  refine z_sem_of z_m126 m_ok_126 (Nat.le_of_ble_eq_true rfl) (fun Wp hs hv hS => ?_)
  refine w_126n_0 hs hg ?_
  refine ⟨fun a => by omega, fun a => ⟨fun b => ⟨by omega, ?_⟩, fun b => by omega⟩⟩
  refine w_126n_20 hs hx hn hl (by omega) (by omega) (fun J1 X1 e1 => ?_)
  have hg' : (g.set x.toNat (some n)).getD x.toNat none = some n := by
    rw [List.getD_eq_getElem?_getD, List.getElem?_set_self (by omega)]; rfl
  have hd := x_at_new hn (g' := g.set x.toNat (some n))
  refine w_126s_33 hs hg' hd ?_
  have h1 : x_day 36 q J1 := x_day_mv (y_cb_b hb) (fun _ _ _ => rfl) (fun k hk => by rw [e1 _ (by omega)]) h
  refine ⟨by omega, z_cVq (e_copyDay x_at36 hd (by omega) hb h1) ?_⟩
  rintro J2 X2 ⟨rfl, x2, f2⟩
  refine ⟨by omega, _, _, _, rfl, rfl, rfl, x_day_mv (y_cb_b hb) (fun _ _ _ => rfl) (fun k hk => by rw [z_u_ne (by omega)]) x2, z_u_at rfl, fun j hj => ?_, fun a h1 h2 => ?_⟩
  · rw [z_u_off hj, f2 146 (by omega), e1 146 (by omega)]
  · rw [z_u_ne h1, f2 a (by omega), e1 a h2]
end Q37
