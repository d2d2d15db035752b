/-! pairs: snapshots -/
section V7a
variable {l : Launch} {d : Nat} {g : List (Option Nat)} {T : m_E} {J : z_J} {X : z_X} {q : Int → Int} {s9 : Nat}
theorem q_saveBad4 {x : Int} (hx : ¬ (0 ≤ x ∧ x < 2)) (hg : g.getD x.toNat none = some s9) (hd : x_at (m_Ex g T) s9) : z_Sem l (d + 3) M_Q_saveSnapshot [.inr (.inr (.ref 0)), .inl x] (m_Ex g T, J, X) 4 24 (z_ret (.inl 0) (m_Ex g T, J, X)) := by
  refine z_sem_of z_m126 m_ok_126 (Nat.le_of_ble_eq_true rfl) (fun Wp hs hv hS => ?_)
  refine w_126s_0 hs hg hd ?_
  exact ⟨fun _ => ⟨rfl, rfl⟩, fun a => ⟨fun b => absurd ⟨a, b⟩ hx, fun _ => ⟨rfl, rfl⟩⟩⟩
theorem q_saveBadN4 {x : Int} (hx : ¬ (0 ≤ x ∧ x < 2)) (hg : g.getD x.toNat none = none) : z_Sem l (d + 3) M_Q_saveSnapshot [.inr (.inr (.ref 0)), .inl x] (m_Ex g T, J, X) 4 24 (z_ret (.inl 0) (m_Ex g T, J, X)) := by
  refine z_sem_of z_m126 m_ok_126 (Nat.le_of_ble_eq_true rfl) (fun Wp hs hv hS => ?_)
  refine w_126n_0 hs hg ?_
  exact ⟨fun _ => ⟨rfl, rfl⟩, fun a => ⟨fun b => absurd ⟨a, b⟩ hx, fun _ => ⟨rfl, rfl⟩⟩⟩
theorem q_saveSome4 {x : Int} (hx : 0 ≤ x ∧ x < 2) (hg : g.getD x.toNat none = some s9) (hd : x_at (m_Ex g T) s9) (h9 : 163 ≤ s9) (hb : y_base q) (h : x_day 36 q J) : z_Sem l (d + 3) M_Q_saveSnapshot [.inr (.inr (.ref 0)), .inl x] (m_Ex g T, J, X) 4 24 (z_rq (m_Ex g T) (fun v J' X' => X' = X ∧ v = 1 ∧ x_day s9 q J' ∧ J' 146 x = 1 ∧ (∀ j, j ≠ x → J' 146 j = J 146 j) ∧ ∀ a, a ≠ 146 → (a < s9 ∨ s9 + 88 < a) → J' a = J a)) := by
  refine z_sem_of z_m126 m_ok_126 (Nat.le_of_ble_eq_true rfl) (fun Wp hs hv hS => ?_)
  refine w_126s_0 hs hg hd ?_
  refine ⟨fun a => by omega, fun a => ⟨fun b => ⟨by omega, ?_⟩, fun b => by omega⟩⟩
  refine w_126s_33 hs hg hd ?_
  refine ⟨by omega, z_cVq (e_copyDay x_at36 hd (by omega) hb h) ?_⟩
  rintro J2 X2 ⟨rfl, x2, f2⟩
  refine ⟨by omega, _, _, _, rfl, rfl, rfl, rfl, x_day_mv (y_cb_b hb) (fun _ _ _ => rfl) (fun k hk => by rw [z_u_ne (by omega)]) x2, z_u_at rfl, fun j hj => ?_, fun a h1 h2 => ?_⟩
  · rw [z_u_off hj, f2 146 (by omega)]
  · rw [z_u_ne h1, f2 a h2]
end V7a
section V7
variable {l : Launch} {d : Nat} {g g' : List (Option Nat)} {T T' : m_E} {J J2 : z_J}
theorem k_copy_in {q : Int → Int} {a b j : Int} (h0 : 0 ≤ j) (h1 : j < 4964) : y_part (k_copy q a b) b j = y_part q a j := by
  unfold y_part k_copy
  rw [if_pos (by omega)]
  congr 1
  omega
theorem k_copy_off {q : Int → Int} {a b j : Int} (h : j < 4964 * b ∨ 4964 * b + 4964 ≤ j) : k_copy q a b j = q j := by
  unfold k_copy
  rw [if_neg (by omega)]
theorem x_snap_save {x : Int} {s9 : Nat} (hn : x_snap g T J) (h1 : g'.length = 2) (h2 : T'.length + 89 * x_nn g' = 178) (hx : x = 0 ∨ x = 1) (hg' : g'.getD x.toNat none = some s9) (hat : x_at (m_Ex g' T') s9) (h163 : 163 ≤ s9) (hle : s9 + 89 ≤ 163 + T'.length)
    (hoth : ∀ y : Int, (y = 0 ∨ y = 1) → y ≠ x → g'.getD y.toNat none = g.getD y.toNat none)
    (hdis : ∀ (y : Int) (s' : Nat), (y = 0 ∨ y = 1) → y ≠ x → g.getD y.toNat none = some s' → s' + 89 ≤ s9 ∨ s9 + 89 ≤ s')
    (hat' : ∀ s' : Nat, 163 ≤ s' → s' + 89 ≤ 163 + T.length → x_at (m_Ex g T) s' → x_at (m_Ex g' T') s') (hT : T.length ≤ T'.length)
    (hb : y_base (J 149)) (hd : x_day s9 (J 149) J2) (e9 : J2 149 = k_copy (J 149) 0 (1 + x)) (h146 : J2 146 x = 1) (h150 : J2 150 x = 1) (h146' : ∀ j, j ≠ x → J2 146 j = J 146 j) (h150' : ∀ j, j ≠ x → J2 150 j = J 150 j)
    (hc : ∀ a, 163 ≤ a → a < 163 + T.length → (a < s9 ∨ s9 + 88 < a) → J2 a = J a) : x_snap g' T' J2 := by
  obtain ⟨n1, n2, n3, n4⟩ := hn
  refine ⟨h1, h2, fun s s' hs hs' => ?_, fun y hy => ?_⟩
  · rcases hx with rfl | rfl
    · have e : some s9 = some s := hg'.symm.trans hs
      have e1 := hoth 1 (Or.inr rfl) (by omega)
      have := hdis 1 s' (Or.inr rfl) (by omega) (e1.symm.trans hs')
      cases e
      omega
    · have e : some s9 = some s' := hg'.symm.trans hs'
      have e1 := hoth 0 (Or.inl rfl) (by omega)
      have := hdis 0 s (Or.inl rfl) (by omega) (e1.symm.trans hs)
      cases e
      omega
  · by_cases c : y = x
    · subst c
      refine ⟨by rw [h146, h150], fun _ => ⟨s9, hg'⟩, fun s hs => ?_⟩
      have e : some s9 = some s := hg'.symm.trans hs
      cases e
      refine ⟨⟨hat, h163, hle⟩, fun _ => ?_⟩
      rw [e9]
      have ee : ∀ j, 0 ≤ j → j < 4964 → y_part (k_copy (J 149) 0 (1 + y)) (1 + y) j = J 149 j := fun j a b => by
        rw [k_copy_in a b]; unfold y_part; congr 1; omega
      exact ⟨y_base_cg ee hb, x_day_mv (y_cb_b hb) ee (fun _ _ => rfl) hd⟩
    · obtain ⟨a1, a2, a3⟩ := n4 y hy
      rw [h146' y c, h150' y c, hoth y hy c]
      refine ⟨a1, a2, fun s hs => ?_⟩
      obtain ⟨⟨b1, b2, b3⟩, b4⟩ := a3 s hs
      refine ⟨⟨hat' s b2 b3 b1, b2, by omega⟩, fun h0 => ?_⟩
      obtain ⟨p1, p2⟩ := b4 h0
      have ee : ∀ j, 0 ≤ j → j < 4964 → y_part (J2 149) (1 + y) j = y_part (J 149) (1 + y) j := fun j a b => by
        rw [e9]; unfold y_part; exact k_copy_off (by omega)
      have := hdis y s hy c hs
      exact ⟨y_base_cg ee p1, x_day_mv (y_cb_b p1) ee (fun k hk => hc _ (by omega) (by omega) (by omega)) p2⟩
theorem m_Ex_hi {i : Nat} {U : m_E} (h : 146 ≤ i) (h2 : i < 163 + T.length) : (m_Ex g' (T ++ U))[i]? = (m_Ex g T)[i]? := by
  unfold m_Ex
  have e : m_E0a.length = 145 := rfl
  have e2 : m_E0b.length = 17 := rfl
  rw [List.getElem?_append_right (by omega), List.getElem?_append_right (by omega), e, show i - 145 = (i - 146) + 1 by omega, List.getElem?_cons_succ, List.getElem?_cons_succ, ← List.append_assoc, List.getElem?_append_left (by rw [List.length_append, e2]; omega)]
/-- the rest of the invariant behind a saved day -/
theorem x_I_save {J1 : z_J} {x : Int} (hI : x_I g T J) (f : ∀ a, a ≠ 146 → a < 163 → J1 a = J a) (hs : x_snap g' T' (z_u (z_row (z_u J1 148 2 0) 149 (k_copy (J 149) 0 (1 + x))) 150 x 1)) (hx : x = 0 ∨ x = 1) : x_I g' T' (z_u (z_row (z_u J1 148 2 0) 149 (k_copy (J 149) 0 (1 + x))) 150 x 1) := by
  obtain ⟨⟨hb, hd⟩, ht, he, hm, hsc, hz, -⟩ := hI
  generalize hJ2 : z_u (z_row (z_u J1 148 2 0) 149 (k_copy (J 149) 0 (1 + x))) 150 x 1 = J2 at hs ⊢
  have off : ∀ b, b ≠ 146 → b < 163 → b ≠ 148 → b ≠ 149 → b ≠ 150 → J2 b = J b := fun b h1 h2 h3 h4 h5 => by rw [← hJ2, z_u_ne h5, z_row_ne h4, z_u_ne h3, f b h1 h2]
  have off8 : ∀ k, k ≠ 2 → J2 148 k = J 148 k := fun k h1 => by rw [← hJ2, z_u_ne (by omega), z_row_ne (by omega), z_u_off h1, f 148 (by omega) (by omega)]
  have e9 : ∀ j, 0 ≤ j → j < 4964 → J2 149 j = J 149 j := fun j h1 h2 => by rw [← hJ2, z_u_ne (by omega), z_row_eq, k_copy_off (by omega)]
  refine ⟨⟨y_base_cg e9 hb, x_day_mv (y_cb_b hb) e9 (fun k hk => off _ (by omega) (by omega) (by omega) (by omega) (by omega)) hd⟩, ?_, ?_, ?_, ?_, ?_, hs⟩
  · unfold x_txt; rw [off 2 (by omega) (by omega) (by omega) (by omega) (by omega), off 1 (by omega) (by omega) (by omega) (by omega) (by omega), off 158 (by omega) (by omega) (by omega) (by omega) (by omega), off8 13 (by omega)]; exact ht
  · unfold x_err; rw [off 1 (by omega) (by omega) (by omega) (by omega) (by omega), off8 15 (by omega), off8 16 (by omega)]; exact he
  · exact hm.go (off 147 (by omega) (by omega) (by omega) (by omega) (by omega)) (off 157 (by omega) (by omega) (by omega) (by omega) (by omega)) (by rw [off 0 (by omega) (by omega) (by omega) (by omega) (by omega)]) (off8 11 (by omega))
  · exact hsc.go (fun b x1 x2 => off b (by omega) (by omega) (by omega) (by omega) (by omega)) (off 159 (by omega) (by omega) (by omega) (by omega) (by omega)) (off8 23 (by omega)) (off8 24 (by omega))
  · exact hz.go (fun b x1 x2 => off b (by omega) (by omega) (by omega) (by omega) (by omega))
theorem r_saveSnapshot (hI : x_I g T J) {x : Int} : ∃ mc ms, (mc ≤ 4 + 300 * x_nn g ∧ ms ≤ 24 + 30000 * x_nn g) ∧ x_prU l d M_Q_saveSnapshot M_R_saveSnapshot [.inl x] mc ms g T J := by
  obtain ⟨n1, n2, n3, n4⟩ := hI.2.2.2.2.2.2
  by_cases hx : 0 ≤ x ∧ x < 2
  · have hx' : x = 0 ∨ x = 1 := by omega
    cases hg : g.getD x.toNat none with
    | some s9 =>
      obtain ⟨⟨a1, a2, a3⟩, -⟩ := (n4 x hx').2.2 s9 hg
      refine ⟨4, 24, ⟨by omega, by omega⟩, fun X => ⟨_, q_saveSome4 (d := d + 9) hx hg a1 a2 hI.1.1 hI.1.2, fun o S1 hS => ?_⟩⟩
      obtain ⟨v, J1, X1, rfl, rfl, rfl, rfl, b1, b2, b3, b4⟩ := hS
      refine ⟨g, T, J1, X1, _, rfl, rfl, by omega, _, p_saveSnapshot (d := d + 10), fun o2 S2 hS2 => ?_⟩
      obtain ⟨rfl, rfl⟩ := hS2
      rw [if_pos (by omega), if_pos (by omega)]
      refine ⟨_, _, rfl, rfl, ?_⟩
      have e9 : J1 149 = J 149 := b4 149 (by omega) (by omega)
      rw [e9]
      refine x_I_save hI (fun a h1 h2 => b4 a h1 (by omega)) ?_ hx'
      refine x_snap_save (J := J) ⟨n1, n2, n3, n4⟩ n1 n2 hx' hg a1 a2 a3 (fun _ _ _ => rfl) (fun y s' hy hne hs' => ?_) (fun _ _ _ h => h) (Nat.le_refl _) hI.1.1 ?_ ?_ ?_ ?_ (fun j hj => ?_) (fun j hj => ?_) (fun a h1 h2 h3 => ?_)
      · rcases hx' with rfl | rfl
        · obtain rfl : y = 1 := by omega
          have := n3 s9 s' hg hs'
          omega
        · obtain rfl : y = 0 := by omega
          exact n3 s' s9 hs' hg
      · exact x_day_mv (y_cb_b hI.1.1) (fun _ _ _ => rfl) (fun k hk => by rw [z_u_ne (by omega), z_row_ne (by omega), z_u_ne (by omega)]) b1
      · rw [z_u_ne (by omega), z_row_eq]
      · rw [z_u_ne (by omega), z_row_ne (by omega), z_u_ne (by omega)]; exact b2
      · exact z_u_at rfl
      · rw [z_u_ne (by omega), z_row_ne (by omega), z_u_ne (by omega)]; exact b3 j hj
      · rw [z_u_off hj, z_row_ne (by omega), z_u_ne (by omega), b4 150 (by omega) (by omega)]
      · rw [z_u_ne (by omega), z_row_ne (by omega), z_u_ne (by omega), b4 a (by omega) h3]
    | none =>
      have hnn : 1 ≤ x_nn g := by
        unfold x_nn
        rcases hx' with rfl | rfl
        · rw [if_pos (show g.getD 0 none = none from hg)]; omega
        · rw [if_pos (show g.getD 1 none = none from hg)]; omega
      have hlen : (m_Ex g T).length = 163 + T.length := m_Ex_len
      have hset : ∀ y : Int, (y = 0 ∨ y = 1) → y ≠ x → (g.set x.toNat (some (163 + T.length))).getD y.toNat none = g.getD y.toNat none := fun y hy hne => by
        rw [List.getD_eq_getElem?_getD, List.getD_eq_getElem?_getD, List.getElem?_set_ne (by omega)]
      have hself : (g.set x.toNat (some (163 + T.length))).getD x.toNat none = some (163 + T.length) := by
        rw [List.getD_eq_getElem?_getD, List.getElem?_set_self (by omega)]; rfl
      have hnn2 : x_nn (g.set x.toNat (some (163 + T.length))) + 1 = x_nn g := by
        unfold x_nn
        rcases hx' with rfl | rfl
        · have q1 : (g.set (Int.toNat 0) (some (163 + T.length))).getD 0 none = some (163 + T.length) := hself
          have q2 : (g.set (Int.toNat 0) (some (163 + T.length))).getD 1 none = g.getD 1 none := hset 1 (Or.inr rfl) (by omega)
          rw [q1, q2, if_pos (show g.getD 0 none = none from hg), if_neg (show ¬ (some (163 + T.length) = (none : Option Nat)) by simp)]; omega
        · have q1 : (g.set (Int.toNat 1) (some (163 + T.length))).getD 1 none = some (163 + T.length) := hself
          have q2 : (g.set (Int.toNat 1) (some (163 + T.length))).getD 0 none = g.getD 0 none := hset 0 (Or.inl rfl) (by omega)
          rw [q1, q2, if_pos (show g.getD 1 none = none from hg), if_neg (show ¬ (some (163 + T.length) = (none : Option Nat)) by simp)]
      refine ⟨300, 30000, ⟨by omega, by omega⟩, fun X => ⟨_, q_saveNone (d := d + 9) hx n1 hg hlen (by omega) hI.1.1 hI.1.2, fun o S1 hS => ?_⟩⟩
      obtain ⟨v, J1, X1, rfl, rfl, rfl, b1, b2, b3, b4⟩ := hS
      refine ⟨_, _, J1, X1, _, rfl, rfl, by omega, _, p_saveSnapshot (d := d + 10), fun o2 S2 hS2 => ?_⟩
      obtain ⟨rfl, rfl⟩ := hS2
      rw [if_pos (by omega), if_pos (by omega)]
      refine ⟨_, _, rfl, rfl, ?_⟩
      have e9 : J1 149 = J 149 := b4 149 (by omega) (by omega)
      rw [e9]
      have hTl : (T ++ m_DayAt (163 + T.length)).length = T.length + 89 := by rw [List.length_append]; rfl
      refine x_I_save hI (fun a h1 h2 => b4 a h1 (by omega)) ?_ hx'
      refine x_snap_save (J := J) (s9 := 163 + T.length) ⟨n1, n2, n3, n4⟩ (by rw [List.length_set]; exact n1) (by rw [hTl]; omega) hx' hself (x_at_new hlen) (by omega) (by rw [hTl]; omega) hset (fun y s' hy hne hs' => ?_) (fun s' h1 h2 h3 k hk => ?_) (by rw [hTl]; omega) hI.1.1 ?_ ?_ ?_ ?_ (fun j hj => ?_) (fun j hj => ?_) (fun a h1 h2 h3 => ?_)
      · have := ((n4 y hy).2.2 s' hs').1.2.2
        omega
      · rw [m_Ex_hi (g := g) (by omega) (by omega)]; exact h3 k hk
      · exact x_day_mv (y_cb_b hI.1.1) (fun _ _ _ => rfl) (fun k hk => by rw [z_u_ne (by omega), z_row_ne (by omega), z_u_ne (by omega)]) b1
      · rw [z_u_ne (by omega), z_row_eq]
      · rw [z_u_ne (by omega), z_row_ne (by omega), z_u_ne (by omega)]; exact b2
      · exact z_u_at rfl
      · rw [z_u_ne (by omega), z_row_ne (by omega), z_u_ne (by omega)]; exact b3 j hj
      · rw [z_u_off hj, z_row_ne (by omega), z_u_ne (by omega), b4 150 (by omega) (by omega)]
      · rw [z_u_ne (by omega), z_row_ne (by omega), z_u_ne (by omega), b4 a (by omega) (by omega)]
  · have hp : ∀ X : z_X, z_Sem l (d + 12) M_Q_saveSnapshot [.inr (.inr (.ref 0)), .inl x] (m_Ex g T, J, X) 4 24 (z_ret (.inl 0) (m_Ex g T, J, X)) := fun X => by
      cases hg : g.getD x.toNat none with
      | none => exact q_saveBadN4 (d := d + 9) hx hg
      | some s9 =>
        have : x.toNat < 2 := by
          rcases Nat.lt_or_ge x.toNat 2 with h | h
          · exact h
          · rw [List.getD_eq_getElem?_getD, List.getElem?_eq_none (by omega)] at hg
            cases hg
        have x0 : x.toNat = 0 := by omega
        have hg0 : g.getD (Int.toNat 0) none = some s9 := by rw [x0] at hg; exact hg
        exact q_saveBad4 (d := d + 9) hx hg ((n4 0 (Or.inl rfl)).2.2 s9 hg0).1.1
    refine ⟨4, 24, ⟨by omega, by omega⟩, fun X => ⟨_, hp X, fun o S1 hS => ?_⟩⟩
    obtain ⟨rfl, rfl⟩ := hS
    refine ⟨g, T, J, X, _, rfl, rfl, by omega, _, p_saveSnapshot (d := d + 10), fun o2 S2 hS2 => ?_⟩
    obtain ⟨rfl, rfl⟩ := hS2
    rw [if_neg (by omega), if_neg (by omega)]
    exact ⟨_, _, rfl, rfl, hI.u⟩
theorem r_restoreSnapshot (hI : x_I g T J) {x : Int} : x_prU l d M_Q_restoreSnapshot M_R_restoreSnapshot [.inl x] 4 24 g T J := by
  intro X
  obtain ⟨n1, n2, n3, n4⟩ := hI.2.2.2.2.2.2
  by_cases hx : (0 ≤ x ∧ x < 2) ∧ J 146 x ≠ 0
  · have hx' : x = 0 ∨ x = 1 := by omega
    obtain ⟨a1, a2, a3⟩ := n4 x hx'
    have h0 : J 150 x ≠ 0 := by rw [← a1]; exact hx.2
    obtain ⟨s9, hg⟩ := a2 h0
    obtain ⟨⟨b1, b2, b3⟩, b4⟩ := a3 s9 hg
    obtain ⟨p1, p2⟩ := b4 h0
    refine ⟨_, q_restoreSome (d := d + 9) hx hg b1 b2 p1 p2, fun o S1 hS => ?_⟩
    obtain ⟨v, J1, X1, rfl, rfl, rfl, rfl, c1, c2⟩ := hS
    refine ⟨g, T, J1, X1, _, rfl, rfl, by omega, _, p_restoreSnapshot (d := d + 10), fun o2 S2 hS2 => ?_⟩
    obtain ⟨rfl, rfl⟩ := hS2
    have e0 : J1 150 = J 150 := c2 150 (by omega)
    have e9 : J1 149 = J 149 := c2 149 (by omega)
    have hc : (0 ≤ x ∧ x ≤ 1) ∧ J1 150 x ≠ 0 := ⟨by omega, by rw [e0]; exact h0⟩
    rw [if_pos hc, if_pos hc, e9]
    have ee : ∀ j, 0 ≤ j → j < 4964 → k_copy (J 149) (1 + x) 0 j = y_part (J 149) (1 + x) j := fun j h1 h2 => by
      unfold k_copy y_part
      rw [if_pos (by omega)]
      congr 1
      omega
    refine ⟨_, _, rfl, rfl, x_I.step (q' := k_copy (J 149) (1 + x) 0) (t := 0) (J1 := J1) hI (x_day_mv (y_cb_b p1) ee (fun _ _ => rfl) c1) (fun b hb => c2 b (by omega)) (y_base_cg ee p1) (fun j h1 h2 => k_copy_off (by omega)) ⟨?_, ?_, fun k h1 h2 => ?_, fun b h1 h2 h3 => ?_⟩⟩
    · rw [z_row_eq]
    · rw [z_row_ne (by omega), z_u_at rfl]
    · rw [z_row_ne (by omega), z_u_off h1]
    · rw [z_row_ne h2, z_u_ne h1]
  · refine ⟨_, q_restoreNone (d := d + 9) hx, fun o S1 hS => ?_⟩
    obtain ⟨rfl, rfl⟩ := hS
    refine ⟨g, T, J, X, _, rfl, rfl, by omega, _, p_restoreSnapshot (d := d + 10), fun o2 S2 hS2 => ?_⟩
    obtain ⟨rfl, rfl⟩ := hS2
    have hc : ¬ ((0 ≤ x ∧ x ≤ 1) ∧ J 150 x ≠ 0) := fun h => hx ⟨by omega, by rw [(n4 x (by omega)).1]; exact h.2⟩
    rw [if_neg hc, if_neg hc]
    exact ⟨_, _, rfl, rfl, hI.u⟩
end V7
