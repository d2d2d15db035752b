/-! pairs of the other calls -/
section V5
variable {l : Launch} {d : Nat} {g : List (Option Nat)} {T : m_E} {J J2 : z_J}
theorem x_I.u (hI : x_I g T J) {t : Int} : x_I g T (z_u J 148 2 t) := x_I.step hI hI.1.2 x_fr.rf hI.1.1 y_far.rf y_tp_u
theorem x_I.inp (hI : x_I g T J) (h : ∀ b, b ≠ 1 → b ≠ 2 → b ≠ 148 → b ≠ 158 → J2 b = J b) (h8 : ∀ k, (k = 11 ∨ k = 23 ∨ k = 24) → J2 148 k = J 148 k) (ht : x_txt J2) (he : x_err J2) : x_I g T J2 := by
  obtain ⟨⟨hb, hd⟩, -, -, hm, hs, hz, hn⟩ := hI
  have e9 : J2 149 = J 149 := h 149 (by omega) (by omega) (by omega) (by omega)
  refine ⟨⟨by rw [e9]; exact hb, by rw [e9]; exact x_day_mv (y_cb_b hb) (fun _ _ _ => rfl) (fun k hk => h _ (by omega) (by omega) (by omega) (by omega)) hd⟩, ht, he, ?_, ?_, ?_, ?_⟩
  · exact hm.go (h 147 (by omega) (by omega) (by omega) (by omega)) (h 157 (by omega) (by omega) (by omega) (by omega)) (by rw [h 0 (by omega) (by omega) (by omega) (by omega)]) (h8 11 (by omega))
  · exact hs.go (fun b x1 x2 => h b (by omega) (by omega) (by omega) (by omega)) (h 159 (by omega) (by omega) (by omega) (by omega)) (h8 23 (by omega)) (h8 24 (by omega))
  · exact hz.go (fun b x1 x2 => h b (by omega) (by omega) (by omega) (by omega))
  · exact hn.go (h 146 (by omega) (by omega) (by omega) (by omega)) (h 150 (by omega) (by omega) (by omega) (by omega)) (by rw [e9]; exact y_far.rf) (fun b x1 => h b (by omega) (by omega) (by omega) (by omega))
theorem r_errorCode (hI : x_I g T J) : x_prU l d M_Q_errorCode M_R_errorCode [] 4 24 g T J := by
  intro X
  refine ⟨_, q_errorCode (d := d + 11), fun o S1 h => ?_⟩
  obtain ⟨rfl, rfl⟩ := h
  refine ⟨g, T, J, X, _, rfl, rfl, by omega, _, p_errorCode (d := d + 11), fun o2 S2 h2 => ?_⟩
  obtain ⟨rfl, rfl⟩ := h2
  exact ⟨_, _, rfl, by rw [hI.2.2.1.1], hI.u⟩
theorem r_errorPosition (hI : x_I g T J) : x_prU l d M_Q_errorPosition M_R_errorPosition [] 4 24 g T J := by
  intro X
  refine ⟨_, q_errorPosition (d := d + 11), fun o S1 h => ?_⟩
  obtain ⟨rfl, rfl⟩ := h
  refine ⟨g, T, J, X, _, rfl, rfl, by omega, _, p_errorPosition (d := d + 11), fun o2 S2 h2 => ?_⟩
  obtain ⟨rfl, rfl⟩ := h2
  exact ⟨_, _, rfl, by rw [hI.2.2.1.2], hI.u⟩
theorem r_scriptLength (hI : x_I g T J) : x_prU l d M_Q_scriptLength M_R_scriptLength [] 4 24 g T J := by
  intro X
  obtain ⟨B, c, a1, a2, a3, a4, a5, a6, a7⟩ := hI.2.2.2.2.1
  have a8 := a3.1
  refine ⟨_, q_scriptLength (d := d + 10) (by omega) (by omega), fun o S1 h => ?_⟩
  obtain ⟨rfl, rfl⟩ := h
  refine ⟨g, T, J, X, _, rfl, rfl, by omega, _, p_scriptLength (d := d + 11) (by omega) (by omega), fun o2 S2 h2 => ?_⟩
  obtain ⟨rfl, rfl⟩ := h2
  exact ⟨_, _, rfl, by rw [a5, a6, a4], hI.u⟩
theorem r_formattedByte (hI : x_I g T J) {x : Int} : x_prU l d M_Q_formattedByte M_R_formattedByte [.inl x] 4 24 g T J := by
  intro X
  obtain ⟨⟨m1, m2⟩, m3⟩ := hI.2.2.2.1
  have m1 : J 0 10 = J 148 11 := m1
  refine ⟨_, q_formattedByte (d := d + 11) (by omega), fun o S1 h => ?_⟩
  obtain ⟨rfl, rfl⟩ := h
  refine ⟨g, T, J, X, _, rfl, rfl, by omega, _, p_formattedByte (d := d + 10) m3, fun o2 S2 h2 => ?_⟩
  obtain ⟨rfl, rfl⟩ := h2
  refine ⟨_, _, rfl, ?_, hI.u⟩
  rw [m1]
  by_cases c : 0 ≤ x ∧ x < J 148 11
  · rw [if_pos c, if_pos c]
    have : J 147 x = J 157 x := m2 x c.1 (by show x < J 0 10; omega)
    rw [this]
  · rw [if_neg c, if_neg c]
theorem r_truncateInput (hI : x_I g T J) {x : Int} : x_prU l d M_Q_truncateInput M_R_truncateInput [.inl x] 4 24 g T J := by
  intro X
  obtain ⟨t1, t2, t3⟩ := hI.2.1
  obtain ⟨e1, e2⟩ := hI.2.2.1
  refine ⟨_, q_truncateInput (d := d + 11), fun o S1 h => ?_⟩
  obtain ⟨rfl, rfl⟩ := h
  by_cases c : 0 ≤ x ∧ x ≤ J 1 1
  · rw [if_pos c, if_pos c]
    refine ⟨g, T, _, X, _, rfl, rfl, by omega, _, p_truncateInput (d := d + 10), fun o2 S2 h2 => ?_⟩
    obtain ⟨rfl, rfl⟩ := h2
    have c' : 0 ≤ x ∧ x ≤ z_u J 1 1 x 148 13 := by rw [z_u_ne (by omega), ← t2]; exact c
    rw [if_pos c', if_pos c']
    refine ⟨_, _, rfl, rfl, x_I.inp hI (fun b h1 h2 h3 h4 => ?_) (fun k hk => ?_) ⟨?_, ?_, ?_⟩ ⟨?_, ?_⟩⟩
    · rw [z_u_ne h3, z_u_ne h3, z_u_ne h1]
    · rw [z_u_off (by omega), z_u_off (by omega), z_u_ne (by omega)]
    · rw [z_u_ne (by omega), z_u_ne (by omega), z_u_ne (by omega), z_u_ne (by omega), z_u_ne (by omega), z_u_ne (by omega), t1]
    · rw [z_u_ne (by omega), z_u_ne (by omega), z_u_at rfl, z_u_at rfl]
    · rw [z_u_at rfl, z_u_ne (by omega), z_u_ne (by omega), z_u_ne (by omega)]
      obtain ⟨u1, u2⟩ := t3
      exact ⟨by omega, fun k h1 h2 => u2 k h1 (by omega)⟩
    · rw [z_u_ne (by omega), z_u_ne (by omega), z_u_off (by omega), z_u_off (by omega), z_u_off (by omega), z_u_ne (by omega), e1]
    · rw [z_u_ne (by omega), z_u_ne (by omega), z_u_off (by omega), z_u_off (by omega), z_u_off (by omega), z_u_ne (by omega), e2]
  · rw [if_neg c, if_neg c]
    refine ⟨g, T, _, X, _, rfl, rfl, by omega, _, p_truncateInput (d := d + 10), fun o2 S2 h2 => ?_⟩
    obtain ⟨rfl, rfl⟩ := h2
    rw [t2] at c
    rw [if_neg c, if_neg c]
    exact ⟨_, _, rfl, rfl, hI.u⟩
theorem y_byte_r {x k : Int} : -128 ≤ y_byte x k ∧ y_byte x k ≤ 127 := by unfold y_byte; omega
theorem y_word_r {f : Int → Int} {n x m : Int} (h : ∀ k, 0 ≤ k → k < n → -128 ≤ f k ∧ f k ≤ 127) (hm : m = n + 4) : ∀ k, 0 ≤ k → k < m → -128 ≤ k_word f n x k ∧ k_word f n x k ≤ 127 := by
  subst hm
  intro k h0 h1
  unfold k_word z_up
  split
  · exact y_byte_r
  · split
    · exact y_byte_r
    · split
      · exact y_byte_r
      · split
        · exact y_byte_r
        · exact h k h0 (by omega)
theorem r_appendInput (hI : x_I g T J) {x1 x2 x3 x4 x5 : Int} (r1 : -2147483648 ≤ x1 ∧ x1 ≤ 2147483647) (r2 : -2147483648 ≤ x2 ∧ x2 ≤ 2147483647) (r3 : -2147483648 ≤ x3 ∧ x3 ≤ 2147483647) (r4 : -2147483648 ≤ x4 ∧ x4 ≤ 2147483647) (r5 : -2147483648 ≤ x5 ∧ x5 ≤ 2147483647) : x_prU l d M_Q_appendInput M_R_appendInput [.inl x1, .inl x2, .inl x3, .inl x4, .inl x5] 4 24 g T J := by
  intro X
  obtain ⟨t1, t2, t3⟩ := hI.2.1
  obtain ⟨e1, e2⟩ := hI.2.2.1
  have t4 := t3.1
  refine ⟨_, q_appendInput (d := d + 10) (by omega) r1 r2 r3 r4 r5, fun o S1 h => ?_⟩
  obtain ⟨rfl, rfl⟩ := h
  by_cases c : J 1 1 ≤ 1480
  · rw [if_pos c, if_pos c]
    have e8 : z_u (z_row J 2 (k_text (J 2) (J 1 1) x1 x2 x3 x4 x5)) 1 1 (J 1 1 + 20) 148 = J 148 := by rw [z_u_ne (by omega), z_row_ne (by omega)]
    have e15 : z_u (z_row J 2 (k_text (J 2) (J 1 1) x1 x2 x3 x4 x5)) 1 1 (J 1 1 + 20) 158 = J 158 := by rw [z_u_ne (by omega), z_row_ne (by omega)]
    refine ⟨g, T, _, X, _, rfl, rfl, by omega, _, p_appendInput (d := d + 10) (by rw [e8]; exact t4), fun o2 S2 h2 => ?_⟩
    obtain ⟨rfl, rfl⟩ := h2
    rw [e8, e15, if_pos (show J 148 13 ≤ 1480 by omega), if_pos (show J 148 13 ≤ 1480 by omega)]
    refine ⟨_, _, rfl, by rw [t2], x_I.inp hI (fun b h1 h2 h3 h4 => ?_) (fun k hk => ?_) ⟨?_, ?_, ?_⟩ ⟨?_, ?_⟩⟩
    · rw [z_u_ne h3, z_row_ne h4, z_u_ne h3, z_u_ne h1, z_row_ne h2]
    · rw [z_u_off (by omega), z_row_ne (by omega), z_u_off (by omega), e8]
    · rw [z_u_ne (by omega), z_row_ne (by omega), z_u_ne (by omega), z_u_ne (by omega), z_row_eq, z_u_ne (by omega), z_row_eq, t1, t2]
    · rw [z_u_ne (by omega), z_row_ne (by omega), z_u_ne (by omega), z_u_at rfl, z_u_at rfl, t2]
    · rw [z_u_ne (by omega), z_row_eq, z_u_at rfl]
      refine ⟨by omega, ?_⟩
      unfold k_text
      exact y_word_r (y_word_r (y_word_r (y_word_r (y_word_r t3.2 rfl) rfl) rfl) rfl) (by omega)
    · rw [z_u_ne (by omega), z_row_ne (by omega), z_u_ne (by omega), z_u_off (by omega), z_row_ne (by omega), z_u_off (by omega), z_row_ne (by omega), z_u_off (by omega), e8, e1]
    · rw [z_u_ne (by omega), z_row_ne (by omega), z_u_ne (by omega), z_u_off (by omega), z_row_ne (by omega), z_u_off (by omega), z_row_ne (by omega), z_u_off (by omega), e8, e2]
  · rw [if_neg c, if_neg c]
    refine ⟨g, T, _, X, _, rfl, rfl, by omega, _, p_appendInput (d := d + 10) t4, fun o2 S2 h2 => ?_⟩
    obtain ⟨rfl, rfl⟩ := h2
    rw [t2] at c
    rw [if_neg c, if_neg c]
    exact ⟨_, _, rfl, rfl, hI.u⟩
theorem r_nextWindow (hI : x_I g T J) {i r e : Int} : x_prI l d M_Q_nextWindow M_R_nextWindow [.inl i, .inl r, .inl e] x_e1 x_e2 (fun _ => True) g T J :=
  x_pr_mk (oo := fun q => y_need ((0 ≤ i ∧ i < q 3) ∧ (0 ≤ r ∧ r < q 1)) 1 (y_need (0 ≤ e ∧ e ≤ 143) 2 (0, y_wf q i r e))) (kk := fun q => q) hI (fun X => q_nextWindow (d := d + 8) hI.1.1 hI.1.2) (fun _ _ _ h => ⟨x_day_sc hI.1.1 hI.1.2 h.2, h.2.fr⟩)
    (fun J1 X hb => ⟨_, p_nextWindow (d := d + 5) hb, fun o2 S2 h => by
      obtain ⟨v, J2, X3, rfl, rfl, rfl, ⟨f, f', rfl, rfl⟩⟩ := h
      refine ⟨_, rfl, rfl, ⟨by rw [z_u_ne (by omega), z_row_ne (by omega), z_row_ne (by omega)], z_u_at rfl, fun k h1 _ => by rw [z_u_off h1, z_row_ne (by omega), z_row_ne (by omega)], fun b h1 h2 h3 => by rw [z_u_ne h1, z_row_ne (by omega), z_row_ne (by omega)]⟩⟩⟩) hI.1.1 y_far.rf True.intro
theorem r_formatItinerary (hI : x_I g T J) {i : Int} : x_prI l d M_Q_formatItinerary M_R_formatItinerary [.inl i] x_e1 x_e2 (fun t => t ≠ 2) g T J := by
  intro X
  refine ⟨_, q_formatItinerary (d := d + 8) hI.1.1 hI.1.2, fun o S1 hS => ?_⟩
  obtain ⟨J1, X1, rfl, ⟨rfl, m1, m2, m3, m4⟩, h2⟩ := hS
  have e9 : J1 149 = J 149 := m4 149 (by omega) (by omega)
  refine ⟨J1, X1, _, _, rfl, h2, y_ne2, fun X2 => ⟨_, p_formatItinerary (d := d + 8) (by rw [e9]; exact hI.1.1), fun o2 S2 hS2 => ?_⟩⟩
  obtain ⟨v, J2, X3, rfl, rfl, rfl, rfl, n1, n2, n3, n4⟩ := hS2
  rw [e9] at n1 n2 n3 n4 ⊢
  have f8 : J1 148 = J 148 := m4 148 (by omega) (by omega)
  have f7 : J1 157 = J 157 := m4 157 (by omega) (by omega)
  rw [f8, f7] at n1 n2
  have off : ∀ b, b ≠ 0 → b ≠ 147 → b ≠ 148 → b ≠ 157 → J2 b = J b := fun b b1 b2 b3 b4 => by rw [n4 b b3 b4, z_u_ne b3, m4 b b1 b2]
  have off8 : ∀ k, k ≠ 2 → k ≠ 11 → J2 148 k = J 148 k := fun k k1 k2 => by rw [n3 k k2, z_u_off k1, f8]
  obtain ⟨⟨hb, hd⟩, ht, he, hm, hs, hz, hn⟩ := hI
  have o9 : J2 149 = J 149 := off 149 (by omega) (by omega) (by omega) (by omega)
  refine ⟨J2, rfl, rfl, by rw [n3 2 (by omega), z_u_at rfl], ⟨by rw [o9]; exact hb, by rw [o9]; exact x_day_mv (y_cb_b hb) (fun _ _ _ => rfl) (fun k hk => off _ (by omega) (by omega) (by omega) (by omega)) hd⟩, ?_, ?_, ?_, ?_, ?_, ?_⟩
  · unfold x_txt; rw [off 2 (by omega) (by omega) (by omega) (by omega), off 1 (by omega) (by omega) (by omega) (by omega), off 158 (by omega) (by omega) (by omega) (by omega), off8 13 (by omega) (by omega)]; exact ht
  · unfold x_err; rw [off 1 (by omega) (by omega) (by omega) (by omega), off8 15 (by omega) (by omega), off8 16 (by omega) (by omega)]; exact he
  · unfold x_fmt
    rw [n1, n2, n4 147 (by omega) (by omega), n4 0 (by omega) (by omega), z_u_ne (by omega), z_u_ne (by omega), m1, m2]
    exact ⟨k_form_same hm.1, k_form_b hb hm.2⟩
  · exact hs.go (fun b x1 x2 => off b (by omega) (by omega) (by omega) (by omega)) (off 159 (by omega) (by omega) (by omega) (by omega)) (off8 23 (by omega) (by omega)) (off8 24 (by omega) (by omega))
  · exact hz.go (fun b x1 x2 => off b (by omega) (by omega) (by omega) (by omega))
  · exact hn.go (off 146 (by omega) (by omega) (by omega) (by omega)) (off 150 (by omega) (by omega) (by omega) (by omega)) (by rw [o9]; exact y_far.rf) (fun b x1 => off b (by omega) (by omega) (by omega) (by omega))
end V5
