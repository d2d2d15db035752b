/-! pairs: loading, running, snapshots -/
section V6
variable {l : Launch} {d : Nat} {g : List (Option Nat)} {T : m_E} {J J2 : z_J}
theorem r_loadPark (hI : x_I g T J) : x_prU l d M_Q_loadPark M_R_loadPark [] 0 0 g T J := by
  intro X
  obtain ⟨⟨hb, hd⟩, ⟨t1, t2, t3⟩, he, hm, hs, hz, hn⟩ := hI
  refine ⟨_, q_loadPark (d := d + 5) t1 t2 t3 hz, fun o S1 hS => ?_⟩
  obtain ⟨v, J1, X1, rfl, rfl, rfl, a1, a2, a3, a4, a5⟩ := hS
  have f1 : ∀ b, 125 ≤ b → b ≠ 146 → J1 b = J b := fun b h1 h2 => by
    funext j
    exact a1 b j (by unfold x_fl x_fb; omega)
  refine ⟨g, T, J1, X1, v, rfl, rfl, by omega, _, p_loadPark (d := d + 4) (t := J 158) (n := J 148 13) (f1 158 (by omega) (by omega)) (by rw [f1 148 (by omega) (by omega)]) t3, fun o2 S2 hS2 => ?_⟩
  obtain ⟨v2, J2, X3, rfl, rfl, -, b1, b2, b3, b4, b5, b6, b7, b8, b9⟩ := hS2
  have g1 : ∀ b, b ≠ 148 → b ≠ 149 → b ≠ 150 → J2 b = J1 b := b6
  have g8 : ∀ j, j ≠ 2 → (j < 13 ∨ 19 < j) → j ≠ 23 → j ≠ 24 → J2 148 j = J 148 j := fun j h1 h2 h3 h4 => by rw [b1 j h1 h2 h3 h4, f1 148 (by omega) (by omega)]
  have far : y_far (J 149) (J2 149) := fun j h1 h2 => by rw [b7 j (by omega), f1 149 (by omega) (by omega)]
  have vv : v2 = v := by
    rcases a5 with a5 | a5 <;> rcases b9 with b9 | b9
    · rw [b9.2.1, a5.2.1]
    · exact absurd a5.1 b9.1
    · exact absurd b9.1 a5.1
    · rw [b9.2.1, a5.2.1]
  refine ⟨J2, X3, rfl, by rw [vv], ?_⟩
  have ht : x_txt J2 := by
    refine ⟨?_, ?_, ?_⟩
    · rw [g1 2 (by omega) (by omega) (by omega), g1 158 (by omega) (by omega) (by omega), f1 158 (by omega) (by omega), ← t1]
      funext j
      exact a1 2 j (by unfold x_fl x_fb; omega)
    · rw [g1 1 (by omega) (by omega) (by omega), a2, b3]
    · rw [b3]; exact ⟨by omega, fun k h1 h2 => by omega⟩
  have he2 : x_err J2 := by
    unfold x_err
    rw [g1 1 (by omega) (by omega) (by omega), a3, a4, b4, b5]
    exact ⟨rfl, rfl⟩
  have hm2 : x_fmt J2 := hm.go (by rw [g1 147 (by omega) (by omega) (by omega), f1 147 (by omega) (by omega)]) (by rw [g1 157 (by omega) (by omega) (by omega), f1 157 (by omega) (by omega)]) (by rw [g1 0 (by omega) (by omega) (by omega)]; exact a1 0 10 (by unfold x_fl x_fb; omega)) (g8 11 (by omega) (by omega) (by omega) (by omega))
  have hz2 : x_D0 J2 := hz.go (fun b h1 h2 => by
    rw [g1 b (by omega) (by omega) (by omega)]
    funext j
    exact a1 b j (by unfold x_fl x_fb; omega))
  rcases a5 with ⟨c0, c1, c2, c3, c4, c5, c6⟩ | ⟨c0, c1, c2, c3, c4⟩
  · rcases b9 with ⟨-, d1, d2, d3, d4, d5, d6⟩ | b9
    · have hD : y_base (y_park (J 158) (J 148 13)).2.2 := (y_pks_Db _ _ _ _ y_Db0).base
      refine ⟨⟨y_base_cg d2 hD, x_day_mv (y_cb_b hD) d2 (fun k hk => g1 _ (by omega) (by omega) (by omega)) c2⟩, ht, he2, hm2, ⟨fun _ => 0, 0, fun e f h1 h2 => by omega, fun e h1 h2 => by omega, y_Sb0, d3, by rw [g1 30 (by omega) (by omega) (by omega)]; exact c3, by rw [g1 30 (by omega) (by omega) (by omega), c4, d4], by omega⟩, hz2, ?_⟩
      obtain ⟨n1, n2, n3, n4⟩ := hn
      refine ⟨n1, n2, n3, fun x hx => ?_⟩
      have z6 : J2 146 x = 0 := by
        rw [g1 146 (by omega) (by omega) (by omega)]
        rcases hx with rfl | rfl
        · exact c5
        · exact c6
      have z0 : J2 150 x = 0 := by
        rcases hx with rfl | rfl
        · exact d5
        · exact d6
      exact ⟨by rw [z6, z0], fun h => absurd z0 h, fun s9 hs9 => ⟨((n4 x hx).2.2 s9 hs9).1, fun h => absurd z0 h⟩⟩
    · exact absurd c0 b9.1
  · rcases b9 with b9 | ⟨-, d1, d2, d3, d4, d5, d6⟩
    · exact absurd b9.1 c0
    · have e9 : ∀ j, 0 ≤ j → j < 4964 → J2 149 j = J 149 j := fun j h1 h2 => by rw [d2 j h1 h2, f1 149 (by omega) (by omega)]
      refine ⟨⟨y_base_cg e9 hb, x_day_mv (y_cb_b hb) e9 (fun k hk => by
        rw [g1 _ (by omega) (by omega) (by omega)]
        funext j
        exact c2 _ j (by omega)) hd⟩, ht, he2, hm2, ?_, hz2, ?_⟩
      · refine hs.go (fun b h1 h2 => ?_) (by rw [g1 159 (by omega) (by omega) (by omega), f1 159 (by omega) (by omega)]) (by rw [d3, f1 148 (by omega) (by omega)]) (by rw [d4, f1 148 (by omega) (by omega)])
        rw [g1 b (by omega) (by omega) (by omega)]
        funext j
        by_cases e : b = 30
        · subst e; exact c3 j
        · exact a1 b j (by unfold x_fl x_fb; omega)
      · obtain ⟨n1, n2, n3, n4⟩ := hn
        refine x_snap.go (J := J) ⟨n1, n2, n3, n4⟩ ?_ ?_ far (fun b h1 => by rw [g1 b (by omega) (by omega) (by omega), f1 b (by omega) (by omega)])
        · rw [g1 146 (by omega) (by omega) (by omega)]; funext j; exact c4 j
        · funext j
          by_cases e0 : j = 0
          · subst e0; rw [d5, f1 150 (by omega) (by omega)]
          · by_cases e1 : j = 1
            · subst e1; rw [d6, f1 150 (by omega) (by omega)]
            · rw [b8 j e0 e1, f1 150 (by omega) (by omega)]
theorem r_loadScript (hI : x_I g T J) : x_prU l d M_Q_loadScript M_R_loadScript [] 0 0 g T J := by
  intro X
  obtain ⟨⟨hb, hd⟩, ⟨t1, t2, t3⟩, he, hm, hs, hz, hn⟩ := hI
  refine ⟨_, q_loadScript (d := d + 5) t1 t2 t3, fun o S1 hS => ?_⟩
  obtain ⟨v, J1, X1, rfl, rfl, rfl, a1, a2, a3, a4, a5⟩ := hS
  have f1 : ∀ b, b ≠ 1 → (b < 24 ∨ 35 < b) → J1 b = J b := fun b h1 h2 => by
    funext j
    exact a1 b j (by omega)
  refine ⟨g, T, J1, X1, v, rfl, rfl, by omega, _, p_loadScript (d := d + 4) (t := J 158) (n := J 148 13) (f1 158 (by omega) (by omega)) (by rw [f1 148 (by omega) (by omega)]) t3, fun o2 S2 hS2 => ?_⟩
  obtain ⟨v2, J2, X3, rfl, rfl, -, b1, b2, b3, b4, b5, b6, b9⟩ := hS2
  have g1 : ∀ b, b ≠ 148 → b ≠ 159 → b ≠ 160 → J2 b = J1 b := b6
  have g8 : J2 148 11 = J 148 11 := by rw [b1 11 (by omega) (by omega) (by omega) (by omega) (by omega), f1 148 (by omega) (by omega)]
  have vv : v2 = v := by
    rcases a5 with a5 | a5 <;> rcases b9 with b9 | b9
    · rw [b9.2.1, a5.2.1]
    · exact absurd a5.1 b9.1
    · exact absurd b9.1 a5.1
    · rw [b9.2.1, a5.2.1]
  refine ⟨J2, X3, rfl, by rw [vv], ?_⟩
  have o9 : J2 149 = J 149 := by rw [g1 149 (by omega) (by omega) (by omega), f1 149 (by omega) (by omega)]
  have g2 : ∀ b, b ≠ 1 → (b < 24 ∨ 35 < b) → b ≠ 148 → b ≠ 159 → b ≠ 160 → J2 b = J b := fun b h1 h2 h3 h4 h5 => by rw [g1 b h3 h4 h5, f1 b h1 h2]
  refine ⟨⟨by rw [o9]; exact hb, by rw [o9]; exact x_day_mv (y_cb_b hb) (fun _ _ _ => rfl) (fun k hk => g2 _ (by omega) (by omega) (by omega) (by omega) (by omega)) hd⟩, ⟨?_, ?_, ?_⟩, ?_, hm.go (g2 147 (by omega) (by omega) (by omega) (by omega) (by omega)) (g2 157 (by omega) (by omega) (by omega) (by omega) (by omega)) (by rw [g2 0 (by omega) (by omega) (by omega) (by omega) (by omega)]) g8, ?_, hz.go (fun b h1 h2 => g2 b (by omega) (by omega) (by omega) (by omega) (by omega)), hn.go (g2 146 (by omega) (by omega) (by omega) (by omega) (by omega)) (g2 150 (by omega) (by omega) (by omega) (by omega) (by omega)) (by rw [o9]; exact y_far.rf) (fun b h1 => g2 b (by omega) (by omega) (by omega) (by omega) (by omega))⟩
  · rw [g2 2 (by omega) (by omega) (by omega) (by omega) (by omega), g2 158 (by omega) (by omega) (by omega) (by omega) (by omega)]; exact t1
  · rw [g1 1 (by omega) (by omega) (by omega), a2, b3]
  · rw [b3]; exact ⟨by omega, fun k h1 h2 => by omega⟩
  · unfold x_err
    rw [g1 1 (by omega) (by omega) (by omega), a3, a4, b4, b5]
    exact ⟨rfl, rfl⟩
  · rcases a5 with ⟨c0, c1, c2, c3, c4⟩ | ⟨c0, c1, c2⟩
    · rcases b9 with ⟨-, d1, d2, d3, d4⟩ | b9
      · have hB : y_Sb (y_script (J 158) (J 148 13)).2.2 (y_script (J 158) (J 148 13)).2.1 := y_scs_Sb _ _ _ _ y_Sb0
        refine ⟨_, _, d4, fun e h1 h2 => ?_, hB, d2, by rw [g1 30 (by omega) (by omega) (by omega)]; exact c2, by rw [g1 30 (by omega) (by omega) (by omega), c3, d3], by rw [d3]; exact ⟨by omega, hB.1.1⟩⟩
        rw [g1 31 (by omega) (by omega) (by omega), g1 32 (by omega) (by omega) (by omega), g1 33 (by omega) (by omega) (by omega), g1 34 (by omega) (by omega) (by omega), g1 35 (by omega) (by omega) (by omega)]
        exact c4 e h1 h2
      · exact absurd c0 b9.1
    · rcases b9 with b9 | ⟨-, d1, d2, d3, d4⟩
      · exact absurd b9.1 c0
      · refine hs.go (fun b h1 h2 => ?_) (by rw [d4, f1 159 (by omega) (by omega)]) (by rw [d2, f1 148 (by omega) (by omega)]) (by rw [d3, f1 148 (by omega) (by omega)])
        rw [g1 b (by omega) (by omega) (by omega)]
        funext j
        exact c2 b (by omega) j
theorem r_runScript (hI : x_I g T J) {n : Int} : x_prI l d M_Q_runScript M_R_runScript [.inl n] x_e2 x_e2 (fun t => t ≠ 2) g T J := by
  intro X
  obtain ⟨⟨hb, hd⟩, ht, he, hm, ⟨B, c, s1, s2, s3, s4, s5, s6, s7⟩, hz, hn⟩ := hI
  refine ⟨_, q_runScript (d := d + 5) (e := J 148 24) hb hd s2 s3 s5 s6 s7, fun o S1 hS => ?_⟩
  obtain ⟨J1, X1, rfl, ⟨rfl, m1, m2, m3⟩, h2⟩ := hS
  have f1 : ∀ b, b ≠ 30 → (b < 36 ∨ 144 < b) → J1 b = J b := fun b h1 h2 => by
    funext j
    exact m2 b j h2 (by omega)
  have f30 : ∀ j, j ≠ 6 → J1 30 j = J 30 j := fun j hj => m2 30 j (by omega) (by omega)
  have e9 : J1 149 = J 149 := f1 149 (by omega) (by omega)
  have e8 : J1 148 = J 148 := f1 148 (by omega) (by omega)
  have e59 : J1 159 = J 159 := f1 159 (by omega) (by omega)
  refine ⟨J1, X1, _, _, rfl, h2, y_ne2, fun X2 => ⟨_, p_runScript (d := d) (B := B) (c := c) (e := J 148 24) (by rw [e9]; exact hb) (fun a b h1 h2 h3 h4 => by rw [e59]; exact s1 a b h1 h2 h3 h4) s3 (by rw [e8]; exact s4) (by rw [e8]) s7, fun o2 S2 hS2 => ?_⟩⟩
  obtain ⟨v, J2, X3, rfl, rfl, rfl, ⟨n1, n2, n3, n4, n5⟩, rfl⟩ := hS2
  rw [e9] at n1 n2 n3 ⊢
  have kb := y_kb_runScript (n := n) (B := B) hb s7
  have off : ∀ b, b ≠ 30 → (b < 36 ∨ 144 < b) → b ≠ 148 → b ≠ 149 → (b < 151 ∨ 156 < b) → J2 b = J b := fun b h1 h2 h3 h4 h5 => by rw [n5 b h3 h4 h5, f1 b h1 h2]
  have off8 : ∀ k, k ≠ 2 → k ≠ 9 → k ≠ 24 → J2 148 k = J 148 k := fun k h1 h2 h3 => by rw [n4 k h1 h2 h3, e8]
  refine ⟨J2, rfl, rfl, n2, ⟨by rw [n1]; exact kb.1, by rw [n1]; exact x_day_mv (y_cb_b kb.1) (fun _ _ _ => rfl) (fun k hk => n5 _ (by omega) (by omega) (by omega)) m1⟩, ?_, ?_, ?_, ?_, ?_, ?_⟩
  · unfold x_txt; rw [off 2 (by omega) (by omega) (by omega) (by omega) (by omega), off 1 (by omega) (by omega) (by omega) (by omega) (by omega), off 158 (by omega) (by omega) (by omega) (by omega) (by omega), off8 13 (by omega) (by omega) (by omega)]; exact ht
  · unfold x_err; rw [off 1 (by omega) (by omega) (by omega) (by omega) (by omega), off8 15 (by omega) (by omega) (by omega), off8 16 (by omega) (by omega) (by omega)]; exact he
  · exact hm.go (off 147 (by omega) (by omega) (by omega) (by omega) (by omega)) (off 157 (by omega) (by omega) (by omega) (by omega) (by omega)) (by rw [off 0 (by omega) (by omega) (by omega) (by omega) (by omega)]) (off8 11 (by omega) (by omega) (by omega))
  · have g30 : J2 30 = J1 30 := n5 30 (by omega) (by omega) (by omega)
    refine ⟨B, c, fun a b h1 h2 h3 h4 => ?_, fun a h1 h2 => ?_, s3, by rw [off8 23 (by omega) (by omega) (by omega)]; exact s4, by rw [g30, f30 5 (by omega)]; exact s5, by rw [g30, m3, n3], by rw [n3]; exact kb.2⟩
    · rw [off 159 (by omega) (by omega) (by omega) (by omega) (by omega)]; exact s1 a b h1 h2 h3 h4
    · rw [off 31 (by omega) (by omega) (by omega) (by omega) (by omega), off 32 (by omega) (by omega) (by omega) (by omega) (by omega), off 33 (by omega) (by omega) (by omega) (by omega) (by omega), off 34 (by omega) (by omega) (by omega) (by omega) (by omega), off 35 (by omega) (by omega) (by omega) (by omega) (by omega)]
      exact s2 a h1 h2
  · exact hz.go (fun b x1 x2 => off b (by omega) (by omega) (by omega) (by omega) (by omega))
  · exact hn.go (off 146 (by omega) (by omega) (by omega) (by omega) (by omega)) (off 150 (by omega) (by omega) (by omega) (by omega) (by omega)) (by rw [n1]; exact y_far_runScript hb) (fun b x1 => off b (by omega) (by omega) (by omega) (by omega) (by omega))
end V6
