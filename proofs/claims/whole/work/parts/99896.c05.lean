/-! cases of the law -/
section L2
variable {l : Launch} {L n : Nat} {xs : Nat → Int32} {Wp : Nat → z_C} {g : List (Option Nat)} {T : m_E} {J : z_J} {X : z_X} {bc bs : Nat} {i : Int}
set_option maxRecDepth 20000 in
theorem c_law32 (A : z_LC l L xs Wp) (hI : x_I g T J) (h0 : 0 ≤ i) (h1 : i + 6 ≤ L) (hL : L ≤ 3072) (hx : ∀ k : Nat, J 2000000 k = (xs k).toInt) (hJ : (J 2000001 0).toNat = L) (hE : (m_Ex g T)[2000000]? = none) (hS : z_okS (m_Ex g T, J, X)) (hb : 4 * (n + 1) + 300 * x_nn g ≤ bc) (hb2 : 24 * (n + 1) + 30000 * x_nn g ≤ bs) (K : z_LK Wp i n) : Wp 1909 (z_loc i) [] (m_Ex g T, J, X) bc bs := by
  obtain ⟨hs, hw, hsc, -⟩ := A
  obtain ⟨Q1, hq, hQ⟩ := r_joinWaitlist (l := l) (d := 0) hI (i := J 2000000 (i + 1)) (r := J 2000000 (i + 2)) X
  refine hs m_lw_34 m_sl_34 400 [(1923, 6)] [] 1909 _ _ _ _ _ (⟨rfl, ⟨(show -2147483648 ≤ i + 1 ∧ i + 1 ≤ 2147483647 by omega), ⟨z_scr hE hJ (show 0 ≤ i + 1 by omega) (show i + 1 < (L : Int) by omega), ⟨rfl, ⟨(show -2147483648 ≤ i + 2 ∧ i + 2 ≤ 2147483647 by omega), ⟨z_scr hE hJ (show 0 ≤ i + 2 by omega) (show i + 2 < (L : Int) by omega), ?_⟩⟩⟩⟩⟩⟩)
  show Wp 1923 (z_loc i) [.inr (.inr (.ref 161)), .inl (J 2000000 (i + 2)), .inl (J 2000000 (i + 1)), .inr (.inr (.ref 0))] (m_Ex g T, J, X) bc bs
  refine hw m_we_21 4 286 1289 1923 m_wok_21 rfl m_wl_21 m_wd9_21 _ _ _ _ _ 4 24 _ rfl (Nat.le_of_ble_eq_true rfl) (s_joinWaitlist (d := 0) hq (fun o S1 h => by obtain ⟨J1, X1, t, v, e1, e2, e3, e4⟩ := hQ o S1 h; exact ⟨J1, X1, t, v, e1, e2, e4, e3⟩)) (by omega) (by omega) (fun o S1 h => ?_)
  obtain ⟨J1, X2, t, v, rfl, hP, rfl, hv0⟩ := h
  refine ⟨_, rfl, ?_⟩
  show Wp 1926 (z_loc i) [.inl t] (m_Ex g T, J1, X2) _ _
  refine hsc _ _ _ _ _ _ (fun h5 h6 hE h7 => ?_)
  obtain ⟨Q2, hq2, hQ2⟩ := hP X2
  rw [← z_scE hx h5 (i + 1) (by omega)] at hq2
  rw [← z_scE hx h5 (i + 2) (by omega)] at hq2
  refine hs m_lw_34 m_sl_34 400 [(3710, 6)] [] 1926 _ _ _ _ _ (⟨rfl, ⟨(show -2147483648 ≤ i + 1 ∧ i + 1 ≤ 2147483647 by omega), ⟨z_scr hE h6 (show 0 ≤ i + 1 by omega) (show i + 1 < (L : Int) by omega), ⟨rfl, ⟨(show -2147483648 ≤ i + 2 ∧ i + 2 ≤ 2147483647 by omega), ⟨z_scr hE h6 (show 0 ≤ i + 2 by omega) (show i + 2 < (L : Int) by omega), ⟨_, _, rfl, z_k148, rfl, rfl, ⟨0, 0, Q2, hq2, Nat.zero_le _, Nat.zero_le _, fun o S2 hS2 h2 => ?_⟩⟩⟩⟩⟩⟩⟩⟩)
  obtain ⟨J2, rfl, rfl, ht, hI2⟩ := hQ2 o S2 h2
  refine ⟨_, _, rfl, z_k148, rfl, rfl, ⟨0, 0, _, p_thrown (d := 11), Nat.zero_le _, Nat.zero_le _, fun o3 S3 _ h3 => ?_⟩⟩
  obtain ⟨rfl, rfl⟩ := h3
  have hK : ∀ b9 s9 : Nat, 4 * n + 300 * x_nn g ≤ b9 → 24 * n + 30000 * x_nn g ≤ s9 → Wp 3710 (z_loc i) [] (m_Ex g T, J2, X2) b9 s9 := fun b9 s9 a9 c9 => K g T J2 X2 b9 s9 hI2 a9 c9
  refine ⟨fun _ => ⟨fun _ => hK _ _ (by omega) (by omega), fun c => ⟨rfl, ⟨⟨_, _, z_k161, by decide⟩, ⟨fun _ => hK _ _ (by omega) (by omega), fun c5 => ?_⟩⟩⟩⟩, fun c => absurd ht c⟩
  refine absurd ?_ c5
  have hv := hv0 c
  show (if v < X2.1 161 0 then (1 : Int) else if X2.1 161 0 = v then 0 else -1) = 0
  rw [hv]; exact z_lc0
set_option maxRecDepth 20000 in
theorem c_law33 (A : z_LC l L xs Wp) (hI : x_I g T J) (h0 : 0 ≤ i) (h1 : i + 6 ≤ L) (hL : L ≤ 3072) (hx : ∀ k : Nat, J 2000000 k = (xs k).toInt) (hJ : (J 2000001 0).toNat = L) (hE : (m_Ex g T)[2000000]? = none) (hS : z_okS (m_Ex g T, J, X)) (hb : 4 * (n + 1) + 300 * x_nn g ≤ bc) (hb2 : 24 * (n + 1) + 30000 * x_nn g ≤ bs) (K : z_LK Wp i n) : Wp 1977 (z_loc i) [] (m_Ex g T, J, X) bc bs := by
  obtain ⟨hs, hw, hsc, -⟩ := A
  obtain ⟨Q1, hq, hQ⟩ := r_leaveWaitlist (l := l) (d := 0) hI (i := J 2000000 (i + 1)) (r := J 2000000 (i + 2)) X
  refine hs m_lw_35 m_sl_35 400 [(1991, 6)] [] 1977 _ _ _ _ _ (⟨rfl, ⟨(show -2147483648 ≤ i + 1 ∧ i + 1 ≤ 2147483647 by omega), ⟨z_scr hE hJ (show 0 ≤ i + 1 by omega) (show i + 1 < (L : Int) by omega), ⟨rfl, ⟨(show -2147483648 ≤ i + 2 ∧ i + 2 ≤ 2147483647 by omega), ⟨z_scr hE hJ (show 0 ≤ i + 2 by omega) (show i + 2 < (L : Int) by omega), ?_⟩⟩⟩⟩⟩⟩)
  show Wp 1991 (z_loc i) [.inr (.inr (.ref 161)), .inl (J 2000000 (i + 2)), .inl (J 2000000 (i + 1)), .inr (.inr (.ref 0))] (m_Ex g T, J, X) bc bs
  refine hw m_we_22 4 289 1310 1991 m_wok_22 rfl m_wl_22 m_wd9_22 _ _ _ _ _ 4 24 _ rfl (Nat.le_of_ble_eq_true rfl) (s_leaveWaitlist (d := 0) hq (fun o S1 h => by obtain ⟨J1, X1, t, v, e1, e2, e3, e4⟩ := hQ o S1 h; exact ⟨J1, X1, t, v, e1, e2, e4, e3⟩)) (by omega) (by omega) (fun o S1 h => ?_)
  obtain ⟨J1, X2, t, v, rfl, hP, rfl, hv0⟩ := h
  refine ⟨_, rfl, ?_⟩
  show Wp 1994 (z_loc i) [.inl t] (m_Ex g T, J1, X2) _ _
  refine hsc _ _ _ _ _ _ (fun h5 h6 hE h7 => ?_)
  obtain ⟨Q2, hq2, hQ2⟩ := hP X2
  rw [← z_scE hx h5 (i + 1) (by omega)] at hq2
  rw [← z_scE hx h5 (i + 2) (by omega)] at hq2
  refine hs m_lw_35 m_sl_35 400 [(3710, 6)] [] 1994 _ _ _ _ _ (⟨rfl, ⟨(show -2147483648 ≤ i + 1 ∧ i + 1 ≤ 2147483647 by omega), ⟨z_scr hE h6 (show 0 ≤ i + 1 by omega) (show i + 1 < (L : Int) by omega), ⟨rfl, ⟨(show -2147483648 ≤ i + 2 ∧ i + 2 ≤ 2147483647 by omega), ⟨z_scr hE h6 (show 0 ≤ i + 2 by omega) (show i + 2 < (L : Int) by omega), ⟨_, _, rfl, z_k148, rfl, rfl, ⟨0, 0, Q2, hq2, Nat.zero_le _, Nat.zero_le _, fun o S2 hS2 h2 => ?_⟩⟩⟩⟩⟩⟩⟩⟩)
  obtain ⟨J2, rfl, rfl, ht, hI2⟩ := hQ2 o S2 h2
  refine ⟨_, _, rfl, z_k148, rfl, rfl, ⟨0, 0, _, p_thrown (d := 11), Nat.zero_le _, Nat.zero_le _, fun o3 S3 _ h3 => ?_⟩⟩
  obtain ⟨rfl, rfl⟩ := h3
  have hK : ∀ b9 s9 : Nat, 4 * n + 300 * x_nn g ≤ b9 → 24 * n + 30000 * x_nn g ≤ s9 → Wp 3710 (z_loc i) [] (m_Ex g T, J2, X2) b9 s9 := fun b9 s9 a9 c9 => K g T J2 X2 b9 s9 hI2 a9 c9
  refine ⟨fun _ => ⟨fun _ => hK _ _ (by omega) (by omega), fun c => ⟨rfl, ⟨⟨_, _, z_k161, by decide⟩, ⟨fun c4 => ⟨fun _ => hK _ _ (by omega) (by omega), fun c5 => ?_⟩, fun c4 => ⟨fun _ => hK _ _ (by omega) (by omega), fun c5 => ?_⟩⟩⟩⟩⟩, fun c => absurd ht c⟩
  · refine absurd ?_ c5
    have hv := hv0 c
    rw [if_pos c4] at hv
    show (if (0 : Int) < X2.1 161 0 then (1 : Int) else if X2.1 161 0 = 0 then 0 else -1) = 0
    rw [hv]; exact z_lc0
  · refine absurd ?_ c5
    have hv := hv0 c
    rw [if_neg c4] at hv
    show (if (1 : Int) < X2.1 161 0 then (1 : Int) else if X2.1 161 0 = 1 then 0 else -1) = 0
    rw [hv]; exact z_lc0
set_option maxRecDepth 20000 in
theorem c_law34 (A : z_LC l L xs Wp) (hI : x_I g T J) (h0 : 0 ≤ i) (h1 : i + 6 ≤ L) (hL : L ≤ 3072) (hx : ∀ k : Nat, J 2000000 k = (xs k).toInt) (hJ : (J 2000001 0).toNat = L) (hE : (m_Ex g T)[2000000]? = none) (hS : z_okS (m_Ex g T, J, X)) (hb : 4 * (n + 1) + 300 * x_nn g ≤ bc) (hb2 : 24 * (n + 1) + 30000 * x_nn g ≤ bs) (K : z_LK Wp i n) : Wp 2052 (z_loc i) [] (m_Ex g T, J, X) bc bs := by
  obtain ⟨hs, hw, hsc, -⟩ := A
  obtain ⟨Q1, hq, hQ⟩ := r_waitlistAt (l := l) (d := 0) hI (r := J 2000000 (i + 1)) (x := J 2000000 (i + 2)) X
  refine hs m_lw_36 m_sl_36 400 [(2066, 6)] [] 2052 _ _ _ _ _ (⟨rfl, ⟨(show -2147483648 ≤ i + 1 ∧ i + 1 ≤ 2147483647 by omega), ⟨z_scr hE hJ (show 0 ≤ i + 1 by omega) (show i + 1 < (L : Int) by omega), ⟨rfl, ⟨(show -2147483648 ≤ i + 2 ∧ i + 2 ≤ 2147483647 by omega), ⟨z_scr hE hJ (show 0 ≤ i + 2 by omega) (show i + 2 < (L : Int) by omega), ?_⟩⟩⟩⟩⟩⟩)
  show Wp 2066 (z_loc i) [.inr (.inr (.ref 161)), .inl (J 2000000 (i + 2)), .inl (J 2000000 (i + 1)), .inr (.inr (.ref 0))] (m_Ex g T, J, X) bc bs
  refine hw m_we_23 4 292 1318 2066 m_wok_23 rfl m_wl_23 m_wd9_23 _ _ _ _ _ 4 24 _ rfl (Nat.le_of_ble_eq_true rfl) (s_waitlistAt (d := 0) hq (fun o S1 h => by obtain ⟨J1, X1, t, v, e1, e2, e3, e4⟩ := hQ o S1 h; exact ⟨J1, X1, t, v, e1, e2, e4, e3⟩)) (by omega) (by omega) (fun o S1 h => ?_)
  obtain ⟨J1, X2, t, v, rfl, hP, rfl, hv0⟩ := h
  refine ⟨_, rfl, ?_⟩
  show Wp 2069 (z_loc i) [.inl t] (m_Ex g T, J1, X2) _ _
  refine hsc _ _ _ _ _ _ (fun h5 h6 hE h7 => ?_)
  obtain ⟨Q2, hq2, hQ2⟩ := hP X2
  rw [← z_scE hx h5 (i + 1) (by omega)] at hq2
  rw [← z_scE hx h5 (i + 2) (by omega)] at hq2
  refine hs m_lw_36 m_sl_36 400 [(3710, 6)] [] 2069 _ _ _ _ _ (⟨rfl, ⟨(show -2147483648 ≤ i + 1 ∧ i + 1 ≤ 2147483647 by omega), ⟨z_scr hE h6 (show 0 ≤ i + 1 by omega) (show i + 1 < (L : Int) by omega), ⟨rfl, ⟨(show -2147483648 ≤ i + 2 ∧ i + 2 ≤ 2147483647 by omega), ⟨z_scr hE h6 (show 0 ≤ i + 2 by omega) (show i + 2 < (L : Int) by omega), ⟨_, _, rfl, z_k148, rfl, rfl, ⟨0, 0, Q2, hq2, Nat.zero_le _, Nat.zero_le _, fun o S2 hS2 h2 => ?_⟩⟩⟩⟩⟩⟩⟩⟩)
  obtain ⟨J2, rfl, rfl, ht, hI2⟩ := hQ2 o S2 h2
  refine ⟨_, _, rfl, z_k148, rfl, rfl, ⟨0, 0, _, p_thrown (d := 11), Nat.zero_le _, Nat.zero_le _, fun o3 S3 _ h3 => ?_⟩⟩
  obtain ⟨rfl, rfl⟩ := h3
  have hK : ∀ b9 s9 : Nat, 4 * n + 300 * x_nn g ≤ b9 → 24 * n + 30000 * x_nn g ≤ s9 → Wp 3710 (z_loc i) [] (m_Ex g T, J2, X2) b9 s9 := fun b9 s9 a9 c9 => K g T J2 X2 b9 s9 hI2 a9 c9
  refine ⟨fun _ => ⟨fun _ => hK _ _ (by omega) (by omega), fun c => ⟨rfl, ⟨⟨_, _, z_k161, by decide⟩, ⟨fun _ => hK _ _ (by omega) (by omega), fun c5 => ?_⟩⟩⟩⟩, fun c => absurd ht c⟩
  refine absurd ?_ c5
  have hv := hv0 c
  show (if v < X2.1 161 0 then (1 : Int) else if X2.1 161 0 = v then 0 else -1) = 0
  rw [hv]; exact z_lc0
set_option maxRecDepth 20000 in
theorem c_law35 (A : z_LC l L xs Wp) (hI : x_I g T J) (h0 : 0 ≤ i) (h1 : i + 6 ≤ L) (hL : L ≤ 3072) (hx : ∀ k : Nat, J 2000000 k = (xs k).toInt) (hJ : (J 2000001 0).toNat = L) (hE : (m_Ex g T)[2000000]? = none) (hS : z_okS (m_Ex g T, J, X)) (hb : 4 * (n + 1) + 300 * x_nn g ≤ bc) (hb2 : 24 * (n + 1) + 30000 * x_nn g ≤ bs) (K : z_LK Wp i n) : Wp 2120 (z_loc i) [] (m_Ex g T, J, X) bc bs := by
  obtain ⟨hs, hw, hsc, -⟩ := A
  obtain ⟨Q1, hq, hQ⟩ := r_joinStandby (l := l) (d := 0) hI (r := J 2000000 (i + 1)) (w := J 2000000 (i + 2)) X
  refine hs m_lw_37 m_sl_37 400 [(2134, 6)] [] 2120 _ _ _ _ _ (⟨rfl, ⟨(show -2147483648 ≤ i + 1 ∧ i + 1 ≤ 2147483647 by omega), ⟨z_scr hE hJ (show 0 ≤ i + 1 by omega) (show i + 1 < (L : Int) by omega), ⟨rfl, ⟨(show -2147483648 ≤ i + 2 ∧ i + 2 ≤ 2147483647 by omega), ⟨z_scr hE hJ (show 0 ≤ i + 2 by omega) (show i + 2 < (L : Int) by omega), ?_⟩⟩⟩⟩⟩⟩)
  show Wp 2134 (z_loc i) [.inr (.inr (.ref 161)), .inl (J 2000000 (i + 2)), .inl (J 2000000 (i + 1)), .inr (.inr (.ref 0))] (m_Ex g T, J, X) bc bs
  refine hw m_we_24 4 295 1325 2134 m_wok_24 rfl m_wl_24 m_wd9_24 _ _ _ _ _ 4 24 _ rfl (Nat.le_of_ble_eq_true rfl) (s_joinStandby (d := 0) hq (fun o S1 h => by obtain ⟨J1, X1, t, v, e1, e2, e3, e4⟩ := hQ o S1 h; exact ⟨J1, X1, t, v, e1, e2, e4⟩)) (by omega) (by omega) (fun o S1 h => ?_)
  obtain ⟨J1, X2, t, v, rfl, hP, rfl, hv0⟩ := h
  refine ⟨_, rfl, ?_⟩
  show Wp 2137 (z_loc i) [.inl t] (m_Ex g T, J1, X2) _ _
  refine hsc _ _ _ _ _ _ (fun h5 h6 hE h7 => ?_)
  obtain ⟨Q2, hq2, hQ2⟩ := hP X2
  rw [← z_scE hx h5 (i + 1) (by omega)] at hq2
  rw [← z_scE hx h5 (i + 2) (by omega)] at hq2
  refine hs m_lw_37 m_sl_37 400 [(3710, 6)] [] 2137 _ _ _ _ _ (⟨rfl, ⟨(show -2147483648 ≤ i + 1 ∧ i + 1 ≤ 2147483647 by omega), ⟨z_scr hE h6 (show 0 ≤ i + 1 by omega) (show i + 1 < (L : Int) by omega), ⟨rfl, ⟨(show -2147483648 ≤ i + 2 ∧ i + 2 ≤ 2147483647 by omega), ⟨z_scr hE h6 (show 0 ≤ i + 2 by omega) (show i + 2 < (L : Int) by omega), ⟨_, _, rfl, z_k148, rfl, rfl, ⟨0, 0, Q2, hq2, Nat.zero_le _, Nat.zero_le _, fun o S2 hS2 h2 => ?_⟩⟩⟩⟩⟩⟩⟩⟩)
  obtain ⟨J2, rfl, rfl, ht, hI2⟩ := hQ2 o S2 h2
  refine ⟨_, _, rfl, z_k148, rfl, rfl, ⟨0, 0, _, p_thrown (d := 11), Nat.zero_le _, Nat.zero_le _, fun o3 S3 _ h3 => ?_⟩⟩
  obtain ⟨rfl, rfl⟩ := h3
  have hK : ∀ b9 s9 : Nat, 4 * n + 300 * x_nn g ≤ b9 → 24 * n + 30000 * x_nn g ≤ s9 → Wp 3710 (z_loc i) [] (m_Ex g T, J2, X2) b9 s9 := fun b9 s9 a9 c9 => K g T J2 X2 b9 s9 hI2 a9 c9
  refine ⟨fun _ => ⟨fun _ => hK _ _ (by omega) (by omega), fun c => ⟨rfl, ⟨⟨_, _, z_k161, by decide⟩, ⟨fun _ => hK _ _ (by omega) (by omega), fun c5 => ?_⟩⟩⟩⟩, fun c => absurd ht c⟩
  refine absurd ?_ c5
  have hv := hv0 c
  show (if v < X2.1 161 0 then (1 : Int) else if X2.1 161 0 = v then 0 else -1) = 0
  rw [hv]; exact z_lc0
set_option maxRecDepth 20000 in
theorem c_law36 (A : z_LC l L xs Wp) (hI : x_I g T J) (h0 : 0 ≤ i) (h1 : i + 6 ≤ L) (hL : L ≤ 3072) (hx : ∀ k : Nat, J 2000000 k = (xs k).toInt) (hJ : (J 2000001 0).toNat = L) (hE : (m_Ex g T)[2000000]? = none) (hS : z_okS (m_Ex g T, J, X)) (hb : 4 * (n + 1) + 300 * x_nn g ≤ bc) (hb2 : 24 * (n + 1) + 30000 * x_nn g ≤ bs) (K : z_LK Wp i n) : Wp 2188 (z_loc i) [] (m_Ex g T, J, X) bc bs := by
  obtain ⟨hs, hw, hsc, -⟩ := A
  obtain ⟨Q1, hq, hQ⟩ := r_standbyPersons (l := l) (d := 0) hI (r := J 2000000 (i + 1)) X
  refine hs m_lw_38 m_sl_38 400 [(2196, 6)] [] 2188 _ _ _ _ _ (⟨rfl, ⟨(show -2147483648 ≤ i + 1 ∧ i + 1 ≤ 2147483647 by omega), ⟨z_scr hE hJ (show 0 ≤ i + 1 by omega) (show i + 1 < (L : Int) by omega), ?_⟩⟩⟩)
  show Wp 2196 (z_loc i) [.inr (.inr (.ref 161)), .inl (J 2000000 (i + 1)), .inr (.inr (.ref 0))] (m_Ex g T, J, X) bc bs
  refine hw m_we_25 3 298 1336 2196 m_wok_25 rfl m_wl_25 m_wd9_25 _ _ _ _ _ 4 24 _ rfl (Nat.le_of_ble_eq_true rfl) (s_standbyPersons (d := 0) hq (fun o S1 h => by obtain ⟨J1, X1, t, v, e1, e2, e3, e4⟩ := hQ o S1 h; exact ⟨J1, X1, t, v, e1, e2, e4, e3⟩)) (by omega) (by omega) (fun o S1 h => ?_)
  obtain ⟨J1, X2, t, v, rfl, hP, rfl, hv0⟩ := h
  refine ⟨_, rfl, ?_⟩
  show Wp 2199 (z_loc i) [.inl t] (m_Ex g T, J1, X2) _ _
  refine hsc _ _ _ _ _ _ (fun h5 h6 hE h7 => ?_)
  obtain ⟨Q2, hq2, hQ2⟩ := hP X2
  rw [← z_scE hx h5 (i + 1) (by omega)] at hq2
  refine hs m_lw_38 m_sl_38 400 [(3710, 6)] [] 2199 _ _ _ _ _ (⟨rfl, ⟨(show -2147483648 ≤ i + 1 ∧ i + 1 ≤ 2147483647 by omega), ⟨z_scr hE h6 (show 0 ≤ i + 1 by omega) (show i + 1 < (L : Int) by omega), ⟨_, _, rfl, z_k148, rfl, rfl, ⟨0, 0, Q2, hq2, Nat.zero_le _, Nat.zero_le _, fun o S2 hS2 h2 => ?_⟩⟩⟩⟩⟩)
  obtain ⟨J2, rfl, rfl, ht, hI2⟩ := hQ2 o S2 h2
  refine ⟨_, _, rfl, z_k148, rfl, rfl, ⟨0, 0, _, p_thrown (d := 11), Nat.zero_le _, Nat.zero_le _, fun o3 S3 _ h3 => ?_⟩⟩
  obtain ⟨rfl, rfl⟩ := h3
  have hK : ∀ b9 s9 : Nat, 4 * n + 300 * x_nn g ≤ b9 → 24 * n + 30000 * x_nn g ≤ s9 → Wp 3710 (z_loc i) [] (m_Ex g T, J2, X2) b9 s9 := fun b9 s9 a9 c9 => K g T J2 X2 b9 s9 hI2 a9 c9
  refine ⟨fun _ => ⟨fun _ => hK _ _ (by omega) (by omega), fun c => ⟨rfl, ⟨⟨_, _, z_k161, by decide⟩, ⟨fun _ => hK _ _ (by omega) (by omega), fun c5 => ?_⟩⟩⟩⟩, fun c => absurd ht c⟩
  refine absurd ?_ c5
  have hv := hv0 c
  show (if v < X2.1 161 0 then (1 : Int) else if X2.1 161 0 = v then 0 else -1) = 0
  rw [hv]; exact z_lc0
set_option maxRecDepth 20000 in
theorem c_law37 (A : z_LC l L xs Wp) (hI : x_I g T J) (h0 : 0 ≤ i) (h1 : i + 6 ≤ L) (hL : L ≤ 3072) (hx : ∀ k : Nat, J 2000000 k = (xs k).toInt) (hJ : (J 2000001 0).toNat = L) (hE : (m_Ex g T)[2000000]? = none) (hS : z_okS (m_Ex g T, J, X)) (hb : 4 * (n + 1) + 300 * x_nn g ≤ bc) (hb2 : 24 * (n + 1) + 30000 * x_nn g ≤ bs) (K : z_LK Wp i n) : Wp 2244 (z_loc i) [] (m_Ex g T, J, X) bc bs := by
  obtain ⟨hs, hw, hsc, -⟩ := A
  obtain ⟨Q1, hq, hQ⟩ := r_mergePersons (l := l) (d := 0) hI (r := J 2000000 (i + 1)) X
  refine hs m_lw_39 m_sl_39 400 [(2252, 6)] [] 2244 _ _ _ _ _ (⟨rfl, ⟨(show -2147483648 ≤ i + 1 ∧ i + 1 ≤ 2147483647 by omega), ⟨z_scr hE hJ (show 0 ≤ i + 1 by omega) (show i + 1 < (L : Int) by omega), ?_⟩⟩⟩)
  show Wp 2252 (z_loc i) [.inr (.inr (.ref 161)), .inl (J 2000000 (i + 1)), .inr (.inr (.ref 0))] (m_Ex g T, J, X) bc bs
  refine hw m_we_26 3 301 1352 2252 m_wok_26 rfl m_wl_26 m_wd9_26 _ _ _ _ _ 4 24 _ rfl (Nat.le_of_ble_eq_true rfl) (s_mergePersons (d := 0) hq (fun o S1 h => by obtain ⟨J1, X1, t, v, e1, e2, e3, e4⟩ := hQ o S1 h; exact ⟨J1, X1, t, v, e1, e2, e4, e3⟩)) (by omega) (by omega) (fun o S1 h => ?_)
  obtain ⟨J1, X2, t, v, rfl, hP, rfl, hv0⟩ := h
  refine ⟨_, rfl, ?_⟩
  show Wp 2255 (z_loc i) [.inl t] (m_Ex g T, J1, X2) _ _
  refine hsc _ _ _ _ _ _ (fun h5 h6 hE h7 => ?_)
  obtain ⟨Q2, hq2, hQ2⟩ := hP X2
  rw [← z_scE hx h5 (i + 1) (by omega)] at hq2
  refine hs m_lw_39 m_sl_39 400 [(3710, 6)] [] 2255 _ _ _ _ _ (⟨rfl, ⟨(show -2147483648 ≤ i + 1 ∧ i + 1 ≤ 2147483647 by omega), ⟨z_scr hE h6 (show 0 ≤ i + 1 by omega) (show i + 1 < (L : Int) by omega), ⟨_, _, rfl, z_k148, rfl, rfl, ⟨0, 0, Q2, hq2, Nat.zero_le _, Nat.zero_le _, fun o S2 hS2 h2 => ?_⟩⟩⟩⟩⟩)
  obtain ⟨J2, rfl, rfl, ht, hI2⟩ := hQ2 o S2 h2
  refine ⟨_, _, rfl, z_k148, rfl, rfl, ⟨0, 0, _, p_thrown (d := 11), Nat.zero_le _, Nat.zero_le _, fun o3 S3 _ h3 => ?_⟩⟩
  obtain ⟨rfl, rfl⟩ := h3
  have hK : ∀ b9 s9 : Nat, 4 * n + 300 * x_nn g ≤ b9 → 24 * n + 30000 * x_nn g ≤ s9 → Wp 3710 (z_loc i) [] (m_Ex g T, J2, X2) b9 s9 := fun b9 s9 a9 c9 => K g T J2 X2 b9 s9 hI2 a9 c9
  refine ⟨fun _ => ⟨fun _ => hK _ _ (by omega) (by omega), fun c => ⟨rfl, ⟨⟨_, _, z_k161, by decide⟩, ⟨fun _ => hK _ _ (by omega) (by omega), fun c5 => ?_⟩⟩⟩⟩, fun c => absurd ht c⟩
  refine absurd ?_ c5
  have hv := hv0 c
  show (if v < X2.1 161 0 then (1 : Int) else if X2.1 161 0 = v then 0 else -1) = 0
  rw [hv]; exact z_lc0
set_option maxRecDepth 20000 in
theorem c_law38 (A : z_LC l L xs Wp) (hI : x_I g T J) (h0 : 0 ≤ i) (h1 : i + 6 ≤ L) (hL : L ≤ 3072) (hx : ∀ k : Nat, J 2000000 k = (xs k).toInt) (hJ : (J 2000001 0).toNat = L) (hE : (m_Ex g T)[2000000]? = none) (hS : z_okS (m_Ex g T, J, X)) (hb : 4 * (n + 1) + 300 * x_nn g ≤ bc) (hb2 : 24 * (n + 1) + 30000 * x_nn g ≤ bs) (K : z_LK Wp i n) : Wp 2300 (z_loc i) [] (m_Ex g T, J, X) bc bs := by
  obtain ⟨hs, hw, hsc, -⟩ := A
  obtain ⟨Q1, hq, hQ⟩ := r_advance (l := l) (d := 0) hI (n := J 2000000 (i + 1)) X
  refine hs m_lw_40 m_sl_40 400 [(2308, 6)] [] 2300 _ _ _ _ _ (⟨rfl, ⟨(show -2147483648 ≤ i + 1 ∧ i + 1 ≤ 2147483647 by omega), ⟨z_scr hE hJ (show 0 ≤ i + 1 by omega) (show i + 1 < (L : Int) by omega), ?_⟩⟩⟩)
  show Wp 2308 (z_loc i) [.inr (.inr (.ref 161)), .inl (J 2000000 (i + 1)), .inr (.inr (.ref 0))] (m_Ex g T, J, X) bc bs
  refine hw m_we_27 3 304 1359 2308 m_wok_27 rfl m_wl_27 m_wd9_27 _ _ _ _ _ 4 24 _ rfl (Nat.le_of_ble_eq_true rfl) (s_advance (d := 0) hq (fun o S1 h => by obtain ⟨J1, X1, t, v, e1, e2, e3, e4⟩ := hQ o S1 h; exact ⟨J1, X1, t, v, e1, e2, e4, e3⟩)) (by omega) (by omega) (fun o S1 h => ?_)
  obtain ⟨J1, X2, t, v, rfl, hP, rfl, hv0⟩ := h
  refine ⟨_, rfl, ?_⟩
  show Wp 2311 (z_loc i) [.inl t] (m_Ex g T, J1, X2) _ _
  refine hsc _ _ _ _ _ _ (fun h5 h6 hE h7 => ?_)
  obtain ⟨Q2, hq2, hQ2⟩ := hP X2
  rw [← z_scE hx h5 (i + 1) (by omega)] at hq2
  refine hs m_lw_40 m_sl_40 400 [(3710, 6)] [] 2311 _ _ _ _ _ (⟨rfl, ⟨(show -2147483648 ≤ i + 1 ∧ i + 1 ≤ 2147483647 by omega), ⟨z_scr hE h6 (show 0 ≤ i + 1 by omega) (show i + 1 < (L : Int) by omega), ⟨_, _, rfl, z_k148, rfl, rfl, ⟨0, 0, Q2, hq2, Nat.zero_le _, Nat.zero_le _, fun o S2 hS2 h2 => ?_⟩⟩⟩⟩⟩)
  obtain ⟨J2, rfl, rfl, ht, hI2⟩ := hQ2 o S2 h2
  refine ⟨_, _, rfl, z_k148, rfl, rfl, ⟨0, 0, _, p_thrown (d := 11), Nat.zero_le _, Nat.zero_le _, fun o3 S3 _ h3 => ?_⟩⟩
  obtain ⟨rfl, rfl⟩ := h3
  have hK : ∀ b9 s9 : Nat, 4 * n + 300 * x_nn g ≤ b9 → 24 * n + 30000 * x_nn g ≤ s9 → Wp 3710 (z_loc i) [] (m_Ex g T, J2, X2) b9 s9 := fun b9 s9 a9 c9 => K g T J2 X2 b9 s9 hI2 a9 c9
  refine ⟨fun _ => ⟨fun _ => hK _ _ (by omega) (by omega), fun c => ⟨rfl, ⟨⟨_, _, z_k161, by decide⟩, ⟨fun _ => hK _ _ (by omega) (by omega), fun c5 => ?_⟩⟩⟩⟩, fun c => absurd ht c⟩
  refine absurd ?_ c5
  have hv := hv0 c
  show (if v < X2.1 161 0 then (1 : Int) else if X2.1 161 0 = v then 0 else -1) = 0
  rw [hv]; exact z_lc0
set_option maxRecDepth 20000 in
theorem c_law39 (A : z_LC l L xs Wp) (hI : x_I g T J) (h0 : 0 ≤ i) (h1 : i + 6 ≤ L) (hL : L ≤ 3072) (hx : ∀ k : Nat, J 2000000 k = (xs k).toInt) (hJ : (J 2000001 0).toNat = L) (hE : (m_Ex g T)[2000000]? = none) (hS : z_okS (m_Ex g T, J, X)) (hb : 4 * (n + 1) + 300 * x_nn g ≤ bc) (hb2 : 24 * (n + 1) + 30000 * x_nn g ≤ bs) (K : z_LK Wp i n) : Wp 2356 (z_loc i) [] (m_Ex g T, J, X) bc bs := by
  obtain ⟨hs, hw, hsc, -⟩ := A
  obtain ⟨Q1, hq, hQ⟩ := r_isDown (l := l) (d := 0) hI (a := J 2000000 (i + 1)) X
  refine hs m_lw_41 m_sl_41 400 [(2364, 6)] [] 2356 _ _ _ _ _ (⟨rfl, ⟨(show -2147483648 ≤ i + 1 ∧ i + 1 ≤ 2147483647 by omega), ⟨z_scr hE hJ (show 0 ≤ i + 1 by omega) (show i + 1 < (L : Int) by omega), ?_⟩⟩⟩)
  show Wp 2364 (z_loc i) [.inr (.inr (.ref 161)), .inl (J 2000000 (i + 1)), .inr (.inr (.ref 0))] (m_Ex g T, J, X) bc bs
  refine hw m_we_28 3 307 1396 2364 m_wok_28 rfl m_wl_28 m_wd9_28 _ _ _ _ _ 4 24 _ rfl (Nat.le_of_ble_eq_true rfl) (s_isDown (d := 0) hq (fun o S1 h => by obtain ⟨J1, X1, t, v, e1, e2, e3, e4⟩ := hQ o S1 h; exact ⟨J1, X1, t, v, e1, e2, e4, e3⟩)) (by omega) (by omega) (fun o S1 h => ?_)
  obtain ⟨J1, X2, t, v, rfl, hP, rfl, hv0⟩ := h
  refine ⟨_, rfl, ?_⟩
  show Wp 2367 (z_loc i) [.inl t] (m_Ex g T, J1, X2) _ _
  refine hsc _ _ _ _ _ _ (fun h5 h6 hE h7 => ?_)
  obtain ⟨Q2, hq2, hQ2⟩ := hP X2
  rw [← z_scE hx h5 (i + 1) (by omega)] at hq2
  refine hs m_lw_41 m_sl_41 400 [(3710, 6)] [] 2367 _ _ _ _ _ (⟨rfl, ⟨(show -2147483648 ≤ i + 1 ∧ i + 1 ≤ 2147483647 by omega), ⟨z_scr hE h6 (show 0 ≤ i + 1 by omega) (show i + 1 < (L : Int) by omega), ⟨_, _, rfl, z_k148, rfl, rfl, ⟨0, 0, Q2, hq2, Nat.zero_le _, Nat.zero_le _, fun o S2 hS2 h2 => ?_⟩⟩⟩⟩⟩)
  obtain ⟨J2, rfl, rfl, ht, hI2⟩ := hQ2 o S2 h2
  refine ⟨_, _, rfl, z_k148, rfl, rfl, ⟨0, 0, _, p_thrown (d := 11), Nat.zero_le _, Nat.zero_le _, fun o3 S3 _ h3 => ?_⟩⟩
  obtain ⟨rfl, rfl⟩ := h3
  have hK : ∀ b9 s9 : Nat, 4 * n + 300 * x_nn g ≤ b9 → 24 * n + 30000 * x_nn g ≤ s9 → Wp 3710 (z_loc i) [] (m_Ex g T, J2, X2) b9 s9 := fun b9 s9 a9 c9 => K g T J2 X2 b9 s9 hI2 a9 c9
  refine ⟨fun _ => ⟨fun _ => hK _ _ (by omega) (by omega), fun c => ⟨rfl, ⟨⟨_, _, z_k161, by decide⟩, ⟨fun c4 => ⟨fun _ => hK _ _ (by omega) (by omega), fun c5 => ?_⟩, fun c4 => ⟨fun _ => hK _ _ (by omega) (by omega), fun c5 => ?_⟩⟩⟩⟩⟩, fun c => absurd ht c⟩
  · refine absurd ?_ c5
    have hv := hv0 c
    rw [if_pos c4] at hv
    show (if (0 : Int) < X2.1 161 0 then (1 : Int) else if X2.1 161 0 = 0 then 0 else -1) = 0
    rw [hv]; exact z_lc0
  · refine absurd ?_ c5
    have hv := hv0 c
    rw [if_neg c4] at hv
    show (if (1 : Int) < X2.1 161 0 then (1 : Int) else if X2.1 161 0 = 1 then 0 else -1) = 0
    rw [hv]; exact z_lc0
end L2
