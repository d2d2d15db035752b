/-! cases of the law -/
section L2
variable {l : Launch} {L n : Nat} {xs : Nat → Int32} {Wp : Nat → z_C} {g : List (Option Nat)} {T : m_E} {J : z_J} {X : z_X} {bc bs : Nat} {i : Int}
set_option maxRecDepth 20000 in
theorem c_law16 (A : z_LC l L xs Wp) (hI : x_I g T J) (h0 : 0 ≤ i) (h1 : i + 6 ≤ L) (hL : L ≤ 3072) (hx : ∀ k : Nat, J 2000000 k = (xs k).toInt) (hJ : (J 2000001 0).toNat = L) (hE : (m_Ex g T)[2000000]? = none) (hS : z_okS (m_Ex g T, J, X)) (hb : 4 * (n + 1) + 300 * x_nn g ≤ bc) (hb2 : 24 * (n + 1) + 30000 * x_nn g ≤ bs) (K : z_LK Wp i n) : Wp 910 (z_loc i) [] (m_Ex g T, J, X) bc bs := by
  obtain ⟨hs, hw, hsc, -⟩ := A
  obtain ⟨Q1, hq, hQ⟩ := r_nextWindow (l := l) (d := 0) hI (i := J 2000000 (i + 1)) (r := J 2000000 (i + 2)) (e := J 2000000 (i + 3)) X
  refine hs m_lw_18 m_sl_18 400 [(930, 6)] [] 910 _ _ _ _ _ (⟨rfl, ⟨(show -2147483648 ≤ i + 1 ∧ i + 1 ≤ 2147483647 by omega), ⟨z_scr hE hJ (show 0 ≤ i + 1 by omega) (show i + 1 < (L : Int) by omega), ⟨rfl, ⟨(show -2147483648 ≤ i + 2 ∧ i + 2 ≤ 2147483647 by omega), ⟨z_scr hE hJ (show 0 ≤ i + 2 by omega) (show i + 2 < (L : Int) by omega), ⟨rfl, ⟨(show -2147483648 ≤ i + 3 ∧ i + 3 ≤ 2147483647 by omega), ⟨z_scr hE hJ (show 0 ≤ i + 3 by omega) (show i + 3 < (L : Int) by omega), ?_⟩⟩⟩⟩⟩⟩⟩⟩⟩)
  show Wp 930 (z_loc i) [.inr (.inr (.ref 161)), .inl (J 2000000 (i + 3)), .inl (J 2000000 (i + 2)), .inl (J 2000000 (i + 1)), .inr (.inr (.ref 0))] (m_Ex g T, J, X) bc bs
  refine hw m_we_6 5 236 1122 930 m_wok_6 rfl m_wl_6 m_wd9_6 _ _ _ _ _ 4 24 _ rfl (Nat.le_of_ble_eq_true rfl) (s_nextWindow (d := 0) hq (fun o S1 h => by obtain ⟨J1, X1, t, v, e1, e2, e3, e4⟩ := hQ o S1 h; exact ⟨J1, X1, t, v, e1, e2, e4⟩)) (by omega) (by omega) (fun o S1 h => ?_)
  obtain ⟨J1, X2, t, v, rfl, hP, rfl, hv0⟩ := h
  refine ⟨_, rfl, ?_⟩
  show Wp 933 (z_loc i) [.inl t] (m_Ex g T, J1, X2) _ _
  refine hsc _ _ _ _ _ _ (fun h5 h6 hE h7 => ?_)
  obtain ⟨Q2, hq2, hQ2⟩ := hP X2
  rw [← z_scE hx h5 (i + 1) (by omega)] at hq2
  rw [← z_scE hx h5 (i + 2) (by omega)] at hq2
  rw [← z_scE hx h5 (i + 3) (by omega)] at hq2
  refine hs m_lw_18 m_sl_18 400 [(3710, 6)] [] 933 _ _ _ _ _ (⟨rfl, ⟨(show -2147483648 ≤ i + 1 ∧ i + 1 ≤ 2147483647 by omega), ⟨z_scr hE h6 (show 0 ≤ i + 1 by omega) (show i + 1 < (L : Int) by omega), ⟨rfl, ⟨(show -2147483648 ≤ i + 2 ∧ i + 2 ≤ 2147483647 by omega), ⟨z_scr hE h6 (show 0 ≤ i + 2 by omega) (show i + 2 < (L : Int) by omega), ⟨rfl, ⟨(show -2147483648 ≤ i + 3 ∧ i + 3 ≤ 2147483647 by omega), ⟨z_scr hE h6 (show 0 ≤ i + 3 by omega) (show i + 3 < (L : Int) by omega), ⟨_, _, rfl, z_k148, rfl, rfl, ⟨0, 0, Q2, hq2, Nat.zero_le _, Nat.zero_le _, fun o S2 hS2 h2 => ?_⟩⟩⟩⟩⟩⟩⟩⟩⟩⟩⟩)
  obtain ⟨J2, rfl, rfl, ht, hI2⟩ := hQ2 o S2 h2
  refine ⟨_, _, rfl, z_k148, rfl, rfl, ⟨0, 0, _, p_thrown (d := 11), Nat.zero_le _, Nat.zero_le _, fun o3 S3 _ h3 => ?_⟩⟩
  obtain ⟨rfl, rfl⟩ := h3
  have hK : ∀ b9 s9 : Nat, 4 * n + 300 * x_nn g ≤ b9 → 24 * n + 30000 * x_nn g ≤ s9 → Wp 3710 (z_loc i) [] (m_Ex g T, J2, X2) b9 s9 := fun b9 s9 a9 c9 => K g T J2 X2 b9 s9 hI2 a9 c9
  refine ⟨fun _ => ⟨fun _ => hK _ _ (by omega) (by omega), fun c => ⟨rfl, ⟨⟨_, _, z_k161, by decide⟩, ⟨fun _ => hK _ _ (by omega) (by omega), fun c5 => ?_⟩⟩⟩⟩, fun c => absurd ht c⟩
  refine absurd ?_ c5
  have hv := hv0 c
  show (if v < X2.1 161 0 then (1 : Int) else if X2.1 161 0 = v then 0 else -1) = 0
  rw [hv]; exact z_lc0
set_option maxRecDepth 20000 in
theorem c_law17 (A : z_LC l L xs Wp) (hI : x_I g T J) (h0 : 0 ≤ i) (h1 : i + 6 ≤ L) (hL : L ≤ 3072) (hx : ∀ k : Nat, J 2000000 k = (xs k).toInt) (hJ : (J 2000001 0).toNat = L) (hE : (m_Ex g T)[2000000]? = none) (hS : z_okS (m_Ex g T, J, X)) (hb : 4 * (n + 1) + 300 * x_nn g ≤ bc) (hb2 : 24 * (n + 1) + 30000 * x_nn g ≤ bs) (K : z_LK Wp i n) : Wp 990 (z_loc i) [] (m_Ex g T, J, X) bc bs := by
  obtain ⟨hs, hw, hsc, -⟩ := A
  obtain ⟨Q1, hq, hQ⟩ := r_issueJoint (l := l) (d := 0) hI (i := J 2000000 (i + 1)) (j := J 2000000 (i + 2)) (r := J 2000000 (i + 3)) (e := J 2000000 (i + 4)) X
  refine hs m_lw_19 m_sl_19 400 [(1016, 6)] [] 990 _ _ _ _ _ (⟨rfl, ⟨(show -2147483648 ≤ i + 1 ∧ i + 1 ≤ 2147483647 by omega), ⟨z_scr hE hJ (show 0 ≤ i + 1 by omega) (show i + 1 < (L : Int) by omega), ⟨rfl, ⟨(show -2147483648 ≤ i + 2 ∧ i + 2 ≤ 2147483647 by omega), ⟨z_scr hE hJ (show 0 ≤ i + 2 by omega) (show i + 2 < (L : Int) by omega), ⟨rfl, ⟨(show -2147483648 ≤ i + 3 ∧ i + 3 ≤ 2147483647 by omega), ⟨z_scr hE hJ (show 0 ≤ i + 3 by omega) (show i + 3 < (L : Int) by omega), ⟨rfl, ⟨(show -2147483648 ≤ i + 4 ∧ i + 4 ≤ 2147483647 by omega), ⟨z_scr hE hJ (show 0 ≤ i + 4 by omega) (show i + 4 < (L : Int) by omega), ?_⟩⟩⟩⟩⟩⟩⟩⟩⟩⟩⟩⟩)
  show Wp 1016 (z_loc i) [.inr (.inr (.ref 161)), .inl (J 2000000 (i + 4)), .inl (J 2000000 (i + 3)), .inl (J 2000000 (i + 2)), .inl (J 2000000 (i + 1)), .inr (.inr (.ref 0))] (m_Ex g T, J, X) bc bs
  refine hw m_we_7 6 239 1130 1016 m_wok_7 rfl m_wl_7 m_wd9_7 _ _ _ _ _ 4 24 _ rfl (Nat.le_of_ble_eq_true rfl) (s_issueJoint (d := 0) hq (fun o S1 h => by obtain ⟨J1, X1, t, v, e1, e2, e3, e4⟩ := hQ o S1 h; exact ⟨J1, X1, t, v, e1, e2, e4⟩)) (by omega) (by omega) (fun o S1 h => ?_)
  obtain ⟨J1, X2, t, v, rfl, hP, rfl, hv0⟩ := h
  refine ⟨_, rfl, ?_⟩
  show Wp 1019 (z_loc i) [.inl t] (m_Ex g T, J1, X2) _ _
  refine hsc _ _ _ _ _ _ (fun h5 h6 hE h7 => ?_)
  obtain ⟨Q2, hq2, hQ2⟩ := hP X2
  rw [← z_scE hx h5 (i + 1) (by omega)] at hq2
  rw [← z_scE hx h5 (i + 2) (by omega)] at hq2
  rw [← z_scE hx h5 (i + 3) (by omega)] at hq2
  rw [← z_scE hx h5 (i + 4) (by omega)] at hq2
  refine hs m_lw_19 m_sl_19 400 [(3710, 6)] [] 1019 _ _ _ _ _ (⟨rfl, ⟨(show -2147483648 ≤ i + 1 ∧ i + 1 ≤ 2147483647 by omega), ⟨z_scr hE h6 (show 0 ≤ i + 1 by omega) (show i + 1 < (L : Int) by omega), ⟨rfl, ⟨(show -2147483648 ≤ i + 2 ∧ i + 2 ≤ 2147483647 by omega), ⟨z_scr hE h6 (show 0 ≤ i + 2 by omega) (show i + 2 < (L : Int) by omega), ⟨rfl, ⟨(show -2147483648 ≤ i + 3 ∧ i + 3 ≤ 2147483647 by omega), ⟨z_scr hE h6 (show 0 ≤ i + 3 by omega) (show i + 3 < (L : Int) by omega), ⟨rfl, ⟨(show -2147483648 ≤ i + 4 ∧ i + 4 ≤ 2147483647 by omega), ⟨z_scr hE h6 (show 0 ≤ i + 4 by omega) (show i + 4 < (L : Int) by omega), ⟨_, _, rfl, z_k148, rfl, rfl, ⟨0, 0, Q2, hq2, Nat.zero_le _, Nat.zero_le _, fun o S2 hS2 h2 => ?_⟩⟩⟩⟩⟩⟩⟩⟩⟩⟩⟩⟩⟩⟩)
  obtain ⟨J2, rfl, rfl, ht, hI2⟩ := hQ2 o S2 h2
  refine ⟨_, _, rfl, z_k148, rfl, rfl, ⟨0, 0, _, p_thrown (d := 11), Nat.zero_le _, Nat.zero_le _, fun o3 S3 _ h3 => ?_⟩⟩
  obtain ⟨rfl, rfl⟩ := h3
  have hK : ∀ b9 s9 : Nat, 4 * n + 300 * x_nn g ≤ b9 → 24 * n + 30000 * x_nn g ≤ s9 → Wp 3710 (z_loc i) [] (m_Ex g T, J2, X2) b9 s9 := fun b9 s9 a9 c9 => K g T J2 X2 b9 s9 hI2 a9 c9
  refine ⟨fun _ => ⟨fun _ => hK _ _ (by omega) (by omega), fun c => ⟨rfl, ⟨⟨_, _, z_k161, by decide⟩, ⟨fun _ => hK _ _ (by omega) (by omega), fun c5 => ?_⟩⟩⟩⟩, fun c => absurd ht c⟩
  refine absurd ?_ c5
  have hv := hv0 c
  show (if v < X2.1 161 0 then (1 : Int) else if X2.1 161 0 = v then 0 else -1) = 0
  rw [hv]; exact z_lc0
set_option maxRecDepth 20000 in
theorem c_law18 (A : z_LC l L xs Wp) (hI : x_I g T J) (h0 : 0 ≤ i) (h1 : i + 6 ≤ L) (hL : L ≤ 3072) (hx : ∀ k : Nat, J 2000000 k = (xs k).toInt) (hJ : (J 2000001 0).toNat = L) (hE : (m_Ex g T)[2000000]? = none) (hS : z_okS (m_Ex g T, J, X)) (hb : 4 * (n + 1) + 300 * x_nn g ≤ bc) (hb2 : 24 * (n + 1) + 30000 * x_nn g ≤ bs) (K : z_LK Wp i n) : Wp 1082 (z_loc i) [] (m_Ex g T, J, X) bc bs := by
  obtain ⟨hs, hw, hsc, -⟩ := A
  obtain ⟨Q1, hq, hQ⟩ := r_moveTicket (l := l) (d := 0) hI (t := J 2000000 (i + 1)) (e := J 2000000 (i + 2)) X
  refine hs m_lw_20 m_sl_20 400 [(1096, 6)] [] 1082 _ _ _ _ _ (⟨rfl, ⟨(show -2147483648 ≤ i + 1 ∧ i + 1 ≤ 2147483647 by omega), ⟨z_scr hE hJ (show 0 ≤ i + 1 by omega) (show i + 1 < (L : Int) by omega), ⟨rfl, ⟨(show -2147483648 ≤ i + 2 ∧ i + 2 ≤ 2147483647 by omega), ⟨z_scr hE hJ (show 0 ≤ i + 2 by omega) (show i + 2 < (L : Int) by omega), ?_⟩⟩⟩⟩⟩⟩)
  show Wp 1096 (z_loc i) [.inr (.inr (.ref 161)), .inl (J 2000000 (i + 2)), .inl (J 2000000 (i + 1)), .inr (.inr (.ref 0))] (m_Ex g T, J, X) bc bs
  refine hw m_we_8 4 243 1142 1096 m_wok_8 rfl m_wl_8 m_wd9_8 _ _ _ _ _ 4 24 _ rfl (Nat.le_of_ble_eq_true rfl) (s_moveTicket (d := 0) hq (fun o S1 h => by obtain ⟨J1, X1, t, v, e1, e2, e3, e4⟩ := hQ o S1 h; exact ⟨J1, X1, t, v, e1, e2, e4⟩)) (by omega) (by omega) (fun o S1 h => ?_)
  obtain ⟨J1, X2, t, v, rfl, hP, rfl, hv0⟩ := h
  refine ⟨_, rfl, ?_⟩
  show Wp 1099 (z_loc i) [.inl t] (m_Ex g T, J1, X2) _ _
  refine hsc _ _ _ _ _ _ (fun h5 h6 hE h7 => ?_)
  obtain ⟨Q2, hq2, hQ2⟩ := hP X2
  rw [← z_scE hx h5 (i + 1) (by omega)] at hq2
  rw [← z_scE hx h5 (i + 2) (by omega)] at hq2
  refine hs m_lw_20 m_sl_20 400 [(3710, 6)] [] 1099 _ _ _ _ _ (⟨rfl, ⟨(show -2147483648 ≤ i + 1 ∧ i + 1 ≤ 2147483647 by omega), ⟨z_scr hE h6 (show 0 ≤ i + 1 by omega) (show i + 1 < (L : Int) by omega), ⟨rfl, ⟨(show -2147483648 ≤ i + 2 ∧ i + 2 ≤ 2147483647 by omega), ⟨z_scr hE h6 (show 0 ≤ i + 2 by omega) (show i + 2 < (L : Int) by omega), ⟨_, _, rfl, z_k148, rfl, rfl, ⟨0, 0, Q2, hq2, Nat.zero_le _, Nat.zero_le _, fun o S2 hS2 h2 => ?_⟩⟩⟩⟩⟩⟩⟩⟩)
  obtain ⟨J2, rfl, rfl, ht, hI2⟩ := hQ2 o S2 h2
  refine ⟨_, _, rfl, z_k148, rfl, rfl, ⟨0, 0, _, p_thrown (d := 11), Nat.zero_le _, Nat.zero_le _, fun o3 S3 _ h3 => ?_⟩⟩
  obtain ⟨rfl, rfl⟩ := h3
  have hK : ∀ b9 s9 : Nat, 4 * n + 300 * x_nn g ≤ b9 → 24 * n + 30000 * x_nn g ≤ s9 → Wp 3710 (z_loc i) [] (m_Ex g T, J2, X2) b9 s9 := fun b9 s9 a9 c9 => K g T J2 X2 b9 s9 hI2 a9 c9
  refine ⟨fun _ => ⟨fun _ => hK _ _ (by omega) (by omega), fun c => ⟨rfl, ⟨⟨_, _, z_k161, by decide⟩, ⟨fun _ => hK _ _ (by omega) (by omega), fun c5 => ?_⟩⟩⟩⟩, fun c => absurd ht c⟩
  refine absurd ?_ c5
  have hv := hv0 c
  show (if v < X2.1 161 0 then (1 : Int) else if X2.1 161 0 = v then 0 else -1) = 0
  rw [hv]; exact z_lc0
set_option maxRecDepth 20000 in
theorem c_law19 (A : z_LC l L xs Wp) (hI : x_I g T J) (h0 : 0 ≤ i) (h1 : i + 6 ≤ L) (hL : L ≤ 3072) (hx : ∀ k : Nat, J 2000000 k = (xs k).toInt) (hJ : (J 2000001 0).toNat = L) (hE : (m_Ex g T)[2000000]? = none) (hS : z_okS (m_Ex g T, J, X)) (hb : 4 * (n + 1) + 300 * x_nn g ≤ bc) (hb2 : 24 * (n + 1) + 30000 * x_nn g ≤ bs) (K : z_LK Wp i n) : Wp 1150 (z_loc i) [] (m_Ex g T, J, X) bc bs := by
  obtain ⟨hs, hw, hsc, -⟩ := A
  obtain ⟨Q1, hq, hQ⟩ := r_exchange (l := l) (d := 0) hI (t := J 2000000 (i + 1)) (r := J 2000000 (i + 2)) (e := J 2000000 (i + 3)) X
  refine hs m_lw_21 m_sl_21 400 [(1170, 6)] [] 1150 _ _ _ _ _ (⟨rfl, ⟨(show -2147483648 ≤ i + 1 ∧ i + 1 ≤ 2147483647 by omega), ⟨z_scr hE hJ (show 0 ≤ i + 1 by omega) (show i + 1 < (L : Int) by omega), ⟨rfl, ⟨(show -2147483648 ≤ i + 2 ∧ i + 2 ≤ 2147483647 by omega), ⟨z_scr hE hJ (show 0 ≤ i + 2 by omega) (show i + 2 < (L : Int) by omega), ⟨rfl, ⟨(show -2147483648 ≤ i + 3 ∧ i + 3 ≤ 2147483647 by omega), ⟨z_scr hE hJ (show 0 ≤ i + 3 by omega) (show i + 3 < (L : Int) by omega), ?_⟩⟩⟩⟩⟩⟩⟩⟩⟩)
  show Wp 1170 (z_loc i) [.inr (.inr (.ref 161)), .inl (J 2000000 (i + 3)), .inl (J 2000000 (i + 2)), .inl (J 2000000 (i + 1)), .inr (.inr (.ref 0))] (m_Ex g T, J, X) bc bs
  refine hw m_we_9 5 246 1162 1170 m_wok_9 rfl m_wl_9 m_wd9_9 _ _ _ _ _ 4 24 _ rfl (Nat.le_of_ble_eq_true rfl) (s_exchange (d := 0) hq (fun o S1 h => by obtain ⟨J1, X1, t, v, e1, e2, e3, e4⟩ := hQ o S1 h; exact ⟨J1, X1, t, v, e1, e2, e4⟩)) (by omega) (by omega) (fun o S1 h => ?_)
  obtain ⟨J1, X2, t, v, rfl, hP, rfl, hv0⟩ := h
  refine ⟨_, rfl, ?_⟩
  show Wp 1173 (z_loc i) [.inl t] (m_Ex g T, J1, X2) _ _
  refine hsc _ _ _ _ _ _ (fun h5 h6 hE h7 => ?_)
  obtain ⟨Q2, hq2, hQ2⟩ := hP X2
  rw [← z_scE hx h5 (i + 1) (by omega)] at hq2
  rw [← z_scE hx h5 (i + 2) (by omega)] at hq2
  rw [← z_scE hx h5 (i + 3) (by omega)] at hq2
  refine hs m_lw_21 m_sl_21 400 [(3710, 6)] [] 1173 _ _ _ _ _ (⟨rfl, ⟨(show -2147483648 ≤ i + 1 ∧ i + 1 ≤ 2147483647 by omega), ⟨z_scr hE h6 (show 0 ≤ i + 1 by omega) (show i + 1 < (L : Int) by omega), ⟨rfl, ⟨(show -2147483648 ≤ i + 2 ∧ i + 2 ≤ 2147483647 by omega), ⟨z_scr hE h6 (show 0 ≤ i + 2 by omega) (show i + 2 < (L : Int) by omega), ⟨rfl, ⟨(show -2147483648 ≤ i + 3 ∧ i + 3 ≤ 2147483647 by omega), ⟨z_scr hE h6 (show 0 ≤ i + 3 by omega) (show i + 3 < (L : Int) by omega), ⟨_, _, rfl, z_k148, rfl, rfl, ⟨0, 0, Q2, hq2, Nat.zero_le _, Nat.zero_le _, fun o S2 hS2 h2 => ?_⟩⟩⟩⟩⟩⟩⟩⟩⟩⟩⟩)
  obtain ⟨J2, rfl, rfl, ht, hI2⟩ := hQ2 o S2 h2
  refine ⟨_, _, rfl, z_k148, rfl, rfl, ⟨0, 0, _, p_thrown (d := 11), Nat.zero_le _, Nat.zero_le _, fun o3 S3 _ h3 => ?_⟩⟩
  obtain ⟨rfl, rfl⟩ := h3
  have hK : ∀ b9 s9 : Nat, 4 * n + 300 * x_nn g ≤ b9 → 24 * n + 30000 * x_nn g ≤ s9 → Wp 3710 (z_loc i) [] (m_Ex g T, J2, X2) b9 s9 := fun b9 s9 a9 c9 => K g T J2 X2 b9 s9 hI2 a9 c9
  refine ⟨fun _ => ⟨fun _ => hK _ _ (by omega) (by omega), fun c => ⟨rfl, ⟨⟨_, _, z_k161, by decide⟩, ⟨fun _ => hK _ _ (by omega) (by omega), fun c5 => ?_⟩⟩⟩⟩, fun c => absurd ht c⟩
  refine absurd ?_ c5
  have hv := hv0 c
  show (if v < X2.1 161 0 then (1 : Int) else if X2.1 161 0 = v then 0 else -1) = 0
  rw [hv]; exact z_lc0
set_option maxRecDepth 20000 in
theorem c_law20 (A : z_LC l L xs Wp) (hI : x_I g T J) (h0 : 0 ≤ i) (h1 : i + 6 ≤ L) (hL : L ≤ 3072) (hx : ∀ k : Nat, J 2000000 k = (xs k).toInt) (hJ : (J 2000001 0).toNat = L) (hE : (m_Ex g T)[2000000]? = none) (hS : z_okS (m_Ex g T, J, X)) (hb : 4 * (n + 1) + 300 * x_nn g ≤ bc) (hb2 : 24 * (n + 1) + 30000 * x_nn g ≤ bs) (K : z_LK Wp i n) : Wp 1230 (z_loc i) [] (m_Ex g T, J, X) bc bs := by
  obtain ⟨hs, hw, hsc, -⟩ := A
  obtain ⟨Q1, hq, hQ⟩ := r_cancel (l := l) (d := 0) hI (t := J 2000000 (i + 1)) X
  refine hs m_lw_22 m_sl_22 400 [(1238, 6)] [] 1230 _ _ _ _ _ (⟨rfl, ⟨(show -2147483648 ≤ i + 1 ∧ i + 1 ≤ 2147483647 by omega), ⟨z_scr hE hJ (show 0 ≤ i + 1 by omega) (show i + 1 < (L : Int) by omega), ?_⟩⟩⟩)
  show Wp 1238 (z_loc i) [.inr (.inr (.ref 161)), .inl (J 2000000 (i + 1)), .inr (.inr (.ref 0))] (m_Ex g T, J, X) bc bs
  refine hw m_we_10 3 249 1173 1238 m_wok_10 rfl m_wl_10 m_wd9_10 _ _ _ _ _ 4 24 _ rfl (Nat.le_of_ble_eq_true rfl) (s_cancel (d := 0) hq (fun o S1 h => by obtain ⟨J1, X1, t, v, e1, e2, e3, e4⟩ := hQ o S1 h; exact ⟨J1, X1, t, v, e1, e2, e4, e3⟩)) (by omega) (by omega) (fun o S1 h => ?_)
  obtain ⟨J1, X2, t, v, rfl, hP, rfl, hv0⟩ := h
  refine ⟨_, rfl, ?_⟩
  show Wp 1241 (z_loc i) [.inl t] (m_Ex g T, J1, X2) _ _
  refine hsc _ _ _ _ _ _ (fun h5 h6 hE h7 => ?_)
  obtain ⟨Q2, hq2, hQ2⟩ := hP X2
  rw [← z_scE hx h5 (i + 1) (by omega)] at hq2
  refine hs m_lw_22 m_sl_22 400 [(3710, 6)] [] 1241 _ _ _ _ _ (⟨rfl, ⟨(show -2147483648 ≤ i + 1 ∧ i + 1 ≤ 2147483647 by omega), ⟨z_scr hE h6 (show 0 ≤ i + 1 by omega) (show i + 1 < (L : Int) by omega), ⟨_, _, rfl, z_k148, rfl, rfl, ⟨0, 0, Q2, hq2, Nat.zero_le _, Nat.zero_le _, fun o S2 hS2 h2 => ?_⟩⟩⟩⟩⟩)
  obtain ⟨J2, rfl, rfl, ht, hI2⟩ := hQ2 o S2 h2
  refine ⟨_, _, rfl, z_k148, rfl, rfl, ⟨0, 0, _, p_thrown (d := 11), Nat.zero_le _, Nat.zero_le _, fun o3 S3 _ h3 => ?_⟩⟩
  obtain ⟨rfl, rfl⟩ := h3
  have hK : ∀ b9 s9 : Nat, 4 * n + 300 * x_nn g ≤ b9 → 24 * n + 30000 * x_nn g ≤ s9 → Wp 3710 (z_loc i) [] (m_Ex g T, J2, X2) b9 s9 := fun b9 s9 a9 c9 => K g T J2 X2 b9 s9 hI2 a9 c9
  refine ⟨fun _ => ⟨fun _ => hK _ _ (by omega) (by omega), fun c => ⟨rfl, ⟨⟨_, _, z_k161, by decide⟩, ⟨fun _ => hK _ _ (by omega) (by omega), fun c5 => ?_⟩⟩⟩⟩, fun c => absurd ht c⟩
  refine absurd ?_ c5
  have hv := hv0 c
  show (if v < X2.1 161 0 then (1 : Int) else if X2.1 161 0 = v then 0 else -1) = 0
  rw [hv]; exact z_lc0
set_option maxRecDepth 20000 in
theorem c_law21 (A : z_LC l L xs Wp) (hI : x_I g T J) (h0 : 0 ≤ i) (h1 : i + 6 ≤ L) (hL : L ≤ 3072) (hx : ∀ k : Nat, J 2000000 k = (xs k).toInt) (hJ : (J 2000001 0).toNat = L) (hE : (m_Ex g T)[2000000]? = none) (hS : z_okS (m_Ex g T, J, X)) (hb : 4 * (n + 1) + 300 * x_nn g ≤ bc) (hb2 : 24 * (n + 1) + 30000 * x_nn g ≤ bs) (K : z_LK Wp i n) : Wp 1286 (z_loc i) [] (m_Ex g T, J, X) bc bs := by
  obtain ⟨hs, hw, hsc, -⟩ := A
  obtain ⟨Q1, hq, hQ⟩ := r_redeem (l := l) (d := 0) hI (t := J 2000000 (i + 1)) X
  refine hs m_lw_23 m_sl_23 400 [(1294, 6)] [] 1286 _ _ _ _ _ (⟨rfl, ⟨(show -2147483648 ≤ i + 1 ∧ i + 1 ≤ 2147483647 by omega), ⟨z_scr hE hJ (show 0 ≤ i + 1 by omega) (show i + 1 < (L : Int) by omega), ?_⟩⟩⟩)
  show Wp 1294 (z_loc i) [.inr (.inr (.ref 161)), .inl (J 2000000 (i + 1)), .inr (.inr (.ref 0))] (m_Ex g T, J, X) bc bs
  refine hw m_we_11 3 252 1184 1294 m_wok_11 rfl m_wl_11 m_wd9_11 _ _ _ _ _ 4 24 _ rfl (Nat.le_of_ble_eq_true rfl) (s_redeem (d := 0) hq (fun o S1 h => by obtain ⟨J1, X1, t, v, e1, e2, e3, e4⟩ := hQ o S1 h; exact ⟨J1, X1, t, v, e1, e2, e4, e3⟩)) (by omega) (by omega) (fun o S1 h => ?_)
  obtain ⟨J1, X2, t, v, rfl, hP, rfl, hv0⟩ := h
  refine ⟨_, rfl, ?_⟩
  show Wp 1297 (z_loc i) [.inl t] (m_Ex g T, J1, X2) _ _
  refine hsc _ _ _ _ _ _ (fun h5 h6 hE h7 => ?_)
  obtain ⟨Q2, hq2, hQ2⟩ := hP X2
  rw [← z_scE hx h5 (i + 1) (by omega)] at hq2
  refine hs m_lw_23 m_sl_23 400 [(3710, 6)] [] 1297 _ _ _ _ _ (⟨rfl, ⟨(show -2147483648 ≤ i + 1 ∧ i + 1 ≤ 2147483647 by omega), ⟨z_scr hE h6 (show 0 ≤ i + 1 by omega) (show i + 1 < (L : Int) by omega), ⟨_, _, rfl, z_k148, rfl, rfl, ⟨0, 0, Q2, hq2, Nat.zero_le _, Nat.zero_le _, fun o S2 hS2 h2 => ?_⟩⟩⟩⟩⟩)
  obtain ⟨J2, rfl, rfl, ht, hI2⟩ := hQ2 o S2 h2
  refine ⟨_, _, rfl, z_k148, rfl, rfl, ⟨0, 0, _, p_thrown (d := 11), Nat.zero_le _, Nat.zero_le _, fun o3 S3 _ h3 => ?_⟩⟩
  obtain ⟨rfl, rfl⟩ := h3
  have hK : ∀ b9 s9 : Nat, 4 * n + 300 * x_nn g ≤ b9 → 24 * n + 30000 * x_nn g ≤ s9 → Wp 3710 (z_loc i) [] (m_Ex g T, J2, X2) b9 s9 := fun b9 s9 a9 c9 => K g T J2 X2 b9 s9 hI2 a9 c9
  refine ⟨fun _ => ⟨fun _ => hK _ _ (by omega) (by omega), fun c => ⟨rfl, ⟨⟨_, _, z_k161, by decide⟩, ⟨fun c4 => ⟨fun _ => hK _ _ (by omega) (by omega), fun c5 => ?_⟩, fun c4 => ⟨fun _ => hK _ _ (by omega) (by omega), fun c5 => ?_⟩⟩⟩⟩⟩, fun c => absurd ht c⟩
  · refine absurd ?_ c5
    have hv := hv0 c
    rw [if_pos c4] at hv
    show (if (0 : Int) < X2.1 161 0 then (1 : Int) else if X2.1 161 0 = 0 then 0 else -1) = 0
    rw [hv]; exact z_lc0
  · refine absurd ?_ c5
    have hv := hv0 c
    rw [if_neg c4] at hv
    show (if (1 : Int) < X2.1 161 0 then (1 : Int) else if X2.1 161 0 = 1 then 0 else -1) = 0
    rw [hv]; exact z_lc0
set_option maxRecDepth 20000 in
theorem c_law22 (A : z_LC l L xs Wp) (hI : x_I g T J) (h0 : 0 ≤ i) (h1 : i + 6 ≤ L) (hL : L ≤ 3072) (hx : ∀ k : Nat, J 2000000 k = (xs k).toInt) (hJ : (J 2000001 0).toNat = L) (hE : (m_Ex g T)[2000000]? = none) (hS : z_okS (m_Ex g T, J, X)) (hb : 4 * (n + 1) + 300 * x_nn g ≤ bc) (hb2 : 24 * (n + 1) + 30000 * x_nn g ≤ bs) (K : z_LK Wp i n) : Wp 1349 (z_loc i) [] (m_Ex g T, J, X) bc bs := by
  obtain ⟨hs, hw, hsc, -⟩ := A
  obtain ⟨Q1, hq, hQ⟩ := r_redeemOpen (l := l) (d := 0) hI (t := J 2000000 (i + 1)) (r := J 2000000 (i + 2)) X
  refine hs m_lw_24 m_sl_24 400 [(1363, 6)] [] 1349 _ _ _ _ _ (⟨rfl, ⟨(show -2147483648 ≤ i + 1 ∧ i + 1 ≤ 2147483647 by omega), ⟨z_scr hE hJ (show 0 ≤ i + 1 by omega) (show i + 1 < (L : Int) by omega), ⟨rfl, ⟨(show -2147483648 ≤ i + 2 ∧ i + 2 ≤ 2147483647 by omega), ⟨z_scr hE hJ (show 0 ≤ i + 2 by omega) (show i + 2 < (L : Int) by omega), ?_⟩⟩⟩⟩⟩⟩)
  show Wp 1363 (z_loc i) [.inr (.inr (.ref 161)), .inl (J 2000000 (i + 2)), .inl (J 2000000 (i + 1)), .inr (.inr (.ref 0))] (m_Ex g T, J, X) bc bs
  refine hw m_we_12 4 255 1207 1363 m_wok_12 rfl m_wl_12 m_wd9_12 _ _ _ _ _ 4 24 _ rfl (Nat.le_of_ble_eq_true rfl) (s_redeemOpen (d := 0) hq (fun o S1 h => by obtain ⟨J1, X1, t, v, e1, e2, e3, e4⟩ := hQ o S1 h; exact ⟨J1, X1, t, v, e1, e2, e4, e3⟩)) (by omega) (by omega) (fun o S1 h => ?_)
  obtain ⟨J1, X2, t, v, rfl, hP, rfl, hv0⟩ := h
  refine ⟨_, rfl, ?_⟩
  show Wp 1366 (z_loc i) [.inl t] (m_Ex g T, J1, X2) _ _
  refine hsc _ _ _ _ _ _ (fun h5 h6 hE h7 => ?_)
  obtain ⟨Q2, hq2, hQ2⟩ := hP X2
  rw [← z_scE hx h5 (i + 1) (by omega)] at hq2
  rw [← z_scE hx h5 (i + 2) (by omega)] at hq2
  refine hs m_lw_24 m_sl_24 400 [(3710, 6)] [] 1366 _ _ _ _ _ (⟨rfl, ⟨(show -2147483648 ≤ i + 1 ∧ i + 1 ≤ 2147483647 by omega), ⟨z_scr hE h6 (show 0 ≤ i + 1 by omega) (show i + 1 < (L : Int) by omega), ⟨rfl, ⟨(show -2147483648 ≤ i + 2 ∧ i + 2 ≤ 2147483647 by omega), ⟨z_scr hE h6 (show 0 ≤ i + 2 by omega) (show i + 2 < (L : Int) by omega), ⟨_, _, rfl, z_k148, rfl, rfl, ⟨0, 0, Q2, hq2, Nat.zero_le _, Nat.zero_le _, fun o S2 hS2 h2 => ?_⟩⟩⟩⟩⟩⟩⟩⟩)
  obtain ⟨J2, rfl, rfl, ht, hI2⟩ := hQ2 o S2 h2
  refine ⟨_, _, rfl, z_k148, rfl, rfl, ⟨0, 0, _, p_thrown (d := 11), Nat.zero_le _, Nat.zero_le _, fun o3 S3 _ h3 => ?_⟩⟩
  obtain ⟨rfl, rfl⟩ := h3
  have hK : ∀ b9 s9 : Nat, 4 * n + 300 * x_nn g ≤ b9 → 24 * n + 30000 * x_nn g ≤ s9 → Wp 3710 (z_loc i) [] (m_Ex g T, J2, X2) b9 s9 := fun b9 s9 a9 c9 => K g T J2 X2 b9 s9 hI2 a9 c9
  refine ⟨fun _ => ⟨fun _ => hK _ _ (by omega) (by omega), fun c => ⟨rfl, ⟨⟨_, _, z_k161, by decide⟩, ⟨fun c4 => ⟨fun _ => hK _ _ (by omega) (by omega), fun c5 => ?_⟩, fun c4 => ⟨fun _ => hK _ _ (by omega) (by omega), fun c5 => ?_⟩⟩⟩⟩⟩, fun c => absurd ht c⟩
  · refine absurd ?_ c5
    have hv := hv0 c
    rw [if_pos c4] at hv
    show (if (0 : Int) < X2.1 161 0 then (1 : Int) else if X2.1 161 0 = 0 then 0 else -1) = 0
    rw [hv]; exact z_lc0
  · refine absurd ?_ c5
    have hv := hv0 c
    rw [if_neg c4] at hv
    show (if (1 : Int) < X2.1 161 0 then (1 : Int) else if X2.1 161 0 = 1 then 0 else -1) = 0
    rw [hv]; exact z_lc0
set_option maxRecDepth 20000 in
theorem c_law23 (A : z_LC l L xs Wp) (hI : x_I g T J) (h0 : 0 ≤ i) (h1 : i + 6 ≤ L) (hL : L ≤ 3072) (hx : ∀ k : Nat, J 2000000 k = (xs k).toInt) (hJ : (J 2000001 0).toNat = L) (hE : (m_Ex g T)[2000000]? = none) (hS : z_okS (m_Ex g T, J, X)) (hb : 4 * (n + 1) + 300 * x_nn g ≤ bc) (hb2 : 24 * (n + 1) + 30000 * x_nn g ≤ bs) (K : z_LK Wp i n) : Wp 1424 (z_loc i) [] (m_Ex g T, J, X) bc bs := by
  obtain ⟨hs, hw, hsc, -⟩ := A
  obtain ⟨Q1, hq, hQ⟩ := r_ticketCount (l := l) (d := 0) hI   X
  refine hs m_lw_25 m_sl_25 400 [(1428, 6)] [] 1424 _ _ _ _ _ (⟨_, _, rfl, z_k0, rfl, rfl, ⟨4, 24, Q1, hq, by omega, by omega, fun o S1 hS1 hq1 => ?_⟩⟩)
  obtain ⟨g', T', J1, X1, v, rfl, rfl, ⟨m1, m2⟩, Q2, hq2, hQ2⟩ := hQ o S1 hq1
  show Wp 1428 (z_loc i) [.inl v] (m_Ex g' T', J1, X1) _ _
  refine hsc _ _ _ _ _ _ (fun h5 h6 hE h7 => ?_)
  refine hs m_lw_25 m_sl_25 400 [(3710, 6)] [] 1428 _ _ _ _ _ (⟨_, _, rfl, z_k148, rfl, rfl, ⟨0, 0, Q2, hq2, Nat.zero_le _, Nat.zero_le _, fun o S2 hS2 h2 => ?_⟩⟩)
  obtain ⟨J2, X2, rfl, rfl, hI2⟩ := hQ2 o S2 h2
  exact ⟨fun _ => K g' T' J2 X2 _ _ hI2 (by omega) (by omega), fun c => absurd rfl c⟩
end L2
