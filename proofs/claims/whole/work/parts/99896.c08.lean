/-! cases of the law -/
section L2
variable {l : Launch} {L n : Nat} {xs : Nat → Int32} {Wp : Nat → z_C} {g : List (Option Nat)} {T : m_E} {J : z_J} {X : z_X} {bc bs : Nat} {i : Int}
set_option maxRecDepth 20000 in
theorem c_law56 (A : z_LC l L xs Wp) (hI : x_I g T J) (h0 : 0 ≤ i) (h1 : i + 6 ≤ L) (hL : L ≤ 3072) (hx : ∀ k : Nat, J 2000000 k = (xs k).toInt) (hJ : (J 2000001 0).toNat = L) (hE : (m_Ex g T)[2000000]? = none) (hS : z_okS (m_Ex g T, J, X)) (hb : 4 * (n + 1) + 300 * x_nn g ≤ bc) (hb2 : 24 * (n + 1) + 30000 * x_nn g ≤ bs) (K : z_LK Wp i n) : Wp 3454 (z_loc i) [] (m_Ex g T, J, X) bc bs := by
  obtain ⟨hs, hw, hsc, -⟩ := A
  obtain ⟨Q1, hq, hQ⟩ := r_servedSet (l := l) (d := 0) hI (r := J 2000000 (i + 1)) X
  refine hs m_lw_58 m_sl_58 400 [(3462, 6)] [] 3454 _ _ _ _ _ (⟨rfl, ⟨(show -2147483648 ≤ i + 1 ∧ i + 1 ≤ 2147483647 by omega), ⟨z_scr hE hJ (show 0 ≤ i + 1 by omega) (show i + 1 < (L : Int) by omega), ?_⟩⟩⟩)
  show Wp 3462 (z_loc i) [.inr (.inr (.ref 161)), .inl (J 2000000 (i + 1)), .inr (.inr (.ref 0))] (m_Ex g T, J, X) bc bs
  refine hw m_we_44 3 361 1625 3462 m_wok_44 rfl m_wl_44 m_wd9_44 _ _ _ _ _ 4 24 _ rfl (Nat.le_of_ble_eq_true rfl) (s_servedSet (d := 0) hq (fun o S1 h => by obtain ⟨J1, X1, t, v, e1, e2, e3, e4⟩ := hQ o S1 h; exact ⟨J1, X1, t, v, e1, e2, e4, e3⟩)) (by omega) (by omega) (fun o S1 h => ?_)
  obtain ⟨J1, X2, t, v, rfl, hP, rfl, hv0⟩ := h
  refine ⟨_, rfl, ?_⟩
  show Wp 3465 (z_loc i) [.inl t] (m_Ex g T, J1, X2) _ _
  refine hsc _ _ _ _ _ _ (fun h5 h6 hE h7 => ?_)
  obtain ⟨Q2, hq2, hQ2⟩ := hP X2
  rw [← z_scE hx h5 (i + 1) (by omega)] at hq2
  refine hs m_lw_58 m_sl_58 400 [(3710, 6)] [] 3465 _ _ _ _ _ (⟨rfl, ⟨(show -2147483648 ≤ i + 1 ∧ i + 1 ≤ 2147483647 by omega), ⟨z_scr hE h6 (show 0 ≤ i + 1 by omega) (show i + 1 < (L : Int) by omega), ⟨_, _, rfl, z_k148, rfl, rfl, ⟨0, 0, Q2, hq2, Nat.zero_le _, Nat.zero_le _, fun o S2 hS2 h2 => ?_⟩⟩⟩⟩⟩)
  obtain ⟨J2, rfl, rfl, ht, hI2⟩ := hQ2 o S2 h2
  refine ⟨_, _, rfl, z_k148, rfl, rfl, ⟨0, 0, _, p_thrown (d := 11), Nat.zero_le _, Nat.zero_le _, fun o3 S3 _ h3 => ?_⟩⟩
  obtain ⟨rfl, rfl⟩ := h3
  have hK : ∀ b9 s9 : Nat, 4 * n + 300 * x_nn g ≤ b9 → 24 * n + 30000 * x_nn g ≤ s9 → Wp 3710 (z_loc i) [] (m_Ex g T, J2, X2) b9 s9 := fun b9 s9 a9 c9 => K g T J2 X2 b9 s9 hI2 a9 c9
  refine ⟨fun _ => ⟨fun _ => hK _ _ (by omega) (by omega), fun c => ⟨rfl, ⟨⟨_, _, z_k161, by decide⟩, ⟨fun _ => hK _ _ (by omega) (by omega), fun c5 => ?_⟩⟩⟩⟩, fun c => absurd ht c⟩
  refine absurd ?_ c5
  have hv := hv0 c
  show (if v < X2.1 161 0 then (1 : Int) else if X2.1 161 0 = v then 0 else -1) = 0
  rw [hv]; exact z_lc0
set_option maxRecDepth 20000 in
theorem c_law57 (A : z_LC l L xs Wp) (hI : x_I g T J) (h0 : 0 ≤ i) (h1 : i + 6 ≤ L) (hL : L ≤ 3072) (hx : ∀ k : Nat, J 2000000 k = (xs k).toInt) (hJ : (J 2000001 0).toNat = L) (hE : (m_Ex g T)[2000000]? = none) (hS : z_okS (m_Ex g T, J, X)) (hb : 4 * (n + 1) + 300 * x_nn g ≤ bc) (hb2 : 24 * (n + 1) + 30000 * x_nn g ≤ bs) (K : z_LK Wp i n) : Wp 3510 (z_loc i) [] (m_Ex g T, J, X) bc bs := by
  obtain ⟨hs, hw, hsc, -⟩ := A
  obtain ⟨Q1, hq, hQ⟩ := r_runScript (l := l) (d := 0) hI (n := J 2000000 (i + 1)) X
  refine hs m_lw_59 m_sl_59 400 [(3518, 6)] [] 3510 _ _ _ _ _ (⟨rfl, ⟨(show -2147483648 ≤ i + 1 ∧ i + 1 ≤ 2147483647 by omega), ⟨z_scr hE hJ (show 0 ≤ i + 1 by omega) (show i + 1 < (L : Int) by omega), ?_⟩⟩⟩)
  show Wp 3518 (z_loc i) [.inr (.inr (.ref 161)), .inl (J 2000000 (i + 1)), .inr (.inr (.ref 0))] (m_Ex g T, J, X) bc bs
  refine hw m_we_45 3 364 1632 3518 m_wok_45 rfl m_wl_45 m_wd9_45 _ _ _ _ _ 4 24 _ rfl (Nat.le_of_ble_eq_true rfl) (s_runScript (d := 0) hq (fun o S1 h => by obtain ⟨J1, X1, t, v, e1, e2, e3, e4⟩ := hQ o S1 h; exact ⟨J1, X1, t, v, e1, e2, e4, e3⟩)) (by omega) (by omega) (fun o S1 h => ?_)
  obtain ⟨J1, X2, t, v, rfl, hP, rfl, hv0⟩ := h
  refine ⟨_, rfl, ?_⟩
  show Wp 3521 (z_loc i) [.inl t] (m_Ex g T, J1, X2) _ _
  refine hsc _ _ _ _ _ _ (fun h5 h6 hE h7 => ?_)
  obtain ⟨Q2, hq2, hQ2⟩ := hP X2
  rw [← z_scE hx h5 (i + 1) (by omega)] at hq2
  refine hs m_lw_59 m_sl_59 400 [(3710, 6)] [] 3521 _ _ _ _ _ (⟨rfl, ⟨(show -2147483648 ≤ i + 1 ∧ i + 1 ≤ 2147483647 by omega), ⟨z_scr hE h6 (show 0 ≤ i + 1 by omega) (show i + 1 < (L : Int) by omega), ⟨_, _, rfl, z_k148, rfl, rfl, ⟨0, 0, Q2, hq2, Nat.zero_le _, Nat.zero_le _, fun o S2 hS2 h2 => ?_⟩⟩⟩⟩⟩)
  obtain ⟨J2, rfl, rfl, ht, hI2⟩ := hQ2 o S2 h2
  refine ⟨_, _, rfl, z_k148, rfl, rfl, ⟨0, 0, _, p_thrown (d := 11), Nat.zero_le _, Nat.zero_le _, fun o3 S3 _ h3 => ?_⟩⟩
  obtain ⟨rfl, rfl⟩ := h3
  have hK : ∀ b9 s9 : Nat, 4 * n + 300 * x_nn g ≤ b9 → 24 * n + 30000 * x_nn g ≤ s9 → Wp 3710 (z_loc i) [] (m_Ex g T, J2, X2) b9 s9 := fun b9 s9 a9 c9 => K g T J2 X2 b9 s9 hI2 a9 c9
  refine ⟨fun _ => ⟨fun _ => hK _ _ (by omega) (by omega), fun c => ⟨rfl, ⟨⟨_, _, z_k161, by decide⟩, ⟨fun _ => hK _ _ (by omega) (by omega), fun c5 => ?_⟩⟩⟩⟩, fun c => absurd ht c⟩
  refine absurd ?_ c5
  have hv := hv0 c
  show (if v < X2.1 161 0 then (1 : Int) else if X2.1 161 0 = v then 0 else -1) = 0
  rw [hv]; exact z_lc0
set_option maxRecDepth 20000 in
theorem c_law58 (A : z_LC l L xs Wp) (hI : x_I g T J) (h0 : 0 ≤ i) (h1 : i + 6 ≤ L) (hL : L ≤ 3072) (hx : ∀ k : Nat, J 2000000 k = (xs k).toInt) (hJ : (J 2000001 0).toNat = L) (hE : (m_Ex g T)[2000000]? = none) (hS : z_okS (m_Ex g T, J, X)) (hb : 4 * (n + 1) + 300 * x_nn g ≤ bc) (hb2 : 24 * (n + 1) + 30000 * x_nn g ≤ bs) (K : z_LK Wp i n) : Wp 3566 (z_loc i) [] (m_Ex g T, J, X) bc bs := by
  obtain ⟨hs, hw, hsc, -⟩ := A
  obtain ⟨Q1, hq, hQ⟩ := r_scriptLength (l := l) (d := 0) hI   X
  refine hs m_lw_60 m_sl_60 400 [(3570, 6)] [] 3566 _ _ _ _ _ (⟨_, _, rfl, z_k0, rfl, rfl, ⟨4, 24, Q1, hq, by omega, by omega, fun o S1 hS1 hq1 => ?_⟩⟩)
  obtain ⟨g', T', J1, X1, v, rfl, rfl, ⟨m1, m2⟩, Q2, hq2, hQ2⟩ := hQ o S1 hq1
  show Wp 3570 (z_loc i) [.inl v] (m_Ex g' T', J1, X1) _ _
  refine hsc _ _ _ _ _ _ (fun h5 h6 hE h7 => ?_)
  refine hs m_lw_60 m_sl_60 400 [(3710, 6)] [] 3570 _ _ _ _ _ (⟨_, _, rfl, z_k148, rfl, rfl, ⟨0, 0, Q2, hq2, Nat.zero_le _, Nat.zero_le _, fun o S2 hS2 h2 => ?_⟩⟩)
  obtain ⟨J2, X2, rfl, rfl, hI2⟩ := hQ2 o S2 h2
  exact ⟨fun _ => K g' T' J2 X2 _ _ hI2 (by omega) (by omega), fun c => absurd rfl c⟩
set_option maxRecDepth 20000 in
theorem c_law59 (A : z_LC l L xs Wp) (hI : x_I g T J) (h0 : 0 ≤ i) (h1 : i + 6 ≤ L) (hL : L ≤ 3072) (hx : ∀ k : Nat, J 2000000 k = (xs k).toInt) (hJ : (J 2000001 0).toNat = L) (hE : (m_Ex g T)[2000000]? = none) (hS : z_okS (m_Ex g T, J, X)) (hb : 4 * (n + 1) + 300 * x_nn g ≤ bc) (hb2 : 24 * (n + 1) + 30000 * x_nn g ≤ bs) (K : z_LK Wp i n) : Wp 3579 (z_loc i) [] (m_Ex g T, J, X) bc bs := by
  obtain ⟨hs, hw, hsc, -⟩ := A
  obtain ⟨mc, ms, ⟨hmc, hms⟩, hp⟩ := r_saveSnapshot (l := l) (d := 0) hI (x := J 2000000 (i + 1))
  obtain ⟨Q1, hq, hQ⟩ := hp X
  refine hs m_lw_61 m_sl_61 400 [(3589, 6)] [] 3579 _ _ _ _ _ (⟨rfl, ⟨(show -2147483648 ≤ i + 1 ∧ i + 1 ≤ 2147483647 by omega), ⟨z_scr hE hJ (show 0 ≤ i + 1 by omega) (show i + 1 < (L : Int) by omega), ⟨_, _, rfl, z_k0, rfl, rfl, ⟨mc, ms, Q1, hq, by omega, by omega, fun o S1 hS1 hq1 => ?_⟩⟩⟩⟩⟩)
  obtain ⟨g', T', J1, X1, v, rfl, rfl, ⟨m1, m2⟩, Q2, hq2, hQ2⟩ := hQ o S1 hq1
  show Wp 3589 (z_loc i) [.inl v] (m_Ex g' T', J1, X1) _ _
  refine hsc _ _ _ _ _ _ (fun h5 h6 hE h7 => ?_)
  rw [← z_scE hx h5 (i + 1) (by omega)] at hq2
  refine hs m_lw_61 m_sl_61 400 [(3710, 6)] [] 3589 _ _ _ _ _ (⟨rfl, ⟨(show -2147483648 ≤ i + 1 ∧ i + 1 ≤ 2147483647 by omega), ⟨z_scr hE h6 (show 0 ≤ i + 1 by omega) (show i + 1 < (L : Int) by omega), ⟨_, _, rfl, z_k148, rfl, rfl, ⟨0, 0, Q2, hq2, Nat.zero_le _, Nat.zero_le _, fun o S2 hS2 h2 => ?_⟩⟩⟩⟩⟩)
  obtain ⟨J2, X2, rfl, rfl, hI2⟩ := hQ2 o S2 h2
  exact ⟨fun _ => K g' T' J2 X2 _ _ hI2 (by omega) (by omega), fun c => absurd rfl c⟩
set_option maxRecDepth 20000 in
theorem c_law60 (A : z_LC l L xs Wp) (hI : x_I g T J) (h0 : 0 ≤ i) (h1 : i + 6 ≤ L) (hL : L ≤ 3072) (hx : ∀ k : Nat, J 2000000 k = (xs k).toInt) (hJ : (J 2000001 0).toNat = L) (hE : (m_Ex g T)[2000000]? = none) (hS : z_okS (m_Ex g T, J, X)) (hb : 4 * (n + 1) + 300 * x_nn g ≤ bc) (hb2 : 24 * (n + 1) + 30000 * x_nn g ≤ bs) (K : z_LK Wp i n) : Wp 3604 (z_loc i) [] (m_Ex g T, J, X) bc bs := by
  obtain ⟨hs, hw, hsc, -⟩ := A
  obtain ⟨Q1, hq, hQ⟩ := r_restoreSnapshot (l := l) (d := 0) hI (x := J 2000000 (i + 1))  X
  refine hs m_lw_62 m_sl_62 400 [(3614, 6)] [] 3604 _ _ _ _ _ (⟨rfl, ⟨(show -2147483648 ≤ i + 1 ∧ i + 1 ≤ 2147483647 by omega), ⟨z_scr hE hJ (show 0 ≤ i + 1 by omega) (show i + 1 < (L : Int) by omega), ⟨_, _, rfl, z_k0, rfl, rfl, ⟨4, 24, Q1, hq, by omega, by omega, fun o S1 hS1 hq1 => ?_⟩⟩⟩⟩⟩)
  obtain ⟨g', T', J1, X1, v, rfl, rfl, ⟨m1, m2⟩, Q2, hq2, hQ2⟩ := hQ o S1 hq1
  show Wp 3614 (z_loc i) [.inl v] (m_Ex g' T', J1, X1) _ _
  refine hsc _ _ _ _ _ _ (fun h5 h6 hE h7 => ?_)
  rw [← z_scE hx h5 (i + 1) (by omega)] at hq2
  refine hs m_lw_62 m_sl_62 400 [(3710, 6)] [] 3614 _ _ _ _ _ (⟨rfl, ⟨(show -2147483648 ≤ i + 1 ∧ i + 1 ≤ 2147483647 by omega), ⟨z_scr hE h6 (show 0 ≤ i + 1 by omega) (show i + 1 < (L : Int) by omega), ⟨_, _, rfl, z_k148, rfl, rfl, ⟨0, 0, Q2, hq2, Nat.zero_le _, Nat.zero_le _, fun o S2 hS2 h2 => ?_⟩⟩⟩⟩⟩)
  obtain ⟨J2, X2, rfl, rfl, hI2⟩ := hQ2 o S2 h2
  exact ⟨fun _ => K g' T' J2 X2 _ _ hI2 (by omega) (by omega), fun c => absurd rfl c⟩
set_option maxRecDepth 20000 in
theorem c_law61 (A : z_LC l L xs Wp) (hI : x_I g T J) (h0 : 0 ≤ i) (h1 : i + 6 ≤ L) (hL : L ≤ 3072) (hx : ∀ k : Nat, J 2000000 k = (xs k).toInt) (hJ : (J 2000001 0).toNat = L) (hE : (m_Ex g T)[2000000]? = none) (hS : z_okS (m_Ex g T, J, X)) (hb : 4 * (n + 1) + 300 * x_nn g ≤ bc) (hb2 : 24 * (n + 1) + 30000 * x_nn g ≤ bs) (K : z_LK Wp i n) : Wp 3629 (z_loc i) [] (m_Ex g T, J, X) bc bs := by
  obtain ⟨hs, hw, hsc, -⟩ := A
  obtain ⟨Q1, hq, hQ⟩ := r_formatItinerary (l := l) (d := 0) hI (i := J 2000000 (i + 1)) X
  refine hs m_lw_63 m_sl_63 400 [(3637, 6)] [] 3629 _ _ _ _ _ (⟨rfl, ⟨(show -2147483648 ≤ i + 1 ∧ i + 1 ≤ 2147483647 by omega), ⟨z_scr hE hJ (show 0 ≤ i + 1 by omega) (show i + 1 < (L : Int) by omega), ?_⟩⟩⟩)
  show Wp 3637 (z_loc i) [.inr (.inr (.ref 161)), .inl (J 2000000 (i + 1)), .inr (.inr (.ref 0))] (m_Ex g T, J, X) bc bs
  refine hw m_we_46 3 379 1667 3637 m_wok_46 rfl m_wl_46 m_wd9_46 _ _ _ _ _ 4 24 _ rfl (Nat.le_of_ble_eq_true rfl) (s_formatItinerary (d := 0) hq (fun o S1 h => by obtain ⟨J1, X1, t, v, e1, e2, e3, e4⟩ := hQ o S1 h; exact ⟨J1, X1, t, v, e1, e2, e4, e3⟩)) (by omega) (by omega) (fun o S1 h => ?_)
  obtain ⟨J1, X2, t, v, rfl, hP, rfl, hv0⟩ := h
  refine ⟨_, rfl, ?_⟩
  show Wp 3640 (z_loc i) [.inl t] (m_Ex g T, J1, X2) _ _
  refine hsc _ _ _ _ _ _ (fun h5 h6 hE h7 => ?_)
  obtain ⟨Q2, hq2, hQ2⟩ := hP X2
  rw [← z_scE hx h5 (i + 1) (by omega)] at hq2
  refine hs m_lw_63 m_sl_63 400 [(3710, 6)] [] 3640 _ _ _ _ _ (⟨rfl, ⟨(show -2147483648 ≤ i + 1 ∧ i + 1 ≤ 2147483647 by omega), ⟨z_scr hE h6 (show 0 ≤ i + 1 by omega) (show i + 1 < (L : Int) by omega), ⟨_, _, rfl, z_k148, rfl, rfl, ⟨0, 0, Q2, hq2, Nat.zero_le _, Nat.zero_le _, fun o S2 hS2 h2 => ?_⟩⟩⟩⟩⟩)
  obtain ⟨J2, rfl, rfl, ht, hI2⟩ := hQ2 o S2 h2
  refine ⟨_, _, rfl, z_k148, rfl, rfl, ⟨0, 0, _, p_thrown (d := 11), Nat.zero_le _, Nat.zero_le _, fun o3 S3 _ h3 => ?_⟩⟩
  obtain ⟨rfl, rfl⟩ := h3
  have hK : ∀ b9 s9 : Nat, 4 * n + 300 * x_nn g ≤ b9 → 24 * n + 30000 * x_nn g ≤ s9 → Wp 3710 (z_loc i) [] (m_Ex g T, J2, X2) b9 s9 := fun b9 s9 a9 c9 => K g T J2 X2 b9 s9 hI2 a9 c9
  refine ⟨fun _ => ⟨fun _ => hK _ _ (by omega) (by omega), fun c => ⟨rfl, ⟨⟨_, _, z_k161, by decide⟩, ⟨fun _ => hK _ _ (by omega) (by omega), fun c5 => ?_⟩⟩⟩⟩, fun c => absurd ht c⟩
  refine absurd ?_ c5
  have hv := hv0 c
  show (if v < X2.1 161 0 then (1 : Int) else if X2.1 161 0 = v then 0 else -1) = 0
  rw [hv]; exact z_lc0
set_option maxRecDepth 20000 in
theorem c_law62 (A : z_LC l L xs Wp) (hI : x_I g T J) (h0 : 0 ≤ i) (h1 : i + 6 ≤ L) (hL : L ≤ 3072) (hx : ∀ k : Nat, J 2000000 k = (xs k).toInt) (hJ : (J 2000001 0).toNat = L) (hE : (m_Ex g T)[2000000]? = none) (hS : z_okS (m_Ex g T, J, X)) (hb : 4 * (n + 1) + 300 * x_nn g ≤ bc) (hb2 : 24 * (n + 1) + 30000 * x_nn g ≤ bs) (K : z_LK Wp i n) : Wp 3685 (z_loc i) [] (m_Ex g T, J, X) bc bs := by
  obtain ⟨hs, hw, hsc, -⟩ := A
  obtain ⟨Q1, hq, hQ⟩ := r_formattedByte (l := l) (d := 0) hI (x := J 2000000 (i + 1))  X
  refine hs m_lw_64 m_sl_64 400 [(3695, 6)] [] 3685 _ _ _ _ _ (⟨rfl, ⟨(show -2147483648 ≤ i + 1 ∧ i + 1 ≤ 2147483647 by omega), ⟨z_scr hE hJ (show 0 ≤ i + 1 by omega) (show i + 1 < (L : Int) by omega), ⟨_, _, rfl, z_k0, rfl, rfl, ⟨4, 24, Q1, hq, by omega, by omega, fun o S1 hS1 hq1 => ?_⟩⟩⟩⟩⟩)
  obtain ⟨g', T', J1, X1, v, rfl, rfl, ⟨m1, m2⟩, Q2, hq2, hQ2⟩ := hQ o S1 hq1
  show Wp 3695 (z_loc i) [.inl v] (m_Ex g' T', J1, X1) _ _
  refine hsc _ _ _ _ _ _ (fun h5 h6 hE h7 => ?_)
  rw [← z_scE hx h5 (i + 1) (by omega)] at hq2
  refine hs m_lw_64 m_sl_64 400 [(3710, 6)] [] 3695 _ _ _ _ _ (⟨rfl, ⟨(show -2147483648 ≤ i + 1 ∧ i + 1 ≤ 2147483647 by omega), ⟨z_scr hE h6 (show 0 ≤ i + 1 by omega) (show i + 1 < (L : Int) by omega), ⟨_, _, rfl, z_k148, rfl, rfl, ⟨0, 0, Q2, hq2, Nat.zero_le _, Nat.zero_le _, fun o S2 hS2 h2 => ?_⟩⟩⟩⟩⟩)
  obtain ⟨J2, X2, rfl, rfl, hI2⟩ := hQ2 o S2 h2
  exact ⟨fun _ => K g' T' J2 X2 _ _ hI2 (by omega) (by omega), fun c => absurd rfl c⟩
end L2
