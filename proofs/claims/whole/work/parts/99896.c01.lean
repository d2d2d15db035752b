/-! cases of the law -/
section L2
variable {l : Launch} {L n : Nat} {xs : Nat → Int32} {Wp : Nat → z_C} {g : List (Option Nat)} {T : m_E} {J : z_J} {X : z_X} {bc bs : Nat} {i : Int}
set_option maxRecDepth 20000 in
theorem c_law0 (A : z_LC l L xs Wp) (hI : x_I g T J) (h0 : 0 ≤ i) (h1 : i + 6 ≤ L) (hL : L ≤ 3072) (hx : ∀ k : Nat, J 2000000 k = (xs k).toInt) (hJ : (J 2000001 0).toNat = L) (hE : (m_Ex g T)[2000000]? = none) (hS : z_okS (m_Ex g T, J, X)) (hb : 4 * (n + 1) + 300 * x_nn g ≤ bc) (hb2 : 24 * (n + 1) + 30000 * x_nn g ≤ bs) (K : z_LK Wp i n) : Wp 312 (z_loc i) [] (m_Ex g T, J, X) bc bs := by
  obtain ⟨hs, hw, hsc, -⟩ := A
  obtain ⟨Q1, hq, hQ⟩ := r_appendInput (l := l) (d := 0) hI (x1 := J 2000000 (i + 1)) (x2 := J 2000000 (i + 2)) (x3 := J 2000000 (i + 3)) (x4 := J 2000000 (i + 4)) (x5 := J 2000000 (i + 5)) (hS 2000000 (i + 1)).1 (hS 2000000 (i + 2)).1 (hS 2000000 (i + 3)).1 (hS 2000000 (i + 4)).1 (hS 2000000 (i + 5)).1 X
  refine hs m_lw_2 m_sl_2 400 [(346, 6)] [] 312 _ _ _ _ _ (⟨rfl, ⟨(show -2147483648 ≤ i + 1 ∧ i + 1 ≤ 2147483647 by omega), ⟨z_scr hE hJ (show 0 ≤ i + 1 by omega) (show i + 1 < (L : Int) by omega), ⟨rfl, ⟨(show -2147483648 ≤ i + 2 ∧ i + 2 ≤ 2147483647 by omega), ⟨z_scr hE hJ (show 0 ≤ i + 2 by omega) (show i + 2 < (L : Int) by omega), ⟨rfl, ⟨(show -2147483648 ≤ i + 3 ∧ i + 3 ≤ 2147483647 by omega), ⟨z_scr hE hJ (show 0 ≤ i + 3 by omega) (show i + 3 < (L : Int) by omega), ⟨rfl, ⟨(show -2147483648 ≤ i + 4 ∧ i + 4 ≤ 2147483647 by omega), ⟨z_scr hE hJ (show 0 ≤ i + 4 by omega) (show i + 4 < (L : Int) by omega), ⟨rfl, ⟨(show -2147483648 ≤ i + 5 ∧ i + 5 ≤ 2147483647 by omega), ⟨z_scr hE hJ (show 0 ≤ i + 5 by omega) (show i + 5 < (L : Int) by omega), ⟨_, _, rfl, z_k0, rfl, rfl, ⟨4, 24, Q1, hq, by omega, by omega, fun o S1 hS1 hq1 => ?_⟩⟩⟩⟩⟩⟩⟩⟩⟩⟩⟩⟩⟩⟩⟩⟩⟩)
  obtain ⟨g', T', J1, X1, v, rfl, rfl, ⟨m1, m2⟩, Q2, hq2, hQ2⟩ := hQ o S1 hq1
  show Wp 346 (z_loc i) [.inl v] (m_Ex g' T', J1, X1) _ _
  refine hsc _ _ _ _ _ _ (fun h5 h6 hE h7 => ?_)
  rw [← z_scE hx h5 (i + 1) (by omega)] at hq2
  rw [← z_scE hx h5 (i + 2) (by omega)] at hq2
  rw [← z_scE hx h5 (i + 3) (by omega)] at hq2
  rw [← z_scE hx h5 (i + 4) (by omega)] at hq2
  rw [← z_scE hx h5 (i + 5) (by omega)] at hq2
  refine hs m_lw_2 m_sl_2 400 [(3710, 6)] [] 346 _ _ _ _ _ (⟨rfl, ⟨(show -2147483648 ≤ i + 1 ∧ i + 1 ≤ 2147483647 by omega), ⟨z_scr hE h6 (show 0 ≤ i + 1 by omega) (show i + 1 < (L : Int) by omega), ⟨rfl, ⟨(show -2147483648 ≤ i + 2 ∧ i + 2 ≤ 2147483647 by omega), ⟨z_scr hE h6 (show 0 ≤ i + 2 by omega) (show i + 2 < (L : Int) by omega), ⟨rfl, ⟨(show -2147483648 ≤ i + 3 ∧ i + 3 ≤ 2147483647 by omega), ⟨z_scr hE h6 (show 0 ≤ i + 3 by omega) (show i + 3 < (L : Int) by omega), ⟨rfl, ⟨(show -2147483648 ≤ i + 4 ∧ i + 4 ≤ 2147483647 by omega), ⟨z_scr hE h6 (show 0 ≤ i + 4 by omega) (show i + 4 < (L : Int) by omega), ⟨rfl, ⟨(show -2147483648 ≤ i + 5 ∧ i + 5 ≤ 2147483647 by omega), ⟨z_scr hE h6 (show 0 ≤ i + 5 by omega) (show i + 5 < (L : Int) by omega), ⟨_, _, rfl, z_k148, rfl, rfl, ⟨0, 0, Q2, hq2, Nat.zero_le _, Nat.zero_le _, fun o S2 hS2 h2 => ?_⟩⟩⟩⟩⟩⟩⟩⟩⟩⟩⟩⟩⟩⟩⟩⟩⟩)
  obtain ⟨J2, X2, rfl, rfl, hI2⟩ := hQ2 o S2 h2
  exact ⟨fun _ => K g' T' J2 X2 _ _ hI2 (by omega) (by omega), fun c => absurd rfl c⟩
set_option maxRecDepth 20000 in
theorem c_law1 (A : z_LC l L xs Wp) (hI : x_I g T J) (h0 : 0 ≤ i) (h1 : i + 6 ≤ L) (hL : L ≤ 3072) (hx : ∀ k : Nat, J 2000000 k = (xs k).toInt) (hJ : (J 2000001 0).toNat = L) (hE : (m_Ex g T)[2000000]? = none) (hS : z_okS (m_Ex g T, J, X)) (hb : 4 * (n + 1) + 300 * x_nn g ≤ bc) (hb2 : 24 * (n + 1) + 30000 * x_nn g ≤ bs) (K : z_LK Wp i n) : Wp 385 (z_loc i) [] (m_Ex g T, J, X) bc bs := by
  obtain ⟨hs, hw, hsc, -⟩ := A
  obtain ⟨Q1, hq, hQ⟩ := r_truncateInput (l := l) (d := 0) hI (x := J 2000000 (i + 1))  X
  refine hs m_lw_3 m_sl_3 400 [(395, 6)] [] 385 _ _ _ _ _ (⟨rfl, ⟨(show -2147483648 ≤ i + 1 ∧ i + 1 ≤ 2147483647 by omega), ⟨z_scr hE hJ (show 0 ≤ i + 1 by omega) (show i + 1 < (L : Int) by omega), ⟨_, _, rfl, z_k0, rfl, rfl, ⟨4, 24, Q1, hq, by omega, by omega, fun o S1 hS1 hq1 => ?_⟩⟩⟩⟩⟩)
  obtain ⟨g', T', J1, X1, v, rfl, rfl, ⟨m1, m2⟩, Q2, hq2, hQ2⟩ := hQ o S1 hq1
  show Wp 395 (z_loc i) [.inl v] (m_Ex g' T', J1, X1) _ _
  refine hsc _ _ _ _ _ _ (fun h5 h6 hE h7 => ?_)
  rw [← z_scE hx h5 (i + 1) (by omega)] at hq2
  refine hs m_lw_3 m_sl_3 400 [(3710, 6)] [] 395 _ _ _ _ _ (⟨rfl, ⟨(show -2147483648 ≤ i + 1 ∧ i + 1 ≤ 2147483647 by omega), ⟨z_scr hE h6 (show 0 ≤ i + 1 by omega) (show i + 1 < (L : Int) by omega), ⟨_, _, rfl, z_k148, rfl, rfl, ⟨0, 0, Q2, hq2, Nat.zero_le _, Nat.zero_le _, fun o S2 hS2 h2 => ?_⟩⟩⟩⟩⟩)
  obtain ⟨J2, X2, rfl, rfl, hI2⟩ := hQ2 o S2 h2
  exact ⟨fun _ => K g' T' J2 X2 _ _ hI2 (by omega) (by omega), fun c => absurd rfl c⟩
set_option maxRecDepth 20000 in
theorem c_law2 (A : z_LC l L xs Wp) (hI : x_I g T J) (h0 : 0 ≤ i) (h1 : i + 6 ≤ L) (hL : L ≤ 3072) (hx : ∀ k : Nat, J 2000000 k = (xs k).toInt) (hJ : (J 2000001 0).toNat = L) (hE : (m_Ex g T)[2000000]? = none) (hS : z_okS (m_Ex g T, J, X)) (hb : 4 * (n + 1) + 300 * x_nn g ≤ bc) (hb2 : 24 * (n + 1) + 30000 * x_nn g ≤ bs) (K : z_LK Wp i n) : Wp 410 (z_loc i) [] (m_Ex g T, J, X) bc bs := by
  obtain ⟨hs, hw, hsc, -⟩ := A
  obtain ⟨Q1, hq, hQ⟩ := r_loadPark (l := l) (d := 0) hI   X
  refine hs m_lw_4 m_sl_4 400 [(414, 6)] [] 410 _ _ _ _ _ (⟨_, _, rfl, z_k0, rfl, rfl, ⟨0, 0, Q1, hq, by omega, by omega, fun o S1 hS1 hq1 => ?_⟩⟩)
  obtain ⟨g', T', J1, X1, v, rfl, rfl, ⟨m1, m2⟩, Q2, hq2, hQ2⟩ := hQ o S1 hq1
  show Wp 414 (z_loc i) [.inl v] (m_Ex g' T', J1, X1) _ _
  refine hsc _ _ _ _ _ _ (fun h5 h6 hE h7 => ?_)
  refine hs m_lw_4 m_sl_4 400 [(3710, 6)] [] 414 _ _ _ _ _ (⟨_, _, rfl, z_k148, rfl, rfl, ⟨0, 0, Q2, hq2, Nat.zero_le _, Nat.zero_le _, fun o S2 hS2 h2 => ?_⟩⟩)
  obtain ⟨J2, X2, rfl, rfl, hI2⟩ := hQ2 o S2 h2
  exact ⟨fun _ => K g' T' J2 X2 _ _ hI2 (by omega) (by omega), fun c => absurd rfl c⟩
set_option maxRecDepth 20000 in
theorem c_law3 (A : z_LC l L xs Wp) (hI : x_I g T J) (h0 : 0 ≤ i) (h1 : i + 6 ≤ L) (hL : L ≤ 3072) (hx : ∀ k : Nat, J 2000000 k = (xs k).toInt) (hJ : (J 2000001 0).toNat = L) (hE : (m_Ex g T)[2000000]? = none) (hS : z_okS (m_Ex g T, J, X)) (hb : 4 * (n + 1) + 300 * x_nn g ≤ bc) (hb2 : 24 * (n + 1) + 30000 * x_nn g ≤ bs) (K : z_LK Wp i n) : Wp 423 (z_loc i) [] (m_Ex g T, J, X) bc bs := by
  obtain ⟨hs, hw, hsc, -⟩ := A
  obtain ⟨Q1, hq, hQ⟩ := r_loadScript (l := l) (d := 0) hI   X
  refine hs m_lw_5 m_sl_5 400 [(427, 6)] [] 423 _ _ _ _ _ (⟨_, _, rfl, z_k0, rfl, rfl, ⟨0, 0, Q1, hq, by omega, by omega, fun o S1 hS1 hq1 => ?_⟩⟩)
  obtain ⟨g', T', J1, X1, v, rfl, rfl, ⟨m1, m2⟩, Q2, hq2, hQ2⟩ := hQ o S1 hq1
  show Wp 427 (z_loc i) [.inl v] (m_Ex g' T', J1, X1) _ _
  refine hsc _ _ _ _ _ _ (fun h5 h6 hE h7 => ?_)
  refine hs m_lw_5 m_sl_5 400 [(3710, 6)] [] 427 _ _ _ _ _ (⟨_, _, rfl, z_k148, rfl, rfl, ⟨0, 0, Q2, hq2, Nat.zero_le _, Nat.zero_le _, fun o S2 hS2 h2 => ?_⟩⟩)
  obtain ⟨J2, X2, rfl, rfl, hI2⟩ := hQ2 o S2 h2
  exact ⟨fun _ => K g' T' J2 X2 _ _ hI2 (by omega) (by omega), fun c => absurd rfl c⟩
set_option maxRecDepth 20000 in
theorem c_law4 (A : z_LC l L xs Wp) (hI : x_I g T J) (h0 : 0 ≤ i) (h1 : i + 6 ≤ L) (hL : L ≤ 3072) (hx : ∀ k : Nat, J 2000000 k = (xs k).toInt) (hJ : (J 2000001 0).toNat = L) (hE : (m_Ex g T)[2000000]? = none) (hS : z_okS (m_Ex g T, J, X)) (hb : 4 * (n + 1) + 300 * x_nn g ≤ bc) (hb2 : 24 * (n + 1) + 30000 * x_nn g ≤ bs) (K : z_LK Wp i n) : Wp 436 (z_loc i) [] (m_Ex g T, J, X) bc bs := by
  obtain ⟨hs, hw, hsc, -⟩ := A
  obtain ⟨Q1, hq, hQ⟩ := r_errorCode (l := l) (d := 0) hI   X
  refine hs m_lw_6 m_sl_6 400 [(440, 6)] [] 436 _ _ _ _ _ (⟨_, _, rfl, z_k0, rfl, rfl, ⟨4, 24, Q1, hq, by omega, by omega, fun o S1 hS1 hq1 => ?_⟩⟩)
  obtain ⟨g', T', J1, X1, v, rfl, rfl, ⟨m1, m2⟩, Q2, hq2, hQ2⟩ := hQ o S1 hq1
  show Wp 440 (z_loc i) [.inl v] (m_Ex g' T', J1, X1) _ _
  refine hsc _ _ _ _ _ _ (fun h5 h6 hE h7 => ?_)
  refine hs m_lw_6 m_sl_6 400 [(3710, 6)] [] 440 _ _ _ _ _ (⟨_, _, rfl, z_k148, rfl, rfl, ⟨0, 0, Q2, hq2, Nat.zero_le _, Nat.zero_le _, fun o S2 hS2 h2 => ?_⟩⟩)
  obtain ⟨J2, X2, rfl, rfl, hI2⟩ := hQ2 o S2 h2
  exact ⟨fun _ => K g' T' J2 X2 _ _ hI2 (by omega) (by omega), fun c => absurd rfl c⟩
set_option maxRecDepth 20000 in
theorem c_law5 (A : z_LC l L xs Wp) (hI : x_I g T J) (h0 : 0 ≤ i) (h1 : i + 6 ≤ L) (hL : L ≤ 3072) (hx : ∀ k : Nat, J 2000000 k = (xs k).toInt) (hJ : (J 2000001 0).toNat = L) (hE : (m_Ex g T)[2000000]? = none) (hS : z_okS (m_Ex g T, J, X)) (hb : 4 * (n + 1) + 300 * x_nn g ≤ bc) (hb2 : 24 * (n + 1) + 30000 * x_nn g ≤ bs) (K : z_LK Wp i n) : Wp 449 (z_loc i) [] (m_Ex g T, J, X) bc bs := by
  obtain ⟨hs, hw, hsc, -⟩ := A
  obtain ⟨Q1, hq, hQ⟩ := r_errorPosition (l := l) (d := 0) hI   X
  refine hs m_lw_7 m_sl_7 400 [(453, 6)] [] 449 _ _ _ _ _ (⟨_, _, rfl, z_k0, rfl, rfl, ⟨4, 24, Q1, hq, by omega, by omega, fun o S1 hS1 hq1 => ?_⟩⟩)
  obtain ⟨g', T', J1, X1, v, rfl, rfl, ⟨m1, m2⟩, Q2, hq2, hQ2⟩ := hQ o S1 hq1
  show Wp 453 (z_loc i) [.inl v] (m_Ex g' T', J1, X1) _ _
  refine hsc _ _ _ _ _ _ (fun h5 h6 hE h7 => ?_)
  refine hs m_lw_7 m_sl_7 400 [(3710, 6)] [] 453 _ _ _ _ _ (⟨_, _, rfl, z_k148, rfl, rfl, ⟨0, 0, Q2, hq2, Nat.zero_le _, Nat.zero_le _, fun o S2 hS2 h2 => ?_⟩⟩)
  obtain ⟨J2, X2, rfl, rfl, hI2⟩ := hQ2 o S2 h2
  exact ⟨fun _ => K g' T' J2 X2 _ _ hI2 (by omega) (by omega), fun c => absurd rfl c⟩
set_option maxRecDepth 20000 in
theorem c_law6 (A : z_LC l L xs Wp) (hI : x_I g T J) (h0 : 0 ≤ i) (h1 : i + 6 ≤ L) (hL : L ≤ 3072) (hx : ∀ k : Nat, J 2000000 k = (xs k).toInt) (hJ : (J 2000001 0).toNat = L) (hE : (m_Ex g T)[2000000]? = none) (hS : z_okS (m_Ex g T, J, X)) (hb : 4 * (n + 1) + 300 * x_nn g ≤ bc) (hb2 : 24 * (n + 1) + 30000 * x_nn g ≤ bs) (K : z_LK Wp i n) : Wp 462 (z_loc i) [] (m_Ex g T, J, X) bc bs := by
  obtain ⟨hs, hw, hsc, -⟩ := A
  obtain ⟨Q1, hq, hQ⟩ := r_rideCount (l := l) (d := 0) hI   X
  refine hs m_lw_8 m_sl_8 400 [(466, 6)] [] 462 _ _ _ _ _ (⟨_, _, rfl, z_k0, rfl, rfl, ⟨4, 24, Q1, hq, by omega, by omega, fun o S1 hS1 hq1 => ?_⟩⟩)
  obtain ⟨g', T', J1, X1, v, rfl, rfl, ⟨m1, m2⟩, Q2, hq2, hQ2⟩ := hQ o S1 hq1
  show Wp 466 (z_loc i) [.inl v] (m_Ex g' T', J1, X1) _ _
  refine hsc _ _ _ _ _ _ (fun h5 h6 hE h7 => ?_)
  refine hs m_lw_8 m_sl_8 400 [(3710, 6)] [] 466 _ _ _ _ _ (⟨_, _, rfl, z_k148, rfl, rfl, ⟨0, 0, Q2, hq2, Nat.zero_le _, Nat.zero_le _, fun o S2 hS2 h2 => ?_⟩⟩)
  obtain ⟨J2, X2, rfl, rfl, hI2⟩ := hQ2 o S2 h2
  exact ⟨fun _ => K g' T' J2 X2 _ _ hI2 (by omega) (by omega), fun c => absurd rfl c⟩
set_option maxRecDepth 20000 in
theorem c_law7 (A : z_LC l L xs Wp) (hI : x_I g T J) (h0 : 0 ≤ i) (h1 : i + 6 ≤ L) (hL : L ≤ 3072) (hx : ∀ k : Nat, J 2000000 k = (xs k).toInt) (hJ : (J 2000001 0).toNat = L) (hE : (m_Ex g T)[2000000]? = none) (hS : z_okS (m_Ex g T, J, X)) (hb : 4 * (n + 1) + 300 * x_nn g ≤ bc) (hb2 : 24 * (n + 1) + 30000 * x_nn g ≤ bs) (K : z_LK Wp i n) : Wp 475 (z_loc i) [] (m_Ex g T, J, X) bc bs := by
  obtain ⟨hs, hw, hsc, -⟩ := A
  obtain ⟨Q1, hq, hQ⟩ := r_tierCount (l := l) (d := 0) hI   X
  refine hs m_lw_9 m_sl_9 400 [(479, 6)] [] 475 _ _ _ _ _ (⟨_, _, rfl, z_k0, rfl, rfl, ⟨4, 24, Q1, hq, by omega, by omega, fun o S1 hS1 hq1 => ?_⟩⟩)
  obtain ⟨g', T', J1, X1, v, rfl, rfl, ⟨m1, m2⟩, Q2, hq2, hQ2⟩ := hQ o S1 hq1
  show Wp 479 (z_loc i) [.inl v] (m_Ex g' T', J1, X1) _ _
  refine hsc _ _ _ _ _ _ (fun h5 h6 hE h7 => ?_)
  refine hs m_lw_9 m_sl_9 400 [(3710, 6)] [] 479 _ _ _ _ _ (⟨_, _, rfl, z_k148, rfl, rfl, ⟨0, 0, Q2, hq2, Nat.zero_le _, Nat.zero_le _, fun o S2 hS2 h2 => ?_⟩⟩)
  obtain ⟨J2, X2, rfl, rfl, hI2⟩ := hQ2 o S2 h2
  exact ⟨fun _ => K g' T' J2 X2 _ _ hI2 (by omega) (by omega), fun c => absurd rfl c⟩
end L2
