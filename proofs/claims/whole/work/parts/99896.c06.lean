/-! cases of the law -/
section L2
variable {l : Launch} {L n : Nat} {xs : Nat → Int32} {Wp : Nat → z_C} {g : List (Option Nat)} {T : m_E} {J : z_J} {X : z_X} {bc bs : Nat} {i : Int}
set_option maxRecDepth 20000 in
theorem c_law40 (A : z_LC l L xs Wp) (hI : x_I g T J) (h0 : 0 ≤ i) (h1 : i + 6 ≤ L) (hL : L ≤ 3072) (hx : ∀ k : Nat, J 2000000 k = (xs k).toInt) (hJ : (J 2000001 0).toNat = L) (hE : (m_Ex g T)[2000000]? = none) (hS : z_okS (m_Ex g T, J, X)) (hb : 4 * (n + 1) + 300 * x_nn g ≤ bc) (hb2 : 24 * (n + 1) + 30000 * x_nn g ≤ bs) (K : z_LK Wp i n) : Wp 2419 (z_loc i) [] (m_Ex g T, J, X) bc bs := by
  obtain ⟨hs, hw, hsc, -⟩ := A
  obtain ⟨Q1, hq, hQ⟩ := r_breakDown (l := l) (d := 0) hI (r := J 2000000 (i + 1)) X
  refine hs m_lw_42 m_sl_42 400 [(2427, 6)] [] 2419 _ _ _ _ _ (⟨rfl, ⟨(show -2147483648 ≤ i + 1 ∧ i + 1 ≤ 2147483647 by omega), ⟨z_scr hE hJ (show 0 ≤ i + 1 by omega) (show i + 1 < (L : Int) by omega), ?_⟩⟩⟩)
  show Wp 2427 (z_loc i) [.inr (.inr (.ref 161)), .inl (J 2000000 (i + 1)), .inr (.inr (.ref 0))] (m_Ex g T, J, X) bc bs
  refine hw m_we_29 3 310 1403 2427 m_wok_29 rfl m_wl_29 m_wd9_29 _ _ _ _ _ 4 24 _ rfl (Nat.le_of_ble_eq_true rfl) (s_breakDown (d := 0) hq (fun o S1 h => by obtain ⟨J1, X1, t, v, e1, e2, e3, e4⟩ := hQ o S1 h; exact ⟨J1, X1, t, v, e1, e2, e4, e3⟩)) (by omega) (by omega) (fun o S1 h => ?_)
  obtain ⟨J1, X2, t, v, rfl, hP, rfl, hv0⟩ := h
  refine ⟨_, rfl, ?_⟩
  show Wp 2430 (z_loc i) [.inl t] (m_Ex g T, J1, X2) _ _
  refine hsc _ _ _ _ _ _ (fun h5 h6 hE h7 => ?_)
  obtain ⟨Q2, hq2, hQ2⟩ := hP X2
  rw [← z_scE hx h5 (i + 1) (by omega)] at hq2
  refine hs m_lw_42 m_sl_42 400 [(3710, 6)] [] 2430 _ _ _ _ _ (⟨rfl, ⟨(show -2147483648 ≤ i + 1 ∧ i + 1 ≤ 2147483647 by omega), ⟨z_scr hE h6 (show 0 ≤ i + 1 by omega) (show i + 1 < (L : Int) by omega), ⟨_, _, rfl, z_k148, rfl, rfl, ⟨0, 0, Q2, hq2, Nat.zero_le _, Nat.zero_le _, fun o S2 hS2 h2 => ?_⟩⟩⟩⟩⟩)
  obtain ⟨J2, rfl, rfl, ht, hI2⟩ := hQ2 o S2 h2
  refine ⟨_, _, rfl, z_k148, rfl, rfl, ⟨0, 0, _, p_thrown (d := 11), Nat.zero_le _, Nat.zero_le _, fun o3 S3 _ h3 => ?_⟩⟩
  obtain ⟨rfl, rfl⟩ := h3
  have hK : ∀ b9 s9 : Nat, 4 * n + 300 * x_nn g ≤ b9 → 24 * n + 30000 * x_nn g ≤ s9 → Wp 3710 (z_loc i) [] (m_Ex g T, J2, X2) b9 s9 := fun b9 s9 a9 c9 => K g T J2 X2 b9 s9 hI2 a9 c9
  refine ⟨fun _ => ⟨fun _ => hK _ _ (by omega) (by omega), fun c => ⟨rfl, ⟨⟨_, _, z_k161, by decide⟩, ⟨fun c4 => ⟨fun _ => hK _ _ (by omega) (by omega), fun c5 => ?_⟩, fun c4 => ⟨fun _ => hK _ _ (by omega) (by omega), fun c5 => ?_⟩⟩⟩⟩⟩, fun c => absurd ht c⟩
  · refine absurd ?_ c5
    have hv := hv0 c
    rw [if_pos c4] at hv
    show (if (0 : Int) < X2.1 161 0 then (1 : Int) else if X2.1 161 0 = 0 then 0 else -1) = 0
    rw [hv]; exact z_lc0
  · refine absurd ?_ c5
    have hv := hv0 c
    rw [if_neg c4] at hv
    show (if (1 : Int) < X2.1 161 0 then (1 : Int) else if X2.1 161 0 = 1 then 0 else -1) = 0
    rw [hv]; exact z_lc0
set_option maxRecDepth 20000 in
theorem c_law41 (A : z_LC l L xs Wp) (hI : x_I g T J) (h0 : 0 ≤ i) (h1 : i + 6 ≤ L) (hL : L ≤ 3072) (hx : ∀ k : Nat, J 2000000 k = (xs k).toInt) (hJ : (J 2000001 0).toNat = L) (hE : (m_Ex g T)[2000000]? = none) (hS : z_okS (m_Ex g T, J, X)) (hb : 4 * (n + 1) + 300 * x_nn g ≤ bc) (hb2 : 24 * (n + 1) + 30000 * x_nn g ≤ bs) (K : z_LK Wp i n) : Wp 2482 (z_loc i) [] (m_Ex g T, J, X) bc bs := by
  obtain ⟨hs, hw, hsc, -⟩ := A
  obtain ⟨Q1, hq, hQ⟩ := r_repair (l := l) (d := 0) hI (r := J 2000000 (i + 1)) X
  refine hs m_lw_43 m_sl_43 400 [(2490, 6)] [] 2482 _ _ _ _ _ (⟨rfl, ⟨(show -2147483648 ≤ i + 1 ∧ i + 1 ≤ 2147483647 by omega), ⟨z_scr hE hJ (show 0 ≤ i + 1 by omega) (show i + 1 < (L : Int) by omega), ?_⟩⟩⟩)
  show Wp 2490 (z_loc i) [.inr (.inr (.ref 161)), .inl (J 2000000 (i + 1)), .inr (.inr (.ref 0))] (m_Ex g T, J, X) bc bs
  refine hw m_we_30 3 313 1414 2490 m_wok_30 rfl m_wl_30 m_wd9_30 _ _ _ _ _ 4 24 _ rfl (Nat.le_of_ble_eq_true rfl) (s_repair (d := 0) hq (fun o S1 h => by obtain ⟨J1, X1, t, v, e1, e2, e3, e4⟩ := hQ o S1 h; exact ⟨J1, X1, t, v, e1, e2, e4, e3⟩)) (by omega) (by omega) (fun o S1 h => ?_)
  obtain ⟨J1, X2, t, v, rfl, hP, rfl, hv0⟩ := h
  refine ⟨_, rfl, ?_⟩
  show Wp 2493 (z_loc i) [.inl t] (m_Ex g T, J1, X2) _ _
  refine hsc _ _ _ _ _ _ (fun h5 h6 hE h7 => ?_)
  obtain ⟨Q2, hq2, hQ2⟩ := hP X2
  rw [← z_scE hx h5 (i + 1) (by omega)] at hq2
  refine hs m_lw_43 m_sl_43 400 [(3710, 6)] [] 2493 _ _ _ _ _ (⟨rfl, ⟨(show -2147483648 ≤ i + 1 ∧ i + 1 ≤ 2147483647 by omega), ⟨z_scr hE h6 (show 0 ≤ i + 1 by omega) (show i + 1 < (L : Int) by omega), ⟨_, _, rfl, z_k148, rfl, rfl, ⟨0, 0, Q2, hq2, Nat.zero_le _, Nat.zero_le _, fun o S2 hS2 h2 => ?_⟩⟩⟩⟩⟩)
  obtain ⟨J2, rfl, rfl, ht, hI2⟩ := hQ2 o S2 h2
  refine ⟨_, _, rfl, z_k148, rfl, rfl, ⟨0, 0, _, p_thrown (d := 11), Nat.zero_le _, Nat.zero_le _, fun o3 S3 _ h3 => ?_⟩⟩
  obtain ⟨rfl, rfl⟩ := h3
  have hK : ∀ b9 s9 : Nat, 4 * n + 300 * x_nn g ≤ b9 → 24 * n + 30000 * x_nn g ≤ s9 → Wp 3710 (z_loc i) [] (m_Ex g T, J2, X2) b9 s9 := fun b9 s9 a9 c9 => K g T J2 X2 b9 s9 hI2 a9 c9
  refine ⟨fun _ => ⟨fun _ => hK _ _ (by omega) (by omega), fun c => ⟨rfl, ⟨⟨_, _, z_k161, by decide⟩, ⟨fun _ => hK _ _ (by omega) (by omega), fun c5 => ?_⟩⟩⟩⟩, fun c => absurd ht c⟩
  refine absurd ?_ c5
  have hv := hv0 c
  show (if v < X2.1 161 0 then (1 : Int) else if X2.1 161 0 = v then 0 else -1) = 0
  rw [hv]; exact z_lc0
set_option maxRecDepth 20000 in
theorem c_law42 (A : z_LC l L xs Wp) (hI : x_I g T J) (h0 : 0 ≤ i) (h1 : i + 6 ≤ L) (hL : L ≤ 3072) (hx : ∀ k : Nat, J 2000000 k = (xs k).toInt) (hJ : (J 2000001 0).toNat = L) (hE : (m_Ex g T)[2000000]? = none) (hS : z_okS (m_Ex g T, J, X)) (hb : 4 * (n + 1) + 300 * x_nn g ≤ bc) (hb2 : 24 * (n + 1) + 30000 * x_nn g ≤ bs) (K : z_LK Wp i n) : Wp 2538 (z_loc i) [] (m_Ex g T, J, X) bc bs := by
  obtain ⟨hs, hw, hsc, -⟩ := A
  obtain ⟨Q1, hq, hQ⟩ := r_setShare (l := l) (d := 0) hI (r := J 2000000 (i + 1)) (sh := J 2000000 (i + 2)) X
  refine hs m_lw_44 m_sl_44 400 [(2552, 6)] [] 2538 _ _ _ _ _ (⟨rfl, ⟨(show -2147483648 ≤ i + 1 ∧ i + 1 ≤ 2147483647 by omega), ⟨z_scr hE hJ (show 0 ≤ i + 1 by omega) (show i + 1 < (L : Int) by omega), ⟨rfl, ⟨(show -2147483648 ≤ i + 2 ∧ i + 2 ≤ 2147483647 by omega), ⟨z_scr hE hJ (show 0 ≤ i + 2 by omega) (show i + 2 < (L : Int) by omega), ?_⟩⟩⟩⟩⟩⟩)
  show Wp 2552 (z_loc i) [.inr (.inr (.ref 161)), .inl (J 2000000 (i + 2)), .inl (J 2000000 (i + 1)), .inr (.inr (.ref 0))] (m_Ex g T, J, X) bc bs
  refine hw m_we_31 4 316 1425 2552 m_wok_31 rfl m_wl_31 m_wd9_31 _ _ _ _ _ 4 24 _ rfl (Nat.le_of_ble_eq_true rfl) (s_setShare (d := 0) hq (fun o S1 h => by obtain ⟨J1, X1, t, v, e1, e2, e3, e4⟩ := hQ o S1 h; exact ⟨J1, X1, t, v, e1, e2, e4⟩)) (by omega) (by omega) (fun o S1 h => ?_)
  obtain ⟨J1, X2, t, v, rfl, hP, rfl, hv0⟩ := h
  refine ⟨_, rfl, ?_⟩
  show Wp 2555 (z_loc i) [.inl t] (m_Ex g T, J1, X2) _ _
  refine hsc _ _ _ _ _ _ (fun h5 h6 hE h7 => ?_)
  obtain ⟨Q2, hq2, hQ2⟩ := hP X2
  rw [← z_scE hx h5 (i + 1) (by omega)] at hq2
  rw [← z_scE hx h5 (i + 2) (by omega)] at hq2
  refine hs m_lw_44 m_sl_44 400 [(3710, 6)] [] 2555 _ _ _ _ _ (⟨rfl, ⟨(show -2147483648 ≤ i + 1 ∧ i + 1 ≤ 2147483647 by omega), ⟨z_scr hE h6 (show 0 ≤ i + 1 by omega) (show i + 1 < (L : Int) by omega), ⟨rfl, ⟨(show -2147483648 ≤ i + 2 ∧ i + 2 ≤ 2147483647 by omega), ⟨z_scr hE h6 (show 0 ≤ i + 2 by omega) (show i + 2 < (L : Int) by omega), ⟨_, _, rfl, z_k148, rfl, rfl, ⟨0, 0, Q2, hq2, Nat.zero_le _, Nat.zero_le _, fun o S2 hS2 h2 => ?_⟩⟩⟩⟩⟩⟩⟩⟩)
  obtain ⟨J2, rfl, rfl, ht, hI2⟩ := hQ2 o S2 h2
  refine ⟨_, _, rfl, z_k148, rfl, rfl, ⟨0, 0, _, p_thrown (d := 11), Nat.zero_le _, Nat.zero_le _, fun o3 S3 _ h3 => ?_⟩⟩
  obtain ⟨rfl, rfl⟩ := h3
  have hK : ∀ b9 s9 : Nat, 4 * n + 300 * x_nn g ≤ b9 → 24 * n + 30000 * x_nn g ≤ s9 → Wp 3710 (z_loc i) [] (m_Ex g T, J2, X2) b9 s9 := fun b9 s9 a9 c9 => K g T J2 X2 b9 s9 hI2 a9 c9
  refine ⟨fun _ => ⟨fun _ => hK _ _ (by omega) (by omega), fun c => ⟨rfl, ⟨⟨_, _, z_k161, by decide⟩, ⟨fun _ => hK _ _ (by omega) (by omega), fun c5 => ?_⟩⟩⟩⟩, fun c => absurd ht c⟩
  refine absurd ?_ c5
  have hv := hv0 c
  show (if v < X2.1 161 0 then (1 : Int) else if X2.1 161 0 = v then 0 else -1) = 0
  rw [hv]; exact z_lc0
set_option maxRecDepth 20000 in
theorem c_law43 (A : z_LC l L xs Wp) (hI : x_I g T J) (h0 : 0 ≤ i) (h1 : i + 6 ≤ L) (hL : L ≤ 3072) (hx : ∀ k : Nat, J 2000000 k = (xs k).toInt) (hJ : (J 2000001 0).toNat = L) (hE : (m_Ex g T)[2000000]? = none) (hS : z_okS (m_Ex g T, J, X)) (hb : 4 * (n + 1) + 300 * x_nn g ≤ bc) (hb2 : 24 * (n + 1) + 30000 * x_nn g ≤ bs) (K : z_LK Wp i n) : Wp 2606 (z_loc i) [] (m_Ex g T, J, X) bc bs := by
  obtain ⟨hs, hw, hsc, -⟩ := A
  obtain ⟨Q1, hq, hQ⟩ := r_setExtensionLimit (l := l) (d := 0) hI (x := J 2000000 (i + 1))  X
  refine hs m_lw_45 m_sl_45 400 [(2616, 6)] [] 2606 _ _ _ _ _ (⟨rfl, ⟨(show -2147483648 ≤ i + 1 ∧ i + 1 ≤ 2147483647 by omega), ⟨z_scr hE hJ (show 0 ≤ i + 1 by omega) (show i + 1 < (L : Int) by omega), ⟨_, _, rfl, z_k0, rfl, rfl, ⟨4, 24, Q1, hq, by omega, by omega, fun o S1 hS1 hq1 => ?_⟩⟩⟩⟩⟩)
  obtain ⟨g', T', J1, X1, v, rfl, rfl, ⟨m1, m2⟩, Q2, hq2, hQ2⟩ := hQ o S1 hq1
  show Wp 2616 (z_loc i) [.inl v] (m_Ex g' T', J1, X1) _ _
  refine hsc _ _ _ _ _ _ (fun h5 h6 hE h7 => ?_)
  rw [← z_scE hx h5 (i + 1) (by omega)] at hq2
  refine hs m_lw_45 m_sl_45 400 [(3710, 6)] [] 2616 _ _ _ _ _ (⟨rfl, ⟨(show -2147483648 ≤ i + 1 ∧ i + 1 ≤ 2147483647 by omega), ⟨z_scr hE h6 (show 0 ≤ i + 1 by omega) (show i + 1 < (L : Int) by omega), ⟨_, _, rfl, z_k148, rfl, rfl, ⟨0, 0, Q2, hq2, Nat.zero_le _, Nat.zero_le _, fun o S2 hS2 h2 => ?_⟩⟩⟩⟩⟩)
  obtain ⟨J2, X2, rfl, rfl, hI2⟩ := hQ2 o S2 h2
  exact ⟨fun _ => K g' T' J2 X2 _ _ hI2 (by omega) (by omega), fun c => absurd rfl c⟩
set_option maxRecDepth 20000 in
theorem c_law44 (A : z_LC l L xs Wp) (hI : x_I g T J) (h0 : 0 ≤ i) (h1 : i + 6 ≤ L) (hL : L ≤ 3072) (hx : ∀ k : Nat, J 2000000 k = (xs k).toInt) (hJ : (J 2000001 0).toNat = L) (hE : (m_Ex g T)[2000000]? = none) (hS : z_okS (m_Ex g T, J, X)) (hb : 4 * (n + 1) + 300 * x_nn g ≤ bc) (hb2 : 24 * (n + 1) + 30000 * x_nn g ≤ bs) (K : z_LK Wp i n) : Wp 2631 (z_loc i) [] (m_Ex g T, J, X) bc bs := by
  obtain ⟨hs, hw, hsc, -⟩ := A
  have step : ∀ b : Int, b = (if J 2000000 (i + 2) = 0 then 0 else 1) → Wp 2652 (z_loc i) [.inl b, .inl (J 2000000 (i + 1)), .inr (.inr (.ref 0))] (m_Ex g T, J, X) bc bs := by
    intro b eb
    obtain ⟨Q1, hq, hQ⟩ := r_boarded (l := l) (d := 0) hI (r := J 2000000 (i + 1)) (b := b) X
    refine hs m_lw_46 m_sl_46 400 [(2653, 6)] [] 2652 _ _ _ _ _ ?_
    show Wp 2653 (z_loc i) [.inr (.inr (.ref 161)), .inl b, .inl (J 2000000 (i + 1)), .inr (.inr (.ref 0))] (m_Ex g T, J, X) bc bs
    refine hw m_we_32 4 323 1442 2653 m_wok_32 rfl m_wl_32 m_wd9_32 _ _ _ _ _ 4 24 _ rfl (Nat.le_of_ble_eq_true rfl) (s_boarded (d := 0) hq (fun o S1 h => by obtain ⟨J1, X1, t, v, e1, e2, e3, e4⟩ := hQ o S1 h; exact ⟨J1, X1, t, v, e1, e2, e4, e3⟩)) (by omega) (by omega) (fun o S1 h => ?_)
    obtain ⟨J1, X2, t, v, rfl, hP, rfl, hv0⟩ := h
    refine ⟨_, rfl, ?_⟩
    show Wp 2656 (z_loc i) [.inl t] (m_Ex g T, J1, X2) _ _
    refine hsc _ _ _ _ _ _ (fun h5 h6 hE h7 => ?_)
    obtain ⟨Q2, hq2, hQ2⟩ := hP X2
    rw [← z_scE hx h5 (i + 1) (by omega)] at hq2
    rw [← z_scE hx h5 (i + 2) (by omega)] at eb
    have last : Wp 2679 [some (.inr (.inr (.ref 2000000))), some (.inr (.inr (.ref 0))), some (.inr (.inr (.ref 148))), some (.inr (.inr (.ref 161))), some (.inr (.inr (.ref 162))), some (.inl i), some (.inl t), none, none] [.inl b, .inl (J1 2000000 (i + 1)), .inr (.inr (.ref 148))] (m_Ex g T, J1, X2) (bc - 4) (bs - 24) := by
      refine hs m_lw_46 m_sl_46 400 [(3710, 6)] [] 2679 _ _ _ _ _ (⟨_, _, rfl, z_k148, rfl, rfl, ⟨0, 0, Q2, hq2, Nat.zero_le _, Nat.zero_le _, fun o S2 hS2 h2 => ?_⟩⟩)
      obtain ⟨J2, rfl, rfl, ht, hI2⟩ := hQ2 o S2 h2
      refine ⟨_, _, rfl, z_k148, rfl, rfl, ⟨0, 0, _, p_thrown (d := 11), Nat.zero_le _, Nat.zero_le _, fun o3 S3 _ h3 => ?_⟩⟩
      obtain ⟨rfl, rfl⟩ := h3
      have hK : ∀ b9 s9 : Nat, 4 * n + 300 * x_nn g ≤ b9 → 24 * n + 30000 * x_nn g ≤ s9 → Wp 3710 (z_loc i) [] (m_Ex g T, J2, X2) b9 s9 := fun b9 s9 a9 c9 => K g T J2 X2 b9 s9 hI2 a9 c9
      refine ⟨fun _ => ⟨fun _ => hK _ _ (by omega) (by omega), fun c => ⟨rfl, ⟨⟨_, _, z_k161, by decide⟩, ⟨fun _ => hK _ _ (by omega) (by omega), fun c5 => ?_⟩⟩⟩⟩, fun c => absurd ht c⟩
      refine absurd ?_ c5
      have hv := hv0 c
      show (if v < X2.1 161 0 then (1 : Int) else if X2.1 161 0 = v then 0 else -1) = 0
      rw [hv]; exact z_lc0
    refine hs m_lw_46 m_sl_46 400 [(2679, 7)] [] 2656 _ _ _ _ _ (⟨rfl, ⟨(show -2147483648 ≤ i + 1 ∧ i + 1 ≤ 2147483647 by omega), ⟨z_scr hE h6 (show 0 ≤ i + 1 by omega) (show i + 1 < (L : Int) by omega), ⟨rfl, ⟨(show -2147483648 ≤ i + 2 ∧ i + 2 ≤ 2147483647 by omega), ⟨z_scr hE h6 (show 0 ≤ i + 2 by omega) (show i + 2 < (L : Int) by omega), ⟨fun c => ?_, fun c => ?_⟩⟩⟩⟩⟩⟩⟩)
    · refine ⟨rfl, ?_⟩; rw [if_pos c] at eb; rw [eb] at last; exact last
    · refine ⟨rfl, ?_⟩; rw [if_neg c] at eb; rw [eb] at last; exact last
  refine hs m_lw_46 m_sl_46 400 [(2652, 6)] [] 2631 _ _ _ _ _ (⟨rfl, ⟨(show -2147483648 ≤ i + 1 ∧ i + 1 ≤ 2147483647 by omega), ⟨z_scr hE hJ (show 0 ≤ i + 1 by omega) (show i + 1 < (L : Int) by omega), ⟨rfl, ⟨(show -2147483648 ≤ i + 2 ∧ i + 2 ≤ 2147483647 by omega), ⟨z_scr hE hJ (show 0 ≤ i + 2 by omega) (show i + 2 < (L : Int) by omega), ⟨fun c => ⟨rfl, step 0 (by rw [if_pos c])⟩, fun c => ⟨rfl, step 1 (by rw [if_neg c])⟩⟩⟩⟩⟩⟩⟩⟩)
set_option maxRecDepth 20000 in
theorem c_law45 (A : z_LC l L xs Wp) (hI : x_I g T J) (h0 : 0 ≤ i) (h1 : i + 6 ≤ L) (hL : L ≤ 3072) (hx : ∀ k : Nat, J 2000000 k = (xs k).toInt) (hJ : (J 2000001 0).toNat = L) (hE : (m_Ex g T)[2000000]? = none) (hS : z_okS (m_Ex g T, J, X)) (hb : 4 * (n + 1) + 300 * x_nn g ≤ bc) (hb2 : 24 * (n + 1) + 30000 * x_nn g ≤ bs) (K : z_LK Wp i n) : Wp 2715 (z_loc i) [] (m_Ex g T, J, X) bc bs := by
  obtain ⟨hs, hw, hsc, -⟩ := A
  obtain ⟨Q1, hq, hQ⟩ := r_averageWait (l := l) (d := 0) hI (r := J 2000000 (i + 1)) X
  refine hs m_lw_47 m_sl_47 400 [(2724, 6)] [] 2715 _ _ _ _ _ (⟨rfl, ⟨(show -2147483648 ≤ i + 1 ∧ i + 1 ≤ 2147483647 by omega), ⟨z_scr hE hJ (show 0 ≤ i + 1 by omega) (show i + 1 < (L : Int) by omega), ?_⟩⟩⟩)
  show Wp 2724 (z_loc i) [.inr (.inr (.ref 162)), .inl (J 2000000 (i + 1)), .inr (.inr (.ref 0))] (m_Ex g T, J, X) bc bs
  refine hw m_we_33 3 327 1449 2724 m_wok_33 rfl m_wl_33 m_wd9_33 _ _ _ _ _ 4 24 _ rfl (Nat.le_of_ble_eq_true rfl) (s_averageWait (d := 0) hq hQ) (by omega) (by omega) (fun o S1 h => ?_)
  obtain ⟨J1, X2, t, v, rfl, hP, rfl, hv0⟩ := h
  refine ⟨_, rfl, ?_⟩
  show Wp 2727 (z_loc i) [.inl t] (m_Ex g T, J1, X2) _ _
  refine hsc _ _ _ _ _ _ (fun h5 h6 hE h7 => ?_)
  obtain ⟨Q2, hq2, hQ2⟩ := hP X2
  rw [← z_scE hx h5 (i + 1) (by omega)] at hq2
  refine hs m_lw_47 m_sl_47 400 [(3710, 6)] [] 2727 _ _ _ _ _ (⟨rfl, ⟨(show -2147483648 ≤ i + 1 ∧ i + 1 ≤ 2147483647 by omega), ⟨z_scr hE h6 (show 0 ≤ i + 1 by omega) (show i + 1 < (L : Int) by omega), ⟨_, _, rfl, z_k148, rfl, rfl, ⟨0, 0, Q2, hq2, Nat.zero_le _, Nat.zero_le _, fun o S2 hS2 h2 => ?_⟩⟩⟩⟩⟩)
  obtain ⟨J2, rfl, rfl, ht, hI2⟩ := hQ2 o S2 h2
  refine ⟨_, _, rfl, z_k148, rfl, rfl, ⟨0, 0, _, p_thrown (d := 11), Nat.zero_le _, Nat.zero_le _, fun o3 S3 _ h3 => ?_⟩⟩
  obtain ⟨rfl, rfl⟩ := h3
  have hK : ∀ b9 s9 : Nat, 4 * n + 300 * x_nn g ≤ b9 → 24 * n + 30000 * x_nn g ≤ s9 → Wp 3710 (z_loc i) [] (m_Ex g T, J2, X2) b9 s9 := fun b9 s9 a9 c9 => K g T J2 X2 b9 s9 hI2 a9 c9
  refine ⟨fun _ => ⟨fun _ => hK _ _ (by omega) (by omega), fun c => ⟨rfl, ⟨⟨_, _, z_k162, by decide⟩, ?_⟩⟩⟩, fun c => absurd ht c⟩
  have hv := hv0 c
  refine ⟨fun _ => hK _ _ (by omega) (by omega), fun c1 => ⟨rfl, ⟨⟨_, _, z_k162, by decide⟩, ⟨rfl, ⟨⟨_, _, z_k162, by decide⟩, ⟨fun c2 => ?_, fun _ => ⟨fun _ => hK _ _ (by omega) (by omega), fun c3 => ?_⟩⟩⟩⟩⟩⟩⟩
  · refine absurd ?_ c1
    have c2 : (Op.cmpValue (FP.dcmp (X2.2 162 0) (X2.2 162 0)) .l).toInt = 0 := c2
    show (Op.cmpValue (FP.dcmp (X2.2 162 0) v) .l).toInt = 0
    rw [← hv]; exact c2
  · refine absurd ?_ c1
    show (Op.cmpValue (FP.dcmp (X2.2 162 0) v) .l).toInt = 0
    rw [hv]; exact c3
set_option maxRecDepth 20000 in
theorem c_law46 (A : z_LC l L xs Wp) (hI : x_I g T J) (h0 : 0 ≤ i) (h1 : i + 6 ≤ L) (hL : L ≤ 3072) (hx : ∀ k : Nat, J 2000000 k = (xs k).toInt) (hJ : (J 2000001 0).toNat = L) (hE : (m_Ex g T)[2000000]? = none) (hS : z_okS (m_Ex g T, J, X)) (hb : 4 * (n + 1) + 300 * x_nn g ≤ bc) (hb2 : 24 * (n + 1) + 30000 * x_nn g ≤ bs) (K : z_LK Wp i n) : Wp 2792 (z_loc i) [] (m_Ex g T, J, X) bc bs := by
  obtain ⟨hs, hw, hsc, -⟩ := A
  obtain ⟨Q1, hq, hQ⟩ := r_longestWait (l := l) (d := 0) hI (a := J 2000000 (i + 1)) X
  refine hs m_lw_48 m_sl_48 400 [(2800, 6)] [] 2792 _ _ _ _ _ (⟨rfl, ⟨(show -2147483648 ≤ i + 1 ∧ i + 1 ≤ 2147483647 by omega), ⟨z_scr hE hJ (show 0 ≤ i + 1 by omega) (show i + 1 < (L : Int) by omega), ?_⟩⟩⟩)
  show Wp 2800 (z_loc i) [.inr (.inr (.ref 161)), .inl (J 2000000 (i + 1)), .inr (.inr (.ref 0))] (m_Ex g T, J, X) bc bs
  refine hw m_we_34 3 331 1473 2800 m_wok_34 rfl m_wl_34 m_wd9_34 _ _ _ _ _ 4 24 _ rfl (Nat.le_of_ble_eq_true rfl) (s_longestWait (d := 0) hq (fun o S1 h => by obtain ⟨J1, X1, t, v, e1, e2, e3, e4⟩ := hQ o S1 h; exact ⟨J1, X1, t, v, e1, e2, e4, e3⟩)) (by omega) (by omega) (fun o S1 h => ?_)
  obtain ⟨J1, X2, t, v, rfl, hP, rfl, hv0⟩ := h
  refine ⟨_, rfl, ?_⟩
  show Wp 2803 (z_loc i) [.inl t] (m_Ex g T, J1, X2) _ _
  refine hsc _ _ _ _ _ _ (fun h5 h6 hE h7 => ?_)
  obtain ⟨Q2, hq2, hQ2⟩ := hP X2
  rw [← z_scE hx h5 (i + 1) (by omega)] at hq2
  refine hs m_lw_48 m_sl_48 400 [(3710, 6)] [] 2803 _ _ _ _ _ (⟨rfl, ⟨(show -2147483648 ≤ i + 1 ∧ i + 1 ≤ 2147483647 by omega), ⟨z_scr hE h6 (show 0 ≤ i + 1 by omega) (show i + 1 < (L : Int) by omega), ⟨_, _, rfl, z_k148, rfl, rfl, ⟨0, 0, Q2, hq2, Nat.zero_le _, Nat.zero_le _, fun o S2 hS2 h2 => ?_⟩⟩⟩⟩⟩)
  obtain ⟨J2, rfl, rfl, ht, hI2⟩ := hQ2 o S2 h2
  refine ⟨_, _, rfl, z_k148, rfl, rfl, ⟨0, 0, _, p_thrown (d := 11), Nat.zero_le _, Nat.zero_le _, fun o3 S3 _ h3 => ?_⟩⟩
  obtain ⟨rfl, rfl⟩ := h3
  have hK : ∀ b9 s9 : Nat, 4 * n + 300 * x_nn g ≤ b9 → 24 * n + 30000 * x_nn g ≤ s9 → Wp 3710 (z_loc i) [] (m_Ex g T, J2, X2) b9 s9 := fun b9 s9 a9 c9 => K g T J2 X2 b9 s9 hI2 a9 c9
  refine ⟨fun _ => ⟨fun _ => hK _ _ (by omega) (by omega), fun c => ⟨rfl, ⟨⟨_, _, z_k161, by decide⟩, ⟨fun _ => hK _ _ (by omega) (by omega), fun c5 => ?_⟩⟩⟩⟩, fun c => absurd ht c⟩
  refine absurd ?_ c5
  have hv := hv0 c
  show (if v < X2.1 161 0 then (1 : Int) else if X2.1 161 0 = v then 0 else -1) = 0
  rw [hv]; exact z_lc0
set_option maxRecDepth 20000 in
theorem c_law47 (A : z_LC l L xs Wp) (hI : x_I g T J) (h0 : 0 ≤ i) (h1 : i + 6 ≤ L) (hL : L ≤ 3072) (hx : ∀ k : Nat, J 2000000 k = (xs k).toInt) (hJ : (J 2000001 0).toNat = L) (hE : (m_Ex g T)[2000000]? = none) (hS : z_okS (m_Ex g T, J, X)) (hb : 4 * (n + 1) + 300 * x_nn g ≤ bc) (hb2 : 24 * (n + 1) + 30000 * x_nn g ≤ bs) (K : z_LK Wp i n) : Wp 2848 (z_loc i) [] (m_Ex g T, J, X) bc bs := by
  obtain ⟨hs, hw, hsc, -⟩ := A
  obtain ⟨Q1, hq, hQ⟩ := r_forecastStandby (l := l) (d := 0) hI (r := J 2000000 (i + 1)) (w := J 2000000 (i + 2)) X
  refine hs m_lw_49 m_sl_49 400 [(2862, 6)] [] 2848 _ _ _ _ _ (⟨rfl, ⟨(show -2147483648 ≤ i + 1 ∧ i + 1 ≤ 2147483647 by omega), ⟨z_scr hE hJ (show 0 ≤ i + 1 by omega) (show i + 1 < (L : Int) by omega), ⟨rfl, ⟨(show -2147483648 ≤ i + 2 ∧ i + 2 ≤ 2147483647 by omega), ⟨z_scr hE hJ (show 0 ≤ i + 2 by omega) (show i + 2 < (L : Int) by omega), ?_⟩⟩⟩⟩⟩⟩)
  show Wp 2862 (z_loc i) [.inr (.inr (.ref 161)), .inl (J 2000000 (i + 2)), .inl (J 2000000 (i + 1)), .inr (.inr (.ref 0))] (m_Ex g T, J, X) bc bs
  refine hw m_we_35 4 334 1480 2862 m_wok_35 rfl m_wl_35 m_wd9_35 _ _ _ _ _ 4 24 _ rfl (Nat.le_of_ble_eq_true rfl) (s_forecastStandby (d := 0) hq (fun o S1 h => by obtain ⟨J1, X1, t, v, e1, e2, e3, e4⟩ := hQ o S1 h; exact ⟨J1, X1, t, v, e1, e2, e4⟩)) (by omega) (by omega) (fun o S1 h => ?_)
  obtain ⟨J1, X2, t, v, rfl, hP, rfl, hv0⟩ := h
  refine ⟨_, rfl, ?_⟩
  show Wp 2865 (z_loc i) [.inl t] (m_Ex g T, J1, X2) _ _
  refine hsc _ _ _ _ _ _ (fun h5 h6 hE h7 => ?_)
  obtain ⟨Q2, hq2, hQ2⟩ := hP X2
  rw [← z_scE hx h5 (i + 1) (by omega)] at hq2
  rw [← z_scE hx h5 (i + 2) (by omega)] at hq2
  refine hs m_lw_49 m_sl_49 400 [(3710, 6)] [] 2865 _ _ _ _ _ (⟨rfl, ⟨(show -2147483648 ≤ i + 1 ∧ i + 1 ≤ 2147483647 by omega), ⟨z_scr hE h6 (show 0 ≤ i + 1 by omega) (show i + 1 < (L : Int) by omega), ⟨rfl, ⟨(show -2147483648 ≤ i + 2 ∧ i + 2 ≤ 2147483647 by omega), ⟨z_scr hE h6 (show 0 ≤ i + 2 by omega) (show i + 2 < (L : Int) by omega), ⟨_, _, rfl, z_k148, rfl, rfl, ⟨0, 0, Q2, hq2, Nat.zero_le _, Nat.zero_le _, fun o S2 hS2 h2 => ?_⟩⟩⟩⟩⟩⟩⟩⟩)
  obtain ⟨J2, rfl, rfl, ht, hI2⟩ := hQ2 o S2 h2
  refine ⟨_, _, rfl, z_k148, rfl, rfl, ⟨0, 0, _, p_thrown (d := 11), Nat.zero_le _, Nat.zero_le _, fun o3 S3 _ h3 => ?_⟩⟩
  obtain ⟨rfl, rfl⟩ := h3
  have hK : ∀ b9 s9 : Nat, 4 * n + 300 * x_nn g ≤ b9 → 24 * n + 30000 * x_nn g ≤ s9 → Wp 3710 (z_loc i) [] (m_Ex g T, J2, X2) b9 s9 := fun b9 s9 a9 c9 => K g T J2 X2 b9 s9 hI2 a9 c9
  refine ⟨fun _ => ⟨fun _ => hK _ _ (by omega) (by omega), fun c => ⟨rfl, ⟨⟨_, _, z_k161, by decide⟩, ⟨fun _ => hK _ _ (by omega) (by omega), fun c5 => ?_⟩⟩⟩⟩, fun c => absurd ht c⟩
  refine absurd ?_ c5
  have hv := hv0 c
  show (if v < X2.1 161 0 then (1 : Int) else if X2.1 161 0 = v then 0 else -1) = 0
  rw [hv]; exact z_lc0
end L2
