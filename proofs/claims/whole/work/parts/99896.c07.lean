/-! cases of the law -/
section L2
variable {l : Launch} {L n : Nat} {xs : Nat → Int32} {Wp : Nat → z_C} {g : List (Option Nat)} {T : m_E} {J : z_J} {X : z_X} {bc bs : Nat} {i : Int}
set_option maxRecDepth 20000 in
theorem c_law48 (A : z_LC l L xs Wp) (hI : x_I g T J) (h0 : 0 ≤ i) (h1 : i + 6 ≤ L) (hL : L ≤ 3072) (hx : ∀ k : Nat, J 2000000 k = (xs k).toInt) (hJ : (J 2000001 0).toNat = L) (hE : (m_Ex g T)[2000000]? = none) (hS : z_okS (m_Ex g T, J, X)) (hb : 4 * (n + 1) + 300 * x_nn g ≤ bc) (hb2 : 24 * (n + 1) + 30000 * x_nn g ≤ bs) (K : z_LK Wp i n) : Wp 2916 (z_loc i) [] (m_Ex g T, J, X) bc bs := by
  obtain ⟨hs, hw, hsc, -⟩ := A
  obtain ⟨Q1, hq, hQ⟩ := r_expectedReturns (l := l) (d := 0) hI (r := J 2000000 (i + 1)) (s := J 2000000 (i + 2)) X
  refine hs m_lw_50 m_sl_50 400 [(2930, 6)] [] 2916 _ _ _ _ _ (⟨rfl, ⟨(show -2147483648 ≤ i + 1 ∧ i + 1 ≤ 2147483647 by omega), ⟨z_scr hE hJ (show 0 ≤ i + 1 by omega) (show i + 1 < (L : Int) by omega), ⟨rfl, ⟨(show -2147483648 ≤ i + 2 ∧ i + 2 ≤ 2147483647 by omega), ⟨z_scr hE hJ (show 0 ≤ i + 2 by omega) (show i + 2 < (L : Int) by omega), ?_⟩⟩⟩⟩⟩⟩)
  show Wp 2930 (z_loc i) [.inr (.inr (.ref 161)), .inl (J 2000000 (i + 2)), .inl (J 2000000 (i + 1)), .inr (.inr (.ref 0))] (m_Ex g T, J, X) bc bs
  refine hw m_we_36 4 337 1496 2930 m_wok_36 rfl m_wl_36 m_wd9_36 _ _ _ _ _ 4 24 _ rfl (Nat.le_of_ble_eq_true rfl) (s_expectedReturns (d := 0) hq (fun o S1 h => by obtain ⟨J1, X1, t, v, e1, e2, e3, e4⟩ := hQ o S1 h; exact ⟨J1, X1, t, v, e1, e2, e4⟩)) (by omega) (by omega) (fun o S1 h => ?_)
  obtain ⟨J1, X2, t, v, rfl, hP, rfl, hv0⟩ := h
  refine ⟨_, rfl, ?_⟩
  show Wp 2933 (z_loc i) [.inl t] (m_Ex g T, J1, X2) _ _
  refine hsc _ _ _ _ _ _ (fun h5 h6 hE h7 => ?_)
  obtain ⟨Q2, hq2, hQ2⟩ := hP X2
  rw [← z_scE hx h5 (i + 1) (by omega)] at hq2
  rw [← z_scE hx h5 (i + 2) (by omega)] at hq2
  refine hs m_lw_50 m_sl_50 400 [(3710, 6)] [] 2933 _ _ _ _ _ (⟨rfl, ⟨(show -2147483648 ≤ i + 1 ∧ i + 1 ≤ 2147483647 by omega), ⟨z_scr hE h6 (show 0 ≤ i + 1 by omega) (show i + 1 < (L : Int) by omega), ⟨rfl, ⟨(show -2147483648 ≤ i + 2 ∧ i + 2 ≤ 2147483647 by omega), ⟨z_scr hE h6 (show 0 ≤ i + 2 by omega) (show i + 2 < (L : Int) by omega), ⟨_, _, rfl, z_k148, rfl, rfl, ⟨0, 0, Q2, hq2, Nat.zero_le _, Nat.zero_le _, fun o S2 hS2 h2 => ?_⟩⟩⟩⟩⟩⟩⟩⟩)
  obtain ⟨J2, rfl, rfl, ht, hI2⟩ := hQ2 o S2 h2
  refine ⟨_, _, rfl, z_k148, rfl, rfl, ⟨0, 0, _, p_thrown (d := 11), Nat.zero_le _, Nat.zero_le _, fun o3 S3 _ h3 => ?_⟩⟩
  obtain ⟨rfl, rfl⟩ := h3
  have hK : ∀ b9 s9 : Nat, 4 * n + 300 * x_nn g ≤ b9 → 24 * n + 30000 * x_nn g ≤ s9 → Wp 3710 (z_loc i) [] (m_Ex g T, J2, X2) b9 s9 := fun b9 s9 a9 c9 => K g T J2 X2 b9 s9 hI2 a9 c9
  refine ⟨fun _ => ⟨fun _ => hK _ _ (by omega) (by omega), fun c => ⟨rfl, ⟨⟨_, _, z_k161, by decide⟩, ⟨fun _ => hK _ _ (by omega) (by omega), fun c5 => ?_⟩⟩⟩⟩, fun c => absurd ht c⟩
  refine absurd ?_ c5
  have hv := hv0 c
  show (if v < X2.1 161 0 then (1 : Int) else if X2.1 161 0 = v then 0 else -1) = 0
  rw [hv]; exact z_lc0
set_option maxRecDepth 20000 in
theorem c_law49 (A : z_LC l L xs Wp) (hI : x_I g T J) (h0 : 0 ≤ i) (h1 : i + 6 ≤ L) (hL : L ≤ 3072) (hx : ∀ k : Nat, J 2000000 k = (xs k).toInt) (hJ : (J 2000001 0).toNat = L) (hE : (m_Ex g T)[2000000]? = none) (hS : z_okS (m_Ex g T, J, X)) (hb : 4 * (n + 1) + 300 * x_nn g ≤ bc) (hb2 : 24 * (n + 1) + 30000 * x_nn g ≤ bs) (K : z_LK Wp i n) : Wp 2984 (z_loc i) [] (m_Ex g T, J, X) bc bs := by
  obtain ⟨hs, hw, hsc, -⟩ := A
  obtain ⟨Q1, hq, hQ⟩ := r_expiredPart (l := l) (d := 0) hI (r := J 2000000 (i + 1)) X
  refine hs m_lw_51 m_sl_51 400 [(2993, 6)] [] 2984 _ _ _ _ _ (⟨rfl, ⟨(show -2147483648 ≤ i + 1 ∧ i + 1 ≤ 2147483647 by omega), ⟨z_scr hE hJ (show 0 ≤ i + 1 by omega) (show i + 1 < (L : Int) by omega), ?_⟩⟩⟩)
  show Wp 2993 (z_loc i) [.inr (.inr (.ref 162)), .inl (J 2000000 (i + 1)), .inr (.inr (.ref 0))] (m_Ex g T, J, X) bc bs
  refine hw m_we_37 3 340 1507 2993 m_wok_37 rfl m_wl_37 m_wd9_37 _ _ _ _ _ 4 24 _ rfl (Nat.le_of_ble_eq_true rfl) (s_expiredPart (d := 0) hq hQ) (by omega) (by omega) (fun o S1 h => ?_)
  obtain ⟨J1, X2, t, v, rfl, hP, rfl, hv0⟩ := h
  refine ⟨_, rfl, ?_⟩
  show Wp 2996 (z_loc i) [.inl t] (m_Ex g T, J1, X2) _ _
  refine hsc _ _ _ _ _ _ (fun h5 h6 hE h7 => ?_)
  obtain ⟨Q2, hq2, hQ2⟩ := hP X2
  rw [← z_scE hx h5 (i + 1) (by omega)] at hq2
  refine hs m_lw_51 m_sl_51 400 [(3710, 6)] [] 2996 _ _ _ _ _ (⟨rfl, ⟨(show -2147483648 ≤ i + 1 ∧ i + 1 ≤ 2147483647 by omega), ⟨z_scr hE h6 (show 0 ≤ i + 1 by omega) (show i + 1 < (L : Int) by omega), ⟨_, _, rfl, z_k148, rfl, rfl, ⟨0, 0, Q2, hq2, Nat.zero_le _, Nat.zero_le _, fun o S2 hS2 h2 => ?_⟩⟩⟩⟩⟩)
  obtain ⟨J2, rfl, rfl, ht, hI2⟩ := hQ2 o S2 h2
  refine ⟨_, _, rfl, z_k148, rfl, rfl, ⟨0, 0, _, p_thrown (d := 11), Nat.zero_le _, Nat.zero_le _, fun o3 S3 _ h3 => ?_⟩⟩
  obtain ⟨rfl, rfl⟩ := h3
  have hK : ∀ b9 s9 : Nat, 4 * n + 300 * x_nn g ≤ b9 → 24 * n + 30000 * x_nn g ≤ s9 → Wp 3710 (z_loc i) [] (m_Ex g T, J2, X2) b9 s9 := fun b9 s9 a9 c9 => K g T J2 X2 b9 s9 hI2 a9 c9
  refine ⟨fun _ => ⟨fun _ => hK _ _ (by omega) (by omega), fun c => ⟨rfl, ⟨⟨_, _, z_k162, by decide⟩, ?_⟩⟩⟩, fun c => absurd ht c⟩
  have hv := hv0 c
  refine ⟨fun _ => hK _ _ (by omega) (by omega), fun c1 => ⟨rfl, ⟨⟨_, _, z_k162, by decide⟩, ⟨rfl, ⟨⟨_, _, z_k162, by decide⟩, ⟨fun c2 => ?_, fun _ => ⟨fun _ => hK _ _ (by omega) (by omega), fun c3 => ?_⟩⟩⟩⟩⟩⟩⟩
  · refine absurd ?_ c1
    have c2 : (Op.cmpValue (FP.dcmp (X2.2 162 0) (X2.2 162 0)) .l).toInt = 0 := c2
    show (Op.cmpValue (FP.dcmp (X2.2 162 0) v) .l).toInt = 0
    rw [← hv]; exact c2
  · refine absurd ?_ c1
    show (Op.cmpValue (FP.dcmp (X2.2 162 0) v) .l).toInt = 0
    rw [hv]; exact c3
set_option maxRecDepth 20000 in
theorem c_law50 (A : z_LC l L xs Wp) (hI : x_I g T J) (h0 : 0 ≤ i) (h1 : i + 6 ≤ L) (hL : L ≤ 3072) (hx : ∀ k : Nat, J 2000000 k = (xs k).toInt) (hJ : (J 2000001 0).toNat = L) (hE : (m_Ex g T)[2000000]? = none) (hS : z_okS (m_Ex g T, J, X)) (hb : 4 * (n + 1) + 300 * x_nn g ≤ bc) (hb2 : 24 * (n + 1) + 30000 * x_nn g ≤ bs) (K : z_LK Wp i n) : Wp 3061 (z_loc i) [] (m_Ex g T, J, X) bc bs := by
  obtain ⟨hs, hw, hsc, -⟩ := A
  obtain ⟨Q1, hq, hQ⟩ := r_capacityLeft (l := l) (d := 0) hI (r := J 2000000 (i + 1)) X
  refine hs m_lw_52 m_sl_52 400 [(3069, 6)] [] 3061 _ _ _ _ _ (⟨rfl, ⟨(show -2147483648 ≤ i + 1 ∧ i + 1 ≤ 2147483647 by omega), ⟨z_scr hE hJ (show 0 ≤ i + 1 by omega) (show i + 1 < (L : Int) by omega), ?_⟩⟩⟩)
  show Wp 3069 (z_loc i) [.inr (.inr (.ref 161)), .inl (J 2000000 (i + 1)), .inr (.inr (.ref 0))] (m_Ex g T, J, X) bc bs
  refine hw m_we_38 3 343 1519 3069 m_wok_38 rfl m_wl_38 m_wd9_38 _ _ _ _ _ 4 24 _ rfl (Nat.le_of_ble_eq_true rfl) (s_capacityLeft (d := 0) hq (fun o S1 h => by obtain ⟨J1, X1, t, v, e1, e2, e3, e4⟩ := hQ o S1 h; exact ⟨J1, X1, t, v, e1, e2, e4, e3⟩)) (by omega) (by omega) (fun o S1 h => ?_)
  obtain ⟨J1, X2, t, v, rfl, hP, rfl, hv0⟩ := h
  refine ⟨_, rfl, ?_⟩
  show Wp 3072 (z_loc i) [.inl t] (m_Ex g T, J1, X2) _ _
  refine hsc _ _ _ _ _ _ (fun h5 h6 hE h7 => ?_)
  obtain ⟨Q2, hq2, hQ2⟩ := hP X2
  rw [← z_scE hx h5 (i + 1) (by omega)] at hq2
  refine hs m_lw_52 m_sl_52 400 [(3710, 6)] [] 3072 _ _ _ _ _ (⟨rfl, ⟨(show -2147483648 ≤ i + 1 ∧ i + 1 ≤ 2147483647 by omega), ⟨z_scr hE h6 (show 0 ≤ i + 1 by omega) (show i + 1 < (L : Int) by omega), ⟨_, _, rfl, z_k148, rfl, rfl, ⟨0, 0, Q2, hq2, Nat.zero_le _, Nat.zero_le _, fun o S2 hS2 h2 => ?_⟩⟩⟩⟩⟩)
  obtain ⟨J2, rfl, rfl, ht, hI2⟩ := hQ2 o S2 h2
  refine ⟨_, _, rfl, z_k148, rfl, rfl, ⟨0, 0, _, p_thrown (d := 11), Nat.zero_le _, Nat.zero_le _, fun o3 S3 _ h3 => ?_⟩⟩
  obtain ⟨rfl, rfl⟩ := h3
  have hK : ∀ b9 s9 : Nat, 4 * n + 300 * x_nn g ≤ b9 → 24 * n + 30000 * x_nn g ≤ s9 → Wp 3710 (z_loc i) [] (m_Ex g T, J2, X2) b9 s9 := fun b9 s9 a9 c9 => K g T J2 X2 b9 s9 hI2 a9 c9
  refine ⟨fun _ => ⟨fun _ => hK _ _ (by omega) (by omega), fun c => ⟨rfl, ⟨⟨_, _, z_k161, by decide⟩, ⟨fun _ => hK _ _ (by omega) (by omega), fun c5 => ?_⟩⟩⟩⟩, fun c => absurd ht c⟩
  refine absurd ?_ c5
  have hv := hv0 c
  show (if v < X2.1 161 0 then (1 : Int) else if X2.1 161 0 = v then 0 else -1) = 0
  rw [hv]; exact z_lc0
set_option maxRecDepth 20000 in
theorem c_law51 (A : z_LC l L xs Wp) (hI : x_I g T J) (h0 : 0 ≤ i) (h1 : i + 6 ≤ L) (hL : L ≤ 3072) (hx : ∀ k : Nat, J 2000000 k = (xs k).toInt) (hJ : (J 2000001 0).toNat = L) (hE : (m_Ex g T)[2000000]? = none) (hS : z_okS (m_Ex g T, J, X)) (hb : 4 * (n + 1) + 300 * x_nn g ≤ bc) (hb2 : 24 * (n + 1) + 30000 * x_nn g ≤ bs) (K : z_LK Wp i n) : Wp 3117 (z_loc i) [] (m_Ex g T, J, X) bc bs := by
  obtain ⟨hs, hw, hsc, -⟩ := A
  obtain ⟨Q1, hq, hQ⟩ := r_peakSlot (l := l) (d := 0) hI (r := J 2000000 (i + 1)) X
  refine hs m_lw_53 m_sl_53 400 [(3125, 6)] [] 3117 _ _ _ _ _ (⟨rfl, ⟨(show -2147483648 ≤ i + 1 ∧ i + 1 ≤ 2147483647 by omega), ⟨z_scr hE hJ (show 0 ≤ i + 1 by omega) (show i + 1 < (L : Int) by omega), ?_⟩⟩⟩)
  show Wp 3125 (z_loc i) [.inr (.inr (.ref 161)), .inl (J 2000000 (i + 1)), .inr (.inr (.ref 0))] (m_Ex g T, J, X) bc bs
  refine hw m_we_39 3 346 1530 3125 m_wok_39 rfl m_wl_39 m_wd9_39 _ _ _ _ _ 4 24 _ rfl (Nat.le_of_ble_eq_true rfl) (s_peakSlot (d := 0) hq (fun o S1 h => by obtain ⟨J1, X1, t, v, e1, e2, e3, e4⟩ := hQ o S1 h; exact ⟨J1, X1, t, v, e1, e2, e4, e3⟩)) (by omega) (by omega) (fun o S1 h => ?_)
  obtain ⟨J1, X2, t, v, rfl, hP, rfl, hv0⟩ := h
  refine ⟨_, rfl, ?_⟩
  show Wp 3128 (z_loc i) [.inl t] (m_Ex g T, J1, X2) _ _
  refine hsc _ _ _ _ _ _ (fun h5 h6 hE h7 => ?_)
  obtain ⟨Q2, hq2, hQ2⟩ := hP X2
  rw [← z_scE hx h5 (i + 1) (by omega)] at hq2
  refine hs m_lw_53 m_sl_53 400 [(3710, 6)] [] 3128 _ _ _ _ _ (⟨rfl, ⟨(show -2147483648 ≤ i + 1 ∧ i + 1 ≤ 2147483647 by omega), ⟨z_scr hE h6 (show 0 ≤ i + 1 by omega) (show i + 1 < (L : Int) by omega), ⟨_, _, rfl, z_k148, rfl, rfl, ⟨0, 0, Q2, hq2, Nat.zero_le _, Nat.zero_le _, fun o S2 hS2 h2 => ?_⟩⟩⟩⟩⟩)
  obtain ⟨J2, rfl, rfl, ht, hI2⟩ := hQ2 o S2 h2
  refine ⟨_, _, rfl, z_k148, rfl, rfl, ⟨0, 0, _, p_thrown (d := 11), Nat.zero_le _, Nat.zero_le _, fun o3 S3 _ h3 => ?_⟩⟩
  obtain ⟨rfl, rfl⟩ := h3
  have hK : ∀ b9 s9 : Nat, 4 * n + 300 * x_nn g ≤ b9 → 24 * n + 30000 * x_nn g ≤ s9 → Wp 3710 (z_loc i) [] (m_Ex g T, J2, X2) b9 s9 := fun b9 s9 a9 c9 => K g T J2 X2 b9 s9 hI2 a9 c9
  refine ⟨fun _ => ⟨fun _ => hK _ _ (by omega) (by omega), fun c => ⟨rfl, ⟨⟨_, _, z_k161, by decide⟩, ⟨fun _ => hK _ _ (by omega) (by omega), fun c5 => ?_⟩⟩⟩⟩, fun c => absurd ht c⟩
  refine absurd ?_ c5
  have hv := hv0 c
  show (if v < X2.1 161 0 then (1 : Int) else if X2.1 161 0 = v then 0 else -1) = 0
  rw [hv]; exact z_lc0
set_option maxRecDepth 20000 in
theorem c_law52 (A : z_LC l L xs Wp) (hI : x_I g T J) (h0 : 0 ≤ i) (h1 : i + 6 ≤ L) (hL : L ≤ 3072) (hx : ∀ k : Nat, J 2000000 k = (xs k).toInt) (hJ : (J 2000001 0).toNat = L) (hE : (m_Ex g T)[2000000]? = none) (hS : z_okS (m_Ex g T, J, X)) (hb : 4 * (n + 1) + 300 * x_nn g ≤ bc) (hb2 : 24 * (n + 1) + 30000 * x_nn g ≤ bs) (K : z_LK Wp i n) : Wp 3173 (z_loc i) [] (m_Ex g T, J, X) bc bs := by
  obtain ⟨hs, hw, hsc, -⟩ := A
  obtain ⟨Q1, hq, hQ⟩ := r_usage (l := l) (d := 0) hI (r := J 2000000 (i + 1)) X
  refine hs m_lw_54 m_sl_54 400 [(3182, 6)] [] 3173 _ _ _ _ _ (⟨rfl, ⟨(show -2147483648 ≤ i + 1 ∧ i + 1 ≤ 2147483647 by omega), ⟨z_scr hE hJ (show 0 ≤ i + 1 by omega) (show i + 1 < (L : Int) by omega), ?_⟩⟩⟩)
  show Wp 3182 (z_loc i) [.inr (.inr (.ref 162)), .inl (J 2000000 (i + 1)), .inr (.inr (.ref 0))] (m_Ex g T, J, X) bc bs
  refine hw m_we_40 3 349 1541 3182 m_wok_40 rfl m_wl_40 m_wd9_40 _ _ _ _ _ 4 24 _ rfl (Nat.le_of_ble_eq_true rfl) (s_usage (d := 0) hq hQ) (by omega) (by omega) (fun o S1 h => ?_)
  obtain ⟨J1, X2, t, v, rfl, hP, rfl, hv0⟩ := h
  refine ⟨_, rfl, ?_⟩
  show Wp 3185 (z_loc i) [.inl t] (m_Ex g T, J1, X2) _ _
  refine hsc _ _ _ _ _ _ (fun h5 h6 hE h7 => ?_)
  obtain ⟨Q2, hq2, hQ2⟩ := hP X2
  rw [← z_scE hx h5 (i + 1) (by omega)] at hq2
  refine hs m_lw_54 m_sl_54 400 [(3710, 6)] [] 3185 _ _ _ _ _ (⟨rfl, ⟨(show -2147483648 ≤ i + 1 ∧ i + 1 ≤ 2147483647 by omega), ⟨z_scr hE h6 (show 0 ≤ i + 1 by omega) (show i + 1 < (L : Int) by omega), ⟨_, _, rfl, z_k148, rfl, rfl, ⟨0, 0, Q2, hq2, Nat.zero_le _, Nat.zero_le _, fun o S2 hS2 h2 => ?_⟩⟩⟩⟩⟩)
  obtain ⟨J2, rfl, rfl, ht, hI2⟩ := hQ2 o S2 h2
  refine ⟨_, _, rfl, z_k148, rfl, rfl, ⟨0, 0, _, p_thrown (d := 11), Nat.zero_le _, Nat.zero_le _, fun o3 S3 _ h3 => ?_⟩⟩
  obtain ⟨rfl, rfl⟩ := h3
  have hK : ∀ b9 s9 : Nat, 4 * n + 300 * x_nn g ≤ b9 → 24 * n + 30000 * x_nn g ≤ s9 → Wp 3710 (z_loc i) [] (m_Ex g T, J2, X2) b9 s9 := fun b9 s9 a9 c9 => K g T J2 X2 b9 s9 hI2 a9 c9
  refine ⟨fun _ => ⟨fun _ => hK _ _ (by omega) (by omega), fun c => ⟨rfl, ⟨⟨_, _, z_k162, by decide⟩, ?_⟩⟩⟩, fun c => absurd ht c⟩
  have hv := hv0 c
  refine ⟨fun _ => hK _ _ (by omega) (by omega), fun c1 => ⟨rfl, ⟨⟨_, _, z_k162, by decide⟩, ⟨rfl, ⟨⟨_, _, z_k162, by decide⟩, ⟨fun c2 => ?_, fun _ => ⟨fun _ => hK _ _ (by omega) (by omega), fun c3 => ?_⟩⟩⟩⟩⟩⟩⟩
  · refine absurd ?_ c1
    have c2 : (Op.cmpValue (FP.dcmp (X2.2 162 0) (X2.2 162 0)) .l).toInt = 0 := c2
    show (Op.cmpValue (FP.dcmp (X2.2 162 0) v) .l).toInt = 0
    rw [← hv]; exact c2
  · refine absurd ?_ c1
    show (Op.cmpValue (FP.dcmp (X2.2 162 0) v) .l).toInt = 0
    rw [hv]; exact c3
set_option maxRecDepth 20000 in
theorem c_law53 (A : z_LC l L xs Wp) (hI : x_I g T J) (h0 : 0 ≤ i) (h1 : i + 6 ≤ L) (hL : L ≤ 3072) (hx : ∀ k : Nat, J 2000000 k = (xs k).toInt) (hJ : (J 2000001 0).toNat = L) (hE : (m_Ex g T)[2000000]? = none) (hS : z_okS (m_Ex g T, J, X)) (hb : 4 * (n + 1) + 300 * x_nn g ≤ bc) (hb2 : 24 * (n + 1) + 30000 * x_nn g ≤ bs) (K : z_LK Wp i n) : Wp 3250 (z_loc i) [] (m_Ex g T, J, X) bc bs := by
  obtain ⟨hs, hw, hsc, -⟩ := A
  obtain ⟨Q1, hq, hQ⟩ := r_bestFinish (l := l) (d := 0) hI (i := J 2000000 (i + 1)) (m := J 2000000 (i + 2)) (hS 2000000 (i + 2)).1 X
  refine hs m_lw_55 m_sl_55 400 [(3264, 6)] [] 3250 _ _ _ _ _ (⟨rfl, ⟨(show -2147483648 ≤ i + 1 ∧ i + 1 ≤ 2147483647 by omega), ⟨z_scr hE hJ (show 0 ≤ i + 1 by omega) (show i + 1 < (L : Int) by omega), ⟨rfl, ⟨(show -2147483648 ≤ i + 2 ∧ i + 2 ≤ 2147483647 by omega), ⟨z_scr hE hJ (show 0 ≤ i + 2 by omega) (show i + 2 < (L : Int) by omega), ?_⟩⟩⟩⟩⟩⟩)
  show Wp 3264 (z_loc i) [.inr (.inr (.ref 161)), .inl (J 2000000 (i + 2)), .inl (J 2000000 (i + 1)), .inr (.inr (.ref 0))] (m_Ex g T, J, X) bc bs
  refine hw m_we_41 4 352 1558 3264 m_wok_41 rfl m_wl_41 m_wd9_41 _ _ _ _ _ 4 24 _ rfl (Nat.le_of_ble_eq_true rfl) (s_bestFinish (d := 0) hq (fun o S1 h => by obtain ⟨J1, X1, t, v, e1, e2, e3, e4⟩ := hQ o S1 h; exact ⟨J1, X1, t, v, e1, e2, e4⟩)) (by omega) (by omega) (fun o S1 h => ?_)
  obtain ⟨J1, X2, t, v, rfl, hP, rfl, hv0⟩ := h
  refine ⟨_, rfl, ?_⟩
  show Wp 3267 (z_loc i) [.inl t] (m_Ex g T, J1, X2) _ _
  refine hsc _ _ _ _ _ _ (fun h5 h6 hE h7 => ?_)
  obtain ⟨Q2, hq2, hQ2⟩ := hP X2
  rw [← z_scE hx h5 (i + 1) (by omega)] at hq2
  rw [← z_scE hx h5 (i + 2) (by omega)] at hq2
  refine hs m_lw_55 m_sl_55 400 [(3710, 6)] [] 3267 _ _ _ _ _ (⟨rfl, ⟨(show -2147483648 ≤ i + 1 ∧ i + 1 ≤ 2147483647 by omega), ⟨z_scr hE h6 (show 0 ≤ i + 1 by omega) (show i + 1 < (L : Int) by omega), ⟨rfl, ⟨(show -2147483648 ≤ i + 2 ∧ i + 2 ≤ 2147483647 by omega), ⟨z_scr hE h6 (show 0 ≤ i + 2 by omega) (show i + 2 < (L : Int) by omega), ⟨_, _, rfl, z_k148, rfl, rfl, ⟨0, 0, Q2, hq2, Nat.zero_le _, Nat.zero_le _, fun o S2 hS2 h2 => ?_⟩⟩⟩⟩⟩⟩⟩⟩)
  obtain ⟨J2, rfl, rfl, ht, hI2⟩ := hQ2 o S2 h2
  refine ⟨_, _, rfl, z_k148, rfl, rfl, ⟨0, 0, _, p_thrown (d := 11), Nat.zero_le _, Nat.zero_le _, fun o3 S3 _ h3 => ?_⟩⟩
  obtain ⟨rfl, rfl⟩ := h3
  have hK : ∀ b9 s9 : Nat, 4 * n + 300 * x_nn g ≤ b9 → 24 * n + 30000 * x_nn g ≤ s9 → Wp 3710 (z_loc i) [] (m_Ex g T, J2, X2) b9 s9 := fun b9 s9 a9 c9 => K g T J2 X2 b9 s9 hI2 a9 c9
  refine ⟨fun _ => ⟨fun _ => hK _ _ (by omega) (by omega), fun c => ⟨rfl, ⟨⟨_, _, z_k161, by decide⟩, ⟨fun _ => hK _ _ (by omega) (by omega), fun c5 => ?_⟩⟩⟩⟩, fun c => absurd ht c⟩
  refine absurd ?_ c5
  have hv := hv0 c
  show (if v < X2.1 161 0 then (1 : Int) else if X2.1 161 0 = v then 0 else -1) = 0
  rw [hv]; exact z_lc0
set_option maxRecDepth 20000 in
theorem c_law54 (A : z_LC l L xs Wp) (hI : x_I g T J) (h0 : 0 ≤ i) (h1 : i + 6 ≤ L) (hL : L ≤ 3072) (hx : ∀ k : Nat, J 2000000 k = (xs k).toInt) (hJ : (J 2000001 0).toNat = L) (hE : (m_Ex g T)[2000000]? = none) (hS : z_okS (m_Ex g T, J, X)) (hb : 4 * (n + 1) + 300 * x_nn g ≤ bc) (hb2 : 24 * (n + 1) + 30000 * x_nn g ≤ bs) (K : z_LK Wp i n) : Wp 3318 (z_loc i) [] (m_Ex g T, J, X) bc bs := by
  obtain ⟨hs, hw, hsc, -⟩ := A
  obtain ⟨Q1, hq, hQ⟩ := r_bestOrder (l := l) (d := 0) hI (i := J 2000000 (i + 1)) (m := J 2000000 (i + 2)) (x := J 2000000 (i + 3)) (hS 2000000 (i + 2)).1 X
  refine hs m_lw_56 m_sl_56 400 [(3338, 6)] [] 3318 _ _ _ _ _ (⟨rfl, ⟨(show -2147483648 ≤ i + 1 ∧ i + 1 ≤ 2147483647 by omega), ⟨z_scr hE hJ (show 0 ≤ i + 1 by omega) (show i + 1 < (L : Int) by omega), ⟨rfl, ⟨(show -2147483648 ≤ i + 2 ∧ i + 2 ≤ 2147483647 by omega), ⟨z_scr hE hJ (show 0 ≤ i + 2 by omega) (show i + 2 < (L : Int) by omega), ⟨rfl, ⟨(show -2147483648 ≤ i + 3 ∧ i + 3 ≤ 2147483647 by omega), ⟨z_scr hE hJ (show 0 ≤ i + 3 by omega) (show i + 3 < (L : Int) by omega), ?_⟩⟩⟩⟩⟩⟩⟩⟩⟩)
  show Wp 3338 (z_loc i) [.inr (.inr (.ref 161)), .inl (J 2000000 (i + 3)), .inl (J 2000000 (i + 2)), .inl (J 2000000 (i + 1)), .inr (.inr (.ref 0))] (m_Ex g T, J, X) bc bs
  refine hw m_we_42 5 355 1592 3338 m_wok_42 rfl m_wl_42 m_wd9_42 _ _ _ _ _ 4 24 _ rfl (Nat.le_of_ble_eq_true rfl) (s_bestOrder (d := 0) hq (fun o S1 h => by obtain ⟨J1, X1, t, v, e1, e2, e3, e4⟩ := hQ o S1 h; exact ⟨J1, X1, t, v, e1, e2, e4⟩)) (by omega) (by omega) (fun o S1 h => ?_)
  obtain ⟨J1, X2, t, v, rfl, hP, rfl, hv0⟩ := h
  refine ⟨_, rfl, ?_⟩
  show Wp 3341 (z_loc i) [.inl t] (m_Ex g T, J1, X2) _ _
  refine hsc _ _ _ _ _ _ (fun h5 h6 hE h7 => ?_)
  obtain ⟨Q2, hq2, hQ2⟩ := hP X2
  rw [← z_scE hx h5 (i + 1) (by omega)] at hq2
  rw [← z_scE hx h5 (i + 2) (by omega)] at hq2
  rw [← z_scE hx h5 (i + 3) (by omega)] at hq2
  refine hs m_lw_56 m_sl_56 400 [(3710, 6)] [] 3341 _ _ _ _ _ (⟨rfl, ⟨(show -2147483648 ≤ i + 1 ∧ i + 1 ≤ 2147483647 by omega), ⟨z_scr hE h6 (show 0 ≤ i + 1 by omega) (show i + 1 < (L : Int) by omega), ⟨rfl, ⟨(show -2147483648 ≤ i + 2 ∧ i + 2 ≤ 2147483647 by omega), ⟨z_scr hE h6 (show 0 ≤ i + 2 by omega) (show i + 2 < (L : Int) by omega), ⟨rfl, ⟨(show -2147483648 ≤ i + 3 ∧ i + 3 ≤ 2147483647 by omega), ⟨z_scr hE h6 (show 0 ≤ i + 3 by omega) (show i + 3 < (L : Int) by omega), ⟨_, _, rfl, z_k148, rfl, rfl, ⟨0, 0, Q2, hq2, Nat.zero_le _, Nat.zero_le _, fun o S2 hS2 h2 => ?_⟩⟩⟩⟩⟩⟩⟩⟩⟩⟩⟩)
  obtain ⟨J2, rfl, rfl, ht, hI2⟩ := hQ2 o S2 h2
  refine ⟨_, _, rfl, z_k148, rfl, rfl, ⟨0, 0, _, p_thrown (d := 11), Nat.zero_le _, Nat.zero_le _, fun o3 S3 _ h3 => ?_⟩⟩
  obtain ⟨rfl, rfl⟩ := h3
  have hK : ∀ b9 s9 : Nat, 4 * n + 300 * x_nn g ≤ b9 → 24 * n + 30000 * x_nn g ≤ s9 → Wp 3710 (z_loc i) [] (m_Ex g T, J2, X2) b9 s9 := fun b9 s9 a9 c9 => K g T J2 X2 b9 s9 hI2 a9 c9
  refine ⟨fun _ => ⟨fun _ => hK _ _ (by omega) (by omega), fun c => ⟨rfl, ⟨⟨_, _, z_k161, by decide⟩, ⟨fun _ => hK _ _ (by omega) (by omega), fun c5 => ?_⟩⟩⟩⟩, fun c => absurd ht c⟩
  refine absurd ?_ c5
  have hv := hv0 c
  show (if v < X2.1 161 0 then (1 : Int) else if X2.1 161 0 = v then 0 else -1) = 0
  rw [hv]; exact z_lc0
set_option maxRecDepth 20000 in
theorem c_law55 (A : z_LC l L xs Wp) (hI : x_I g T J) (h0 : 0 ≤ i) (h1 : i + 6 ≤ L) (hL : L ≤ 3072) (hx : ∀ k : Nat, J 2000000 k = (xs k).toInt) (hJ : (J 2000001 0).toNat = L) (hE : (m_Ex g T)[2000000]? = none) (hS : z_okS (m_Ex g T, J, X)) (hb : 4 * (n + 1) + 300 * x_nn g ≤ bc) (hb2 : 24 * (n + 1) + 30000 * x_nn g ≤ bs) (K : z_LK Wp i n) : Wp 3398 (z_loc i) [] (m_Ex g T, J, X) bc bs := by
  obtain ⟨hs, hw, hsc, -⟩ := A
  obtain ⟨Q1, hq, hQ⟩ := r_mostServed (l := l) (d := 0) hI (r := J 2000000 (i + 1)) X
  refine hs m_lw_57 m_sl_57 400 [(3406, 6)] [] 3398 _ _ _ _ _ (⟨rfl, ⟨(show -2147483648 ≤ i + 1 ∧ i + 1 ≤ 2147483647 by omega), ⟨z_scr hE hJ (show 0 ≤ i + 1 by omega) (show i + 1 < (L : Int) by omega), ?_⟩⟩⟩)
  show Wp 3406 (z_loc i) [.inr (.inr (.ref 161)), .inl (J 2000000 (i + 1)), .inr (.inr (.ref 0))] (m_Ex g T, J, X) bc bs
  refine hw m_we_43 3 358 1599 3406 m_wok_43 rfl m_wl_43 m_wd9_43 _ _ _ _ _ 4 24 _ rfl (Nat.le_of_ble_eq_true rfl) (s_mostServed (d := 0) hq (fun o S1 h => by obtain ⟨J1, X1, t, v, e1, e2, e3, e4⟩ := hQ o S1 h; exact ⟨J1, X1, t, v, e1, e2, e4, e3⟩)) (by omega) (by omega) (fun o S1 h => ?_)
  obtain ⟨J1, X2, t, v, rfl, hP, rfl, hv0⟩ := h
  refine ⟨_, rfl, ?_⟩
  show Wp 3409 (z_loc i) [.inl t] (m_Ex g T, J1, X2) _ _
  refine hsc _ _ _ _ _ _ (fun h5 h6 hE h7 => ?_)
  obtain ⟨Q2, hq2, hQ2⟩ := hP X2
  rw [← z_scE hx h5 (i + 1) (by omega)] at hq2
  refine hs m_lw_57 m_sl_57 400 [(3710, 6)] [] 3409 _ _ _ _ _ (⟨rfl, ⟨(show -2147483648 ≤ i + 1 ∧ i + 1 ≤ 2147483647 by omega), ⟨z_scr hE h6 (show 0 ≤ i + 1 by omega) (show i + 1 < (L : Int) by omega), ⟨_, _, rfl, z_k148, rfl, rfl, ⟨0, 0, Q2, hq2, Nat.zero_le _, Nat.zero_le _, fun o S2 hS2 h2 => ?_⟩⟩⟩⟩⟩)
  obtain ⟨J2, rfl, rfl, ht, hI2⟩ := hQ2 o S2 h2
  refine ⟨_, _, rfl, z_k148, rfl, rfl, ⟨0, 0, _, p_thrown (d := 11), Nat.zero_le _, Nat.zero_le _, fun o3 S3 _ h3 => ?_⟩⟩
  obtain ⟨rfl, rfl⟩ := h3
  have hK : ∀ b9 s9 : Nat, 4 * n + 300 * x_nn g ≤ b9 → 24 * n + 30000 * x_nn g ≤ s9 → Wp 3710 (z_loc i) [] (m_Ex g T, J2, X2) b9 s9 := fun b9 s9 a9 c9 => K g T J2 X2 b9 s9 hI2 a9 c9
  refine ⟨fun _ => ⟨fun _ => hK _ _ (by omega) (by omega), fun c => ⟨rfl, ⟨⟨_, _, z_k161, by decide⟩, ⟨fun _ => hK _ _ (by omega) (by omega), fun c5 => ?_⟩⟩⟩⟩, fun c => absurd ht c⟩
  refine absurd ?_ c5
  have hv := hv0 c
  show (if v < X2.1 161 0 then (1 : Int) else if X2.1 161 0 = v then 0 else -1) = 0
  rw [hv]; exact z_lc0
end L2
