/-! the reference: two parties at once -/
def y_tk2 (q : Int → Int) (i j : Int) : Int → Int := fun s => if y_blk q j s = true then 1 else y_taken q i s
def y_jw (q : Int → Int) (i j r e : Int) : Int := y_win (y_free q r) (y_tk2 q i j) (y_size q i + y_size q j) (q (10 + 14 * r + 2)) (max e (q 0)) (min (min (y_late q i) (y_late q j)) (q (10 + 14 * r + 4)))
def o_issueJoint (q : Int → Int) (i j r e : Int) : Int × Int := y_need (((0 ≤ i ∧ i < q 3) ∧ (0 ≤ j ∧ j < q 3)) ∧ (0 ≤ r ∧ r < q 1)) 1 (y_need (i ≠ j ∧ (0 ≤ e ∧ e ≤ 143)) 2 (0, if y_check q i r ≠ 0 then y_check q i r else if y_check q j r ≠ 0 then y_check q j r else if 148 < q 5 then -6 else if y_jw q i j r e = -1 then -4 else q 5))
def k_both (q : Int → Int) (i j r s : Int) : Int → Int := k_leave (k_leave (k_add (k_add q i r s) j r s) i r) j r
def k_issueJoint (q : Int → Int) (i j r e : Int) : Int → Int := if (o_issueJoint q i j r e).1 = 0 ∧ 0 ≤ (o_issueJoint q i j r e).2 then k_both q i j r (y_jw q i j r e) else q
theorem y_jw_pos {q : Int → Int} (hb : y_base q) {i j r e : Int} (hi : 0 ≤ i ∧ i < q 3) (hj : 0 ≤ j ∧ j < q 3) (hr : 0 ≤ r ∧ r < q 1) (he : 0 ≤ e) (h1 : y_jw q i j r e ≠ -1) : (q (10 + 14 * r + 3) ≤ y_jw q i j r e ∧ y_jw q i j r e ≤ q (10 + 14 * r + 4)) ∧ (0 ≤ y_jw q i j r e ∧ y_jw q i j r e ≤ 143) := by
  have r3 := (hb.ride hr.1 hr.2).2.2.2.1
  have p := hb.party hi.1 hi.2
  have p2 := hb.party hj.1 hj.2
  unfold y_jw at *
  have h2 := y_win_spec h1 (by omega)
  generalize y_win (y_free q r) (y_tk2 q i j) (y_size q i + y_size q j) (q (10 + 14 * r + 2)) (max e (q 0)) (min (min (y_late q i) (y_late q j)) (q (10 + 14 * r + 4))) = v at *
  have h3 : 1 ≤ y_planned q r v := by
    have b := y_charged_b hb (r := r) (s := v)
    have := h2.2.2
    unfold y_free y_size at this
    omega
  have h4 : q (10 + 14 * r + 3) ≤ v ∧ v ≤ q (10 + 14 * r + 4) := by
    unfold y_planned y_pw at h3
    by_cases h9 : q (10 + 14 * r + 3) ≤ v ∧ v ≤ q (10 + 14 * r + 4)
    · exact h9
    · rw [if_neg h9] at h3; omega
  omega
theorem y_act_add {q : Int → Int} (hb : y_base q) {i j r s : Int} (hi : 0 ≤ i ∧ i < q 3) (hj : j ≠ i) : y_act (k_add q i r s) j (k_add q i r s 5).toNat = y_act q j (q 5).toNat := by
  obtain ⟨h0, h1, h2, h3, h4, h5⟩ := hb.1
  have hi2 : 0 ≤ i ∧ i < 50 := by omega
  have O := fun j => k_add_old (q := q) (r := r) (s := s) hi2 h5.1 (j := j)
  have N := k_add_new (q := q) (r := r) (s := s) hi2 h5.1
  have C : ((q 5).toNat : Int) = q 5 := by omega
  rw [k_add_5 hi2 h5.1, show (q 5 + 1).toNat = (q 5).toNat + 1 by omega]
  unfold y_act
  rw [y_sum, C, N.1, if_neg (fun z => hj z.1.symm), Int.add_zero]
  refine y_sum_congr (fun k hk => ?_)
  rw [O _ (by omega) (by omega) (by omega), O _ (by omega) (by omega) (by omega)]
section R14
variable {l : Launch} {d : Nat} {g : List (Option Nat)} {T : m_E} {J : z_J} {X : z_X}
theorem p_issueJoint (hb : y_base (J 149)) {i j r e : Int} : z_Sem l (d + 5) M_R_issueJoint [.inr (.inr (.ref 148)), .inl i, .inl j, .inl r, .inl e] (m_Ex g T, J, X) 0 0 (z_rq (m_Ex g T) (fun v J' X' => X' = X ∧ y_tp J (k_issueJoint (J 149) i j r e) (o_issueJoint (J 149) i j r e).1 J' ∧ v = (o_issueJoint (J 149) i j r e).2)) := by
  obtain ⟨h0, h1, h2, h3, h4, h5⟩ := hb.1
  have bad : ∀ (w x : Int), o_issueJoint (J 149) i j r e = (w, x) → (w ≠ 0 ∨ x < 0) → ∀ J1, y_tp J (J 149) w J1 → z_rq (m_Ex g T) (fun v J' X' => X' = X ∧ y_tp J (k_issueJoint (J 149) i j r e) (o_issueJoint (J 149) i j r e).1 J' ∧ v = (o_issueJoint (J 149) i j r e).2) (.inl (some (.inl x))) (m_Ex g T, J1, X) := by
    intro w x ho hn J1 hJ
    rw [k_issueJoint, ho, if_neg (by show ¬ (w = 0 ∧ 0 ≤ x); omega)]
    exact ⟨_, _, _, rfl, rfl, rfl, hJ, rfl⟩
  have t1 : ¬ (((0 ≤ i ∧ i < J 149 3) ∧ (0 ≤ j ∧ j < J 149 3)) ∧ (0 ≤ r ∧ r < J 149 1)) → z_rq (m_Ex g T) (fun v J' X' => X' = X ∧ y_tp J (k_issueJoint (J 149) i j r e) (o_issueJoint (J 149) i j r e).1 J' ∧ v = (o_issueJoint (J 149) i j r e).2) (.inl (some (.inl 0))) (m_Ex g T, z_u (z_u J 148 2 0) 148 2 1, X) := fun hn => bad 1 0 (by rw [o_issueJoint, y_need_n hn]) (by omega) _ y_tp.th
  have t2 : (((0 ≤ i ∧ i < J 149 3) ∧ (0 ≤ j ∧ j < J 149 3)) ∧ (0 ≤ r ∧ r < J 149 1)) → ¬ (i ≠ j ∧ (0 ≤ e ∧ e ≤ 143)) → z_rq (m_Ex g T) (fun v J' X' => X' = X ∧ y_tp J (k_issueJoint (J 149) i j r e) (o_issueJoint (J 149) i j r e).1 J' ∧ v = (o_issueJoint (J 149) i j r e).2) (.inl (some (.inl 0))) (m_Ex g T, z_u (z_u J 148 2 0) 148 2 2, X) := fun hp hn => bad 2 0 (by rw [o_issueJoint, y_need_2 hp, y_need_n hn]) (by omega) _ y_tp.th
  refine z_sem_of z_m245 m_ok_245 (Nat.le_of_ble_eq_true rfl) (fun Wp hs hv hS => ?_)
  refine w_245_0 hs ?_
  refine ⟨by omega, fun c => t1 (by omega), fun c => ⟨fun c1 => t1 (by omega), fun c1 => ⟨by omega, fun c2 => t1 (by omega), fun c2 => ⟨fun c3 => t1 (by omega), fun c3 => ⟨by omega, fun c4 => t1 (by omega), fun c4 => ⟨fun c5 => t1 (by omega), fun c5 => ⟨fun c6 => t2 (by omega) (by omega), fun c6 => ⟨fun c7 => t2 (by omega) (by omega), fun c7 => ⟨fun c8 => t2 (by omega) (by omega), fun c8 => ?_⟩⟩⟩⟩⟩⟩⟩⟩⟩
  have hi : 0 ≤ i ∧ i < J 149 3 := ⟨c, by omega⟩
  have hj : 0 ≤ j ∧ j < J 149 3 := ⟨c2, by omega⟩
  have hr : 0 ≤ r ∧ r < J 149 1 := ⟨c4, by omega⟩
  have he : 0 ≤ e ∧ e ≤ 143 := ⟨c7, c8⟩
  have pi := hb.party hi.1 hi.2
  have pj := hb.party hj.1 hj.2
  obtain ⟨-, -, r2, r3, -⟩ := hb.ride hr.1 hr.2
  have P : ∀ x, o_issueJoint (J 149) i j r e = (0, x) ↔ (if y_check (J 149) i r ≠ 0 then y_check (J 149) i r else if y_check (J 149) j r ≠ 0 then y_check (J 149) j r else if 148 < J 149 5 then -6 else if y_jw (J 149) i j r e = -1 then -4 else J 149 5) = x := by
    intro x
    rw [o_issueJoint, y_need_2 ⟨⟨hi, hj⟩, hr⟩, y_need_2 ⟨c6, he⟩]
    exact ⟨fun z => (Prod.mk.inj z).2, fun z => by rw [z]⟩
  have k1 := y_check_le (q := J 149) (i := i) (r := r)
  have k2 := y_check_le (q := J 149) (i := j) (r := r)
  refine z_cI (c_check (J := z_u J 148 2 0) hb hi hr) ⟨fun c9 => ⟨fun c10 => absurd c10 c9, fun c10 => ?_⟩, fun c9 => ?_⟩
  · have c9 : y_check (J 149) i r ≠ 0 := c9
    exact bad 0 _ ((P _).mpr (by rw [if_pos c9])) (Or.inr (show y_check (J 149) i r < 0 by omega)) _ y_tp.th0
  have c9 : y_check (J 149) i r = 0 := c9
  refine z_cI (c_check (J := z_u J 148 2 0) hb hj hr) ⟨fun c10 => ⟨fun c11 => ?_, fun c11 => ?_⟩, fun c10 => ?_⟩
  · have c10 : y_check (J 149) j r = 0 := c10
    have c11 : J 149 5 ≤ 148 := c11
    refine z_cVq (c_layLeft (J := z_u J 148 2 0) hb) ?_
    rintro J2 X2 ⟨rfl, f, rfl, hf⟩
    refine z_cVq (c_layBlocked (J := z_row (z_u J 148 2 0) 151 f) hb) ?_
    rintro J3 X3 ⟨rfl, f', rfl, hf'⟩
    refine z_cVq (c_addBlocked (J := z_row (z_row (z_u J 148 2 0) 151 f) 152 f') hb) ?_
    rintro J4 X4 ⟨rfl, f2, rfl, hf2⟩
    have tt : y_to (z_u J 148 2 0) (J 149) (z_row (z_row (z_row (z_u J 148 2 0) 151 f) 152 f') 152 f2) := (y_to.sc (J := z_u J 148 2 0)).tr y_to.sc2
    have w1 : (z_row (z_row (z_row (z_u J 148 2 0) 151 f) 152 f') 152 f2) 149 = J 149 := rfl
    have w2 : (z_row (z_row (z_row (z_u J 148 2 0) 151 f) 152 f') 152 f2) 151 = f := rfl
    have w3 : (z_row (z_row (z_row (z_u J 148 2 0) 151 f) 152 f') 152 f2) 152 = f2 := rfl
    rw [w1]
    generalize z_row (z_row (z_row (z_u J 148 2 0) 151 f) 152 f') 152 f2 = J5 at *
    have hb5 : y_base (J5 149) := by rw [w1]; exact hb
    refine ⟨by omega, z_cI (c_latest (J := J5) hb5 (by rw [w1]; exact hi)) (z_cI (c_latest (J := J5) hb5 (by rw [w1]; exact hj)) (z_cI (c_firstWindow (J := J5) hb5 (by rw [w1]; exact hr) he.1) ?_))⟩
    rw [w1, w2, w3]
    have key : y_win (fun s => f (144 * r + s)) f2 (J 149 (138 + 3 * i + 1) + J 149 (138 + 3 * j + 1)) (J 149 (10 + 14 * r + 2)) (max e (J 149 0)) (min (min (J 149 0 + J 149 (122 + 4 * J 149 (138 + 3 * i + 0) + 1)) (J 149 0 + J 149 (122 + 4 * J 149 (138 + 3 * j + 0) + 1))) (J 149 (10 + 14 * r + 4))) = y_jw (J 149) i j r e := by
      refine y_win_congr (fun s a1 a2 => ?_) (fun s a1 a2 => ?_)
      · exact hf r s hr.1 hr.2 (by omega) (by omega)
      · rw [hf2 s (by omega) (by omega), y_tk2]
        rw [show (z_row (z_row (z_u J 148 2 0) 151 f) 152 f') 149 = J 149 from rfl, show (z_row (z_row (z_u J 148 2 0) 151 f) 152 f') 152 = f' from rfl, hf' s (by omega) (by omega)]
        rfl
    simp only [Int.add_assoc] at key ⊢
    rw [key]
    refine ⟨fun c12 => ?_, fun c12 => bad 0 (-4) ((P _).mpr (by rw [if_neg (fun z => z c9), if_neg (fun z => z c10), if_neg (by omega), if_pos c12])) (by omega) _ tt.tp⟩
    have sp := y_jw_pos hb hi hj hr he.1 c12
    have ho := (P _).mpr (by rw [if_neg (fun z => z c9), if_neg (fun z => z c10), if_neg (by omega), if_neg c12])
    have ba := y_base_add hb hi hr sp.1 (by omega) (y_check_0 hb hi c9)
    have ea := k_add_13 hb (s := y_jw (J 149) i j r e) hi hr
    have e5 : k_add (J 149) i r (y_jw (J 149) i j r e) 5 = J 149 5 + 1 := k_add_5 (by omega) h5.1
    have hj1 : 0 ≤ j ∧ j < k_add (J 149) i r (y_jw (J 149) i j r e) 3 := by rw [ea.2.2.1]; exact hj
    have hr1 : 0 ≤ r ∧ r < k_add (J 149) i r (y_jw (J 149) i j r e) 1 := by rw [ea.2.1]; exact hr
    have o3 : k_add (J 149) i r (y_jw (J 149) i j r e) (10 + 14 * r + 3) = J 149 (10 + 14 * r + 3) := k_add_old (by omega) h5.1 (by omega) (by omega) (by omega)
    have o4 : k_add (J 149) i r (y_jw (J 149) i j r e) (10 + 14 * r + 4) = J 149 (10 + 14 * r + 4) := k_add_old (by omega) h5.1 (by omega) (by omega) (by omega)
    have bb := y_base_add (s := y_jw (J 149) i j r e) ba hj1 hr1 (by rw [o3, o4]; exact sp.1) (by rw [e5]; omega) (by rw [y_act_add hb hi (fun z => c6 z.symm)]; exact y_check_0 hb hj c10)
    have eb := k_add_13 ba (s := y_jw (J 149) i j r e) hj1 hr1
    have hr2 : 0 ≤ r ∧ r < k_add (k_add (J 149) i r (y_jw (J 149) i j r e)) j r (y_jw (J 149) i j r e) 1 := by rw [eb.2.1]; exact hr1
    refine z_cI' (c_addTicket (J := J5) hb5 (by rw [w1]; exact hi) (by rw [w1]; exact hr) sp.2 (by rw [w1]; omega)) ?_
    rw [w1]
    intro J6 hJ6
    have t6 : y_to (z_u J 148 2 0) (k_add (J 149) i r (y_jw (J 149) i j r e)) J6 := by rw [hJ6]; exact tt.tr y_to.put
    refine z_cI' (c_addTicket (J := J6) (by rw [t6.1]; exact ba) (by rw [t6.1]; exact hj1) (by rw [t6.1]; exact hr1) sp.2 (by rw [t6.1, e5]; omega)) ?_
    rw [t6.1]
    intro J7 hJ7
    have t7 : y_to (z_u J 148 2 0) (k_add (k_add (J 149) i r (y_jw (J 149) i j r e)) j r (y_jw (J 149) i j r e)) J7 := by rw [hJ7]; exact t6.tr y_to.put
    refine z_cV' (c_leave (J := J7) (by rw [t7.1]; exact bb) (by rw [t7.1]; exact hr2)) ?_
    rw [t7.1]
    intro J8 hJ8
    have t8 : y_to (z_u J 148 2 0) (k_leave (k_add (k_add (J 149) i r (y_jw (J 149) i j r e)) j r (y_jw (J 149) i j r e)) i r) J8 := by rw [hJ8]; exact t7.tr y_to.put
    have bl := y_base_leave (i := i) bb hr2
    have hr3 : 0 ≤ r ∧ r < k_leave (k_add (k_add (J 149) i r (y_jw (J 149) i j r e)) j r (y_jw (J 149) i j r e)) i r 1 := by rw [k_leave_old hr.1 (by omega) (by omega)]; exact hr2
    refine z_cV' (c_leave (J := J8) (by rw [t8.1]; exact bl) (by rw [t8.1]; exact hr3)) ?_
    rw [t8.1]
    intro J9 hJ9
    rw [k_issueJoint, ho, if_pos ⟨rfl, h5.1⟩]
    exact ⟨_, _, _, rfl, rfl, rfl, (show y_to (z_u J 148 2 0) (k_both (J 149) i j r (y_jw (J 149) i j r e)) J9 by rw [hJ9]; exact t8.tr y_to.put).tp, rfl⟩
  · have c11 : 148 < J 149 5 := c11
    exact bad 0 (-6) ((P _).mpr (by rw [if_neg (fun z => z c9), if_neg (fun z => z (show y_check (J 149) j r = 0 from c10)), if_pos c11])) (by omega) _ y_tp.th0
  · have c10 : y_check (J 149) j r ≠ 0 := c10
    exact bad 0 _ ((P _).mpr (by rw [if_neg (fun z => z c9), if_pos c10])) (Or.inr (show y_check (J 149) j r < 0 by omega)) _ y_tp.th0
end R14
