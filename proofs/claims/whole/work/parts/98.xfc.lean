/-! the class: forecasting -/
section Q19
variable {l : Launch} {d : Nat} {g : List (Option Nat)} {T : m_E} {J : z_J} {X : z_X} {q : Int → Int}
theorem e_fitting {E : m_E} {ln la lb ll n o : Nat} {rm : Int} {f : Int → Int} (hc : E[ln]? = some (.inl 4, [some la, some lb, none])) (hc1 : E[la]? = some (.inr (.int, ll), [])) (hc2 : E[lb]? = some (.inr (.int, ll), [])) (hn : J ln 2 = n) (hl : n ≤ ll) (h150 : n ≤ 150) (ho : o ≤ n) (hr : 0 ≤ rm ∧ rm ≤ 1000) (hf : ∀ k : Nat, k < n → J la k = f k) (hb : ∀ k : Nat, k < n → 0 ≤ f k ∧ f k ≤ 12) : z_Sem l (d + 1) M_Line_fitting [.inr (.inr (.ref ln)), .inl o, .inl rm] (E, J, X) 0 0 (z_ret (.inl (y_fit f (n - o) o rm : Nat)) (E, J, X)) := by
  refine z_sem_of z_m63 m_ok_63 (Nat.le_of_ble_eq_true rfl) (fun Wp hs hv hS => ?_)
  have loop : ∀ (m i c : Nat) (p : Int), i + m = n → c ≤ i → 0 ≤ p ∧ p ≤ rm → c + y_fit f m i (rm - p) = y_fit f (n - o) o rm → Wp 12 [some (.inr (.inr (.ref ln))), some (.inl o), some (.inl rm), some (.inl p), some (.inl c), some (.inl i)] [] (E, J, X) 0 0 := by
    intro m
    induction m with
    | zero =>
      intro i c p hi hci hp he
      refine w_63_12 hc hc1 hc2 hs ?_
      rw [hn]
      refine ⟨fun c9 => ⟨z_wi ?_, rfl⟩, fun c9 => by omega⟩
      rw [← he, y_fit, Nat.add_zero]
    | succ m ih =>
      intro i c p hi hci hp he
      have b := hb i (by omega)
      rw [y_fit] at he
      refine w_63_12 hc hc1 hc2 hs ?_
      rw [hn, hf i (by omega)]
      refine ⟨fun c9 => by omega, fun c9 => ⟨by omega, fun c1 => ⟨by omega, ?_⟩, fun c1 => ⟨z_wi ?_, rfl⟩⟩⟩
      · rw [if_pos (by omega)] at he
        exact ih (i + 1) (c + 1) (p + f i) (by omega) (by omega) (by omega) (by rw [← he, show ((i + 1 : Nat) : Int) = (i : Int) + 1 from rfl, show rm - (p + f i) = rm - p - f i by omega]; omega)
      · rw [if_neg (by omega)] at he
        rw [← he, Nat.add_zero]
  refine w_63_0 hc hc1 hc2 hs ?_
  rw [show max (o : Int) 0 = o by omega]
  exact loop (n - o) o 0 0 (by omega) (by omega) (by omega) (by rw [Int.sub_zero, Nat.zero_add])
theorem e_personsO {E : m_E} {ln la lb ll n o m : Nat} {f : Int → Int} (hc : E[ln]? = some (.inl 4, [some la, some lb, none])) (hc1 : E[la]? = some (.inr (.int, ll), [])) (hc2 : E[lb]? = some (.inr (.int, ll), [])) (hn : J ln 2 = n) (hl : n ≤ ll) (h150 : n ≤ 150) (ho : o + m ≤ n) (hf : ∀ k : Nat, k < n → J la k = f k) (hb : ∀ k : Nat, k < n → 0 ≤ f k ∧ f k ≤ 12) : z_Sem l (d + 1) M_Line_personsIn [.inr (.inr (.ref ln)), .inl o, .inl m] (E, J, X) 0 0 (z_ret (.inl (y_fsum f m o)) (E, J, X)) := by
  refine z_sem_of z_m61 m_ok_61 (Nat.le_of_ble_eq_true rfl) (fun Wp hs hv hS => ?_)
  have loop : ∀ (k i : Nat) (a : Int), i + k = o + m → 0 ≤ a ∧ a ≤ 12 * i → a + y_fsum f k i = y_fsum f m o → Wp 21 [some (.inr (.inr (.ref ln))), some (.inl o), some (.inl m), some (.inl a), some (.inl (o + m)), some (.inl i)] [] (E, J, X) 0 0 := by
    intro k
    induction k with
    | zero =>
      intro i a hi ha he
      refine w_61_21 hc hc1 hc2 hs ?_
      refine ⟨fun c => ⟨z_wi ?_, rfl⟩, fun c => by omega⟩
      rw [← he, y_fsum, Int.add_zero]
    | succ k ih =>
      intro i a hi ha he
      have b := hb i (by omega)
      rw [y_fsum] at he
      refine w_61_21 hc hc1 hc2 hs ?_
      rw [hf i (by omega)]
      refine ⟨fun c => by omega, fun c => ⟨by omega, ih (i + 1) _ (by omega) (by omega) ?_⟩⟩
      rw [← he, show ((i + 1 : Nat) : Int) = (i : Int) + 1 from rfl]
      omega
  refine w_61_0 hc hc1 hc2 hs ?_
  rw [hn, show min ((o : Int) + m) n = o + m by omega, show max (o : Int) 0 = o by omega]
  exact ⟨by omega, loop m o 0 (by omega) (by omega) (by omega)⟩
theorem e_waitOfNewGroup {r w : Int} (hb : y_base q) (h : x_day 36 q J) (hr : 0 ≤ r ∧ r < q 1) (hw : 1 ≤ w ∧ w ≤ 12) : z_Sem l (d + 2) M_Day_waitOfNewGroup [.inr (.inr (.ref 36)), .inl r, .inl w] (m_Ex g T, J, X) 0 0 (z_ret (.inl (o_forecastStandby q r w).2) (m_Ex g T, J, X)) := by
  obtain ⟨b0, b1, b2, b3, b4, b5⟩ := hb.1
  have rd := hb.ride hr.1 hr.2
  obtain ⟨r0, r1, r2, r3, r5, r6, r7, -⟩ := rd
  have lns := (hb.2.1 r hr.1 hr.2).2.1
  have x := h.line hr.1 hr.2
  have xr := h.ride hr.1 hr.2
  have d0 := h.hd.1
  have hr8 : 0 ≤ r ∧ r < 8 := by omega
  have ho : (o_forecastStandby q r w).2 = if q (10 + 14 * r + 5) = 0 then y_fc q r w (144 - q 0).toNat (q 0) 0 0 else -1 := by rw [o_forecastStandby, y_need_2 hr, y_need_2 hw]
  have bm : ∀ k : Nat, k < (q (10 + 14 * r + 6)).toNat → 0 ≤ y_pi q (1188 + 300 * r) k ∧ y_pi q (1188 + 300 * r) k ≤ 12 := fun k hk => by have := lns.1 k (by omega) (by omega); unfold y_pi; omega
  have bs9 : ∀ k : Nat, k < (q (10 + 14 * r + 7)).toNat → 0 ≤ y_pi q (3588 + 122 * r) k ∧ y_pi q (3588 + 122 * r) k ≤ 12 := fun k hk => by have := lns.2 k (by omega) (by omega); unfold y_pi; omega
  have Fm := fun (d o : Nat) (rm : Int) => e_fitting (l := l) (d := d) (E := m_Ex g T) (J := J) (X := X) (n := (q (10 + 14 * r + 6)).toNat) (o := o) (rm := rm) (f := y_pi q (1188 + 300 * r)) (z_ka75 hr8) (z_ka75_1 hr8) (z_ka75_2 hr8) (by rw [x.1]; omega) (by omega) (by omega)
  have Pm := fun (d o m : Nat) => e_personsO (l := l) (d := d) (E := m_Ex g T) (J := J) (X := X) (n := (q (10 + 14 * r + 6)).toNat) (o := o) (m := m) (f := y_pi q (1188 + 300 * r)) (z_ka75 hr8) (z_ka75_1 hr8) (z_ka75_2 hr8) (by rw [x.1]; omega) (by omega) (by omega)
  have Fs := fun (d o : Nat) (rm : Int) => e_fitting (l := l) (d := d) (E := m_Ex g T) (J := J) (X := X) (n := (q (10 + 14 * r + 7)).toNat) (o := o) (rm := rm) (f := y_pi q (3588 + 122 * r)) (z_ka76 hr8) (z_ka76_1 hr8) (z_ka76_2 hr8) (by rw [x.2.1]; omega) (by omega) (by omega)
  have Ps := fun (d o m : Nat) => e_personsO (l := l) (d := d) (E := m_Ex g T) (J := J) (X := X) (n := (q (10 + 14 * r + 7)).toNat) (o := o) (m := m) (f := y_pi q (3588 + 122 * r)) (z_ka76 hr8) (z_ka76_1 hr8) (z_ka76_2 hr8) (by rw [x.2.1]; omega) (by omega) (by omega)
  have fm : ∀ k : Nat, k < (q (10 + 14 * r + 6)).toNat → J (78 + 6 * r.toNat) k = y_pi q (1188 + 300 * r) k := fun k hk => (x.2.2.1 k (by omega) (by omega)).1
  have fs : ∀ k : Nat, k < (q (10 + 14 * r + 7)).toNat → J (81 + 6 * r.toNat) k = y_pi q (3588 + 122 * r) k := fun k hk => (x.2.2.2 k (by omega) (by omega)).1
  have lc : y_loc q r := y_loc_of b0 (hb.ride hr.1 hr.2) lns
  refine z_sem_of z_m16 m_ok_16 (Nat.le_of_ble_eq_true rfl) (fun Wp hs hv hS => ?_)
  have loop : q (10 + 14 * r + 5) = 0 → ∀ (n : Nat) (s : Int) (a b : Nat), s + n = 144 → 0 ≤ s → q (10 + 14 * r + 3) ≤ s → q 0 ≤ s → a ≤ (q (10 + 14 * r + 6)).toNat → b ≤ (q (10 + 14 * r + 7)).toNat → y_fc q r w n s a b = (o_forecastStandby q r w).2 → Wp 48 [some (.inr (.inr (.ref 36))), some (.inl r), some (.inl w), some (.inl (q (10 + 14 * r + 0))), some (.inl a), some (.inl b), some (.inl s), none, none, none] [] (m_Ex g T, J, X) 0 0 := by
    intro hdn n
    induction n with
    | zero =>
      intro s a b hsn h0 hf hq0 ha hb9 he
      refine w_16_48 hs ?_
      rw [xr.2.2.2.2.1]
      refine ⟨by omega, fun c => ⟨z_wi ?_, rfl⟩, fun c => by omega⟩
      rw [← he]; rfl
    | succ n ih =>
      intro s a b hsn h0 hf hq0 ha hb9 he
      refine w_16_48 hs ?_
      rw [xr.2.2.2.2.1]
      refine ⟨by omega, fun c => ⟨z_wi ?_, rfl⟩, fun c => ⟨by omega, z_cI (e_plannedIn hb h hr) ?_⟩⟩
      · rw [← he, y_fc_late c]
      have pl := y_planned_L (s := s) lc
      obtain ⟨e, hE⟩ : ∃ e, y_fit (y_pi q (1188 + 300 * r)) (q (10 + 14 * r + 6) - a).toNat a (y_planned q r s) = e := ⟨_, rfl⟩
      have fe : y_fit (y_pi q (1188 + 300 * r)) ((q (10 + 14 * r + 6)).toNat - a) a (y_planned q r s) = e := by rw [← hE, show (q (10 + 14 * r + 6) - (a : Int)).toNat = (q (10 + 14 * r + 6)).toNat - a by omega]
      have le1 : e ≤ (q (10 + 14 * r + 6)).toNat - a := by rw [← fe]; exact y_fit_le
      have b1 : ∀ (o : Nat) (rm : Int), o ≤ (q (10 + 14 * r + 6)).toNat → 0 ≤ rm → 0 ≤ y_fsum (y_pi q (1188 + 300 * r)) (y_fit (y_pi q (1188 + 300 * r)) ((q (10 + 14 * r + 6)).toNat - o) o rm) o ∧ y_fsum (y_pi q (1188 + 300 * r)) (y_fit (y_pi q (1188 + 300 * r)) ((q (10 + 14 * r + 6)).toNat - o) o rm) o ≤ rm := fun o rm h1 h2 => y_fit_b h2 (fun k hk => by
        have := lns.1 (o + k) (by omega) (by omega)
        unfold y_pi; omega)
      have b2 : ∀ (o : Nat) (rm : Int), o ≤ (q (10 + 14 * r + 7)).toNat → 0 ≤ rm → 0 ≤ y_fsum (y_pi q (3588 + 122 * r)) (y_fit (y_pi q (3588 + 122 * r)) ((q (10 + 14 * r + 7)).toNat - o) o rm) o ∧ y_fsum (y_pi q (3588 + 122 * r)) (y_fit (y_pi q (3588 + 122 * r)) ((q (10 + 14 * r + 7)).toNat - o) o rm) o ≤ rm := fun o rm h1 h2 => y_fit_b h2 (fun k hk => by
        have := lns.2 (o + k) (by omega) (by omega)
        unfold y_pi; omega)
      have i1 := b1 a (y_planned q r s) ha pl.1
      rw [fe] at i1
      obtain ⟨P1, hP1⟩ : ∃ P1, y_fsum (y_pi q (1188 + 300 * r)) e a = P1 := ⟨_, rfl⟩
      rw [hP1] at i1
      obtain ⟨k, hk⟩ : ∃ k, y_fit (y_pi q (3588 + 122 * r)) (q (10 + 14 * r + 7) - b).toNat b (q (10 + 14 * r + 0) - P1) = k := ⟨_, rfl⟩
      have fk : y_fit (y_pi q (3588 + 122 * r)) ((q (10 + 14 * r + 7)).toNat - b) b (q (10 + 14 * r + 0) - P1) = k := by rw [← hk, show (q (10 + 14 * r + 7) - (b : Int)).toNat = (q (10 + 14 * r + 7)).toNat - b by omega]
      have le2 : k ≤ (q (10 + 14 * r + 7)).toNat - b := by rw [← fk]; exact y_fit_le
      have i2 := b2 b (q (10 + 14 * r + 0) - P1) hb9 (by omega)
      rw [fk] at i2
      obtain ⟨S2, hS2⟩ : ∃ S2, y_fsum (y_pi q (3588 + 122 * r)) k b = S2 := ⟨_, rfl⟩
      rw [hS2] at i2
      obtain ⟨lt, hlt⟩ : ∃ lt, y_fit (y_pi q (1188 + 300 * r)) (q (10 + 14 * r + 6) - (a + e)).toNat (a + e) (q (10 + 14 * r + 0) - (P1 + S2)) = lt := ⟨_, rfl⟩
      have flt : y_fit (y_pi q (1188 + 300 * r)) ((q (10 + 14 * r + 6)).toNat - (a + e)) ((a + e : Nat) : Int) (q (10 + 14 * r + 0) - (P1 + S2)) = lt := by rw [← hlt, show (q (10 + 14 * r + 6) - ((a : Int) + e)).toNat = (q (10 + 14 * r + 6)).toNat - (a + e) by omega]; rfl
      have le3 : lt ≤ (q (10 + 14 * r + 6)).toNat - (a + e) := by rw [← flt]; exact y_fit_le
      have st := y_fc_s (w := w) (n := n) ⟨hf, c⟩ hE hP1 hk (by rw [hS2]) hlt
      rw [he] at st
      have A1 := Fm d a (y_planned q r s) ha (by omega) fm bm
      rw [fe] at A1
      have A2 := Pm d a e (by omega) fm bm
      rw [hP1] at A2
      have A3 := Fs d b (q (10 + 14 * r + 0) - P1) hb9 (by omega) fs bs9
      rw [fk] at A3
      have A4 := Ps d b k (by omega) fs bs9
      rw [hS2] at A4
      have A5 := Fm d (a + e) (q (10 + 14 * r + 0) - (P1 + S2)) (by omega) (by omega) fm bm
      rw [flt] at A5
      have nx := ih (s + 1) (a + e + lt) (b + k) (by omega) (by omega) (by omega) (by omega) (by omega) (by omega)
      refine z_cI A1 ⟨by omega, z_cI A2 ⟨by omega, by omega, by omega, z_cI A3 ⟨by omega, z_cI A4 ⟨by omega, by omega, ?_⟩⟩⟩⟩
      have x7 : J (80 + 6 * r.toNat) 2 = q (10 + 14 * r + 7) := x.2.1
      rw [x7, d0]
      refine ⟨fun c1 => ⟨by omega, by omega, z_cI A5 ⟨by omega, ?_⟩⟩, fun c1 => ⟨by omega, fun c2 => ⟨by omega, by omega, z_cI A5 ⟨by omega, ?_⟩⟩, fun c2 => ⟨by omega, z_wi ?_, rfl⟩⟩⟩
      · rw [if_neg (fun z => c1 z.1)] at st
        exact nx st.symm
      · rw [if_neg (fun z => by omega)] at st
        exact nx st.symm
      · rw [if_pos ⟨c1, c2⟩] at st
        exact st.symm
  refine w_16_0 hs ?_
  rw [xr.2.2.2.2.2.1, xr.1, xr.2.2.2.1, d0]
  refine ⟨by omega, fun c => ⟨by omega, ?_⟩, fun c => ⟨z_wi ?_, rfl⟩⟩
  · rw [if_pos c] at ho
    by_cases hlt : q (10 + 14 * r + 3) ≤ q 0
    · rw [show max (q 0) (q (10 + 14 * r + 3)) = q 0 by omega]
      exact loop c (144 - q 0).toNat (q 0) 0 0 (by omega) (by omega) hlt (by omega) (by omega) (by omega) ho.symm
    · rw [show max (q 0) (q (10 + 14 * r + 3)) = q (10 + 14 * r + 3) by omega]
      refine loop c (144 - q (10 + 14 * r + 3)).toNat (q (10 + 14 * r + 3)) 0 0 (by omega) (by omega) (by omega) (by omega) (by omega) (by omega) ?_
      rw [ho, show (144 - q 0).toNat = (q (10 + 14 * r + 3) - q 0).toNat + (144 - q (10 + 14 * r + 3)).toNat by omega, y_fc_early (by omega), show q 0 + ((q (10 + 14 * r + 3) - q 0).toNat : Int) = q (10 + 14 * r + 3) by omega]
      rfl
  · rw [ho, if_neg c]
theorem q_forecastStandby (hb : y_base q) (h : x_day 36 q J) {r w : Int} : z_Sem l (d + 3) M_Q_forecastStandby [.inr (.inr (.ref 0)), .inl r, .inl w] (m_Ex g T, J, X) 4 24 (x_out x_e1 x_e2 (o_forecastStandby q r w) (m_Ex g T) (fun J' X' => X' = X ∧ J' = J)) := by
  obtain ⟨b0, b1, b2, b3, b4, b5⟩ := hb.1
  obtain ⟨d0, d4, d1, d2, d3, d5⟩ := h.hd
  refine z_sem_of z_m171 m_ok_171 (Nat.le_of_ble_eq_true rfl) (fun Wp hs hv hS => ?_)
  refine w_171_0 hs ?_
  rw [d1]
  refine ⟨by omega, fun c => x_t1 (by rw [o_forecastStandby, y_need_n (by omega)]) ⟨rfl, rfl⟩, fun c => ⟨fun c1 => ⟨by omega, fun c2 => x_t2 (by rw [o_forecastStandby, y_need_2 (by omega), y_need_n (by omega)]) ⟨rfl, rfl⟩, fun c2 => ⟨fun c3 => ?_, fun c3 => x_t2 (by rw [o_forecastStandby, y_need_2 (by omega), y_need_n (by omega)]) ⟨rfl, rfl⟩⟩⟩, fun c1 => x_t1 (by rw [o_forecastStandby, y_need_n (by omega)]) ⟨rfl, rfl⟩⟩⟩
  refine z_cI (e_waitOfNewGroup hb h ⟨c, c1⟩ ⟨c2, c3⟩) ?_
  exact x_ok (by rw [o_forecastStandby, y_need_2 (by omega), y_need_2 (by omega)]) ⟨rfl, rfl⟩
end Q19
