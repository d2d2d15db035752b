/-! the class: rows of free and taken slots (written by wip/whole/gen73.py) -/
def y_cx (q : Int → Int) (r s ex : Int) : Int → Int := fun t => if t ≠ ex ∧ q (288 + 6 * t + 1) = r ∧ q (288 + 6 * t + 2) = s ∧ q (288 + 6 * t + 5) ≠ 3 then q (138 + 3 * q (288 + 6 * t + 0) + 1) else 0
/-- free places as if one ticket (or none) weren't charged -/
def y_freeX (q : Int → Int) (r ex : Int) : Int → Int := fun s => y_planned q r s - y_sum (y_cx q r s ex) (q 5).toNat
def y_tx (q : Int → Int) (i j ex s : Int) : Int → Bool := fun t => decide (t ≠ ex ∧ (q (288 + 6 * t + 0) = i ∨ q (288 + 6 * t + 0) = j) ∧ q (288 + 6 * t + 5) = 0 ∧ q (288 + 6 * t + 2) ≤ s ∧ s ≤ q (288 + 6 * t + 3))
def y_takenX (q : Int → Int) (i j ex : Int) : Int → Int := fun s => y_b (y_any (y_tx q i j ex s) (q 5).toNat)
theorem y_cx_b {q : Int → Int} (hb : y_base q) {r s ex : Int} {n : Nat} (hn : (n : Int) ≤ q 5) : 0 ≤ y_sum (y_cx q r s ex) n ∧ y_sum (y_cx q r s ex) n ≤ 12 * n := by
  have : ∀ k : Nat, k < n → 0 ≤ y_cx q r s ex k ∧ y_cx q r s ex k ≤ 12 := fun k hk => by
    have b := hb.tk (t := k) (by omega) (by omega)
    unfold y_cx
    split <;> omega
  exact ⟨y_sum_nn (fun k hk => (this k hk).1), y_sum_le (fun k hk => (this k hk).2)⟩
theorem y_freeX_none {q : Int → Int} {r s : Int} : y_freeX q r (-1) s = y_free q r s := by
  unfold y_freeX y_free y_charged
  rw [y_sum_congr (f := y_cx q r s (-1)) (g := y_ch q r s) (fun k hk => by unfold y_cx y_ch; by_cases h : q (288 + 6 * (k : Int) + 1) = r ∧ q (288 + 6 * (k : Int) + 2) = s ∧ q (288 + 6 * (k : Int) + 5) ≠ 3; rw [if_pos ⟨by omega, h⟩, if_pos h]; rw [if_neg (fun z => h z.2), if_neg h])]
theorem y_freeX_one {q : Int → Int} {r s t : Int} (ht : 0 ≤ t ∧ t < q 5) (hb : y_base q) (hr : 0 ≤ r ∧ r < q 1) : y_freeX q r t s = y_free (z_up q (288 + 6 * t + 5) 3) r s := by
  have h1 := hb.1.2.1
  have h5 := hb.1.2.2.2.2.2
  unfold y_freeX y_free y_charged
  rw [show z_up q (288 + 6 * t + 5) 3 5 = q 5 from z_up_ne (by omega)]
  congr 1
  · unfold y_planned y_pw
    rw [z_up_ne (by omega), z_up_ne (by omega), z_up_ne (by omega), z_up_ne (by omega)]
  · refine y_sum_congr (fun k hk => ?_)
    have b := hb.tk (t := k) (by omega) (by omega)
    unfold y_cx y_ch
    rw [z_up_ne (show 288 + 6 * (k : Int) + 1 ≠ 288 + 6 * t + 5 by omega), z_up_ne (show 288 + 6 * (k : Int) + 2 ≠ 288 + 6 * t + 5 by omega), z_up_ne (show 288 + 6 * (k : Int) + 0 ≠ 288 + 6 * t + 5 by omega), z_up_ne (show 138 + 3 * q (288 + 6 * (k : Int) + 0) + 1 ≠ 288 + 6 * t + 5 by omega)]
    by_cases hk2 : (k : Int) = t
    · rw [if_neg (fun z => z.1 hk2), if_neg (fun z => z.2.2 (z_up_eq (by omega)))]
    · rw [z_up_ne (by omega)]
      by_cases h : q (288 + 6 * (k : Int) + 1) = r ∧ q (288 + 6 * (k : Int) + 2) = s ∧ q (288 + 6 * (k : Int) + 5) ≠ 3
      · rw [if_pos ⟨hk2, h⟩, if_pos h]
      · rw [if_neg (fun z => h z.2), if_neg h]
theorem y_takenX_none {q : Int → Int} (hb : y_base q) {i s : Int} : y_takenX q i (-1) (-1) s = y_taken q i s := by
  unfold y_takenX y_taken y_blk
  rw [y_any_congr (f := y_tx q i (-1) (-1) s) (g := y_bk q i s) (fun k hk => by have b := hb.tk (t := k) (by omega) (by have := hb.1.2.2.2.2.2; omega); unfold y_tx y_bk; exact decide_eq_decide.mpr (by omega))]
theorem y_takenX_one {q : Int → Int} (hb : y_base q) {i s t : Int} (ht : 0 ≤ t ∧ t < q 5) : y_takenX q i (-1) t s = y_taken (z_up q (288 + 6 * t + 5) 3) i s := by
  have h5 := hb.1.2.2.2.2.2
  unfold y_takenX y_taken y_blk
  rw [show z_up q (288 + 6 * t + 5) 3 5 = q 5 from z_up_ne (by omega)]
  rw [y_any_congr (f := y_tx q i (-1) t s) (g := y_bk (z_up q (288 + 6 * t + 5) 3) i s) (fun k hk => by
    have b := hb.tk (t := k) (by omega) (by omega)
    unfold y_tx y_bk
    rw [z_up_ne (show 288 + 6 * (k : Int) + 0 ≠ 288 + 6 * t + 5 by omega), z_up_ne (show 288 + 6 * (k : Int) + 2 ≠ 288 + 6 * t + 5 by omega), z_up_ne (show 288 + 6 * (k : Int) + 3 ≠ 288 + 6 * t + 5 by omega)]
    by_cases hk2 : (k : Int) = t
    · rw [z_up_eq (show 288 + 6 * (k : Int) + 5 = 288 + 6 * t + 5 by omega)]
      exact decide_eq_decide.mpr (by omega)
    · rw [z_up_ne (show 288 + 6 * (k : Int) + 5 ≠ 288 + 6 * t + 5 by omega)]
      exact decide_eq_decide.mpr (by omega))]
section Q3
variable {l : Launch} {d : Nat} {g : List (Option Nat)} {T : m_E} {J : z_J} {X : z_X} {q : Int → Int}
theorem x_day_congr {J' : z_J} (e : ∀ b, b < 125 → J' b = J b) (hq : q 1 ≤ 8) (h : x_day 36 q J) : x_day 36 q J' := by
  obtain ⟨k0, k1, k2, k3, k4, k5⟩ := h
  refine ⟨?_, fun r a1 a2 => ?_, fun t a1 a2 => ?_, fun i a1 a2 => ?_, fun t a1 a2 => ?_, fun r5 a1 a2 => by have w5 := k5 r5 a1 a2; rw [e _ (by omega), e _ (by omega), e _ (by omega)]; exact w5⟩
  · unfold x_heads at *
    rw [e _ (by omega), e _ (by omega), e _ (by omega), e _ (by omega)]
    exact k0
  · obtain ⟨c1, c2, c3⟩ := k1 r a1 a2
    refine ⟨?_, ?_, ?_⟩
    · unfold x_ride at *
      rw [e (36 + 2) (by omega), e (36 + 3) (by omega), e (36 + 4) (by omega), e (36 + 5) (by omega), e (36 + 6) (by omega), e (36 + 7) (by omega), e (36 + 8) (by omega), e (36 + 9) (by omega), e (36 + 10) (by omega), e (36 + 11) (by omega), e (36 + 12) (by omega)]
      exact c1
    · unfold x_line at *
      rw [e (36 + 41 + 6 * r.toNat) (by omega), e (36 + 44 + 6 * r.toNat) (by omega), e (36 + 42 + 6 * r.toNat) (by omega), e (36 + 43 + 6 * r.toNat) (by omega), e (36 + 45 + 6 * r.toNat) (by omega), e (36 + 46 + 6 * r.toNat) (by omega)]
      exact c2
    · unfold x_wait at *
      rw [e (36 + 38) (by omega), e (36 + 30 + r.toNat) (by omega)]
      exact c3
  · have c := k2 t a1 a2
    unfold x_tier at *
    rw [e (36 + 14) (by omega), e (36 + 15) (by omega), e (36 + 16) (by omega), e (36 + 17) (by omega)]
    exact c
  · have c := k3 i a1 a2
    unfold x_party at *
    rw [e (36 + 18) (by omega), e (36 + 19) (by omega), e (36 + 20) (by omega)]
    exact c
  · have c := k4 t a1 a2
    unfold x_tk at *
    rw [e (36 + 22) (by omega), e (36 + 23) (by omega), e (36 + 24) (by omega), e (36 + 25) (by omega), e (36 + 26) (by omega), e (36 + 27) (by omega)]
    exact c
theorem x_day.row {a : Nat} (ha : 125 ≤ a) (hq : q 1 ≤ 8) {f : Int → Int} (h : x_day 36 q J) : x_day 36 q (z_row J a f) := by
  have e : ∀ b, b < 125 → (z_row J a f) b = J b := fun b hb => z_row_ne (by omega)
  exact x_day_congr e hq h
theorem e_fillFreea (hb : y_base q) (h : x_day 36 q J) {r ex : Int} (hr : 0 ≤ r ∧ r < q 1) : z_Sem l (d + 2) M_Day_fillFree [.inr (.inr (.ref 36)), .inr (.inr (.ref 126)), .inl r, .inl ex] (m_Ex g T, J, X) 0 0 (z_vq (m_Ex g T) (fun J' X' => X' = X ∧ ∃ f, J' = z_row J 126 f ∧ ∀ s, 0 ≤ s → s < 144 → f s = y_freeX q r ex s)) := by
  have h5 := hb.1.2.2.2.2.2
  have h3 := hb.1.2.2.2.1
  have d5 := h.hd.2.2.2.2.2
  refine z_sem_of z_m3 m_ok_3 (Nat.le_of_ble_eq_true rfl) (fun Wp hs hv hS => ?_)
  have L2 : ∀ (n k : Nat) (f : Int → Int), (k : Int) + n = q 5 → (∀ s, 0 ≤ s → s < 144 → f s = y_planned q r s - y_sum (y_cx q r s ex) k) → Wp 33 [some (.inr (.inr (.ref 36))), some (.inr (.inr (.ref 126))), some (.inl r), some (.inl ex), some (.inl k), none] [] (m_Ex g T, z_row J 126 f, X) 0 0 := by
    intro n
    induction n with
    | zero =>
      intro k f hk hf
      refine w_3a_33 hs ?_
      simp only [show (z_row J 126 f) 57 = J 57 from rfl, d5]
      refine ⟨fun c => ⟨_, _, rfl, rfl, rfl, f, rfl, fun s a1 a2 => ?_⟩, fun c => by omega⟩
      rw [hf s a1 a2, y_freeX, show (q 5).toNat = k by omega]
    | succ n ih =>
      intro k f hk hf
      have t0 := h.tk (t := k) (by omega) (by omega)
      have b := hb.tk (t := k) (by omega) (by omega)
      have p1 := (hb.2.2.2.2 k (by omega) (by omega)).1
      have p0 := h.party p1.1 p1.2
      have nxt : y_cx q r (q (288 + 6 * k + 2)) ex k = 0 → Wp 33 [some (.inr (.inr (.ref 36))), some (.inr (.inr (.ref 126))), some (.inl r), some (.inl ex), some (.inl (k + 1)), none] [] (m_Ex g T, z_row J 126 f, X) 0 0 := by
        intro hz
        refine ih (k + 1) f (by omega) (fun s a1 a2 => ?_)
        rw [hf s a1 a2, y_sum]
        have : y_cx q r s ex k = 0 := by
          unfold y_cx at *
          split
          · rename_i hc
            rw [if_pos ⟨hc.1, hc.2.1, rfl, hc.2.2.2⟩] at hz
            exact hz
          · rfl
        rw [this]; omega
      have fb := hf (q (288 + 6 * k + 2)) (by omega) (by omega)
      have b1 := y_planned_b (s := q (288 + 6 * k + 2)) (hb.ride hr.1 hr.2)
      have b2 := y_cx_b hb (r := r) (s := q (288 + 6 * k + 2)) (ex := ex) (n := k) (by omega)
      refine w_3a_33 hs ?_
      simp only [show (z_row J 126 f) 57 = J 57 from rfl, show (z_row J 126 f) 58 = J 58 from rfl, show (z_row J 126 f) 59 = J 59 from rfl, show (z_row J 126 f) 60 = J 60 from rfl, show (z_row J 126 f) 62 = J 62 from rfl, show (z_row J 126 f) 55 = J 55 from rfl, z_row_eq, z_u_zrow, d5, t0.1, t0.2.1, t0.2.2.1, t0.2.2.2.2.1, p0.2.1]
      refine ⟨fun c => by omega, fun c => ⟨by omega, fun c1 => ⟨by omega, nxt ?_⟩, fun c1 => ⟨by omega, fun c2 => ⟨by omega, nxt ?_⟩, fun c2 => ⟨by omega, fun c3 => ⟨by omega, nxt ?_⟩, fun c3 => ⟨fun c4 => by omega, fun c4 => ⟨fun c5 => by omega, fun c5 => ⟨by omega, ih (k + 1) _ (by omega) (fun s a1 a2 => ?_)⟩⟩⟩⟩⟩⟩⟩
      · unfold y_cx; rw [if_neg (fun z => z.1 c1)]
      · unfold y_cx; rw [if_neg (fun z => c2 z.2.1)]
      · unfold y_cx; rw [if_neg (fun z => z.2.2.2 c3)]
      · rw [y_sum]
        by_cases hs9 : s = q (288 + 6 * k + 2)
        · subst hs9
          rw [z_up_eq rfl, fb]
          simp only [y_cx]
          rw [if_pos ⟨c1, c2, trivial, c3⟩]; omega
        · rw [z_up_ne hs9, hf s a1 a2]
          simp only [y_cx]
          rw [if_neg (fun z => hs9 z.2.2.1.symm)]; omega
  have L1 : ∀ (n k : Nat) (f : Int → Int), k + n = 144 → (∀ s, 0 ≤ s → s < (k : Int) → f s = y_planned q r s) → Wp 3 [some (.inr (.inr (.ref 36))), some (.inr (.inr (.ref 126))), some (.inl r), some (.inl ex), some (.inl k), none] [] (m_Ex g T, z_row J 126 f, X) 0 0 := by
    intro n
    induction n with
    | zero =>
      intro k f hk hf
      refine w_3a_3 hs ?_
      refine ⟨fun c => L2 (q 5).toNat 0 f (by omega) (fun s a1 a2 => ?_), fun c => by omega⟩
      rw [hf s a1 (by omega), y_sum]; omega
    | succ n ih =>
      intro k f hk hf
      refine w_3a_3 hs ?_
      refine ⟨fun c => by omega, fun c => z_cI (e_plannedIn hb (h.row (a := 126) (by omega) hb.1.2.1.2) hr) ⟨by omega, ?_⟩⟩
      rw [z_u_zrow]
      refine ih (k + 1) _ (by omega) (fun s a1 a2 => ?_)
      by_cases hs9 : s = k
      · rw [z_up_eq hs9, hs9]
      · rw [z_up_ne hs9]; exact hf s a1 (by omega)
  refine w_3a_0 hs ?_
  have := L1 144 0 (J 126) (by omega) (fun s a1 a2 => by omega)
  rw [z_row_self] at this
  exact this
theorem e_isCleara {s n : Int} (hs1 : 0 ≤ s) (hn : 0 ≤ n) (hsn : s + n ≤ 168) : z_Sem l (d + 1) M_Q_isClear [.inr (.inr (.ref 127)), .inl s, .inl n] (m_Ex g T, J, X) 0 0 (z_ret (.inl (y_b (y_clear (J 127) s n))) (m_Ex g T, J, X)) := by
  refine z_sem_of z_m139 m_ok_139 (Nat.le_of_ble_eq_true rfl) (fun Wp hs hv hS => ?_)
  have loop : ∀ (m k : Nat), (k : Int) + m = n → y_any (fun k => decide (J 127 (s + k) ≠ 0)) k = false → Wp 2 [some (.inr (.inr (.ref 127))), some (.inl s), some (.inl n), some (.inl (s + k))] [] (m_Ex g T, J, X) 0 0 := by
    intro m
    induction m with
    | zero =>
      intro k hk ha
      refine w_139a_2 hs ?_
      refine ⟨by omega, fun c => ⟨z_wi ?_, rfl⟩, fun c => by omega⟩
      rw [y_clear, show n.toNat = k by omega, ha]; rfl
    | succ m ih =>
      intro k hk ha
      refine w_139a_2 hs ?_
      refine ⟨by omega, fun c => by omega, fun c => ⟨fun c1 => by omega, fun c1 => ⟨fun c2 => by omega, fun c2 => ⟨by omega, fun c3 => ⟨by omega, ?_⟩, fun c3 => ⟨z_wi ?_, rfl⟩⟩⟩⟩⟩
      · have := ih (k + 1) (by omega) (by simp only [y_any, ha, Bool.false_or, decide_eq_false_iff_not]; omega)
        rw [show s + ((k + 1 : Nat) : Int) = s + k + 1 by omega] at this
        exact this
      · have : y_any (fun k => decide (J 127 (s + k) ≠ 0)) n.toNat = true := y_any_iff.mpr ⟨k, by omega, by simp only [decide_eq_true_eq]; exact c3⟩
        rw [y_clear, this]; rfl
  refine w_139a_0 hs ?_
  have := loop n.toNat 0 (by omega) rfl
  rw [show s + ((0 : Nat) : Int) = s by omega] at this
  exact this
theorem e_fillFreeb (hb : y_base q) (h : x_day 36 q J) {r ex : Int} (hr : 0 ≤ r ∧ r < q 1) : z_Sem l (d + 2) M_Day_fillFree [.inr (.inr (.ref 36)), .inr (.inr (.ref 129)), .inl r, .inl ex] (m_Ex g T, J, X) 0 0 (z_vq (m_Ex g T) (fun J' X' => X' = X ∧ ∃ f, J' = z_row J 129 f ∧ ∀ s, 0 ≤ s → s < 144 → f s = y_freeX q r ex s)) := by
  have h5 := hb.1.2.2.2.2.2
  have h3 := hb.1.2.2.2.1
  have d5 := h.hd.2.2.2.2.2
  refine z_sem_of z_m3 m_ok_3 (Nat.le_of_ble_eq_true rfl) (fun Wp hs hv hS => ?_)
  have L2 : ∀ (n k : Nat) (f : Int → Int), (k : Int) + n = q 5 → (∀ s, 0 ≤ s → s < 144 → f s = y_planned q r s - y_sum (y_cx q r s ex) k) → Wp 33 [some (.inr (.inr (.ref 36))), some (.inr (.inr (.ref 129))), some (.inl r), some (.inl ex), some (.inl k), none] [] (m_Ex g T, z_row J 129 f, X) 0 0 := by
    intro n
    induction n with
    | zero =>
      intro k f hk hf
      refine w_3b_33 hs ?_
      simp only [show (z_row J 129 f) 57 = J 57 from rfl, d5]
      refine ⟨fun c => ⟨_, _, rfl, rfl, rfl, f, rfl, fun s a1 a2 => ?_⟩, fun c => by omega⟩
      rw [hf s a1 a2, y_freeX, show (q 5).toNat = k by omega]
    | succ n ih =>
      intro k f hk hf
      have t0 := h.tk (t := k) (by omega) (by omega)
      have b := hb.tk (t := k) (by omega) (by omega)
      have p1 := (hb.2.2.2.2 k (by omega) (by omega)).1
      have p0 := h.party p1.1 p1.2
      have nxt : y_cx q r (q (288 + 6 * k + 2)) ex k = 0 → Wp 33 [some (.inr (.inr (.ref 36))), some (.inr (.inr (.ref 129))), some (.inl r), some (.inl ex), some (.inl (k + 1)), none] [] (m_Ex g T, z_row J 129 f, X) 0 0 := by
        intro hz
        refine ih (k + 1) f (by omega) (fun s a1 a2 => ?_)
        rw [hf s a1 a2, y_sum]
        have : y_cx q r s ex k = 0 := by
          unfold y_cx at *
          split
          · rename_i hc
            rw [if_pos ⟨hc.1, hc.2.1, rfl, hc.2.2.2⟩] at hz
            exact hz
          · rfl
        rw [this]; omega
      have fb := hf (q (288 + 6 * k + 2)) (by omega) (by omega)
      have b1 := y_planned_b (s := q (288 + 6 * k + 2)) (hb.ride hr.1 hr.2)
      have b2 := y_cx_b hb (r := r) (s := q (288 + 6 * k + 2)) (ex := ex) (n := k) (by omega)
      refine w_3b_33 hs ?_
      simp only [show (z_row J 129 f) 57 = J 57 from rfl, show (z_row J 129 f) 58 = J 58 from rfl, show (z_row J 129 f) 59 = J 59 from rfl, show (z_row J 129 f) 60 = J 60 from rfl, show (z_row J 129 f) 62 = J 62 from rfl, show (z_row J 129 f) 55 = J 55 from rfl, z_row_eq, z_u_zrow, d5, t0.1, t0.2.1, t0.2.2.1, t0.2.2.2.2.1, p0.2.1]
      refine ⟨fun c => by omega, fun c => ⟨by omega, fun c1 => ⟨by omega, nxt ?_⟩, fun c1 => ⟨by omega, fun c2 => ⟨by omega, nxt ?_⟩, fun c2 => ⟨by omega, fun c3 => ⟨by omega, nxt ?_⟩, fun c3 => ⟨fun c4 => by omega, fun c4 => ⟨fun c5 => by omega, fun c5 => ⟨by omega, ih (k + 1) _ (by omega) (fun s a1 a2 => ?_)⟩⟩⟩⟩⟩⟩⟩
      · unfold y_cx; rw [if_neg (fun z => z.1 c1)]
      · unfold y_cx; rw [if_neg (fun z => c2 z.2.1)]
      · unfold y_cx; rw [if_neg (fun z => z.2.2.2 c3)]
      · rw [y_sum]
        by_cases hs9 : s = q (288 + 6 * k + 2)
        · subst hs9
          rw [z_up_eq rfl, fb]
          simp only [y_cx]
          rw [if_pos ⟨c1, c2, trivial, c3⟩]; omega
        · rw [z_up_ne hs9, hf s a1 a2]
          simp only [y_cx]
          rw [if_neg (fun z => hs9 z.2.2.1.symm)]; omega
  have L1 : ∀ (n k : Nat) (f : Int → Int), k + n = 144 → (∀ s, 0 ≤ s → s < (k : Int) → f s = y_planned q r s) → Wp 3 [some (.inr (.inr (.ref 36))), some (.inr (.inr (.ref 129))), some (.inl r), some (.inl ex), some (.inl k), none] [] (m_Ex g T, z_row J 129 f, X) 0 0 := by
    intro n
    induction n with
    | zero =>
      intro k f hk hf
      refine w_3b_3 hs ?_
      refine ⟨fun c => L2 (q 5).toNat 0 f (by omega) (fun s a1 a2 => ?_), fun c => by omega⟩
      rw [hf s a1 (by omega), y_sum]; omega
    | succ n ih =>
      intro k f hk hf
      refine w_3b_3 hs ?_
      refine ⟨fun c => by omega, fun c => z_cI (e_plannedIn hb (h.row (a := 129) (by omega) hb.1.2.1.2) hr) ⟨by omega, ?_⟩⟩
      rw [z_u_zrow]
      refine ih (k + 1) _ (by omega) (fun s a1 a2 => ?_)
      by_cases hs9 : s = k
      · rw [z_up_eq hs9, hs9]
      · rw [z_up_ne hs9]; exact hf s a1 (by omega)
  refine w_3b_0 hs ?_
  have := L1 144 0 (J 129) (by omega) (fun s a1 a2 => by omega)
  rw [z_row_self] at this
  exact this
theorem e_isClearb {s n : Int} (hs1 : 0 ≤ s) (hn : 0 ≤ n) (hsn : s + n ≤ 168) : z_Sem l (d + 1) M_Q_isClear [.inr (.inr (.ref 130)), .inl s, .inl n] (m_Ex g T, J, X) 0 0 (z_ret (.inl (y_b (y_clear (J 130) s n))) (m_Ex g T, J, X)) := by
  refine z_sem_of z_m139 m_ok_139 (Nat.le_of_ble_eq_true rfl) (fun Wp hs hv hS => ?_)
  have loop : ∀ (m k : Nat), (k : Int) + m = n → y_any (fun k => decide (J 130 (s + k) ≠ 0)) k = false → Wp 2 [some (.inr (.inr (.ref 130))), some (.inl s), some (.inl n), some (.inl (s + k))] [] (m_Ex g T, J, X) 0 0 := by
    intro m
    induction m with
    | zero =>
      intro k hk ha
      refine w_139b_2 hs ?_
      refine ⟨by omega, fun c => ⟨z_wi ?_, rfl⟩, fun c => by omega⟩
      rw [y_clear, show n.toNat = k by omega, ha]; rfl
    | succ m ih =>
      intro k hk ha
      refine w_139b_2 hs ?_
      refine ⟨by omega, fun c => by omega, fun c => ⟨fun c1 => by omega, fun c1 => ⟨fun c2 => by omega, fun c2 => ⟨by omega, fun c3 => ⟨by omega, ?_⟩, fun c3 => ⟨z_wi ?_, rfl⟩⟩⟩⟩⟩
      · have := ih (k + 1) (by omega) (by simp only [y_any, ha, Bool.false_or, decide_eq_false_iff_not]; omega)
        rw [show s + ((k + 1 : Nat) : Int) = s + k + 1 by omega] at this
        exact this
      · have : y_any (fun k => decide (J 130 (s + k) ≠ 0)) n.toNat = true := y_any_iff.mpr ⟨k, by omega, by simp only [decide_eq_true_eq]; exact c3⟩
        rw [y_clear, this]; rfl
  refine w_139b_0 hs ?_
  have := loop n.toNat 0 (by omega) rfl
  rw [show s + ((0 : Nat) : Int) = s by omega] at this
  exact this
end Q3
