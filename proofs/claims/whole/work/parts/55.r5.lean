/-! the reference: questions with loops -/
theorem v_div {a b : Int32} (hb : b.toInt ≠ 0) : vf_n64 (FP.ddiv (FP.i2d a) (FP.i2d b)) := by
  have h1 : (FP.i2d a).toNat % 2 ^ 63 < 1056 * 2 ^ 52 := FP.Core.i2d_mag a
  have h2 : 1023 * 2 ^ 52 ≤ (FP.i2d b).toNat % 2 ^ 63 ∧ (FP.i2d b).toNat % 2 ^ 63 < 2047 * 2 ^ 52 := FP.Core.i2d_big hb
  have h3 : (FP.ddiv (FP.i2d a) (FP.i2d b)).toNat % 2 ^ 63 < (1056 + (1074 - 52 - 1) - 1023 + 3) * 2 ^ 52 := FP.Core.ddiv_mag h1 h2.1 h2.2 (by decide) (by decide)
  unfold vf_n64
  generalize FP.ddiv (FP.i2d a) (FP.i2d b) = r at h3 ⊢
  rw [UInt64.le_iff_toNat_le, UInt64.toNat_and]
  have e : r.toNat &&& (0x7fffffffffffffff : UInt64).toNat = r.toNat % 2 ^ 63 := Nat.and_two_pow_sub_one_eq_mod r.toNat 63
  rw [e]
  exact Nat.le_trans (Nat.le_of_lt h3) (by decide)
theorem v_divI {a b : Int} (hr : -2147483648 ≤ b ∧ b ≤ 2147483647) (hb : b ≠ 0) : vf_n64 (FP.ddiv (FP.i2d (Int32.ofInt a)) (FP.i2d (Int32.ofInt b))) := v_div (by rw [z_of hr]; exact hb)
def y_ct (q : Int → Int) (i s : Int) : Int → Int := fun t => if q (288 + 6 * t + 0) = i ∧ q (288 + 6 * t + 5) = s then 1 else 0
def y_cr (q : Int → Int) (r s : Int) : Int → Int := fun t => if q (288 + 6 * t + 1) = r ∧ q (288 + 6 * t + 5) = s then 1 else 0
def y_er (q : Int → Int) (r s : Int) : Int → Int := fun t => if q (288 + 6 * t + 1) = r ∧ q (288 + 6 * t + 5) = 0 ∧ q (288 + 6 * t + 2) ≤ s ∧ s ≤ q (288 + 6 * t + 3) then q (138 + 3 * q (288 + 6 * t + 0) + 1) else 0
def y_bf (q : Int → Int) (i t : Int) : Int → Int := fun o => if q (288 + 6 * o + 0) = i ∧ q (288 + 6 * o + 5) = 0 ∧ (q (288 + 6 * o + 2) < q (288 + 6 * t + 2) ∨ (q (288 + 6 * o + 2) = q (288 + 6 * t + 2) ∧ o < t)) then 1 else 0
def y_bfs (q : Int → Int) (i t : Int) : Int := y_sum (y_bf q i t) (q 5).toNat
def y_aa (q : Int → Int) (i x : Int) : Int → Bool := fun t => decide (q (288 + 6 * t + 0) = i ∧ q (288 + 6 * t + 5) = 0 ∧ y_bfs q i t = x)
def y_at (q : Int → Int) (i x : Int) : Int := y_first (y_aa q i x) (q 5).toNat
theorem y_cnt_b {f : Int → Int} (h : ∀ k, 0 ≤ f k ∧ f k ≤ 1) {n : Nat} : 0 ≤ y_sum f n ∧ y_sum f n ≤ n := by
  refine ⟨y_sum_nn (fun k _ => (h k).1), ?_⟩
  have := y_sum_le (f := f) (b := 1) (n := n) (fun k _ => (h k).2)
  omega
theorem y_ct_b {q : Int → Int} {i s k : Int} : 0 ≤ y_ct q i s k ∧ y_ct q i s k ≤ 1 := by unfold y_ct; split <;> omega
theorem y_cr_b {q : Int → Int} {i s k : Int} : 0 ≤ y_cr q i s k ∧ y_cr q i s k ≤ 1 := by unfold y_cr; split <;> omega
theorem y_bf_b {q : Int → Int} {i t k : Int} : 0 ≤ y_bf q i t k ∧ y_bf q i t k ≤ 1 := by unfold y_bf; split <;> omega
theorem y_er_b {q : Int → Int} (hb : y_base q) {r s : Int} {k : Nat} (hk : (k : Int) < q 5) : 0 ≤ y_er q r s k ∧ y_er q r s k ≤ 12 := by
  have b := hb.tk (t := k) (by omega) hk
  unfold y_er
  split <;> omega
theorem y_ers_b {q : Int → Int} (hb : y_base q) {r s : Int} {n : Nat} (hn : (n : Int) ≤ q 5) : 0 ≤ y_sum (y_er q r s) n ∧ y_sum (y_er q r s) n ≤ 12 * n :=
  ⟨y_sum_nn (fun k hk => (y_er_b hb (by omega)).1), y_sum_le (fun k hk => (y_er_b hb (by omega)).2)⟩
def o_countTickets (q : Int → Int) (i s : Int) : Int × Int := y_need (0 ≤ i ∧ i < q 3) 1 (y_need (0 ≤ s ∧ s ≤ 4) 2 (0, y_sum (y_ct q i s) (q 5).toNat))
def o_expectedReturns (q : Int → Int) (r s : Int) : Int × Int := y_need (0 ≤ r ∧ r < q 1) 1 (y_need (0 ≤ s ∧ s ≤ 143) 2 (0, y_sum (y_er q r s) (q 5).toNat))
def o_itinerary (q : Int → Int) (i x : Int) : Int × Int := y_need (0 ≤ i ∧ i < q 3) 1 (0, y_at q i x)
def o_boarded (q : Int → Int) (r b : Int) : Int × Int := y_need (0 ≤ r ∧ r < q 1) 1 (0, if b = 0 then q (10 + 14 * r + 9) else q (10 + 14 * r + 8))
def o_isDown (q : Int → Int) (r : Int) : Int × Int := y_need (0 ≤ r ∧ r < q 1) 1 (0, q (10 + 14 * r + 5))
def o_waitlistAt (q : Int → Int) (r x : Int) : Int × Int := y_need (0 ≤ r ∧ r < q 1) 1 (0, if 0 ≤ x ∧ x < q (10 + 14 * r + 13) then q (4564 + 50 * r + x) else -1)
/-- an answer of a kind of real number -/
def y_needD (p : Prop) [Decidable p] (e : Int) (x : Int × UInt64) : Int × UInt64 := if p then x else (e, FP.dconst0)
def o_averageWait (q : Int → Int) (r : Int) : Int × UInt64 := y_needD (0 ≤ r ∧ r < q 1) 1 (y_needD (q (10 + 14 * r + 11) ≠ 0) 2 (0, FP.ddiv (FP.i2d (Int32.ofInt (q (10 + 14 * r + 10)))) (FP.i2d (Int32.ofInt (q (10 + 14 * r + 11))))))
def o_expiredPart (q : Int → Int) (r : Int) : Int × UInt64 := y_needD (0 ≤ r ∧ r < q 1) 1 (y_needD (y_sum (y_cr q r 2) (q 5).toNat + y_sum (y_cr q r 1) (q 5).toNat ≠ 0) 2 (0, FP.ddiv (FP.i2d (Int32.ofInt (y_sum (y_cr q r 2) (q 5).toNat))) (FP.i2d (Int32.ofInt (y_sum (y_cr q r 2) (q 5).toNat + y_sum (y_cr q r 1) (q 5).toNat)))))
section R5
variable {l : Launch} {d : Nat} {g : List (Option Nat)} {T : m_E} {J : z_J} {X : z_X}
theorem p_countTickets (hb : y_base (J 149)) {i s : Int} : z_Sem l (d + 3) M_R_countTickets [.inr (.inr (.ref 148)), .inl i, .inl s] (m_Ex g T, J, X) 0 0 (z_ret (.inl (o_countTickets (J 149) i s).2) (m_Ex g T, z_u J 148 2 (o_countTickets (J 149) i s).1, X)) := by
  obtain ⟨h0, h1, h2, h3, h4, h5⟩ := hb.1
  refine z_sem_of z_m275 m_ok_275 (Nat.le_of_ble_eq_true rfl) (fun Wp hs hv hS => ?_)
  have loop : 0 ≤ i ∧ i < J 149 3 → 0 ≤ s ∧ s ≤ 4 → ∀ (n k : Nat) (a : Int), (k : Int) + n = J 149 5 → a = y_sum (y_ct (J 149) i s) k → Wp 55 [some (.inr (.inr (.ref 148))), some (.inl i), some (.inl s), some (.inl a), some (.inl k)] [] (m_Ex g T, z_u J 148 2 0, X) 0 0 := by
    intro hi hs0 n
    induction n with
    | zero =>
      intro k a hk ha
      refine w_275_55 hs ?_
      simp only [show (z_u J 148 2 0) 149 = J 149 from rfl]
      refine ⟨fun c => ?_, fun c => by omega⟩
      rw [o_countTickets, y_need, if_pos hi, y_need, if_pos hs0]
      exact ⟨z_wi (by rw [ha, show (J 149 5).toNat = k by omega]), rfl⟩
    | succ n ih =>
      intro k a hk ha
      have b := hb.tk (t := k) (by omega) (by omega)
      have b2 := y_cnt_b (f := y_ct (J 149) i s) (fun k => y_ct_b) (n := k)
      refine w_275_55 hs ?_
      simp only [show (z_u J 148 2 0) 149 = J 149 from rfl]
      refine ⟨fun c => by omega, fun c => ⟨by omega, fun c1 => ⟨by omega, ih (k + 1) _ (by omega) ?_⟩, fun c1 => ⟨by omega, fun c2 => ⟨by omega, ih (k + 1) _ (by omega) ?_⟩, fun c2 => ⟨by omega, ih (k + 1) _ (by omega) ?_⟩⟩⟩⟩
      all_goals
        rw [ha]
        simp only [y_ct, y_sum]
        split <;> omega
  refine w_275_0 hs ?_
  refine ⟨by omega, fun c => ?_, fun c => ⟨fun c1 => ?_, fun c1 => ⟨fun c2 => ?_, fun c2 => ⟨fun c3 => ?_, fun c3 => loop ⟨c, by omega⟩ ⟨c2, c3⟩ (J 149 5).toNat 0 0 (by omega) rfl⟩⟩⟩⟩
  all_goals (refine ⟨?_, ?_⟩ <;> (simp only [o_countTickets, y_need, z_u_u]; (repeat' split) <;> first | rfl | omega))
theorem p_expectedReturns (hb : y_base (J 149)) {r s : Int} : z_Sem l (d + 3) M_R_expectedReturns [.inr (.inr (.ref 148)), .inl r, .inl s] (m_Ex g T, J, X) 0 0 (z_ret (.inl (o_expectedReturns (J 149) r s).2) (m_Ex g T, z_u J 148 2 (o_expectedReturns (J 149) r s).1, X)) := by
  obtain ⟨h0, h1, h2, h3, h4, h5⟩ := hb.1
  refine z_sem_of z_m260 m_ok_260 (Nat.le_of_ble_eq_true rfl) (fun Wp hs hv hS => ?_)
  have loop : 0 ≤ r ∧ r < J 149 1 → 0 ≤ s ∧ s ≤ 143 → ∀ (n k : Nat) (a : Int), (k : Int) + n = J 149 5 → a = y_sum (y_er (J 149) r s) k → Wp 53 [some (.inr (.inr (.ref 148))), some (.inl r), some (.inl s), some (.inl a), some (.inl k)] [] (m_Ex g T, z_u J 148 2 0, X) 0 0 := by
    intro hi hs0 n
    induction n with
    | zero =>
      intro k a hk ha
      refine w_260_53 hs ?_
      simp only [show (z_u J 148 2 0) 149 = J 149 from rfl]
      refine ⟨fun c => ?_, fun c => by omega⟩
      rw [o_expectedReturns, y_need, if_pos hi, y_need, if_pos hs0]
      exact ⟨z_wi (by rw [ha, show (J 149 5).toNat = k by omega]), rfl⟩
    | succ n ih =>
      intro k a hk ha
      have b := hb.tk (t := k) (by omega) (by omega)
      have b2 := y_ers_b hb (r := r) (s := s) (n := k) (by omega)
      refine w_260_53 hs ?_
      simp only [show (z_u J 148 2 0) 149 = J 149 from rfl]
      refine ⟨fun c => by omega, fun c => ⟨by omega, fun c1 => ⟨by omega, ih (k + 1) _ (by omega) ?_⟩, fun c1 => ⟨by omega, fun c2 => ⟨by omega, ih (k + 1) _ (by omega) ?_⟩, fun c2 => ⟨by omega, fun c3 => ⟨by omega, ih (k + 1) _ (by omega) ?_⟩, fun c3 => ⟨fun c4 => ⟨by omega, ih (k + 1) _ (by omega) ?_⟩, fun c4 => ⟨by omega, ih (k + 1) _ (by omega) ?_⟩⟩⟩⟩⟩⟩
      all_goals
        rw [ha]
        simp only [y_er, y_sum]
        split <;> omega
  refine w_260_0 hs ?_
  refine ⟨by omega, fun c => ?_, fun c => ⟨fun c1 => ?_, fun c1 => ⟨fun c2 => ?_, fun c2 => ⟨fun c3 => ?_, fun c3 => loop ⟨c, by omega⟩ ⟨c2, c3⟩ (J 149 5).toNat 0 0 (by omega) rfl⟩⟩⟩⟩
  all_goals (refine ⟨?_, ?_⟩ <;> (simp only [o_expectedReturns, y_need, z_u_u]; (repeat' split) <;> first | rfl | omega))
theorem c_activeAt (hb : y_base (J 149)) {i x : Int} : z_Sem l (d + 3) M_R_activeAt [.inr (.inr (.ref 148)), .inl i, .inl x] (m_Ex g T, J, X) 0 0 (z_ret (.inl (y_at (J 149) i x)) (m_Ex g T, J, X)) := by
  obtain ⟨h0, h1, h2, h3, h4, h5⟩ := hb.1
  refine z_sem_of z_m277 m_ok_277 (Nat.le_of_ble_eq_true rfl) (fun Wp hs hv hS => ?_)
  have inner : ∀ (t : Nat), (t : Int) < J 149 5 → (y_bfs (J 149) i t ≠ x → Wp 2 [some (.inr (.inr (.ref 148))), some (.inl i), some (.inl x), some (.inl (t + 1)), none, none] [] (m_Ex g T, J, X) 0 0) → (y_bfs (J 149) i t = x → z_ret (.inl (y_at (J 149) i x)) (m_Ex g T, J, X) (.inl (some (.inl t))) (m_Ex g T, J, X)) → ∀ (n k : Nat) (a : Int), (k : Int) + n = J 149 5 → a = y_sum (y_bf (J 149) i t) k → Wp 30 [some (.inr (.inr (.ref 148))), some (.inl i), some (.inl x), some (.inl t), some (.inl a), some (.inl k)] [] (m_Ex g T, J, X) 0 0 := by
    intro t ht e1 e2 n
    induction n with
    | zero =>
      intro k a hk ha
      have e3 : y_bfs (J 149) i t = a := by rw [ha, y_bfs, show (J 149 5).toNat = k by omega]
      refine w_277_30 hs ?_
      refine ⟨fun c => ⟨fun c1 => ⟨by omega, e1 (by omega)⟩, fun c1 => e2 (by omega)⟩, fun c => by omega⟩
    | succ n ih =>
      intro k a hk ha
      have b := hb.tk (t := k) (by omega) (by omega)
      have b2 := y_cnt_b (f := y_bf (J 149) i t) (fun k => y_bf_b) (n := k)
      refine w_277_30 hs ?_
      refine ⟨fun c => by omega, fun c => ⟨by omega, fun c1 => ⟨by omega, ih (k + 1) _ (by omega) ?_⟩, fun c1 => ⟨by omega, fun c2 => ⟨by omega, ih (k + 1) _ (by omega) ?_⟩, fun c2 => ⟨by omega, fun c3 => ⟨by omega, ih (k + 1) _ (by omega) ?_⟩, fun c3 => ⟨by omega, fun c4 => ⟨by omega, ih (k + 1) _ (by omega) ?_⟩, fun c4 => ⟨fun c5 => ⟨by omega, ih (k + 1) _ (by omega) ?_⟩, fun c5 => ⟨by omega, ih (k + 1) _ (by omega) ?_⟩⟩⟩⟩⟩⟩⟩
      all_goals
        rw [ha]
        simp only [y_bf, y_sum]
        split <;> omega
  have loop : ∀ (n k : Nat), (k : Int) + n = J 149 5 → y_any (y_aa (J 149) i x) k = false → Wp 2 [some (.inr (.inr (.ref 148))), some (.inl i), some (.inl x), some (.inl k), none, none] [] (m_Ex g T, J, X) 0 0 := by
    intro n
    induction n with
    | zero =>
      intro k hk ha
      refine w_277_2 hs ?_
      refine ⟨fun c => ⟨z_wi ?_, rfl⟩, fun c => by omega⟩
      rw [y_at, show (J 149 5).toNat = k by omega, y_first_none ha]
    | succ n ih =>
      intro k hk ha
      have b := hb.tk (t := k) (by omega) (by omega)
      have nxt : ¬ (J 149 (288 + 6 * k + 0) = i ∧ J 149 (288 + 6 * k + 5) = 0 ∧ y_bfs (J 149) i k = x) → Wp 2 [some (.inr (.inr (.ref 148))), some (.inl i), some (.inl x), some (.inl (k + 1)), none, none] [] (m_Ex g T, J, X) 0 0 := by
        intro hc
        exact ih (k + 1) (by omega) (by rw [y_any, ha, y_aa, decide_eq_false hc]; rfl)
      refine w_277_2 hs ?_
      refine ⟨fun c => by omega, fun c => ⟨by omega, fun c1 => ⟨by omega, nxt (by omega)⟩, fun c1 => ⟨by omega, fun c2 => ⟨by omega, nxt (by omega)⟩, fun c2 => inner k (by omega) (fun c3 => nxt (by omega)) (fun c3 => ⟨z_wi ?_, rfl⟩) (J 149 5).toNat 0 0 (by omega) rfl⟩⟩⟩
      rw [y_at, y_first_at (k := k) (by omega) ha (by rw [y_aa, decide_eq_true_eq]; exact ⟨c1, c2, c3⟩)]
  refine w_277_0 hs ?_
  exact loop (J 149 5).toNat 0 (by omega) rfl
theorem p_itinerary (hb : y_base (J 149)) {i x : Int} : z_Sem l (d + 4) M_R_itinerary [.inr (.inr (.ref 148)), .inl i, .inl x] (m_Ex g T, J, X) 0 0 (z_ret (.inl (o_itinerary (J 149) i x).2) (m_Ex g T, z_u J 148 2 (o_itinerary (J 149) i x).1, X)) := by
  obtain ⟨h0, h1, h2, h3, h4, h5⟩ := hb.1
  refine z_sem_of z_m276 m_ok_276 (Nat.le_of_ble_eq_true rfl) (fun Wp hs hv hS => ?_)
  refine w_276_0 hs ?_
  refine ⟨by omega, fun c => ?_, fun c => ⟨fun c1 => ?_, fun c1 => z_cI (c_activeAt (J := z_u J 148 2 0) hb) ?_⟩⟩
  all_goals (refine ⟨?_, ?_⟩ <;> (simp only [o_itinerary, y_need, z_u_u]; (repeat' split) <;> first | rfl | omega))
theorem p_boarded (hb : y_base (J 149)) {r b : Int} : z_Sem l (d + 3) M_R_boarded [.inr (.inr (.ref 148)), .inl r, .inl b] (m_Ex g T, J, X) 0 0 (z_ret (.inl (o_boarded (J 149) r b).2) (m_Ex g T, z_u J 148 2 (o_boarded (J 149) r b).1, X)) := by
  obtain ⟨h0, h1, h2, h3, h4, h5⟩ := hb.1
  refine z_sem_of z_m284 m_ok_284 (Nat.le_of_ble_eq_true rfl) (fun Wp hs hv hS => ?_)
  refine w_284_0 hs ?_
  refine ⟨by omega, fun c => ?_, fun c => ⟨fun c1 => ?_, fun c1 => ⟨fun c2 => ⟨by omega, ?_⟩, fun c2 => ⟨by omega, ?_⟩⟩⟩⟩
  all_goals (refine ⟨?_, ?_⟩ <;> (simp only [o_boarded, y_need, z_u_u]; (repeat' split) <;> first | rfl | omega))
theorem p_isDown (hb : y_base (J 149)) {r : Int} : z_Sem l (d + 3) M_R_isDown [.inr (.inr (.ref 148)), .inl r] (m_Ex g T, J, X) 0 0 (z_ret (.inl (o_isDown (J 149) r).2) (m_Ex g T, z_u J 148 2 (o_isDown (J 149) r).1, X)) := by
  obtain ⟨h0, h1, h2, h3, h4, h5⟩ := hb.1
  refine z_sem_of z_m293 m_ok_293 (Nat.le_of_ble_eq_true rfl) (fun Wp hs hv hS => ?_)
  refine w_293_0 hs ?_
  refine ⟨by omega, fun c => ?_, fun c => ⟨fun c1 => ?_, fun c1 => ⟨by omega, fun c2 => ?_, fun c2 => ?_⟩⟩⟩
  · refine ⟨?_, ?_⟩ <;> (simp only [o_isDown, y_need, z_u_u]; (repeat' split) <;> first | rfl | omega)
  · refine ⟨?_, ?_⟩ <;> (simp only [o_isDown, y_need, z_u_u]; (repeat' split) <;> first | rfl | omega)
  · have := (hb.ride c (by omega)).2.2.2.2.1
    rw [o_isDown, y_need, if_pos ⟨c, by omega⟩]
    exact ⟨z_wi (by show 0 = J 149 (10 + 14 * r + 5); omega), rfl⟩
  · rw [o_isDown, y_need, if_pos ⟨c, by omega⟩]
    exact ⟨z_wi c2.symm, rfl⟩
theorem p_waitlistAt (hb : y_base (J 149)) {r x : Int} : z_Sem l (d + 3) M_R_waitlistAt [.inr (.inr (.ref 148)), .inl r, .inl x] (m_Ex g T, J, X) 0 0 (z_ret (.inl (o_waitlistAt (J 149) r x).2) (m_Ex g T, z_u J 148 2 (o_waitlistAt (J 149) r x).1, X)) := by
  obtain ⟨h0, h1, h2, h3, h4, h5⟩ := hb.1
  refine z_sem_of z_m253 m_ok_253 (Nat.le_of_ble_eq_true rfl) (fun Wp hs hv hS => ?_)
  refine w_253_0 hs ?_
  refine ⟨by omega, fun c => ?_, fun c => ⟨fun c1 => ?_, fun c1 => ?_⟩⟩
  · refine ⟨?_, ?_⟩ <;> (simp only [o_waitlistAt, y_need, z_u_u]; (repeat' split) <;> first | rfl | omega)
  · refine ⟨?_, ?_⟩ <;> (simp only [o_waitlistAt, y_need, z_u_u]; (repeat' split) <;> first | rfl | omega)
  · have b := (hb.ride c (by omega)).2.2.2.2.2.2.2.2.2.2.2
    refine ⟨by omega, fun c2 => ?_, fun c2 => ⟨fun c3 => ?_, fun c3 => ⟨by omega, ?_⟩⟩⟩
    all_goals (refine ⟨?_, ?_⟩ <;> (simp only [o_waitlistAt, y_need, z_u_u]; (repeat' split) <;> first | rfl | omega))
theorem p_averageWait (hb : y_base (J 149)) {r : Int} : z_Sem l (d + 3) M_R_averageWait [.inr (.inr (.ref 148)), .inl r] (m_Ex g T, J, X) 0 0 (z_ret (.inr (.inr (.double (o_averageWait (J 149) r).2))) (m_Ex g T, z_u J 148 2 (o_averageWait (J 149) r).1, X)) := by
  obtain ⟨h0, h1, h2, h3, h4, h5⟩ := hb.1
  refine z_sem_of z_m285 m_ok_285 (Nat.le_of_ble_eq_true rfl) (fun Wp hs hv hS => ?_)
  refine w_285_0 hs ?_
  refine ⟨by omega, fun c => ?_, fun c => ⟨fun c1 => ?_, fun c1 => ⟨by omega, fun c2 => ⟨⟨by omega, by omega, ?_⟩, ?_⟩, fun c2 => ?_⟩⟩⟩
  case refine_3 =>
    have b := (hb.ride c (by omega)).2.2.2.2.2.2.2.2.2.1
    exact v_divI (by omega) c2
  all_goals (refine ⟨?_, ?_⟩ <;> (simp only [o_averageWait, y_needD, z_u_u]; (repeat' split) <;> first | rfl | omega))
theorem p_nextWindow (hb : y_base (J 149)) {i r e : Int} : z_Sem l (d + 7) M_R_nextWindow [.inr (.inr (.ref 148)), .inl i, .inl r, .inl e] (m_Ex g T, J, X) 0 0 (z_rq (m_Ex g T) (fun v J' X' => X' = X ∧ ∃ f f', J' = z_u (z_row (z_row J 151 f) 152 f') 148 2 (y_need ((0 ≤ i ∧ i < J 149 3) ∧ (0 ≤ r ∧ r < J 149 1)) 1 (y_need (0 ≤ e ∧ e ≤ 143) 2 (0, y_wf (J 149) i r e))).1 ∧ v = (y_need ((0 ≤ i ∧ i < J 149 3) ∧ (0 ≤ r ∧ r < J 149 1)) 1 (y_need (0 ≤ e ∧ e ≤ 143) 2 (0, y_wf (J 149) i r e))).2)) := by
  obtain ⟨h0, h1, h2, h3, h4, h5⟩ := hb.1
  have bad : ∀ (w : Int), z_rq (m_Ex g T) (fun v J' X' => X' = X ∧ ∃ f f', J' = z_u (z_row (z_row J 151 f) 152 f') 148 2 w ∧ v = 0) (.inl (some (.inl 0))) (m_Ex g T, z_u (z_u J 148 2 0) 148 2 w, X) := fun w => ⟨_, _, _, rfl, rfl, rfl, J 151, J 152, by rw [z_row_self, z_row_self, z_u_u], rfl⟩
  refine z_sem_of z_m250 m_ok_250 (Nat.le_of_ble_eq_true rfl) (fun Wp hs hv hS => ?_)
  refine w_250_0 hs ?_
  refine ⟨by omega, fun c => ?_, fun c => ⟨fun c1 => ?_, fun c1 => ⟨by omega, fun c2 => ?_, fun c2 => ⟨fun c3 => ?_, fun c3 => ⟨fun c4 => ?_, fun c4 => ⟨fun c5 => ?_, fun c5 => ?_⟩⟩⟩⟩⟩⟩
  · rw [y_need, if_neg (by omega)]; exact bad 1
  · rw [y_need, if_neg (by omega)]; exact bad 1
  · rw [y_need, if_neg (by omega)]; exact bad 1
  · rw [y_need, if_neg (by omega)]; exact bad 1
  · rw [y_need, if_pos (by omega), y_need, if_neg (by omega)]; exact bad 2
  · rw [y_need, if_pos (by omega), y_need, if_neg (by omega)]; exact bad 2
  · rw [y_need, if_pos (by omega), y_need, if_pos (by omega)]
    refine z_cIq (c_windowFor (J := z_u J 148 2 0) hb ⟨c, show i < J 149 3 by omega⟩ ⟨c2, show r < J 149 1 by omega⟩ c4) ?_
    rintro v J' X' ⟨rfl, ⟨f, f', rfl⟩, rfl⟩
    refine ⟨_, _, _, rfl, rfl, rfl, f, f', ?_, rfl⟩
    funext b j
    unfold z_u z_row
    by_cases h148 : b = 148
    · subst h148; rfl
    · simp [h148]
end R5
