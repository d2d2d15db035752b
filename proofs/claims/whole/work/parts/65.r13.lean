/-! the reference: blocks, sums over slots, lines -/
/-- block a goes to block b -/
def k_copy (q : Int → Int) (a b : Int) : Int → Int := fun j => if 4964 * b ≤ j ∧ j < 4964 * b + 4964 then q (j - 4964 * b + 4964 * a) else q j
def y_pi (q : Int → Int) (b : Int) : Int → Int := fun k => q (b + 2 * k)
def o_standbyPersons (q : Int → Int) (r : Int) : Int × Int := y_need (0 ≤ r ∧ r < q 1) 1 (0, y_sum (y_pi q (3588 + 122 * r)) (q (10 + 14 * r + 7)).toNat)
def o_mergePersons (q : Int → Int) (r : Int) : Int × Int := y_need (0 ≤ r ∧ r < q 1) 1 (0, y_sum (y_pi q (1188 + 300 * r)) (q (10 + 14 * r + 6)).toNat)
def y_fs (q : Int → Int) (r : Int) : Int → Int := fun k => y_free q r (q 0 + k)
def o_capacityLeft (q : Int → Int) (r : Int) : Int × Int := y_need (0 ≤ r ∧ r < q 1) 1 (0, y_sum (y_fs q r) (144 - q 0).toNat)
/-- the first slot with the most persons among the first n -/
def y_peak (q : Int → Int) (r : Int) : Nat → Int
  | 0 => 0
  | n + 1 => if y_charged q r (y_peak q r n) < y_charged q r (n + 1) then n + 1 else y_peak q r n
def o_peakSlot (q : Int → Int) (r : Int) : Int × Int := y_need (0 ≤ r ∧ r < q 1) 1 (0, if y_charged q r (y_peak q r 143) = 0 then -1 else y_peak q r 143)
def o_usage (q : Int → Int) (r : Int) : Int × UInt64 := y_needD (0 ≤ r ∧ r < q 1) 1 (y_needD (y_sum (y_planned q r) 144 ≠ 0) 2 (0, FP.ddiv (FP.i2d (Int32.ofInt (y_sum (y_charged q r) 144))) (FP.i2d (Int32.ofInt (y_sum (y_planned q r) 144)))))
section R13
variable {l : Launch} {d : Nat} {g : List (Option Nat)} {T : m_E} {J : z_J} {X : z_X}
theorem c_copyBlock {a b : Int} (ha : 0 ≤ a ∧ a ≤ 4) (hb : 0 ≤ b ∧ b ≤ 4) (hab : a ≠ b) : z_Sem l (d + 1) M_R_copyBlock [.inr (.inr (.ref 148)), .inl a, .inl b] (m_Ex g T, J, X) 0 0 (z_vd (m_Ex g T, z_row J 149 (k_copy (J 149) a b), X)) := by
  refine z_sem_of z_m194 m_ok_194 (Nat.le_of_ble_eq_true rfl) (fun Wp hs hv hS => ?_)
  have loop : ∀ (n k : Nat) (f : Int → Int), (k : Int) + n = 4964 → (∀ j, f j = if 4964 * b ≤ j ∧ j < 4964 * b + k then J 149 (j - 4964 * b + 4964 * a) else J 149 j) → Wp 2 [some (.inr (.inr (.ref 148))), some (.inl a), some (.inl b), some (.inl k)] [] (m_Ex g T, z_row J 149 f, X) 0 0 := by
    intro n
    induction n with
    | zero =>
      intro k f hk hf
      refine w_194_2 hs ?_
      refine ⟨fun c => ⟨rfl, ?_⟩, fun c => by omega⟩
      rw [show f = k_copy (J 149) a b from by funext j; rw [hf j, k_copy, show (k : Int) = 4964 by omega]]
    | succ n ih =>
      intro k f hk hf
      have e : f (4964 * a + k) = J 149 (4964 * a + k) := by rw [hf, if_neg (by omega)]
      refine w_194_2 hs ?_
      simp only [z_row_eq, e, z_u_zrow]
      refine ⟨fun c => by omega, fun c => ⟨by omega, ih (k + 1) _ (by omega) (fun j => ?_)⟩⟩
      by_cases hj : j = 4964 * b + k
      · rw [z_up_eq hj, if_pos (by omega), hj, show 4964 * b + (k : Int) - 4964 * b + 4964 * a = 4964 * a + k by omega]
      · rw [z_up_ne hj, hf j]
        by_cases h9 : 4964 * b ≤ j ∧ j < 4964 * b + k
        · rw [if_pos h9, if_pos (by omega)]
        · rw [if_neg h9, if_neg (by omega)]
  refine w_194_0 hs ?_
  have := loop 4964 0 (J 149) (by omega) (fun j => by rw [if_neg (by omega)])
  rw [z_row_self] at this
  exact this
theorem p_saveSnapshot {x : Int} : z_Sem l (d + 2) M_R_saveSnapshot [.inr (.inr (.ref 148)), .inl x] (m_Ex g T, J, X) 0 0 (z_ret (.inl (if 0 ≤ x ∧ x ≤ 1 then 1 else 0)) (m_Ex g T, if 0 ≤ x ∧ x ≤ 1 then z_u (z_row (z_u J 148 2 0) 149 (k_copy (J 149) 0 (1 + x))) 150 x 1 else z_u J 148 2 0, X)) := by
  refine z_sem_of z_m192 m_ok_192 (Nat.le_of_ble_eq_true rfl) (fun Wp hs hv hS => ?_)
  refine w_192_0 hs ?_
  refine ⟨fun c => ?_, fun c => ⟨fun c1 => ?_, fun c1 => ⟨by omega, z_cV (c_copyBlock (J := z_u J 148 2 0) (by omega) (by omega) (by omega)) ⟨by omega, ?_⟩⟩⟩⟩
  · rw [if_neg (by omega), if_neg (by omega)]; exact ⟨rfl, rfl⟩
  · rw [if_neg (by omega), if_neg (by omega)]; exact ⟨rfl, rfl⟩
  · rw [if_pos (by omega), if_pos (by omega)]; exact ⟨rfl, rfl⟩
theorem p_restoreSnapshot {x : Int} : z_Sem l (d + 2) M_R_restoreSnapshot [.inr (.inr (.ref 148)), .inl x] (m_Ex g T, J, X) 0 0 (z_ret (.inl (if (0 ≤ x ∧ x ≤ 1) ∧ J 150 x ≠ 0 then 1 else 0)) (m_Ex g T, if (0 ≤ x ∧ x ≤ 1) ∧ J 150 x ≠ 0 then z_row (z_u J 148 2 0) 149 (k_copy (J 149) (1 + x) 0) else z_u J 148 2 0, X)) := by
  refine z_sem_of z_m195 m_ok_195 (Nat.le_of_ble_eq_true rfl) (fun Wp hs hv hS => ?_)
  refine w_195_0 hs ?_
  refine ⟨fun c => ?_, fun c => ⟨fun c1 => ?_, fun c1 => ⟨by omega, fun c2 => ⟨by omega, z_cV (c_copyBlock (J := z_u J 148 2 0) (by omega) (by omega) (by omega)) ?_⟩, fun c2 => ?_⟩⟩⟩
  · rw [if_neg (by omega), if_neg (by omega)]; exact ⟨rfl, rfl⟩
  · rw [if_neg (by omega), if_neg (by omega)]; exact ⟨rfl, rfl⟩
  · rw [if_pos ⟨by omega, c2⟩, if_pos ⟨by omega, c2⟩]; exact ⟨rfl, rfl⟩
  · rw [if_neg (fun z => z.2 c2), if_neg (fun z => z.2 c2)]; exact ⟨rfl, rfl⟩
theorem c_personsIn0 (hb : y_base (J 149)) {r : Int} (hr : 0 ≤ r ∧ r < J 149 1) : z_Sem l (d + 2) M_R_personsIn [.inr (.inr (.ref 148)), .inl r, .inl 0] (m_Ex g T, J, X) 0 0 (z_ret (.inl (y_sum (y_pi (J 149) (1188 + 300 * r)) (J 149 (10 + 14 * r + 6)).toNat)) (m_Ex g T, J, X)) := by
  have h1 := hb.1.2.1
  have d6 := (hb.ride hr.1 hr.2).2.2.2.2.2.1
  have ln := (hb.2.1 r hr.1 hr.2).2.1.1
  have sb : ∀ n : Nat, (n : Int) ≤ J 149 (10 + 14 * r + 6) → 0 ≤ y_sum (y_pi (J 149) (1188 + 300 * r)) n ∧ y_sum (y_pi (J 149) (1188 + 300 * r)) n ≤ 12 * n := fun n hn => ⟨y_sum_nn (fun k hk => by have := ln k (by omega) (by omega); unfold y_pi; omega), y_sum_le (fun k hk => by have := ln k (by omega) (by omega); unfold y_pi; omega)⟩
  refine z_sem_of z_m281 m_ok_281 (Nat.le_of_ble_eq_true rfl) (fun Wp hs hv hS => ?_)
  have loop : ∀ (n k : Nat) (a : Int), (k : Int) + n = J 149 (10 + 14 * r + 6) → a = y_sum (y_pi (J 149) (1188 + 300 * r)) k → Wp 5 [some (.inr (.inr (.ref 148))), some (.inl r), some (.inl 0), some (.inl a), some (.inl k)] [] (m_Ex g T, J, X) 0 0 := by
    intro n
    induction n with
    | zero =>
      intro k a hk ha
      refine w_281_5 hs ?_
      simp only [Int.reduceAdd]
      refine ⟨by omega, fun c => ⟨z_wi ?_, rfl⟩, fun c => by omega⟩
      rw [ha, show (J 149 (10 + 14 * r + 6)).toNat = k by omega]
    | succ n ih =>
      intro k a hk ha
      have b2 := sb k (by omega)
      have lk := ln k (by omega) (by omega)
      refine w_281_5 hs ?_
      simp only [Int.reduceAdd]
      refine ⟨by omega, fun c => by omega, fun c => ⟨fun c1 => absurd rfl c1, fun c1 => ⟨by omega, ih (k + 1) _ (by omega) ?_⟩⟩⟩
      rw [ha, y_sum]; rfl
  refine w_281_0 hs ?_
  exact loop (J 149 (10 + 14 * r + 6)).toNat 0 0 (by omega) rfl
theorem c_personsIn1 (hb : y_base (J 149)) {r : Int} (hr : 0 ≤ r ∧ r < J 149 1) : z_Sem l (d + 2) M_R_personsIn [.inr (.inr (.ref 148)), .inl r, .inl 1] (m_Ex g T, J, X) 0 0 (z_ret (.inl (y_sum (y_pi (J 149) (3588 + 122 * r)) (J 149 (10 + 14 * r + 7)).toNat)) (m_Ex g T, J, X)) := by
  have h1 := hb.1.2.1
  have d6 := (hb.ride hr.1 hr.2).2.2.2.2.2.2.1
  have ln := (hb.2.1 r hr.1 hr.2).2.1.2
  have sb : ∀ n : Nat, (n : Int) ≤ J 149 (10 + 14 * r + 7) → 0 ≤ y_sum (y_pi (J 149) (3588 + 122 * r)) n ∧ y_sum (y_pi (J 149) (3588 + 122 * r)) n ≤ 12 * n := fun n hn => ⟨y_sum_nn (fun k hk => by have := ln k (by omega) (by omega); unfold y_pi; omega), y_sum_le (fun k hk => by have := ln k (by omega) (by omega); unfold y_pi; omega)⟩
  refine z_sem_of z_m281 m_ok_281 (Nat.le_of_ble_eq_true rfl) (fun Wp hs hv hS => ?_)
  have loop : ∀ (n k : Nat) (a : Int), (k : Int) + n = J 149 (10 + 14 * r + 7) → a = y_sum (y_pi (J 149) (3588 + 122 * r)) k → Wp 5 [some (.inr (.inr (.ref 148))), some (.inl r), some (.inl 1), some (.inl a), some (.inl k)] [] (m_Ex g T, J, X) 0 0 := by
    intro n
    induction n with
    | zero =>
      intro k a hk ha
      refine w_281_5 hs ?_
      simp only [Int.reduceAdd]
      refine ⟨by omega, fun c => ⟨z_wi ?_, rfl⟩, fun c => by omega⟩
      rw [ha, show (J 149 (10 + 14 * r + 7)).toNat = k by omega]
    | succ n ih =>
      intro k a hk ha
      have b2 := sb k (by omega)
      have lk := ln k (by omega) (by omega)
      refine w_281_5 hs ?_
      simp only [Int.reduceAdd]
      refine ⟨by omega, fun c => by omega, fun c => ⟨fun c1 => ⟨by omega, ih (k + 1) _ (by omega) ?_⟩, fun c1 => absurd c1 (by decide)⟩⟩
      rw [ha, y_sum]; rfl
  refine w_281_0 hs ?_
  exact loop (J 149 (10 + 14 * r + 7)).toNat 0 0 (by omega) rfl
theorem p_standbyPersons (hb : y_base (J 149)) {r : Int} : z_Sem l (d + 3) M_R_standbyPersons [.inr (.inr (.ref 148)), .inl r] (m_Ex g T, J, X) 0 0 (z_ret (.inl (o_standbyPersons (J 149) r).2) (m_Ex g T, z_u J 148 2 (o_standbyPersons (J 149) r).1, X)) := by
  obtain ⟨h0, h1, h2, h3, h4, h5⟩ := hb.1
  refine z_sem_of z_m280 m_ok_280 (Nat.le_of_ble_eq_true rfl) (fun Wp hs hv hS => ?_)
  refine w_280_0 hs ?_
  refine ⟨by omega, fun c => ?_, fun c => ⟨fun c1 => ?_, fun c1 => z_cI (c_personsIn1 (J := z_u J 148 2 0) hb ⟨c, show r < J 149 1 by omega⟩) ?_⟩⟩
  all_goals (refine ⟨?_, ?_⟩ <;> (simp only [o_standbyPersons, y_need, z_u_u]; (repeat' split) <;> first | rfl | omega))
theorem p_mergePersons (hb : y_base (J 149)) {r : Int} : z_Sem l (d + 3) M_R_mergePersons [.inr (.inr (.ref 148)), .inl r] (m_Ex g T, J, X) 0 0 (z_ret (.inl (o_mergePersons (J 149) r).2) (m_Ex g T, z_u J 148 2 (o_mergePersons (J 149) r).1, X)) := by
  obtain ⟨h0, h1, h2, h3, h4, h5⟩ := hb.1
  refine z_sem_of z_m283 m_ok_283 (Nat.le_of_ble_eq_true rfl) (fun Wp hs hv hS => ?_)
  refine w_283_0 hs ?_
  refine ⟨by omega, fun c => ?_, fun c => ⟨fun c1 => ?_, fun c1 => z_cI (c_personsIn0 (J := z_u J 148 2 0) hb ⟨c, show r < J 149 1 by omega⟩) ?_⟩⟩
  all_goals (refine ⟨?_, ?_⟩ <;> (simp only [o_mergePersons, y_need, z_u_u]; (repeat' split) <;> first | rfl | omega))
theorem p_capacityLeft (hb : y_base (J 149)) {r : Int} : z_Sem l (d + 4) M_R_capacityLeft [.inr (.inr (.ref 148)), .inl r] (m_Ex g T, J, X) 0 0 (z_ret (.inl (o_capacityLeft (J 149) r).2) (m_Ex g T, z_u J 148 2 (o_capacityLeft (J 149) r).1, X)) := by
  obtain ⟨h0, h1, h2, h3, h4, h5⟩ := hb.1
  refine z_sem_of z_m216 m_ok_216 (Nat.le_of_ble_eq_true rfl) (fun Wp hs hv hS => ?_)
  have loop : 0 ≤ r ∧ r < J 149 1 → ∀ (n k : Nat) (a : Int), J 149 0 + (k : Int) + n = 144 → a = y_sum (y_fs (J 149) r) k → Wp 37 [some (.inr (.inr (.ref 148))), some (.inl r), some (.inl a), some (.inl (J 149 0 + k))] [] (m_Ex g T, z_u J 148 2 0, X) 0 0 := by
    intro hr n
    have fb : ∀ s, -1800 ≤ y_free (J 149) r s ∧ y_free (J 149) r s ≤ 200 := fun s => by
      have b1 := y_planned_b (s := s) (hb.ride hr.1 hr.2)
      have b2 := y_charged_b hb (r := r) (s := s)
      unfold y_free
      omega
    have sb : ∀ n : Nat, -1800 * (n : Int) ≤ y_sum (y_fs (J 149) r) n ∧ y_sum (y_fs (J 149) r) n ≤ 200 * n := by
      intro n
      induction n with
      | zero => simp [y_sum]
      | succ n ih =>
        have := fb (J 149 0 + n)
        rw [y_sum, y_fs]
        omega
    induction n with
    | zero =>
      intro k a hk ha
      refine w_216_37 hs ?_
      refine ⟨fun c => ?_, fun c => by omega⟩
      rw [o_capacityLeft, y_need, if_pos hr]
      exact ⟨z_wi (by rw [ha, show (144 - J 149 0).toNat = k by omega]), rfl⟩
    | succ n ih =>
      intro k a hk ha
      have b1 := sb k
      have b2 := fb (J 149 0 + k)
      refine w_216_37 hs ?_
      refine ⟨fun c => by omega, fun c => z_cI (c_plannedIn (J := z_u J 148 2 0) hb hr) (z_cI (c_chargedIn (J := z_u J 148 2 0) hb) ⟨?_, ?_⟩)⟩
      · have e1 : y_planned ((z_u J 148 2 0) 149) r (J 149 0 + k) - y_charged ((z_u J 148 2 0) 149) r (J 149 0 + k) = y_free (J 149) r (J 149 0 + k) := rfl
        omega
      · have := ih (k + 1) (a + y_free (J 149) r (J 149 0 + k)) (by omega) (by rw [ha, y_sum]; rfl)
        rw [show J 149 0 + ((k + 1 : Nat) : Int) = J 149 0 + k + 1 by omega] at this
        exact this
  refine w_216_0 hs ?_
  refine ⟨by omega, fun c => ?_, fun c => ⟨fun c1 => ?_, fun c1 => ?_⟩⟩
  · refine ⟨?_, ?_⟩ <;> (simp only [o_capacityLeft, y_need, z_u_u]; (repeat' split) <;> first | rfl | omega)
  · refine ⟨?_, ?_⟩ <;> (simp only [o_capacityLeft, y_need, z_u_u]; (repeat' split) <;> first | rfl | omega)
  · have := loop ⟨c, by omega⟩ (144 - J 149 0).toNat 0 0 (by omega) rfl
    rw [show J 149 0 + ((0 : Nat) : Int) = J 149 0 by omega] at this
    exact this
theorem p_peakSlot (hb : y_base (J 149)) {r : Int} : z_Sem l (d + 3) M_R_peakSlot [.inr (.inr (.ref 148)), .inl r] (m_Ex g T, J, X) 0 0 (z_ret (.inl (o_peakSlot (J 149) r).2) (m_Ex g T, z_u J 148 2 (o_peakSlot (J 149) r).1, X)) := by
  obtain ⟨h0, h1, h2, h3, h4, h5⟩ := hb.1
  refine z_sem_of z_m217 m_ok_217 (Nat.le_of_ble_eq_true rfl) (fun Wp hs hv hS => ?_)
  have loop : 0 ≤ r ∧ r < J 149 1 → ∀ (n k : Nat), k + n = 143 → Wp 32 [some (.inr (.inr (.ref 148))), some (.inl r), some (.inl (y_peak (J 149) r k)), some (.inl (k + 1))] [] (m_Ex g T, z_u J 148 2 0, X) 0 0 := by
    intro hr n
    induction n with
    | zero =>
      intro k hk
      refine w_217_32 hs ?_
      refine ⟨fun c => z_cI (c_chargedIn (J := z_u J 148 2 0) hb) ⟨fun c1 => ?_, fun c1 => ?_⟩, fun c => by omega⟩
      · have c1 : y_charged (J 149) r (y_peak (J 149) r k) ≠ 0 := c1
        rw [show k = 143 by omega] at *
        rw [o_peakSlot, y_need, if_pos hr, if_neg c1]
        exact ⟨rfl, rfl⟩
      · have c1 : y_charged (J 149) r (y_peak (J 149) r k) = 0 := c1
        rw [show k = 143 by omega] at *
        rw [o_peakSlot, y_need, if_pos hr, if_pos c1]
        exact ⟨rfl, rfl⟩
    | succ n ih =>
      intro k hk
      refine w_217_32 hs ?_
      refine ⟨fun c => by omega, fun c => z_cI (c_chargedIn (J := z_u J 148 2 0) hb) (z_cI (c_chargedIn (J := z_u J 148 2 0) hb) ⟨fun c1 => ⟨by omega, ?_⟩, fun c1 => ⟨by omega, ?_⟩⟩)⟩
      · have c1 : y_charged (J 149) r (k + 1) ≤ y_charged (J 149) r (y_peak (J 149) r k) := c1
        have := ih (k + 1) (by omega)
        rw [y_peak, if_neg (by omega)] at this
        exact this
      · have c1 : y_charged (J 149) r (y_peak (J 149) r k) < y_charged (J 149) r (k + 1) := c1
        have := ih (k + 1) (by omega)
        rw [y_peak, if_pos c1] at this
        exact this
  refine w_217_0 hs ?_
  refine ⟨by omega, fun c => ?_, fun c => ⟨fun c1 => ?_, fun c1 => loop ⟨c, by omega⟩ 143 0 (by omega)⟩⟩
  · refine ⟨?_, ?_⟩ <;> (simp only [o_peakSlot, y_need, z_u_u]; (repeat' split) <;> first | rfl | omega)
  · refine ⟨?_, ?_⟩ <;> (simp only [o_peakSlot, y_need, z_u_u]; (repeat' split) <;> first | rfl | omega)
theorem p_usage (hb : y_base (J 149)) {r : Int} : z_Sem l (d + 4) M_R_usage [.inr (.inr (.ref 148)), .inl r] (m_Ex g T, J, X) 0 0 (z_ret (.inr (.inr (.double (o_usage (J 149) r).2))) (m_Ex g T, z_u J 148 2 (o_usage (J 149) r).1, X)) := by
  obtain ⟨h0, h1, h2, h3, h4, h5⟩ := hb.1
  refine z_sem_of z_m218 m_ok_218 (Nat.le_of_ble_eq_true rfl) (fun Wp hs hv hS => ?_)
  have loop : 0 ≤ r ∧ r < J 149 1 → ∀ (n k : Nat) (a b : Int), k + n = 144 → a = y_sum (y_charged (J 149) r) k → b = y_sum (y_planned (J 149) r) k → Wp 35 [some (.inr (.inr (.ref 148))), some (.inl r), some (.inl a), some (.inl b), some (.inl k)] [] (m_Ex g T, z_u J 148 2 0, X) 0 0 := by
    intro hr n
    have s1 : ∀ n : Nat, 0 ≤ y_sum (y_charged (J 149) r) n ∧ y_sum (y_charged (J 149) r) n ≤ 1800 * n := fun n => ⟨y_sum_nn (fun k _ => (y_charged_b hb).1), y_sum_le (fun k _ => (y_charged_b hb).2)⟩
    have s2 : ∀ n : Nat, 0 ≤ y_sum (y_planned (J 149) r) n ∧ y_sum (y_planned (J 149) r) n ≤ 200 * n := fun n => ⟨y_sum_nn (fun k _ => (y_planned_b (hb.ride hr.1 hr.2)).1), y_sum_le (fun k _ => (y_planned_b (hb.ride hr.1 hr.2)).2)⟩
    induction n with
    | zero =>
      intro k a b hk ha hb2
      have z2 := s2 k
      refine w_218_35 hs ?_
      have hk2 : k = 144 := by omega
      subst hk2
      refine ⟨fun c => ⟨fun c1 => ⟨?_, ?_⟩, fun c1 => ?_⟩, fun c => by omega⟩
      · exact v_divI (by omega) c1
      · rw [o_usage, y_needD, if_pos hr, y_needD, if_pos (by rw [← hb2]; exact c1), ← hb2, ← ha]
        exact ⟨rfl, rfl⟩
      · rw [z_u_u, o_usage, y_needD, if_pos hr, y_needD, if_neg (by rw [← hb2]; exact fun z => z c1)]
        exact ⟨rfl, rfl⟩
    | succ n ih =>
      intro k a b hk ha hb2
      have z1 := s1 k
      have z2 := s2 k
      have z3 := y_charged_b hb (r := r) (s := k)
      have z4 := y_planned_b (s := k) (hb.ride hr.1 hr.2)
      refine w_218_35 hs ?_
      refine ⟨fun c => by omega, fun c => z_cI (c_chargedIn (J := z_u J 148 2 0) hb) ⟨?_, z_cI (c_plannedIn (J := z_u J 148 2 0) hb hr) ⟨?_, ?_⟩⟩⟩
      · have e1 : y_charged ((z_u J 148 2 0) 149) r k = y_charged (J 149) r k := rfl
        omega
      · have e1 : y_planned ((z_u J 148 2 0) 149) r k = y_planned (J 149) r k := rfl
        omega
      · exact ih (k + 1) _ _ (by omega) (by rw [ha, y_sum]; rfl) (by rw [hb2, y_sum]; rfl)
  refine w_218_0 hs ?_
  refine ⟨by omega, fun c => ?_, fun c => ⟨fun c1 => ?_, fun c1 => loop ⟨c, by omega⟩ 144 0 0 0 (by omega) rfl rfl⟩⟩
  · refine ⟨?_, ?_⟩ <;> (simp only [o_usage, y_needD, z_u_u]; (repeat' split) <;> first | rfl | omega)
  · refine ⟨?_, ?_⟩ <;> (simp only [o_usage, y_needD, z_u_u]; (repeat' split) <;> first | rfl | omega)
end R13
