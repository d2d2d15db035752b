/-! the reference: sums over tickets -/
def y_ch (q : Int → Int) (r s : Int) : Int → Int := fun t => if q (288 + 6 * t + 1) = r ∧ q (288 + 6 * t + 2) = s ∧ q (288 + 6 * t + 5) ≠ 3 then q (138 + 3 * q (288 + 6 * t + 0) + 1) else 0
/-- persons charged to a slot -/
def y_charged (q : Int → Int) (r s : Int) : Int := y_sum (y_ch q r s) (q 5).toNat
theorem y_ch_b {q : Int → Int} (hb : y_base q) {r s : Int} {k : Nat} (hk : (k : Int) < q 5) : 0 ≤ y_ch q r s k ∧ y_ch q r s k ≤ 12 := by
  have b := hb.tk (t := k) (by omega) hk
  unfold y_ch
  split <;> omega
theorem y_chs_b {q : Int → Int} (hb : y_base q) {r s : Int} {n : Nat} (hn : (n : Int) ≤ q 5) : 0 ≤ y_sum (y_ch q r s) n ∧ y_sum (y_ch q r s) n ≤ 12 * n :=
  ⟨y_sum_nn (fun k hk => (y_ch_b hb (by omega)).1), y_sum_le (fun k hk => (y_ch_b hb (by omega)).2)⟩
theorem y_charged_b {q : Int → Int} (hb : y_base q) {r s : Int} : 0 ≤ y_charged q r s ∧ y_charged q r s ≤ 1800 := by
  have h5 := hb.1.2.2.2.2.2
  have := y_chs_b hb (r := r) (s := s) (n := (q 5).toNat) (by omega)
  unfold y_charged
  omega
def y_pw (q : Int → Int) (r sh s : Int) : Int := if q (10 + 14 * r + 3) ≤ s ∧ s ≤ q (10 + 14 * r + 4) then q (10 + 14 * r + 0) * sh / 100 else 0
def y_planned (q : Int → Int) (r s : Int) : Int := y_pw q r (q (10 + 14 * r + 1)) s
theorem y_mul_b {c sh : Int} (h1 : 1 ≤ c ∧ c ≤ 200) (h2 : 0 ≤ sh ∧ sh ≤ 100) : 0 ≤ c * sh ∧ c * sh ≤ 20000 := by
  have := Int.mul_le_mul h1.2 h2.2 h2.1 (by omega)
  have := Int.mul_nonneg (show 0 ≤ c by omega) h2.1
  omega
theorem y_pw_b {q : Int → Int} {r sh s : Int} (h : y_ride q r) (h2 : 0 ≤ sh ∧ sh ≤ 100) : 0 ≤ y_pw q r sh s ∧ y_pw q r sh s ≤ 200 := by
  have := y_mul_b h.1 h2
  unfold y_pw
  split <;> omega
section R1
variable {l : Launch} {d : Nat} {g : List (Option Nat)} {T : m_E} {J : z_J} {X : z_X}
theorem c_chargedIn (hb : y_base (J 149)) {r s : Int} : z_Sem l (d + 2) M_R_chargedIn [.inr (.inr (.ref 148)), .inl r, .inl s] (m_Ex g T, J, X) 0 0 (z_ret (.inl (y_charged (J 149) r s)) (m_Ex g T, J, X)) := by
  have h5 := hb.1.2.2.2.2.2
  refine z_sem_of z_m214 m_ok_214 (Nat.le_of_ble_eq_true rfl) (fun Wp hs hv hS => ?_)
  have loop : ∀ (n k : Nat) (a : Int), (k : Int) + n = J 149 5 → a = y_sum (y_ch (J 149) r s) k → Wp 5 [some (.inr (.inr (.ref 148))), some (.inl r), some (.inl s), some (.inl a), some (.inl k)] [] (m_Ex g T, J, X) 0 0 := by
    intro n
    induction n with
    | zero =>
      intro k a hk ha
      refine w_214_5 hs ?_
      refine ⟨fun c => ⟨?_, rfl⟩, fun c => by omega⟩
      rw [ha, y_charged, show (J 149 5).toNat = k by omega]
    | succ n ih =>
      intro k a hk ha
      have b := hb.tk (t := k) (by omega) (by omega)
      have b2 := y_chs_b hb (r := r) (s := s) (n := k) (by omega)
      refine w_214_5 hs ?_
      refine ⟨fun c => by omega, fun c => ⟨by omega, fun c1 => ⟨by omega, ih (k + 1) _ (by omega) ?_⟩, fun c1 => ⟨by omega, fun c2 => ⟨by omega, ih (k + 1) _ (by omega) ?_⟩, fun c2 => ⟨by omega, fun c3 => ⟨by omega, ih (k + 1) _ (by omega) ?_⟩, fun c3 => ⟨by omega, ih (k + 1) _ (by omega) ?_⟩⟩⟩⟩⟩
      all_goals
        simp only [y_sum, y_ch]
        split <;> omega
  refine w_214_0 hs ?_
  exact loop (J 149 5).toNat 0 0 (by omega) rfl
theorem c_plannedIn (hb : y_base (J 149)) {r s : Int} (hr : 0 ≤ r ∧ r < J 149 1) : z_Sem l (d + 3) M_R_plannedIn [.inr (.inr (.ref 148)), .inl r, .inl s] (m_Ex g T, J, X) 0 0 (z_ret (.inl (y_planned (J 149) r s)) (m_Ex g T, J, X)) := by
  have h1 := hb.1.2.1
  have hr2 := (hb.2.1 r hr.1 hr.2).1
  have hm := y_mul_b hr2.1 hr2.2.1
  obtain ⟨r0, r1, r2, r3, -⟩ := hr2
  refine z_sem_of z_m210 m_ok_210 (Nat.le_of_ble_eq_true rfl) (fun Wp hs hv hS => ?_)
  refine w_210_0 hs ?_
  refine ⟨by omega, fun c => ⟨?_, rfl⟩, fun c => ⟨fun c2 => ⟨?_, rfl⟩, fun c2 => ⟨by omega, ?_, rfl⟩⟩⟩
  all_goals
    unfold y_planned y_pw
    split <;> (first | rfl | omega)
end R1
