/-! the class: persons in a line -/
section Q13
variable {l : Launch} {d : Nat} {g : List (Option Nat)} {T : m_E} {J : z_J} {X : z_X} {q : Int → Int}
theorem e_personsIn {E : m_E} {ln la lb ll n : Nat} {f : Int → Int} (hc : E[ln]? = some (.inl 4, [some la, some lb, none])) (hc1 : E[la]? = some (.inr (.int, ll), [])) (hc2 : E[lb]? = some (.inr (.int, ll), [])) (hn : J ln 2 = n) (hl : n ≤ ll) (h150 : n ≤ 150) (hf : ∀ k : Nat, k < n → J la k = f k) (hb : ∀ k : Nat, k < n → 0 ≤ f k ∧ f k ≤ 12) : z_Sem l (d + 1) M_Line_personsIn [.inr (.inr (.ref ln)), .inl 0, .inl n] (E, J, X) 0 0 (z_ret (.inl (y_sum f n)) (E, J, X)) := by
  have sb : ∀ m : Nat, m ≤ n → 0 ≤ y_sum f m ∧ y_sum f m ≤ 12 * m := fun m hm => ⟨y_sum_nn (fun k hk => (hb k (by omega)).1), y_sum_le (fun k hk => (hb k (by omega)).2)⟩
  refine z_sem_of z_m61 m_ok_61 (Nat.le_of_ble_eq_true rfl) (fun Wp hs hv hS => ?_)
  have loop : ∀ (m k : Nat) (a : Int), k + m = n → a = y_sum f k → Wp 21 [some (.inr (.inr (.ref ln))), some (.inl 0), some (.inl n), some (.inl a), some (.inl n), some (.inl k)] [] (E, J, X) 0 0 := by
    intro m
    induction m with
    | zero =>
      intro k a hk ha
      refine w_61_21 hc hc1 hc2 hs ?_
      refine ⟨fun c => ⟨z_wi ?_, rfl⟩, fun c => by omega⟩
      rw [ha, show n = k by omega]
    | succ m ih =>
      intro k a hk ha
      have b := hb k (by omega)
      have b2 := sb k (by omega)
      refine w_61_21 hc hc1 hc2 hs ?_
      rw [hf k (by omega)]
      refine ⟨fun c => by omega, fun c => ⟨by omega, ih (k + 1) _ (by omega) ?_⟩⟩
      rw [ha, y_sum]
  refine w_61_0 hc hc1 hc2 hs ?_
  rw [hn, show min ((0 : Int) + n) n = n by omega, show max (0 : Int) 0 = ((0 : Nat) : Int) by omega]
  exact ⟨by omega, loop n 0 0 (by omega) rfl⟩
theorem e_persons {E : m_E} {ln la lb ll n : Nat} {f : Int → Int} (hc : E[ln]? = some (.inl 4, [some la, some lb, none])) (hc1 : E[la]? = some (.inr (.int, ll), [])) (hc2 : E[lb]? = some (.inr (.int, ll), [])) (hn : J ln 2 = n) (hl : n ≤ ll) (h150 : n ≤ 150) (hf : ∀ k : Nat, k < n → J la k = f k) (hb : ∀ k : Nat, k < n → 0 ≤ f k ∧ f k ≤ 12) : z_Sem l (d + 2) M_Line_persons [.inr (.inr (.ref ln))] (E, J, X) 0 0 (z_ret (.inl (y_sum f n)) (E, J, X)) := by
  refine z_sem_of z_m60 m_ok_60 (Nat.le_of_ble_eq_true rfl) (fun Wp hs hv hS => ?_)
  refine w_60_0 hc hc1 hc2 hs ?_
  rw [hn]
  exact z_cI (e_personsIn hc hc1 hc2 hn hl h150 hf hb) ⟨rfl, rfl⟩
theorem q_standbyPersons (hb : y_base q) (h : x_day 36 q J) {r : Int} : z_Sem l (d + 3) M_Q_standbyPersons [.inr (.inr (.ref 0)), .inl r] (m_Ex g T, J, X) 4 24 (x_out x_e1 x_e2 (o_standbyPersons q r) (m_Ex g T) (fun J' X' => X' = X ∧ J' = J)) := by
  obtain ⟨b0, b1, b2, b3, b4, b5⟩ := hb.1
  obtain ⟨d0, d4, d1, d2, d3, d5⟩ := h.hd
  refine z_sem_of z_m160 m_ok_160 (Nat.le_of_ble_eq_true rfl) (fun Wp hs hv hS => ?_)
  refine w_160_0 hs ?_
  refine ⟨by omega, fun c => x_t1 (by rw [o_standbyPersons, y_need_n (by omega)]) ⟨rfl, rfl⟩, fun c => ⟨fun c1 => ?_, fun c1 => x_t1 (by rw [o_standbyPersons, y_need_n (by omega)]) ⟨rfl, rfl⟩⟩⟩
  have hr : r < q 1 := by omega
  have d7 := (hb.ride c hr).2.2.2.2.2.2.1
  have ln := (hb.2.1 r c hr).2.1.2
  have x := h.line c hr
  refine ⟨by omega, z_cI (e_persons (n := (q (10 + 14 * r + 7)).toNat) (f := y_pi q (3588 + 122 * r)) (z_ka76 (by omega)) (z_ka76_1 (by omega)) (z_ka76_2 (by omega)) (by rw [x.2.1]; omega) (by omega) (by omega) (fun k hk => (x.2.2.2 k (by omega) (by omega)).1) (fun k hk => by have := ln k (by omega) (by omega); unfold y_pi; omega)) ?_⟩
  exact x_ok (by rw [o_standbyPersons, y_need_2 (by omega)]) ⟨rfl, rfl⟩
theorem q_mergePersons (hb : y_base q) (h : x_day 36 q J) {r : Int} : z_Sem l (d + 3) M_Q_mergePersons [.inr (.inr (.ref 0)), .inl r] (m_Ex g T, J, X) 4 24 (x_out x_e1 x_e2 (o_mergePersons q r) (m_Ex g T) (fun J' X' => X' = X ∧ J' = J)) := by
  obtain ⟨b0, b1, b2, b3, b4, b5⟩ := hb.1
  obtain ⟨d0, d4, d1, d2, d3, d5⟩ := h.hd
  refine z_sem_of z_m161 m_ok_161 (Nat.le_of_ble_eq_true rfl) (fun Wp hs hv hS => ?_)
  refine w_161_0 hs ?_
  refine ⟨by omega, fun c => x_t1 (by rw [o_mergePersons, y_need_n (by omega)]) ⟨rfl, rfl⟩, fun c => ⟨fun c1 => ?_, fun c1 => x_t1 (by rw [o_mergePersons, y_need_n (by omega)]) ⟨rfl, rfl⟩⟩⟩
  have hr : r < q 1 := by omega
  have d6 := (hb.ride c hr).2.2.2.2.2.1
  have ln := (hb.2.1 r c hr).2.1.1
  have x := h.line c hr
  refine ⟨by omega, z_cI (e_persons (n := (q (10 + 14 * r + 6)).toNat) (f := y_pi q (1188 + 300 * r)) (z_ka75 (by omega)) (z_ka75_1 (by omega)) (z_ka75_2 (by omega)) (by rw [x.1]; omega) (by omega) (by omega) (fun k hk => (x.2.2.1 k (by omega) (by omega)).1) (fun k hk => by have := ln k (by omega) (by omega); unfold y_pi; omega)) ?_⟩
  exact x_ok (by rw [o_mergePersons, y_need_2 (by omega)]) ⟨rfl, rfl⟩
end Q13
