/-! copying a day -/
section Q30
variable {l : Launch} {d : Nat} {E : m_E} {J : z_J} {X : z_X} {b c : Nat}
theorem e_cpRides (hb : x_at E b) (hc : x_at E c) (hd : b + 89 ≤ c ∨ c + 89 ≤ b) (hz : ∀ r, 0 ≤ r → r < 8 → J (b + 7) r = 0 ∨ J (b + 7) r = 1) : z_Sem l (d + 1) M_Rides_copyFrom [.inr (.inr (.ref (c + 1))), .inr (.inr (.ref (b + 1)))] (E, J, X) 0 0 (z_vq E (fun J' X' => X' = X ∧ (∀ a, (a < c + 1 ∨ c + 12 < a) → J' a = J a) ∧ J' (c + 1) 11 = J (b + 1) 11 ∧ (∀ r, 0 ≤ r → r < 8 → J' (c + 2) r = J (b + 2) r ∧ J' (c + 3) r = J (b + 3) r ∧ J' (c + 4) r = J (b + 4) r ∧ J' (c + 5) r = J (b + 5) r ∧ J' (c + 6) r = J (b + 6) r ∧ J' (c + 7) r = J (b + 7) r ∧ J' (c + 8) r = J (b + 8) r ∧ J' (c + 9) r = J (b + 9) r ∧ J' (c + 10) r = J (b + 10) r ∧ J' (c + 11) r = J (b + 11) r ∧ J' (c + 12) r = J (b + 12) r))) := by
  refine z_sem_of z_m80 m_ok_80 (Nat.le_of_ble_eq_true rfl) (fun Wp hs hv hS => ?_)
  refine w_80d_0 hb hc hs ?_
  refine w_80d_30 hb hc hs ?_
  refine w_80d_60 hb hc hs ?_
  refine ⟨fun i a1 a2 => ?_, ?_⟩
  · simp (disch := omega) only [z_row_ne]; exact hz _ (by omega) (by omega)
  refine w_80d_90 hb hc hs ?_
  refine w_80d_120 hb hc hs ?_
  refine w_80d_150 hb hc hs ?_
  refine ⟨_, _, rfl, rfl, rfl, fun b hb => ?_, ?_, fun r a1 a2 => ?_⟩
  · simp (disch := omega) only [z_u_ne, z_row_ne]
  · rw [z_u_at rfl]; simp (disch := omega) only [z_u_ne, z_row_ne]
  · simp (disch := omega) only [z_u_ne, z_row_ne, z_row_eq, z_cpy0, and_self]
theorem e_cpGuests (hb : x_at E b) (hc : x_at E c) (hd : b + 89 ≤ c ∨ c + 89 ≤ b) : z_Sem l (d + 1) M_Guests_copyFrom [.inr (.inr (.ref (c + 13))), .inr (.inr (.ref (b + 13)))] (E, J, X) 0 0 (z_vq E (fun J' X' => X' = X ∧ (∀ a, (a < c + 13 ∨ c + 20 < a) → J' a = J a) ∧ J' (c + 13) 4 = J (b + 13) 4 ∧ J' (c + 13) 8 = J (b + 13) 8 ∧ (∀ i, 0 ≤ i → i < 4 → J' (c + 14) i = J (b + 14) i ∧ J' (c + 15) i = J (b + 15) i ∧ J' (c + 16) i = J (b + 16) i ∧ J' (c + 17) i = J (b + 17) i) ∧ (∀ i, 0 ≤ i → i < 50 → J' (c + 18) i = J (b + 18) i ∧ J' (c + 19) i = J (b + 19) i ∧ J' (c + 20) i = J (b + 20) i))) := by
  refine z_sem_of z_m39 m_ok_39 (Nat.le_of_ble_eq_true rfl) (fun Wp hs hv hS => ?_)
  refine w_39d_0 hb hc hs ?_
  refine w_39d_28 hb hc hs ?_
  refine w_39d_56 hb hc hs ?_
  refine w_39d_79 hb hc hs ?_
  refine ⟨_, _, rfl, rfl, rfl, fun b hb => ?_, ?_, ?_, fun r a1 a2 => ?_, fun r a1 a2 => ?_⟩
  · simp (disch := omega) only [z_u_ne, z_row_ne]
  · rw [z_u_off (by omega), z_row_ne (by omega), z_row_ne (by omega), z_row_ne (by omega), z_u_at rfl]; simp (disch := omega) only [z_u_ne, z_row_ne]
  · rw [z_u_at rfl]; simp (disch := omega) only [z_u_ne, z_row_ne]
  · simp (disch := omega) only [z_u_ne, z_row_ne, z_row_eq, z_cpy0, and_self]
  · simp (disch := omega) only [z_u_ne, z_row_ne, z_row_eq, z_cpy0, and_self]
theorem e_cpTickets (hb : x_at E b) (hc : x_at E c) (hd : b + 89 ≤ c ∨ c + 89 ≤ b) : z_Sem l (d + 1) M_Tickets_copyFrom [.inr (.inr (.ref (c + 21))), .inr (.inr (.ref (b + 21)))] (E, J, X) 0 0 (z_vq E (fun J' X' => X' = X ∧ (∀ a, (a < c + 21 ∨ c + 27 < a) → J' a = J a) ∧ J' (c + 21) 6 = J (b + 21) 6 ∧ (∀ i, 0 ≤ i → i < 150 → J' (c + 22) i = J (b + 22) i ∧ J' (c + 23) i = J (b + 23) i ∧ J' (c + 24) i = J (b + 24) i ∧ J' (c + 25) i = J (b + 25) i ∧ J' (c + 26) i = J (b + 26) i ∧ J' (c + 27) i = J (b + 27) i))) := by
  refine z_sem_of z_m97 m_ok_97 (Nat.le_of_ble_eq_true rfl) (fun Wp hs hv hS => ?_)
  refine w_97d_0 hb hc hs ?_
  refine w_97d_32 hb hc hs ?_
  refine w_97d_64 hb hc hs ?_
  refine ⟨_, _, rfl, rfl, rfl, fun b hb => ?_, ?_, fun r a1 a2 => ?_⟩
  · simp (disch := omega) only [z_u_ne, z_row_ne]
  · rw [z_u_at rfl]; simp (disch := omega) only [z_u_ne, z_row_ne]
  · simp (disch := omega) only [z_u_ne, z_row_ne, z_row_eq, z_cpy0, and_self]
theorem e_cpWait (hb : x_at E b) (hc : x_at E c) (hd : b + 89 ≤ c ∨ c + 89 ≤ b) : z_Sem l (d + 1) M_Waitlists_copyFrom [.inr (.inr (.ref (c + 28))), .inr (.inr (.ref (b + 28)))] (E, J, X) 0 0 (z_vq E (fun J' X' => X' = X ∧ (∀ a, (a < c + 30 ∨ c + 38 < a) → J' a = J a) ∧ (∀ r : Int, 0 ≤ r → r < 8 → J' (c + 38) r = J (b + 38) r ∧ ∀ k, 0 ≤ k → k < 50 → J' (c + 30 + r.toNat) k = J (b + 30 + r.toNat) k))) := by
  refine z_sem_of z_m108 m_ok_108 (Nat.le_of_ble_eq_true rfl) (fun Wp hs hv hS => ?_)
  have loop : ∀ (m k : Nat) (J1 : z_J), k + m = 8 → (∀ a, (a < c + 30 ∨ c + 38 < a) → J1 a = J a) → (∀ r : Int, 0 ≤ r → r < (k : Int) → J1 (c + 38) r = J (b + 38) r ∧ ∀ k, 0 ≤ k → k < 50 → J1 (c + 30 + r.toNat) k = J (b + 30 + r.toNat) k) → Wp 2 [some (.inr (.inr (.ref (c + 28)))), some (.inr (.inr (.ref (b + 28)))), some (.inl k)] [] (E, J1, X) 0 0 := by
    intro m
    induction m with
    | zero =>
      intro k J1 hk hf hr
      refine w_108d_2 hb hc hs ?_
      exact ⟨fun _ => ⟨_, _, rfl, rfl, rfl, hf, fun r a1 a2 => hr r a1 (by omega)⟩, fun z => by omega⟩
    | succ m ih =>
      intro k J1 hk hf hr
      refine w_108d_2 hb hc hs ?_
      refine ⟨fun z => by omega, fun _ => ⟨by omega, by omega, by omega, ih (k + 1) _ (by omega) (fun a ha => ?_) (fun r a1 a2 => ?_)⟩⟩
      · rw [z_u_ne (by omega), z_row_ne (by omega)]; exact hf a ha
      · by_cases e : r = k
        · subst e
          refine ⟨by rw [z_u_at rfl, z_row_ne (by omega), hf _ (by omega)], fun j c1 c2 => ?_⟩
          rw [z_u_ne (by omega), z_row_eq, z_cpy0 ⟨c1, c2⟩, hf _ (by omega)]
        · refine ⟨by rw [z_u_off e, z_row_ne (by omega)]; exact (hr r a1 (by omega)).1, fun j c1 c2 => ?_⟩
          rw [z_u_ne (by omega), z_row_ne (by omega)]; exact (hr r a1 (by omega)).2 j c1 c2
  refine w_108d_0 hb hc hs ?_
  exact loop 8 0 J (by omega) (fun _ _ => rfl) (fun r a1 a2 => by omega)
theorem e_cpMerge (hb : x_at E b) (hc : x_at E c) (hd : b + 89 ≤ c ∨ c + 89 ≤ b) {i : Int} (hi : 0 ≤ i ∧ i < 8) {n : Int} (hn : J (b + 41 + 6 * i.toNat) 2 = n) (hn0 : 0 ≤ n ∧ n ≤ 150) : z_Sem l (d + 1) M_Line_copyFrom [.inr (.inr (.ref (c + 41 + 6 * i.toNat))), .inr (.inr (.ref (b + 41 + 6 * i.toNat)))] (E, J, X) 0 0 (z_vq E (fun J' X' => X' = X ∧ (∀ a, (a < c + 41 + 6 * i.toNat ∨ c + 43 + 6 * i.toNat < a) → J' a = J a) ∧ J' (c + 41 + 6 * i.toNat) 2 = n ∧ (∀ k, 0 ≤ k → k < n → J' (c + 42 + 6 * i.toNat) k = J (b + 42 + 6 * i.toNat) k ∧ J' (c + 43 + 6 * i.toNat) k = J (b + 43 + 6 * i.toNat) k))) := by
  refine z_sem_of z_m58 m_ok_58 (Nat.le_of_ble_eq_true rfl) (fun Wp hs hv hS => ?_)
  refine w_58m_0 hb hc hi hs ?_
  simp (disch := omega) only [z_u_at, z_row_ne, z_u_ne, hn]
  refine ⟨fun _ => ⟨by omega, _, _, rfl, rfl, rfl, fun a ha => ?_, ?_, fun k a1 a2 => ?_⟩, fun z => by omega⟩
  · simp (disch := omega) only [z_u_ne, z_row_ne]
  · rw [z_row_ne (by omega), z_row_ne (by omega), z_u_at rfl]
  · simp (disch := omega) only [z_u_ne, z_row_ne, z_row_eq, z_cpy0, and_self]
theorem e_cpStand (hb : x_at E b) (hc : x_at E c) (hd : b + 89 ≤ c ∨ c + 89 ≤ b) {i : Int} (hi : 0 ≤ i ∧ i < 8) {n : Int} (hn : J (b + 44 + 6 * i.toNat) 2 = n) (hn0 : 0 ≤ n ∧ n ≤ 60) : z_Sem l (d + 1) M_Line_copyFrom [.inr (.inr (.ref (c + 44 + 6 * i.toNat))), .inr (.inr (.ref (b + 44 + 6 * i.toNat)))] (E, J, X) 0 0 (z_vq E (fun J' X' => X' = X ∧ (∀ a, (a < c + 44 + 6 * i.toNat ∨ c + 46 + 6 * i.toNat < a) → J' a = J a) ∧ J' (c + 44 + 6 * i.toNat) 2 = n ∧ (∀ k, 0 ≤ k → k < n → J' (c + 45 + 6 * i.toNat) k = J (b + 45 + 6 * i.toNat) k ∧ J' (c + 46 + 6 * i.toNat) k = J (b + 46 + 6 * i.toNat) k))) := by
  refine z_sem_of z_m58 m_ok_58 (Nat.le_of_ble_eq_true rfl) (fun Wp hs hv hS => ?_)
  refine w_58s_0 hb hc hi hs ?_
  simp (disch := omega) only [z_u_at, z_row_ne, z_u_ne, hn]
  refine ⟨fun _ => ⟨by omega, _, _, rfl, rfl, rfl, fun a ha => ?_, ?_, fun k a1 a2 => ?_⟩, fun z => by omega⟩
  · simp (disch := omega) only [z_u_ne, z_row_ne]
  · rw [z_row_ne (by omega), z_row_ne (by omega), z_u_at rfl]
  · simp (disch := omega) only [z_u_ne, z_row_ne, z_row_eq, z_cpy0, and_self]
end Q30
