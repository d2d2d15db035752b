/-! loading a park, of the class -/
theorem z_cpy0 {f h : Int → Int} {n j : Int} (hj : 0 ≤ j ∧ j < n) : z_cpy f h 0 0 n j = f j := by
  unfold z_cpy
  rw [if_pos (by omega), show 0 + (j - 0) = j by omega]
section Q26
variable {l : Launch} {d : Nat} {g : List (Option Nat)} {T : m_E} {J : z_J} {X : z_X} {t : Int → Int} {n : Int} {D : Int → Int}
theorem e_copyRides (hz : ∀ r, 0 ≤ r → r < 8 → J 10 r = 0) : z_Sem l (d + 1) M_Rides_copyFrom [.inr (.inr (.ref 37)), .inr (.inr (.ref 4))] (m_Ex g T, J, X) 0 0 (z_vq (m_Ex g T) (fun J' X' => X' = X ∧ (∀ b, (b < 37 ∨ 48 < b) → J' b = J b) ∧ J' 37 11 = J 4 11 ∧ (∀ r, 0 ≤ r → r < 8 → J' 38 r = J 5 r ∧ J' 39 r = J 6 r ∧ J' 40 r = J 7 r ∧ J' 41 r = J 8 r ∧ J' 42 r = J 9 r ∧ J' 43 r = J 10 r ∧ J' 44 r = J 11 r ∧ J' 45 r = J 12 r ∧ J' 46 r = J 13 r ∧ J' 47 r = J 14 r ∧ J' 48 r = J 15 r))) := by
  refine z_sem_of z_m80 m_ok_80 (Nat.le_of_ble_eq_true rfl) (fun Wp hs hv hS => ?_)
  refine w_80p_0 hs ?_
  refine w_80p_30 hs ?_
  refine w_80p_60 hs ?_
  refine ⟨fun i a1 a2 => Or.inl ?_, ?_⟩
  · rw [z_row_ne (by omega), z_row_ne (by omega), z_row_ne (by omega), z_row_ne (by omega)]; exact hz _ (by omega) (by omega)
  refine w_80p_90 hs ?_
  refine w_80p_120 hs ?_
  refine w_80p_150 hs ?_
  refine ⟨_, _, rfl, rfl, rfl, fun b hb => ?_, ?_, fun r a1 a2 => ?_⟩
  · simp (disch := omega) only [z_u_ne, z_row_ne]
  · rw [z_u_at rfl]; simp (disch := omega) only [z_u_ne, z_row_ne]
  · simp (disch := omega) only [z_u_ne, z_row_ne, z_row_eq, z_cpy0, and_self]
theorem e_copyGuests : z_Sem l (d + 1) M_Guests_copyFrom [.inr (.inr (.ref 49)), .inr (.inr (.ref 16))] (m_Ex g T, J, X) 0 0 (z_vq (m_Ex g T) (fun J' X' => X' = X ∧ (∀ b, (b < 49 ∨ 56 < b) → J' b = J b) ∧ J' 49 4 = J 16 4 ∧ J' 49 8 = J 16 8 ∧ (∀ i, 0 ≤ i → i < 4 → J' 50 i = J 17 i ∧ J' 51 i = J 18 i ∧ J' 52 i = J 19 i ∧ J' 53 i = J 20 i) ∧ (∀ i, 0 ≤ i → i < 50 → J' 54 i = J 21 i ∧ J' 55 i = J 22 i ∧ J' 56 i = J 23 i))) := by
  refine z_sem_of z_m39 m_ok_39 (Nat.le_of_ble_eq_true rfl) (fun Wp hs hv hS => ?_)
  refine w_39p_0 hs ?_
  refine w_39p_28 hs ?_
  refine w_39p_56 hs ?_
  refine w_39p_79 hs ?_
  refine ⟨_, _, rfl, rfl, rfl, fun b hb => ?_, ?_, ?_, fun r a1 a2 => ?_, fun r a1 a2 => ?_⟩
  · simp (disch := omega) only [z_u_ne, z_row_ne]
  · rw [z_u_off (by omega), z_row_ne (by omega), z_row_ne (by omega), z_row_ne (by omega), z_u_at rfl]; simp (disch := omega) only [z_u_ne, z_row_ne]
  · rw [z_u_at rfl]; simp (disch := omega) only [z_u_ne, z_row_ne]
  · simp (disch := omega) only [z_u_ne, z_row_ne, z_row_eq, z_cpy0, and_self]
  · simp (disch := omega) only [z_u_ne, z_row_ne, z_row_eq, z_cpy0, and_self]
theorem e_fill0 : z_Sem l (d + 1) M_Arr_fill [.inr (.inr (.ref 74)), .inl 0] (m_Ex g T, J, X) 0 0 (z_vq (m_Ex g T) (fun J' X' => X' = X ∧ (∀ b, b ≠ 74 → J' b = J b) ∧ ∀ r, 0 ≤ r → r < 8 → J' 74 r = 0)) := by
  refine z_sem_of z_m342 m_ok_342 (Nat.le_of_ble_eq_true rfl) (fun Wp hs hv hS => ?_)
  have loop : ∀ (m k : Nat) (J1 : z_J), k + m = 8 → (∀ b, b ≠ 74 → J1 b = J b) → (∀ r, 0 ≤ r → r < (k : Int) → J1 74 r = 0) → Wp 5 [some (.inr (.inr (.ref 74))), some (.inl 0), some (.inl k), some (.inl 8)] [] (m_Ex g T, J1, X) 0 0 := by
    intro m
    induction m with
    | zero =>
      intro k J1 hk hf hr
      refine w_342p_5 hs ?_
      exact ⟨fun _ => ⟨_, _, rfl, rfl, rfl, hf, fun r a1 a2 => hr r a1 (by omega)⟩, fun c => by omega⟩
    | succ m ih =>
      intro k J1 hk hf hr
      refine w_342p_5 hs ?_
      refine ⟨fun c => by omega, fun c => ⟨by omega, ih (k + 1) _ (by omega) (fun b hb => by rw [z_u_ne hb]; exact hf b hb) (fun r a1 a2 => ?_)⟩⟩
      by_cases e : r = k
      · rw [z_u_at e]
      · rw [z_u_off e]; exact hr r a1 (by omega)
  refine w_342p_0 hs ?_
  exact loop 8 0 J (by omega) (fun _ _ => rfl) (fun r a1 a2 => by omega)
/-- the draft's other rows -/
def x_D0 (J : z_J) : Prop := ∀ r, 0 ≤ r → r < 8 → J 10 r = 0 ∧ J 11 r = 0 ∧ J 12 r = 0 ∧ J 13 r = 0 ∧ J 14 r = 0 ∧ J 15 r = 0
theorem e_begin (hb : y_Db D) (hD : x_D D J) (hz : x_D0 J) : z_Sem l (d + 3) M_Day_begin [.inr (.inr (.ref 36)), .inr (.inr (.ref 3))] (m_Ex g T, J, X) 0 0 (z_vq (m_Ex g T) (fun J' X' => X' = X ∧ x_day 36 D J' ∧ ∀ b, (b < 36 ∨ 124 < b) → J' b = J b)) := by
  obtain ⟨d0, d1, d2, d3, d4, d5, hr, hzz, -⟩ := hb
  obtain ⟨g0, g1, g2, g3, G1, G2, G3⟩ := hD
  refine z_sem_of z_m1 m_ok_1 (Nat.le_of_ble_eq_true rfl) (fun Wp hs hv hS => ?_)
  refine w_1_0 hs ?_
  refine z_cVq (e_copyRides (J := z_u (z_u J 36 0 0) 36 1 (J 3 2)) (fun r a1 a2 => by rw [z_u_ne (by omega), z_u_ne (by omega)]; exact (hz r a1 a2).1)) ?_
  rintro J1 X1 ⟨rfl, f1, c1, r1⟩
  refine z_cVq (e_copyGuests (J := J1)) ?_
  rintro J2 X2 ⟨rfl, f2, c2, c3, t2, p2⟩
  refine z_cVq (e_fill0 (J := z_u J2 57 6 0)) ?_
  rintro J3 X3 ⟨rfl, f3, w3⟩
  have E12 : ∀ b, b < 36 → J1 b = J b := fun b hb => by rw [f1 b (by omega), z_u_ne (by omega), z_u_ne (by omega)]
  have loop : ∀ (m k : Nat) (J4 : z_J), k + m = 8 → (∀ b, (b < 77 ∨ 124 < b) → J4 b = J3 b) → (∀ r : Int, 0 ≤ r → r < (k : Int) → J4 (77 + 6 * r.toNat) 2 = 0 ∧ J4 (80 + 6 * r.toNat) 2 = 0) → Wp 52 [some (.inr (.inr (.ref 36))), some (.inr (.inr (.ref 3))), some (.inl k)] [] (m_Ex g T, J4, X3) 0 0 := by
    intro m
    induction m with
    | zero =>
      intro k J4 hk hf hw
      have A : ∀ b, (b < 36 ∨ 124 < b) → J4 b = J b := fun b hb => by
        rw [hf b (by omega), f3 b (by omega), z_u_ne (by omega), f2 b (by omega), f1 b (by omega), z_u_ne (by omega), z_u_ne (by omega)]
      have B : ∀ b, (37 ≤ b ∧ b ≤ 48) → J4 b = J1 b := fun b hb => by rw [hf b (by omega), f3 b (by omega), z_u_ne (by omega), f2 b (by omega)]
      have C : ∀ b, (49 ≤ b ∧ b ≤ 56) → J4 b = J2 b := fun b hb => by rw [hf b (by omega), f3 b (by omega), z_u_ne (by omega)]
      have e36 : J4 36 = z_up (z_up (J 36) 0 0) 1 (J 3 2) := by rw [hf 36 (by omega), f3 36 (by omega), z_u_ne (by omega), f2 36 (by omega), f1 36 (by omega), z_u_row, z_u_row]
      have e57 : J4 57 6 = 0 := by rw [hf 57 (by omega), f3 57 (by omega), z_u_at rfl]
      have E4 : ∀ b : Nat, b < 36 → (z_u (z_u J 36 0 0) 36 1 (J 3 2)) b = J b := fun b hb => by rw [z_u_ne (by omega), z_u_ne (by omega)]
      refine w_1_52 hs ?_
      refine ⟨fun _ => ⟨_, _, rfl, rfl, rfl, ⟨⟨?_, ?_, ?_, ?_, ?_, ?_⟩, fun r a1 a2 => ⟨?_, ⟨?_, ?_, fun k b1 b2 => ?_, fun k b1 b2 => ?_⟩, ⟨?_, fun k b1 b2 => ?_⟩⟩, fun i a1 a2 => ?_, fun i a1 a2 => ?_, fun i a1 a2 => by omega, fun r5 a1 a2 => ⟨by show J4 43 r5 = 0; rw [B 43 (by omega), (r1 r5 (by omega) a2).2.2.2.2.2.1, E4 10 (by omega)]; exact (hz r5 (by omega) a2).1, (hw r5 (by omega) (by omega)).1, (hw r5 (by omega) (by omega)).2⟩⟩, A⟩, fun c => by omega⟩
      · rw [e36, z_up_ne (by omega), z_up_eq rfl, d0]
      · rw [e36, z_up_eq rfl]; exact g0
      · show J4 37 11 = D 1
        rw [B 37 (by omega), c1, E4 4 (by omega)]; exact g1
      · show J4 49 4 = D 2
        rw [C 49 (by omega), c2, E12 16 (by omega)]; exact g2
      · show J4 49 8 = D 3
        rw [C 49 (by omega), c3, E12 16 (by omega)]; exact g3
      · show J4 57 6 = D 5
        rw [e57, d5]
      · obtain ⟨q0, q1, q2, q3, q4, q5, q6, q7, q8, q9, q10⟩ := r1 r a1 (by omega)
        obtain ⟨y5, y6, y7, y8, y9, y10⟩ := hz r a1 (by omega)
        obtain ⟨x0, x1, x2, x3, x4⟩ := G1 r a1 a2
        have z := fun w h1 h2 => hzz r w a1 (by omega) h1 h2
        refine ⟨?_, ?_, ?_, ?_, ?_, ?_, ?_, ?_, ?_, ?_, ?_⟩
        · show J4 38 r = _
          rw [B 38 (by omega), q0, E4 5 (by omega)]; exact x0
        · show J4 39 r = _
          rw [B 39 (by omega), q1, E4 6 (by omega)]; exact x1
        · show J4 40 r = _
          rw [B 40 (by omega), q2, E4 7 (by omega)]; exact x2
        · show J4 41 r = _
          rw [B 41 (by omega), q3, E4 8 (by omega)]; exact x3
        · show J4 42 r = _
          rw [B 42 (by omega), q4, E4 9 (by omega)]; exact x4
        · show J4 43 r = _
          rw [B 43 (by omega), q5, E4 10 (by omega), y5, z 5 (by omega) (by omega)]
        · show J4 44 r = _
          rw [B 44 (by omega), q6, E4 11 (by omega), y6, z 8 (by omega) (by omega)]
        · show J4 45 r = _
          rw [B 45 (by omega), q7, E4 12 (by omega), y7, z 9 (by omega) (by omega)]
        · show J4 46 r = _
          rw [B 46 (by omega), q8, E4 13 (by omega), y8, z 11 (by omega) (by omega)]
        · show J4 47 r = _
          rw [B 47 (by omega), q9, E4 14 (by omega), y9, z 10 (by omega) (by omega)]
        · show J4 48 r = _
          rw [B 48 (by omega), q10, E4 15 (by omega), y10, z 12 (by omega) (by omega)]
      · show J4 (77 + 6 * r.toNat) 2 = _
        rw [(hw r a1 (by omega)).1, hzz r 6 a1 (by omega) (by omega) (by omega)]
      · show J4 (80 + 6 * r.toNat) 2 = _
        rw [(hw r a1 (by omega)).2, hzz r 7 a1 (by omega) (by omega) (by omega)]
      · rw [hzz r 6 a1 (by omega) (by omega) (by omega)] at b2; omega
      · rw [hzz r 7 a1 (by omega) (by omega) (by omega)] at b2; omega
      · show J4 74 r = _
        rw [hf 74 (by omega), w3 r a1 (by omega), hzz r 13 a1 (by omega) (by omega) (by omega)]
      · rw [hzz r 13 a1 (by omega) (by omega) (by omega)] at b2; omega
      · obtain ⟨q0, q1, q2, q3⟩ := t2 i a1 (by omega)
        obtain ⟨x0, x1, x2, x3⟩ := G2 i a1 a2
        refine ⟨?_, ?_, ?_, ?_⟩
        · show J4 50 i = _
          rw [C 50 (by omega), q0, E12 17 (by omega)]; exact x0
        · show J4 51 i = _
          rw [C 51 (by omega), q1, E12 18 (by omega)]; exact x1
        · show J4 52 i = _
          rw [C 52 (by omega), q2, E12 19 (by omega)]; exact x2
        · show J4 53 i = _
          rw [C 53 (by omega), q3, E12 20 (by omega)]; exact x3
      · obtain ⟨q0, q1, q2⟩ := p2 i a1 (by omega)
        obtain ⟨x0, x1, x2⟩ := G3 i a1 a2
        refine ⟨?_, ?_, ?_⟩
        · show J4 54 i = _
          rw [C 54 (by omega), q0, E12 21 (by omega)]; exact x0
        · show J4 55 i = _
          rw [C 55 (by omega), q1, E12 22 (by omega)]; exact x1
        · show J4 56 i = _
          rw [C 56 (by omega), q2, E12 23 (by omega)]; exact x2
    | succ m ih =>
      intro k J4 hk hf hw
      refine w_1_52 hs ?_
      refine ⟨fun c => by omega, fun c => ⟨by omega, by omega, by omega, ih (k + 1) _ (by omega) (fun b hb => by rw [z_u_ne (by omega), z_u_ne (by omega)]; exact hf b hb) (fun r a1 a2 => ?_)⟩⟩
      by_cases e : r = k
      · subst e
        exact ⟨by rw [z_u_ne (by omega), z_u_at rfl], z_u_at rfl⟩
      · rw [z_u_ne (by omega), z_u_ne (by omega), z_u_ne (by omega), z_u_ne (by omega)]; exact hw r a1 (by omega)
  exact loop 8 0 J3 (by omega) (fun _ _ => rfl) (fun r a1 a2 => by omega)
theorem e_readPark (ht : J 2 = t) (hn : J 1 1 = n) (hT : y_T t n) : z_Sem l (d + 6) M_ParkDraft_read [.inr (.inr (.ref 3)), .inr (.inr (.ref 1))] (m_Ex g T, J, X) 0 0 (z_rq (m_Ex g T) (fun v J' X' => X' = X ∧ x_fd J J' ∧ J' 1 6 = (y_park t n).1.1 ∧ J' 1 7 = (y_park t n).1.2 ∧ ((y_park t n).1.1 = 0 → v = (y_park t n).2.1 ∧ x_D (y_park t n).2.2 J'))) := by
  have hn0 := hT.1
  refine z_sem_of z_m65 m_ok_65 (Nat.le_of_ble_eq_true rfl) (fun Wp hs hv hS => ?_)
  have main : ∀ (m : Nat) (p : Int) (D : Int → Int) (c : Int) (J1 : z_J), n - p < (m : Int) → (0 ≤ p ∧ p ≤ n) → (0 ≤ c ∧ c ≤ p) → x_R t n p J1 → J1 1 7 = -1 → x_D D J1 → y_Db D → x_fd J J1 → y_park t n = y_pks t n m p D c → Wp 36 [some (.inr (.inr (.ref 3))), some (.inr (.inr (.ref 1))), some (.inl c)] [] (m_Ex g T, J1, X) 0 0 := by
    intro m
    induction m with
    | zero => intro p D c J1 hm hp; omega
    | succ m ih =>
      intro p D c J1 hm hp hc hR h7 hD hb hf he
      rw [y_pks] at he
      have b0 := y_tok_b (t := t) (n := n) hp.2
      have h6 := hR.2.2.1
      have done : ∀ J2 : z_J, y_k t n p = 0 → x_f4 J1 J2 → z_rq (m_Ex g T) (fun v J' X' => X' = X ∧ x_fd J J' ∧ J' 1 6 = (y_park t n).1.1 ∧ J' 1 7 = (y_park t n).1.2 ∧ ((y_park t n).1.1 = 0 → v = (y_park t n).2.1 ∧ x_D (y_park t n).2.2 J')) (.inl (some (.inl c))) (m_Ex g T, J2, X) := by
        intro J2 k0 f2
        rw [if_pos k0] at he
        refine ⟨_, _, _, rfl, rfl, rfl, hf.tr f2.f6.fd, ?_⟩
        rw [he]
        exact ⟨by rw [f2.1 6 (by omega) (by omega) (by omega) (by omega)]; exact h6, by rw [f2.1 7 (by omega) (by omega) (by omega) (by omega)]; exact h7, fun _ => ⟨rfl, hD.fr f2.2⟩⟩
      refine w_65_36 hs ?_
      rw [h6]
      refine ⟨fun z => done J1 (Classical.byContradiction (fun k => by have := b0.2.2.2.1 k; omega)) ⟨fun _ _ _ _ _ => rfl, fun _ _ => rfl⟩, fun z => ⟨fun _ => ?_, fun z => absurd rfl z⟩⟩
      refine z_cIq (e_hasNext hT hp hR) ?_
      rintro v J2 X2 ⟨rfl, hv, r2, k2, f2⟩
      refine ⟨fun v0 => done J2 (hv.mp v0) f2, fun v0 => ?_⟩
      have k0 : y_k t n p ≠ 0 := fun z => v0 (hv.mpr z)
      rw [if_neg k0] at he
      refine z_cVq (e_readStatement hT hp hb (hD.fr f2.2) r2 k2) ?_
      rintro J3 X3 ⟨rfl, f3, ⟨s0, s1, s2, s3⟩ | ⟨s0, s1, s2⟩⟩
      · rw [if_pos s0] at he
        have pp := y_stm_p hp.2 k0 s0
        refine ⟨by omega, ih _ _ _ J3 (by omega) (by omega) (by omega) s1 ?_ s3 (y_Db_stm hb s0) ((hf.tr f2.f6.fd).tr f3) he⟩
        rw [s2, f2.1 7 (by omega) (by omega) (by omega) (by omega)]; exact h7
      · rw [if_neg s0] at he
        refine ⟨by omega, ?_⟩
        have e2 : J3 1 6 ≠ 0 := by rw [s1]; exact s0
        have fin : z_rq (m_Ex g T) (fun v J' X' => X' = X3 ∧ x_fd J J' ∧ J' 1 6 = (y_park t n).1.1 ∧ J' 1 7 = (y_park t n).1.2 ∧ ((y_park t n).1.1 = 0 → v = (y_park t n).2.1 ∧ x_D (y_park t n).2.2 J')) (.inl (some (.inl (c + 1)))) (m_Ex g T, J3, X3) := by
          refine ⟨_, _, _, rfl, rfl, rfl, (hf.tr f2.f6.fd).tr f3, ?_⟩
          rw [he]
          exact ⟨s1, s2, fun z => absurd z s0⟩
        refine w_65_36 hs ?_
        exact ⟨fun _ => fin, fun _ => ⟨fun z => absurd z e2, fun _ => fin⟩⟩
  refine w_65_0 hs ?_
  have O : ∀ j, j ≠ 4 → y_D0 j = 0 := fun j h => by unfold y_D0; rw [z_up_ne h]
  have e4 : y_D0 4 = 6 := by unfold y_D0; rw [z_up_eq rfl]
  refine main (n.toNat + 1) 0 y_D0 0 _ (by omega) (by omega) (by omega) ⟨?_, ?_, ?_, ?_⟩ (z_u_at rfl) ⟨?_, ?_, ?_, ?_, fun r a1 a2 => ?_, fun i a1 a2 => ?_, fun i a1 a2 => ?_⟩ y_Db0 (((((((x_fd.rf.u ?_).u ?_).u ?_).u ?_).u ?_).u ?_).u ?_) rfl
  · simp (disch := omega) only [z_u_ne]; exact ht
  · rw [z_u_off (by omega), z_u_off (by omega), z_u_off (by omega)]; simp (disch := omega) only [z_u_ne]; exact hn
  · rw [z_u_off (by omega), z_u_at rfl]
  · rw [z_u_off (by omega), z_u_off (by omega), z_u_at rfl]
  · rw [z_u_ne (by omega), z_u_ne (by omega), z_u_ne (by omega), z_u_at rfl, e4]
  · simp (disch := omega) only [z_u_ne]; rw [z_u_at rfl, O 1 (by omega)]
  · rw [z_u_ne (by omega), z_u_ne (by omega), z_u_ne (by omega), z_u_ne (by omega), z_u_off (by omega), z_u_at rfl, O 2 (by omega)]
  · rw [z_u_ne (by omega), z_u_ne (by omega), z_u_ne (by omega), z_u_ne (by omega), z_u_at rfl, O 3 (by omega)]
  · rw [O 1 (by omega)] at a2; omega
  · rw [O 2 (by omega)] at a2; omega
  · rw [O 3 (by omega)] at a2; omega
  all_goals (unfold x_fb; omega)
/-- what the class holds behind a loaded park -/
def x_fl (b : Nat) (j : Int) : Prop := x_fb b j ∨ (b = 1 ∧ j = 1) ∨ (36 ≤ b ∧ b ≤ 124) ∨ (b = 30 ∧ (j = 5 ∨ j = 6)) ∨ (b = 146 ∧ (j = 0 ∨ j = 1))
def x_lp (J : z_J) (r : (Int × Int) × Int × (Int → Int)) (v : Int) (J' : z_J) : Prop :=
  (∀ b j, ¬ x_fl b j → J' b j = J b j) ∧ J' 1 1 = 0 ∧ J' 1 6 = r.1.1 ∧ J' 1 7 = r.1.2 ∧ ((r.1.1 = 0 ∧ v = r.2.1 ∧ x_day 36 r.2.2 J' ∧ J' 30 5 = 0 ∧ J' 30 6 = 0 ∧ J' 146 0 = 0 ∧ J' 146 1 = 0) ∨ (r.1.1 ≠ 0 ∧ v = -7 ∧ (∀ b j, (36 ≤ b ∧ b ≤ 124) → J' b j = J b j) ∧ (∀ j, J' 30 j = J 30 j) ∧ (∀ j, J' 146 j = J 146 j)))
theorem q_loadPark (ht : J 2 = t) (hn : J 1 1 = n) (hT : y_T t n) (hz : x_D0 J) : z_Sem l (d + 7) M_Q_loadPark [.inr (.inr (.ref 0))] (m_Ex g T, J, X) 0 0 (z_rq (m_Ex g T) (fun v J' X' => X' = X ∧ x_lp J (y_park t n) v J')) := by
  refine z_sem_of z_m115 m_ok_115 (Nat.le_of_ble_eq_true rfl) (fun Wp hs hv hS => ?_)
  refine w_115_0 hs ?_
  refine z_cIq (e_readPark ht hn hT) ?_
  rintro v J1 X1 ⟨rfl, f1, e6, e7, hs1⟩
  have hb := y_pks_Db (t := t) (n := n) (n.toNat + 1) 0 y_D0 0 y_Db0
  have hb : y_Db (y_park t n).2.2 := hb
  generalize y_park t n = r at *
  rw [e6]
  refine ⟨fun c0 => ?_, fun c0 => ?_⟩
  · obtain ⟨rfl, hD⟩ := hs1 c0
    have hz1 : x_D0 (z_u J1 1 1 0) := fun i a1 a2 => by
      have := hz i a1 a2
      rw [z_u_ne (by omega), z_u_ne (by omega), z_u_ne (by omega), z_u_ne (by omega), z_u_ne (by omega), z_u_ne (by omega), f1 10 i (by unfold x_fb; omega), f1 11 i (by unfold x_fb; omega), f1 12 i (by unfold x_fb; omega), f1 13 i (by unfold x_fb; omega), f1 14 i (by unfold x_fb; omega), f1 15 i (by unfold x_fb; omega)]
      exact this
    refine z_cVq (e_begin hb (hD.fr (fun b hb' => z_u_ne hb')) hz1) ?_
    rintro J2 X2 ⟨rfl, hd, f2⟩
    have loop : ∀ (m k : Nat) (J4 : z_J), k + m = 2 → (∀ b, b ≠ 146 → J4 b = (z_u (z_u J2 30 5 0) 30 6 0) b) → (∀ j : Int, 0 ≤ j → j < (k : Int) → J4 146 j = 0) → (∀ j : Int, (j < 0 ∨ 2 ≤ j) → J4 146 j = J2 146 j) → Wp 53 [some (.inr (.inr (.ref 0))), some (.inl r.2.1), some (.inl k)] [] (m_Ex g T, J4, X2) 0 0 := by
      intro m
      induction m with
      | zero =>
        intro k J4 hk hf hw hw2
        refine w_115_53 hs ?_
        refine ⟨fun _ => ⟨_, _, _, rfl, rfl, rfl, fun b j hb' => ?_, ?_, ?_, ?_, Or.inl ⟨c0, rfl, ?_, ?_, ?_, hw 0 (by omega) (by omega), hw 1 (by omega) (by omega)⟩⟩, fun c => by omega⟩
        · unfold x_fl at hb'
          have hb1 : ¬ x_fb b j := fun z => hb' (Or.inl z)
          by_cases e : b = 146
          · subst e
            rw [hw2 j (by omega), f2 146 (by omega), z_u_ne (by omega)]; exact f1 146 j hb1
          · rw [hf b e, z_u_nb (by omega), z_u_nb (by omega), f2 b (by omega), z_u_nb (by omega)]; exact f1 b j hb1
        · rw [hf 1 (by omega), z_u_ne (by omega), z_u_ne (by omega), f2 1 (by omega), z_u_at rfl]
        · rw [hf 1 (by omega), z_u_ne (by omega), z_u_ne (by omega), f2 1 (by omega), z_u_off (by omega)]; exact e6
        · rw [hf 1 (by omega), z_u_ne (by omega), z_u_ne (by omega), f2 1 (by omega), z_u_off (by omega)]; exact e7
        · refine x_day_mv (y_cb_b hb.base) (fun _ _ _ => rfl) (fun k hk' => ?_) hd
          rw [hf _ (by omega), z_u_ne (by omega), z_u_ne (by omega)]
        · rw [hf 30 (by omega), z_u_off (by omega), z_u_at rfl]
        · rw [hf 30 (by omega), z_u_at rfl]
      | succ m ih =>
        intro k J4 hk hf hw hw2
        refine w_115_53 hs ?_
        refine ⟨fun c => by omega, fun c => ⟨by omega, ih (k + 1) _ (by omega) (fun b hb' => by rw [z_u_ne hb']; exact hf b hb') (fun j a1 a2 => ?_) (fun j hj => by rw [z_u_off (by omega)]; exact hw2 j hj)⟩⟩
        by_cases e : j = k
        · rw [z_u_at e]
        · rw [z_u_off e]; exact hw j a1 (by omega)
    exact loop 2 0 _ (by omega) (fun _ _ => rfl) (fun j a1 a2 => by omega) (fun j _ => by rw [z_u_ne (by omega), z_u_ne (by omega)])
  · refine ⟨_, _, _, rfl, rfl, rfl, fun b j hb' => ?_, z_u_at rfl, ?_, ?_, Or.inr ⟨c0, rfl, fun b j hb' => ?_, fun j => ?_, fun j => ?_⟩⟩
    · unfold x_fl at hb'
      have hb1 : ¬ x_fb b j := fun z => hb' (Or.inl z)
      rw [z_u_nb (by omega)]; exact f1 b j hb1
    · rw [z_u_off (by omega)]; exact e6
    · rw [z_u_off (by omega)]; exact e7
    · rw [z_u_ne (by omega)]; exact f1 b j (by unfold x_fb; omega)
    · rw [z_u_ne (by omega)]; exact f1 30 j (by unfold x_fb; omega)
    · rw [z_u_ne (by omega)]; exact f1 146 j (by unfold x_fb; omega)
end Q26
