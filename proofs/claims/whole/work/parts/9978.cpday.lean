/-! copying a day whole -/
section Q31
variable {l : Launch} {d : Nat} {E : m_E} {J : z_J} {X : z_X} {b c : Nat} {q : Int → Int}
theorem x_day.cnt (hq : y_base q) (hx : x_day b q J) {r : Int} (h0 : 0 ≤ r) (h8 : r < 8) : (0 ≤ J (b + 41 + 6 * r.toNat) 2 ∧ J (b + 41 + 6 * r.toNat) 2 ≤ 150) ∧ (0 ≤ J (b + 44 + 6 * r.toNat) 2 ∧ J (b + 44 + 6 * r.toNat) 2 ≤ 60) ∧ (J (b + 7) r = 0 ∨ J (b + 7) r = 1) := by
  by_cases h : r < q 1
  · obtain ⟨c1, c2, c3⟩ := hx.2.1 r h0 h
    have rd := hq.ride h0 h
    rw [c2.1, c2.2.1, c1.2.2.2.2.2.1]
    exact ⟨rd.2.2.2.2.2.1, rd.2.2.2.2.2.2.1, rd.2.2.2.2.1⟩
  · obtain ⟨c1, c2, c3⟩ := hx.2.2.2.2.2 r (by omega) h8
    rw [c1, c2, c3]
    omega
theorem e_copyDay (hb : x_at E b) (hc : x_at E c) (hd : b + 89 ≤ c ∨ c + 89 ≤ b) (hq : y_base q) (hx : x_day b q J) : z_Sem l (d + 2) M_Day_copyFrom [.inr (.inr (.ref c)), .inr (.inr (.ref b))] (E, J, X) 0 0 (z_vq E (fun J' X' => X' = X ∧ x_day c q J' ∧ ∀ a, (a < c ∨ c + 88 < a) → J' a = J a)) := by
  obtain ⟨h0, h1, h2, h3, h4, h5⟩ := hq.1
  have ct := fun r a1 a2 => hx.cnt hq (r := r) a1 a2
  refine z_sem_of z_m2 m_ok_2 (Nat.le_of_ble_eq_true rfl) (fun Wp hs hv hS => ?_)
  refine w_2d_0 hb hc hs ?_
  have e0 : ∀ a, a ≠ c → (z_u (z_u J (c + 0) 0 (J (b + 0) 0)) (c + 0) 1 ((z_u J (c + 0) 0 (J (b + 0) 0)) (b + 0) 1)) a = J a := fun a ha => by rw [z_u_ne (by omega), z_u_ne (by omega)]
  have ec0 : (z_u (z_u J (c + 0) 0 (J (b + 0) 0)) (c + 0) 1 ((z_u J (c + 0) 0 (J (b + 0) 0)) (b + 0) 1)) c 0 = J b 0 := by
    show (z_u (z_u J c 0 (J b 0)) c 1 ((z_u J c 0 (J b 0)) b 1)) c 0 = J b 0
    rw [z_u_off (by omega), z_u_at rfl]
  have ec1 : (z_u (z_u J (c + 0) 0 (J (b + 0) 0)) (c + 0) 1 ((z_u J (c + 0) 0 (J (b + 0) 0)) (b + 0) 1)) c 1 = J b 1 := by
    show (z_u (z_u J c 0 (J b 0)) c 1 ((z_u J c 0 (J b 0)) b 1)) c 1 = J b 1
    rw [z_u_at rfl, z_u_ne (by omega)]
  generalize z_u (z_u J (c + 0) 0 (J (b + 0) 0)) (c + 0) 1 ((z_u J (c + 0) 0 (J (b + 0) 0)) (b + 0) 1) = J0 at e0 ec0 ec1 ⊢
  refine z_cVq (e_cpRides hb hc hd (fun r a1 a2 => by rw [e0 _ (by omega)]; exact (ct r a1 a2).2.2)) ?_
  rintro J1 X1 ⟨rfl, f1, c1, r1⟩
  refine z_cVq (e_cpGuests hb hc hd) ?_
  rintro J2 X2 ⟨rfl, f2, c2, c3, t2, p2⟩
  refine z_cVq (e_cpTickets hb hc hd) ?_
  rintro J3 X3 ⟨rfl, f3, c4, k3⟩
  refine z_cVq (e_cpWait hb hc hd) ?_
  rintro J4 X4 ⟨rfl, f4, w4⟩
  have B1 : ∀ a, (a < c ∨ c + 12 < a) → J1 a = J a := fun a ha => by rw [f1 a (by omega), e0 a (by omega)]
  have B2 : ∀ a, (a < c ∨ c + 20 < a) → J2 a = J a := fun a ha => by rw [f2 a (by omega), B1 a (by omega)]
  have B3 : ∀ a, (a < c ∨ c + 27 < a) → J3 a = J a := fun a ha => by rw [f3 a (by omega), B2 a (by omega)]
  have B4 : ∀ a, (a < c ∨ c + 38 < a) → J4 a = J a := fun a ha => by rw [f4 a (by omega), B3 a (by omega)]
  have loop : ∀ (m k : Nat) (J5 : z_J), k + m = 8 → (∀ a, (a < c + 41 ∨ c + 88 < a) → J5 a = J4 a) → (∀ r : Int, 0 ≤ r → r < (k : Int) → J5 (c + 41 + 6 * r.toNat) 2 = J (b + 41 + 6 * r.toNat) 2 ∧ J5 (c + 44 + 6 * r.toNat) 2 = J (b + 44 + 6 * r.toNat) 2 ∧ (∀ i, 0 ≤ i → i < J (b + 41 + 6 * r.toNat) 2 → J5 (c + 42 + 6 * r.toNat) i = J (b + 42 + 6 * r.toNat) i ∧ J5 (c + 43 + 6 * r.toNat) i = J (b + 43 + 6 * r.toNat) i) ∧ (∀ i, 0 ≤ i → i < J (b + 44 + 6 * r.toNat) 2 → J5 (c + 45 + 6 * r.toNat) i = J (b + 45 + 6 * r.toNat) i ∧ J5 (c + 46 + 6 * r.toNat) i = J (b + 46 + 6 * r.toNat) i)) → Wp 62 [some (.inr (.inr (.ref (c + 0)))), some (.inr (.inr (.ref (b + 0)))), some (.inl k)] [] (E, J5, X4) 0 0 := by
    intro m
    induction m with
    | zero =>
      intro k J5 hk hf hr
      refine w_2d_62 hb hc hs ?_
      have R1 : ∀ a, (c + 1 ≤ a ∧ a ≤ c + 12) → J5 a = J1 a := fun a ha => by rw [hf a (by omega), f4 a (by omega), f3 a (by omega), f2 a (by omega)]
      have R2 : ∀ a, (c + 13 ≤ a ∧ a ≤ c + 20) → J5 a = J2 a := fun a ha => by rw [hf a (by omega), f4 a (by omega), f3 a (by omega)]
      have R3 : ∀ a, (c + 21 ≤ a ∧ a ≤ c + 27) → J5 a = J3 a := fun a ha => by rw [hf a (by omega), f4 a (by omega)]
      have R0 : J5 c = J0 c := by rw [hf c (by omega), f4 c (by omega), f3 c (by omega), f2 c (by omega), f1 c (by omega)]
      obtain ⟨⟨g0, g1, g2, g3, g4, g5⟩, G1, G2, G3, G4, G5⟩ := hx
      refine ⟨fun _ => ⟨_, _, rfl, rfl, rfl, ⟨⟨?_, ?_, ?_, ?_, ?_, ?_⟩, fun r a1 a2 => ⟨?_, ?_, ?_⟩, fun i a1 a2 => ?_, fun i a1 a2 => ?_, fun i a1 a2 => ?_, fun r a1 a2 => ?_⟩, fun a ha => by rw [hf a (by omega), B4 a (by omega)]⟩, fun z => by omega⟩
      · rw [R0, ec0]; exact g0
      · rw [R0, ec1]; exact g1
      · rw [R1 _ (by omega), c1, e0 _ (by omega)]; exact g2
      · rw [R2 _ (by omega), c2, B1 _ (by omega)]; exact g3
      · rw [R2 _ (by omega), c3, B1 _ (by omega)]; exact g4
      · rw [R3 _ (by omega), c4, B2 _ (by omega)]; exact g5
      · obtain ⟨x0, x1, x2, x3, x4, x5, x6, x7, x8, x9, x10⟩ := (G1 r a1 a2).1
        obtain ⟨y0, y1, y2, y3, y4, y5, y6, y7, y8, y9, y10⟩ := r1 r a1 (by omega)
        unfold x_ride
        rw [R1 (c + 2) (by omega), R1 (c + 3) (by omega), R1 (c + 4) (by omega), R1 (c + 5) (by omega), R1 (c + 6) (by omega), R1 (c + 7) (by omega), R1 (c + 8) (by omega), R1 (c + 9) (by omega), R1 (c + 10) (by omega), R1 (c + 11) (by omega), R1 (c + 12) (by omega), y0, y1, y2, y3, y4, y5, y6, y7, y8, y9, y10, e0 (b + 2) (by omega), e0 (b + 3) (by omega), e0 (b + 4) (by omega), e0 (b + 5) (by omega), e0 (b + 6) (by omega), e0 (b + 7) (by omega), e0 (b + 8) (by omega), e0 (b + 9) (by omega), e0 (b + 10) (by omega), e0 (b + 11) (by omega), e0 (b + 12) (by omega)]
        exact ⟨x0, x1, x2, x3, x4, x5, x6, x7, x8, x9, x10⟩
      · obtain ⟨x0, x1, x2, x3⟩ := (G1 r a1 a2).2.1
        obtain ⟨y0, y1, y2, y3⟩ := hr r a1 (by omega)
        refine ⟨y0.trans x0, y1.trans x1, fun i b1 b2 => ?_, fun i b1 b2 => ?_⟩
        · have := y2 i b1 (by rw [x0]; exact b2)
          rw [this.1, this.2]; exact x2 i b1 b2
        · have := y3 i b1 (by rw [x1]; exact b2)
          rw [this.1, this.2]; exact x3 i b1 b2
      · obtain ⟨x0, x1⟩ := (G1 r a1 a2).2.2
        have y := w4 r a1 (by omega)
        have c13 := (hq.ride a1 a2).2.2.2.2.2.2.2.2.2.2.2
        refine ⟨by rw [hf _ (by omega), y.1, B3 _ (by omega)]; exact x0, fun i b1 b2 => ?_⟩
        rw [hf _ (by omega), y.2 i b1 (by omega), B3 _ (by omega)]; exact x1 i b1 b2
      · obtain ⟨y0, y1, y2, y3⟩ := t2 i a1 (by omega)
        unfold x_tier
        rw [R2 (c + 14) (by omega), R2 (c + 15) (by omega), R2 (c + 16) (by omega), R2 (c + 17) (by omega), y0, y1, y2, y3, B1 (b + 14) (by omega), B1 (b + 15) (by omega), B1 (b + 16) (by omega), B1 (b + 17) (by omega)]
        exact G2 i a1 a2
      · obtain ⟨y0, y1, y2⟩ := p2 i a1 (by omega)
        unfold x_party
        rw [R2 (c + 18) (by omega), R2 (c + 19) (by omega), R2 (c + 20) (by omega), y0, y1, y2, B1 (b + 18) (by omega), B1 (b + 19) (by omega), B1 (b + 20) (by omega)]
        exact G3 i a1 a2
      · obtain ⟨y0, y1, y2, y3, y4, y5⟩ := k3 i a1 (by omega)
        unfold x_tk
        rw [R3 (c + 22) (by omega), R3 (c + 23) (by omega), R3 (c + 24) (by omega), R3 (c + 25) (by omega), R3 (c + 26) (by omega), R3 (c + 27) (by omega), y0, y1, y2, y3, y4, y5, B2 (b + 22) (by omega), B2 (b + 23) (by omega), B2 (b + 24) (by omega), B2 (b + 25) (by omega), B2 (b + 26) (by omega), B2 (b + 27) (by omega)]
        exact G4 i a1 a2
      · obtain ⟨x0, x1, x2⟩ := G5 r a1 a2
        obtain ⟨y0, y1, -⟩ := hr r (by omega) (by omega)
        refine ⟨?_, y0.trans x1, y1.trans x2⟩
        rw [R1 (c + 7) (by omega), (r1 r (by omega) (by omega)).2.2.2.2.2.1, e0 (b + 7) (by omega)]; exact x0
    | succ m ih =>
      intro k J5 hk hf hr
      have cc := ct k (by omega) (by omega)
      have H5 : ∀ a, (a < c ∨ c + 88 < a) → J5 a = J a := fun a ha => by rw [hf a (by omega), B4 a (by omega)]
      refine w_2d_62 hb hc hs ?_
      refine ⟨fun z => by omega, fun _ => ⟨by omega, by omega, ?_⟩⟩
      refine z_cVq (e_cpMerge hb hc hd (i := (k : Int)) (by omega) (n := J (b + 41 + 6 * (k : Int).toNat) 2) (by rw [H5 _ (by omega)]) cc.1) ?_
      rintro J6 X6 ⟨rfl, f6, n6, m6⟩
      refine ⟨by omega, by omega, ?_⟩
      refine z_cVq (e_cpStand hb hc hd (i := (k : Int)) (by omega) (n := J (b + 44 + 6 * (k : Int).toNat) 2) (by rw [f6 _ (by omega), H5 _ (by omega)]) cc.2.1) ?_
      rintro J7 X7 ⟨rfl, f7, n7, m7⟩
      refine ⟨by omega, ih (k + 1) J7 (by omega) (fun a ha => by rw [f7 a (by omega), f6 a (by omega)]; exact hf a ha) (fun r a1 a2 => ?_)⟩
      by_cases e : r = k
      · subst e
        refine ⟨by rw [f7 _ (by omega)]; exact n6, n7, fun i b1 b2 => ?_, fun i b1 b2 => ?_⟩
        · rw [f7 _ (by omega), f7 _ (by omega), (m6 i b1 b2).1, (m6 i b1 b2).2, H5 _ (by omega), H5 _ (by omega)]
          exact ⟨rfl, rfl⟩
        · rw [(m7 i b1 b2).1, (m7 i b1 b2).2, f6 _ (by omega), f6 _ (by omega), H5 _ (by omega), H5 _ (by omega)]
          exact ⟨rfl, rfl⟩
      · have := hr r a1 (by omega)
        rw [f7 (c + 41 + 6 * r.toNat) (by omega), f7 (c + 42 + 6 * r.toNat) (by omega), f7 (c + 43 + 6 * r.toNat) (by omega), f7 (c + 44 + 6 * r.toNat) (by omega), f7 (c + 45 + 6 * r.toNat) (by omega), f7 (c + 46 + 6 * r.toNat) (by omega), f6 (c + 41 + 6 * r.toNat) (by omega), f6 (c + 42 + 6 * r.toNat) (by omega), f6 (c + 43 + 6 * r.toNat) (by omega), f6 (c + 44 + 6 * r.toNat) (by omega), f6 (c + 45 + 6 * r.toNat) (by omega), f6 (c + 46 + 6 * r.toNat) (by omega)]
        exact this
  exact loop 8 0 J4 (by omega) (fun _ _ => rfl) (fun r a1 a2 => by omega)
end Q31
