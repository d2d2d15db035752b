/-! the class: which of the waiting could be served -/
theorem y_bit_hi {k S0 : Nat} (h : S0 < 2 ^ k) : (2 ^ k + S0).testBit k = true := by
  rw [Nat.testBit_two_pow_add_eq, Nat.testBit_lt_two_pow h]; rfl
theorem y_prs_lo {q : Int → Int} {r : Int} {S k : Nat} (h : S < 2 ^ k) : y_prs q r S (k + 1) = y_prs q r S k := by
  rw [y_prs, y_sum, y_wsf, show ((k : Int)).toNat = k by omega, Nat.testBit_lt_two_pow h, if_neg (by decide), Int.add_zero]
  rfl
theorem y_prs_hi {q : Int → Int} {r : Int} {S0 k : Nat} (h : S0 < 2 ^ k) : y_prs q r (2 ^ k + S0) (k + 1) = y_prs q r S0 k + q (138 + 3 * q (4564 + 50 * r + k) + 1) := by
  rw [y_prs, y_sum, y_wsf, show ((k : Int)).toNat = k by omega, y_bit_hi h, if_pos rfl]
  congr 1
  refine y_sum_congr (fun i hi => ?_)
  unfold y_wsf
  rw [show ((i : Int)).toNat = i by omega, Nat.testBit_two_pow_add_gt (by omega)]
/-- a set's number below 2 ^ N has no bit from N on -/
theorem y_bit_lt {p N i : Nat} (h : p < 2 ^ N) (hi : p.testBit i = true) : i < N := by
  by_cases z : i < N
  · exact z
  · have a := Nat.ge_two_pow_of_testBit hi
    have b : 2 ^ N ≤ 2 ^ i := Nat.pow_le_pow_right (by omega) (by omega)
    omega
def y_gd (f : Int → Int) (now s : Int) : Int → Int := fun k => if f s ≤ f (now + k) then 1 else 0
section Q20
variable {l : Launch} {d : Nat} {g : List (Option Nat)} {T : m_E} {J : z_J} {X : z_X} {q : Int → Int}
theorem e_readyParties (hb : y_base q) (h : x_day 36 q J) {r : Int} {N : Nat} (hr : 0 ≤ r ∧ r < q 1) (hN : y_N q r = N) : z_Sem l (d + 2) M_Planner_readyParties [.inr (.inr (.ref 128)), .inr (.inr (.ref 36)), .inl r, .inl N] (m_Ex g T, J, X) 0 0 (z_vq (m_Ex g T) (fun J' X' => X' = X ∧ ∃ La Pe Fi, J' = z_row (z_row (z_row J 142 La) 143 Pe) 144 Fi ∧ (∀ k : Nat, k < N → La k = y_lat q r k) ∧ (∀ S : Nat, S < 2 ^ N → Pe S = y_prs q r S N ∧ Fi S = if S = 0 then 1 else 0))) := by
  have h1 := hb.1.2.1
  have h0 := hb.1.1
  have h3 := hb.1.2.2.2.1
  have c13 := (hb.ride hr.1 hr.2).2.2.2.2.2.2.2.2.2.2.2
  have wl := (hb.2.1 r hr.1 hr.2).2.2.1
  have w := h.wait hr.1 hr.2
  have d0 := h.hd.1
  have N8 : N ≤ 8 := by rw [← hN]; exact y_N_b
  have N13 : (N : Int) ≤ q (10 + 14 * r + 13) := by rw [← hN]; unfold y_N; omega
  have pe : ∀ (k S : Nat), k ≤ N → 0 ≤ y_prs q r S k ∧ y_prs q r S k ≤ 12 * k := fun k S hk => by
    have z : ∀ i : Nat, i < k → 0 ≤ y_wsf q r S i ∧ y_wsf q r S i ≤ 12 := fun i hi => by
      have a := wl.1 i (by omega) (by omega)
      have b := hb.party a.1 a.2
      unfold y_wsf
      split <;> omega
    exact ⟨y_sum_nn (fun i hi => (z i hi).1), y_sum_le (fun i hi => (z i hi).2)⟩
  refine z_sem_of z_m75 m_ok_75 (Nat.le_of_ble_eq_true rfl) (fun Wp hs hv hS => ?_)
  have loop : ∀ (m k : Nat) (La Pe Fi : Int → Int), k + m = N → (∀ i : Nat, i < k → La i = y_lat q r i) → (∀ S : Nat, S < 2 ^ k → Pe S = y_prs q r S k ∧ Fi S = if S = 0 then 1 else 0) → Wp 17 [some (.inr (.inr (.ref 128))), some (.inr (.inr (.ref 36))), some (.inl r), some (.inl N), some (.inl k), none, none] [] (m_Ex g T, z_row (z_row (z_row J 142 La) 143 Pe) 144 Fi, X) 0 0 := by
    intro m
    induction m with
    | zero =>
      intro k La Pe Fi hk hL hP
      refine w_75_17 hs ?_
      refine ⟨fun c => ⟨_, _, rfl, rfl, rfl, La, Pe, Fi, rfl, ?_, ?_⟩, fun c => by omega⟩
      · rw [show N = k by omega]; exact hL
      · rw [show N = k by omega]; exact hP
    | succ m ih =>
      intro k La Pe Fi hk hL hP
      have b8 := y_pow8 (show k + 1 ≤ 8 by omega)
      have b2 : 2 ^ (k + 1) = 2 ^ k + 2 ^ k := by rw [Nat.pow_succ]; omega
      have wk := wl.1 k (by omega) (by omega)
      have pk := hb.party wk.1 wk.2
      have xp := h.party wk.1 wk.2
      have xt := h.tier (t := q (138 + 3 * q (4564 + 50 * r + k) + 0)) (by omega) (by omega)
      have ew : J (66 + r.toNat) k = q (4564 + 50 * r + k) := w.2 k (by omega) (by omega)
      have s1 := z_shl_n (k := k) (by omega)
      have s2 := z_shl2_n (k := k) (by omega)
      have O : ∀ (b : Nat) (A B C : Int → Int), b ≠ 142 → b ≠ 143 → b ≠ 144 → (z_row (z_row (z_row J 142 A) 143 B) 144 C) b = J b := fun b A B C a1 a2 a3 => by rw [z_row_ne a3, z_row_ne a2, z_row_ne a1]
      have inner : ∀ (n a : Nat) (La Pe Fi : Int → Int), a + n = 2 ^ (k + 1) → 2 ^ k ≤ a → (∀ i : Nat, i < k + 1 → La i = y_lat q r i) → (∀ S : Nat, S < a → Pe S = y_prs q r S (k + 1) ∧ Fi S = if S = 0 then 1 else 0) → Wp 64 [some (.inr (.inr (.ref 128))), some (.inr (.inr (.ref 36))), some (.inl r), some (.inl N), some (.inl k), some (.inl (q (4564 + 50 * r + k))), some (.inl a)] [] (m_Ex g T, z_row (z_row (z_row J 142 La) 143 Pe) 144 Fi, X) 0 0 := by
        intro n
        induction n with
        | zero =>
          intro a La Pe Fi ha hka hL hP
          refine w_75_64 hs ?_
          rw [s2]
          refine ⟨fun c => ⟨by omega, ih (k + 1) La Pe Fi (by omega) hL ?_⟩, fun c => by omega⟩
          rw [show 2 ^ (k + 1) = a by omega]; exact hP
        | succ n ihn =>
          intro a La Pe Fi ha hka hL hP
          have ep : (z_row (z_row (z_row J 142 La) 143 Pe) 144 Fi) 143 = Pe := by rw [z_row_ne (by omega), z_row_eq]
          have e55 : (z_row (z_row (z_row J 142 La) 143 Pe) 144 Fi) 55 = J 55 := O 55 _ _ _ (by omega) (by omega) (by omega)
          have lo := (hP (a - 2 ^ k) (by omega)).1
          have hi := y_prs_hi (q := q) (r := r) (S0 := a - 2 ^ k) (k := k) (by omega)
          have lo2 := y_prs_lo (q := q) (r := r) (S := a - 2 ^ k) (k := k) (by omega)
          have pbd := pe k (a - 2 ^ k) (by omega)
          rw [show 2 ^ k + (a - 2 ^ k) = a by omega] at hi
          refine w_75_64 hs ?_
          rw [s1, s2, ep, e55, xp.2.1, show (a : Int) - ((2 ^ k : Nat) : Int) = ((a - 2 ^ k : Nat) : Int) by omega, lo, lo2, ← hi]
          refine ⟨fun c => by omega, fun c => ⟨by omega, ?_⟩⟩
          have eJ : z_u (z_u (z_row (z_row (z_row J 142 La) 143 Pe) 144 Fi) 143 a (y_prs q r a (k + 1))) 144 a 0 = z_row (z_row (z_row J 142 La) 143 (z_up Pe a (y_prs q r a (k + 1)))) 144 (z_up Fi a 0) := by
            funext b
            by_cases b1 : b = 144
            · subst b1; rw [z_u_row, z_u_ne (by omega), z_row_eq, z_row_eq]
            · rw [z_u_ne b1, z_row_ne b1]
              by_cases b2 : b = 143
              · subst b2; rw [z_u_row, z_row_ne (by omega), z_row_eq, z_row_eq]
              · rw [z_u_ne b2, z_row_ne b1, z_row_ne b2, z_row_ne b2]
          rw [eJ]
          refine ihn (a + 1) La _ _ (by omega) (by omega) hL (fun S hS => ?_)
          by_cases z : S = a
          · subst z; rw [z_up_eq rfl, z_up_eq rfl, if_neg (by omega)]; exact ⟨rfl, rfl⟩
          · rw [z_up_ne (by omega), z_up_ne (by omega)]; exact hP S (by omega)
      refine w_75_17 hs ?_
      rw [O (66 + r.toNat) _ _ _ (by omega) (by omega) (by omega), O 54 _ _ _ (by omega) (by omega) (by omega), O 51 _ _ _ (by omega) (by omega) (by omega), O 36 _ _ _ (by omega) (by omega) (by omega), ew, xp.1, xt.2.1, d0, s1]
      have tt := pk.2.2.2.2
      unfold y_tier at tt
      refine ⟨fun c => by omega, fun c => ⟨by omega, by omega, ?_⟩⟩
      have eJ : z_u (z_row (z_row (z_row J 142 La) 143 Pe) 144 Fi) 142 k (q 0 + q (122 + 4 * q (138 + 3 * q (4564 + 50 * r + k) + 0) + 1)) = z_row (z_row (z_row J 142 (z_up La k (y_lat q r k))) 143 Pe) 144 Fi := by
        funext b
        by_cases b1 : b = 142
        · subst b1; rw [z_u_row, z_row_ne (by omega), z_row_ne (by omega), z_row_eq, z_row_ne (by omega), z_row_ne (by omega), z_row_eq]; rfl
        · rw [z_u_ne b1]
          by_cases b2 : b = 144
          · subst b2; rw [z_row_eq, z_row_eq]
          · rw [z_row_ne b2, z_row_ne b2]
            by_cases b3 : b = 143
            · subst b3; rw [z_row_eq, z_row_eq]
            · rw [z_row_ne b3, z_row_ne b3, z_row_ne b1, z_row_ne b1]
      rw [eJ]
      refine inner (2 ^ k) (2 ^ k) _ Pe Fi (by omega) (by omega) (fun i hi => ?_) (fun S hS => ?_)
      · by_cases z : i = k
        · subst z; rw [z_up_eq rfl]
        · rw [z_up_ne (by omega)]; exact hL i (by omega)
      · have := hP S hS
        rw [y_prs_lo hS]; exact this
  refine w_75_0 hs ?_
  have e0 : z_u (z_u J 143 0 0) 144 0 1 = z_row (z_row (z_row J 142 (J 142)) 143 (z_up (J 143) 0 0)) 144 (z_up (J 144) 0 1) := by
    rw [z_row_self]
    funext b
    by_cases b1 : b = 144
    · subst b1; rw [z_u_row, z_u_ne (by omega), z_row_eq]
    · rw [z_u_ne b1, z_row_ne b1]
      rfl
  rw [e0]
  refine loop N 0 _ _ _ (by omega) (fun i hi => by omega) (fun S hS => ?_)
  have : S = 0 := by
    have : S < 1 := hS
    omega
  subst this
  exact ⟨z_up_eq rfl, z_up_eq rfl⟩
theorem e_counts {now : Int} {n N : Nat} (h0 : 0 ≤ now) (h1 : now + n < 144) : z_Sem l (d + 1) M_Planner_counts [.inr (.inr (.ref 128)), .inl now, .inl (now + n), .inl N] (m_Ex g T, J, X) 0 0 (z_ret (.inl (y_b (decide (y_sum (y_gd (J 129) now (now + n)) n < N)))) (m_Ex g T, J, X)) := by
  have gb : ∀ k, 0 ≤ y_gd (J 129) now (now + n) k ∧ y_gd (J 129) now (now + n) k ≤ 1 := fun k => by unfold y_gd; split <;> omega
  refine z_sem_of z_m76 m_ok_76 (Nat.le_of_ble_eq_true rfl) (fun Wp hs hv hS => ?_)
  have loop : ∀ (m k : Nat) (a : Int), k + m = n → a = y_sum (y_gd (J 129) now (now + n)) k → Wp 6 [some (.inr (.inr (.ref 128))), some (.inl now), some (.inl (now + n)), some (.inl N), some (.inl a), some (.inl (now + k))] [] (m_Ex g T, J, X) 0 0 := by
    intro m
    induction m with
    | zero =>
      intro k a hk ha
      refine w_76_6 hs ?_
      have ek : n = k := by omega
      subst ek
      refine ⟨fun c => ⟨fun c1 => ⟨z_wi ?_, rfl⟩, fun c1 => ⟨z_wi ?_, rfl⟩⟩, fun c => by omega⟩
      · rw [← ha, decide_eq_false (by omega)]; rfl
      · rw [← ha, decide_eq_true c1]; rfl
    | succ m ih =>
      intro k a hk ha
      have bb := y_cnt_b (f := y_gd (J 129) now (now + n)) gb (n := k)
      have nx := ih (k + 1)
      rw [show now + ((k + 1 : Nat) : Int) = now + k + 1 by omega] at nx
      refine w_76_6 hs ?_
      refine ⟨fun c => by omega, fun c => ⟨by omega, fun c1 => ⟨by omega, nx a (by omega) ?_⟩, fun c1 => ⟨by omega, nx (a + 1) (by omega) ?_⟩⟩⟩
      · rw [ha, y_sum, y_gd, if_neg (by omega), Int.add_zero]
      · rw [ha, y_sum, y_gd, if_pos c1]
  refine w_76_0 hs ?_
  have := loop n 0 0 (by omega) rfl
  rw [show now + ((0 : Nat) : Int) = now by omega] at this
  exact this
theorem e_fillSlot {r : Int} {n N : Nat} {F0 : Int → Int} (h0 : 0 ≤ q 0) (hs144 : q 0 + n < 144) (hN : y_N q r = N) (hT : y_tab (y_okS q r) N n F0) (hP : ∀ S : Nat, S < 2 ^ N → J 143 S = y_prs q r S N) (hL : ∀ k : Nat, k < N → J 142 k = y_lat q r k) (hF : J 129 (q 0 + n) = y_free q r (q 0 + n)) : z_Sem l (d + 1) M_Planner_fillSlot [.inr (.inr (.ref 128)), .inl (q 0 + n), .inl N] (m_Ex g T, z_row J 144 F0, X) 0 0 (z_vq (m_Ex g T) (fun J' X' => X' = X ∧ ∃ F1, J' = z_row J 144 F1 ∧ y_tab (y_okS q r) N (n + 1) F1)) := by
  have N8 : N ≤ 8 := by rw [← hN]; exact y_N_b
  have b8 := y_pow8 N8
  refine z_sem_of z_m77 m_ok_77 (Nat.le_of_ble_eq_true rfl) (fun Wp hs hv hS => ?_)
  -- all sets, with the mask of those that are in time
  have main : ∀ it : Nat, it < 2 ^ N → (∀ i : Nat, i < N → (it.testBit i = true ↔ q 0 + n ≤ y_lat q r i)) → ∀ (m : Nat) (F1 : Int → Int), m < 2 ^ N → (∀ S : Nat, S ≤ m → F1 S = F0 S) → (∀ S : Nat, m < S → S < 2 ^ N → (F1 S = 1 ∧ y_V (y_okS q r) (n + 1) S) ∨ (F1 S = 0 ∧ ¬ y_V (y_okS q r) (n + 1) S)) → Wp 42 [some (.inr (.inr (.ref 128))), some (.inl (q 0 + n)), some (.inl N), some (.inl it), some (.inl m), none, none] [] (m_Ex g T, z_row J 144 F1, X) 0 0 := by
    intro it hit hbit m
    have may1 : ∀ p : Nat, p &&& it = p → y_may q r p (q 0 + n) = true := by
      intro p hp
      have pl : p ≤ it := by rw [← hp]; exact Nat.and_le_right
      have : y_any (y_ltf q r p (q 0 + n)) 8 = false := by
        cases e : y_any (y_ltf q r p (q 0 + n)) 8
        · rfl
        · obtain ⟨k, k1, k2⟩ := y_any_iff.mp e
          rw [y_ltf, decide_eq_true_eq, show ((k : Int)).toNat = k by omega] at k2
          have kN := y_bit_lt (show p < 2 ^ N by omega) k2.1
          have t : (p &&& it).testBit k = true := by rw [hp]; exact k2.1
          rw [Nat.testBit_and, Bool.and_eq_true] at t
          have := (hbit k kN).mp t.2
          omega
      rw [y_may, this]; rfl
    have may2 : ∀ p : Nat, p < 2 ^ N → y_may q r p (q 0 + n) = true → p &&& it = p := by
      intro p hp hm
      apply Nat.eq_of_testBit_eq
      intro i
      rw [Nat.testBit_and]
      cases e : p.testBit i
      · rfl
      · have iN := y_bit_lt hp e
        have : y_any (y_ltf q r p (q 0 + n)) 8 = false := by
          cases e2 : y_any (y_ltf q r p (q 0 + n)) 8
          · rfl
          · rw [y_may, e2] at hm; exact absurd hm (by decide)
        have nf : ¬ (y_lat q r i < q 0 + n) := fun z => by
          have : y_any (y_ltf q r p (q 0 + n)) 8 = true := y_any_iff.mpr ⟨i, by omega, by
            rw [y_ltf, decide_eq_true_eq, show ((i : Int)).toNat = i by omega]; exact ⟨e, z⟩⟩
          simp_all
        rw [(hbit i iN).mpr (by omega)]; rfl
    induction m with
    | zero =>
      intro F1 hm h1 h2
      refine w_77_42 hs ?_
      refine ⟨fun c => ⟨_, _, rfl, rfl, rfl, F1, rfl, fun S hS => ?_⟩, fun c => by omega⟩
      by_cases z : S = 0
      · subst z
        rw [h1 0 (by omega)]
        rcases hT 0 (by omega) with h | h
        · exact Or.inl ⟨h.1, Or.inl h.2⟩
        · refine Or.inr ⟨h.1, fun z => ?_⟩
          rcases z with z | ⟨p, p0, pS, -⟩
          · exact h.2 z
          · rw [Nat.and_zero] at pS; exact p0 pS.symm
      · exact h2 S (by omega) hS
    | succ m ih =>
      intro F1 hm h1 h2
      have Tm := hT (m + 1) hm
      have e1 : F1 ((m + 1 : Nat) : Int) = F0 ((m + 1 : Nat) : Int) := h1 (m + 1) (by omega)
      have wsub : ((m + 1) &&& it) &&& (m + 1) = (m + 1) &&& it := by rw [Nat.and_comm (m + 1) it, Nat.and_assoc, Nat.and_self]
      have wit : ((m + 1) &&& it) &&& it = (m + 1) &&& it := by rw [Nat.and_assoc, Nat.and_self]
      have wle : (m + 1) &&& it ≤ m + 1 := Nat.and_le_left
      have fin : ∀ F2 : Int → Int, (∀ S : Nat, S ≤ m → F2 S = F0 S) → (∀ S : Nat, m < S → S < 2 ^ N → (F2 S = 1 ∧ y_V (y_okS q r) (n + 1) S) ∨ (F2 S = 0 ∧ ¬ y_V (y_okS q r) (n + 1) S)) → Wp 42 [some (.inr (.inr (.ref 128))), some (.inl (q 0 + n)), some (.inl N), some (.inl it), some (.inl (((m + 1 : Nat) : Int) + -1)), none, none] [] (m_Ex g T, z_row J 144 F2, X) 0 0 := by
        intro F2 a1 a2
        rw [show ((m + 1 : Nat) : Int) + -1 = m by omega]
        exact ih F2 (by omega) a1 a2
      have inner : ∀ (k part : Nat) (F2 : Int → Int), part ≤ k → part &&& ((m + 1) &&& it) = part → (∀ S : Nat, S ≤ m → F2 S = F0 S) → (∀ S : Nat, m + 1 < S → S < 2 ^ N → (F2 S = 1 ∧ y_V (y_okS q r) (n + 1) S) ∨ (F2 S = 0 ∧ ¬ y_V (y_okS q r) (n + 1) S)) → ((F2 ((m + 1 : Nat) : Int) = 1 ∧ y_V (y_okS q r) (n + 1) (m + 1)) ∨ (F2 ((m + 1 : Nat) : Int) = 0 ∧ ¬ y_V (y_okS q r) n (m + 1) ∧ ∀ p : Nat, part < p → p &&& ((m + 1) &&& it) = p → ¬ (y_V (y_okS q r) n ((m + 1) ^^^ p) ∧ y_okS q r n p))) → Wp 57 [some (.inr (.inr (.ref 128))), some (.inl (q 0 + n)), some (.inl N), some (.inl it), some (.inl ((m + 1 : Nat) : Int)), some (.inl (((m + 1) &&& it : Nat) : Int)), some (.inl part)] [] (m_Ex g T, z_row J 144 F2, X) 0 0 := by
        intro k
        have done : ∀ F2 : Int → Int, (∀ S : Nat, S ≤ m → F2 S = F0 S) → (∀ S : Nat, m + 1 < S → S < 2 ^ N → (F2 S = 1 ∧ y_V (y_okS q r) (n + 1) S) ∨ (F2 S = 0 ∧ ¬ y_V (y_okS q r) (n + 1) S)) → ((F2 ((m + 1 : Nat) : Int) = 1 ∧ y_V (y_okS q r) (n + 1) (m + 1)) ∨ (F2 ((m + 1 : Nat) : Int) = 0 ∧ ¬ y_V (y_okS q r) n (m + 1) ∧ ∀ p : Nat, 0 < p → p &&& ((m + 1) &&& it) = p → ¬ (y_V (y_okS q r) n ((m + 1) ^^^ p) ∧ y_okS q r n p))) → Wp 42 [some (.inr (.inr (.ref 128))), some (.inl (q 0 + n)), some (.inl N), some (.inl it), some (.inl (((m + 1 : Nat) : Int) + -1)), none, none] [] (m_Ex g T, z_row J 144 F2, X) 0 0 := by
          intro F2 a1 a2 a3
          refine fin F2 a1 (fun S b1 b2 => ?_)
          by_cases z : S = m + 1
          · subst z
            rcases a3 with a3 | ⟨c1, c2, c3⟩
            · exact Or.inl a3
            · refine Or.inr ⟨c1, fun z => ?_⟩
              rcases z with z | ⟨p, p0, pS, pV, pok⟩
              · exact c2 z
              · have pm : p ≤ m + 1 := by rw [← pS]; exact Nat.and_le_right
                have pt := may2 p (by omega) pok.2
                refine c3 p (by omega) ?_ ⟨pV, pok⟩
                rw [← Nat.and_assoc, pS, pt]
          · exact a2 S (by omega) b2
        induction k with
        | zero =>
          intro part F2 hk hsub a1 a2 a3
          have p0 : part = 0 := by omega
          subst p0
          refine w_77_57 hs ?_
          exact ⟨fun c => ⟨by omega, done F2 a1 a2 a3⟩, fun c => by omega⟩
        | succ k ihk =>
          intro part F2 hk hsub a1 a2 a3
          have pw : part ≤ (m + 1) &&& it := by
            have z : part &&& ((m + 1) &&& it) ≤ (m + 1) &&& it := Nat.and_le_right
            rw [hsub] at z; exact z
          have pS : part &&& (m + 1) = part := by
            have z : part &&& ((m + 1) &&& it) &&& (m + 1) = part &&& ((m + 1) &&& it) := by rw [Nat.and_assoc, wsub]
            rw [hsub] at z; exact z
          have pI : part &&& it = part := by
            have z : part &&& ((m + 1) &&& it) &&& it = part &&& ((m + 1) &&& it) := by rw [Nat.and_assoc, wit]
            rw [hsub] at z; exact z
          have an : part ≠ 0 → z_and ((part : Int) - 1) (((m + 1) &&& it : Nat) : Int) = (((part - 1) &&& ((m + 1) &&& it) : Nat) : Int) := fun z => by rw [show (part : Int) - 1 = ((part - 1 : Nat) : Int) by omega, z_and_n (by omega) (by omega)]
          have anle : (part - 1) &&& ((m + 1) &&& it) ≤ part - 1 := Nat.and_le_left
          have ansub : ((part - 1) &&& ((m + 1) &&& it)) &&& ((m + 1) &&& it) = (part - 1) &&& ((m + 1) &&& it) := by rw [Nat.and_assoc, Nat.and_self]
          have r143 : ∀ j, (z_row J 144 F2) 143 j = J 143 j := fun j => by rw [z_row_ne (by omega)]
          have r129 : ∀ j, (z_row J 144 F2) 129 j = J 129 j := fun j => by rw [z_row_ne (by omega)]
          refine w_77_57 hs ?_
          simp only [z_row_eq, z_u_zrow]
          rw [r143, r129, hF]
          refine ⟨fun c => ⟨by omega, done F2 a1 a2 ?_⟩, fun c => ⟨by omega, fun c1 => ⟨by omega, done F2 a1 a2 ?_⟩, fun c1 => ?_⟩⟩
          · have p0 : part = 0 := by omega
            subst p0; exact a3
          · rcases a3 with a3 | a3
            · exact Or.inl a3
            · exact absurd a3.1 c1
          · obtain ⟨c2, c3, c4⟩ : F2 ((m + 1 : Nat) : Int) = 0 ∧ ¬ y_V (y_okS q r) n (m + 1) ∧ ∀ p : Nat, part < p → p &&& ((m + 1) &&& it) = p → ¬ (y_V (y_okS q r) n ((m + 1) ^^^ p) ∧ y_okS q r n p) := by
              rcases a3 with a3 | a3
              · have := a3.1; omega
              · exact a3
            have p0 : part ≠ 0 := by omega
            have xl := y_xor_lt p0 pS
            have tx := hT ((m + 1) ^^^ part) (by omega)
            have ex : F2 (((m + 1) ^^^ part : Nat) : Int) = F0 (((m + 1) ^^^ part : Nat) : Int) := a1 _ (by omega)
            have go : ¬ (y_V (y_okS q r) n ((m + 1) ^^^ part) ∧ y_okS q r n part) → Wp 57 [some (.inr (.inr (.ref 128))), some (.inl (q 0 + n)), some (.inl N), some (.inl it), some (.inl ((m + 1 : Nat) : Int)), some (.inl (((m + 1) &&& it : Nat) : Int)), some (.inl (z_and ((part : Int) - 1) (((m + 1) &&& it : Nat) : Int)))] [] (m_Ex g T, z_row J 144 (z_up F2 ((m + 1 : Nat) : Int) 0), X) 0 0 := by
              intro hno
              rw [an p0]
              refine ihk _ _ (by omega) ansub (fun S hS => by rw [z_up_ne (by omega)]; exact a1 S hS) (fun S b1 b2 => by rw [z_up_ne (by omega)]; exact a2 S b1 b2) (Or.inr ⟨z_up_eq rfl, c3, fun p hp hpS => ?_⟩)
              by_cases z : part < p
              · exact c4 p z hpS
              · by_cases z2 : p = part
                · subst z2; exact hno
                · have := y_sub_next part ((m + 1) &&& it) p hsub hpS (by omega)
                  omega
            rw [z_xor_n (by omega) (by omega), ex, hP part (by omega)]
            refine ⟨by omega, fun c5 => ⟨by omega, go (fun z => ?_)⟩, fun c5 => ⟨by omega, fun c6 => ⟨by omega, go (fun z => ?_)⟩, fun c6 => ⟨by omega, ?_⟩⟩⟩
            · have := z.2.1
              rw [hN] at this
              omega
            · rcases tx with t | t
              · omega
              · exact t.2 z.1
            · rw [an p0]
              refine ihk _ _ (by omega) ansub (fun S hS => by rw [z_up_ne (by omega)]; exact a1 S hS) (fun S b1 b2 => by rw [z_up_ne (by omega)]; exact a2 S b1 b2) (Or.inl ⟨z_up_eq rfl, Or.inr ⟨part, p0, pS, ?_, by rw [hN]; exact c5, may1 part pI⟩⟩)
              rcases tx with t | t
              · exact t.2
              · exact absurd t.1 c6
      refine w_77_42 hs ?_
      refine ⟨fun c => by omega, fun c => ?_⟩
      rw [z_and_n (by omega) (by omega)]
      refine inner ((m + 1) &&& it) ((m + 1) &&& it) F1 (Nat.le_refl _) (Nat.and_self _) (fun S hS => h1 S (by omega)) (fun S b1 b2 => h2 S b1 b2) ?_
      rw [e1]
      rcases Tm with t | t
      · exact Or.inl ⟨t.1, Or.inl t.2⟩
      · refine Or.inr ⟨t.1, t.2, fun p hp hpS => absurd hp (Nat.not_lt.mpr ?_)⟩
        have z : p &&& ((m + 1) &&& it) ≤ (m + 1) &&& it := Nat.and_le_right
        rw [hpS] at z; exact z
  have time : ∀ (m k it : Nat), k + m = N → it < 2 ^ k → (∀ i : Nat, i < k → (it.testBit i = true ↔ q 0 + n ≤ y_lat q r i)) → Wp 5 [some (.inr (.inr (.ref 128))), some (.inl (q 0 + n)), some (.inl N), some (.inl it), some (.inl k), none, none] [] (m_Ex g T, z_row J 144 F0, X) 0 0 := by
    intro m
    induction m with
    | zero =>
      intro k it hk hit hbit
      have ek : N = k := by omega
      refine w_77_5 hs ?_
      rw [z_shl_n N8]
      refine ⟨fun c => ⟨by omega, ?_⟩, fun c => by omega⟩
      rw [show ((2 ^ N : Nat) : Int) - 1 = ((2 ^ N - 1 : Nat) : Int) by omega]
      exact main it (by rw [ek]; exact hit) (by rw [ek]; exact hbit) (2 ^ N - 1) F0 (by omega) (fun _ _ => rfl) (fun S a1 a2 => by omega)
    | succ m ih =>
      intro k it hk hit hbit
      have b9 := y_pow8 (show k + 1 ≤ 8 by omega)
      have b2 : 2 ^ (k + 1) = 2 ^ k + 2 ^ k := by rw [Nat.pow_succ]; omega
      have r142 : (z_row J 144 F0) 142 k = y_lat q r k := by rw [z_row_ne (by omega)]; exact hL k (by omega)
      refine w_77_5 hs ?_
      rw [r142, z_shl_n (show k ≤ 8 by omega), z_or_n (by omega) (by omega)]
      refine ⟨fun c => by omega, fun c => ⟨by omega, fun c1 => ⟨by omega, ih (k + 1) it (by omega) (by omega) (fun i hi => ?_)⟩, fun c1 => ⟨by omega, ih (k + 1) (it ||| 2 ^ k) (by omega) ?_ (fun i hi => ?_)⟩⟩⟩
      · by_cases z : i = k
        · subst z
          rw [Nat.testBit_lt_two_pow hit]
          exact ⟨fun z => (by cases z), fun z => (by omega)⟩
        · exact hbit i (by omega)
      · exact Nat.or_lt_two_pow (by omega) (by omega)
      · rw [Nat.testBit_or, Nat.testBit_two_pow]
        by_cases z : i = k
        · subst z
          rw [decide_eq_true rfl, Bool.or_true]
          exact ⟨fun _ => c1, fun _ => rfl⟩
        · rw [decide_eq_false (fun y => z y.symm), Bool.or_false]
          exact hbit i (by omega)
  refine w_77_0 hs ?_
  exact time N 0 0 (by omega) (by omega) (fun i hi => by omega)
theorem e_largestSet (hb : y_base q) (h : x_day 36 q J) {r : Int} (hr : 0 ≤ r ∧ r < q 1) : z_Sem l (d + 3) M_Planner_largestSet [.inr (.inr (.ref 128)), .inr (.inr (.ref 36)), .inl r] (m_Ex g T, J, X) 0 0 (z_rq (m_Ex g T) (fun v J' X' => X' = X ∧ x_sc J J' ∧ v = (y_sset q r : Nat))) := by
  have h1 := hb.1.2.1
  have h0 := hb.1.1
  have r3 := (hb.ride hr.1 hr.2).2.2.2.1
  have c13 := (hb.ride hr.1 hr.2).2.2.2.2.2.2.2.2.2.2.2
  have w := h.wait hr.1 hr.2
  have rd := h.ride hr.1 hr.2
  have d0 := h.hd.1
  obtain ⟨N, hN⟩ : ∃ N, y_N q r = N := ⟨_, rfl⟩
  have eN : min (q (10 + 14 * r + 13)) 8 = (N : Int) := by rw [← hN]; unfold y_N; omega
  have N8 : N ≤ 8 := by rw [← hN]; exact y_N_b
  have b8 := y_pow8 N8
  refine z_sem_of z_m74 m_ok_74 (Nat.le_of_ble_eq_true rfl) (fun Wp hs hv hS => ?_)
  have last : ∀ (J1 : z_J) (F1 : Int → Int), J1 144 = F1 → x_sc J J1 → y_bst F1 (2 ^ N - 1) = y_sset q r → ∀ (m k : Nat), k + m = 2 ^ N - 1 → Wp 102 [some (.inr (.inr (.ref 128))), some (.inr (.inr (.ref 36))), some (.inl r), some (.inl N), some (.inl ((2 ^ N - 1 : Nat) : Int)), some (.inl (y_bst F1 k : Nat)), some (.inl (k + 1))] [] (m_Ex g T, J1, X) 0 0 := by
    intro J1 F1 j144 hsc hB m
    induction m with
    | zero =>
      intro k hk
      refine w_74_102 hs ?_
      refine ⟨fun c => ⟨_, _, _, rfl, rfl, rfl, hsc, ?_⟩, fun c => by omega⟩
      rw [← hB, show 2 ^ N - 1 = k by omega]
    | succ m ih =>
      intro k hk
      have le := y_bst_le (T := F1) (m := k)
      have nx := ih (k + 1) (by omega)
      rw [y_bst, show ((k + 1 : Nat) : Int) = (k : Int) + 1 from rfl] at nx
      have cb1 := e_bitCount (l := l) (d := d + 1) (g := g) (T := T) (J := J1) (X := X) (x := k + 1) (by omega)
      have cb2 := e_bitCount (l := l) (d := d + 1) (g := g) (T := T) (J := J1) (X := X) (x := y_bst F1 k) (by omega)
      refine w_74_102 hs ?_
      rw [j144]
      refine ⟨fun c => by omega, fun c => ⟨by omega, fun c1 => ⟨by omega, ?_⟩, fun c1 => ?_⟩⟩
      · rw [if_neg (fun z => z.1 c1)] at nx
        exact nx
      · refine z_cI cb1 (z_cI cb2 ⟨fun c2 => ⟨by omega, ?_⟩, fun c2 => ⟨by omega, ?_⟩⟩)
        · rw [if_neg (fun z => by omega)] at nx
          exact nx
        · rw [if_pos ⟨c1, by omega⟩] at nx
          exact nx
  have slots : ∀ (J0 : z_J), (∀ F9, x_sc J (z_row J0 144 F9)) → (∀ s, 0 ≤ s → s < 144 → J0 129 s = y_free q r s) → (∀ S : Nat, S < 2 ^ N → J0 143 S = y_prs q r S N) → (∀ k : Nat, k < N → J0 142 k = y_lat q r k) → ∀ (m n : Nat) (F1 : Int → Int), n + m = y_M q r → y_tab (y_okS q r) N n F1 → Wp 45 [some (.inr (.inr (.ref 128))), some (.inr (.inr (.ref 36))), some (.inl r), some (.inl N), some (.inl ((2 ^ N - 1 : Nat) : Int)), some (.inl (q 0 + n)), none] [] (m_Ex g T, z_row J0 144 F1, X) 0 0 := by
    intro J0 jsc j129 j143 j142 m
    have jo : ∀ (F9 : Int → Int) (b : Nat), b < 125 → (z_row J0 144 F9) b = J b := fun F9 b hb9 => jsc F9 b (by omega)
    induction m with
    | zero =>
      intro n F1 hn hT
      have hM : (y_M q r : Int) = n := by omega
      unfold y_M at hM
      have fin := last (z_row J0 144 F1) F1 z_row_eq (jsc F1) (by rw [← hN]; exact y_sset_eq (by rw [hN, show y_M q r = n by omega]; exact hT)) (2 ^ N - 1) 0 (by omega)
      refine w_74_45 hs ?_
      rw [jo F1 42 (by omega), rd.2.2.2.2.1]
      exact ⟨by omega, fun c => fin, fun c => by omega⟩
    | succ m ih =>
      intro n F1 hn hT
      have hM : (y_M q r : Int) = n + (m + 1) := by omega
      unfold y_M at hM
      have nx := ih (n + 1)
      rw [show q 0 + ((n + 1 : Nat) : Int) = q 0 + n + 1 by omega] at nx
      have s144 : q 0 + (n : Int) < 144 := by omega
      have cnt := e_counts (l := l) (d := d + 1) (g := g) (T := T) (J := z_row J0 144 F1) (X := X) (now := q 0) (n := n) (N := N) (by omega) s144
      refine w_74_45 hs ?_
      rw [jo F1 42 (by omega), jo F1 36 (by omega), rd.2.2.2.2.1, d0, z_row_eq]
      refine ⟨by omega, fun c => by omega, fun c => ⟨by omega, fun c1 => ?_, fun c1 => z_cI cnt ⟨fun c2 => ⟨by omega, ?_⟩, fun c2 => ?_⟩⟩⟩
      · -- all can be served
        have hV : y_V (y_okS q r) n (2 ^ N - 1) := by
          rcases hT (2 ^ N - 1) (by omega) with t | t
          · exact t.2
          · exact absurd t.1 c1
        refine last (z_row J0 144 F1) F1 z_row_eq (jsc F1) ?_ (2 ^ N - 1) 0 (by omega)
        rw [y_bst_all N8 c1]
        have : y_tbl q r ((2 ^ y_N q r - 1 : Nat) : Int) ≠ 0 := by
          unfold y_tbl
          rw [hN, show (((2 ^ N - 1 : Nat) : Int)).toNat = 2 ^ N - 1 by omega]
          have := y_V_mono (m + 1) n hV
          rw [show n + (m + 1) = y_M q r by omega] at this
          simp [this]
        unfold y_sset
        rw [y_bst_all y_N_b this, hN]
      · -- the slot is left out
        rw [y_b_0, decide_eq_false_iff_not] at c2
        refine nx F1 (by omega) (fun S hS => ?_)
        rcases hT S hS with t | t
        · exact Or.inl ⟨t.1, Or.inl t.2⟩
        · refine Or.inr ⟨t.1, fun z => t.2 ?_⟩
          have e129 : (z_row J0 144 F1) 129 = J0 129 := z_row_ne (by omega)
          rw [e129] at c2
          refine y_V_skip (g := y_gd (J0 129) (q 0) (q 0 + n)) N8 hS (fun k => by unfold y_gd; split <;> omega) (by omega) (fun t ht hg p pok => ?_) z
          have hg : (if J0 129 (q 0 + n) ≤ J0 129 (q 0 + t) then (1 : Int) else 0) = 1 := hg
          have fr : J0 129 (q 0 + n) ≤ J0 129 (q 0 + t) := by
            by_cases y : J0 129 (q 0 + n) ≤ J0 129 (q 0 + t)
            · exact y
            · rw [if_neg y] at hg; omega
          rw [j129 _ (by omega) (by omega), j129 _ (by omega) (by omega)] at fr
          refine ⟨by have := pok.1; omega, ?_⟩
          have pm := pok.2
          unfold y_may at *
          cases e : y_any (y_ltf q r p (q 0 + t)) 8
          · rfl
          · obtain ⟨k, k1, k2⟩ := y_any_iff.mp e
            rw [y_ltf, decide_eq_true_eq] at k2
            have : y_any (y_ltf q r p (q 0 + n)) 8 = true := y_any_iff.mpr ⟨k, k1, by
              rw [y_ltf, decide_eq_true_eq]
              exact ⟨k2.1, by have := k2.2; omega⟩⟩
            rw [this] at pm
            exact absurd pm (by decide)
      · refine z_cVq (e_fillSlot (J := J0) (q := q) (by omega) s144 hN hT j143 j142 (j129 _ (by omega) (by omega))) ?_
        rintro J2 X2 ⟨rfl, F2, rfl, hT2⟩
        exact ⟨by omega, nx F2 (by omega) hT2⟩
  refine w_74_0 hs ?_
  rw [w.1, eN, z_shl_n N8, show ((2 ^ N : Nat) : Int) - 1 = ((2 ^ N - 1 : Nat) : Int) by omega]
  refine ⟨by omega, z_cVq (e_readyParties hb h hr hN) ?_⟩
  rintro J2 X2 ⟨rfl, La, Pe, Fi, rfl, hLa, hPF⟩
  have O : ∀ b, b ≠ 142 → b ≠ 143 → b ≠ 144 → (z_row (z_row (z_row J 142 La) 143 Pe) 144 Fi) b = J b := fun b a1 a2 a3 => by rw [z_row_ne a3, z_row_ne a2, z_row_ne a1]
  have x2 : x_day 36 q (z_row (z_row (z_row J 142 La) 143 Pe) 144 Fi) := x_day_congr (fun b hb9 => O b (by omega) (by omega) (by omega)) h1.2 h
  refine z_cVq (e_fillFreeb hb x2 hr) ?_
  rintro J3 X3 ⟨rfl, f, rfl, hf⟩
  have eJ : z_row (z_row (z_row (z_row J 142 La) 143 Pe) 144 Fi) 129 f = z_row (z_row (z_row (z_row J 142 La) 143 Pe) 129 f) 144 Fi := by
    funext b
    by_cases b1 : b = 129
    · subst b1; rw [z_row_eq, z_row_ne (by omega), z_row_eq]
    · rw [z_row_ne b1]
      by_cases b2 : b = 144
      · subst b2; rw [z_row_eq, z_row_eq]
      · rw [z_row_ne b2, z_row_ne b2, z_row_ne b1]
  rw [eJ]
  have e0 : (z_row (z_row (z_row (z_row J 142 La) 143 Pe) 129 f) 144 Fi) 36 0 = q 0 := by rw [z_row_ne (by omega), z_row_ne (by omega), z_row_ne (by omega), z_row_ne (by omega)]; exact d0
  rw [e0]
  have key := slots (z_row (z_row (z_row J 142 La) 143 Pe) 129 f) (fun F9 b hb9 => by rw [z_row_ne (by omega), z_row_ne (by omega), z_row_ne (by omega), z_row_ne (by omega)]) (fun s a1 a2 => by rw [z_row_eq, hf s a1 a2, y_freeX_none]) (fun S hS => by rw [z_row_ne (by omega), z_row_eq]; exact (hPF S hS).1) (fun k hk => by rw [z_row_ne (by omega), z_row_ne (by omega), z_row_eq]; exact hLa k hk) (y_M q r) 0 Fi (by omega) (fun S hS => by
    have := (hPF S hS).2
    by_cases z : S = 0
    · rw [if_pos z] at this
      exact Or.inl ⟨this, z⟩
    · rw [if_neg z] at this
      exact Or.inr ⟨this, z⟩)
  rw [show q 0 + ((0 : Nat) : Int) = q 0 by omega] at key
  exact key
theorem q_servedSet (hb : y_base q) (h : x_day 36 q J) {r : Int} : z_Sem l (d + 4) M_Q_servedSet [.inr (.inr (.ref 0)), .inl r] (m_Ex g T, J, X) 4 24 (x_out x_e1 x_e2 (o_servedSet q r) (m_Ex g T) (fun J' X' => X' = X ∧ x_sc J J')) := by
  obtain ⟨b0, b1, b2, b3, b4, b5⟩ := hb.1
  obtain ⟨d0, d4, d1, d2, d3, d5⟩ := h.hd
  refine z_sem_of z_m181 m_ok_181 (Nat.le_of_ble_eq_true rfl) (fun Wp hs hv hS => ?_)
  refine w_181_0 hs ?_
  rw [d1]
  refine ⟨by omega, fun c => x_t1 (by rw [o_servedSet, y_need_n (by omega)]) ⟨rfl, x_sc.rf⟩, fun c => ⟨fun c1 => z_cIq (e_largestSet hb h ⟨c, c1⟩) ?_, fun c1 => x_t1 (by rw [o_servedSet, y_need_n (by omega)]) ⟨rfl, x_sc.rf⟩⟩⟩
  rintro v J2 X2 ⟨rfl, f2, rfl⟩
  exact x_ok (by rw [o_servedSet, y_need_2 (by omega)]) ⟨rfl, f2⟩
theorem q_mostServed (hb : y_base q) (h : x_day 36 q J) {r : Int} : z_Sem l (d + 4) M_Q_mostServed [.inr (.inr (.ref 0)), .inl r] (m_Ex g T, J, X) 4 24 (x_out x_e1 x_e2 (o_mostServed q r) (m_Ex g T) (fun J' X' => X' = X ∧ x_sc J J')) := by
  obtain ⟨b0, b1, b2, b3, b4, b5⟩ := hb.1
  obtain ⟨d0, d4, d1, d2, d3, d5⟩ := h.hd
  refine z_sem_of z_m180 m_ok_180 (Nat.le_of_ble_eq_true rfl) (fun Wp hs hv hS => ?_)
  refine w_180_0 hs ?_
  rw [d1]
  refine ⟨by omega, fun c => x_t1 (by rw [o_mostServed, y_need_n (by omega)]) ⟨rfl, x_sc.rf⟩, fun c => ⟨fun c1 => z_cIq (e_largestSet hb h ⟨c, c1⟩) ?_, fun c1 => x_t1 (by rw [o_mostServed, y_need_n (by omega)]) ⟨rfl, x_sc.rf⟩⟩⟩
  rintro v J2 X2 ⟨rfl, f2, rfl⟩
  refine z_cI (e_bitCount y_sset_lt) ?_
  exact x_ok (by rw [o_mostServed, y_need_2 (by omega)]) ⟨rfl, f2⟩
end Q20
