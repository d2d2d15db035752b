/-! the reference: which of the waiting could be served -/
def y_lat (q : Int → Int) (r k : Int) : Int := q 0 + q (122 + 4 * q (138 + 3 * q (4564 + 50 * r + k) + 0) + 1)
def y_ltf (q : Int → Int) (r : Int) (p : Nat) (s : Int) : Int → Bool := fun k => decide (p.testBit k.toNat = true ∧ y_lat q r k < s)
def y_may (q : Int → Int) (r : Int) (p : Nat) (s : Int) : Bool := !(y_any (y_ltf q r p s) 8)
def y_wsf (q : Int → Int) (r : Int) (p : Nat) : Int → Int := fun k => if p.testBit k.toNat = true then q (138 + 3 * q (4564 + 50 * r + k) + 1) else 0
def y_prs (q : Int → Int) (r : Int) (p n : Nat) : Int := y_sum (y_wsf q r p) n
def y_N (q : Int → Int) (r : Int) : Nat := (min 8 (q (10 + 14 * r + 13))).toNat
def y_okS (q : Int → Int) (r : Int) : Nat → Nat → Prop := fun n p => y_prs q r p (y_N q r) ≤ y_free q r (q 0 + n) ∧ y_may q r p (q 0 + n) = true
def y_M (q : Int → Int) (r : Int) : Nat := (q (10 + 14 * r + 4) + 1 - q 0).toNat
noncomputable def y_tbl (q : Int → Int) (r : Int) : Int → Int := fun S => @ite Int (y_V (y_okS q r) (y_M q r) S.toNat) (Classical.propDecidable _) 1 0
noncomputable def y_sset (q : Int → Int) (r : Int) : Nat := y_bst (y_tbl q r) (2 ^ y_N q r - 1)
theorem y_sset_eq {q : Int → Int} {r : Int} {T : Int → Int} (h : y_tab (y_okS q r) (y_N q r) (y_M q r) T) : y_bst T (2 ^ y_N q r - 1) = y_sset q r := by
  have b := Nat.one_le_two_pow (n := y_N q r)
  refine y_bst_cg (fun k hk => ?_)
  unfold y_tbl
  rw [show ((k : Int)).toNat = k by omega]
  rcases h k (by omega) with ⟨h1, h2⟩ | ⟨h1, h2⟩
  · rw [h1]
    simp [h2]
  · rw [h1]
    simp [h2]
theorem y_N_b {q : Int → Int} {r : Int} : y_N q r ≤ 8 := by unfold y_N; omega
theorem y_sset_lt {q : Int → Int} {r : Int} : y_sset q r < 256 := by
  have := y_bst_le (T := y_tbl q r) (m := 2 ^ y_N q r - 1)
  have b := y_pow8 (y_N_b (q := q) (r := r))
  unfold y_sset
  omega
theorem y_xor_lt {p S : Nat} (h0 : p ≠ 0) (h : p &&& S = p) : S ^^^ p < S := by
  have le : S ^^^ p ≤ S := Nat.le_of_testBit (fun i hi => by
    rw [Nat.testBit_xor] at hi
    have : (p &&& S).testBit i = p.testBit i := by rw [h]
    rw [Nat.testBit_and] at this
    cases h1 : S.testBit i <;> cases h2 : p.testBit i <;> simp_all)
  by_cases e : S ^^^ p = S
  · have : S ^^^ (S ^^^ p) = p := by rw [← Nat.xor_assoc, Nat.xor_self, Nat.zero_xor]
    rw [e, Nat.xor_self] at this
    exact absurd this.symm h0
  · omega
noncomputable def o_servedSet (q : Int → Int) (r : Int) : Int × Int := y_need (0 ≤ r ∧ r < q 1) 1 (0, (y_sset q r : Nat))
noncomputable def o_mostServed (q : Int → Int) (r : Int) : Int × Int := y_need (0 ≤ r ∧ r < q 1) 1 (0, (y_bc (y_sset q r) : Nat))
section R20
variable {l : Launch} {d : Nat} {g : List (Option Nat)} {T : m_E} {J : z_J} {X : z_X}
theorem c_bitCount {x : Nat} (hx : x < 256) : z_Sem l (d + 1) M_R_bitCount [.inl x] (m_Ex g T, J, X) 0 0 (z_ret (.inl (y_bc x : Nat)) (m_Ex g T, J, X)) := by
  refine z_sem_of z_m258 m_ok_258 (Nat.le_of_ble_eq_true rfl) (fun Wp hs hv hS => ?_)
  have loop : ∀ (n y a : Nat), y ≤ n → a + n ≤ 256 → a + y_bcn n y = y_bc x → Wp 4 [some (.inl x), some (.inl a), some (.inl y)] [] (m_Ex g T, J, X) 0 0 := by
    intro n
    induction n with
    | zero =>
      intro y a hy ha he
      refine w_258_4 hs ?_
      refine ⟨fun c => ⟨z_wi ?_, rfl⟩, fun c => by omega⟩
      rw [← he]; rfl
    | succ n ih =>
      intro y a hy ha he
      rw [y_bcn] at he
      refine w_258_4 hs ?_
      refine ⟨fun c => ⟨z_wi ?_, rfl⟩, fun c => ⟨by omega, ?_⟩⟩
      · rw [if_pos (by omega)] at he
        rw [← he]; rfl
      · rw [if_neg (by omega)] at he
        have le : y &&& (y - 1) ≤ y - 1 := Nat.and_le_right
        rw [show (y : Int) - 1 = ((y - 1 : Nat) : Int) by omega, z_and_n (by omega) (by omega)]
        exact ih (y &&& (y - 1)) (a + 1) (by omega) (by omega) (by omega)
  refine w_258_0 hs ?_
  exact loop 256 x 0 (by omega) (by omega) (by rw [Nat.zero_add]; rfl)
theorem c_mayGet (hb : y_base (J 149)) {r s : Int} {p : Nat} (hr : 0 ≤ r ∧ r < J 149 1) (hp : p < 2 ^ y_N (J 149) r) : z_Sem l (d + 3) M_R_mayGet [.inr (.inr (.ref 148)), .inl r, .inl p, .inl s] (m_Ex g T, J, X) 0 0 (z_ret (.inl (y_b (y_may (J 149) r p s))) (m_Ex g T, J, X)) := by
  have h1 := hb.1.2.1
  have h0 := hb.1.1
  have b8 := y_pow8 (y_N_b (q := J 149) (r := r))
  have c13 := (hb.ride hr.1 hr.2).2.2.2.2.2.2.2.2.2.2.2
  have wl := (hb.2.1 r hr.1 hr.2).2.2.1
  refine z_sem_of z_m257 m_ok_257 (Nat.le_of_ble_eq_true rfl) (fun Wp hs hv hS => ?_)
  have loop : ∀ (n k : Nat), k + n = 8 → y_any (y_ltf (J 149) r p s) k = false → Wp 3 [some (.inr (.inr (.ref 148))), some (.inl r), some (.inl p), some (.inl s), some (.inl k)] [] (m_Ex g T, J, X) 0 0 := by
    intro n
    induction n with
    | zero =>
      intro k hk ha
      refine w_257_3 hs ?_
      refine ⟨fun c => ⟨z_wi ?_, rfl⟩, fun c => by omega⟩
      rw [y_may, show (8 : Nat) = k by omega, ha]; rfl
    | succ n ih =>
      intro k hk ha
      have bt := z_bit_n (a := p) (k := k) (by omega) (by omega)
      refine w_257_3 hs ?_
      rw [bt]
      refine ⟨fun c => by omega, fun c => ⟨fun c1 => ⟨by omega, ih (k + 1) (by omega) ?_⟩, fun c1 => ?_⟩⟩
      · have e : p.testBit k = false := by
          cases h : p.testBit k
          · rfl
          · rw [h] at c1; exact absurd rfl c1
        rw [y_any, ha, y_ltf, show ((k : Int)).toNat = k by omega, e]; rfl
      · have e : p.testBit k = true := by
          cases h : p.testBit k
          · rw [h] at c1; exact absurd c1 (by decide)
          · rfl
        have kN : k < y_N (J 149) r := by
          by_cases z : k < y_N (J 149) r
          · exact z
          · have a := Nat.ge_two_pow_of_testBit e
            have b : 2 ^ y_N (J 149) r ≤ 2 ^ k := Nat.pow_le_pow_right (by omega) (by omega)
            omega
        have w := wl.1 k (by omega) (by unfold y_N at kN; omega)
        refine ⟨by omega, z_cI (c_latest hb w) ⟨fun c2 => ⟨by omega, ih (k + 1) (by omega) ?_⟩, fun c2 => ⟨z_wi ?_, rfl⟩⟩⟩
        · rw [y_any, ha, y_ltf, show ((k : Int)).toNat = k by omega]
          rw [Bool.false_or, decide_eq_false_iff_not]
          intro z
          have : y_lat (J 149) r k < s := z.2
          unfold y_lat at this
          omega
        · have : y_any (y_ltf (J 149) r p s) 8 = true := y_any_iff.mpr ⟨k, by omega, by
            rw [y_ltf, decide_eq_true_eq, show ((k : Int)).toNat = k by omega]
            exact ⟨e, by unfold y_lat; exact c2⟩⟩
          rw [y_may, this]; rfl
  refine w_257_0 hs ?_
  exact loop 8 0 (by omega) rfl
theorem c_serveSlot (hb : y_base (J 149)) {r rm : Int} {n N : Nat} {T0 P0 : Int → Int} (hr : 0 ≤ r ∧ r < J 149 1) (hN : y_N (J 149) r = N) (hT : y_tab (y_okS (J 149) r) N n T0) (hP : ∀ S : Nat, S < 2 ^ N → P0 S = y_prs (J 149) r S N) (hrm : rm = y_free (J 149) r (J 149 0 + n)) (j154 : J 154 = P0) : z_Sem l (d + 4) M_R_serveSlot [.inr (.inr (.ref 148)), .inl r, .inl (J 149 0 + n), .inl N, .inl rm] (m_Ex g T, z_row J 153 T0, X) 0 0 (z_vq (m_Ex g T) (fun J' X' => X' = X ∧ ∃ T1, J' = z_row J 153 T1 ∧ y_tab (y_okS (J 149) r) N (n + 1) T1)) := by
  have N8 : N ≤ 8 := by rw [← hN]; exact y_N_b
  have b8 := y_pow8 N8
  refine z_sem_of z_m256 m_ok_256 (Nat.le_of_ble_eq_true rfl) (fun Wp hs hv hS => ?_)
  have outer : ∀ (m : Nat) (T1 : Int → Int), m < 2 ^ N → (∀ S : Nat, S ≤ m → T1 S = T0 S) → (∀ S : Nat, m < S → S < 2 ^ N → (T1 S = 1 ∧ y_V (y_okS (J 149) r) (n + 1) S) ∨ (T1 S = 0 ∧ ¬ y_V (y_okS (J 149) r) (n + 1) S)) → Wp 7 [some (.inr (.inr (.ref 148))), some (.inl r), some (.inl (J 149 0 + n)), some (.inl N), some (.inl rm), some (.inl m), none, none] [] (m_Ex g T, z_row J 153 T1, X) 0 0 := by
    intro m
    induction m with
    | zero =>
      intro T1 hm h1 h2
      refine w_256_7 hs ?_
      refine ⟨fun c => ⟨_, _, rfl, rfl, rfl, T1, rfl, fun S hS => ?_⟩, fun c => by omega⟩
      by_cases z : S = 0
      · subst z
        rw [h1 0 (by omega)]
        have e0 : y_V (y_okS (J 149) r) n 0 → y_V (y_okS (J 149) r) (n + 1) 0 := Or.inl
        rcases hT 0 (by omega) with h | h
        · exact Or.inl ⟨h.1, e0 h.2⟩
        · refine Or.inr ⟨h.1, fun z => ?_⟩
          rcases z with z | ⟨p, p0, pS, -⟩
          · exact h.2 z
          · rw [Nat.and_zero] at pS; exact p0 pS.symm
      · exact h2 S (by omega) hS
    | succ m ih =>
      intro T1 hm h1 h2
      have Tm := hT (m + 1) hm
      have e1 : T1 ((m + 1 : Nat) : Int) = T0 ((m + 1 : Nat) : Int) := h1 (m + 1) (by omega)
      -- the set's own entry is written
      have put : ∀ v : Int, (v = 1 ∧ y_V (y_okS (J 149) r) (n + 1) (m + 1)) ∨ (v = 0 ∧ ¬ y_V (y_okS (J 149) r) (n + 1) (m + 1)) → Wp 7 [some (.inr (.inr (.ref 148))), some (.inl r), some (.inl (J 149 0 + n)), some (.inl N), some (.inl rm), some (.inl (((m + 1 : Nat) : Int) + -1)), none, none] [] (m_Ex g T, z_u (z_row J 153 T1) 153 ((m + 1 : Nat) : Int) v, X) 0 0 := by
        intro v hv
        rw [z_u_zrow, show ((m + 1 : Nat) : Int) + -1 = m by omega]
        refine ih _ (by omega) (fun S hS => ?_) (fun S hS1 hS2 => ?_)
        · rw [z_up_ne (by omega)]; exact h1 S (by omega)
        · by_cases z : S = m + 1
          · subst z; rw [z_up_eq rfl]; exact hv
          · rw [z_up_ne (by omega)]; exact h2 S (by omega) hS2
      have inner : ∀ (k part : Nat) (can : Int), part ≤ k → part &&& (m + 1) = part → ((can = 1 ∧ y_V (y_okS (J 149) r) (n + 1) (m + 1)) ∨ (can = 0 ∧ ¬ y_V (y_okS (J 149) r) n (m + 1) ∧ ∀ p : Nat, part < p → p &&& (m + 1) = p → ¬ (y_V (y_okS (J 149) r) n ((m + 1) ^^^ p) ∧ y_okS (J 149) r n p))) → Wp 25 [some (.inr (.inr (.ref 148))), some (.inl r), some (.inl (J 149 0 + n)), some (.inl N), some (.inl rm), some (.inl ((m + 1 : Nat) : Int)), some (.inl can), some (.inl part)] [] (m_Ex g T, z_row J 153 T1, X) 0 0 := by
        intro k
        induction k with
        | zero =>
          intro part can hk hsub hc
          have p0 : part = 0 := by omega
          refine w_256_25 hs ?_
          refine ⟨fun c => ⟨by omega, put can ?_⟩, fun c => by omega⟩
          rcases hc with hc | ⟨hc1, hc2, hc3⟩
          · exact Or.inl hc
          · refine Or.inr ⟨hc1, fun z => ?_⟩
            rcases z with z | ⟨p, p0, pS, pV, pok⟩
            · exact hc2 z
            · exact hc3 p (by omega) pS ⟨pV, pok⟩
        | succ k ihk =>
          intro part can hk hsub hc
          have pm : part ≤ m + 1 := by rw [← hsub]; exact Nat.and_le_right
          have nxt : part ≠ 0 → (((part : Int) - 1)) = ((part - 1 : Nat) : Int) := fun z => by omega
          have an : part ≠ 0 → z_and ((part : Int) - 1) ((m + 1 : Nat) : Int) = (((part - 1) &&& (m + 1) : Nat) : Int) := fun z => by rw [nxt z, z_and_n (by omega) (by omega)]
          have anle : (part - 1) &&& (m + 1) ≤ part - 1 := Nat.and_le_left
          have ansub : ((part - 1) &&& (m + 1)) &&& (m + 1) = (part - 1) &&& (m + 1) := by rw [Nat.and_assoc, Nat.and_self]
          refine w_256_25 hs ?_
          refine ⟨fun c => ⟨by omega, put can ?_⟩, fun c => ⟨fun c1 => ⟨by omega, put can ?_⟩, fun c1 => ?_⟩⟩
          · rcases hc with hc | ⟨hc1, hc2, hc3⟩
            · exact Or.inl hc
            · refine Or.inr ⟨hc1, fun z => ?_⟩
              rcases z with z | ⟨p, p0, pS, pV, pok⟩
              · exact hc2 z
              · exact hc3 p (by omega) pS ⟨pV, pok⟩
          · rcases hc with hc | hc
            · exact Or.inl hc
            · omega
          · have hc' : can = 0 ∧ ¬ y_V (y_okS (J 149) r) n (m + 1) ∧ ∀ p : Nat, part < p → p &&& (m + 1) = p → ¬ (y_V (y_okS (J 149) r) n ((m + 1) ^^^ p) ∧ y_okS (J 149) r n p) := by
              rcases hc with hc | hc
              · omega
              · exact hc
            obtain ⟨hc1, hc2, hc3⟩ := hc'
            have p0 : part ≠ 0 := by omega
            have xl := y_xor_lt p0 hsub
            have tx := hT ((m + 1) ^^^ part) (by omega)
            have ex : T1 (((m + 1) ^^^ part : Nat) : Int) = T0 (((m + 1) ^^^ part : Nat) : Int) := h1 _ (by omega)
            have go : ¬ (y_V (y_okS (J 149) r) n ((m + 1) ^^^ part) ∧ y_okS (J 149) r n part) → Wp 25 [some (.inr (.inr (.ref 148))), some (.inl r), some (.inl (J 149 0 + n)), some (.inl N), some (.inl rm), some (.inl ((m + 1 : Nat) : Int)), some (.inl 0), some (.inl (z_and ((part : Int) - 1) ((m + 1 : Nat) : Int)))] [] (m_Ex g T, z_row J 153 T1, X) 0 0 := by
              intro hno
              rw [an p0]
              refine ihk _ 0 (by omega) ansub (Or.inr ⟨rfl, hc2, fun p hp hpS => ?_⟩)
              by_cases z : part < p
              · exact hc3 p z hpS
              · by_cases z2 : p = part
                · subst z2; exact hno
                · have := y_sub_next part (m + 1) p hsub hpS (by omega)
                  omega
            rw [z_xor_n (by omega) (by omega)]
            simp only [z_row_eq, ex]
            have r154 : ∀ j, (z_row J 153 T1) 154 j = P0 j := fun j => by rw [z_row_ne (by omega), j154]
            rw [r154, hP part (by omega)]
            refine ⟨by omega, fun c2 => ⟨by omega, go (fun z => ?_)⟩, fun c2 => ⟨by omega, fun c3 => ⟨by omega, go (fun z => ?_)⟩, fun c3 => ?_⟩⟩
            · rcases tx with t | t
              · omega
              · exact t.2 z.1
            · have := z.2.1
              rw [hN] at this
              omega
            · refine z_cI (c_mayGet (J := z_row J 153 T1) hb hr (by show part < 2 ^ y_N (J 149) r; rw [hN]; omega)) ⟨fun c4 => ⟨by omega, go (fun z => ?_)⟩, fun c4 => ⟨by omega, ?_⟩⟩
              · have z1 := z.2.2
                have c4 : y_b (y_may (J 149) r part (J 149 0 + n)) = 0 := c4
                rw [z1] at c4
                exact absurd c4 (by decide)
              · have c4 : y_b (y_may (J 149) r part (J 149 0 + n)) ≠ 0 := c4
                rw [y_b_1] at c4
                rw [an p0]
                refine ihk _ 1 (by omega) ansub (Or.inl ⟨rfl, Or.inr ⟨part, p0, hsub, ?_, by rw [hN]; omega, c4⟩⟩)
                rcases tx with t | t
                · exact t.2
                · exact absurd t.1 c2
      refine w_256_7 hs ?_
      simp only [z_row_eq, e1]
      refine ⟨fun c => by omega, fun c => ⟨by omega, ?_⟩⟩
      have := inner (m + 1) (m + 1) (T0 ((m + 1 : Nat) : Int)) (by omega) (Nat.and_self _) (by
        rcases Tm with t | t
        · exact Or.inl ⟨t.1, Or.inl t.2⟩
        · exact Or.inr ⟨t.1, t.2, fun p hp hpS => absurd hp (Nat.not_lt.mpr (hpS ▸ Nat.and_le_right))⟩)
      exact this
  refine w_256_0 hs ?_
  rw [z_shl_n N8]
  refine ⟨by omega, ?_⟩
  rw [show ((2 ^ N : Nat) : Int) - 1 = ((2 ^ N - 1 : Nat) : Int) by omega]
  exact outer (2 ^ N - 1) T0 (by omega) (fun _ _ => rfl) (fun S a1 a2 => by omega)
theorem c_findServed (hb : y_base (J 149)) {r : Int} (hr : 0 ≤ r ∧ r < J 149 1) : z_Sem l (d + 5) M_R_findServed [.inr (.inr (.ref 148)), .inl r] (m_Ex g T, J, X) 0 0 (z_rq (m_Ex g T) (fun v J' X' => X' = X ∧ y_to J (J 149) J' ∧ v = (y_sset (J 149) r : Nat))) := by
  have h1 := hb.1.2.1
  have h0 := hb.1.1
  have r3 := (hb.ride hr.1 hr.2).2.2.2.1
  have c13 := (hb.ride hr.1 hr.2).2.2.2.2.2.2.2.2.2.2.2
  have wl := (hb.2.1 r hr.1 hr.2).2.2.1
  obtain ⟨N, hN⟩ : ∃ N, y_N (J 149) r = N := ⟨_, rfl⟩
  have eN : min 8 (J 149 (10 + 14 * r + 13)) = (N : Int) := by rw [← hN]; unfold y_N; omega
  have N8 : N ≤ 8 := by rw [← hN]; exact y_N_b
  have b8 := y_pow8 N8
  have sh := z_shl_n N8
  have wsz : ∀ k : Nat, k < N → (1 ≤ J 149 (138 + 3 * J 149 (4564 + 50 * r + k) + 1) ∧ J 149 (138 + 3 * J 149 (4564 + 50 * r + k) + 1) ≤ 12) ∧ 0 ≤ J 149 (4564 + 50 * r + k) ∧ J 149 (4564 + 50 * r + k) < 50 := fun k hk => by
    have w := wl.1 k (by omega) (by omega)
    have := hb.party w.1 w.2
    omega
  have pb : ∀ (S k : Nat), k ≤ N → 0 ≤ y_prs (J 149) r S k ∧ y_prs (J 149) r S k ≤ 12 * k := fun S k hk => ⟨y_sum_nn (fun i hi => by unfold y_wsf; have := wsz i (by omega); split <;> omega), y_sum_le (fun i hi => by unfold y_wsf; have := wsz i (by omega); split <;> omega)⟩
  refine z_sem_of z_m255 m_ok_255 (Nat.le_of_ble_eq_true rfl) (fun Wp hs hv hS => ?_)
  -- the choice
  have last : ∀ (J1 : z_J) (T1 : Int → Int), J1 153 = T1 → y_to J (J 149) J1 → y_tab (y_okS (J 149) r) N (y_M (J 149) r) T1 → ∀ (m k : Nat), k + m = 2 ^ N - 1 → Wp 150 [some (.inr (.inr (.ref 148))), some (.inl r), some (.inl N), some (.inl (y_bst T1 k : Nat)), some (.inl (k + 1))] [] (m_Ex g T, J1, X) 0 0 := by
    intro J1 T1 j153 hto hT m
    induction m with
    | zero =>
      intro k hk
      refine w_255_150 hs ?_
      rw [sh]
      refine ⟨fun c => ⟨_, _, _, rfl, rfl, rfl, hto, ?_⟩, fun c => by omega⟩
      rw [← hN] at hT
      rw [← y_sset_eq hT, hN, show 2 ^ N - 1 = k by omega]
    | succ m ih =>
      intro k hk
      have le := y_bst_le (T := T1) (m := k)
      have nx := ih (k + 1) (by omega)
      rw [y_bst, show ((k + 1 : Nat) : Int) = (k : Int) + 1 from rfl] at nx
      have cb1 := c_bitCount (l := l) (d := d + 3) (g := g) (T := T) (J := J1) (X := X) (x := k + 1) (by omega)
      have cb2 := c_bitCount (l := l) (d := d + 3) (g := g) (T := T) (J := J1) (X := X) (x := y_bst T1 k) (by omega)
      refine w_255_150 hs ?_
      rw [sh, j153]
      refine ⟨fun c => by omega, fun c => ⟨by omega, fun c1 => ⟨by omega, ?_⟩, fun c1 => ?_⟩⟩
      · rw [if_neg (fun z => z.1 c1)] at nx
        exact nx
      · refine z_cI cb1 (z_cI cb2 ⟨fun c2 => ⟨by omega, ?_⟩, fun c2 => ⟨by omega, ?_⟩⟩)
        · rw [if_neg (fun z => by omega)] at nx
          exact nx
        · rw [if_pos ⟨c1, by omega⟩] at nx
          exact nx
  -- slot by slot
  have slots : ∀ (J0 : z_J) (P0 : Int → Int), J0 154 = P0 → J0 149 = J 149 → (∀ T9, y_to J (J 149) (z_row J0 153 T9)) → (∀ s, 0 ≤ s → s < 144 → J0 151 (144 * r + s) = y_free (J 149) r s) → (∀ S : Nat, S < 2 ^ N → P0 S = y_prs (J 149) r S N) → ∀ (m n : Nat) (T1 : Int → Int), n + m = y_M (J 149) r → y_tab (y_okS (J 149) r) N n T1 → Wp 110 [some (.inr (.inr (.ref 148))), some (.inl r), some (.inl N), some (.inl (J 149 0 + n)), none] [] (m_Ex g T, z_row J0 153 T1, X) 0 0 := by
    intro J0 P0 j154 j149 jto j151 hP m
    induction m with
    | zero =>
      intro n T1 hn hT
      have e149 : (z_row J0 153 T1) 149 = J 149 := by rw [z_row_ne (by omega), j149]
      refine w_255_110 hs ?_
      rw [e149]
      have hM : (y_M (J 149) r : Int) = n := by omega
      unfold y_M at hM
      refine ⟨by omega, fun c => ?_, fun c => by omega⟩
      have := last (z_row J0 153 T1) T1 z_row_eq (jto T1) (by rw [show y_M (J 149) r = n by omega]; exact hT) (2 ^ N - 1) 0 (by omega)
      exact this
    | succ m ih =>
      intro n T1 hn hT
      have e149 : (z_row J0 153 T1) 149 = J 149 := by rw [z_row_ne (by omega), j149]
      have e151 : (z_row J0 153 T1) 151 = J0 151 := z_row_ne (by omega)
      have hM : (y_M (J 149) r : Int) = n + (m + 1) := by omega
      unfold y_M at hM
      refine w_255_110 hs ?_
      rw [e149, e151]
      refine ⟨by omega, fun c => by omega, fun c => ⟨by omega, ?_⟩⟩
      rw [j151 _ (by omega) (by omega)]
      have cs := c_serveSlot (l := l) (d := d) (g := g) (T := T) (J := J0) (X := X) (r := r) (rm := y_free (J 149) r (J 149 0 + n)) (n := n) (N := N) (T0 := T1) (P0 := P0) (by rw [j149]; exact hb) (by rw [j149]; exact hr) (by rw [j149]; exact hN) (by rw [j149]; exact hT) (by rw [j149]; exact hP) (by rw [j149]) j154
      rw [j149] at cs
      refine z_cVq cs ?_
      rintro J2 X2 ⟨rfl, T2, rfl, hT2⟩
      refine ⟨by omega, ?_⟩
      have := ih (n + 1) T2 (by omega) hT2
      rw [show J 149 0 + ((n + 1 : Nat) : Int) = J 149 0 + n + 1 by omega] at this
      exact this
  -- the tables at the beginning
  have fill : ∀ (m k : Nat) (T1 P1 : Int → Int), k + m = 2 ^ N → (∀ S : Nat, S < k → T1 S = (if S = 0 then 1 else 0) ∧ P1 S = y_prs (J 149) r S N) → Wp 15 [some (.inr (.inr (.ref 148))), some (.inl r), some (.inl N), some (.inl k), none] [] (m_Ex g T, z_row (z_row J 153 T1) 154 P1, X) 0 0 := by
    intro m
    induction m with
    | zero =>
      intro k T1 P1 hk hf
      have cl := c_layLeft (l := l) (d := d) (g := g) (T := T) (J := z_row (z_row J 153 T1) 154 P1) (X := X) hb
      refine w_255_15 hs ?_
      rw [sh]
      refine ⟨fun c => z_cVq cl ?_, fun c => by omega⟩
      rintro J2 X2 ⟨rfl, f, rfl, hff⟩
      have key := slots (z_row (z_row J 154 P1) 151 f) P1 (by rw [z_row_ne (by omega), z_row_eq]) (by rw [z_row_ne (by omega), z_row_ne (by omega)]) (fun T9 => ⟨by rw [z_row_ne (by omega), z_row_ne (by omega), z_row_ne (by omega)], fun b a1 a2 => by rw [z_row_ne (by omega), z_row_ne (by omega), z_row_ne (by omega)]⟩) (fun s a1 a2 => by rw [z_row_eq]; exact hff r s hr.1 hr.2 a1 a2) (fun S hS => (hf S (by omega)).2) (y_M (J 149) r) 0 T1 (by omega) (fun S hS => by
        have := (hf S (by omega)).1
        by_cases z : S = 0
        · rw [if_pos z] at this
          exact Or.inl ⟨this, z⟩
        · rw [if_neg z] at this
          exact Or.inr ⟨this, z⟩)
      have eJ : z_row (z_row (z_row J 153 T1) 154 P1) 151 f = z_row (z_row (z_row J 154 P1) 151 f) 153 T1 := by
        funext b
        unfold z_row
        by_cases b1 : b = 151
        · subst b1; rfl
        · by_cases b2 : b = 154
          · subst b2; rfl
          · by_cases b3 : b = 153
            · subst b3; rfl
            · simp only [b1, b2, b3, if_false]
      rw [eJ]
      have e0 : (z_row (z_row (z_row J 154 P1) 151 f) 153 T1) 149 0 = J 149 0 := by rw [z_row_ne (by omega), z_row_ne (by omega), z_row_ne (by omega)]
      rw [e0]
      rw [show J 149 0 + ((0 : Nat) : Int) = J 149 0 by omega] at key
      exact key
    | succ m ih =>
      intro k T1 P1 hk hf
      have add : ∀ (i : Nat) (a : Nat) (P2 T2 : Int → Int), a + i = N → P2 k = y_prs (J 149) r k a → T2 k = (if k = 0 then 1 else 0) → (∀ S : Nat, S < k → T2 S = (if S = 0 then 1 else 0) ∧ P2 S = y_prs (J 149) r S N) → Wp 47 [some (.inr (.inr (.ref 148))), some (.inl r), some (.inl N), some (.inl k), some (.inl a)] [] (m_Ex g T, z_row (z_row J 153 T2) 154 P2, X) 0 0 := by
        intro i
        induction i with
        | zero =>
          intro a P2 T2 ha hp ht hf2
          refine w_255_47 hs ?_
          refine ⟨fun c => ⟨by omega, ih (k + 1) T2 P2 (by omega) (fun S hS => ?_)⟩, fun c => by omega⟩
          by_cases z : S = k
          · subst z; rw [hp, show a = N by omega]; exact ⟨ht, rfl⟩
          · exact hf2 S (by omega)
        | succ i ihi =>
          intro a P2 T2 ha hp ht hf2
          have bt := z_bit_n (a := k) (k := a) (by omega) (by omega)
          have w := wsz a (by omega)
          have pk := pb k a (by omega)
          have e149 : (z_row (z_row J 153 T2) 154 P2) 149 = J 149 := by rw [z_row_ne (by omega), z_row_ne (by omega)]
          refine w_255_47 hs ?_
          rw [bt, e149]
          simp only [z_row_eq, hp, z_u_zrow]
          refine ⟨fun c => by omega, fun c => ⟨by omega, fun c1 => ⟨by omega, ?_⟩, fun c1 => ⟨by omega, ?_⟩⟩⟩
          · have e : k.testBit a = false := by
              cases h : k.testBit a
              · rfl
              · rw [h] at c1; exact absurd rfl c1
            refine ihi (a + 1) _ T2 (by omega) ?_ ht (fun S hS => ⟨(hf2 S hS).1, by rw [z_up_ne (by omega)]; exact (hf2 S hS).2⟩)
            rw [z_up_eq rfl, y_prs, y_prs, y_sum, y_wsf, show ((a : Int)).toNat = a by omega, e, if_neg (by decide)]
          · have e : k.testBit a = true := by
              cases h : k.testBit a
              · rw [h] at c1; exact absurd c1 (by decide)
              · rfl
            refine ihi (a + 1) _ T2 (by omega) ?_ ht (fun S hS => ⟨(hf2 S hS).1, by rw [z_up_ne (by omega)]; exact (hf2 S hS).2⟩)
            rw [z_up_eq rfl, y_prs, y_prs, y_sum, y_wsf, show ((a : Int)).toNat = a by omega, e, if_pos rfl]
      have e0 : ∀ (v : Int), z_u (z_u (z_row (z_row J 153 T1) 154 P1) 153 k v) 154 k 0 = z_row (z_row J 153 (z_up T1 k v)) 154 (z_up P1 k 0) := by
        intro v
        funext b
        by_cases b1 : b = 154
        · subst b1; rw [z_u_row, z_u_ne (by omega), z_row_eq, z_row_eq]
        · rw [z_u_ne b1, z_row_ne b1]
          by_cases b2 : b = 153
          · subst b2; rw [z_u_row, z_row_ne (by omega), z_row_eq, z_row_eq]
          · rw [z_u_ne b2, z_row_ne b1, z_row_ne b2, z_row_ne b2]
      refine w_255_15 hs ?_
      rw [sh, e0, e0]
      refine ⟨fun c => by omega, fun c => ⟨fun c1 => ⟨by omega, ?_⟩, fun c1 => ⟨by omega, ?_⟩⟩⟩
      · exact add N 0 _ _ (by omega) (by rw [z_up_eq rfl]; rfl) (by rw [z_up_eq rfl, if_neg (by omega)]) (fun S hS => by rw [z_up_ne (by omega), z_up_ne (by omega)]; exact hf S hS)
      · exact add N 0 _ _ (by omega) (by rw [z_up_eq rfl]; rfl) (by rw [z_up_eq rfl, if_pos (by omega)]) (fun S hS => by rw [z_up_ne (by omega), z_up_ne (by omega)]; exact hf S hS)
  refine w_255_0 hs ?_
  rw [eN]
  refine ⟨by omega, ?_⟩
  have := fill (2 ^ N) 0 (J 153) (J 154) (by omega) (fun S hS => by omega)
  have e : z_row (z_row J 153 (J 153)) 154 (J 154) = J := by
    have : J 154 = (z_row J 153 (J 153)) 154 := by rw [z_row_ne (by omega)]
    rw [this, z_row_self, z_row_self]
  rw [e] at this
  exact this
theorem p_servedSet (hb : y_base (J 149)) {r : Int} : z_Sem l (d + 6) M_R_servedSet [.inr (.inr (.ref 148)), .inl r] (m_Ex g T, J, X) 0 0 (z_rq (m_Ex g T) (fun v J' X' => X' = X ∧ y_tp J (J 149) (o_servedSet (J 149) r).1 J' ∧ v = (o_servedSet (J 149) r).2)) := by
  obtain ⟨h0, h1, h2, h3, h4, h5⟩ := hb.1
  have bad : ¬ (0 ≤ r ∧ r < J 149 1) → z_rq (m_Ex g T) (fun v J' X' => X' = X ∧ y_tp J (J 149) (o_servedSet (J 149) r).1 J' ∧ v = (o_servedSet (J 149) r).2) (.inl (some (.inl 0))) (m_Ex g T, z_u (z_u J 148 2 0) 148 2 1, X) := by
    intro hn
    rw [o_servedSet, y_need_n hn]
    exact ⟨_, _, _, rfl, rfl, rfl, y_tp.th, rfl⟩
  refine z_sem_of z_m259 m_ok_259 (Nat.le_of_ble_eq_true rfl) (fun Wp hs hv hS => ?_)
  refine w_259_0 hs ?_
  refine ⟨by omega, fun c => bad (by omega), fun c => ⟨fun c1 => bad (by omega), fun c1 => z_cIq (c_findServed (J := z_u J 148 2 0) hb ⟨c, show r < J 149 1 by omega⟩) ?_⟩⟩
  rintro v J2 X2 ⟨rfl, f2, rfl⟩
  rw [o_servedSet, y_need_2 (by omega)]
  exact ⟨_, _, _, rfl, rfl, rfl, f2.tp, rfl⟩
theorem p_mostServed (hb : y_base (J 149)) {r : Int} : z_Sem l (d + 6) M_R_mostServed [.inr (.inr (.ref 148)), .inl r] (m_Ex g T, J, X) 0 0 (z_rq (m_Ex g T) (fun v J' X' => X' = X ∧ y_tp J (J 149) (o_mostServed (J 149) r).1 J' ∧ v = (o_mostServed (J 149) r).2)) := by
  obtain ⟨h0, h1, h2, h3, h4, h5⟩ := hb.1
  have bad : ¬ (0 ≤ r ∧ r < J 149 1) → z_rq (m_Ex g T) (fun v J' X' => X' = X ∧ y_tp J (J 149) (o_mostServed (J 149) r).1 J' ∧ v = (o_mostServed (J 149) r).2) (.inl (some (.inl 0))) (m_Ex g T, z_u (z_u J 148 2 0) 148 2 1, X) := by
    intro hn
    rw [o_mostServed, y_need_n hn]
    exact ⟨_, _, _, rfl, rfl, rfl, y_tp.th, rfl⟩
  refine z_sem_of z_m254 m_ok_254 (Nat.le_of_ble_eq_true rfl) (fun Wp hs hv hS => ?_)
  refine w_254_0 hs ?_
  refine ⟨by omega, fun c => bad (by omega), fun c => ⟨fun c1 => bad (by omega), fun c1 => z_cIq (c_findServed (J := z_u J 148 2 0) hb ⟨c, show r < J 149 1 by omega⟩) ?_⟩⟩
  rintro v J2 X2 ⟨rfl, f2, rfl⟩
  refine z_cI (c_bitCount y_sset_lt) ?_
  rw [o_mostServed, y_need_2 (by omega)]
  exact ⟨_, _, _, rfl, rfl, rfl, f2.tp, rfl⟩
end R20
