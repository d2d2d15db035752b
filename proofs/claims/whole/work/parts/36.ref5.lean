/-! the reference: tickets of a party, the checks of issuing -/
def a_act (p : Nat → Nat) (t q : Nat) : Prop := p_tk p t 0 = q ∧ p_tk p t 5 = 0
theorem m_b1 {p : Prop} [Decidable p] : m_b p = 1 ↔ p := by
  by_cases h : p
  · rw [m_b_t h]; exact ⟨fun _ => h, fun _ => rfl⟩
  · rw [m_b_f h]; exact ⟨fun z => absurd z (by decide), fun z => absurd z h⟩
def d_act (p : Nat → Nat) (t q : Nat) : Bool := decide (p_tk p t 0 = q ∧ p_tk p t 5 = 0)
def f_act (p : Nat → Nat) (q : Nat) : Nat → Nat
  | 0 => 0
  | t + 1 => f_act p q t + (if d_act p t q = true then 1 else 0)
def f_has (p : Nat → Nat) (q r : Nat) : Nat → Bool
  | 0 => false
  | t + 1 => f_has p q r t || (d_act p t q && decide (p_tk p t 1 = r))
theorem f_act_le {p : Nat → Nat} {q : Nat} : ∀ n, f_act p q n ≤ n
  | 0 => Nat.le_refl _
  | n + 1 => by
    have := f_act_le (p := p) (q := q) n
    rw [f_act]
    split <;> omega
section R6
variable {l : Launch} {d : Nat} {g : List (Option Nat)} {T : m_E} {I : m_I} {X : m_X} {p : Nat → Nat}
theorem r_tk (hrel : r_rel 0 p (I 149)) {t w : Nat} (ht : t < 150) (hw : w < 6) : I 149 (288 + 6 * t + w) = nI (p_tk p t w) := r_rel_n hrel (by omega) (by omega)
theorem r_c (hrel : r_rel 0 p (I 149)) {k : Nat} (hk : k < 10) : I 149 k = nI (p k) := r_rel_n hrel (by omega) (by omega)
theorem s_isActiveOf (hrel : r_rel 0 p (I 149)) (hb : v_base p) {t q : Nat} (ht : t < p 5) (hq : q < 1000) : m_Sem l (d + 2) M_R_isActiveOf [.ref 148, .int (nI t), .int (nI q)] (m_Ex g T, I, X) 0 0 (m_ans (.int (m_b (d_act p t q = true))) (m_Ex g T, I, X)) := by
  have b := hb.start ht
  have ht2 : t < 150 := Nat.lt_of_lt_of_le ht hb.1.2.2.2.2.2
  refine m_sem_of m_okall rfl m_ok_224 (Nat.le_of_ble_eq_true rfl) (fun Wp hs => ?_)
  refine hs 80 [] 0 _ _ _ _ _ ?_
  refine ⟨0, 0, _, s_ofTicket (t := t) (w := 0) ht2 (by omega), Nat.zero_le _, Nat.zero_le _, ?_⟩; rintro _ _ ⟨rfl, rfl⟩
  rw [r_tk hrel ht2 (w := 0) (by omega)]
  refine ⟨fun (c : nI (p_tk p t 0) = nI q) => ?_, fun (c : ¬ nI (p_tk p t 0) = nI q) => ⟨rfl, ?_, rfl⟩⟩
  · rw [nI_eq (by omega) (by omega)] at c
    refine ⟨0, 0, _, s_ofTicket (t := t) (w := 5) ht2 (by omega), Nat.zero_le _, Nat.zero_le _, ?_⟩; rintro _ _ ⟨rfl, rfl⟩
    rw [r_tk hrel ht2 (w := 5) (by omega)]
    refine ⟨fun (c2 : nI (p_tk p t 5) = 0) => ⟨rfl, ?_, rfl⟩, fun (c2 : ¬ nI (p_tk p t 5) = 0) => ⟨rfl, ?_, rfl⟩⟩
    · rw [show (0 : Int32) = nI 0 from rfl, nI_eq (by omega) (by omega)] at c2
      rw [m_b_t]
      simp [d_act, c, c2]
    · rw [show (0 : Int32) = nI 0 from rfl, nI_eq (by omega) (by omega)] at c2
      rw [m_b_f]
      simp [d_act, c2]
  · rw [nI_eq (by omega) (by omega)] at c
    rw [m_b_f]
    simp [d_act, c]
theorem s_activeOf (hrel : r_rel 0 p (I 149)) (hb : v_base p) {q : Nat} (hq : q < 1000) : m_Sem l (d + 3) M_R_activeOf [.ref 148, .int (nI q)] (m_Ex g T, I, X) 0 0 (m_ans (.int (nI (f_act p q (p 5)))) (m_Ex g T, I, X)) := by
  have h150 := hb.1.2.2.2.2.2
  refine m_sem_of m_okall rfl m_ok_225 (Nat.le_of_ble_eq_true rfl) (fun Wp hs => ?_)
  have h5 : I 149 5 = nI (p 5) := r_c hrel (by omega)
  have loop : ∀ n t (i a : Int32), t + n = p 5 → i = nI t → a = nI (f_act p q t) → Wp 4 [some (.ref 148), some (.int (nI q)), some (.int a), some (.int i)] [] (m_Ex g T, I, X) 0 0 := by
    intro n
    induction n with
    | zero =>
      intro t i a ht hi ha
      refine hs 80 [(4, 4)] 4 _ _ _ _ _ ?_
      refine ⟨vp_in_nI (n := 5) (by omega) (by omega), fun _ => ⟨?_, rfl⟩, fun (c : ¬ I 149 5 ≤ i) => absurd ?_ c⟩
      · rw [ha, show t = p 5 by omega]
      · rw [h5, hi]; exact nI_le (by omega) (by omega)
    | succ n ih =>
      intro t i a ht hi ha
      subst hi
      refine hs 80 [(4, 4)] 4 _ _ _ _ _ ?_
      refine ⟨vp_in_nI (n := 5) (by omega) (by omega), fun (c : I 149 5 ≤ nI t) => absurd c ?_, fun _ => ?_⟩
      · rw [h5]; exact nI_ge (by omega) (by omega)
      refine ⟨0, 0, _, s_isActiveOf hrel hb (t := t) (q := q) (by omega) hq, Nat.zero_le _, Nat.zero_le _, ?_⟩; rintro _ _ ⟨rfl, rfl⟩
      refine ⟨fun (c : m_b _ = 0) => ih (t + 1) _ _ (by omega) (nI_1 t) ?_, fun (c : ¬ m_b _ = 0) => ih (t + 1) _ _ (by omega) (nI_1 t) ?_⟩
      · rw [m_b_0] at c
        rw [ha, f_act, if_neg c]
        exact nI_add _ 0
      · rw [m_b_0] at c
        rw [ha, f_act, if_pos (Decidable.not_not.mp c)]
        exact nI_1 _
  exact hs 10 [(4, 4)] 0 _ _ _ _ _ (loop (p 5) 0 _ _ (by omega) rfl rfl)
theorem s_hasActive (hrel : r_rel 0 p (I 149)) (hb : v_base p) {q r : Nat} (hq : q < 1000) (hr : r < 1000) : m_Sem l (d + 3) M_R_hasActive [.ref 148, .int (nI q), .int (nI r)] (m_Ex g T, I, X) 0 0 (m_ans (.int (m_b (f_has p q r (p 5) = true))) (m_Ex g T, I, X)) := by
  have h150 := hb.1.2.2.2.2.2
  refine m_sem_of m_okall rfl m_ok_223 (Nat.le_of_ble_eq_true rfl) (fun Wp hs => ?_)
  have h5 : I 149 5 = nI (p 5) := r_c hrel (by omega)
  have mono : ∀ n t, f_has p q r t = true → f_has p q r (t + n) = true := by
    intro n
    induction n with
    | zero => exact fun _ h => h
    | succ n ih =>
      intro t h
      rw [show t + (n + 1) = (t + n) + 1 by omega, f_has, ih t h]
      rfl
  have loop : ∀ n t (i : Int32), t + n = p 5 → i = nI t → f_has p q r t = false → Wp 2 [some (.ref 148), some (.int (nI q)), some (.int (nI r)), some (.int i)] [] (m_Ex g T, I, X) 0 0 := by
    intro n
    induction n with
    | zero =>
      intro t i ht hi ha
      refine hs 80 [(2, 4)] 2 _ _ _ _ _ ?_
      refine ⟨vp_in_nI (n := 5) (by omega) (by omega), fun _ => ⟨rfl, ?_, rfl⟩, fun (c : ¬ I 149 5 ≤ i) => absurd ?_ c⟩
      · rw [show p 5 = t by omega, m_b_f (by rw [ha]; decide)]
      · rw [h5, hi]; exact nI_le (by omega) (by omega)
    | succ n ih =>
      intro t i ht hi ha
      subst hi
      have b := hb.start (t := t) (by omega)
      refine hs 80 [(2, 4)] 2 _ _ _ _ _ ?_
      refine ⟨vp_in_nI (n := 5) (by omega) (by omega), fun (c : I 149 5 ≤ nI t) => absurd c ?_, fun _ => ?_⟩
      · rw [h5]; exact nI_ge (by omega) (by omega)
      refine ⟨0, 0, _, s_isActiveOf hrel hb (t := t) (q := q) (by omega) hq, Nat.zero_le _, Nat.zero_le _, ?_⟩; rintro _ _ ⟨rfl, rfl⟩
      refine ⟨fun (c : m_b _ = 0) => ih (t + 1) _ (by omega) (nI_1 t) ?_, fun (c : ¬ m_b _ = 0) => ?_⟩
      · rw [m_b_0] at c
        rw [f_has, ha]; simp [c]
      · rw [m_b_0] at c
        refine ⟨0, 0, _, s_ofTicket (t := t) (w := 1) (by omega) (by omega), Nat.zero_le _, Nat.zero_le _, ?_⟩; rintro _ _ ⟨rfl, rfl⟩
        rw [r_tk hrel (t := t) (w := 1) (by omega) (by omega)]
        refine ⟨fun (c2 : nI (p_tk p t 1) = nI r) => ⟨rfl, ?_, rfl⟩, fun (c2 : ¬ nI (p_tk p t 1) = nI r) => ih (t + 1) _ (by omega) (nI_1 t) ?_⟩
        · rw [nI_eq (by omega) (by omega)] at c2
          rw [m_b_t]
          have h1 : f_has p q r (t + 1) = true := by
            rw [f_has]; simp [Decidable.not_not.mp c, c2]
          have := mono n (t + 1) h1
          rw [show t + 1 + n = p 5 by omega] at this
          exact this
        · rw [nI_eq (by omega) (by omega)] at c2
          rw [f_has, ha]; simp [c2]
  exact hs 10 [(2, 4)] 0 _ _ _ _ _ (loop (p 5) 0 _ (by omega) rfl rfl)
theorem s_ofTier (hrel : r_rel 0 p (I 149)) (hb : v_base p) {q w : Nat} (hq : q < p 3) (hw : w < 4) : m_Sem l (d + 1) M_R_ofTier [.ref 148, .int (nI q), .int (nI w)] (m_Ex g T, I, X) 0 0 (m_ans (.int (nI (p_tier p (p_party p q 0) w))) (m_Ex g T, I, X)) := by
  have hq50 : q < 50 := Nat.lt_of_lt_of_le hq hb.1.2.2.2.1
  have ht4 : p_party p q 0 < 4 := Nat.lt_of_lt_of_le (hb.2.2.2.1 q hq).1 hb.1.2.2.1
  have e1 : (138 : Int32) + 3 * nI q + 0 = nI (138 + 3 * q + 0) := by
    rw [nI_lit, nI_lit, nI_lit, pk_mul, nI_add, nI_add]; rfl
  have v1 : I 149 ((138 : Int32) + 3 * nI q + 0).toNatClampNeg = nI (p_party p q 0) := by
    rw [e1, nI_clamp (by omega)]
    exact r_rel_n hrel (by omega) (by omega)
  have e2 : (122 : Int32) + 4 * I 149 ((138 : Int32) + 3 * nI q + 0).toNatClampNeg + nI w = nI (122 + 4 * p_party p q 0 + w) := by
    rw [v1, nI_lit, nI_lit, pk_mul, nI_add, nI_add]
  refine m_sem_of m_okall rfl m_ok_226 (Nat.le_of_ble_eq_true rfl) (fun Wp hs => ?_)
  refine hs 80 [] 0 _ _ _ _ _ ?_
  have i1 : vp_in ((138 : Int32) + 3 * nI q + 0) 24820 := by rw [e1]; exact vp_in_nI (by omega) (by omega)
  have i2 : vp_in ((122 : Int32) + 4 * I 149 ((138 : Int32) + 3 * nI q + 0).toNatClampNeg + nI w) 24820 := by rw [e2]; exact vp_in_nI (by omega) (by omega)
  refine ⟨i1, i2, ?_, rfl⟩
  show Sum.inl (some (Value.int (I 149 ((122 : Int32) + 4 * I 149 ((138 : Int32) + 3 * nI q + 0).toNatClampNeg + nI w).toNatClampNeg))) = _
  rw [e2, nI_clamp (by omega), r_rel_n hrel (k := 122 + 4 * p_party p q 0 + w) (by omega) (by omega)]
end R6
