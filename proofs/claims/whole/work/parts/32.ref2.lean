/-! the reference's block: its values as plain numbers -/
/-- the places that hold 'the slot in which a ticket was last issued, NONE before': one more is kept -/
def r_iss (k : Nat) : Bool := decide (138 ≤ k ∧ k < 288 ∧ (k - 138) % 3 = 2)
def r_enc (k n : Nat) : Int32 := if r_iss k = true then nI n - 1 else nI n
/-- a block of the array R that begins at o holds the numbers p -/
def r_rel (o : Nat) (p : Nat → Nat) (R : Nat → Int32) : Prop := ∀ k, k < 4964 → R (o + k) = r_enc k (p k)
theorem r_enc_n {k n : Nat} (h : ¬ (138 ≤ k ∧ k < 288 ∧ (k - 138) % 3 = 2)) : r_enc k n = nI n := by
  unfold r_enc r_iss
  rw [if_neg (by simpa using h)]
theorem r_rel_n {p : Nat → Nat} {R : Nat → Int32} (h : r_rel 0 p R) {k : Nat} (hk : k < 4964) (hn : ¬ (138 ≤ k ∧ k < 288 ∧ (k - 138) % 3 = 2)) : R k = nI (p k) := by
  have h1 := h k hk
  rw [Nat.zero_add, r_enc_n hn] at h1
  exact h1
-- names of places
abbrev p_now (p : Nat → Nat) : Nat := p 0
abbrev p_rides (p : Nat → Nat) : Nat := p 1
abbrev p_tiers (p : Nat → Nat) : Nat := p 2
abbrev p_parties (p : Nat → Nat) : Nat := p 3
abbrev p_ext (p : Nat → Nat) : Nat := p 4
abbrev p_tix (p : Nat → Nat) : Nat := p 5
abbrev p_ride (p : Nat → Nat) (r w : Nat) : Nat := p (10 + 14 * r + w)
abbrev p_tier (p : Nat → Nat) (t w : Nat) : Nat := p (122 + 4 * t + w)
abbrev p_party (p : Nat → Nat) (q w : Nat) : Nat := p (138 + 3 * q + w)
abbrev p_tk (p : Nat → Nat) (t w : Nat) : Nat := p (288 + 6 * t + w)
section R2
variable {l : Launch} {d : Nat} {g : List (Option Nat)} {T : m_E} {I : m_I} {X : m_X}
theorem s_ofTicket {t w : Nat} (ht : t < 150) (hw : w < 6) : m_Sem l (d + 1) M_R_ofTicket [.ref 148, .int (nI t), .int (nI w)] (m_Ex g T, I, X) 0 0 (m_ans (.int (I 149 (288 + 6 * t + w))) (m_Ex g T, I, X)) := by
  have e : (288 : Int32) + 6 * nI t + nI w = nI (288 + 6 * t + w) := by
    rw [nI_lit, nI_lit, pk_mul, nI_add, nI_add]
  refine m_sem_of m_okall rfl m_ok_215 (Nat.le_of_ble_eq_true rfl) (fun Wp hs => ?_)
  refine hs 30 [] 0 _ _ _ _ _ ?_
  have h1 : vp_in ((288 : Int32) + 6 * nI t + nI w) 24820 := by rw [e]; exact vp_in_nI (by omega) (by omega)
  refine ⟨h1, ?_, rfl⟩
  show Sum.inl (some (Value.int (I 149 ((288 : Int32) + 6 * nI t + nI w).toNatClampNeg))) = _
  rw [e, nI_clamp (by omega)]
theorem s_size {q : Nat} (hq : q < 50) : m_Sem l (d + 1) M_R_size [.ref 148, .int (nI q)] (m_Ex g T, I, X) 0 0 (m_ans (.int (I 149 (138 + 3 * q + 1))) (m_Ex g T, I, X)) := by
  have e : (138 : Int32) + 3 * nI q + 1 = nI (138 + 3 * q + 1) := by
    rw [nI_lit, nI_lit, pk_mul, nI_add, nI_1]
  refine m_sem_of m_okall rfl m_ok_205 (Nat.le_of_ble_eq_true rfl) (fun Wp hs => ?_)
  refine hs 30 [] 0 _ _ _ _ _ ?_
  have h1 : vp_in ((138 : Int32) + 3 * nI q + 1) 24820 := by rw [e]; exact vp_in_nI (by omega) (by omega)
  refine ⟨h1, ?_, rfl⟩
  show Sum.inl (some (Value.int (I 149 ((138 : Int32) + 3 * nI q + 1).toNatClampNeg))) = _
  rw [e, nI_clamp (by omega)]
/-- persons charged to a slot by the first n tickets -/
def f_charged (p : Nat → Nat) (r s : Nat) : Nat → Nat
  | 0 => 0
  | t + 1 => f_charged p r s t + (if p_tk p t 1 = r ∧ p_tk p t 2 = s ∧ p_tk p t 5 ≠ 3 then p_party p (p_tk p t 0) 1 else 0)
set_option maxRecDepth 4000 in
theorem s_chargedIn {p : Nat → Nat} {r s : Nat} (hrel : r_rel 0 p (I 149)) (hn : p_tix p ≤ 150) (hr : r < 1000) (hs0 : s < 1000) (hv : ∀ t, t < p_tix p → p_tk p t 0 < 50 ∧ p_tk p t 1 < 1000 ∧ p_tk p t 2 < 1000 ∧ p_tk p t 5 < 1000) : m_Sem l (d + 2) M_R_chargedIn [.ref 148, .int (nI r), .int (nI s)] (m_Ex g T, I, X) 0 0 (m_ans (.int (nI (f_charged p r s (p_tix p)))) (m_Ex g T, I, X)) := by
  refine m_sem_of m_okall rfl m_ok_214 (Nat.le_of_ble_eq_true rfl) (fun Wp hs => ?_)
  have h5 : I 149 5 = nI (p_tix p) := r_rel_n hrel (by omega) (by omega)
  have loop : ∀ n t (i a : Int32), t + n = p_tix p → i = nI t → a = nI (f_charged p r s t) → Wp 5 [some (.ref 148), some (.int (nI r)), some (.int (nI s)), some (.int a), some (.int i)] [] (m_Ex g T, I, X) 0 0 := by
    intro n
    induction n with
    | zero =>
      intro t i a ht hi ha
      refine hs 60 [(5, 5)] 5 _ _ _ _ _ ?_
      refine ⟨vp_in_nI (n := 5) (by omega) (by omega), fun _ => ⟨?_, rfl⟩, fun (c : ¬ I 149 5 ≤ i) => absurd ?_ c⟩
      · rw [ha, show t = p_tix p by omega]
      · rw [h5, hi]; exact nI_le (by omega) (by omega)
    | succ n ih =>
      intro t i a ht hi ha
      subst hi
      obtain ⟨v0, v1, v2, v5⟩ := hv t (by omega)
      have e1 : I 149 (288 + 6 * t + 1) = nI (p_tk p t 1) := r_rel_n hrel (by omega) (by omega)
      have e2 : I 149 (288 + 6 * t + 2) = nI (p_tk p t 2) := r_rel_n hrel (by omega) (by omega)
      have e5 : I 149 (288 + 6 * t + 5) = nI (p_tk p t 5) := r_rel_n hrel (by omega) (by omega)
      have e0 : I 149 (288 + 6 * t + 0) = nI (p_tk p t 0) := r_rel_n hrel (by omega) (by omega)
      have es : I 149 (138 + 3 * p_tk p t 0 + 1) = nI (p_party p (p_tk p t 0) 1) := r_rel_n hrel (by omega) (by omega)
      refine hs 60 [(5, 5)] 5 _ _ _ _ _ ?_
      refine ⟨vp_in_nI (n := 5) (by omega) (by omega), fun (c : I 149 5 ≤ nI t) => absurd c ?_, fun _ => ?_⟩
      · rw [h5]; exact nI_ge (by omega) (by omega)
      refine ⟨0, 0, _, s_ofTicket (t := t) (w := 1) (by omega) (by omega), Nat.zero_le _, Nat.zero_le _, ?_⟩; rintro _ _ ⟨rfl, rfl⟩
      refine ⟨fun (c1 : I 149 (288 + 6 * t + 1) = nI r) => ?_, fun (c1 : ¬ I 149 (288 + 6 * t + 1) = nI r) => ih (t + 1) _ _ (by omega) (nI_1 t) ?_⟩
      rotate_left
      · rw [e1, nI_eq (by omega) (by omega)] at c1
        rw [ha, f_charged, if_neg (fun h => c1 h.1)]; rfl
      rw [e1, nI_eq (by omega) (by omega)] at c1
      refine ⟨0, 0, _, s_ofTicket (t := t) (w := 2) (by omega) (by omega), Nat.zero_le _, Nat.zero_le _, ?_⟩; rintro _ _ ⟨rfl, rfl⟩
      refine ⟨fun (c2 : I 149 (288 + 6 * t + 2) = nI s) => ?_, fun (c2 : ¬ I 149 (288 + 6 * t + 2) = nI s) => ih (t + 1) _ _ (by omega) (nI_1 t) ?_⟩
      rotate_left
      · rw [e2, nI_eq (by omega) (by omega)] at c2
        rw [ha, f_charged, if_neg (fun h => c2 h.2.1)]; rfl
      rw [e2, nI_eq (by omega) (by omega)] at c2
      refine ⟨0, 0, _, s_ofTicket (t := t) (w := 5) (by omega) (by omega), Nat.zero_le _, Nat.zero_le _, ?_⟩; rintro _ _ ⟨rfl, rfl⟩
      refine ⟨fun (c3 : I 149 (288 + 6 * t + 5) = 3) => ih (t + 1) _ _ (by omega) (nI_1 t) ?_, fun (c3 : ¬ I 149 (288 + 6 * t + 5) = 3) => ?_⟩
      · rw [e5, show (3 : Int32) = nI 3 from rfl, nI_eq (by omega) (by omega)] at c3
        rw [ha, f_charged, if_neg (fun h => h.2.2 c3)]; rfl
      rw [e5, show (3 : Int32) = nI 3 from rfl, nI_eq (by omega) (by omega)] at c3
      refine ⟨0, 0, _, s_ofTicket (t := t) (w := 0) (by omega) (by omega), Nat.zero_le _, Nat.zero_le _, ?_⟩; rintro _ _ ⟨rfl, rfl⟩
      rw [e0]
      refine ⟨0, 0, _, s_size (q := p_tk p t 0) v0, Nat.zero_le _, Nat.zero_le _, ?_⟩; rintro _ _ ⟨rfl, rfl⟩
      refine ih (t + 1) _ _ (by omega) (nI_1 t) ?_
      rw [ha, es, f_charged, if_pos ⟨c1, c2, c3⟩]
      exact nI_add _ _
  exact hs 10 [(5, 5)] 0 _ _ _ _ _ (loop (p_tix p) 0 _ _ (by omega) rfl rfl)
end R2
