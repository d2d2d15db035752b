/-! what always holds of a block of the reference: the bounds that the document names -/
def v_ride (p : Nat → Nat) (r : Nat) : Prop := 1 ≤ p_ride p r 0 ∧ p_ride p r 0 ≤ 200 ∧ p_ride p r 1 ≤ 100 ∧ 1 ≤ p_ride p r 2 ∧ p_ride p r 2 ≤ 24 ∧ p_ride p r 3 ≤ p_ride p r 4 ∧ p_ride p r 4 ≤ 143 ∧ p_ride p r 5 ≤ 1 ∧ p_ride p r 6 ≤ 150 ∧ p_ride p r 7 ≤ 60 ∧ p_ride p r 12 ≤ 144 ∧ p_ride p r 13 ≤ 50
def v_tier (p : Nat → Nat) (t : Nat) : Prop := 1 ≤ p_tier p t 0 ∧ p_tier p t 0 ≤ 5 ∧ 1 ≤ p_tier p t 1 ∧ p_tier p t 1 ≤ 144 ∧ p_tier p t 2 ≤ 48 ∧ p_tier p t 3 ≤ 9
def v_party (p : Nat → Nat) (q : Nat) : Prop := p_party p q 0 < p 2 ∧ 1 ≤ p_party p q 1 ∧ p_party p q 1 ≤ 12 ∧ p_party p q 2 ≤ 145
def v_tk (p : Nat → Nat) (t : Nat) : Prop := p_tk p t 0 < p 3 ∧ p_tk p t 1 < p 1 ∧ p_ride p (p_tk p t 1) 3 ≤ p_tk p t 2 ∧ p_tk p t 2 ≤ p_ride p (p_tk p t 1) 4 ∧ p_tk p t 2 ≤ p_tk p t 3 ∧ p_tk p t 3 ≤ p_tk p t 2 + 23 + p_tk p t 4 ∧ p_tk p t 4 ≤ 48 ∧ p_tk p t 5 ≤ 4
def v_base (p : Nat → Nat) : Prop := (p 0 ≤ 144 ∧ p 1 ≤ 8 ∧ p 2 ≤ 4 ∧ p 3 ≤ 50 ∧ p 4 ≤ 48 ∧ p 5 ≤ 150) ∧ (∀ r, r < p 1 → v_ride p r) ∧ (∀ t, t < p 2 → v_tier p t) ∧ (∀ q, q < p 3 → v_party p q) ∧ (∀ t, t < p 5 → v_tk p t)
theorem v_base.start {p : Nat → Nat} (h : v_base p) {t : Nat} (ht : t < p 5) : p_tk p t 0 < 50 ∧ p_tk p t 1 < 8 ∧ p_tk p t 2 ≤ 143 ∧ p_tk p t 3 ≤ 214 ∧ p_tk p t 4 ≤ 48 ∧ p_tk p t 5 ≤ 4 := by
  obtain ⟨⟨b0, b1, b2, b3, b4, b5⟩, hr, -, -, hk⟩ := h
  obtain ⟨k1, k2, k3, k4, k5, k6, k7, k8⟩ := hk t ht
  obtain ⟨-, -, -, -, -, -, r7, -⟩ := hr _ k2
  exact ⟨by omega, by omega, by omega, by omega, by omega, by omega⟩
theorem f_charged_le {p : Nat → Nat} (h : v_base p) {r s : Nat} : ∀ {n : Nat}, n ≤ p 5 → f_charged p r s n ≤ 12 * n
  | 0, _ => Nat.le_refl _
  | n + 1, hn => by
    have h1 := f_charged_le h (r := r) (s := s) (n := n) (by omega)
    have h2 := h.2.2.2.1 _ (h.2.2.2.2 n (by omega)).1
    rw [f_charged]
    split
    · have := h2.2.2.1
      omega
    · omega
def f_pw (p : Nat → Nat) (r sh s : Nat) : Nat := if p_ride p r 3 ≤ s ∧ s ≤ p_ride p r 4 then p_ride p r 0 * sh / 100 else 0
def f_planned (p : Nat → Nat) (r s : Nat) : Nat := f_pw p r (p_ride p r 1) s
section R5
variable {l : Launch} {d : Nat} {g : List (Option Nat)} {T : m_E} {I : m_I} {X : m_X} {p : Nat → Nat}
theorem r_ride (hrel : r_rel 0 p (I 149)) {r w : Nat} (hr : r < 8) (hw : w < 14) : I 149 (10 + 14 * r + w) = nI (p_ride p r w) := r_rel_n hrel (by omega) (by omega)
theorem m_b_iff {p q : Prop} [Decidable p] [Decidable q] (h : p ↔ q) : m_b p = m_b q := by
  by_cases hp : p
  · rw [m_b_t hp, m_b_t (h.mp hp)]
  · rw [m_b_f hp, m_b_f (fun z => hp (h.mpr z))]
theorem m_ixr {a b s : Nat} (ha : a < 2 ^ 20) (hb : b < 2 ^ 20) (hs : s < 2 ^ 20) : m_b (nI a ≤ nI s ∧ nI s ≤ nI b) = m_b (a ≤ s ∧ s ≤ b) := by
  exact m_b_iff (and_congr (nI_leI (by omega) (by omega)) (nI_leI (by omega) (by omega)))
theorem s_plannedWith (hrel : r_rel 0 p (I 149)) (hb : v_base p) {r sh s : Nat} (hr : r < p 1) (hsh : sh ≤ 100) (hs0 : s ≤ 1000) : m_Sem l (d + 2) M_R_plannedWith [.ref 148, .int (nI r), .int (nI sh), .int (nI s)] (m_Ex g T, I, X) 0 0 (m_ans (.int (nI (f_pw p r sh s))) (m_Ex g T, I, X)) := by
  have hr8 : r < 8 := Nat.lt_of_lt_of_le hr hb.1.2.1
  obtain ⟨v0, v0', v1, v2, v2', v3, v4, -⟩ := hb.2.1 r hr
  refine m_sem_of m_okall rfl m_ok_212 (Nat.le_of_ble_eq_true rfl) (fun Wp hs => ?_)
  refine hs 60 [] 0 _ _ _ _ _ ?_
  refine ⟨0, 0, _, s_of (r := r) (w := 3) hr8 (by omega), Nat.zero_le _, Nat.zero_le _, ?_⟩; rintro _ _ ⟨rfl, rfl⟩
  refine ⟨0, 0, _, s_of (r := r) (w := 4) hr8 (by omega), Nat.zero_le _, Nat.zero_le _, ?_⟩; rintro _ _ ⟨rfl, rfl⟩
  rw [r_ride hrel hr8 (w := 3) (by omega), r_ride hrel hr8 (w := 4) (by omega)]
  refine ⟨0, 0, _, s_inRange _ _ _ _, Nat.zero_le _, Nat.zero_le _, ?_⟩; rintro _ _ ⟨rfl, rfl⟩
  rw [m_ixr (by omega) (by omega) (by omega)]
  refine ⟨fun (c : m_b _ = 0) => ⟨?_, rfl⟩, fun (c : ¬ m_b _ = 0) => ?_⟩
  · rw [m_b_0] at c
    rw [f_pw, if_neg c]; rfl
  · rw [m_b_0] at c
    refine ⟨0, 0, _, s_of (r := r) (w := 0) hr8 (by omega), Nat.zero_le _, Nat.zero_le _, ?_⟩; rintro _ _ ⟨rfl, rfl⟩
    rw [r_ride hrel hr8 (w := 0) (by omega)]
    refine ⟨(show ¬ (100 : Int32) = 0 by decide), ?_, rfl⟩
    show Sum.inl (some (Value.int (nI (p_ride p r 0) * nI sh / 100))) = _
    have hm : p_ride p r 0 * sh ≤ 20000 := Nat.le_trans (Nat.mul_le_mul v0' hsh) (by omega)
    rw [f_pw, if_pos (Decidable.not_not.mp c), pk_mul, show (100 : Int32) = nI 100 from rfl, pk_div (by omega) (by omega) (by omega)]
theorem s_plannedIn (hrel : r_rel 0 p (I 149)) (hb : v_base p) {r s : Nat} (hr : r < p 1) (hs0 : s ≤ 1000) : m_Sem l (d + 3) M_R_plannedIn [.ref 148, .int (nI r), .int (nI s)] (m_Ex g T, I, X) 0 0 (m_ans (.int (nI (f_planned p r s))) (m_Ex g T, I, X)) := by
  have hr8 : r < 8 := Nat.lt_of_lt_of_le hr hb.1.2.1
  obtain ⟨v0, v0', v1, -⟩ := hb.2.1 r hr
  refine m_sem_of m_okall rfl m_ok_210 (Nat.le_of_ble_eq_true rfl) (fun Wp hs => ?_)
  refine hs 60 [] 0 _ _ _ _ _ ?_
  refine ⟨0, 0, _, s_of (r := r) (w := 1) hr8 (by omega), Nat.zero_le _, Nat.zero_le _, ?_⟩; rintro _ _ ⟨rfl, rfl⟩
  rw [r_ride hrel hr8 (w := 1) (by omega)]
  refine ⟨0, 0, _, s_plannedWith hrel hb hr v1 hs0, Nat.zero_le _, Nat.zero_le _, ?_⟩; rintro _ _ ⟨rfl, rfl⟩
  exact ⟨rfl, rfl⟩
/-- chargedIn by the block's own bounds -/
theorem s_charged (hrel : r_rel 0 p (I 149)) (hb : v_base p) {r s : Nat} (hr : r < 8) (hs0 : s < 1000) : m_Sem l (d + 2) M_R_chargedIn [.ref 148, .int (nI r), .int (nI s)] (m_Ex g T, I, X) 0 0 (m_ans (.int (nI (f_charged p r s (p 5)))) (m_Ex g T, I, X)) :=
  s_chargedIn hrel hb.1.2.2.2.2.2 (by omega) (by omega) (fun t ht => by have := hb.start ht; omega)
end R5
