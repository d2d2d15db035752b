/-! a script's text: pure, of the reference (written by wip/whole/gen997.py) -/
/-- which action a word names; -1: none -/
def y_act9 (t : Int → Int) (n p : Int) : Int := if y_w5 t n p = true then 0 else if y_w6 t n p = true then 1 else if y_w7 t n p = true then 2 else if y_w8 t n p = true then 3 else if y_w10 t n p = true then 5 else if y_w11 t n p = true then 6 else if y_w9 t n p = true then 4 else -1
/-- the bounds of an action's numbers -/
def y_lim (a : Int) : List (Int × Int) := if a = 0 then [(0, 49), (0, 7), (0, 143)] else if a = 1 then [(0, 149)] else if a = 2 then [(0, 149)] else if a = 3 then [(0, 49), (0, 7)] else if a = 4 then [(0, 7), (1, 12)] else [(0, 7)]
def y_cn (t : Int → Int) (n : Int) : List (Int × Int) → Int → List Int
  | [], _ => []
  | (lo, hi) :: r, p => y_nc t n p lo hi :: y_cn t n r (y_e9 t n p)
def y_rB (t : Int → Int) (n : Int) : List (Int × Int) → Int → Int → (Int → Int) → (Int → Int)
  | [], _, _, B => B
  | _ :: r, p, k, B => y_rB t n r (y_e9 t n p) (k + 1) (z_up B k (y_vv t n p))
def y_it (t : Int → Int) (n : Int) : List (Int × Int) → Int → Int
  | [], p => p
  | _ :: r, p => y_it t n r (y_e9 t n p)
/-- an entry at p, the c-th: code and place of an error; where it ends; the entries behind it -/
def y_ent (t : Int → Int) (n p : Int) (B : Int → Int) (c : Int) : (Int × Int) × Int × (Int → Int) :=
  if ¬ y_w4 t n p = true then ((1, y_s t n p), p, B)
  else if c = 40 then ((3, y_s t n p), p, B)
  else if y_nc t n (y_e9 t n p) (if c = 0 then 0 else B (5 * c - 5)) 143 ≠ 0 then ((y_nc t n (y_e9 t n p) (if c = 0 then 0 else B (5 * c - 5)) 143, y_s t n (y_e9 t n p)), p, B)
  else if y_act9 t n (y_e9 t n (y_e9 t n p)) = -1 then ((1, y_s t n (y_e9 t n (y_e9 t n p))), p, B)
  else if (y_ff t n (y_cn t n (y_lim (y_act9 t n (y_e9 t n (y_e9 t n p)))) (y_e9 t n (y_e9 t n (y_e9 t n p)))) (y_e9 t n (y_e9 t n (y_e9 t n p)))).1 ≠ 0 then (y_ff t n (y_cn t n (y_lim (y_act9 t n (y_e9 t n (y_e9 t n p)))) (y_e9 t n (y_e9 t n (y_e9 t n p)))) (y_e9 t n (y_e9 t n (y_e9 t n p))), p, B)
  else if y_sc t n (y_it t n (y_lim (y_act9 t n (y_e9 t n (y_e9 t n p)))) (y_e9 t n (y_e9 t n (y_e9 t n p)))) ≠ 0 then ((1, y_s t n (y_it t n (y_lim (y_act9 t n (y_e9 t n (y_e9 t n p)))) (y_e9 t n (y_e9 t n (y_e9 t n p))))), p, B)
  else ((0, -1), y_e9 t n (y_it t n (y_lim (y_act9 t n (y_e9 t n (y_e9 t n p)))) (y_e9 t n (y_e9 t n (y_e9 t n p)))), y_rB t n (y_lim (y_act9 t n (y_e9 t n (y_e9 t n p)))) (y_e9 t n (y_e9 t n (y_e9 t n p))) (5 * c + 2) (z_up (z_up B (5 * c) (y_vv t n (y_e9 t n p))) (5 * c + 1) (y_act9 t n (y_e9 t n (y_e9 t n p)))))
theorem y_rB_eq {t : Int → Int} {n : Int} : ∀ (L : List (Int × Int)) (p k : Int) (B C : Int → Int) (j : Int), ((k ≤ j ∧ j < k + L.length) ∨ B j = C j) → y_rB t n L p k B j = y_rB t n L p k C j
  | [], p, k, B, C, j, h => by
    rcases h with h | h
    · exact absurd h.2 (by show ¬ j < k + ((0 : Nat) : Int); omega)
    · exact h
  | x :: r, p, k, B, C, j, h => by
    rw [y_rB, y_rB]
    refine y_rB_eq r _ _ _ _ j ?_
    by_cases e : j = k
    · right; rw [z_up_eq e, z_up_eq e]
    · rw [z_up_ne e, z_up_ne e]
      rcases h with h | h
      · left
        have : ((x :: r).length : Int) = r.length + 1 := by simp
        omega
      · exact Or.inr h
theorem y_rB_lo {t : Int → Int} {n : Int} : ∀ (L : List (Int × Int)) (p k : Int) (B : Int → Int) (j : Int), (j < k ∨ k + L.length ≤ j) → y_rB t n L p k B j = B j
  | [], p, k, B, j, h => rfl
  | x :: r, p, k, B, j, h => by
    have : ((x :: r).length : Int) = r.length + 1 := by simp
    rw [y_rB, y_rB_lo r _ _ _ j (by omega), z_up_ne (by omega)]
theorem y_it_b {t : Int → Int} {n : Int} : ∀ (L : List (Int × Int)) (p : Int), p ≤ n → p ≤ y_it t n L p ∧ y_it t n L p ≤ n
  | [], p, h => ⟨Int.le_refl p, h⟩
  | x :: r, p, h => by
    have b := y_tok_b (t := t) h
    have := y_it_b (t := t) (n := n) r (y_e9 t n p) (by omega)
    rw [y_it]; omega
theorem y_act9_b {t : Int → Int} {n p : Int} : -1 ≤ y_act9 t n p ∧ y_act9 t n p ≤ 6 := by
  unfold y_act9
  repeat' split
  all_goals omega
theorem y_lim_l (a : Int) : 1 ≤ (y_lim a).length ∧ (y_lim a).length ≤ 3 := by
  unfold y_lim
  repeat' split
  all_goals decide
theorem y_ent_p {t : Int → Int} {n p : Int} {B : Int → Int} {c : Int} (hp : p ≤ n) (hk : y_k t n p ≠ 0) (hc : (y_ent t n p B c).1.1 = 0) : p < (y_ent t n p B c).2.1 ∧ (y_ent t n p B c).2.1 ≤ n := by
  have b0 := y_tok_b (t := t) (n := n) hp
  have b1 := y_tok_b (t := t) (n := n) (p := (y_e9 t n p)) (by omega)
  have b2 := y_tok_b (t := t) (n := n) (p := (y_e9 t n (y_e9 t n p))) (by omega)
  have b3 := y_it_b (t := t) (n := n) (y_lim (y_act9 t n (y_e9 t n (y_e9 t n p)))) (y_e9 t n (y_e9 t n (y_e9 t n p))) (by omega)
  have b4 := y_tok_b (t := t) (n := n) (p := y_it t n (y_lim (y_act9 t n (y_e9 t n (y_e9 t n p)))) (y_e9 t n (y_e9 t n (y_e9 t n p)))) b3.2
  have k0 := b0.2.2.2.1 hk
  unfold y_ent at *
  by_cases w4 : ¬ y_w4 t n p = true
  · rw [if_pos w4] at hc; exact absurd hc (show ¬ (1 : Int) = 0 by decide)
  rw [if_neg w4] at *
  by_cases h4 : c = 40
  · rw [if_pos h4] at hc; exact absurd hc (show ¬ (3 : Int) = 0 by decide)
  rw [if_neg h4] at *
  by_cases h5 : y_nc t n (y_e9 t n p) (if c = 0 then 0 else B (5 * c - 5)) 143 ≠ 0
  · rw [if_pos h5] at hc; exact absurd hc h5
  rw [if_neg h5] at *
  by_cases h6 : y_act9 t n (y_e9 t n (y_e9 t n p)) = -1
  · rw [if_pos h6] at hc; exact absurd hc (show ¬ (1 : Int) = 0 by decide)
  rw [if_neg h6] at *
  by_cases h7 : (y_ff t n (y_cn t n (y_lim (y_act9 t n (y_e9 t n (y_e9 t n p)))) (y_e9 t n (y_e9 t n (y_e9 t n p)))) (y_e9 t n (y_e9 t n (y_e9 t n p)))).1 ≠ 0
  · rw [if_pos h7] at hc; exact absurd hc h7
  rw [if_neg h7] at *
  by_cases h8 : y_sc t n (y_it t n (y_lim (y_act9 t n (y_e9 t n (y_e9 t n p)))) (y_e9 t n (y_e9 t n (y_e9 t n p)))) ≠ 0
  · rw [if_pos h8] at hc; exact absurd hc (show ¬ (1 : Int) = 0 by decide)
  rw [if_neg h8] at *
  exact ⟨by show p < y_e9 t n _; omega, by show y_e9 t n _ ≤ n; omega⟩
/-- how many of an entry's numbers count -/
def y_uf (B : Int → Int) (e : Int) : Int := 2 + (y_lim (B (5 * e + 1))).length
/-- the reference's entries -/
def y_E (B : Int → Int) (c : Int) (J : z_J) : Prop := ∀ e f, 0 ≤ e → e < c → 0 ≤ f → f < y_uf B e → J 160 (5 * e + f) = B (5 * e + f)
def y_fz (J J1 : z_J) : Prop := (∀ j, (j < 14 ∨ 19 < j) → j ≠ 25 → J1 148 j = J 148 j) ∧ ∀ b, b ≠ 148 → b ≠ 160 → J1 b = J b
theorem y_fz.rf {J : z_J} : y_fz J J := ⟨fun _ _ _ => rfl, fun _ _ _ => rfl⟩
theorem y_fz.tr {J J1 J2 : z_J} (h1 : y_fz J J1) (h2 : y_fz J1 J2) : y_fz J J2 := ⟨fun j h h' => (h2.1 j h h').trans (h1.1 j h h'), fun b h h' => (h2.2 b h h').trans (h1.2 b h h')⟩
theorem y_f6.fz {J J1 : z_J} (h : y_f6 J J1) : y_fz J J1 := ⟨fun j hj _ => h.1 j hj, fun b hb _ => h.2 b hb⟩
theorem y_fz.u {J J1 : z_J} {k v : Int} (h : y_fz J J1) : y_fz J (z_u J1 160 k v) := ⟨fun j hj h' => by rw [z_u_ne (by omega)]; exact h.1 j hj h', fun b hb hb' => by rw [z_u_ne hb']; exact h.2 b hb hb'⟩
theorem y_fz.n {J J1 : z_J} {v : Int} (h : y_fz J J1) : y_fz J (z_u J1 148 25 v) := ⟨fun j hj h' => by rw [z_u_off h']; exact h.1 j hj h', fun b hb hb' => by rw [z_u_ne hb]; exact h.2 b hb hb'⟩
theorem y_R_u6 {t : Int → Int} {n p k v : Int} {J : z_J} {X : z_X} (h : y_R t n p J X) : y_R t n p (z_u J 160 k v) X := ⟨by rw [z_u_ne (by omega)]; exact h.1, by rw [z_u_ne (by omega)]; exact h.2.1, ⟨by rw [z_u_ne (by omega)]; exact h.2.2.1.1, by rw [z_u_ne (by omega)]; exact h.2.2.1.2⟩, by rw [z_u_ne (by omega)]; exact h.2.2.2.1, by rw [z_u_ne (by omega)]; exact h.2.2.2.2.1, by rw [z_u_ne (by omega)]; exact h.2.2.2.2.2.1, h.2.2.2.2.2.2⟩
theorem y_R_n {t : Int → Int} {n p v : Int} {J : z_J} {X : z_X} (h : y_R t n p J X) : y_R t n p (z_u J 148 25 v) X := ⟨by rw [z_u_ne (by omega)]; exact h.1, by rw [z_u_off (by omega)]; exact h.2.1, ⟨by rw [z_u_off (by omega)]; exact h.2.2.1.1, by rw [z_u_off (by omega)]; exact h.2.2.1.2⟩, by rw [z_u_off (by omega)]; exact h.2.2.2.1, by rw [z_u_off (by omega)]; exact h.2.2.2.2.1, by rw [z_u_off (by omega)]; exact h.2.2.2.2.2.1, h.2.2.2.2.2.2⟩
section R27
variable {l : Launch} {d : Nat} {g : List (Option Nat)} {T : m_E} {J : z_J} {X : z_X} {t : Int → Int} {n p : Int} {B : Int → Int} {c : Int}
theorem c_readPart {k lo hi : Int} (hk : 0 ≤ k ∧ k < 200) (hT : y_T t n) (hp : 0 ≤ p ∧ p ≤ n) (h : y_R t n p J X) : z_Sem l (d + 5) M_R_readPart [.inr (.inr (.ref 148)), .inl k, .inl lo, .inl hi] (m_Ex g T, J, X) 0 0 (z_rq (m_Ex g T) (fun v J' X' => y_fX X X' ∧ y_fz J J' ∧ J' 148 25 = J 148 25 ∧ ((y_nc t n p lo hi = 0 ∧ v = 1 ∧ y_R t n (y_e9 t n p) J' X' ∧ J' 160 = z_up (J 160) k (y_vv t n p)) ∨ (y_nc t n p lo hi ≠ 0 ∧ v = 0 ∧ J' 148 15 = y_nc t n p lo hi ∧ J' 148 16 = y_s t n p)))) := by
  refine z_sem_of z_m333 m_ok_333 (Nat.le_of_ble_eq_true rfl) (fun Wp hs hv hS => ?_)
  refine w_333_0 hs ?_
  refine z_cIq (c_readNumber hT hp h) ?_
  rintro v J2 X2 ⟨x2, ⟨c0, rfl, r1, r2, r3⟩ | ⟨c0, rfl, r1⟩⟩
  · refine ⟨fun _ => ⟨by omega, ?_⟩, fun c => absurd c (by decide)⟩
    rw [r2]
    refine ⟨_, _, _, rfl, rfl, x2, r3.fz.u, by rw [z_u_ne (by omega)]; exact r3.1 25 (by omega), Or.inl ⟨c0, rfl, y_R_u6 r1, ?_⟩⟩
    rw [z_u_row, r3.2 160 (by omega)]
  · exact ⟨fun c => absurd rfl c, fun _ => ⟨_, _, _, rfl, rfl, x2, r1.2.2.fz, r1.2.2.1 25 (by omega), Or.inr ⟨c0, rfl, r1.1, r1.2.1⟩⟩⟩
theorem c_action (ht : y_tok t n p J X) : z_Sem l (d + 3) M_R_action [.inr (.inr (.ref 148))] (m_Ex g T, J, X) 0 0 (z_ret (.inl (y_act9 t n p)) (m_Ex g T, J, X)) := by
  have tb : ∀ W : Bool, (y_b W ≠ 0 → W = true) ∧ (y_b W = 0 → ¬ W = true) := by
    intro W; cases W <;> exact ⟨fun z => by first | rfl | exact absurd rfl z, fun z => by first | decide | exact absurd z (by decide)⟩
  refine z_sem_of z_m334 m_ok_334 (Nat.le_of_ble_eq_true rfl) (fun Wp hs hv hS => ?_)
  refine w_334_0 hs ?_
  refine z_cI (c_isWord (W := y_w5 t n p) (by omega) (by omega) (by omega) (by omega) (by omega) (by omega) (by decide) y_w5_v ht) ⟨fun w5 => ?_, fun w5 => ?_⟩
  rotate_left
  · exact ⟨z_wi (by unfold y_act9; rw [if_pos ((tb _).1 w5)]), rfl⟩
  refine z_cI (c_isWord (W := y_w6 t n p) (by omega) (by omega) (by omega) (by omega) (by omega) (by omega) (by decide) y_w6_v ht) ⟨fun w6 => ?_, fun w6 => ?_⟩
  rotate_left
  · exact ⟨z_wi (by unfold y_act9; rw [if_neg ((tb _).2 w5), if_pos ((tb _).1 w6)]), rfl⟩
  refine z_cI (c_isWord (W := y_w7 t n p) (by omega) (by omega) (by omega) (by omega) (by omega) (by omega) (by decide) y_w7_v ht) ⟨fun w7 => ?_, fun w7 => ?_⟩
  rotate_left
  · exact ⟨z_wi (by unfold y_act9; rw [if_neg ((tb _).2 w5), if_neg ((tb _).2 w6), if_pos ((tb _).1 w7)]), rfl⟩
  refine z_cI (c_isWord (W := y_w8 t n p) (by omega) (by omega) (by omega) (by omega) (by omega) (by omega) (by decide) y_w8_v ht) ⟨fun w8 => ?_, fun w8 => ?_⟩
  rotate_left
  · exact ⟨z_wi (by unfold y_act9; rw [if_neg ((tb _).2 w5), if_neg ((tb _).2 w6), if_neg ((tb _).2 w7), if_pos ((tb _).1 w8)]), rfl⟩
  refine z_cI (c_isWord (W := y_w10 t n p) (by omega) (by omega) (by omega) (by omega) (by omega) (by omega) (by decide) y_w10_v ht) ⟨fun w10 => ?_, fun w10 => ?_⟩
  rotate_left
  · exact ⟨z_wi (by unfold y_act9; rw [if_neg ((tb _).2 w5), if_neg ((tb _).2 w6), if_neg ((tb _).2 w7), if_neg ((tb _).2 w8), if_pos ((tb _).1 w10)]), rfl⟩
  refine z_cI (c_isWord (W := y_w11 t n p) (by omega) (by omega) (by omega) (by omega) (by omega) (by omega) (by decide) y_w11_v ht) ⟨fun w11 => ?_, fun w11 => ?_⟩
  rotate_left
  · exact ⟨z_wi (by unfold y_act9; rw [if_neg ((tb _).2 w5), if_neg ((tb _).2 w6), if_neg ((tb _).2 w7), if_neg ((tb _).2 w8), if_neg ((tb _).2 w10), if_pos ((tb _).1 w11)]), rfl⟩
  refine z_cL (c_pack (by omega) (by omega) (by omega) (by omega) (by omega) (by omega)) ⟨by decide, ?_⟩
  refine z_cI (c_isLong (W := y_w9 t n p) (V := 21073694809) (by omega) (by decide +kernel) (by decide) y_w9_v ht) ⟨fun w9 => ?_, fun w9 => ?_⟩
  · exact ⟨z_wi (by unfold y_act9; rw [if_neg ((tb _).2 w5), if_neg ((tb _).2 w6), if_neg ((tb _).2 w7), if_neg ((tb _).2 w8), if_neg ((tb _).2 w10), if_neg ((tb _).2 w11), if_neg ((tb _).2 w9)]), rfl⟩
  · exact ⟨z_wi (by unfold y_act9; rw [if_neg ((tb _).2 w5), if_neg ((tb _).2 w6), if_neg ((tb _).2 w7), if_neg ((tb _).2 w8), if_neg ((tb _).2 w10), if_neg ((tb _).2 w11), if_pos ((tb _).1 w9)]), rfl⟩
/-- how an action's numbers end for the reference -/
def y_oq (t : Int → Int) (n p : Int) (L : List (Int × Int)) (k : Int) (J : z_J) (X : z_X) (v : Int) (J' : z_J) (X' : z_X) : Prop := y_fX X X' ∧ y_fz J J' ∧ J' 148 25 = J 148 25 ∧ (((y_ff t n (y_cn t n L p) p).1 = 0 ∧ v = 1 ∧ y_R t n (y_it t n L p) J' X' ∧ J' 160 = y_rB t n L p k (J 160)) ∨ ((y_ff t n (y_cn t n L p) p).1 ≠ 0 ∧ v = 0 ∧ J' 148 15 = (y_ff t n (y_cn t n L p) p).1 ∧ J' 148 16 = (y_ff t n (y_cn t n L p) p).2))
theorem y_oq_nil {k : Int} (h : y_R t n p J X) : y_oq t n p [] k J X 1 J X := ⟨y_fX.rf, y_fz.rf, rfl, Or.inl ⟨rfl, rfl, h, rfl⟩⟩
theorem y_oq_bad {k lo hi : Int} {L : List (Int × Int)} {J1 : z_J} {X1 : z_X} (x1 : y_fX X X1) (f1 : y_fz J J1) (e1 : J1 148 25 = J 148 25) (c0 : y_nc t n p lo hi ≠ 0) (s1 : J1 148 15 = y_nc t n p lo hi) (s2 : J1 148 16 = y_s t n p) : y_oq t n p ((lo, hi) :: L) k J X 0 J1 X1 := by
  have e : y_ff t n (y_cn t n ((lo, hi) :: L) p) p = (y_nc t n p lo hi, y_s t n p) := by rw [y_cn, y_ff, if_neg c0]
  exact ⟨x1, f1, e1, Or.inr (by rw [e]; exact ⟨c0, rfl, s1, s2⟩)⟩
theorem y_oq_ok {k lo hi v : Int} {L : List (Int × Int)} {J1 J' : z_J} {X1 X' : z_X} (x1 : y_fX X X1) (f1 : y_fz J J1) (e1 : J1 148 25 = J 148 25) (c0 : y_nc t n p lo hi = 0) (q1 : J1 160 = z_up (J 160) k (y_vv t n p)) (h : y_oq t n (y_e9 t n p) L (k + 1) J1 X1 v J' X') : y_oq t n p ((lo, hi) :: L) k J X v J' X' := by
  obtain ⟨x2, f2, e2, h2⟩ := h
  have e : y_ff t n (y_cn t n ((lo, hi) :: L) p) p = y_ff t n (y_cn t n L (y_e9 t n p)) (y_e9 t n p) := by rw [y_cn, y_ff, if_pos c0]
  refine ⟨x1.tr x2, f1.tr f2, e2.trans e1, ?_⟩
  rw [e, y_rB, y_it, ← q1]
  exact h2
theorem c_readParts {k a : Int} (hk : 0 ≤ k ∧ k + 4 < 200) (ha : 0 ≤ a ∧ a ≤ 6) (hT : y_T t n) (hp : 0 ≤ p ∧ p ≤ n) (h : y_R t n p J X) : z_Sem l (d + 6) M_R_readParts [.inr (.inr (.ref 148)), .inl k, .inl a] (m_Ex g T, J, X) 0 0 (z_rq (m_Ex g T) (fun v J' X' => y_oq t n p (y_lim a) (k + 2) J X v J' X')) := by
  have b0 := y_tok_b (t := t) (n := n) hp.2
  have b1 := y_tok_b (t := t) (n := n) (p := (y_e9 t n p)) (by omega)
  refine z_sem_of z_m335 m_ok_335 (Nat.le_of_ble_eq_true rfl) (fun Wp hs hv hS => ?_)
  refine w_335_0 hs ?_
  refine ⟨fun e => ?_, fun e => ?_, fun e => ?_, fun e => ?_, fun e => ?_, fun e => ?_⟩
  · subst e; rw [show y_lim 0 = [(0, 49), (0, 7), (0, 143)] from rfl]
    refine ⟨by omega, z_cIq (c_readPart (J := J) (by omega) hT (by omega) h) ?_⟩
    rintro v1 J1 X1 ⟨x1, f1, e1, ⟨c1, rfl, r1, q1⟩ | ⟨c1, rfl, s1, s2⟩⟩
    rotate_left
    · exact ⟨fun _ => ⟨_, _, _, rfl, rfl, y_oq_bad x1 f1 e1 c1 s1 s2⟩, fun z => absurd rfl z⟩
    refine ⟨fun z => absurd z (by decide), fun _ => ?_⟩
    refine ⟨by omega, z_cIq (c_readPart (J := J1) (by omega) hT (by omega) r1) ?_⟩
    rintro v2 J2 X2 ⟨x2, f2, e2, ⟨c2, rfl, r2, q2⟩ | ⟨c2, rfl, s1, s2⟩⟩
    rotate_left
    · exact ⟨fun _ => ⟨_, _, _, rfl, rfl, y_oq_ok x1 f1 e1 c1 q1 (y_oq_bad x2 f2 e2 c2 s1 s2)⟩, fun z => absurd rfl z⟩
    refine ⟨fun z => absurd z (by decide), fun _ => ?_⟩
    rw [show k + 3 = k + 2 + 1 by omega] at q2
    refine ⟨by omega, z_cIq (c_readPart (J := J2) (by omega) hT (by omega) r2) ?_⟩
    rintro v3 J3 X3 ⟨x3, f3, e3, ⟨c3, rfl, r3, q3⟩ | ⟨c3, rfl, s1, s2⟩⟩
    rotate_left
    · exact ⟨fun _ => ⟨_, _, _, rfl, rfl, y_oq_ok x1 f1 e1 c1 q1 (y_oq_ok x2 f2 e2 c2 q2 (y_oq_bad x3 f3 e3 c3 s1 s2))⟩, fun z => absurd rfl z⟩
    refine ⟨fun z => absurd z (by decide), fun _ => ?_⟩
    rw [show k + 4 = k + 2 + 1 + 1 by omega] at q3
    exact ⟨_, _, _, rfl, rfl, y_oq_ok x1 f1 e1 c1 q1 (y_oq_ok x2 f2 e2 c2 q2 (y_oq_ok x3 f3 e3 c3 q3 (y_oq_nil r3)))⟩
  · subst e; rw [show y_lim 1 = [(0, 149)] from rfl]
    refine ⟨by omega, z_cIq (c_readPart (J := J) (by omega) hT (by omega) h) ?_⟩
    rintro v1 J1 X1 ⟨x1, f1, e1, ⟨c1, rfl, r1, q1⟩ | ⟨c1, rfl, s1, s2⟩⟩
    rotate_left
    · exact ⟨Or.inl rfl, _, _, _, rfl, rfl, y_oq_bad x1 f1 e1 c1 s1 s2⟩
    · exact ⟨Or.inr rfl, _, _, _, rfl, rfl, y_oq_ok x1 f1 e1 c1 q1 (y_oq_nil r1)⟩
  · subst e; rw [show y_lim 2 = [(0, 149)] from rfl]
    refine ⟨by omega, z_cIq (c_readPart (J := J) (by omega) hT (by omega) h) ?_⟩
    rintro v1 J1 X1 ⟨x1, f1, e1, ⟨c1, rfl, r1, q1⟩ | ⟨c1, rfl, s1, s2⟩⟩
    rotate_left
    · exact ⟨Or.inl rfl, _, _, _, rfl, rfl, y_oq_bad x1 f1 e1 c1 s1 s2⟩
    · exact ⟨Or.inr rfl, _, _, _, rfl, rfl, y_oq_ok x1 f1 e1 c1 q1 (y_oq_nil r1)⟩
  · subst e; rw [show y_lim 3 = [(0, 49), (0, 7)] from rfl]
    refine ⟨by omega, z_cIq (c_readPart (J := J) (by omega) hT (by omega) h) ?_⟩
    rintro v1 J1 X1 ⟨x1, f1, e1, ⟨c1, rfl, r1, q1⟩ | ⟨c1, rfl, s1, s2⟩⟩
    rotate_left
    · exact ⟨fun _ => ⟨_, _, _, rfl, rfl, y_oq_bad x1 f1 e1 c1 s1 s2⟩, fun z => absurd rfl z⟩
    refine ⟨fun z => absurd z (by decide), fun _ => ?_⟩
    refine ⟨by omega, z_cIq (c_readPart (J := J1) (by omega) hT (by omega) r1) ?_⟩
    rintro v2 J2 X2 ⟨x2, f2, e2, ⟨c2, rfl, r2, q2⟩ | ⟨c2, rfl, s1, s2⟩⟩
    rotate_left
    · exact ⟨fun _ => ⟨_, _, _, rfl, rfl, y_oq_ok x1 f1 e1 c1 q1 (y_oq_bad x2 f2 e2 c2 s1 s2)⟩, fun z => absurd rfl z⟩
    refine ⟨fun z => absurd z (by decide), fun _ => ?_⟩
    rw [show k + 3 = k + 2 + 1 by omega] at q2
    exact ⟨_, _, _, rfl, rfl, y_oq_ok x1 f1 e1 c1 q1 (y_oq_ok x2 f2 e2 c2 q2 (y_oq_nil r2))⟩
  · subst e; rw [show y_lim 4 = [(0, 7), (1, 12)] from rfl]
    refine ⟨by omega, z_cIq (c_readPart (J := J) (by omega) hT (by omega) h) ?_⟩
    rintro v1 J1 X1 ⟨x1, f1, e1, ⟨c1, rfl, r1, q1⟩ | ⟨c1, rfl, s1, s2⟩⟩
    rotate_left
    · exact ⟨fun _ => ⟨_, _, _, rfl, rfl, y_oq_bad x1 f1 e1 c1 s1 s2⟩, fun z => absurd rfl z⟩
    refine ⟨fun z => absurd z (by decide), fun _ => ?_⟩
    refine ⟨by omega, z_cIq (c_readPart (J := J1) (by omega) hT (by omega) r1) ?_⟩
    rintro v2 J2 X2 ⟨x2, f2, e2, ⟨c2, rfl, r2, q2⟩ | ⟨c2, rfl, s1, s2⟩⟩
    rotate_left
    · exact ⟨fun _ => ⟨_, _, _, rfl, rfl, y_oq_ok x1 f1 e1 c1 q1 (y_oq_bad x2 f2 e2 c2 s1 s2)⟩, fun z => absurd rfl z⟩
    refine ⟨fun z => absurd z (by decide), fun _ => ?_⟩
    rw [show k + 3 = k + 2 + 1 by omega] at q2
    exact ⟨_, _, _, rfl, rfl, y_oq_ok x1 f1 e1 c1 q1 (y_oq_ok x2 f2 e2 c2 q2 (y_oq_nil r2))⟩
  · rw [show y_lim a = [(0, 7)] from by unfold y_lim; rw [if_neg (by omega), if_neg (by omega), if_neg (by omega), if_neg (by omega), if_neg (by omega)]]
    refine ⟨by omega, z_cIq (c_readPart (J := J) (by omega) hT (by omega) h) ?_⟩
    rintro v1 J1 X1 ⟨x1, f1, e1, ⟨c1, rfl, r1, q1⟩ | ⟨c1, rfl, s1, s2⟩⟩
    rotate_left
    · exact ⟨Or.inl rfl, _, _, _, rfl, rfl, y_oq_bad x1 f1 e1 c1 s1 s2⟩
    · exact ⟨Or.inr rfl, _, _, _, rfl, rfl, y_oq_ok x1 f1 e1 c1 q1 (y_oq_nil r1)⟩
theorem y_ent_ne {t : Int → Int} {n p : Int} {B : Int → Int} {c : Int} (h : (y_ent t n p B c).1.1 = 0) : c ≠ 40 := by
  intro z
  unfold y_ent at h
  by_cases w4 : ¬ y_w4 t n p = true
  · rw [if_pos w4] at h; exact absurd h (show ¬ (1 : Int) = 0 by decide)
  · rw [if_neg w4, if_pos z] at h; exact absurd h (show ¬ (3 : Int) = 0 by decide)
/-- how an entry ends for the reference -/
def y_oe (t : Int → Int) (n c : Int) (J : z_J) (X : z_X) (r : (Int × Int) × Int × (Int → Int)) (v : Int) (J' : z_J) (X' : z_X) : Prop := y_fX X X' ∧ y_fz J J' ∧ ((r.1.1 = 0 ∧ v = 1 ∧ y_R t n r.2.1 J' X' ∧ J' 148 25 = c + 1 ∧ y_E r.2.2 (c + 1) J') ∨ (r.1.1 ≠ 0 ∧ v = 0 ∧ J' 148 15 = r.1.1 ∧ J' 148 16 = r.1.2))
theorem y_oe_e {r : (Int × Int) × Int × (Int → Int)} {J1 : z_J} {X1 : z_X} {k q : Int} (hx : y_fX X X1) (hf : y_fz J J1) (s1 : J1 148 15 = k) (s2 : J1 148 16 = q) (hr : r.1 = (k, q)) (h0 : k ≠ 0) : y_oe t n c J X r 0 J1 X1 := ⟨hx, hf, Or.inr ⟨by rw [hr]; exact h0, rfl, by rw [hr]; exact s1, by rw [hr]; exact s2⟩⟩
theorem y_er_uf {J : z_J} {k q : Int} : y_fz J (z_u (z_u J 148 15 k) 148 16 q) := (y_er_u (J := J) (c := k) (p := q)).2.2.fz
/-- an entry put behind the others -/
theorem y_E_add {L : List (Int × Int)} {a v q : Int} {J1 : z_J} (hL : y_lim a = L) (hc : 0 ≤ c) (hE : y_E B c J) (e : J1 160 = y_rB t n L q (5 * c + 2) (z_up (z_up (J 160) (5 * c) v) (5 * c + 1) a)) : y_E (y_rB t n L q (5 * c + 2) (z_up (z_up B (5 * c) v) (5 * c + 1) a)) (c + 1) J1 := by
  intro e' f a1 a2 a3 a4
  have ll := y_lim_l a
  rw [hL] at ll
  rw [e]
  by_cases z : e' = c
  · subst z
    refine y_rB_eq L q _ _ _ _ ?_
    unfold y_uf at a4
    rw [y_rB_lo L q _ _ _ (by omega), z_up_eq rfl, hL] at a4
    by_cases z1 : f < 2
    · right
      by_cases z2 : f = 1
      · rw [z_up_eq (by omega), z_up_eq (by omega)]
      · rw [z_up_ne (by omega), z_up_eq (by omega), z_up_ne (by omega), z_up_eq (by omega)]
    · left; omega
  · unfold y_uf at a4
    rw [y_rB_lo L q _ _ _ (by omega), z_up_ne (by omega), z_up_ne (by omega)] at a4
    have l2 := y_lim_l (B (5 * e' + 1))
    rw [y_rB_lo L q _ _ _ (by omega), y_rB_lo L q _ _ _ (by omega), z_up_ne (by omega), z_up_ne (by omega), z_up_ne (by omega), z_up_ne (by omega)]
    exact hE e' f a1 (by omega) a3 a4
theorem c_readEntry (hT : y_T t n) (hp : 0 ≤ p ∧ p ≤ n) (hc : 0 ≤ c ∧ c ≤ 40) (h25 : J 148 25 = c) (hE : y_E B c J) (h : y_R t n p J X) : z_Sem l (d + 7) M_R_readEntry [.inr (.inr (.ref 148))] (m_Ex g T, J, X) 0 0 (z_rq (m_Ex g T) (fun v J' X' => y_oe t n c J X (y_ent t n p B c) v J' X')) := by
  have b0 := y_tok_b (t := t) (n := n) hp.2
  have b1 := y_tok_b (t := t) (n := n) (p := (y_e9 t n p)) (by omega)
  have b2 := y_tok_b (t := t) (n := n) (p := (y_e9 t n (y_e9 t n p))) (by omega)
  have b3 := y_it_b (t := t) (n := n) (y_lim (y_act9 t n (y_e9 t n (y_e9 t n p)))) (y_e9 t n (y_e9 t n (y_e9 t n p))) (by omega)
  have ab := y_act9_b (t := t) (n := n) (p := y_e9 t n (y_e9 t n p))
  have ht := h.2.2.2
  have eB : c ≠ 0 → J 160 (5 * c - 5) = B (5 * c - 5) := fun z => by
    have l2 := y_lim_l (B (5 * (c - 1) + 1))
    have := hE (c - 1) 0 (by omega) (by omega) (by omega) (by unfold y_uf; omega)
    rw [show 5 * (c - 1) + 0 = 5 * c - 5 by omega] at this
    exact this
  have bad : ¬ y_w4 t n p = true → z_rq (m_Ex g T) (fun v J' X' => y_oe t n c J X (y_ent t n p B c) v J' X') (.inl (some (.inl 0))) (m_Ex g T, z_u (z_u J 148 15 1) 148 16 (y_s t n p), X) := by
    intro z
    have er : y_ent t n p B c = ((1, y_s t n p), p, B) := by unfold y_ent; rw [if_pos z]
    rw [er]
    exact ⟨_, _, _, rfl, rfl, y_oe_e y_fX.rf y_er_uf y_er_u.1 y_er_u.2.1 rfl (by decide)⟩
  refine z_sem_of z_m332 m_ok_332 (Nat.le_of_ble_eq_true rfl) (fun Wp hs hv hS => ?_)
  refine w_332_0 hs ?_
  rw [ht.1, ht.2.1, h25]
  refine ⟨fun k1 => bad (fun z => k1 (y_w4_v.mp z).1), fun k1 => ⟨fun x5 => ?_, fun x5 => bad (fun z => x5 ((ht.2.2.2.1 k1).trans (y_w4_v.mp z).2))⟩⟩
  have w4 : ¬ ¬ y_w4 t n p = true := fun z => z (y_w4_v.mpr ⟨k1, (ht.2.2.2.1 k1).symm.trans x5⟩)
  refine ⟨fun c4 => ?_, fun c4 => ?_⟩
  rotate_left
  · have er : y_ent t n p B c = ((3, y_s t n p), p, B) := by unfold y_ent; rw [if_neg w4, if_pos c4]
    rw [er]
    exact ⟨_, _, _, rfl, rfl, y_oe_e y_fX.rf y_er_uf y_er_u.1 y_er_u.2.1 rfl (by decide)⟩
  refine c_next hT hp h (fun J1 X1 r1 f1 x1 => ?_)
  have e25 : J1 148 25 = c := by rw [f1.1 25 (by omega) (by omega) (by omega)]; exact h25
  have q1 : J1 160 = J 160 := f1.2 160 (by omega)
  rw [e25]
  refine ⟨by omega, fun c0 => ⟨by omega, ?_⟩, fun c0 => ?_⟩
  · refine z_cIq (c_readPart (J := J1) (by omega) hT (by omega) r1) ?_
    rintro v2 J2 X2 ⟨x2, f2, e2, ⟨c1, rfl, r2, q2⟩ | ⟨c1, rfl, s1, s2⟩⟩
    rotate_left
    · have c1' : y_nc t n (y_e9 t n p) (if c = 0 then 0 else B (5 * c - 5)) 143 ≠ 0 := by rw [if_neg c0, ← eB c0, ← q1]; exact c1
      have er : y_ent t n p B c = ((y_nc t n (y_e9 t n p) (if c = 0 then 0 else B (5 * c - 5)) 143, y_s t n (y_e9 t n p)), p, B) := by unfold y_ent; rw [if_neg w4, if_neg c4, if_pos c1']
      rw [er]
      exact ⟨fun z => absurd rfl z, fun _ => ⟨_, _, _, rfl, rfl, y_oe_e (x1.tr x2) (f1.f6.fz.tr f2) (by rw [s1, if_neg c0, ← eB c0, ← q1]) s2 rfl c1'⟩⟩
    have c1' : ¬ y_nc t n (y_e9 t n p) (if c = 0 then 0 else B (5 * c - 5)) 143 ≠ 0 := by rw [if_neg c0, ← eB c0, ← q1]; exact fun z => z c1
    refine ⟨fun _ => ?_, fun z => absurd z (by decide)⟩
    have f12 := f1.f6.fz.tr f2
    have x12 := x1.tr x2
    have e25b : J2 148 25 = c := e2.trans e25
    refine z_cI (c_action r2.2.2.2) ⟨fun a1 => ?_, fun a1 => ?_⟩
    rotate_left
    · have er : y_ent t n p B c = ((1, y_s t n (y_e9 t n (y_e9 t n p))), p, B) := by unfold y_ent; rw [if_neg w4, if_neg c4, if_neg c1', if_pos a1]
      rw [er, r2.2.2.2.1]
      exact ⟨_, _, _, rfl, rfl, y_oe_e x12 (f12.tr y_er_uf) y_er_u.1 y_er_u.2.1 rfl (by decide)⟩
    refine ⟨by omega, c_next hT (by omega) (y_R_u6 r2) (fun J3 X3 r3 f3 x3 => ?_)⟩
    have e3 : J3 148 25 = c := by rw [f3.1 25 (by omega) (by omega) (by omega), z_u_ne (by omega)]; exact e25b
    have q3 : J3 160 = z_up (z_up (J 160) (5 * c) (y_vv t n (y_e9 t n p))) (5 * c + 1) (y_act9 t n (y_e9 t n (y_e9 t n p))) := by rw [f3.2 160 (by omega), z_u_row, q2, q1]
    rw [e3]
    refine ⟨by omega, z_cIq (c_readParts (J := z_u J3 148 25 (c + 1)) (by omega) (by omega) hT (by omega) (y_R_n r3)) ?_⟩
    have f123 := (f12.u.tr f3.f6.fz).n (v := c + 1)
    rintro v4 J4 X4 ⟨x4, f4, e4, ⟨c5, rfl, r4, q4⟩ | ⟨c5, rfl, s1, s2⟩⟩
    rotate_left
    · have er : y_ent t n p B c = (y_ff t n (y_cn t n (y_lim (y_act9 t n (y_e9 t n (y_e9 t n p)))) (y_e9 t n (y_e9 t n (y_e9 t n p)))) (y_e9 t n (y_e9 t n (y_e9 t n p))), p, B) := by unfold y_ent; rw [if_neg w4, if_neg c4, if_neg c1', if_neg a1, if_pos c5]
      rw [er]
      exact ⟨fun _ => ⟨_, _, _, rfl, rfl, y_oe_e ((x12.tr x3).tr x4) (f123.tr f4) s1 s2 rfl c5⟩, fun z => absurd rfl z⟩
    refine ⟨fun z => absurd z (by decide), fun _ => ?_⟩
    refine z_cIq (c_readEnd hT (by omega) r4) ?_
    rintro v5 J5 X5 ⟨x5, ⟨c6, rfl, r5, f5⟩ | ⟨c6, rfl, z5⟩⟩
    rotate_left
    · have hs1 : y_sc t n (y_it t n (y_lim (y_act9 t n (y_e9 t n (y_e9 t n p)))) (y_e9 t n (y_e9 t n (y_e9 t n p)))) = 1 := by unfold y_sc at c6 ⊢; by_cases k3 : y_k t n (y_it t n (y_lim (y_act9 t n (y_e9 t n (y_e9 t n p)))) (y_e9 t n (y_e9 t n (y_e9 t n p)))) = 3 <;> simp_all
      have er : y_ent t n p B c = ((1, y_s t n (y_it t n (y_lim (y_act9 t n (y_e9 t n (y_e9 t n p)))) (y_e9 t n (y_e9 t n (y_e9 t n p))))), p, B) := by unfold y_ent; rw [if_neg w4, if_neg c4, if_neg c1', if_neg a1, if_neg (fun z => z c5), if_pos c6]
      rw [er]
      exact ⟨fun _ => ⟨_, _, _, rfl, rfl, y_oe_e (((x12.tr x3).tr x4).tr x5) ((f123.tr f4).tr z5.2.2.fz) (z5.1.trans hs1) z5.2.1 rfl (by decide)⟩, fun z => absurd rfl z⟩
    have er : y_ent t n p B c = ((0, -1), y_e9 t n (y_it t n (y_lim (y_act9 t n (y_e9 t n (y_e9 t n p)))) (y_e9 t n (y_e9 t n (y_e9 t n p)))), y_rB t n (y_lim (y_act9 t n (y_e9 t n (y_e9 t n p)))) (y_e9 t n (y_e9 t n (y_e9 t n p))) (5 * c + 2) (z_up (z_up B (5 * c) (y_vv t n (y_e9 t n p))) (5 * c + 1) (y_act9 t n (y_e9 t n (y_e9 t n p))))) := by unfold y_ent; rw [if_neg w4, if_neg c4, if_neg c1', if_neg a1, if_neg (fun z => z c5), if_neg (fun z => z c6)]
    rw [er]
    refine ⟨fun z => absurd z (by decide), fun _ => ⟨_, _, _, rfl, rfl, ((x12.tr x3).tr x4).tr x5, (f123.tr f4).tr f5.fz, Or.inl ⟨rfl, rfl, r5, ?_, y_E_add rfl hc.1 hE ?_⟩⟩⟩
    · rw [f5.1 25 (by omega), e4, z_u_at rfl]
    · rw [f5.2 160 (by omega), q4, z_u_ne (by omega), q3]
  · refine z_cIq (c_readPart (J := J1) (by omega) hT (by omega) r1) ?_
    rintro v2 J2 X2 ⟨x2, f2, e2, ⟨c1, rfl, r2, q2⟩ | ⟨c1, rfl, s1, s2⟩⟩
    rotate_left
    · have c1' : y_nc t n (y_e9 t n p) (if c = 0 then 0 else B (5 * c - 5)) 143 ≠ 0 := by rw [if_pos c0]; exact c1
      have er : y_ent t n p B c = ((y_nc t n (y_e9 t n p) (if c = 0 then 0 else B (5 * c - 5)) 143, y_s t n (y_e9 t n p)), p, B) := by unfold y_ent; rw [if_neg w4, if_neg c4, if_pos c1']
      rw [er]
      exact ⟨fun z => absurd rfl z, fun _ => ⟨_, _, _, rfl, rfl, y_oe_e (x1.tr x2) (f1.f6.fz.tr f2) (by rw [s1, if_pos c0]) s2 rfl c1'⟩⟩
    have c1' : ¬ y_nc t n (y_e9 t n p) (if c = 0 then 0 else B (5 * c - 5)) 143 ≠ 0 := by rw [if_pos c0]; exact fun z => z c1
    refine ⟨fun _ => ?_, fun z => absurd z (by decide)⟩
    have f12 := f1.f6.fz.tr f2
    have x12 := x1.tr x2
    have e25b : J2 148 25 = c := e2.trans e25
    refine z_cI (c_action r2.2.2.2) ⟨fun a1 => ?_, fun a1 => ?_⟩
    rotate_left
    · have er : y_ent t n p B c = ((1, y_s t n (y_e9 t n (y_e9 t n p))), p, B) := by unfold y_ent; rw [if_neg w4, if_neg c4, if_neg c1', if_pos a1]
      rw [er, r2.2.2.2.1]
      exact ⟨_, _, _, rfl, rfl, y_oe_e x12 (f12.tr y_er_uf) y_er_u.1 y_er_u.2.1 rfl (by decide)⟩
    refine ⟨by omega, c_next hT (by omega) (y_R_u6 r2) (fun J3 X3 r3 f3 x3 => ?_)⟩
    have e3 : J3 148 25 = c := by rw [f3.1 25 (by omega) (by omega) (by omega), z_u_ne (by omega)]; exact e25b
    have q3 : J3 160 = z_up (z_up (J 160) (5 * c) (y_vv t n (y_e9 t n p))) (5 * c + 1) (y_act9 t n (y_e9 t n (y_e9 t n p))) := by rw [f3.2 160 (by omega), z_u_row, q2, q1]
    rw [e3]
    refine ⟨by omega, z_cIq (c_readParts (J := z_u J3 148 25 (c + 1)) (by omega) (by omega) hT (by omega) (y_R_n r3)) ?_⟩
    have f123 := (f12.u.tr f3.f6.fz).n (v := c + 1)
    rintro v4 J4 X4 ⟨x4, f4, e4, ⟨c5, rfl, r4, q4⟩ | ⟨c5, rfl, s1, s2⟩⟩
    rotate_left
    · have er : y_ent t n p B c = (y_ff t n (y_cn t n (y_lim (y_act9 t n (y_e9 t n (y_e9 t n p)))) (y_e9 t n (y_e9 t n (y_e9 t n p)))) (y_e9 t n (y_e9 t n (y_e9 t n p))), p, B) := by unfold y_ent; rw [if_neg w4, if_neg c4, if_neg c1', if_neg a1, if_pos c5]
      rw [er]
      exact ⟨fun _ => ⟨_, _, _, rfl, rfl, y_oe_e ((x12.tr x3).tr x4) (f123.tr f4) s1 s2 rfl c5⟩, fun z => absurd rfl z⟩
    refine ⟨fun z => absurd z (by decide), fun _ => ?_⟩
    refine z_cIq (c_readEnd hT (by omega) r4) ?_
    rintro v5 J5 X5 ⟨x5, ⟨c6, rfl, r5, f5⟩ | ⟨c6, rfl, z5⟩⟩
    rotate_left
    · have hs1 : y_sc t n (y_it t n (y_lim (y_act9 t n (y_e9 t n (y_e9 t n p)))) (y_e9 t n (y_e9 t n (y_e9 t n p)))) = 1 := by unfold y_sc at c6 ⊢; by_cases k3 : y_k t n (y_it t n (y_lim (y_act9 t n (y_e9 t n (y_e9 t n p)))) (y_e9 t n (y_e9 t n (y_e9 t n p)))) = 3 <;> simp_all
      have er : y_ent t n p B c = ((1, y_s t n (y_it t n (y_lim (y_act9 t n (y_e9 t n (y_e9 t n p)))) (y_e9 t n (y_e9 t n (y_e9 t n p))))), p, B) := by unfold y_ent; rw [if_neg w4, if_neg c4, if_neg c1', if_neg a1, if_neg (fun z => z c5), if_pos c6]
      rw [er]
      exact ⟨fun _ => ⟨_, _, _, rfl, rfl, y_oe_e (((x12.tr x3).tr x4).tr x5) ((f123.tr f4).tr z5.2.2.fz) (z5.1.trans hs1) z5.2.1 rfl (by decide)⟩, fun z => absurd rfl z⟩
    have er : y_ent t n p B c = ((0, -1), y_e9 t n (y_it t n (y_lim (y_act9 t n (y_e9 t n (y_e9 t n p)))) (y_e9 t n (y_e9 t n (y_e9 t n p)))), y_rB t n (y_lim (y_act9 t n (y_e9 t n (y_e9 t n p)))) (y_e9 t n (y_e9 t n (y_e9 t n p))) (5 * c + 2) (z_up (z_up B (5 * c) (y_vv t n (y_e9 t n p))) (5 * c + 1) (y_act9 t n (y_e9 t n (y_e9 t n p))))) := by unfold y_ent; rw [if_neg w4, if_neg c4, if_neg c1', if_neg a1, if_neg (fun z => z c5), if_neg (fun z => z c6)]
    rw [er]
    refine ⟨fun z => absurd z (by decide), fun _ => ⟨_, _, _, rfl, rfl, ((x12.tr x3).tr x4).tr x5, (f123.tr f4).tr f5.fz, Or.inl ⟨rfl, rfl, r5, ?_, y_E_add rfl hc.1 hE ?_⟩⟩⟩
    · rw [f5.1 25 (by omega), e4, z_u_at rfl]
    · rw [f5.2 160 (by omega), q4, z_u_ne (by omega), q3]
end R27
