/-! loading a park: pure, of the reference -/
def y_D0 : Int → Int := z_up (fun _ => 0) 4 6
/-- the statements behind p: code and place of the first error; how many; the draft -/
def y_pks (t : Int → Int) (n : Int) : Nat → Int → (Int → Int) → Int → (Int × Int) × Int × (Int → Int)
  | 0, _, D, c => ((0, -1), c, D)
  | m + 1, p, D, c => if y_k t n p = 0 then ((0, -1), c, D) else if (y_stm t n p D).1.1 = 0 then y_pks t n m (y_stm t n p D).2.1 (y_stm t n p D).2.2 (c + 1) else ((y_stm t n p D).1, c, D)
def y_park (t : Int → Int) (n : Int) : (Int × Int) × Int × (Int → Int) := y_pks t n (n.toNat + 1) 0 y_D0 0
theorem y_Db0 : y_Db y_D0 := by
  have O : ∀ j, j ≠ 4 → y_D0 j = 0 := fun j h => by unfold y_D0; rw [z_up_ne h]
  have e4 : y_D0 4 = 6 := by unfold y_D0; rw [z_up_eq rfl]
  refine ⟨O 0 (by omega), by rw [O 1 (by omega)]; omega, by rw [O 2 (by omega)]; omega, by rw [O 3 (by omega)]; omega, by rw [e4]; omega, O 5 (by omega), fun r a1 a2 => ?_, fun r w a1 a2 a3 a4 => O _ (by omega), fun i a1 a2 => ?_, fun i a1 a2 => ?_⟩
  · rw [O 1 (by omega)] at a2; omega
  · rw [O 2 (by omega)] at a2; omega
  · rw [O 3 (by omega)] at a2; omega
theorem y_stm_p {t : Int → Int} {n p : Int} {D : Int → Int} (hp : p ≤ n) (hk : y_k t n p ≠ 0) (hc : (y_stm t n p D).1.1 = 0) : p < (y_stm t n p D).2.1 ∧ (y_stm t n p D).2.1 ≤ n := by
  have b0 := y_tok_b (t := t) (n := n) hp
  have b1 := y_tok_b (t := t) (n := n) (p := (y_e9 t n p)) (by omega)
  have b2 := y_tok_b (t := t) (n := n) (p := (y_e9 t n (y_e9 t n p))) (by omega)
  have b3 := y_tok_b (t := t) (n := n) (p := (y_e9 t n (y_e9 t n (y_e9 t n p)))) (by omega)
  have b4 := y_tok_b (t := t) (n := n) (p := (y_e9 t n (y_e9 t n (y_e9 t n (y_e9 t n p))))) (by omega)
  have b5 := y_tok_b (t := t) (n := n) (p := (y_e9 t n (y_e9 t n (y_e9 t n (y_e9 t n (y_e9 t n p)))))) (by omega)
  have b6 := y_tok_b (t := t) (n := n) (p := (y_e9 t n (y_e9 t n (y_e9 t n (y_e9 t n (y_e9 t n (y_e9 t n p))))))) (by omega)
  have k0 := b0.2.2.2.1 hk
  unfold y_stm at *
  by_cases w0 : y_w0 t n p = true
  · rw [if_pos w0] at *
    by_cases h8 : D 1 = 8
    · rw [if_pos h8] at *; exact absurd hc (show ¬ (3 : Int) = 0 by decide)
    · rw [if_neg h8]; exact ⟨by show p < y_e9 t n _; omega, by show y_e9 t n _ ≤ n; omega⟩
  · rw [if_neg w0] at *
    by_cases w1 : y_w1 t n p = true
    · rw [if_pos w1] at *
      by_cases h8 : D 2 = 4
      · rw [if_pos h8] at *; exact absurd hc (show ¬ (3 : Int) = 0 by decide)
      · rw [if_neg h8]; exact ⟨by show p < y_e9 t n _; omega, by show y_e9 t n _ ≤ n; omega⟩
    · rw [if_neg w1] at *
      by_cases w2 : y_w2 t n p = true
      · rw [if_pos w2] at *
        by_cases h8 : D 3 = 50
        · rw [if_pos h8] at *; exact absurd hc (show ¬ (3 : Int) = 0 by decide)
        · rw [if_neg h8]; exact ⟨by show p < y_e9 t n _; omega, by show y_e9 t n _ ≤ n; omega⟩
      · rw [if_neg w2] at *
        by_cases w3 : y_w3 t n p = true
        · rw [if_pos w3]; exact ⟨by show p < y_e9 t n _; omega, by show y_e9 t n _ ≤ n; omega⟩
        · rw [if_neg w3] at *; exact absurd hc (show ¬ (1 : Int) = 0 by decide)
theorem y_Db.base {D : Int → Int} (h : y_Db D) : y_base D := by
  obtain ⟨d0, d1, d2, d3, d4, d5, hr, hz, ht, hp⟩ := h
  refine ⟨⟨by omega, d1, d2, d3, d4, by omega⟩, fun r a1 a2 => ?_, ht, fun i a1 a2 => ?_, fun t a1 a2 => by omega⟩
  · obtain ⟨r0, r1, r2, r3⟩ := hr r a1 a2
    have z := fun w h1 h2 => hz r w a1 (by omega) h1 h2
    have z5 := z 5 (by omega) (by omega)
    have z6 := z 6 (by omega) (by omega)
    have z7 := z 7 (by omega) (by omega)
    have z8 := z 8 (by omega) (by omega)
    have z9 := z 9 (by omega) (by omega)
    have z10 := z 10 (by omega) (by omega)
    have z11 := z 11 (by omega) (by omega)
    have z12 := z 12 (by omega) (by omega)
    have z13 := z 13 (by omega) (by omega)
    refine ⟨⟨r0, r1, r2, r3, Or.inl z5, by omega, by omega, by omega, by omega, by omega, by omega, by omega⟩, ⟨fun k c1 c2 => by omega, fun k c1 c2 => by omega⟩, ⟨fun k c1 c2 => by omega, fun j k c1 c2 c3 => by omega⟩, ?_⟩
    rw [z6, d5]
    exact (show (0 : Int) ≤ 0 by decide)
  · obtain ⟨p0, p1, p2⟩ := hp i a1 a2
    refine ⟨⟨p0, p1, by omega⟩, ?_⟩
    rw [d5]
    exact (show (0 : Int) ≤ 5 by decide)
theorem y_pks_Db {t : Int → Int} {n : Int} : ∀ (m : Nat) (p : Int) (D : Int → Int) (c : Int), y_Db D → y_Db (y_pks t n m p D c).2.2
  | 0, _, _, _, h => h
  | m + 1, p, D, c, h => by
    rw [y_pks]
    by_cases k : y_k t n p = 0
    · rw [if_pos k]; exact h
    · rw [if_neg k]
      by_cases z : (y_stm t n p D).1.1 = 0
      · rw [if_pos z]; exact y_pks_Db m _ _ _ (y_Db_stm h z)
      · rw [if_neg z]; exact h
/-- what the reference holds behind a loaded park -/
def y_lp (J : z_J) (r : (Int × Int) × Int × (Int → Int)) (v : Int) (J' : z_J) : Prop :=
  (∀ j, j ≠ 2 → (j < 13 ∨ 19 < j) → j ≠ 23 → j ≠ 24 → J' 148 j = J 148 j) ∧ J' 148 2 = 0 ∧ J' 148 13 = 0 ∧ J' 148 15 = r.1.1 ∧ J' 148 16 = r.1.2 ∧ (∀ b, b ≠ 148 → b ≠ 149 → b ≠ 150 → J' b = J b) ∧ (∀ j, (j < 0 ∨ (4964 ≤ j ∧ j < 19856) ∨ 24820 ≤ j) → J' 149 j = J 149 j) ∧ (∀ j, j ≠ 0 → j ≠ 1 → J' 150 j = J 150 j) ∧ ((r.1.1 = 0 ∧ v = r.2.1 ∧ (∀ j, 0 ≤ j → j < 4964 → J' 149 j = r.2.2 j) ∧ J' 148 23 = 0 ∧ J' 148 24 = 0 ∧ J' 150 0 = 0 ∧ J' 150 1 = 0) ∨ (r.1.1 ≠ 0 ∧ v = -7 ∧ (∀ j, 0 ≤ j → j < 4964 → J' 149 j = J 149 j) ∧ J' 148 23 = J 148 23 ∧ J' 148 24 = J 148 24 ∧ J' 150 0 = J 150 0 ∧ J' 150 1 = J 150 1))
section R26
variable {l : Launch} {d : Nat} {g : List (Option Nat)} {T : m_E} {J : z_J} {X : z_X} {t : Int → Int} {n : Int}
theorem p_loadPark (ht : J 158 = t) (hn : J 148 13 = n) (hT : y_T t n) : z_Sem l (d + 8) M_R_loadPark [.inr (.inr (.ref 148))] (m_Ex g T, J, X) 0 0 (z_rq (m_Ex g T) (fun v J' X' => y_fX X X' ∧ y_lp J (y_park t n) v J')) := by
  have hn0 := hT.1
  refine z_sem_of z_m314 m_ok_314 (Nat.le_of_ble_eq_true rfl) (fun Wp hs hv hS => ?_)
  -- a frame: what has been touched so far
  have main : ∀ (m : Nat) (p : Int) (D : Int → Int) (c : Int) (J1 : z_J) (X1 : z_X), n - p < (m : Int) → (0 ≤ p ∧ p ≤ n) → (0 ≤ c ∧ c ≤ p) → y_R t n p J1 X1 → y_D D J1 → y_Db D → y_fX X X1 → y_fd (z_u J 148 2 0) J1 → y_park t n = y_pks t n m p D c → Wp 47 [some (.inr (.inr (.ref 148))), some (.inl c)] [] (m_Ex g T, J1, X1) 0 0 := by
    intro m
    induction m with
    | zero => intro p D c J1 X1 hm hp; omega
    | succ m ih =>
      intro p D c J1 X1 hm hp hc hR hD hb hx hf he
      rw [y_pks] at he
      have h15 := hR.2.2.1.1
      refine w_314_47 hs ?_
      rw [h15, hR.2.2.2.2.1]
      refine ⟨fun z => absurd rfl z, fun _ => ⟨fun k0 => ⟨fun _ => ?_, fun z => absurd rfl z⟩, fun k0 => ?_⟩⟩
      · rw [if_pos k0] at he
        refine z_cV (c_copyBlock (J := z_u J1 148 13 0) (by omega) (by omega) (by omega)) ?_
        refine ⟨_, _, _, rfl, rfl, hx, ?_⟩
        rw [he]
        have N : ∀ b, b ≠ 148 → b ≠ 149 → b ≠ 150 → (z_u (z_u (z_u (z_u (z_row (z_u J1 148 13 0) 149 (k_copy (z_u J1 148 13 0 149) 4 0)) 150 0 0) 150 1 0) 148 23 0) 148 24 0) b = J1 b := fun b h1 h2 h3 => by rw [z_u_ne h1, z_u_ne h1, z_u_ne h3, z_u_ne h3, z_row_ne h2, z_u_ne h1]
        have R8 : ∀ j, (z_u (z_u (z_u (z_u (z_row (z_u J1 148 13 0) 149 (k_copy (z_u J1 148 13 0 149) 4 0)) 150 0 0) 150 1 0) 148 23 0) 148 24 0) 148 j = z_up (z_up (z_up (J1 148) 13 0) 23 0) 24 0 j := fun j => by rw [z_u_row, z_u_row, z_u_ne (by omega), z_u_ne (by omega), z_row_ne (by omega), z_u_row]
        have R9 : (z_u (z_u (z_u (z_u (z_row (z_u J1 148 13 0) 149 (k_copy (z_u J1 148 13 0 149) 4 0)) 150 0 0) 150 1 0) 148 23 0) 148 24 0) 149 = k_copy (J1 149) 4 0 := by rw [z_u_ne (by omega), z_u_ne (by omega), z_u_ne (by omega), z_u_ne (by omega), z_row_eq, z_u_ne (by omega)]
        have R5 : (z_u (z_u (z_u (z_u (z_row (z_u J1 148 13 0) 149 (k_copy (z_u J1 148 13 0 149) 4 0)) 150 0 0) 150 1 0) 148 23 0) 148 24 0) 150 = z_up (z_up (J1 150) 0 0) 1 0 := by rw [z_u_ne (by omega), z_u_ne (by omega), z_u_row, z_u_row, z_row_ne (by omega), z_u_ne (by omega)]
        refine ⟨fun j h1 h2 h3 h4 => ?_, ?_, ?_, ?_, ?_, fun b h1 h2 h3 => ?_, fun j hj => ?_, fun j h1 h2 => ?_, Or.inl ⟨rfl, rfl, fun j h1 h2 => ?_, ?_, ?_, ?_, ?_⟩⟩
        · rw [R8, z_up_ne h4, z_up_ne h3, z_up_ne (by omega), hf.1 j (by omega), z_u_off h1]
        · rw [R8, z_up_ne (by omega), z_up_ne (by omega), z_up_ne (by omega), hf.1 2 (by omega), z_u_at rfl]
        · rw [R8, z_up_ne (by omega), z_up_ne (by omega), z_up_eq rfl]
        · rw [R8, z_up_ne (by omega), z_up_ne (by omega), z_up_ne (by omega)]; exact h15
        · rw [R8, z_up_ne (by omega), z_up_ne (by omega), z_up_ne (by omega)]; exact hR.2.2.1.2
        · rw [N b h1 h2 h3, hf.2.2 b h1 h2, z_u_ne h1]
        · rw [R9, k_copy, if_neg (by omega), hf.2.1 j (by omega), z_u_ne (by omega)]
        · rw [R5, z_up_ne h2, z_up_ne h1, hf.2.2 150 (by omega) (by omega), z_u_ne (by omega)]
        · rw [R9, k_copy, if_pos (by omega), show j - 4964 * 0 + 4964 * 4 = 19856 + j by omega]; exact hD j h1 h2
        · rw [R8, z_up_ne (by omega), z_up_eq rfl]
        · rw [R8, z_up_eq rfl]
        · rw [R5, z_up_ne (by omega), z_up_eq rfl]
        · rw [R5, z_up_eq rfl]
      · rw [if_neg k0] at he
        refine z_cIq (c_readStatement hT hp hb hD hR) ?_
        rintro v J2 X2 ⟨x2, f2, ⟨s0, rfl, s1, s2⟩ | ⟨s0, rfl, s1, s2⟩⟩
        · rw [if_pos s0] at he
          have pp := y_stm_p hp.2 k0 s0
          exact ⟨fun z => absurd z (by decide), fun _ => ⟨by omega, ih _ _ _ J2 X2 (by omega) (by omega) (by omega) s1 s2 (y_Db_stm hb s0) (hx.tr x2) (hf.tr f2) he⟩⟩
        · rw [if_neg s0] at he
          refine ⟨fun _ => ?_, fun z => absurd rfl z⟩
          have e2 : J2 148 15 ≠ 0 := by rw [s1]; exact s0
          refine w_314_47 hs ?_
          refine ⟨fun _ => ⟨fun z => absurd z e2, fun _ => ?_⟩, fun z => absurd z e2⟩
          refine ⟨_, _, _, rfl, rfl, hx.tr x2, ?_⟩
          rw [he]
          have ff := hf.tr f2
          refine ⟨fun j h1 h2 h3 h4 => ?_, ?_, z_u_at rfl, ?_, ?_, fun b h1 h2 h3 => ?_, fun j hj => ?_, fun j h1 h2 => ?_, Or.inr ⟨s0, rfl, fun j h1 h2 => ?_, ?_, ?_, ?_, ?_⟩⟩
          · rw [z_u_off (by omega), ff.1 j (by omega), z_u_off h1]
          · rw [z_u_off (by omega), ff.1 2 (by omega), z_u_at rfl]
          · rw [z_u_off (by omega)]; exact s1
          · rw [z_u_off (by omega)]; exact s2
          · rw [z_u_ne h1, ff.2.2 b h1 h2, z_u_ne h1]
          · rw [z_u_ne (by omega), ff.2.1 j (by omega), z_u_ne (by omega)]
          · rw [z_u_ne (by omega), ff.2.2 150 (by omega) (by omega), z_u_ne (by omega)]
          · rw [z_u_ne (by omega), ff.2.1 j (by omega), z_u_ne (by omega)]
          · rw [z_u_off (by omega), ff.1 23 (by omega), z_u_off (by omega)]
          · rw [z_u_off (by omega), ff.1 24 (by omega), z_u_off (by omega)]
          · rw [z_u_ne (by omega), ff.2.2 150 (by omega) (by omega), z_u_ne (by omega)]
          · rw [z_u_ne (by omega), ff.2.2 150 (by omega) (by omega), z_u_ne (by omega)]
  have zero : ∀ (m k : Nat) (f : Int → Int), (k : Int) + m = 4964 → (∀ j, f j = if 19856 ≤ j ∧ j < 19856 + k then 0 else J 149 j) → Wp 7 [some (.inr (.inr (.ref 148))), some (.inl k)] [] (m_Ex g T, z_row (z_u J 148 2 0) 149 f, X) 0 0 := by
    intro m
    induction m with
    | zero =>
      intro k f hk hf
      refine w_314_7 hs ?_
      refine ⟨fun _ => ?_, fun z => by omega⟩
      have q8 : ∀ j, z_u (z_u (z_u (z_u (z_row (z_u J 148 2 0) 149 f) 149 19860 6) 148 15 0) 148 16 (-1)) 148 14 0 148 j = z_up (z_up (z_up (z_up (J 148) 2 0) 15 0) 16 (-1)) 14 0 j := fun j => by rw [z_u_row, z_u_row, z_u_row, z_u_ne (by omega), z_row_ne (by omega), z_u_row]
      have q9 : z_u (z_u (z_u (z_u (z_row (z_u J 148 2 0) 149 f) 149 19860 6) 148 15 0) 148 16 (-1)) 148 14 0 149 = z_up f 19860 6 := by rw [z_u_ne (by omega), z_u_ne (by omega), z_u_ne (by omega), z_u_row, z_row_eq]
      have qb : ∀ b, b ≠ 148 → b ≠ 149 → z_u (z_u (z_u (z_u (z_row (z_u J 148 2 0) 149 f) 149 19860 6) 148 15 0) 148 16 (-1)) 148 14 0 b = J b := fun b h1 h2 => by rw [z_u_ne h1, z_u_ne h1, z_u_ne h1, z_u_ne h2, z_row_ne h2, z_u_ne h1]
      generalize z_u (z_u (z_u (z_u (z_row (z_u J 148 2 0) 149 f) 149 19860 6) 148 15 0) 148 16 (-1)) 148 14 0 = Jz at q8 q9 qb ⊢
      refine z_cVq (c_advanceToken (t := t) (n := n) (p := 0) (by rw [qb 158 (by omega) (by omega)]; exact ht) (by rw [q8]; simp (disch := omega) only [z_up_ne]; exact hn) (by rw [q8, z_up_eq rfl]) (by omega) hT.2) ?_
      rintro J1 X1 ⟨k1, k2, k3⟩
      have r9 : J1 149 = z_up f 19860 6 := by rw [k2.2 149 (by omega), q9]
      refine main (n.toNat + 1) 0 y_D0 0 J1 X1 (by omega) (by omega) (by omega) ⟨?_, ?_, ⟨?_, ?_⟩, k1⟩ (fun j h1 h2 => ?_) y_Db0 k3 ⟨fun j hj => ?_, fun j hj => ?_, fun b h1 h2 => ?_⟩ rfl
      · rw [k2.2 158 (by omega), qb 158 (by omega) (by omega)]; exact ht
      · rw [k2.1 13 (by omega) (by omega) (by omega), q8]; simp (disch := omega) only [z_up_ne]; exact hn
      · rw [k2.1 15 (by omega) (by omega) (by omega), q8, z_up_ne (by omega), z_up_ne (by omega), z_up_eq rfl]
      · rw [k2.1 16 (by omega) (by omega) (by omega), q8, z_up_ne (by omega), z_up_eq rfl]
      · rw [r9]
        unfold y_D0
        by_cases h4 : j = 4
        · rw [z_up_eq (by omega), z_up_eq h4]
        · rw [z_up_ne (by omega), z_up_ne h4, hf, if_pos (by omega)]
      · rw [k2.1 j (by omega) (by omega) (by omega), q8, z_u_row, z_up_ne (by omega), z_up_ne (by omega), z_up_ne (by omega)]
      · rw [r9, z_up_ne (by omega), hf, if_neg (by omega), z_u_ne (by omega)]
      · rw [k2.2 b h1, qb b h1 h2, z_u_ne h1]
    | succ m ih =>
      intro k f hk hf
      refine w_314_7 hs ?_
      simp only [z_u_zrow]
      refine ⟨fun c => by omega, fun c => ⟨by omega, ih (k + 1) _ (by omega) (fun j => ?_)⟩⟩
      by_cases hj : j = 19856 + k
      · rw [z_up_eq hj, if_pos (by omega)]
      · rw [z_up_ne hj, hf j]
        by_cases h9 : 19856 ≤ j ∧ j < 19856 + k
        · rw [if_pos h9, if_pos (by omega)]
        · rw [if_neg h9, if_neg (by omega)]
  refine w_314_0 hs ?_
  have := zero 4964 0 (J 149) (by omega) (fun j => by rw [if_neg (by omega)])
  rw [show (J 149) = (z_u J 148 2 0) 149 from by rw [z_u_ne (by omega)], z_row_self] at this
  exact this
end R26
